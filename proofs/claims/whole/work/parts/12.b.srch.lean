theorem upd_ne {f : Nat → Int32} {k j : Nat} {v : Int32} (h : j ≠ k) : upd f k v j = f j := by unfold upd; rw [if_neg h]
theorem upd_eq {f : Nat → Int32} {k : Nat} {v : Int32} : upd f k v k = v := by unfold upd; rw [if_pos rfl]
/-- the rows that a rule has made -/
def rowsB (ss : List Row) (r k f : Nat) : Prop := (r = 9 → ∃ gi g, hasRow ss gi (4, sR ss (sL ss f), sR ss f, 0, 0) ∧ hasRow ss g (4, sL ss (sL ss f), gi, 0, 0)) ∧ (r = 10 → (∃ g, hasRow ss g (4, sL ss (sL ss f), sR ss f, 0, 0)) ∧ ∃ h, hasRow ss h (4, sR ss (sL ss f), sR ss f, 0, 0)) ∧ (r = 13 ∧ k = 1 → ∃ g, hasRow ss g (4, sR ss (sL ss f), sR ss f, 0, 0))
theorem par_eq {ss ss2 y : List Row} (h : ssOK ss) (e : ss2 = ss ++ y) {f : Nat} (hf : f ≤ ss.length) (h4 : 2 ≤ sSort ss f) : sL ss2 f = sL ss f ∧ sR ss2 f = sR ss f ∧ sL ss2 (sL ss f) = sL ss (sL ss f) ∧ sR ss2 (sL ss f) = sR ss (sL ss f) ∧ sSort ss2 (sL ss f) = sSort ss (sL ss f) := by
  have hl := sL_le h h4
  subst e
  exact ⟨(st_app hf).2.1, (st_app hf).2.2, (st_app hl).2.1, (st_app hl).2.2, (st_app hl).1⟩
theorem rowsB_app {ss : List Row} (y : List Row) (h : ssOK ss) {r k f : Nat} (hf : f ≤ ss.length) (h4 : (r = 9 ∨ r = 10 ∨ r = 13) → sSort ss f = 4) (q : rowsB ss r k f) : rowsB (ss ++ y) r k f := by
  refine ⟨fun c => ?_, fun c => ?_, fun c => ?_⟩
  · obtain ⟨p1, p2, p3, p4, -⟩ := par_eq (y := y) h rfl hf (by rw [h4 (by omega)]; decide)
    rw [p1, p2, p3, p4]
    obtain ⟨gi, g, a, b⟩ := q.1 c
    exact ⟨gi, g, a.app, b.app⟩
  · obtain ⟨p1, p2, p3, p4, -⟩ := par_eq (y := y) h rfl hf (by rw [h4 (by omega)]; decide)
    rw [p1, p2, p3, p4]
    obtain ⟨⟨g, a⟩, ⟨g2, b⟩⟩ := q.2.1 c
    exact ⟨⟨g, a.app⟩, ⟨g2, b.app⟩⟩
  · obtain ⟨p1, p2, p3, p4, -⟩ := par_eq (y := y) h rfl hf (by rw [h4 (by omega)]; decide)
    rw [p1, p2, p4]
    obtain ⟨g, a⟩ := q.2.2 c
    exact ⟨g, a.app⟩
theorem brg_ok {ss : List Row} (h : ssOK ss) {Γ : Nat → Bool} {goal r f k : Nat} (hΓ : ∀ y, Γ y = true → 1 ≤ y ∧ y ≤ ss.length) (hw : wyOK ss Γ goal r f) {o : Option (Nat × Nat)} {ss1 : List Row} (hq : brg ss r k f = (o, ss1)) : (∃ y, ss1 = ss ++ y) ∧ ssOK ss1 ∧ ∀ q, o = some q → q.1 ≤ ss1.length ∧ q.2 ≤ ss1.length ∧ rowsB ss1 r k f := by
  unfold brg at hq
  by_cases c9 : r = 9
  · rw [if_pos c9] at hq
    have hf := hΓ f (wy_G hw (by omega))
    have hs4 : sSort ss f = 4 := by unfold wyOK at hw; omega
    have hs2 : sSort ss (sL ss f) = 2 := by unfold wyOK at hw; omega
    obtain ⟨hl, hr⟩ := parts_of h hf (by omega)
    obtain ⟨hc, hd⟩ := parts_of h hl (by omega)
    obtain ⟨⟨y1, e1⟩, ok1, v1⟩ := imp_ok h hd hr
    cases q1 : impS ss (sR ss (sL ss f)) (sR ss f) with
    | none => simp only [q1] at hq; cases hq; exact ⟨⟨y1, e1⟩, ok1, fun q z => by cases z⟩
    | some i =>
      simp only [q1] at hq
      have hi := v1 i q1
      have hlen : ss.length ≤ (impT ss (sR ss (sL ss f)) (sR ss f)).length := by rw [e1]; simp
      obtain ⟨⟨y2, e2⟩, ok2, v2⟩ := imp_ok ok1 (a := sL ss (sL ss f)) (b := i) ⟨hc.1, by omega⟩ ⟨hi.1, hi.2.1⟩
      have e3 : impT (impT ss (sR ss (sL ss f)) (sR ss f)) (sL ss (sL ss f)) i = ss ++ (y1 ++ y2) := by rw [e2, e1, List.append_assoc]
      cases q2 : impS (impT ss (sR ss (sL ss f)) (sR ss f)) (sL ss (sL ss f)) i with
      | none => simp only [q2] at hq; cases hq; exact ⟨⟨_, e3⟩, ok2, fun q z => by cases z⟩
      | some g =>
        simp only [q2] at hq
        cases hq
        refine ⟨⟨_, e3⟩, ok2, fun q z => ?_⟩
        cases z
        obtain ⟨p1, p2, p3, p4, -⟩ := par_eq h e3 hf.2 (by omega)
        refine ⟨(v2 g q2).2.1, Nat.zero_le _, fun _ => ?_, fun c => absurd (c9.symm.trans c) (by decide), fun c => absurd (c9.symm.trans c.1) (by decide)⟩
        rw [p1, p2, p3, p4]
        exact ⟨i, g, by rw [e2]; exact hi.app, v2 g q2⟩
  rw [if_neg c9] at hq
  by_cases c10 : r = 10
  · rw [if_pos c10] at hq
    have hf := hΓ f (wy_G hw (by omega))
    have hs4 : sSort ss f = 4 := by unfold wyOK at hw; omega
    have hs2 : sSort ss (sL ss f) = 3 := by unfold wyOK at hw; omega
    obtain ⟨hl, hr⟩ := parts_of h hf (by omega)
    obtain ⟨hc, hd⟩ := parts_of h hl (by omega)
    obtain ⟨⟨y1, e1⟩, ok1, v1⟩ := imp_ok h hc hr
    cases q1 : impS ss (sL ss (sL ss f)) (sR ss f) with
    | none => simp only [q1] at hq; cases hq; exact ⟨⟨y1, e1⟩, ok1, fun q z => by cases z⟩
    | some g =>
      simp only [q1] at hq
      have hi := v1 g q1
      have hlen : ss.length ≤ (impT ss (sL ss (sL ss f)) (sR ss f)).length := by rw [e1]; simp
      obtain ⟨⟨y2, e2⟩, ok2, v2⟩ := imp_ok ok1 (a := sR ss (sL ss f)) (b := sR ss f) ⟨hd.1, by omega⟩ ⟨hr.1, by omega⟩
      have e3 : impT (impT ss (sL ss (sL ss f)) (sR ss f)) (sR ss (sL ss f)) (sR ss f) = ss ++ (y1 ++ y2) := by rw [e2, e1, List.append_assoc]
      cases q2 : impS (impT ss (sL ss (sL ss f)) (sR ss f)) (sR ss (sL ss f)) (sR ss f) with
      | none => simp only [q2] at hq; cases hq; exact ⟨⟨_, e3⟩, ok2, fun q z => by cases z⟩
      | some g2 =>
        simp only [q2] at hq
        cases hq
        refine ⟨⟨_, e3⟩, ok2, fun q z => ?_⟩
        cases z
        obtain ⟨p1, p2, p3, p4, -⟩ := par_eq h e3 hf.2 (by omega)
        have hg1 : hasRow (impT (impT ss (sL ss (sL ss f)) (sR ss f)) (sR ss (sL ss f)) (sR ss f)) g (4, sL ss (sL ss f), sR ss f, 0, 0) := by rw [e2]; exact hi.app
        refine ⟨hg1.2.1, (v2 g2 q2).2.1, fun c => absurd c c9, fun _ => ?_, fun c => absurd (c10.symm.trans c.1) (by decide)⟩
        rw [p1, p2, p3, p4]
        exact ⟨⟨g, hg1⟩, ⟨g2, v2 g2 q2⟩⟩
  rw [if_neg c10] at hq
  by_cases c13 : r = 13 ∧ k = 1
  · rw [if_pos c13] at hq
    have hf := hΓ f (wy_G hw (by omega))
    have hs4 : sSort ss f = 4 := by unfold wyOK at hw; omega
    have hs2 : sSort ss (sL ss f) = 4 := by unfold wyOK at hw; omega
    obtain ⟨hl, hr⟩ := parts_of h hf (by omega)
    obtain ⟨hc, hd⟩ := parts_of h hl (by omega)
    obtain ⟨⟨y1, e1⟩, ok1, v1⟩ := imp_ok h hd hr
    cases q1 : impS ss (sR ss (sL ss f)) (sR ss f) with
    | none => simp only [q1] at hq; cases hq; exact ⟨⟨y1, e1⟩, ok1, fun q z => by cases z⟩
    | some g =>
      simp only [q1] at hq
      cases hq
      refine ⟨⟨_, e1⟩, ok1, fun q z => ?_⟩
      cases z
      obtain ⟨p1, p2, p3, p4, -⟩ := par_eq h e1 hf.2 (by omega)
      refine ⟨(v1 g q1).2.1, Nat.zero_le _, fun c => absurd c c9, fun c => absurd c c10, fun _ => ?_⟩
      rw [p1, p2, p4]
      exact ⟨g, v1 g q1⟩
  rw [if_neg c13] at hq
  cases hq
  exact ⟨⟨[], by simp⟩, h, fun q z => by cases z; exact ⟨Nat.zero_le _, Nat.zero_le _, fun c => absurd c c9, fun c => absurd c c10, fun c => absurd c c13⟩⟩
theorem gAdd_b {Γ : Nat → Bool} {x L : Nat} (h : ∀ y, Γ y = true → 1 ≤ y ∧ y ≤ L) (hx : x ≤ L) : ∀ y, gAdd Γ x y = true → 1 ≤ y ∧ y ≤ L := by
  intro y hy
  unfold gAdd at hy
  by_cases c : y = x ∧ 1 ≤ x
  · omega
  · rw [if_neg c] at hy; exact h y hy
theorem gDel_b {Γ : Nat → Bool} {x L : Nat} (h : ∀ y, Γ y = true → 1 ≤ y ∧ y ≤ L) : ∀ y, gDel Γ x y = true → 1 ≤ y ∧ y ≤ L := by
  intro y hy
  unfold gDel at hy
  by_cases c : y = x ∧ 1 ≤ x
  · rw [if_pos c] at hy; cases hy
  · rw [if_neg c] at hy; exact h y hy
theorem gIf_b {Γ : Nat → Bool} {x L : Nat} {b : Bool} (h : ∀ y, Γ y = true → 1 ≤ y ∧ y ≤ L) (hx : b = true → x ≤ L) : ∀ y, gIf b Γ x y = true → 1 ≤ y ∧ y ≤ L := by
  unfold gIf
  cases b
  · exact h
  · exact gAdd_b h (hx rfl)
theorem sR_le2 {ss : List Row} (h : ssOK ss) {k : Nat} (h2 : 2 ≤ sSort ss k) : sR ss k ≤ ss.length := by
  by_cases c : 1 ≤ k ∧ k ≤ ss.length
  · exact (parts_of h c h2).2.2
  · have e : kAt ss k = (0, 0, 0, 0, 0) := by
      by_cases h0 : k = 0
      · rw [h0]; rfl
      · exact kAt_out (by omega)
    unfold sR; rw [e]; exact Nat.zero_le _
theorem wyOK_app {ss : List Row} (y : List Row) (hk : ssOK ss) {Γ : Nat → Bool} {goal r f : Nat} (hf : f ≤ ss.length) (hg : goal ≤ ss.length) (h : wyOK ss Γ goal r f) : wyOK (ss ++ y) Γ goal r f := by
  have e1 := (st_app (x := y) hf).1
  have e2 := (st_app (x := y) hg).1
  by_cases c : 2 ≤ sSort ss f
  · have hl := sL_le hk c
    unfold wyOK at *
    rw [e1, (st_app hf).2.1, (st_app hl).1, e2]; exact h
  · unfold wyOK at *
    rw [e1, e2]
    rcases h with h | h | h | h | h | h | h | h | h | h | h | h
    · exact Or.inl h
    · exact Or.inr (Or.inl h)
    · exact Or.inr (Or.inr (Or.inl h))
    · exact Or.inr (Or.inr (Or.inr (Or.inl h)))
    · exfalso; omega
    · exfalso; omega
    · exfalso; omega
    · exfalso; omega
    · exfalso; omega
    · exfalso; omega
    · exact Or.inr (Or.inr (Or.inr (Or.inr (Or.inr (Or.inr (Or.inr (Or.inr (Or.inr (Or.inr (Or.inl h))))))))))
    · exfalso; omega
theorem wy_f {ss : List Row} {Γ : Nat → Bool} {goal r f : Nat} (hΓ : ∀ y, Γ y = true → 1 ≤ y ∧ y ≤ ss.length) (h : wyOK ss Γ goal r f) : f ≤ ss.length := by
  by_cases c : r = 2 ∨ (5 ≤ r ∧ r ≤ 10) ∨ r = 13
  · exact (hΓ f (wy_G h c)).2
  · rw [wy_0 h c]; exact Nat.zero_le _
theorem pG_b {ss : List Row} (h : ssOK ss) {Γ : Nat → Bool} {goal r f k : Nat} (hΓ : ∀ y, Γ y = true → 1 ≤ y ∧ y ≤ ss.length) (hg : 1 ≤ goal ∧ goal ≤ ss.length) (hw : wyOK ss Γ goal r f) : 1 ≤ pG ss r k f goal ∧ pG ss r k f goal ≤ ss.length := by
  unfold pG
  by_cases c3 : r = 3
  · have := parts_of h hg (by unfold wyOK at hw; omega)
    rw [if_pos c3]
    split
    · exact this.1
    · exact this.2
  rw [if_neg c3]
  by_cases c11 : r = 11
  · have := parts_of h hg (by unfold wyOK at hw; omega)
    rw [if_pos c11]; exact this.1
  rw [if_neg c11]
  by_cases c4 : r = 4 ∨ r = 12
  · have := parts_of h hg (by unfold wyOK at hw; omega)
    rw [if_pos c4]; exact this.2
  rw [if_neg c4]
  by_cases c13 : r = 13
  · have hf := hΓ f (wy_G hw (by omega))
    have := parts_of h hf (by unfold wyOK at hw; omega)
    rw [if_pos c13]
    split
    · exact this.1
    · exact hg
  rw [if_neg c13]; exact hg
def SxE (fuel : Nat) (x x1 : SX) : Prop := (∃ y, x1.1 = x.1 ++ y) ∧ ssOK x1.1 ∧ x.2.1 ≤ x1.2.1 ∧ x1.2.1 ≤ fuel
theorem SxE.tr {fuel : Nat} {x x1 x2 : SX} (h1 : SxE fuel x x1) (h2 : SxE fuel x1 x2) : SxE fuel x x2 := by
  obtain ⟨⟨y1, e1⟩, a1, b1, c1⟩ := h1
  obtain ⟨⟨y2, e2⟩, a2, b2, c2⟩ := h2
  exact ⟨⟨y1 ++ y2, by rw [e2, e1, List.append_assoc]⟩, a2, by omega, c2⟩
theorem SxE.len {fuel : Nat} {x x1 : SX} (h : SxE fuel x x1) : x.1.length ≤ x1.1.length := by
  obtain ⟨⟨y1, e1⟩, -⟩ := h
  rw [e1]; simp
def LKq (fuel h goal : Nat) (x : SX) (p : Nat × SX) : Prop := SxE fuel x p.2 ∧ (∀ j, j < 4 * x.2.1 + 4 → p.2.2.2 j = x.2.2 j) ∧ (p.1 = 0 ∨ p.1 = 3001 ∨ p.1 = 3002 ∨ (p.1 = x.2.1 + 1 ∧ wfD p.2.1 p.2.2.2 h x.2.1 p.2.2.1 p.1 goal))
def LKok (fuel h : Nat) (LK : (Nat → Bool) → Nat → SX → Nat × SX) : Prop := ∀ (Γ : Nat → Bool) (goal : Nat) (x : SX), ssOK x.1 → (∀ y, Γ y = true → 1 ≤ y ∧ y ≤ x.1.length) → (1 ≤ goal ∧ goal ≤ x.1.length) → x.2.1 ≤ fuel → LKq fuel h goal x (LK Γ goal x)
theorem gPar_b {ss : List Row} (h : ssOK ss) {Γ Γ2 : Nat → Bool} {goal r f k g1 g2 : Nat} (hΓ : ∀ y, Γ2 y = true → 1 ≤ y ∧ y ≤ ss.length) (hw : wyOK ss Γ goal r f) (h1 : g1 ≤ ss.length) (h2 : g2 ≤ ss.length) : ∀ y, gPar ss r k (if r = 4 then goal else f) (gAdd (gAdd (gDel Γ2 f) g1) g2) y = true → 1 ≤ y ∧ y ≤ ss.length := by
  unfold gPar
  refine gIf_b (gIf_b (gAdd_b (gAdd_b (gDel_b hΓ) h1) h2) (fun q => ?_)) (fun q => ?_)
  · have q := of_decide_eq_true q
    by_cases c : r = 4
    · rw [if_pos c]; exact sL_le h (by unfold wyOK at hw; omega)
    · rw [if_neg c]; exact sL_le h (by unfold wyOK at hw; omega)
  · have q := of_decide_eq_true q
    by_cases c : r = 4
    · omega
    · rw [if_neg c]; exact sR_le2 h (by unfold wyOK at hw; omega)
theorem prm_ok {fuel h : Nat} {LK : (Nat → Bool) → Nat → SX → Nat × SX} (hLK : LKok fuel h LK) {Γ : Nat → Bool} {goal r f k : Nat} {x : SX} (hS : ssOK x.1) (hΓ : ∀ y, Γ y = true → 1 ≤ y ∧ y ≤ x.1.length) (hg : 1 ≤ goal ∧ goal ≤ x.1.length) (hsp : x.2.1 ≤ fuel) (hw : wyOK x.1 Γ goal r f) :
    SxE fuel x (prm LK Γ r k f goal x).2 ∧ (∀ j, j < 4 * x.2.1 + 4 → (prm LK Γ r k f goal x).2.2.2 j = x.2.2 j) ∧ ((prm LK Γ r k f goal x).1 = 0 ∨ (prm LK Γ r k f goal x).1 = 3001 ∨ (prm LK Γ r k f goal x).1 = 3002 ∨ ((prm LK Γ r k f goal x).1 = x.2.1 + 1 ∧ wfD (prm LK Γ r k f goal x).2.1 (prm LK Γ r k f goal x).2.2.2 h x.2.1 (prm LK Γ r k f goal x).2.2.1 (prm LK Γ r k f goal x).1 (pG x.1 r k f goal) ∧ rowsB (prm LK Γ r k f goal x).2.1 r k f)) := by
  have hfl := wy_f hΓ hw
  unfold prm
  obtain ⟨o, ss1, hq⟩ : ∃ o ss1, brg x.1 r k f = (o, ss1) := ⟨_, _, rfl⟩
  obtain ⟨⟨y1, e1⟩, ok1, v1⟩ := brg_ok hS hΓ hw hq
  rw [hq]
  cases o with
  | none => exact ⟨⟨⟨y1, e1⟩, ok1, Nat.le_refl _, hsp⟩, fun _ _ => rfl, Or.inr (Or.inl rfl)⟩
  | some q =>
    obtain ⟨h1, h2, h3⟩ := v1 q rfl
    have hlen : x.1.length ≤ ss1.length := by rw [e1]; simp
    have hw1 : wyOK ss1 Γ goal r f := by rw [e1]; exact wyOK_app y1 hS hfl hg.2 hw
    have hΓ1 : ∀ y, Γ y = true → 1 ≤ y ∧ y ≤ ss1.length := fun y q => by have := hΓ y q; omega
    have hg1 : 1 ≤ goal ∧ goal ≤ ss1.length := by omega
    have hp : pG ss1 r k f goal = pG x.1 r k f goal := by rw [e1]; exact pG_app y1 hg.2 (fun _ => hfl)
    obtain ⟨a, b, c⟩ := hLK (gPar ss1 r k (if r = 4 then goal else f) (gAdd (gAdd (gDel Γ f) q.1) q.2)) (pG ss1 r k f goal) (ss1, x.2) ok1 (gPar_b ok1 hΓ1 hw1 h1 h2) (pG_b ok1 hΓ1 hg1 hw1) hsp
    refine ⟨SxE.tr (x1 := (ss1, x.2)) ⟨⟨y1, e1⟩, ok1, Nat.le_refl _, hsp⟩ a, b, ?_⟩
    rcases c with c | c | c | ⟨c1, c2⟩
    · exact Or.inl c
    · exact Or.inr (Or.inl c)
    · exact Or.inr (Or.inr (Or.inl c))
    · refine Or.inr (Or.inr (Or.inr ⟨c1, ?_, ?_⟩))
      · rw [← hp]; exact c2
      · obtain ⟨⟨y2, e2⟩, -⟩ := a
        show rowsB (LK _ _ (ss1, x.2)).2.1 r k f
        rw [e2]
        exact rowsB_app y2 ok1 (by show f ≤ ss1.length; omega) (fun z => by unfold wyOK at hw1; show sSort ss1 f = 4; omega) h3
theorem side_mk {ss : List Row} {Γ : Nat → Bool} {goal r f : Nat} (hΓ : ∀ y, Γ y = true → 1 ≤ y ∧ y ≤ ss.length) (hw : wyOK ss Γ goal r f) (hr : rowsB ss r 1 f) : side ss r f goal := by
  have hw2 := hw
  unfold wyOK at hw2
  refine ⟨wy_r hw, fun c => hΓ f (wy_G hw c), fun c => by omega, fun c => by omega, fun c => by omega, fun c => by omega, fun c => by omega, fun c => by omega, fun c => ⟨by omega, hr.1 c⟩, fun c => ⟨by omega, hr.2.1 c⟩, fun c => by omega, fun c => ⟨by omega, hr.2.2 ⟨c, rfl⟩⟩⟩

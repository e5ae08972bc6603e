def chs (ns : List Row) (j : Nat) (Q : Nat → Prop) : Prop := (nA ns j = 0 ∨ Q (nA ns j)) ∧ (nB ns j = 0 ∨ Q (nB ns j)) ∧ (nC ns j = 0 ∨ Q (nC ns j))
def MkI (ns : List Row) (c : Nat → Nat → Int32) (x i : Nat) : Prop := (∀ j, 1 ≤ j → j ≤ x → c 45 j = 0 ∨ c 45 j = 1) ∧ c 45 x = 1 ∧ (∀ j, i < j → j ≤ x → c 45 j = 1 → chs ns j (fun a => c 45 a = 1)) ∧ ∀ P : Nat → Prop, P x → (∀ j, 1 ≤ j → j ≤ x → P j → chs ns j P) → ∀ j, 1 ≤ j → j ≤ x → c 45 j = 1 → P j
theorem nI_dec1 (k : Nat) : nI (k + 1) + (-1) = nI k := by
  rw [nI_succ, Int32.add_assoc, show (1 : Int32) + (-1) = 0 from rfl, Int32.add_zero]
theorem cu_step {c : Nat → Nat → Int32} {r j : Nat} {x : Int32} {v : Nat → Int32} (hz : ∀ i, 1 ≤ i → i < j → c r i = v i) (hv : x = v j) : ∀ i, 1 ≤ i → i < j + 1 → cU c r j x r i = v i := by
  intro i a b
  by_cases q : i = j
  · rw [q, cU_s, hv]
  · rw [cU_o (by omega)]; exact hz i a (by omega)
theorem mk_start {ns : List Row} {c : Nat → Nat → Int32} {x : Nat} (hx : 1 ≤ x) (h : ∀ i, 1 ≤ i → i < x + 1 → c 45 i = if i = x then 1 else 0) : MkI ns c x x := by
  refine ⟨fun j a b => ?_, ?_, fun j a b => by omega, fun P hP _ j a b e => ?_⟩
  · rw [h j a (by omega)]; split
    · exact Or.inr rfl
    · exact Or.inl rfl
  · rw [h x hx (by omega), if_pos rfl]
  · rw [h j a (by omega)] at e
    by_cases q : j = x
    · rw [q]; exact hP
    · rw [if_neg q] at e; exact absurd e (by decide)
theorem mk_skip {ns : List Row} {c : Nat → Nat → Int32} {x i : Nat} (h : MkI ns c x (i + 1)) (h0 : c 45 (i + 1) = 0) : MkI ns c x i := by
  obtain ⟨h1, h2, h3, h4⟩ := h
  refine ⟨h1, h2, fun j a b e => ?_, h4⟩
  by_cases q : j = i + 1
  · rw [q, h0] at e; exact absurd e (by decide)
  · exact h3 j (by omega) b e
def m3 (c : Nat → Nat → Int32) (a b d : Nat) : Nat → Nat → Int32 := cU (cU (cU c 45 a 1) 45 b 1) 45 d 1
theorem m3_at {c : Nat → Nat → Int32} {a b d j : Nat} : m3 c a b d 45 j = if j = a ∨ j = b ∨ j = d then 1 else c 45 j := by
  unfold m3
  by_cases q3 : j = d
  · rw [q3, cU_s, if_pos (Or.inr (Or.inr rfl))]
  rw [cU_o (by omega)]
  by_cases q2 : j = b
  · rw [q2, cU_s, if_pos (Or.inr (Or.inl rfl))]
  rw [cU_o (by omega)]
  by_cases q1 : j = a
  · rw [q1, cU_s, if_pos (Or.inl rfl)]
  rw [cU_o (by omega), if_neg (by omega)]
theorem mk_do {ns : List Row} {c : Nat → Nat → Int32} {x i : Nat} (h : MkI ns c x (i + 1)) (hi : i + 1 ≤ x) (h1 : c 45 (i + 1) = 1) (hl : nA ns (i + 1) < i + 1 ∧ nB ns (i + 1) < i + 1 ∧ nC ns (i + 1) < i + 1) : MkI ns (m3 c (nA ns (i + 1)) (nB ns (i + 1)) (nC ns (i + 1))) x i := by
  obtain ⟨k1, k2, k3, k4⟩ := h
  have mono : ∀ a, c 45 a = 1 → m3 c (nA ns (i + 1)) (nB ns (i + 1)) (nC ns (i + 1)) 45 a = 1 := fun a q => by
    rw [m3_at]; split
    · rfl
    · exact q
  refine ⟨fun j a b => ?_, mono x k2, fun j a b e => ?_, fun P hP hcl j a b e => ?_⟩
  · rw [m3_at]; split
    · exact Or.inr rfl
    · exact k1 j a b
  · by_cases q : j = i + 1
    · subst q
      exact ⟨Or.inr (by show m3 c _ _ _ 45 _ = 1; rw [m3_at, if_pos (Or.inl rfl)]), Or.inr (by show m3 c _ _ _ 45 _ = 1; rw [m3_at, if_pos (Or.inr (Or.inl rfl))]), Or.inr (by show m3 c _ _ _ 45 _ = 1; rw [m3_at, if_pos (Or.inr (Or.inr rfl))])⟩
    · rw [m3_at, if_neg (by omega)] at e
      obtain ⟨z1, z2, z3⟩ := k3 j (by omega) b e
      exact ⟨z1.imp id (mono _), z2.imp id (mono _), z3.imp id (mono _)⟩
  · have hp := k4 P hP hcl (i + 1) (by omega) hi h1
    obtain ⟨z1, z2, z3⟩ := hcl (i + 1) (by omega) hi hp
    rw [m3_at] at e
    by_cases q1 : j = nA ns (i + 1)
    · rw [q1]; exact z1.resolve_left (by omega)
    by_cases q2 : j = nB ns (i + 1)
    · rw [q2]; exact z2.resolve_left (by omega)
    by_cases q3 : j = nC ns (i + 1)
    · rw [q3]; exact z3.resolve_left (by omega)
    rw [if_neg (by omega)] at e
    exact k4 P hP hcl j a b e
theorem mk_0 {ns : List Row} {c : Nat → Nat → Int32} {x : Nat} (hx : 1 ≤ x) (h : MkI ns c x 0) (v : Int32) : MkI ns (cU c 45 0 v) x 0 := by
  have e : ∀ j, 1 ≤ j → cU c 45 0 v 45 j = c 45 j := fun j q => cU_o (by omega)
  obtain ⟨h1, h2, h3, h4⟩ := h
  refine ⟨fun j a b => by rw [e j a]; exact h1 j a b, by rw [e x hx]; exact h2, fun j a b q => ?_, fun P hP hcl j a b q => h4 P hP hcl j a b (by rw [← e j a]; exact q)⟩
  obtain ⟨z1, z2, z3⟩ := h3 j a b (by rw [← e j a]; exact q)
  refine ⟨?_, ?_, ?_⟩
  · by_cases w : nA ns j = 0
    · exact Or.inl w
    · exact Or.inr ((e _ (by omega)).trans (z1.resolve_left w))
  · by_cases w : nB ns j = 0
    · exact Or.inl w
    · exact Or.inr ((e _ (by omega)).trans (z2.resolve_left w))
  · by_cases w : nC ns j = 0
    · exact Or.inl w
    · exact Or.inr ((e _ (by omega)).trans (z3.resolve_left w))
theorem mk_46 {ns : List Row} {c : Nat → Nat → Int32} {x t : Nat} {v : Int32} (h : MkI ns c x 0) : MkI ns (cU c 46 t v) x 0 := by
  have e : cU c 46 t v 45 = c 45 := cU_r (by decide)
  unfold MkI
  rw [e]
  exact h
theorem psU_all {W : Nat → Bool} {ns : List Row} {k : Nat} : ∀ m, psU W ns k m = true ↔ ∀ i, i < m → W (rowCol (kAt ns k) (2 + i)) = true
  | 0 => ⟨fun _ i h => by omega, fun _ => rfl⟩
  | m + 1 => by
    rw [psU, Bool.and_eq_true, psU_all m]
    refine ⟨fun h i hi => ?_, fun h => ⟨fun i hi => h i (by omega), h m (by omega)⟩⟩
    by_cases q : i = m
    · rw [q]; exact h.2
    · exact h.1 i (by omega)
theorem psU_chs {W : Nat → Bool} {ss ns : List Row} (hn : nsOK ss ns) {k : Nat} (hk : 1 ≤ k ∧ k ≤ ns.length) : psU W ns k (nP ns k) = true ↔ chs ns k (fun a => W a = true) := by
  rw [psU_all]
  obtain ⟨h1, h2, h3, h4, h5, h6⟩ := hn.2.1 k hk.1 hk.2
  have e2 : rowCol (kAt ns k) (2 + 0) = nA ns k := rfl
  have e3 : rowCol (kAt ns k) (2 + 1) = nB ns k := rfl
  have e4 : rowCol (kAt ns k) (2 + 2) = nC ns k := rfl
  have hp3 := nP_le hn hk
  have h4 : if 1 ≤ nP ns k then 1 ≤ nA ns k ∧ nA ns k < k else nA ns k = 0 := h4
  have h5 : if 2 ≤ nP ns k then 1 ≤ nB ns k ∧ nB ns k < k else nB ns k = 0 := h5
  have h6 : if 3 ≤ nP ns k then 1 ≤ nC ns k ∧ nC ns k < k else nC ns k = 0 := h6
  refine ⟨fun h => ⟨?_, ?_, ?_⟩, fun ⟨z1, z2, z3⟩ i hi => ?_⟩
  · by_cases q : 1 ≤ nP ns k
    · exact Or.inr (by show W _ = true; rw [← e2]; exact h 0 (by omega))
    · rw [if_neg q] at h4; exact Or.inl h4
  · by_cases q : 2 ≤ nP ns k
    · exact Or.inr (by show W _ = true; rw [← e3]; exact h 1 (by omega))
    · rw [if_neg q] at h5; exact Or.inl h5
  · by_cases q : 3 ≤ nP ns k
    · exact Or.inr (by show W _ = true; rw [← e4]; exact h 2 (by omega))
    · rw [if_neg q] at h6; exact Or.inl h6
  · have hz := partN hn hk hi
    have : i = 0 ∨ i = 1 ∨ i = 2 := by omega
    rcases this with rfl | rfl | rfl
    · rw [e2] at hz ⊢; exact z1.resolve_left (by omega)
    · rw [e3] at hz ⊢; exact z2.resolve_left (by omega)
    · rw [e4] at hz ⊢; exact z3.resolve_left (by omega)
theorem well_fit {ss ns : List Row} (hn : nsOK ss ns) {c : Nat → Nat → Int32} {x : Nat} (hx : 1 ≤ x ∧ x ≤ ns.length) (h : MkI ns c x 0) (hw : wellB ss ns x = true) : ∀ i, 1 ≤ i → i ≤ x → c 45 i = 1 → fitN ss ns i = true := by
  intro i a b e
  have key : wellB ss ns i = true := h.2.2.2 (fun j => wellB ss ns j = true) hw (fun j a b q => by
    rw [wellB_eq hn ⟨a, by omega⟩, Bool.and_eq_true] at q
    exact (psU_chs hn ⟨a, by omega⟩).mp q.1) i a b e
  rw [wellB_eq hn ⟨a, by omega⟩, Bool.and_eq_true] at key
  exact key.2
theorem fit_well {ss ns : List Row} (hn : nsOK ss ns) {c : Nat → Nat → Int32} {x : Nat} (hx : 1 ≤ x ∧ x ≤ ns.length) (h : MkI ns c x 0) (hf : ∀ i, 1 ≤ i → i ≤ x → c 45 i = 1 → fitN ss ns i = true) : wellB ss ns x = true := by
  have key : ∀ m i, i ≤ m → 1 ≤ i → i ≤ x → c 45 i = 1 → wellB ss ns i = true := by
    intro m
    induction m with
    | zero => intro i a b; omega
    | succ m ih =>
      intro i a b d e
      rw [wellB_eq hn ⟨b, by omega⟩, Bool.and_eq_true]
      obtain ⟨p1, p2, p3, p4, p5⟩ := part_lt hn (k := i) ⟨b, by omega⟩
      obtain ⟨z1, z2, z3⟩ := h.2.2.1 i (by omega) d e
      refine ⟨(psU_chs hn ⟨b, by omega⟩).mpr ⟨?_, ?_, ?_⟩, hf i b d e⟩
      · by_cases w : nA ns i = 0
        · exact Or.inl w
        · exact Or.inr (ih _ (by omega) (by omega) (by omega) (z1.resolve_left w))
      · by_cases w : nB ns i = 0
        · exact Or.inl w
        · exact Or.inr (ih _ (by omega) (by omega) (by omega) (z2.resolve_left w))
      · by_cases w : nC ns i = 0
        · exact Or.inl w
        · exact Or.inr (ih _ (by omega) (by omega) (by omega) (z3.resolve_left w))
  exact key x x (Nat.le_refl _) hx.1 (Nat.le_refl _) h.2.1
theorem rstB_0 (ss ns : List Row) (x : Nat) : restB ss ns 0 x = false := rfl
theorem rest_goal {ss ns : List Row} (hn : nsOK ss ns) {c : Nat → Nat → Int32} {x : Nat} (hx : 1 ≤ x ∧ x ≤ ns.length) (h : MkI ns c x 0) {y : Nat} (hr : restB ss ns x y = true) : ∃ i, (1 ≤ i ∧ i ≤ x) ∧ c 45 i = 1 ∧ nT ns i = 0 ∧ nG ns i = y := by
  have key : ∀ m i, i ≤ m → 1 ≤ i → i ≤ x → c 45 i = 1 → restB ss ns i y = true → ∃ i, (1 ≤ i ∧ i ≤ x) ∧ c 45 i = 1 ∧ nT ns i = 0 ∧ nG ns i = y := by
    intro m
    induction m with
    | zero => intro i a b; omega
    | succ m ih =>
      intro i a b d e q
      obtain ⟨p1, p2, p3, p4, p5⟩ := part_lt hn (k := i) ⟨b, by omega⟩
      obtain ⟨z1, z2, z3⟩ := h.2.2.1 i (by omega) d e
      have sub : ∀ a, (a = 0 ∨ c 45 a = 1) → a < i → restB ss ns a y = true → ∃ i, (1 ≤ i ∧ i ≤ x) ∧ c 45 i = 1 ∧ nT ns i = 0 ∧ nG ns i = y := by
        intro a h1 h2 h3
        by_cases w : a = 0
        · rw [w, rstB_0] at h3; cases h3
        · exact ih a (by omega) (by omega) (by omega) (h1.resolve_left w) h3
      rw [restB_eq hn ⟨b, by omega⟩, rE] at q
      by_cases t0 : nT ns i = 0
      · rw [if_pos t0] at q
        exact ⟨i, ⟨b, d⟩, e, t0, (of_decide_eq_true q).symm⟩
      rw [if_neg t0] at q
      by_cases t1 : nT ns i = 1
      · rw [if_pos t1, Bool.and_eq_true] at q
        exact sub _ z1 p3 q.1
      rw [if_neg t1, Bool.or_eq_true, Bool.or_eq_true, Bool.and_eq_true, Bool.and_eq_true] at q
      rcases q with (q | q) | q
      · exact sub _ z1 p3 q
      · exact sub _ z2 p4 q.1
      · exact sub _ z3 p5 q.1
  exact key x x (Nat.le_refl _) hx.1 (Nat.le_refl _) h.2.1 hr
theorem rest_in {ss ns : List Row} (hn : nsOK ss ns) : ∀ m x, x ≤ m → x ≤ ns.length → ∀ y, restB ss ns x y = true → 1 ≤ y ∧ y ≤ ss.length := by
  intro m
  induction m with
  | zero => intro x a b y q; rw [show x = 0 by omega, rstB_0] at q; cases q
  | succ m ih =>
    intro x a b y q
    by_cases w : x = 0
    · rw [w, rstB_0] at q; cases q
    obtain ⟨p1, p2, p3, p4, p5⟩ := part_lt hn (k := x) ⟨by omega, b⟩
    rw [restB_eq hn ⟨by omega, b⟩, rE] at q
    by_cases t0 : nT ns x = 0
    · rw [if_pos t0] at q
      rw [of_decide_eq_true q]; exact p2
    rw [if_neg t0] at q
    by_cases t1 : nT ns x = 1
    · rw [if_pos t1, Bool.and_eq_true] at q
      exact ih _ (by omega) (by omega) y q.1
    rw [if_neg t1, Bool.or_eq_true, Bool.or_eq_true, Bool.and_eq_true, Bool.and_eq_true] at q
    rcases q with (q | q) | q
    · exact ih _ (by omega) (by omega) y q
    · exact ih _ (by omega) (by omega) y q.1
    · exact ih _ (by omega) (by omega) y q.1
def mkPost (G : rG) (n : Nat) (ad : Nat → Nat) (en : Nat → va_E) (V : Int32) (ss ns : List Row) (us ov dp cl : Int32) (k : Nat) : Int32 → (Nat → Nat) → (Nat → va_E) → Prop := fun r ad1 en1 => mFr ad en ad1 en1 ∧ r = V ∧ ∃ c1, MdW G n ad en1 ss ns c1 us ov dp cl ∧ MkI ns c1 k 0
def mxPost (G : rG) (n : Nat) (ad : Nat → Nat) (en : Nat → va_E) (V : Int32) (ss ns : List Row) (us ov dp cl : Int32) : Int32 → (Nat → Nat) → (Nat → va_E) → Prop := fun r ad1 en1 => mFr ad en ad1 en1 ∧ r = V ∧ ∃ c1, MdW G n ad en1 ss ns c1 us ov dp cl

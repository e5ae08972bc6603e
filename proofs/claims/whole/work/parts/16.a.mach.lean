/-! THE REFERENCE'S SEARCH, as a machine of turns -/
abbrev St8 : Type := List Row × (Nat → Nat → Int32) × Int32 × Int32 × Int32 × Int32
def MdS (G : rG) (n : Nat) (ad : Nat → Nat) (en : Nat → va_E) (ns : List Row) (σ : St8) : Prop := MdW G n ad en σ.1 ns σ.2.1 σ.2.2.1 σ.2.2.2.1 σ.2.2.2.2.1 σ.2.2.2.2.2
def TSC (l : Launch) (G : rG) (n : Nat) (ad : Nat → Nat) (ns : List Row) (fu : Nat) (σ : St8) (P : St8 → Prop) : Prop := ∀ en, MdS G n ad en ns σ → ∃ post : (Nat → Nat) → (Nat → va_E) → Prop, CV l G yX8_turn uX8_turn (4) (99) (0) (0) [.ref (ad 22), .int (nI fu)] n n ad en post ∧ ∀ ad1 en1, post ad1 en1 → mFr ad en ad1 en1 ∧ ∃ σ', P σ' ∧ MdS G n ad en1 ns σ'
def runS (σ : St8) : Prop := σ.2.2.2.1 = 0 ∧ ∃ d, (1 ≤ d ∧ d ≤ 80) ∧ σ.2.2.2.2.1 = nI d
def Kst (l : Launch) (G : rG) (n : Nat) (ad : Nat → Nat) (ns : List Row) (fu : Nat) (K : St8 → Prop) : Prop := ∀ σ P, runS σ → TSC l G n ad ns fu σ P → (∀ σ', P σ' → K σ') → K σ
/-- the sequent is opened: no room, out of fuel, or entered -/
def chS (c : Nat → Nat → Int32) (u d fu : Nat) (cl : Int32) (ss : List Row) (r k f : Nat) (Γ : Nat → Bool) (goal : Nat) (σ : St8) : Prop :=
  ((brg ss r k f).1 = none ∧ ∃ c1, σ = ((brg ss r k f).2, c1, nI u, (-3), nI d, cl)) ∨ (∃ q, (brg ss r k f).1 = some q ∧ (d = 80 ∨ u = fu) ∧ ∃ c1, σ = ((brg ss r k f).2, c1, nI u, (-4), nI d, cl)) ∨
  (∃ q, (brg ss r k f).1 = some q ∧ ¬ (d = 80 ∨ u = fu) ∧ ∃ c1, σ = ((brg ss r k f).2, c1, nI (u + 1), 0, nI (d + 1), cl) ∧ kp d u c c1 ∧ NewF c1 d u (pG (brg ss r k f).2 r k f goal) (gPar (brg ss r k f).2 r k (if r = 4 then goal else f) (gAdd (gAdd (gDel Γ f) q.1) q.2)))
def CS (c : Nat → Nat → Int32) (u d fu : Nat) (cl : Int32) (ss : List Row) (Γ : Nat → Bool) (gl : Nat) (σ : St8) : Prop :=
  ((d = 80 ∨ u = fu) ∧ ∃ c1, σ = (ss, c1, nI u, (-4), nI d, cl)) ∨ (¬ (d = 80 ∨ u = fu) ∧ ∃ c1, σ = (ss, c1, nI (u + 1), 0, nI (d + 1), cl) ∧ kp d u c c1 ∧ NewF c1 d u gl Γ)
theorem chS_of {G : rG} {n : Nat} {ad : Nat → Nat} {en1 : Nat → va_E} {ns : List Row} {c : Nat → Nat → Int32} {u d fu : Nat} {cl : Int32} {ss : List Row} {r k f : Nat} {Γ : Nat → Bool} {goal : Nat} (hd : d ≤ 80) (hu : u ≤ fu) (h : ChP G n ad en1 ns c u d fu cl ss r k f Γ goal) : ∃ σ, chS c u d fu cl ss r k f Γ goal σ ∧ MdS G n ad en1 ns σ := by
  obtain ⟨h1, h2, h3⟩ := h
  cases hq : (brg ss r k f).1 with
  | none =>
    obtain ⟨c1, hc⟩ := h1 hq
    exact ⟨_, Or.inl ⟨hq, c1, rfl⟩, hc⟩
  | some q =>
    by_cases ho : d = 80 ∨ u = fu
    · obtain ⟨c1, hc⟩ := h2 q hq ho
      exact ⟨_, Or.inr (Or.inl ⟨q, hq, ho, c1, rfl⟩), hc⟩
    · obtain ⟨c1, hc, a, b⟩ := h3 q hq (by omega) (by omega)
      exact ⟨_, Or.inr (Or.inr ⟨q, hq, ho, c1, rfl, a, b⟩), hc⟩
theorem kp_up {d u D U : Nat} {c c1 : Nat → Nat → Int32} (h : kp D U c c1) (hd : d ≤ D) (hu : u ≤ U) : kp d u c c1 := fun r t a b e => h r t (fun q => by have := a q; omega) (fun q q2 => by have := b q q2; omega) (fun q q2 => by have := e q q2; omega)
theorem kp_tr {d u : Nat} {c c1 c2 : Nat → Nat → Int32} (h1 : kp d u c c1) (h2 : kp d u c1 c2) : kp d u c c2 := fun r t a b e => (h2 r t a b e).trans (h1 r t a b e)
theorem kp_rf {d u : Nat} {c : Nat → Nat → Int32} : kp d u c c := fun _ _ _ _ _ => rfl
/-- the records of a step, against the derivation -/
def recR (c : Nat → Nat → Int32) (s goal r f : Nat) : Prop := c 38 s = nI goal ∧ c 36 s = nI (if r ≤ 10 then r else 11) ∧ c 37 s = (if r ≤ 4 then nI goal else if r ≤ 10 then nI f else tW (16 * f + r))
def relD (c : Nat → Nat → Int32) (dv : Nat → Int32) : Nat → Nat → Nat → Nat → Prop
  | 0, _, _, _ => False
  | h + 1, lo, hi, s => (lo < s ∧ s ≤ hi) ∧ ∃ goal r f, dv (4 * s + 0) = nI goal ∧ dv (4 * s + 1) = nI (16 * f + r) ∧ (goal ≤ 600 ∧ f ≤ 600 ∧ 1 ≤ r ∧ r ≤ 13) ∧ recR c s goal r f ∧ (1 ≤ rPremL.getD r 0 → ∃ a, dv (4 * s + (1 + 1)) = nI a ∧ c 39 s = nI a ∧ a ≤ 3000 ∧ relD c dv h s hi a) ∧ (2 ≤ rPremL.getD r 0 → ∃ b, dv (4 * s + (1 + 2)) = nI b ∧ c 40 s = nI b ∧ b ≤ 3000 ∧ relD c dv h s hi b) ∧ (rPremL.getD r 0 < 2 → c 40 s = 0)
theorem relD_keep {c c1 : Nat → Nat → Int32} {dv dv1 : Nat → Int32} : ∀ {h lo hi s : Nat}, relD c dv h lo hi s → (∀ r t, 36 ≤ r → r ≤ 40 → lo < t → t ≤ hi → c1 r t = c r t) → (∀ j, 4 * lo + 4 ≤ j → j < 4 * hi + 4 → dv1 j = dv j) → ∀ {lo2 hi2 : Nat}, lo2 ≤ lo → hi ≤ hi2 → relD c1 dv1 h lo2 hi2 s
  | 0, _, _, _, q, _, _, _, _, _, _ => q
  | h + 1, lo, hi, s, q, hc, hv, lo2, hi2, e1, e2 => by
    obtain ⟨q1, goal, r, f, q2, q3, q4, ⟨q5, q6, q7⟩, q8, q9, q10⟩ := q
    refine ⟨by omega, goal, r, f, ?_, ?_, q4, ⟨?_, ?_, ?_⟩, fun z => ?_, fun z => ?_, fun z => ?_⟩
    · rw [hv _ (by omega) (by omega)]; exact q2
    · rw [hv _ (by omega) (by omega)]; exact q3
    · rw [hc _ _ (by omega) (by omega) (by omega) (by omega)]; exact q5
    · rw [hc _ _ (by omega) (by omega) (by omega) (by omega)]; exact q6
    · rw [hc _ _ (by omega) (by omega) (by omega) (by omega)]; exact q7
    · obtain ⟨a, a1, a2, a3, a4⟩ := q8 z
      exact ⟨a, by rw [hv _ (by omega) (by omega)]; exact a1, by rw [hc _ _ (by omega) (by omega) (by omega) (by omega)]; exact a2, a3, relD_keep a4 (fun r t p1 p2 p3 p4 => hc r t p1 p2 (by omega) p4) (fun j p1 p2 => hv j (by omega) p2) (Nat.le_refl _) e2⟩
    · obtain ⟨a, a1, a2, a3, a4⟩ := q9 z
      exact ⟨a, by rw [hv _ (by omega) (by omega)]; exact a1, by rw [hc _ _ (by omega) (by omega) (by omega) (by omega)]; exact a2, a3, relD_keep a4 (fun r t p1 p2 p3 p4 => hc r t p1 p2 (by omega) p4) (fun j p1 p2 => hv j (by omega) p2) (Nat.le_refl _) e2⟩
    · rw [hc _ _ (by omega) (by omega) (by omega) (by omega)]; exact q10 z
/-- where the machine comes to, for an answer of the search -/
def RS (c2 : Nat → Nat → Int32) (d u h : Nat) (P : Nat × SX) (σ : St8) : Prop :=
  (P.1 = 3001 ∧ ∃ c1 dp cl, σ = (P.2.1, c1, nI P.2.2.1, (-3), dp, cl)) ∨ (P.1 = 3002 ∧ ∃ c1 us dp cl, σ = (P.2.1, c1, us, (-4), dp, cl)) ∨ (P.1 = 0 ∧ ∃ c1, σ = (P.2.1, c1, nI P.2.2.1, 0, nI d, 0) ∧ kp d u c2 c1) ∨ (P.1 = u + 1 ∧ P.1 ≤ 3000 ∧ ∃ c1, σ = (P.2.1, c1, nI P.2.2.1, 0, nI d, nI (u + 1)) ∧ kp d u c2 c1 ∧ relD c1 P.2.2.2 h u P.2.2.1 (u + 1))
def LM (fu : Nat) (K : St8 → Prop) (h : Nat) : Prop := ∀ (d u : Nat) (ss : List Row) (Γ : Nat → Bool) (gl : Nat) (c2 : Nat → Nat → Int32) (cl : Int32) (dv : Nat → Int32), d + h = 80 → u ≤ fu → ssOK ss → (∀ y, Γ y = true → 1 ≤ y ∧ y ≤ ss.length) → (1 ≤ gl ∧ gl ≤ ss.length) → (∀ σ, RS c2 d u h (look fu h Γ gl (ss, u, dv)) σ → K σ) → ∀ σ, CS c2 u d fu cl ss Γ gl σ → K σ
theorem prem_m {fu : Nat} {K : St8 → Prop} {h : Nat} (IH : LM fu K h) {D U : Nat} {ss : List Row} {Γ : Nat → Bool} {goal r k f : Nat} {c2 : Nat → Nat → Int32} {cl : Int32} {dv : Nat → Int32} (hD : D + h = 80) (hU : U ≤ fu) (hS : ssOK ss) (hΓ : ∀ y, Γ y = true → 1 ≤ y ∧ y ≤ ss.length) (hg : 1 ≤ goal ∧ goal ≤ ss.length) (hw : wyOK ss Γ goal r f) (hres : ∀ σ, RS c2 D U h (prm (look fu h) Γ r k f goal (ss, U, dv)) σ → K σ) : ∀ σ, chS c2 U D fu cl ss r k f Γ goal σ → K σ := by
  intro σ hc
  have hfl := wy_f hΓ hw
  obtain ⟨o, ss1, hB⟩ : ∃ o z, brg ss r k f = (o, z) := ⟨_, _, rfl⟩
  obtain ⟨⟨y1, e1⟩, ok1, v1⟩ := brg_ok hS hΓ hw hB
  unfold chS at hc
  rw [hB] at hc
  cases o with
  | none =>
    rcases hc with ⟨-, c1, rfl⟩ | ⟨q, z, -⟩ | ⟨q, z, -⟩
    · refine hres _ (Or.inl ⟨?_, c1, nI D, cl, ?_⟩)
      · rw [prm_none (x := (ss, U, dv)) hB]
      · rw [prm_none (x := (ss, U, dv)) hB]
    · cases z
    · cases z
  | some q =>
    obtain ⟨h1, h2, h3⟩ := v1 q rfl
    have hlen : ss.length ≤ ss1.length := by rw [e1]; simp
    have hw1 : wyOK ss1 Γ goal r f := by rw [e1]; exact wyOK_app y1 hS hfl hg.2 hw
    have hΓ1 : ∀ y, Γ y = true → 1 ≤ y ∧ y ≤ ss1.length := fun y q => by have := hΓ y q; omega
    rw [prm_some (x := (ss, U, dv)) hB] at hres
    refine IH D U ss1 (gPar ss1 r k (if r = 4 then goal else f) (gAdd (gAdd (gDel Γ f) q.1) q.2)) (pG ss1 r k f goal) c2 cl dv hD hU ok1 (gPar_b ok1 hΓ1 hw1 h1 h2) (pG_b ok1 hΓ1 (by omega) hw1) hres σ ?_
    rcases hc with ⟨z, -⟩ | ⟨q2, z, a, c1, rfl⟩ | ⟨q2, z, a, c1, rfl, b, e⟩
    · cases z
    · exact Or.inl ⟨a, c1, rfl⟩
    · injection z with z
      subst z
      exact Or.inr ⟨a, c1, rfl, b, e⟩

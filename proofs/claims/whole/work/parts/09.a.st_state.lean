/-! THE STATEMENT STORE, at the roles 3 .. 10 -/
def sSort (ss : List Row) (k : Nat) : Nat := (kAt ss k).1
def sL (ss : List Row) (k : Nat) : Nat := (kAt ss k).2.1
def sR (ss : List Row) (k : Nat) : Nat := (kAt ss k).2.2.1
/-- a row that may be the statement of number k -/
def stOK (k : Nat) (r : Row) : Prop := r.2.2.2 = (0, 0) ∧ ((r.1 = 0 ∧ r.2.1 < 32 ∧ r.2.2.1 = 0) ∨ (r.1 = 1 ∧ r.2.1 = 0 ∧ r.2.2.1 = 0) ∨ (2 ≤ r.1 ∧ r.1 ≤ 4 ∧ 1 ≤ r.2.1 ∧ r.2.1 < k ∧ 1 ≤ r.2.2.1 ∧ r.2.2.1 < k))
def ssOK (ss : List Row) : Prop := ss.length ≤ 600 ∧ (∀ k, 1 ≤ k → k ≤ ss.length → stOK k (kAt ss k)) ∧ ∀ i j, 1 ≤ i → i ≤ ss.length → 1 ≤ j → j ≤ ss.length → kAt ss i = kAt ss j → i = j
/-- the kinds: 0 .. 4 by the sort, 5 + s: implications from a statement of sort s -/
def kindS (ss : List Row) : Nat → Nat → Bool := fun k x => decide (1 ≤ x ∧ x ≤ ss.length ∧ (sSort ss x = k ∨ (sSort ss x = 4 ∧ 5 + sSort ss (sL ss x) = k)))
def StAt (G : rG) (n : Nat) (ad : Nat → Nat) (en : Nat → va_E) (ss : List Row) : Prop :=
  11 ≤ n ∧ en 3 = .inr (6, [.ref (ad 4), .ref (ad 7), .ref (ad 9)]) ∧ KeptAt G n 4 ad en 600 ss ∧ SetsAt G n 7 ad en 10 (kindS ss) ∧ (∃ T, SetsAt G n 9 ad en 1 T) ∧ ssOK ss
theorem KeptAt_recv {G : rG} {n p : Nat} {ad : Nat → Nat} {en : Nat → va_E} {most : Nat} {ks : List Row} (h : KeptAt G n p ad en most ks) : ∃ fs, en p = .inr (1, fs) := by
  obtain ⟨-, -, -, -, hd, g, h0, -⟩ := h
  exact ⟨_, h0⟩
theorem SetsAt_recv {G : rG} {n p R : Nat} {ad : Nat → Nat} {en : Nat → va_E} {S : Nat → Nat → Bool} (h : SetsAt G n p ad en R S) : ∃ fs, en p = .inr (5, fs) := by
  obtain ⟨-, -, f, top, h0, -⟩ := h
  exact ⟨_, h0⟩
theorem DerAt_recv {G : rG} {n p hw : Nat} {ad : Nat → Nat} {en : Nat → va_E} {dv : Nat → Int32} (h : DerAt G n p ad en hw dv) : ∃ fs, en p = .inr (0, fs) := by
  obtain ⟨-, -, f, h0, -⟩ := h
  exact ⟨_, h0⟩
theorem KeptAt_keep {G : rG} {n p : Nat} {ad ad1 : Nat → Nat} {en en1 : Nat → va_E} {most : Nat} {ks : List Row} (h : KeptAt G n p ad en most ks) (ha : ∀ k, p ≤ k → k ≤ p + 2 → ad1 k = ad k) (he : ∀ k, p ≤ k → k ≤ p + 2 → en1 k = en k) : KeptAt G n p ad1 en1 most ks := by
  obtain ⟨h1, h2, h3, h4, hd, g, e0, e1, e2, hr⟩ := h
  refine ⟨h1, h2, h3, h4, hd, g, ?_, ?_, ?_, hr⟩
  · rw [he p (by omega) (by omega), ha (p + 1) (by omega) (by omega), ha (p + 2) (by omega) (by omega)]; exact e0
  · rw [he _ (by omega) (by omega)]; exact e1
  · rw [he _ (by omega) (by omega)]; exact e2
theorem SetsAt_keep {G : rG} {n p R : Nat} {ad ad1 : Nat → Nat} {en en1 : Nat → va_E} {S : Nat → Nat → Bool} (h : SetsAt G n p ad en R S) (ha : ∀ k, p ≤ k → k ≤ p + 1 → ad1 k = ad k) (he : ∀ k, p ≤ k → k ≤ p + 1 → en1 k = en k) : SetsAt G n p ad1 en1 R S := by
  obtain ⟨h1, h2, f, top, e0, e1, hr⟩ := h
  refine ⟨h1, h2, f, top, ?_, ?_, hr⟩
  · rw [he p (by omega) (by omega), ha (p + 1) (by omega) (by omega)]; exact e0
  · rw [he _ (by omega) (by omega)]; exact e1
theorem SetsAt_congr {G : rG} {n p R : Nat} {ad : Nat → Nat} {en : Nat → va_E} {S S2 : Nat → Nat → Bool} (h : SetsAt G n p ad en R S) (he : ∀ r, r < R → ∀ x, S r x = S2 r x) : SetsAt G n p ad en R S2 := by
  obtain ⟨h1, h2, f, top, e0, e1, h3, h4, h5⟩ := h
  exact ⟨h1, h2, f, top, e0, e1, h3, fun r hr w hw i hi => by rw [h4 r hr w hw i hi, he r hr], fun r hr x hx => h5 r hr x (by rw [he r hr]; exact hx)⟩
theorem DerAt_keep {G : rG} {n p hw : Nat} {ad ad1 : Nat → Nat} {en en1 : Nat → va_E} {dv : Nat → Int32} (h : DerAt G n p ad en hw dv) (ha : ∀ k, p ≤ k → k ≤ p + 1 → ad1 k = ad k) (he : ∀ k, p ≤ k → k ≤ p + 1 → en1 k = en k) : DerAt G n p ad1 en1 hw dv := by
  obtain ⟨h1, h2, f, e0, e1, hr⟩ := h
  refine ⟨h1, h2, f, ?_, ?_, hr⟩
  · rw [he p (by omega) (by omega), ha (p + 1) (by omega) (by omega)]; exact e0
  · rw [he _ (by omega) (by omega)]; exact e1
theorem StAt_keep {G : rG} {n : Nat} {ad ad1 : Nat → Nat} {en en1 : Nat → va_E} {ss : List Row} (h : StAt G n ad en ss) (ha : ∀ k, 3 ≤ k → k ≤ 10 → ad1 k = ad k) (he : ∀ k, 3 ≤ k → k ≤ 10 → en1 k = en k) : StAt G n ad1 en1 ss := by
  obtain ⟨h1, h2, h3, h4, ⟨T, h5⟩, h6⟩ := h
  refine ⟨h1, ?_, KeptAt_keep h3 (fun k a b => ha k (by omega) (by omega)) (fun k a b => he k (by omega) (by omega)), SetsAt_keep h4 (fun k a b => ha k (by omega) (by omega)) (fun k a b => he k (by omega) (by omega)), ⟨T, SetsAt_keep h5 (fun k a b => ha k (by omega) (by omega)) (fun k a b => he k (by omega) (by omega))⟩, h6⟩
  rw [he 3 (by omega) (by omega), ha 4 (by omega) (by omega), ha 7 (by omega) (by omega), ha 9 (by omega) (by omega)]; exact h2
theorem kGet_nI {ks : List Row} (hl : ks.length < 2 ^ 31) {k c : Nat} (hk : k < 2 ^ 31) (hc : c < 5) : kGet ks (nI k) (nI c) = nI (rowCol (kAt ks k) c) := by
  unfold kGet
  rw [nI_toInt hk, nI_toInt (by omega)]
  by_cases h : 1 ≤ k ∧ k ≤ ks.length
  · rw [if_pos (by omega)]; simp
  · rw [if_neg (by omega)]
    have e : kAt ks k = (0, 0, 0, 0, 0) := by
      unfold kAt
      by_cases h0 : k = 0
      · rw [if_pos h0]
      · rw [if_neg h0, List.getD_eq_getElem?_getD, List.getElem?_eq_none (by omega)]; rfl
    rw [e]
    have : ∀ c, c < 5 → rowCol (0, 0, 0, 0, 0) c = 0 := by decide
    rw [this c hc]; rfl
def kHolds (ks : List Row) (x : Int32) : Bool := decide (1 ≤ x.toInt ∧ x.toInt ≤ ks.length)
theorem kHolds_nI {ks : List Row} {k : Nat} (hk : k < 2 ^ 31) : kHolds ks (nI k) = decide (1 ≤ k ∧ k ≤ ks.length) := by
  unfold kHolds
  rw [nI_toInt hk]
  apply decide_eq_decide.mpr
  omega
theorem holds_y {ks : List Row} {x : Int32} (hl : ks.length < 2 ^ 31) (h1 : ¬ x < 1) (h2 : ¬ nI ks.length < x) : kHolds ks x = true := by
  rw [i_lt] at h1 h2
  rw [nI_toInt hl] at h2
  have e : (1 : Int32).toInt = 1 := rfl
  exact decide_eq_true (by omega)
theorem holds_n {ks : List Row} {x : Int32} (hl : ks.length < 2 ^ 31) (h : x < 1 ∨ nI ks.length < x) : kHolds ks x = false := by
  rw [i_lt, i_lt, nI_toInt hl] at h
  have e : (1 : Int32).toInt = 1 := rfl
  exact decide_eq_false (by omega)
def sMake (ss : List Row) (r : Row) : List Row := if kFind ss r = 0 then kApp 600 ss r else ss
def sMakeR (ss : List Row) (r : Row) : Int32 := if kFind ss r = 0 then kAppR 600 ss else nI (kFind ss r)
def sMC (ss : List Row) (r : Row) : Nat := if kFind ss r = 0 then kMC 600 ss else 0
def sMS (ss : List Row) (r : Row) : Nat := if kFind ss r = 0 then kMS 600 ss else 0
theorem kAt_sort_app {ss : List Row} {r : Row} {k : Nat} (h : k ≤ ss.length) : sSort (ss ++ [r]) k = sSort ss k ∧ sL (ss ++ [r]) k = sL ss k ∧ sR (ss ++ [r]) k = sR ss k := by
  unfold sSort sL sR
  rw [kAt_app h]
  exact ⟨rfl, rfl, rfl⟩
theorem ssOK_app {ss : List Row} {r : Row} (h : ssOK ss) (hlt : ss.length < 600) (hr : stOK (ss.length + 1) r) (hf : kFind ss r = 0) : ssOK (ss ++ [r]) := by
  obtain ⟨h1, h2, h3⟩ := h
  have hL : (ss ++ [r]).length = ss.length + 1 := by simp
  have hn : ∀ k, 1 ≤ k → k ≤ ss.length → kAt ss k ≠ r := by
    have key : ∀ m, kFU ss r m = 0 → ∀ k, 1 ≤ k → k ≤ m → kAt ss k ≠ r := by
      intro m
      induction m with
      | zero => intro _ k a b; omega
      | succ m ih =>
        intro e k a b
        rw [kFU] at e
        by_cases c : kAt ss (m + 1) = r
        · rw [if_pos c] at e; cases e
        · rw [if_neg c] at e
          by_cases d : k = m + 1
          · rw [d]; exact c
          · exact ih e k a (by omega)
    exact key _ hf
  refine ⟨by omega, ?_, ?_⟩
  · intro k k1 k2
    rw [hL] at k2
    by_cases e : k = ss.length + 1
    · rw [e, kAt_new]; exact hr
    · rw [kAt_app (by omega)]; exact h2 k k1 (by omega)
  · intro i j i1 i2 j1 j2 e
    rw [hL] at i2 j2
    by_cases ei : i = ss.length + 1 <;> by_cases ej : j = ss.length + 1
    · omega
    · rw [ei, kAt_new, kAt_app (by omega)] at e
      exact absurd e.symm (hn j j1 (by omega))
    · rw [ej, kAt_new, kAt_app (by omega)] at e
      exact absurd e (hn i i1 (by omega))
    · rw [kAt_app (by omega), kAt_app (by omega)] at e
      exact h3 i j i1 (by omega) j1 (by omega) e
theorem kind_app {ss : List Row} {r : Row} (h : ssOK ss) (hr : stOK (ss.length + 1) r) : ∀ k x, kindS (ss ++ [r]) k x = (if r.1 = 4 then sAdd (sAdd (kindS ss) r.1 (ss.length + 1)) (5 + sSort ss r.2.1) (ss.length + 1) else sAdd (kindS ss) r.1 (ss.length + 1)) k x := by
  intro k x
  have hL : (ss ++ [r]).length = ss.length + 1 := by simp
  by_cases hx : x = ss.length + 1
  · subst hx
    have e1 : sSort (ss ++ [r]) (ss.length + 1) = r.1 := by unfold sSort; rw [kAt_new]
    have e2 : sL (ss ++ [r]) (ss.length + 1) = r.2.1 := by unfold sL; rw [kAt_new]
    have e3 : kindS ss k (ss.length + 1) = false := decide_eq_false (by omega)
    have e4 : r.1 = 4 → sSort (ss ++ [r]) r.2.1 = sSort ss r.2.1 := by
      intro q
      refine (kAt_sort_app ?_).1
      obtain ⟨-, a | a | a⟩ := hr <;> omega
    unfold kindS
    rw [hL, e1, e2]
    by_cases q : r.1 = 4
    · rw [if_pos q, e4 q]
      unfold sAdd
      by_cases c1 : k = 5 + sSort ss r.2.1
      · rw [if_pos ⟨c1, rfl⟩]; exact decide_eq_true (by omega)
      · rw [if_neg (by omega)]
        by_cases c2 : k = r.1
        · rw [if_pos ⟨c2, rfl⟩]; exact decide_eq_true (by omega)
        · rw [if_neg (by omega)]
          rw [show (fun k x => decide (1 ≤ x ∧ x ≤ ss.length ∧ (sSort ss x = k ∨ sSort ss x = 4 ∧ 5 + sSort ss (sL ss x) = k))) k (ss.length + 1) = false from e3]
          exact decide_eq_false (by omega)
    · rw [if_neg q]
      unfold sAdd
      by_cases c2 : k = r.1
      · rw [if_pos ⟨c2, rfl⟩]; exact decide_eq_true (by omega)
      · rw [if_neg (by omega)]
        rw [show (fun k x => decide (1 ≤ x ∧ x ≤ ss.length ∧ (sSort ss x = k ∨ sSort ss x = 4 ∧ 5 + sSort ss (sL ss x) = k))) k (ss.length + 1) = false from e3]
        exact decide_eq_false (by omega)
  · have e : kindS (ss ++ [r]) k x = kindS ss k x := by
      unfold kindS
      rw [hL]
      apply decide_eq_decide.mpr
      by_cases c : 1 ≤ x ∧ x ≤ ss.length
      · rw [(kAt_sort_app c.2).1, (kAt_sort_app c.2).2.1]
        have hp := h.2.1 x c.1 c.2
        constructor
        · rintro ⟨a, b, d⟩
          refine ⟨a, c.2, ?_⟩
          rcases d with d | ⟨d1, d2⟩
          · exact Or.inl d
          · refine Or.inr ⟨d1, ?_⟩
            rw [(kAt_sort_app ?_).1] at d2
            · exact d2
            · obtain ⟨-, q | q | q⟩ := hp <;> unfold sSort at d1 <;> unfold sL <;> omega
        · rintro ⟨a, b, d⟩
          refine ⟨a, by omega, ?_⟩
          rcases d with d | ⟨d1, d2⟩
          · exact Or.inl d
          · refine Or.inr ⟨d1, ?_⟩
            rw [(kAt_sort_app ?_).1]
            · exact d2
            · obtain ⟨-, q | q | q⟩ := hp <;> unfold sSort at d1 <;> unfold sL <;> omega
      · constructor
        · rintro ⟨a, b, -⟩; omega
        · rintro ⟨a, b, -⟩; omega
    rw [e]
    by_cases q : r.1 = 4
    · rw [if_pos q]; unfold sAdd; rw [if_neg (by omega), if_neg (by omega)]
    · rw [if_neg q]; unfold sAdd; rw [if_neg (by omega)]

/-! THE NODE STORE, at the roles 11 .. 17 -/
def nT (ns : List Row) (k : Nat) : Nat := (kAt ns k).1
def nG (ns : List Row) (k : Nat) : Nat := (kAt ns k).2.1
def nA (ns : List Row) (k : Nat) : Nat := (kAt ns k).2.2.1
def nB (ns : List Row) (k : Nat) : Nat := (kAt ns k).2.2.2.1
def nC (ns : List Row) (k : Nat) : Nat := (kAt ns k).2.2.2.2
def nP (ns : List Row) (k : Nat) : Nat := rPartL.getD (nT ns k) 0
/-- a row that may be the node of number k, with L statements -/
def ndOK (L k : Nat) (r : Row) : Prop := r.1 ≤ 9 ∧ 1 ≤ r.2.1 ∧ r.2.1 ≤ L ∧ (if 1 ≤ rPartL.getD r.1 0 then 1 ≤ r.2.2.1 ∧ r.2.2.1 < k else r.2.2.1 = 0) ∧ (if 2 ≤ rPartL.getD r.1 0 then 1 ≤ r.2.2.2.1 ∧ r.2.2.2.1 < k else r.2.2.2.1 = 0) ∧ (if 3 ≤ rPartL.getD r.1 0 then 1 ≤ r.2.2.2.2 ∧ r.2.2.2.2 < k else r.2.2.2.2 = 0)
def nsOK (ss ns : List Row) : Prop := ns.length ≤ 8000 ∧ (∀ k, 1 ≤ k → k ≤ ns.length → ndOK ss.length k (kAt ns k)) ∧ ∀ i j, 1 ≤ i → i ≤ ns.length → 1 ≤ j → j ≤ ns.length → kAt ns i = kAt ns j → i = j
def sIs (ss : List Row) (so k : Nat) : Bool := decide (1 ≤ k ∧ k ≤ ss.length ∧ sSort ss k = so)
def sWh (ss : List Row) (so f a b : Nat) : Bool := sIs ss so f && decide (sL ss f = a) && decide (sR ss f = b)
/-- whether a node's goal fits its tag and its parts' goals -/
def fitN (ss ns : List Row) (k : Nat) : Bool :=
  if nT ns k = 0 then true
  else if nT ns k = 1 then sWh ss 4 (nG ns k) (sL ss (nG ns k)) (nG ns (nA ns k))
  else if nT ns k = 2 then sWh ss 4 (nG ns (nA ns k)) (nG ns (nB ns k)) (nG ns k)
  else if nT ns k = 3 then sWh ss 2 (nG ns k) (nG ns (nA ns k)) (nG ns (nB ns k))
  else if nT ns k = 4 then sWh ss 2 (nG ns (nA ns k)) (nG ns k) (sR ss (nG ns (nA ns k)))
  else if nT ns k = 5 then sWh ss 2 (nG ns (nA ns k)) (sL ss (nG ns (nA ns k))) (nG ns k)
  else if nT ns k = 6 then sWh ss 3 (nG ns k) (nG ns (nA ns k)) (sR ss (nG ns k))
  else if nT ns k = 7 then sWh ss 3 (nG ns k) (sL ss (nG ns k)) (nG ns (nA ns k))
  else if nT ns k = 8 then sIs ss 3 (nG ns (nA ns k)) && decide (nG ns (nB ns k) = nG ns k) && decide (nG ns (nC ns k) = nG ns k)
  else if nT ns k = 9 then sIs ss 1 (nG ns (nA ns k))
  else false
/-- the first i parts are among W -/
def psU (W : Nat → Bool) (ns : List Row) (k : Nat) : Nat → Bool
  | 0 => true
  | i + 1 => psU W ns k i && W (rowCol (kAt ns k) (2 + i))
/-- well made, by a table of the first m nodes -/
def wT (ss ns : List Row) : Nat → Nat → Bool
  | 0 => fun _ => false
  | m + 1 => fun j => if j = m + 1 then (psU (wT ss ns m) ns (m + 1) (nP ns (m + 1)) && fitN ss ns (m + 1)) else wT ss ns m j
def lvs (ss : List Row) (so f : Nat) (x y : Nat) : Bool := sIs ss so f && decide (y = x)
/-- what a node rests on, by its parts' -/
def rE (ss ns : List Row) (R : Nat → Nat → Bool) (k x : Nat) : Bool :=
  if nT ns k = 0 then decide (x = nG ns k)
  else if nT ns k = 1 then R (nA ns k) x && !(sIs ss 4 (nG ns k) && decide (x = sL ss (nG ns k)))
  else R (nA ns k) x || (R (nB ns k) x && !(decide (nT ns k = 8) && sIs ss 3 (nG ns (nA ns k)) && decide (x = sL ss (nG ns (nA ns k))))) || (R (nC ns k) x && !(decide (nT ns k = 8) && sIs ss 3 (nG ns (nA ns k)) && decide (x = sR ss (nG ns (nA ns k)))))
def rT (ss ns : List Row) : Nat → Nat → Nat → Bool
  | 0 => fun _ _ => false
  | m + 1 => fun j x => if j = m + 1 then rE ss ns (rT ss ns m) (m + 1) x else rT ss ns m j x
theorem wT_s (ss ns : List Row) (m j : Nat) : wT ss ns (m + 1) j = if j = m + 1 then (psU (wT ss ns m) ns (m + 1) (nP ns (m + 1)) && fitN ss ns (m + 1)) else wT ss ns m j := rfl
theorem rT_s (ss ns : List Row) (m j x : Nat) : rT ss ns (m + 1) j x = if j = m + 1 then rE ss ns (rT ss ns m) (m + 1) x else rT ss ns m j x := rfl
def NdAt (G : rG) (n : Nat) (ad : Nat → Nat) (en : Nat → va_E) (ns : List Row) (jd RR SL : Nat) (S : Nat → Nat → Bool) (sf : Nat → Int32) : Prop :=
  18 ≤ n ∧ en 11 = .inr (2, [.ref (ad 3), .ref (ad 12), .ref (ad 15), .ref (ad 17), .int (nI jd)]) ∧ KeptAt G n 12 ad en 8000 ns ∧ SetsAt G n 15 ad en RR S ∧ en 17 = aI G SL sf ∧ SL ≤ 20000
theorem NdAt_keep {G : rG} {n : Nat} {ad ad1 : Nat → Nat} {en en1 : Nat → va_E} {ns : List Row} {jd RR SL : Nat} {S : Nat → Nat → Bool} {sf : Nat → Int32} (h : NdAt G n ad en ns jd RR SL S sf) (ha3 : ad1 3 = ad 3) (ha : ∀ k, 11 ≤ k → k ≤ 17 → ad1 k = ad k) (he : ∀ k, 11 ≤ k → k ≤ 17 → en1 k = en k) : NdAt G n ad1 en1 ns jd RR SL S sf := by
  obtain ⟨h1, h2, h3, h4, h5, h6⟩ := h
  refine ⟨h1, ?_, KeptAt_keep h3 (fun k a b => ha k (by omega) (by omega)) (fun k a b => he k (by omega) (by omega)), SetsAt_keep h4 (fun k a b => ha k (by omega) (by omega)) (fun k a b => he k (by omega) (by omega)), ?_, h6⟩
  · rw [ha3, ha 12 (by omega) (by omega), ha 15 (by omega) (by omega), ha 17 (by omega) (by omega)]; exact (he 11 (by omega) (by omega)).trans h2
  · exact (he 17 (by omega) (by omega)).trans h5
theorem part_lt {ss ns : List Row} (h : nsOK ss ns) {k : Nat} (hk : 1 ≤ k ∧ k ≤ ns.length) : nT ns k ≤ 9 ∧ (1 ≤ nG ns k ∧ nG ns k ≤ ss.length) ∧ nA ns k < k ∧ nB ns k < k ∧ nC ns k < k := by
  obtain ⟨h1, h2, h3, h4, h5, h6⟩ := h.2.1 k hk.1 hk.2
  unfold nT nG nA nB nC
  refine ⟨h1, ⟨h2, h3⟩, ?_, ?_, ?_⟩
  · split at h4 <;> omega
  · split at h5 <;> omega
  · split at h6 <;> omega
theorem partN {ss ns : List Row} (h : nsOK ss ns) {k i : Nat} (hk : 1 ≤ k ∧ k ≤ ns.length) (hi : i < nP ns k) : i < 3 ∧ 1 ≤ rowCol (kAt ns k) (2 + i) ∧ rowCol (kAt ns k) (2 + i) < k := by
  obtain ⟨h1, h2, h3, h4, h5, h6⟩ := h.2.1 k hk.1 hk.2
  have hp : ∀ t, t ≤ 9 → rPartL.getD t 0 ≤ 3 := by decide
  have := hp _ h1
  unfold nP nT at hi
  match i, hi with
  | 0, hi => rw [if_pos (by omega)] at h4; exact ⟨by decide, h4⟩
  | 1, hi => rw [if_pos (by omega)] at h5; exact ⟨by decide, h5⟩
  | 2, hi => rw [if_pos (by omega)] at h6; exact ⟨by decide, h6⟩
  | i + 3, hi => omega
theorem nP_le {ss ns : List Row} (h : nsOK ss ns) {k : Nat} (hk : 1 ≤ k ∧ k ≤ ns.length) : nP ns k ≤ 3 := by
  have hp : ∀ t, t ≤ 9 → rPartL.getD t 0 ≤ 3 := by decide
  exact hp _ (part_lt h hk).1
theorem kAt_out {ks : List Row} {k : Nat} (h : ks.length < k) : kAt ks k = (0, 0, 0, 0, 0) := by
  unfold kAt
  rw [if_neg (by omega), List.getD_eq_getElem?_getD, List.getElem?_eq_none (by omega)]; rfl
theorem nG_le {ss ns : List Row} (h : nsOK ss ns) (k : Nat) : nG ns k ≤ ss.length := by
  by_cases c : 1 ≤ k ∧ k ≤ ns.length
  · exact (part_lt h c).2.1.2
  · have e : kAt ns k = (0, 0, 0, 0, 0) := by
      by_cases h0 : k = 0
      · rw [h0]; rfl
      · exact kAt_out (by omega)
    unfold nG; rw [e]; exact Nat.zero_le _
theorem sIs_eq {ss : List Row} (hl : ss.length ≤ 600) (so k : Nat) (hso : so < 2 ^ 31) (hk : k < 2 ^ 31) (hs : sSort ss k < 2 ^ 31) : (kHolds ss (nI k) && decide (kGet ss (nI k) 0 = nI so)) = sIs ss so k := by
  rw [kHolds_nI hk, show (0 : Int32) = nI 0 from rfl, kGet_nI (by omega) hk (by decide)]
  unfold sIs
  rw [show rowCol (kAt ss k) 0 = sSort ss k from rfl]
  by_cases c : 1 ≤ k ∧ k ≤ ss.length
  · rw [show decide (1 ≤ k ∧ k ≤ ss.length) = true from decide_eq_true c, Bool.true_and]
    apply decide_eq_decide.mpr
    rw [nI_eq hs hso]
    constructor
    · intro q; exact ⟨c.1, c.2, q⟩
    · intro q; exact q.2.2
  · rw [show decide (1 ≤ k ∧ k ≤ ss.length) = false from decide_eq_false c, Bool.false_and]
    exact (decide_eq_false (fun q => c ⟨q.1, q.2.1⟩)).symm

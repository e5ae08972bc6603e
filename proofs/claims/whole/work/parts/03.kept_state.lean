/-! KEPT: rows of five numbers, the pure picture. -/
abbrev Row : Type := Nat × Nat × Nat × Nat × Nat
def rowCol (r : Row) (c : Nat) : Nat := match c with
  | 0 => r.1
  | 1 => r.2.1
  | 2 => r.2.2.1
  | 3 => r.2.2.2.1
  | _ => r.2.2.2.2
def kAt (ks : List Row) (k : Nat) : Row := if k = 0 then (0, 0, 0, 0, 0) else ks.getD (k - 1) (0, 0, 0, 0, 0)
/-- a row by a number and a column, 0 outside -/
def kGet (ks : List Row) (x c : Int32) : Int32 := if 1 ≤ x.toInt ∧ x.toInt ≤ ks.length ∧ 0 ≤ c.toInt ∧ c.toInt < 5 then nI (rowCol (kAt ks x.toInt.toNat) c.toInt.toNat) else 0
def mixI (a b c d e : Int32) : Int32 := ((((((((a) * (31)) + (b)) * (31)) + (c)) * (31)) + (d)) * (31)) + (e)
def bkt (a b c d e : Int32) : Int32 := ((mixI a b c d e) ^^^ (((mixI a b c d e).toUInt32 >>> ((10 : Int32).toUInt32 &&& Int32.toUInt32 31)).toInt32)) &&& (1023)
theorem bkt_ex (a b c d e : Int32) : ∃ j : Nat, j < 1024 ∧ bkt a b c d e = nI j := pk_andE _ 10 (by decide)
def bktR (r : Row) : Nat := (bkt (nI r.1) (nI r.2.1) (nI r.2.2.1) (nI r.2.2.2.1) (nI r.2.2.2.2)).toNatClampNeg
theorem bktR_eq (a b c d e : Nat) : bkt (nI a) (nI b) (nI c) (nI d) (nI e) = nI (bktR (a, b, c, d, e)) ∧ bktR (a, b, c, d, e) < 1024 := by
  obtain ⟨j, h1, h2⟩ := bkt_ex (nI a) (nI b) (nI c) (nI d) (nI e)
  have h3 : bktR (a, b, c, d, e) = j := by
    show (bkt (nI a) (nI b) (nI c) (nI d) (nI e)).toNatClampNeg = j
    rw [h2, nI_clamp (by omega)]
  rw [h3]; exact ⟨h2, h1⟩
/-- the latest of the first k rows in a bucket, 0 if there is none -/
def lastB (ks : List Row) (b : Nat) : Nat → Nat
  | 0 => 0
  | k + 1 => if bktR (kAt ks (k + 1)) = b then k + 1 else lastB ks b k
/-- the latest of the first k rows that is r, 0 if there is none -/
def kFU (ks : List Row) (r : Row) : Nat → Nat
  | 0 => 0
  | k + 1 => if kAt ks (k + 1) = r then k + 1 else kFU ks r k
def kFind (ks : List Row) (r : Row) : Nat := kFU ks r ks.length
theorem lastB_le (ks : List Row) (b : Nat) : ∀ k, lastB ks b k ≤ k
  | 0 => Nat.le_refl 0
  | k + 1 => by
    unfold lastB
    by_cases h : bktR (kAt ks (k + 1)) = b
    · rw [if_pos h]; exact Nat.le_refl _
    · rw [if_neg h]; exact Nat.le_succ_of_le (lastB_le ks b k)
theorem kFU_lastB (ks : List Row) (r : Row) : ∀ k, kFU ks r k = kFU ks r (lastB ks (bktR r) k)
  | 0 => rfl
  | k + 1 => by
    by_cases h : bktR (kAt ks (k + 1)) = bktR r
    · rw [show lastB ks (bktR r) (k + 1) = k + 1 by unfold lastB; rw [if_pos h]]
    · rw [show lastB ks (bktR r) (k + 1) = lastB ks (bktR r) k by rw [lastB, if_neg h], ← kFU_lastB ks r k, kFU, if_neg (fun e => h (by rw [e]))]
theorem kFU_le (ks : List Row) (r : Row) : ∀ k, kFU ks r k ≤ k
  | 0 => Nat.le_refl 0
  | k + 1 => by
    unfold kFU
    by_cases h : kAt ks (k + 1) = r
    · rw [if_pos h]; exact Nat.le_refl _
    · rw [if_neg h]; exact Nat.le_succ_of_le (kFU_le ks r k)
theorem kAt_app {ks : List Row} {r : Row} {k : Nat} (h : k ≤ ks.length) : kAt (ks ++ [r]) k = kAt ks k := by
  unfold kAt
  by_cases h0 : k = 0
  · rw [if_pos h0, if_pos h0]
  · rw [if_neg h0, if_neg h0, List.getD_eq_getElem?_getD, List.getD_eq_getElem?_getD, List.getElem?_append_left (by omega)]
theorem kAt_new (ks : List Row) (r : Row) : kAt (ks ++ [r]) (ks.length + 1) = r := by
  unfold kAt
  rw [if_neg (by omega), List.getD_eq_getElem?_getD, Nat.add_sub_cancel, List.getElem?_append_right (Nat.le_refl _), Nat.sub_self]
  rfl
theorem lastB_app (ks : List Row) (r : Row) (b : Nat) : ∀ k, k ≤ ks.length → lastB (ks ++ [r]) b k = lastB ks b k
  | 0, _ => rfl
  | k + 1, h => by rw [lastB, lastB, kAt_app h, lastB_app ks r b k (by omega)]
/-- how long the array of rows is, by how many rows there are; how many such arrays there were, and their places -/
def capOf : Nat → Nat
  | 0 => 96
  | k + 1 => if 6 * (k + 1) + 6 ≤ capOf k then capOf k else 2 * capOf k
def kC : Nat → Nat
  | 0 => 1
  | k + 1 => kC k + if 6 * (k + 1) + 6 ≤ capOf k then 0 else 1
def kS : Nat → Nat
  | 0 => 96
  | k + 1 => kS k + if 6 * (k + 1) + 6 ≤ capOf k then 0 else 2 * capOf k
theorem capOf_ge : ∀ k, 6 * k + 6 ≤ capOf k
  | 0 => by decide
  | k + 1 => by
    have := capOf_ge k
    unfold capOf
    split <;> omega
theorem capOf_le : ∀ k, capOf k ≤ 96 + 12 * k
  | 0 => by decide
  | k + 1 => by
    have := capOf_le k
    unfold capOf
    split <;> omega
/-- rows as they lie in the arrays -/
def kRep (ks : List Row) (hd g : Nat → Int32) : Prop :=
  (∀ k, 1 ≤ k → k ≤ ks.length → ∀ c, c < 5 → g (6 * k + c) = nI (rowCol (kAt ks k) c)) ∧
  (∀ k, 1 ≤ k → k ≤ ks.length → g (6 * k + 5) = nI (lastB ks (bktR (kAt ks k)) (k - 1))) ∧
  (∀ b, b < 1024 → hd b = nI (lastB ks b ks.length))
def kSmall (ks : List Row) : Prop := ∀ r ∈ ks, ∀ c, c < 5 → rowCol r c < 2 ^ 31
/-- a Kept at the roles p, p + 1, p + 2 -/
def KeptAt (G : rG) (n p : Nat) (ad : Nat → Nat) (en : Nat → va_E) (most : Nat) (ks : List Row) : Prop :=
  p + 3 ≤ n ∧ ks.length ≤ most ∧ most ≤ 8000 ∧ kSmall ks ∧ ∃ hd g : Nat → Int32, en p = .inr (1, [.int (nI most), .ref (ad (p + 1)), .ref (ad (p + 2)), .int (nI ks.length)]) ∧ en (p + 1) = aI G 1024 hd ∧ en (p + 2) = aI G (capOf ks.length) g ∧ kRep ks hd g
theorem kAt_small {ks : List Row} (h : kSmall ks) {k c : Nat} (hc : c < 5) : rowCol (kAt ks k) c < 2 ^ 31 := by
  unfold kAt
  by_cases h0 : k = 0
  · rw [if_pos h0]
    have : ∀ c, c < 5 → rowCol (0, 0, 0, 0, 0) c = 0 := by decide
    rw [this c hc]; decide
  · rw [if_neg h0]
    by_cases hk : k - 1 < ks.length
    · rw [List.getD_eq_getElem?_getD, List.getElem?_eq_getElem hk]
      exact h _ (List.getElem_mem hk) c hc
    · rw [List.getD_eq_getElem?_getD, List.getElem?_eq_none (by omega)]
      have : ∀ c, c < 5 → rowCol (0, 0, 0, 0, 0) c = 0 := by decide
      show rowCol (0, 0, 0, 0, 0) c < _
      rw [this c hc]; decide
/-- Int32 by Int -/
theorem i_lt {x y : Int32} : x < y ↔ x.toInt < y.toInt := Int32.lt_iff_toInt_lt
theorem i_le {x y : Int32} : x ≤ y ↔ x.toInt ≤ y.toInt := Int32.le_iff_toInt_le
theorem i_eq {x y : Int32} : x = y ↔ x.toInt = y.toInt := Int32.toInt_inj.symm

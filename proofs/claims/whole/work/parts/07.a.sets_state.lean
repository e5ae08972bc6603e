theorem ts_nf {x : Bool} (h : ¬ x = false) : x = true := by cases x <;> first | rfl | exact absurd rfl h
theorem ts_nt {x : Bool} (h : ¬ x = true) : x = false := by cases x <;> first | rfl | exact absurd rfl h
theorem ts_bit {w : Int64} {s : UInt64} {j : Nat} (hj : j < 64) (hs : s.toNat = j) : ((w.toUInt64 >>> s).toInt64 &&& 1) = 0 ↔ w.toBitVec.getLsbD j = false := by
  have e : (w.toUInt64 >>> s).toInt64.toBitVec = w.toBitVec >>> j := by
    apply BitVec.eq_of_toNat_eq
    show (w.toUInt64 >>> s).toNat = _
    rw [UInt64.toNat_shiftRight, hs, Nat.mod_eq_of_lt hj, BitVec.toNat_ushiftRight]
    rfl
  rw [← Int64.toBitVec_inj, Int64.toBitVec_and, e]
  show w.toBitVec >>> j &&& 1#64 = 0#64 ↔ _
  constructor
  · intro h
    have t := congrArg (fun x => x.getLsbD 0) h
    simpa using t
  · intro h
    apply BitVec.eq_of_getLsbD_eq
    intro i hi
    cases i with
    | zero => simp [h]
    | succ i => simp
/-! SETS: rows of bits, the pure picture. -/
def bitL (w : Int64) (i : Nat) : Bool := w.toBitVec.getLsbD i
theorem bitL_ext {a b : Int64} (h : ∀ i, i < 64 → bitL a i = bitL b i) : a = b := Int64.toBitVec_inj.mp (BitVec.eq_of_getLsbD_eq fun i hi => h i hi)
theorem bitL_0 (i : Nat) : bitL 0 i = false := by
  show (0#64).getLsbD i = false
  simp
theorem sh_toNat {x : Nat} (hx : x < 2 ^ 31) : ((nI x).toInt64.toUInt64 &&& Int64.toUInt64 63).toNat = x % 64 := by
  rw [nI_l hx, UInt64.toNat_and]
  have e1 : (lN x).toUInt64.toNat = x := by
    show (lN x).toBitVec.toNat = x
    show (BitVec.ofInt 64 (x : Int)).toNat = x
    rw [BitVec.toNat_ofInt]
    omega
  have e2 : (Int64.toUInt64 63).toNat = 2 ^ 6 - 1 := by decide
  rw [e1, e2, Nat.and_two_pow_sub_one_eq_mod]
theorem bit_has {w : Int64} {x : Nat} (hx : x < 2 ^ 31) : ((w.toUInt64 >>> ((nI x).toInt64.toUInt64 &&& Int64.toUInt64 63)).toInt64 &&& 1) = 0 ↔ bitL w (x % 64) = false :=
  ts_bit (Nat.mod_lt _ (by decide)) (sh_toNat hx)
theorem sh_one : ∀ k : Fin 64, ((1 : Int64) <<< (lN k.val &&& 63)).toBitVec = BitVec.twoPow 64 k.val := by decide +kernel
theorem sh_and {x : Nat} (hx : x < 2 ^ 31) : (nI x).toInt64 &&& 63 = lN (x % 64) := by
  rw [nI_l hx]
  apply Int64.toBitVec_inj.mp
  apply BitVec.eq_of_toNat_eq
  rw [Int64.toBitVec_and, BitVec.toNat_and]
  have e1 : (lN x).toBitVec.toNat = x := by
    show (BitVec.ofInt 64 (x : Int)).toNat = x
    rw [BitVec.toNat_ofInt]; omega
  have e2 : (63 : Int64).toBitVec.toNat = 2 ^ 6 - 1 := by decide
  have e3 : (lN (x % 64)).toBitVec.toNat = x % 64 := by
    show (BitVec.ofInt 64 ((x % 64 : Nat) : Int)).toNat = x % 64
    rw [BitVec.toNat_ofInt]; omega
  rw [e1, e2, e3, Nat.and_two_pow_sub_one_eq_mod]
theorem sh_pow {x : Nat} (hx : x < 2 ^ 31) : ((1 : Int64) <<< ((nI x).toInt64 &&& 63)).toBitVec = BitVec.twoPow 64 (x % 64) := by
  have h := sh_one ⟨x % 64, Nat.mod_lt _ (by decide)⟩
  have e : lN (x % 64) &&& 63 = lN (x % 64) := by
    have := sh_and (x := x % 64) (by omega)
    rw [nI_l (by omega), Nat.mod_mod] at this
    exact this
  rw [sh_and hx]
  rw [show (⟨x % 64, Nat.mod_lt _ (by decide)⟩ : Fin 64).val = x % 64 from rfl, e] at h
  exact h
theorem bit_add {w : Int64} {x i : Nat} (hx : x < 2 ^ 31) (hi : i < 64) : bitL (w ||| ((1 : Int64) <<< ((nI x).toInt64 &&& 63))) i = (bitL w i || decide (i = x % 64)) := by
  unfold bitL
  rw [Int64.toBitVec_or, sh_pow hx, BitVec.getLsbD_or, BitVec.getLsbD_twoPow]
  have e : x % 64 < 64 := Nat.mod_lt _ (by decide)
  simp [e, eq_comm, hi]
theorem bit_del {w : Int64} {x i : Nat} (hx : x < 2 ^ 31) (hi : i < 64) : bitL (w &&& (((1 : Int64) <<< ((nI x).toInt64 &&& 63)) ^^^ (-1))) i = (bitL w i && !decide (i = x % 64)) := by
  unfold bitL
  have ha : (-1 : Int64).toBitVec = BitVec.allOnes 64 := by decide
  rw [Int64.toBitVec_and, Int64.toBitVec_xor, sh_pow hx, ha, BitVec.getLsbD_and, BitVec.getLsbD_xor, BitVec.getLsbD_twoPow, BitVec.getLsbD_allOnes]
  have e : x % 64 < 64 := Nat.mod_lt _ (by decide)
  simp [e, eq_comm, hi]
def inS (x : Int32) : Bool := decide (1 ≤ x.toInt ∧ x.toInt ≤ 600)
theorem inS_ex {x : Int32} (h : inS x = true) : ∃ k : Nat, 1 ≤ k ∧ k ≤ 600 ∧ x = nI k := by
  have h := of_decide_eq_true h
  refine ⟨x.toInt.toNat, by omega, by omega, ?_⟩
  rw [i_eq, nI_toInt (by omega)]; omega
theorem inS_nI {k : Nat} (h1 : 1 ≤ k) (h2 : k ≤ 600) : inS (nI k) = true := by
  apply decide_eq_true
  rw [nI_toInt (by omega)]; omega
def b2i (b : Bool) : Int32 := if b then 1 else 0
theorem b2i_z (b : Bool) : b2i b = 0 ∨ b2i b = 1 := by cases b <;> first | exact Or.inl rfl | exact Or.inr rfl
theorem b2i_0 {b : Bool} (h : b2i b = 0) : b = false := by cases b <;> first | rfl | exact absurd h (by decide)
theorem b2i_1 {b : Bool} (h : ¬ b2i b = 0) : b = true := by cases b <;> first | rfl | exact absurd rfl h
def sRep (R : Nat) (S : Nat → Nat → Bool) (f : Nat → Int64) (top : Nat) : Prop :=
  top ≤ 9 ∧ (∀ r, r < R → ∀ w, w < 10 → ∀ i, i < 64 → bitL (f (10 * r + w)) i = S r (64 * w + i)) ∧ (∀ r, r < R → ∀ x, S r x = true → 1 ≤ x ∧ x ≤ 600 ∧ x / 64 ≤ top)
/-- a Sets at the roles p, p + 1: R rows -/
def SetsAt (G : rG) (n p : Nat) (ad : Nat → Nat) (en : Nat → va_E) (R : Nat) (S : Nat → Nat → Bool) : Prop :=
  p + 2 ≤ n ∧ R ≤ 20000 ∧ ∃ (f : Nat → Int64) (top : Nat), en p = .inr (5, [.ref (ad (p + 1)), .int (nI top)]) ∧ en (p + 1) = aJ G (10 * R) f ∧ sRep R S f top
def sAdd (S : Nat → Nat → Bool) (row x : Nat) : Nat → Nat → Bool := fun r y => if r = row ∧ y = x then true else S r y
def sDel (S : Nat → Nat → Bool) (row x : Nat) : Nat → Nat → Bool := fun r y => if r = row ∧ y = x then false else S r y
def sAddI (S : Nat → Nat → Bool) (row : Nat) (x : Int32) : Nat → Nat → Bool := if inS x then sAdd S row x.toInt.toNat else S
def sDelI (S : Nat → Nat → Bool) (row : Nat) (x : Int32) : Nat → Nat → Bool := if inS x then sDel S row x.toInt.toNat else S
theorem sAddI_nI (S : Nat → Nat → Bool) (row : Nat) {k : Nat} (h1 : 1 ≤ k) (h2 : k ≤ 600) : sAddI S row (nI k) = sAdd S row k := by
  rw [sAddI, if_pos (inS_nI h1 h2), nI_toInt (by omega)]; simp
theorem sDelI_nI (S : Nat → Nat → Bool) (row : Nat) {k : Nat} (h1 : 1 ≤ k) (h2 : k ≤ 600) : sDelI S row (nI k) = sDel S row k := by
  rw [sDelI, if_pos (inS_nI h1 h2), nI_toInt (by omega)]; simp
theorem rowdiv {a b w v : Nat} (hw : w < 10) (hv : v < 10) (h : 10 * a + w = 10 * b + v) : a = b ∧ w = v := by omega
theorem sRep_add {R top : Nat} {S : Nat → Nat → Bool} {f : Nat → Int64} (h : sRep R S f top) {row x : Nat} (hr : row < R) (h1 : 1 ≤ x) (h2 : x ≤ 600) : sRep R (sAdd S row x) (vp_updL f (10 * row + x / 64) (f (10 * row + x / 64) ||| ((1 : Int64) <<< ((nI x).toInt64 &&& 63)))) (max top (x / 64)) := by
  obtain ⟨h3, h4, h5⟩ := h
  refine ⟨by omega, ?_, ?_⟩
  · intro r hr2 w hw i hi
    by_cases e : 10 * r + w = 10 * row + x / 64
    · obtain ⟨rfl, e2⟩ := rowdiv hw (by omega) e
      subst e2
      rw [pk_uLs, bit_add (by omega) hi, h4 r hr2 _ hw i hi, sAdd]
      by_cases e3 : i = x % 64
      · rw [if_pos ⟨rfl, by omega⟩]; simp [e3]
      · rw [if_neg (by omega)]; simp [e3]
    · rw [pk_uLn e, h4 r hr2 w hw i hi, sAdd, if_neg]
      rintro ⟨rfl, e2⟩
      exact e (by omega)
  · intro r hr2 y hy
    unfold sAdd at hy
    by_cases e : r = row ∧ y = x
    · omega
    · rw [if_neg e] at hy
      have := h5 r hr2 y hy
      omega
theorem sRep_del {R top : Nat} {S : Nat → Nat → Bool} {f : Nat → Int64} (h : sRep R S f top) {row x : Nat} (hr : row < R) (h1 : 1 ≤ x) (h2 : x ≤ 600) : sRep R (sDel S row x) (vp_updL f (10 * row + x / 64) (f (10 * row + x / 64) &&& (((1 : Int64) <<< ((nI x).toInt64 &&& 63)) ^^^ (-1)))) top := by
  obtain ⟨h3, h4, h5⟩ := h
  refine ⟨h3, ?_, ?_⟩
  · intro r hr2 w hw i hi
    by_cases e : 10 * r + w = 10 * row + x / 64
    · obtain ⟨rfl, e2⟩ := rowdiv hw (by omega) e
      subst e2
      rw [pk_uLs, bit_del (by omega) hi, h4 r hr2 _ hw i hi, sDel]
      by_cases e3 : i = x % 64
      · rw [if_pos ⟨rfl, by omega⟩]; simp [e3]
      · rw [if_neg (by omega)]; simp [e3]
    · rw [pk_uLn e, h4 r hr2 w hw i hi, sDel, if_neg]
      rintro ⟨rfl, e2⟩
      exact e (by omega)
  · intro r hr2 y hy
    unfold sDel at hy
    by_cases e : r = row ∧ y = x
    · rw [if_pos e] at hy; cases hy
    · rw [if_neg e] at hy
      exact h5 r hr2 y hy
theorem max_nI {a b : Nat} (ha : a < 2 ^ 31) (hb : b < 2 ^ 31) : (if nI a < nI b then nI b else nI a) = nI (max a b) := by
  by_cases h : a < b
  · rw [if_pos (nI_lt h hb), Nat.max_eq_right (by omega)]
  · rw [if_neg (nI_nlt (by omega) ha), Nat.max_eq_left (by omega)]
theorem div10 {R : Nat} (h : R ≤ 20000) : nI (10 * R) / 10 = nI R := by
  have := pk_div (a := 10 * R) (d := 10) (by omega) (by decide) (by decide)
  rw [Nat.mul_div_cancel_left R (by decide)] at this
  exact this
theorem has_eq {R top : Nat} {S : Nat → Nat → Bool} {f : Nat → Int64} (h : sRep R S f top) {row x : Nat} (hr : row < R) (h2 : x ≤ 600) : bitL (f (10 * row + x / 64)) (x % 64) = S row x := by
  rw [h.2.1 row hr (x / 64) (by omega) (x % 64) (Nat.mod_lt _ (by decide)), Nat.div_add_mod]

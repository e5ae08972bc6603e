/-! counting bits, the lowest bit -/
def cnt (P : Nat → Bool) : Nat → Nat
  | 0 => 0
  | k + 1 => cnt P k + if P k then 1 else 0
theorem cnt_le (P : Nat → Bool) : ∀ k, cnt P k ≤ k
  | 0 => Nat.le_refl 0
  | k + 1 => by
    have := cnt_le P k
    rw [cnt]
    split <;> omega
theorem cnt_congr {P P2 : Nat → Bool} : ∀ k, (∀ i, i < k → P i = P2 i) → cnt P k = cnt P2 k
  | 0, _ => rfl
  | k + 1, h => by rw [cnt, cnt, cnt_congr k (fun i hi => h i (by omega)), h k (by omega)]
theorem cnt_add (P : Nat → Bool) (a : Nat) : ∀ b, cnt P (a + b) = cnt P a + cnt (fun i => P (a + i)) b
  | 0 => rfl
  | b + 1 => by
    rw [← Nat.add_assoc, cnt, cnt_add P a b, cnt]
    omega
theorem cnt_none {P : Nat → Bool} : ∀ {k : Nat}, (∀ i, i < k → P i = false) → cnt P k = 0
  | 0, _ => rfl
  | k + 1, h => by rw [cnt, cnt_none (fun i hi => h i (by omega)), h k (by omega)]; rfl
theorem cnt_all {P : Nat → Bool} : ∀ {k : Nat}, (∀ i, i < k → P i = true) → cnt P k = k
  | 0, _ => rfl
  | k + 1, h => by rw [cnt, cnt_all (fun i hi => h i (by omega)), h k (by omega)]; rfl
def popL (w : Int64) : Nat := cnt (bitL w) 64
theorem popL_le (w : Int64) : popL w ≤ 64 := cnt_le _ _
/-- the lowest set bit -/
theorem low_ex {w : Int64} (h : ¬ w = 0) : ∃ j, j < 64 ∧ bitL w j = true ∧ ∀ i, i < j → bitL w i = false := by
  have key : ∀ k, k ≤ 64 → (∀ i, i < k → bitL w i = false) ∨ ∃ j, j < 64 ∧ bitL w j = true ∧ ∀ i, i < j → bitL w i = false := by
    intro k
    induction k with
    | zero => intro _; exact Or.inl (fun i hi => absurd hi (Nat.not_lt_zero _))
    | succ k ih =>
      intro hk
      rcases ih (by omega) with q | q
      · by_cases hb : bitL w k = true
        · exact Or.inr ⟨k, by omega, hb, q⟩
        · refine Or.inl (fun i hi => ?_)
          by_cases e : i = k
          · rw [e]; exact ts_nt hb
          · exact q i (by omega)
      · exact Or.inr q
  rcases key 64 (Nat.le_refl _) with q | q
  · exact absurd (bitL_ext (fun i hi => by rw [q i hi, bitL_0])) h
  · exact q
theorem low_pow {w : Int64} {j : Nat} (hj : j < 64) (h1 : bitL w j = true) (h2 : ∀ i, i < j → bitL w i = false) : (w &&& -w).toBitVec = BitVec.twoPow 64 j := by
  apply BitVec.eq_of_getLsbD_eq
  intro i hi
  rw [Int64.toBitVec_and, Int64.toBitVec_neg, BitVec.getLsbD_and, BitVec.getLsbD_neg, BitVec.getLsbD_twoPow]
  unfold bitL at h1 h2
  by_cases e : i < j
  · rw [h2 i e]
    have : ¬ j = i := by omega
    simp [this]
  · by_cases e2 : i = j
    · subst e2
      have h3 : ¬ ∃ k, k < i ∧ w.toBitVec.getLsbD k = true := by
        rintro ⟨k, hk, hb⟩
        rw [h2 k hk] at hb
        cases hb
      rw [h1]
      simp only [h3, decide_false, Bool.xor_false, Bool.and_true, Bool.true_and]
      simp [hi]
    · have h3 : ∃ k, k < i ∧ w.toBitVec.getLsbD k = true := ⟨j, by omega, h1⟩
      have : ¬ j = i := by omega
      simp only [h3, decide_true]
      cases w.toBitVec.getLsbD i <;> simp [this, hi]
theorem low_pop {w : Int64} {j : Nat} (hj : j < 64) (h1 : bitL w j = true) (h2 : ∀ i, i < j → bitL w i = false) : popL ((w &&& -w) - 1) = j := by
  have hb : ∀ i, i < 64 → bitL ((w &&& -w) - 1) i = decide (i < j) := by
    intro i hi
    unfold bitL
    rw [Int64.toBitVec_sub, low_pow hj h1 h2]
    show (BitVec.twoPow 64 j - 1#64).getLsbD i = _
    have e : BitVec.twoPow 64 j - 1#64 = BitVec.ofNat 64 (2 ^ j - 1) := by
      apply BitVec.eq_of_toNat_eq
      have h3 : 2 ^ j < 2 ^ 64 := Nat.pow_lt_pow_right (by decide) hj
      have h4 : 1 ≤ 2 ^ j := Nat.one_le_two_pow
      rw [BitVec.toNat_sub, BitVec.toNat_twoPow, BitVec.toNat_ofNat, BitVec.toNat_ofNat]
      generalize 2 ^ j = P at h3 h4 ⊢
      omega
    rw [e, BitVec.getLsbD_ofNat, Nat.testBit_two_pow_sub_one]
    simp [hi]
  unfold popL
  rw [show (64 : Nat) = j + (64 - j) by omega, cnt_add, cnt_all (fun i hi => by rw [hb i (by omega)]; simpa using hi), cnt_none (fun i hi => by rw [hb (j + i) (by omega)]; simp)]
  rfl
theorem shm_one : ∀ k : Fin 64, ((-1 : Int64) <<< (lN k.val &&& 63)).toBitVec = BitVec.allOnes 64 <<< k.val := by decide +kernel
theorem bit_shm {x i : Nat} (hx : x < 2 ^ 31) (hi : i < 64) : bitL ((-1 : Int64) <<< ((nI x).toInt64 &&& 63)) i = decide (x % 64 ≤ i) := by
  have h := shm_one ⟨x % 64, Nat.mod_lt _ (by decide)⟩
  have e : lN (x % 64) &&& 63 = lN (x % 64) := by
    have := sh_and (x := x % 64) (by omega)
    rw [nI_l (by omega), Nat.mod_mod] at this
    exact this
  rw [show (⟨x % 64, Nat.mod_lt _ (by decide)⟩ : Fin 64).val = x % 64 from rfl, e] at h
  unfold bitL
  rw [sh_and hx, h, BitVec.getLsbD_shiftLeft, BitVec.getLsbD_allOnes]
  by_cases c : x % 64 ≤ i
  · have : ¬ i < x % 64 := by omega
    simp [c, hi, this]; omega
  · have : i < x % 64 := by omega
    simp [this]
theorem bit_and (a b : Int64) (i : Nat) : bitL (a &&& b) i = (bitL a i && bitL b i) := by
  unfold bitL
  rw [Int64.toBitVec_and, BitVec.getLsbD_and]
theorem bit_or (a b : Int64) (i : Nat) : bitL (a ||| b) i = (bitL a i || bitL b i) := by
  unfold bitL
  rw [Int64.toBitVec_or, BitVec.getLsbD_or]
/-- the least from k on, within m places; 0 if there is none -/
def lstF (P : Nat → Bool) (k : Nat) : Nat → Nat
  | 0 => 0
  | m + 1 => if P k then k else lstF P (k + 1) m
theorem lstF_none {P : Nat → Bool} : ∀ {m k : Nat}, (∀ y, k ≤ y → y < k + m → P y = false) → lstF P k m = 0
  | 0, _, _ => rfl
  | m + 1, k, h => by rw [lstF, h k (Nat.le_refl _) (by omega)]; exact lstF_none (fun y h1 h2 => h y (by omega) (by omega))
theorem lstF_hit {P : Nat → Bool} : ∀ {m k r : Nat}, k ≤ r → r < k + m → P r = true → (∀ y, k ≤ y → y < r → P y = false) → lstF P k m = r
  | 0, _, _, h1, h2, _, _ => absurd h2 (by omega)
  | m + 1, k, r, h1, h2, h3, h4 => by
    rw [lstF]
    by_cases e : k = r
    · rw [e, h3]; rfl
    · rw [h4 k (Nat.le_refl _) (by omega)]
      exact lstF_hit (m := m) (by omega) (by omega) h3 (fun y q1 q2 => h4 y (by omega) q2)
/-- Sets.leastShared -/
def sLeast (P : Nat → Bool) (x : Int32) : Nat := if 600 ≤ x.toInt then 0 else lstF P ((max x.toInt 0).toNat + 1) (640 - ((max x.toInt 0).toNat + 1))
theorem pop_swar {w x1 x2 x3 x4 x5 x6 : Int64} (e1 : x1 = w - (((w : Int64).toUInt64 >>> ((1 : Int32).toInt64.toUInt64 &&& Int64.toUInt64 63)).toInt64 &&& 6148914691236517205))
    (e2 : x2 = (x1 &&& 3689348814741910323) + (((x1 : Int64).toUInt64 >>> ((2 : Int32).toInt64.toUInt64 &&& Int64.toUInt64 63)).toInt64 &&& 3689348814741910323))
    (e3 : x3 = (x2 + ((x2 : Int64).toUInt64 >>> ((4 : Int32).toInt64.toUInt64 &&& Int64.toUInt64 63)).toInt64) &&& 1085102592571150095)
    (e4 : x4 = x3 + ((x3 : Int64).toUInt64 >>> ((8 : Int32).toInt64.toUInt64 &&& Int64.toUInt64 63)).toInt64)
    (e5 : x5 = x4 + ((x4 : Int64).toUInt64 >>> ((16 : Int32).toInt64.toUInt64 &&& Int64.toUInt64 63)).toInt64)
    (e6 : x6 = x5 + ((x5 : Int64).toUInt64 >>> ((32 : Int32).toInt64.toUInt64 &&& Int64.toUInt64 63)).toInt64) : x6.toInt32 &&& 127 = nI (popL w) := sorry

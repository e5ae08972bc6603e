/-! counting bits, the lowest bit -/
def cnt (P : Nat → Bool) : Nat → Nat
  | 0 => 0
  | k + 1 => cnt P k + if P k then 1 else 0
theorem cnt_le (P : Nat → Bool) : ∀ k, cnt P k ≤ k
  | 0 => Nat.le_refl 0
  | k + 1 => by
    have := cnt_le P k
    rw [cnt]
    split <;> omega
theorem cnt_congr {P P2 : Nat → Bool} : ∀ k, (∀ i, i < k → P i = P2 i) → cnt P k = cnt P2 k
  | 0, _ => rfl
  | k + 1, h => by rw [cnt, cnt, cnt_congr k (fun i hi => h i (by omega)), h k (by omega)]
theorem cnt_add (P : Nat → Bool) (a : Nat) : ∀ b, cnt P (a + b) = cnt P a + cnt (fun i => P (a + i)) b
  | 0 => rfl
  | b + 1 => by
    rw [← Nat.add_assoc, cnt, cnt_add P a b, cnt]
    omega
theorem cnt_none {P : Nat → Bool} : ∀ {k : Nat}, (∀ i, i < k → P i = false) → cnt P k = 0
  | 0, _ => rfl
  | k + 1, h => by rw [cnt, cnt_none (fun i hi => h i (by omega)), h k (by omega)]; rfl
theorem cnt_all {P : Nat → Bool} : ∀ {k : Nat}, (∀ i, i < k → P i = true) → cnt P k = k
  | 0, _ => rfl
  | k + 1, h => by rw [cnt, cnt_all (fun i hi => h i (by omega)), h k (by omega)]; rfl
def popL (w : Int64) : Nat := cnt (bitL w) 64
theorem popL_le (w : Int64) : popL w ≤ 64 := cnt_le _ _
/-- the lowest set bit -/
theorem low_ex {w : Int64} (h : ¬ w = 0) : ∃ j, j < 64 ∧ bitL w j = true ∧ ∀ i, i < j → bitL w i = false := by
  have key : ∀ k, k ≤ 64 → (∀ i, i < k → bitL w i = false) ∨ ∃ j, j < 64 ∧ bitL w j = true ∧ ∀ i, i < j → bitL w i = false := by
    intro k
    induction k with
    | zero => intro _; exact Or.inl (fun i hi => absurd hi (Nat.not_lt_zero _))
    | succ k ih =>
      intro hk
      rcases ih (by omega) with q | q
      · by_cases hb : bitL w k = true
        · exact Or.inr ⟨k, by omega, hb, q⟩
        · refine Or.inl (fun i hi => ?_)
          by_cases e : i = k
          · rw [e]; exact ts_nt hb
          · exact q i (by omega)
      · exact Or.inr q
  rcases key 64 (Nat.le_refl _) with q | q
  · exact absurd (bitL_ext (fun i hi => by rw [q i hi, bitL_0])) h
  · exact q
theorem low_pow {w : Int64} {j : Nat} (hj : j < 64) (h1 : bitL w j = true) (h2 : ∀ i, i < j → bitL w i = false) : (w &&& -w).toBitVec = BitVec.twoPow 64 j := by
  apply BitVec.eq_of_getLsbD_eq
  intro i hi
  rw [Int64.toBitVec_and, Int64.toBitVec_neg, BitVec.getLsbD_and, BitVec.getLsbD_neg, BitVec.getLsbD_twoPow]
  unfold bitL at h1 h2
  by_cases e : i < j
  · rw [h2 i e]
    have : ¬ j = i := by omega
    simp [this]
  · by_cases e2 : i = j
    · subst e2
      have h3 : ¬ ∃ k, k < i ∧ w.toBitVec.getLsbD k = true := by
        rintro ⟨k, hk, hb⟩
        rw [h2 k hk] at hb
        cases hb
      rw [h1]
      simp only [h3, decide_false, Bool.xor_false, Bool.and_true, Bool.true_and]
      simp [hi]
    · have h3 : ∃ k, k < i ∧ w.toBitVec.getLsbD k = true := ⟨j, by omega, h1⟩
      have : ¬ j = i := by omega
      simp only [h3, decide_true]
      cases w.toBitVec.getLsbD i <;> simp [this, hi]
theorem low_pop {w : Int64} {j : Nat} (hj : j < 64) (h1 : bitL w j = true) (h2 : ∀ i, i < j → bitL w i = false) : popL ((w &&& -w) - 1) = j := by
  have hb : ∀ i, i < 64 → bitL ((w &&& -w) - 1) i = decide (i < j) := by
    intro i hi
    unfold bitL
    rw [Int64.toBitVec_sub, low_pow hj h1 h2]
    show (BitVec.twoPow 64 j - 1#64).getLsbD i = _
    have e : BitVec.twoPow 64 j - 1#64 = BitVec.ofNat 64 (2 ^ j - 1) := by
      apply BitVec.eq_of_toNat_eq
      have h3 : 2 ^ j < 2 ^ 64 := Nat.pow_lt_pow_right (by decide) hj
      have h4 : 1 ≤ 2 ^ j := Nat.one_le_two_pow
      rw [BitVec.toNat_sub, BitVec.toNat_twoPow, BitVec.toNat_ofNat, BitVec.toNat_ofNat]
      generalize 2 ^ j = P at h3 h4 ⊢
      omega
    rw [e, BitVec.getLsbD_ofNat, Nat.testBit_two_pow_sub_one]
    simp [hi]
  unfold popL
  rw [show (64 : Nat) = j + (64 - j) by omega, cnt_add, cnt_all (fun i hi => by rw [hb i (by omega)]; simpa using hi), cnt_none (fun i hi => by rw [hb (j + i) (by omega)]; simp)]
  rfl
theorem shm_one : ∀ k : Fin 64, ((-1 : Int64) <<< (lN k.val &&& 63)).toBitVec = BitVec.allOnes 64 <<< k.val := by decide +kernel
theorem bit_shm {x i : Nat} (hx : x < 2 ^ 31) (hi : i < 64) : bitL ((-1 : Int64) <<< ((nI x).toInt64 &&& 63)) i = decide (x % 64 ≤ i) := by
  have h := shm_one ⟨x % 64, Nat.mod_lt _ (by decide)⟩
  have e : lN (x % 64) &&& 63 = lN (x % 64) := by
    have := sh_and (x := x % 64) (by omega)
    rw [nI_l (by omega), Nat.mod_mod] at this
    exact this
  rw [show (⟨x % 64, Nat.mod_lt _ (by decide)⟩ : Fin 64).val = x % 64 from rfl, e] at h
  unfold bitL
  rw [sh_and hx, h, BitVec.getLsbD_shiftLeft, BitVec.getLsbD_allOnes]
  by_cases c : x % 64 ≤ i
  · have : ¬ i < x % 64 := by omega
    simp [c, hi, this]; omega
  · have : i < x % 64 := by omega
    simp [this]
theorem bit_and (a b : Int64) (i : Nat) : bitL (a &&& b) i = (bitL a i && bitL b i) := by
  unfold bitL
  rw [Int64.toBitVec_and, BitVec.getLsbD_and]
theorem bit_or (a b : Int64) (i : Nat) : bitL (a ||| b) i = (bitL a i || bitL b i) := by
  unfold bitL
  rw [Int64.toBitVec_or, BitVec.getLsbD_or]
/-- the least from k on, within m places; 0 if there is none -/
def lstF (P : Nat → Bool) (k : Nat) : Nat → Nat
  | 0 => 0
  | m + 1 => if P k then k else lstF P (k + 1) m
theorem lstF_none {P : Nat → Bool} : ∀ {m k : Nat}, (∀ y, k ≤ y → y < k + m → P y = false) → lstF P k m = 0
  | 0, _, _ => rfl
  | m + 1, k, h => by rw [lstF, h k (Nat.le_refl _) (by omega)]; exact lstF_none (fun y h1 h2 => h y (by omega) (by omega))
theorem lstF_hit {P : Nat → Bool} : ∀ {m k r : Nat}, k ≤ r → r < k + m → P r = true → (∀ y, k ≤ y → y < r → P y = false) → lstF P k m = r
  | 0, _, _, h1, h2, _, _ => absurd h2 (by omega)
  | m + 1, k, r, h1, h2, h3, h4 => by
    rw [lstF]
    by_cases e : k = r
    · rw [e, h3]; rfl
    · rw [h4 k (Nat.le_refl _) (by omega)]
      exact lstF_hit (m := m) (by omega) (by omega) h3 (fun y q1 q2 => h4 y (by omega) q2)
/-- Sets.leastShared -/
def sLeast (P : Nat → Bool) (x : Int32) : Nat := if 600 ≤ x.toInt then 0 else lstF P ((max x.toInt 0).toNat + 1) (640 - ((max x.toInt 0).toNat + 1))
theorem wb_tb (n : Nat) : (lN n).toBitVec = BitVec.ofNat 64 n := rfl
theorem wb_inj {a b : Int64} (h : a.toBitVec = b.toBitVec) : a = b := Int64.toBitVec_inj.mp h
theorem wb_tn {n : Nat} (h : n < 2 ^ 64) : (lN n).toBitVec.toNat = n := by rw [wb_tb, BitVec.toNat_ofNat, Nat.mod_eq_of_lt h]
theorem wb_of (x : Int64) : ∃ n, n < 2 ^ 64 ∧ x = lN n := ⟨x.toBitVec.toNat, x.toBitVec.isLt, wb_inj (by rw [wb_tb]; simp)⟩
theorem wb_cu : ∀ k, k < 64 → ((nI k).toInt64.toUInt64 &&& Int64.toUInt64 63) = UInt64.ofNat k := by decide +kernel
theorem wb_sm : ∀ k, k < 64 → (BitVec.ofNat 64 k).smod 64 = BitVec.ofNat 64 k := by decide +kernel
theorem wb_mod (n : Nat) : lN n = lN (n % 2 ^ 64) := wb_inj (by rw [wb_tb, wb_tb]; apply BitVec.eq_of_toNat_eq; rw [BitVec.toNat_ofNat, BitVec.toNat_ofNat, Nat.mod_mod])
theorem wb_shr {n k : Nat} (hn : n < 2 ^ 64) (hk : k < 64) : ((lN n).toUInt64 >>> ((nI k).toInt64.toUInt64 &&& Int64.toUInt64 63)).toInt64 = lN (n / 2 ^ k) := by
  rw [wb_cu k hk]
  apply wb_inj
  apply BitVec.eq_of_toNat_eq
  show ((lN n).toUInt64 >>> UInt64.ofNat k).toNat = (BitVec.ofNat 64 _).toNat
  have h1 : (UInt64.ofNat k).toNat = k := by
    show (BitVec.ofNat 64 k).toNat = k
    rw [BitVec.toNat_ofNat, Nat.mod_eq_of_lt (by omega)]
  have h2 : (lN n).toUInt64.toNat = n := wb_tn hn
  rw [UInt64.toNat_shiftRight, h1, h2, Nat.mod_eq_of_lt hk, Nat.shiftRight_eq_div_pow, BitVec.toNat_ofNat, Nat.mod_eq_of_lt (Nat.lt_of_le_of_lt (Nat.div_le_self _ _) hn)]
theorem wb_and {a b : Nat} (ha : a < 2 ^ 64) (hb : b < 2 ^ 64) : lN a &&& lN b = lN (a &&& b) := by
  apply wb_inj
  rw [Int64.toBitVec_and, wb_tb, wb_tb, wb_tb]
  apply BitVec.eq_of_toNat_eq
  rw [BitVec.toNat_and, BitVec.toNat_ofNat, BitVec.toNat_ofNat, BitVec.toNat_ofNat, Nat.mod_eq_of_lt ha, Nat.mod_eq_of_lt hb, Nat.mod_eq_of_lt (Nat.and_lt_two_pow _ hb)]
theorem and_split {a b m n : Nat} (ha : a < 256) (hm : m < 256) : (a + 256 * b) &&& (m + 256 * n) = (a &&& m) + 256 * (b &&& n) := by
  have h1 := Nat.and_mod_two_pow (a := a + 256 * b) (b := m + 256 * n) (n := 8)
  have h2 := Nat.and_div_two_pow (a := a + 256 * b) (b := m + 256 * n) (n := 8)
  rw [show (2 : Nat) ^ 8 = 256 from rfl] at h1 h2
  rw [show (a + 256 * b) % 256 = a by omega, show (m + 256 * n) % 256 = m by omega] at h1
  rw [show (a + 256 * b) / 256 = b by omega, show (m + 256 * n) / 256 = n by omega] at h2
  have h3 : a &&& m < 256 := Nat.lt_of_le_of_lt Nat.and_le_left ha
  rw [← h2, ← h1]
  omega
def swar (n m1 m2 m3 : Nat) : Nat := (((n - (n / 2 &&& m1)) &&& m2) + ((n - (n / 2 &&& m1)) / 4 &&& m2) + (((n - (n / 2 &&& m1)) &&& m2) + ((n - (n / 2 &&& m1)) / 4 &&& m2)) / 16) &&& m3
def pop8 (b : Nat) : Nat := cnt (fun i => b.testBit i) 8
theorem sw_a : ∀ a, a < 256 → ∀ q, q < 2 → (a / 2 + 128 * q) &&& 85 = a / 2 &&& 85 := by decide +kernel
theorem sw_b : ∀ a, a < 256 → ∀ q, q < 4 → (a / 4 + 64 * q) &&& 51 = a / 4 &&& 51 := by decide +kernel
theorem sw_c : ∀ a, a < 256 → (((a - (a / 2 &&& 85)) &&& 51) + ((a - (a / 2 &&& 85)) / 4 &&& 51) + (((a - (a / 2 &&& 85)) &&& 51) + ((a - (a / 2 &&& 85)) / 4 &&& 51)) / 16) &&& 15 = pop8 a ∧ pop8 a ≤ 8 := by decide +kernel
theorem sw_d : ∀ a, a < 256 → ∀ q, q < 16 → (a + 16 * q) &&& 15 = a &&& 15 := by decide +kernel
theorem and_nib {u m : Nat} (h : m % 16 ≤ 3) : (u &&& m) % 16 ≤ 3 := by
  have := Nat.and_mod_two_pow (a := u) (b := m) (n := 4)
  rw [show (2 : Nat) ^ 4 = 16 from rfl] at this
  rw [this]
  exact Nat.le_trans Nat.and_le_right h
theorem swar_s {a b m1 m2 m3 : Nat} (ha : a < 256) (hm : m2 % 16 ≤ 3) : swar (a + 256 * b) (85 + 256 * m1) (51 + 256 * m2) (15 + 256 * m3) = pop8 a + 256 * swar b m1 m2 m3 := by
  have e1 : (a + 256 * b) / 2 &&& (85 + 256 * m1) = (a / 2 &&& 85) + 256 * (b / 2 &&& m1) := by
    rw [show (a + 256 * b) / 2 = (a / 2 + 128 * (b % 2)) + 256 * (b / 2) by omega, and_split (by omega) (by decide), sw_a a ha (b % 2) (by omega)]
  have l1 : (a / 2 &&& 85) ≤ a := Nat.le_trans Nat.and_le_left (by omega)
  have l2 : (b / 2 &&& m1) ≤ b := Nat.le_trans Nat.and_le_left (by omega)
  obtain ⟨x, hx⟩ : ∃ x, x = a - (a / 2 &&& 85) := ⟨_, rfl⟩
  obtain ⟨y, hy⟩ : ∃ y, y = b - (b / 2 &&& m1) := ⟨_, rfl⟩
  have hxl : x < 256 := by omega
  have e2 : (a + 256 * b) - ((a / 2 &&& 85) + 256 * (b / 2 &&& m1)) = x + 256 * y := by omega
  have e3 : (x + 256 * y) &&& (51 + 256 * m2) = (x &&& 51) + 256 * (y &&& m2) := and_split hxl (by decide)
  have e4 : (x + 256 * y) / 4 &&& (51 + 256 * m2) = (x / 4 &&& 51) + 256 * (y / 4 &&& m2) := by
    rw [show (x + 256 * y) / 4 = (x / 4 + 64 * (y % 4)) + 256 * (y / 4) by omega, and_split (by omega) (by decide), sw_b x hxl (y % 4) (by omega)]
  have l3 : (x &&& 51) ≤ 51 := Nat.and_le_right
  have l4 : (x / 4 &&& 51) ≤ 51 := Nat.and_le_right
  have l5 := and_nib (u := y) hm
  have l6 := and_nib (u := y / 4) hm
  unfold swar
  rw [e1, e2, e3, e4]
  have hc := sw_c a ha
  rw [← hx] at hc
  rw [← hy]
  generalize (x &&& 51) = p at *
  generalize (x / 4 &&& 51) = q at *
  generalize (y &&& m2) = u at *
  generalize (y / 4 &&& m2) = v at *
  have e5 : p + 256 * u + (q + 256 * v) + (p + 256 * u + (q + 256 * v)) / 16 = ((p + q + (p + q) / 16) + 16 * ((u + v) % 16)) + 256 * ((u + v) + (u + v) / 16) := by omega
  rw [e5, and_split (by omega) (by decide), sw_d _ (by omega) _ (by omega), hc.1]
theorem swar_0 (m1 m2 m3 : Nat) : swar 0 m1 m2 m3 = 0 := by
  unfold swar
  simp
theorem bit_byte (n k : Nat) : ∀ i, i < 8 → (n / 256 ^ k % 256).testBit i = n.testBit (8 * k + i) := by
  intro i hi
  rw [show (256 : Nat) = 2 ^ 8 from rfl, ← Nat.pow_mul, Nat.testBit_mod_two_pow, Nat.testBit_div_two_pow]
  simp [hi, Nat.add_comm]
theorem pop_nat {n : Nat} (hn : n < 2 ^ 64) : cnt (fun i => n.testBit i) 64 = pop8 (n % 256) + pop8 (n / 256 % 256) + pop8 (n / 65536 % 256) + pop8 (n / 16777216 % 256) + pop8 (n / 4294967296 % 256) + pop8 (n / 1099511627776 % 256) + pop8 (n / 281474976710656 % 256) + pop8 (n / 72057594037927936 % 256) := by
  have h : ∀ k, cnt (fun i => n.testBit (8 * k + i)) 8 = pop8 (n / 256 ^ k % 256) := fun k => cnt_congr 8 (fun i hi => (bit_byte n k i hi).symm)
  have s : ∀ k, cnt (fun i => n.testBit i) (8 * (k + 1)) = cnt (fun i => n.testBit i) (8 * k) + pop8 (n / 256 ^ k % 256) := by
    intro k
    rw [show 8 * (k + 1) = 8 * k + 8 by omega, cnt_add, h k]
  have s0 : cnt (fun i => n.testBit i) 8 = cnt (fun i => n.testBit i) 0 + pop8 (n % 256) := by
    have := s 0
    rw [Nat.pow_zero, Nat.div_one] at this
    exact this
  have s1 : cnt (fun i => n.testBit i) 16 = cnt (fun i => n.testBit i) 8 + pop8 (n / 256 % 256) := s 1
  have s2 : cnt (fun i => n.testBit i) 24 = cnt (fun i => n.testBit i) 16 + pop8 (n / 65536 % 256) := s 2
  have s3 : cnt (fun i => n.testBit i) 32 = cnt (fun i => n.testBit i) 24 + pop8 (n / 16777216 % 256) := s 3
  have s4 : cnt (fun i => n.testBit i) 40 = cnt (fun i => n.testBit i) 32 + pop8 (n / 4294967296 % 256) := s 4
  have s5 : cnt (fun i => n.testBit i) 48 = cnt (fun i => n.testBit i) 40 + pop8 (n / 1099511627776 % 256) := s 5
  have s6 : cnt (fun i => n.testBit i) 56 = cnt (fun i => n.testBit i) 48 + pop8 (n / 281474976710656 % 256) := s 6
  have s7 : cnt (fun i => n.testBit i) 64 = cnt (fun i => n.testBit i) 56 + pop8 (n / 72057594037927936 % 256) := s 7
  have z : cnt (fun i => n.testBit i) 0 = 0 := rfl
  omega
theorem swar_1 {n m1 m2 m3 k1 k2 k3 : Nat} (h1 : k1 = 85 + 256 * m1) (h2 : k2 = 51 + 256 * m2) (h3 : k3 = 15 + 256 * m3) (hm : m2 % 16 ≤ 3) : swar n k1 k2 k3 = pop8 (n % 256) + 256 * swar (n / 256) m1 m2 m3 := by
  subst h1 h2 h3
  have := swar_s (a := n % 256) (b := n / 256) (m1 := m1) (m2 := m2) (m3 := m3) (Nat.mod_lt _ (by decide)) hm
  rw [Nat.mod_add_div] at this
  exact this
theorem swar_8 {n : Nat} (hn : n < 2 ^ 64) : ∃ c0 c1 c2 c3 c4 c5 c6 c7 : Nat, (c0 ≤ 8 ∧ c1 ≤ 8 ∧ c2 ≤ 8 ∧ c3 ≤ 8 ∧ c4 ≤ 8 ∧ c5 ≤ 8 ∧ c6 ≤ 8 ∧ c7 ≤ 8) ∧ c0 + c1 + c2 + c3 + c4 + c5 + c6 + c7 = cnt (fun i => n.testBit i) 64 ∧ swar n 6148914691236517205 3689348814741910323 1085102592571150095 = c0 + 256 * c1 + 65536 * c2 + 16777216 * c3 + 4294967296 * c4 + 1099511627776 * c5 + 281474976710656 * c6 + 72057594037927936 * c7 := by
  have p8 : ∀ x, pop8 (x % 256) ≤ 8 := fun x => (sw_c _ (Nat.mod_lt _ (by decide))).2
  refine ⟨_, _, _, _, _, _, _, _, ⟨p8 n, p8 (n / 256), p8 (n / 65536), p8 (n / 16777216), p8 (n / 4294967296), p8 (n / 1099511627776), p8 (n / 281474976710656), p8 (n / 72057594037927936)⟩, (pop_nat hn).symm, ?_⟩
  have q0 := swar_1 (n := n) (k1 := 6148914691236517205) (m1 := 24019198012642645) (k2 := 3689348814741910323) (m2 := 14411518807585587) (k3 := 1085102592571150095) (m3 := 4238682002231055) (by decide) (by decide) (by decide) (by decide)
  have q1 := swar_1 (n := n / 256) (k1 := 24019198012642645) (m1 := 93824992236885) (k2 := 14411518807585587) (m2 := 56294995342131) (k3 := 4238682002231055) (m3 := 16557351571215) (by decide) (by decide) (by decide) (by decide)
  rw [show n / 256 / 256 = n / 65536 by omega] at q1
  have q2 := swar_1 (n := n / 65536) (k1 := 93824992236885) (m1 := 366503875925) (k2 := 56294995342131) (m2 := 219902325555) (k3 := 16557351571215) (m3 := 64677154575) (by decide) (by decide) (by decide) (by decide)
  rw [show n / 65536 / 256 = n / 16777216 by omega] at q2
  have q3 := swar_1 (n := n / 16777216) (k1 := 366503875925) (m1 := 1431655765) (k2 := 219902325555) (m2 := 858993459) (k3 := 64677154575) (m3 := 252645135) (by decide) (by decide) (by decide) (by decide)
  rw [show n / 16777216 / 256 = n / 4294967296 by omega] at q3
  have q4 := swar_1 (n := n / 4294967296) (k1 := 1431655765) (m1 := 5592405) (k2 := 858993459) (m2 := 3355443) (k3 := 252645135) (m3 := 986895) (by decide) (by decide) (by decide) (by decide)
  rw [show n / 4294967296 / 256 = n / 1099511627776 by omega] at q4
  have q5 := swar_1 (n := n / 1099511627776) (k1 := 5592405) (m1 := 21845) (k2 := 3355443) (m2 := 13107) (k3 := 986895) (m3 := 3855) (by decide) (by decide) (by decide) (by decide)
  rw [show n / 1099511627776 / 256 = n / 281474976710656 by omega] at q5
  have q6 := swar_1 (n := n / 281474976710656) (k1 := 21845) (m1 := 85) (k2 := 13107) (m2 := 51) (k3 := 3855) (m3 := 15) (by decide) (by decide) (by decide) (by decide)
  rw [show n / 281474976710656 / 256 = n / 72057594037927936 by omega] at q6
  have q7 := swar_1 (n := n / 72057594037927936) (k1 := 85) (m1 := 0) (k2 := 51) (m2 := 0) (k3 := 15) (m3 := 0) (by decide) (by decide) (by decide) (by decide)
  rw [show n / 72057594037927936 / 256 = n / 18446744073709551616 by omega] at q7
  rw [show n / 18446744073709551616 = 0 by omega, swar_0] at q7
  omega
theorem dA {u v : Nat} (h : u < 256) : (u + 256 * v) / 256 = v := by omega
theorem dB {u0 u1 v : Nat} (h0 : u0 < 256) (h1 : u1 < 256) : (u0 + 256 * (u1 + 256 * v)) / 65536 = v := by
  rw [show 65536 = 256 * 256 from rfl, ← Nat.div_div_eq_div_mul, dA h0, dA h1]
theorem dC {u0 u1 u2 u3 v : Nat} (h0 : u0 < 256) (h1 : u1 < 256) (h2 : u2 < 256) (h3 : u3 < 256) : (u0 + 256 * (u1 + 256 * (u2 + 256 * (u3 + 256 * v)))) / 4294967296 = v := by
  rw [show 4294967296 = 65536 * 65536 from rfl, ← Nat.div_div_eq_div_mul, dB h0 h1, dB h2 h3]
theorem pop_fin {c0 c1 c2 c3 c4 c5 c6 c7 a3 : Nat} (h0 : c0 ≤ 8) (h1 : c1 ≤ 8) (h2 : c2 ≤ 8) (h3 : c3 ≤ 8) (h4 : c4 ≤ 8) (h5 : c5 ≤ 8) (h6 : c6 ≤ 8) (h7 : c7 ≤ 8)
    (h : a3 = c0 + 256 * c1 + 65536 * c2 + 16777216 * c3 + 4294967296 * c4 + 1099511627776 * c5 + 281474976710656 * c6 + 72057594037927936 * c7) : (a3 + a3 / 256 + (a3 + a3 / 256) / 65536 + (a3 + a3 / 256 + (a3 + a3 / 256) / 65536) / 4294967296) % 2 ^ 32 % 2 ^ 7 = c0 + c1 + c2 + c3 + c4 + c5 + c6 + c7 := by
  have hX : a3 = c0 + 256 * (c1 + 256 * (c2 + 256 * (c3 + 256 * (c4 + 256 * (c5 + 256 * (c6 + 256 * c7)))))) := by omega
  have q1 : a3 / 256 = c1 + 256 * (c2 + 256 * (c3 + 256 * (c4 + 256 * (c5 + 256 * (c6 + 256 * c7))))) := by rw [hX]; exact dA (by omega)
  have q2 : a3 + a3 / 256 = (c0 + c1) + 256 * ((c1 + c2) + 256 * ((c2 + c3) + 256 * ((c3 + c4) + 256 * ((c4 + c5) + 256 * ((c5 + c6) + 256 * ((c6 + c7) + 256 * c7)))))) := by rw [q1, hX]; omega
  have q3 : (a3 + a3 / 256) / 65536 = (c2 + c3) + 256 * ((c3 + c4) + 256 * ((c4 + c5) + 256 * ((c5 + c6) + 256 * ((c6 + c7) + 256 * c7)))) := by rw [q2]; exact dB (by omega) (by omega)
  have q4 : a3 + a3 / 256 + (a3 + a3 / 256) / 65536 = (c0 + c1 + c2 + c3) + 256 * ((c1 + c2 + c3 + c4) + 256 * ((c2 + c3 + c4 + c5) + 256 * ((c3 + c4 + c5 + c6) + 256 * ((c4 + c5 + c6 + c7) + 256 * ((c5 + c6 + c7) + 256 * ((c6 + c7) + 256 * c7)))))) := by rw [q3, q2]; omega
  have q5 : (a3 + a3 / 256 + (a3 + a3 / 256) / 65536) / 4294967296 = (c4 + c5 + c6 + c7) + 256 * ((c5 + c6 + c7) + 256 * ((c6 + c7) + 256 * c7)) := by rw [q4]; exact dC (by omega) (by omega) (by omega) (by omega)
  rw [q5, q4]
  generalize (c1 + c2 + c3 + c4) + 256 * ((c2 + c3 + c4 + c5) + 256 * ((c3 + c4 + c5 + c6) + 256 * ((c4 + c5 + c6 + c7) + 256 * ((c5 + c6 + c7) + 256 * ((c6 + c7) + 256 * c7))))) = U
  generalize (c5 + c6 + c7) + 256 * ((c6 + c7) + 256 * c7) = V
  clear q1 q2 q3 q4 q5 hX h
  rw [show (2 : Nat) ^ 7 = 128 from rfl, show (2 : Nat) ^ 32 = 4294967296 from rfl, Nat.mod_mod_of_dvd _ (by decide : 128 ∣ 4294967296)]
  omega
theorem pop_swar {w x1 x2 x3 x4 x5 x6 : Int64} (e1 : x1 = w - (((w : Int64).toUInt64 >>> ((1 : Int32).toInt64.toUInt64 &&& Int64.toUInt64 63)).toInt64 &&& 6148914691236517205))
    (e2 : x2 = (x1 &&& 3689348814741910323) + (((x1 : Int64).toUInt64 >>> ((2 : Int32).toInt64.toUInt64 &&& Int64.toUInt64 63)).toInt64 &&& 3689348814741910323))
    (e3 : x3 = (x2 + ((x2 : Int64).toUInt64 >>> ((4 : Int32).toInt64.toUInt64 &&& Int64.toUInt64 63)).toInt64) &&& 1085102592571150095)
    (e4 : x4 = x3 + ((x3 : Int64).toUInt64 >>> ((8 : Int32).toInt64.toUInt64 &&& Int64.toUInt64 63)).toInt64)
    (e5 : x5 = x4 + ((x4 : Int64).toUInt64 >>> ((16 : Int32).toInt64.toUInt64 &&& Int64.toUInt64 63)).toInt64)
    (e6 : x6 = x5 + ((x5 : Int64).toUInt64 >>> ((32 : Int32).toInt64.toUInt64 &&& Int64.toUInt64 63)).toInt64) : x6.toInt32 &&& 127 = nI (popL w) := by
  obtain ⟨n, hn, rfl⟩ := wb_of w
  have hsh : ∀ (a : Nat), a < 2 ^ 64 → ((lN a).toUInt64 >>> ((1 : Int32).toInt64.toUInt64 &&& Int64.toUInt64 63)).toInt64 = lN (a / 2) ∧ ((lN a).toUInt64 >>> ((2 : Int32).toInt64.toUInt64 &&& Int64.toUInt64 63)).toInt64 = lN (a / 4) ∧ ((lN a).toUInt64 >>> ((4 : Int32).toInt64.toUInt64 &&& Int64.toUInt64 63)).toInt64 = lN (a / 16) ∧ ((lN a).toUInt64 >>> ((8 : Int32).toInt64.toUInt64 &&& Int64.toUInt64 63)).toInt64 = lN (a / 256) ∧ ((lN a).toUInt64 >>> ((16 : Int32).toInt64.toUInt64 &&& Int64.toUInt64 63)).toInt64 = lN (a / 65536) ∧ ((lN a).toUInt64 >>> ((32 : Int32).toInt64.toUInt64 &&& Int64.toUInt64 63)).toInt64 = lN (a / 4294967296) :=
    fun a ha => ⟨wb_shr (k := 1) ha (by decide), wb_shr (k := 2) ha (by decide), wb_shr (k := 4) ha (by decide), wb_shr (k := 8) ha (by decide), wb_shr (k := 16) ha (by decide), wb_shr (k := 32) ha (by decide)⟩
  have hand : ∀ a b : Nat, a &&& b ≤ a := fun a b => Nat.and_le_left
  have hand2 : ∀ a b : Nat, a &&& b ≤ b := fun a b => Nat.and_le_right
  obtain ⟨a1, ha1⟩ : ∃ a1, a1 = n - (n / 2 &&& 6148914691236517205) := ⟨_, rfl⟩
  have l1 : a1 < 2 ^ 64 := by omega
  have h1 : x1 = lN a1 := by
    rw [e1, (hsh n hn).1, show (6148914691236517205 : Int64) = lN 6148914691236517205 from rfl, wb_and (by omega) (by decide), lN_sub (Nat.le_trans (hand _ _) (by omega)), ha1]
  subst h1
  obtain ⟨a2, ha2⟩ : ∃ a2, a2 = (a1 &&& 3689348814741910323) + (a1 / 4 &&& 3689348814741910323) := ⟨_, rfl⟩
  have l2 : a2 ≤ 7378697629483820646 := by
    have := hand2 a1 3689348814741910323
    have := hand2 (a1 / 4) 3689348814741910323
    omega
  have h2 : x2 = lN a2 := by
    rw [e2, (hsh a1 l1).2.1, show (3689348814741910323 : Int64) = lN 3689348814741910323 from rfl, wb_and l1 (by decide), wb_and (by omega) (by decide), lN_add, ha2]
  subst h2
  obtain ⟨a3, ha3⟩ : ∃ a3, a3 = (a2 + a2 / 16) &&& 1085102592571150095 := ⟨_, rfl⟩
  have l3 : a3 ≤ 1085102592571150095 := by rw [ha3]; exact hand2 _ _
  have h3 : x3 = lN a3 := by
    rw [e3, (hsh a2 (by omega)).2.2.1, lN_add, show (1085102592571150095 : Int64) = lN 1085102592571150095 from rfl, wb_and (by omega) (by decide), ha3]
  subst h3
  have h4 : x4 = lN (a3 + a3 / 256) := by rw [e4, (hsh a3 (by omega)).2.2.2.1, lN_add]
  subst h4
  have h5 : x5 = lN (a3 + a3 / 256 + (a3 + a3 / 256) / 65536) := by rw [e5, (hsh _ (by omega)).2.2.2.2.1, lN_add]
  subst h5
  have h6 : x6 = lN (a3 + a3 / 256 + (a3 + a3 / 256) / 65536 + (a3 + a3 / 256 + (a3 + a3 / 256) / 65536) / 4294967296) := by rw [e6, (hsh _ (by omega)).2.2.2.2.2, lN_add]
  obtain ⟨c0, c1, c2, c3, c4, c5, c6, c7, hc, hsum, hsw⟩ := swar_8 hn
  have hq : swar n 6148914691236517205 3689348814741910323 1085102592571150095 = a3 := by rw [ha3, ha2, ha1]; rfl
  rw [hq] at hsw
  have hp : popL (lN n) = c0 + c1 + c2 + c3 + c4 + c5 + c6 + c7 := by
    rw [hsum]
    refine cnt_congr 64 (fun i hi => ?_)
    show (BitVec.ofNat 64 n).getLsbD i = n.testBit i
    rw [BitVec.getLsbD_ofNat]
    simp [hi]
  rw [h6, lN_i, pk_and _ 7 (by decide), hp]
  congr 1
  show (BitVec.ofNat 32 _).toNat % _ = _
  rw [BitVec.toNat_ofNat]
  exact pop_fin hc.1 hc.2.1 hc.2.2.1 hc.2.2.2.1 hc.2.2.2.2.1 hc.2.2.2.2.2.1 hc.2.2.2.2.2.2.1 hc.2.2.2.2.2.2.2 hsw

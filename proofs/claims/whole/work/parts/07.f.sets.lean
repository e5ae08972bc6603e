theorem start_ex {x : Int32} (h : ¬ 600 ≤ x) : ∃ a : Nat, a < 600 ∧ (if x < 0 then (0 : Int32) else x) = nI a ∧ a = (max x.toInt 0).toNat := by
  rw [i_le] at h
  have e : (600 : Int32).toInt = 600 := rfl
  have e0 : (0 : Int32).toInt = 0 := rfl
  refine ⟨_, ?_, ?_, rfl⟩
  · omega
  · by_cases c : x < 0
    · rw [if_pos c]
      rw [i_lt] at c
      rw [show (max x.toInt 0).toNat = 0 by omega]; rfl
    · rw [if_neg c]
      rw [i_lt] at c
      rw [i_eq, nI_toInt (by omega)]; omega
theorem ge600 {x : Int32} (h : 600 ≤ x) : 600 ≤ x.toInt := by
  rw [i_le] at h
  exact h
theorem min2_nI {a b : Nat} (ha : a < 2 ^ 31) (hb : b < 2 ^ 31) : (if nI b < nI a then nI b else nI a) = nI (min a b) := by
  by_cases h : b < a
  · rw [if_pos (nI_lt h ha), Nat.min_eq_right (by omega)]
  · rw [if_neg (nI_nlt (by omega) hb), Nat.min_eq_left (by omega)]
theorem shl6 {w : Nat} (h : w < 1000) : nI w <<< ((6 : Int32) &&& 31) = nI (64 * w) := by
  rw [pk_shlN _ 6 (by decide) (by omega), Nat.mul_comm]
theorem bits_u {R R2 top top2 row row2 w a : Nat} {S S2 : Nat → Nat → Bool} {f f2 : Nat → Int64} {X : Int64} (h : sRep R S f top) (h2 : sRep R2 S2 f2 top2) (hr : row < R) (hr2 : row2 < R2) (hw : w < 10) (hc : ¬ nI w = nI ((a + 1) / 64)) (hX : X = f (10 * row + w) &&& f2 (10 * row2 + w)) (hwa : (a + 1) / 64 ≤ w) (ha : a < 2 ^ 31) : ∀ i, i < 64 → bitL X i = (S row (64 * w + i) && S2 row2 (64 * w + i) && decide (a + 1 ≤ 64 * w + i)) := by
  intro i hi
  have hne : ¬ w = (a + 1) / 64 := fun q => hc (by rw [q])
  rw [hX, bit_and, h.2.1 row hr w hw i hi, h2.2.1 row2 hr2 w hw i hi, show decide (a + 1 ≤ 64 * w + i) = true from decide_eq_true (by omega), Bool.and_true]
theorem bits_m {R R2 top top2 row row2 w a : Nat} {S S2 : Nat → Nat → Bool} {f f2 : Nat → Int64} {X Y : Int64} (h : sRep R S f top) (h2 : sRep R2 S2 f2 top2) (hr : row < R) (hr2 : row2 < R2) (hw : w < 10) (hc : nI w = nI ((a + 1) / 64)) (hX : X = f (10 * row + w) &&& f2 (10 * row2 + w)) (hY : Y = X &&& ((-1 : Int64) <<< ((nI (a + 1)).toInt64 &&& 63))) (ha : a < 2 ^ 30) : ∀ i, i < 64 → bitL Y i = (S row (64 * w + i) && S2 row2 (64 * w + i) && decide (a + 1 ≤ 64 * w + i)) := by
  intro i hi
  have he : w = (a + 1) / 64 := (nI_eq (by omega) (by omega)).mp hc
  rw [hY, bit_and, bit_shm (by omega) hi, hX, bit_and, h.2.1 row hr w hw i hi, h2.2.1 row2 hr2 w hw i hi]
  congr 1
  apply decide_eq_decide.mpr
  omega
theorem no_more {P : Nat → Bool} {a w : Nat} {X : Int64} (hno : ∀ y, a + 1 ≤ y → y < 64 * w → P y = false) (hb : ∀ i, i < 64 → bitL X i = (P (64 * w + i) && decide (a + 1 ≤ 64 * w + i))) (h0 : X = 0) : ∀ y, a + 1 ≤ y → y < 64 * (w + 1) → P y = false := by
  intro y h1 h2
  by_cases e : y < 64 * w
  · exact hno y h1 e
  · have q := hb (y - 64 * w) (by omega)
    rw [h0, bitL_0, show 64 * w + (y - 64 * w) = y by omega, show decide (a + 1 ≤ y) = true from decide_eq_true h1, Bool.and_true] at q
    exact q.symm
theorem least_hit {P : Nat → Bool} {a w : Nat} {X : Int64} {x : Int32} (hno : ∀ y, a + 1 ≤ y → y < 64 * w → P y = false) (hb : ∀ i, i < 64 → bitL X i = (P (64 * w + i) && decide (a + 1 ≤ 64 * w + i))) (h0 : ¬ X = 0) (hw : w < 10) (ham : a = (max x.toInt 0).toNat) (hc : ¬ 600 ≤ x) : nI (64 * w) + nI (popL ((X &&& -X) - 1)) = nI (sLeast P x) := by
  rw [i_le] at hc
  have e600 : (600 : Int32).toInt = 600 := rfl
  obtain ⟨j, hj, h1, h2⟩ := low_ex h0
  rw [low_pop hj h1 h2, nI_add, sLeast, if_neg (by omega), ← ham]
  have q := hb j hj
  rw [h1] at q
  obtain ⟨q1, q2⟩ := Bool.and_eq_true_iff.mp q.symm
  have q2 := of_decide_eq_true q2
  congr 1
  refine (lstF_hit q2 (by omega) q1 (fun y y1 y2 => ?_)).symm
  by_cases e : y < 64 * w
  · exact hno y y1 e
  · have z := hb (y - 64 * w) (by omega)
    rw [h2 _ (by omega), show 64 * w + (y - 64 * w) = y by omega, show decide (a + 1 ≤ y) = true from decide_eq_true y1, Bool.and_true] at z
    exact z.symm
theorem least_none {R R2 top top2 row row2 w a : Nat} {S S2 : Nat → Nat → Bool} {f f2 : Nat → Int64} {x : Int32} (h : sRep R S f top) (h2 : sRep R2 S2 f2 top2) (hr : row < R) (hr2 : row2 < R2) (hno : ∀ y, a + 1 ≤ y → y < 64 * w → (S row y && S2 row2 y) = false) (hw : min top top2 < w) (ham : a = (max x.toInt 0).toNat) (hc : ¬ 600 ≤ x) : (0 : Int32) = nI (sLeast (fun y => S row y && S2 row2 y) x) := by
  rw [i_le] at hc
  have e600 : (600 : Int32).toInt = 600 := rfl
  rw [sLeast, if_neg (by omega), ← ham, lstF_none]
  · rfl
  · intro y y1 y2
    by_cases e : y < 64 * w
    · exact hno y y1 e
    · cases q1 : S row y
      · rfl
      · cases q2 : S2 row2 y
        · rfl
        · have := h.2.2 row hr y q1
          have := h2.2.2 row2 hr2 y q2
          omega
set_option maxHeartbeats 4000000 in
set_option maxRecDepth 100000 in
theorem c_X5_leastShared (l : Launch) (G : rG) {n p R q R2 : Nat} {ad : Nat → Nat} {en : Nat → va_E} {S S2 : Nat → Nat → Bool} (h : SetsAt G n p ad en R S) (h2 : SetsAt G n q ad en R2 S2) {row row2 : Nat} (hrow : row < R) (hrow2 : row2 < R2) (x : Int32) : CI l G yX5_leastShared uX5_leastShared (1) (21) (0) (0) [.ref (ad p), .int (nI row), .ref (ad q), .int (nI row2), .int (x)] (n) (n) ad en (roV ad en (nI (sLeast (fun y => S row y && S2 row2 y) x))) := by
  intro sz
  refine rMet (Qc := qI G (n) (roV ad en (nI (sLeast (fun y => S row y && S2 row2 y) x)))) (cc := cX5_leastShared) (maxL := 10) (ret := (some .int)) (by decide) rfl (Nat.le_of_ble_eq_true rfl) ?_
  intro pP eE sS mM aA bB tT cC ls A Q hc hK hsz hA hs hl hQ
  obtain ⟨hx, hb, hr, hts, hown, hlk, hnm, hml⟩ := hc
  have hl : lv_has ls 10 [(0, .ref (ad p)), (1, .int (nI row)), (2, .ref (ad q)), (3, .int (nI row2)), (4, .int (x))] := hl
  have hss := h
  obtain ⟨hpn, hR, f, top, he0, he1, hrep⟩ := hss
  have htop := hrep.1
  have hss2 := h2
  obtain ⟨hpn2, hR2, f2, top2, hq0, hq1, hrep2⟩ := hss2
  have htop2 := hrep2.1
  refine lv_iload hx hb dX5_leastShared_0 (lv_at hl 4 rfl) ?_
  refine lv_sipush (v := 600) hx hb dX5_leastShared_2 (by decide) ?_
  refine lv_icmp_ge (tgt := 24) hx hb dX5_leastShared_5 (by decide) (fun c5 => ?_) (fun c5 => ?_)
  · skip
    refine lv_iconst (v := 0) hx hb dX5_leastShared_24 (by decide) ?_
    refine r_iret (v := 0) (mc := 0) (ms := 0) hx hb hr hlk hs (Nat.le_refl _) (Nat.le_refl _) dX5_leastShared_25 hQ ?_
    exact roV.rf (by rw [sLeast, if_pos (ge600 c5)]; rfl)
  · skip
    obtain ⟨a, ha, hax, ham⟩ := start_ex c5
    refine lv_aload_n hx hb dX5_leastShared_8 rfl (lv_at hl 0 rfl) ?_
    refine lv_iload_n hx hb dX5_leastShared_9 rfl (lv_at hl 1 rfl) ?_
    refine r_callViR (ci := 5) (As := [.int (nI row)]) hx hb hml hown hts hK hA hs (p) (by omega) he0 rfl rfl (c_X5_isRow l G h hrow) (cwV 1 hts (tbV w_ml_RX5_37 w_im_yX5_isRow w_se_yX5_isRow w_ini_RX5 w_cd_yX5_isRow) rfl rfl rfl (by decide +kernel) ⟨Nat.le_of_ble_eq_true rfl, Nat.le_of_ble_eq_true rfl⟩) rfl hl.1 rfl (Nat.le_of_ble_eq_true rfl) dX5_leastShared_10 ⟨Nat.zero_le _, Nat.zero_le _⟩ (fun H locs hs => ?_)
    refine lv_if_eq (tgt := 24) hx hb dX5_leastShared_13 (by decide) (fun c13 => absurd c13 (by decide)) (fun _ => ?_)
    refine lv_aload_n hx hb dX5_leastShared_16 rfl (lv_at hl 2 rfl) ?_
    refine lv_iload_n hx hb dX5_leastShared_17 rfl (lv_at hl 3 rfl) ?_
    refine r_callViR (ci := 5) (As := [.int (nI row2)]) hx hb hml hown hts hK hA hs (q) (by omega) hq0 rfl rfl (c_X5_isRow l G h2 hrow2) (cwV 1 hts (tbV w_ml_RX5_37 w_im_yX5_isRow w_se_yX5_isRow w_ini_RX5 w_cd_yX5_isRow) rfl rfl rfl (by decide +kernel) ⟨Nat.le_of_ble_eq_true rfl, Nat.le_of_ble_eq_true rfl⟩) rfl hl.1 rfl (Nat.le_of_ble_eq_true rfl) dX5_leastShared_18 ⟨Nat.zero_le _, Nat.zero_le _⟩ (fun H locs hs => ?_)
    refine lv_if_ne (tgt := 26) hx hb dX5_leastShared_21 (by decide) (fun _ => ?_) (fun c21 => absurd c21 (by decide))
    refine lv_iload hx hb dX5_leastShared_26 (lv_at hl 4 rfl) ?_
    refine lv_iconst (v := 0) hx hb dX5_leastShared_28 (by decide) ?_
    refine va_mmax hx hb (hml.trans hl.1.symm) hown (hts _ w_ml_RX5_19) (hts _ w_sta_Lib_Math_max_name) (hts _ w_ini_java_lang_Math) (hts _ w_cd_Lib_Math_max_name) (Nat.le_of_ble_eq_true rfl) (Nat.le_of_ble_eq_true rfl) (Nat.zero_le _) (Nat.zero_le _) dX5_leastShared_29 ?_
    refine r_topi (y := nI a) (hax) ?_
    refine lv_iconst (v := 1) hx hb dX5_leastShared_32 (by decide) ?_
    refine lv_iadd hx hb dX5_leastShared_33 ?_
    refine r_topi (y := nI (a + 1)) (nI_add _ _) ?_
    refine lv_istore (lv' := [(5, .int (nI (a + 1))), (0, .ref (ad p)), (1, .int (nI row)), (2, .ref (ad q)), (3, .int (nI row2)), (4, .int (x))]) hx hb dX5_leastShared_34 hl (by decide) rfl (fun ls hl => ?_)
    refine lv_aload_n hx hb dX5_leastShared_36 rfl (lv_at hl 1 rfl) ?_
    refine r_get (ci := 5) (v := .int (nI top)) (C := RX5) (T := TX5) (N := 2) hx hb hts inlX5 hown hK hs (p) (by omega) he0 rfl 1 (by decide) (hts _ w_fl_RX5_9) rfl dX5_leastShared_37 ?_
    refine lv_aload_n hx hb dX5_leastShared_40 rfl (lv_at hl 3 rfl) ?_
    refine r_get (ci := 5) (v := .int (nI top2)) (C := RX5) (T := TX5) (N := 2) hx hb hts inlX5 hown hK hs (q) (by omega) hq0 rfl 1 (by decide) (hts _ w_fl_RX5_9) rfl dX5_leastShared_41 ?_
    refine va_mmin hx hb (hml.trans hl.1.symm) hown (hts _ w_ml_RX5_57) (hts _ w_sta_Lib_Math_min_name) (hts _ w_ini_java_lang_Math) (hts _ w_cd_Lib_Math_min_name) (Nat.le_of_ble_eq_true rfl) (Nat.le_of_ble_eq_true rfl) (Nat.zero_le _) (Nat.zero_le _) dX5_leastShared_44 ?_
    refine r_topi (y := nI (min top top2)) (min2_nI (by omega) (by omega)) ?_
    refine lv_istore (lv' := [(6, .int (nI (min top top2))), (5, .int (nI (a + 1))), (0, .ref (ad p)), (1, .int (nI row)), (2, .ref (ad q)), (3, .int (nI row2)), (4, .int (x))]) hx hb dX5_leastShared_47 hl (by decide) rfl (fun ls hl => ?_)
    refine lv_iload hx hb dX5_leastShared_49 (lv_at hl 1 rfl) ?_
    refine lv_bipush (v := 6) hx hb dX5_leastShared_51 (by decide) ?_
    refine lv_ishr hx hb dX5_leastShared_53 ?_
    refine r_topi (y := nI ((a + 1) / 64)) (pk_shrN (by omega) _ 6 (by decide)) ?_
    refine lv_istore (lv' := [(7, .int (nI ((a + 1) / 64))), (6, .int (nI (min top top2))), (5, .int (nI (a + 1))), (0, .ref (ad p)), (1, .int (nI row)), (2, .ref (ad q)), (3, .int (nI row2)), (4, .int (x))]) hx hb dX5_leastShared_54 hl (by decide) rfl (fun ls hl => ?_)
    suffices LOOP56 : ∀ (fu56 : Nat) (w : Nat) (H : Heap) (locs : List Loc) (ls : Array Slot), ((a + 1) / 64 ≤ w ∧ w ≤ 10) → (∀ y, a + 1 ≤ y → y < 64 * w → (S row y && S2 row2 y) = false) → 10 - w < fu56 → rS G A sS.heap (n) ad en H locs → lv_has ls 10 [(0, .ref (ad p)), (1, .int (nI row)), (2, .ref (ad q)), (3, .int (nI row2)), (4, .int (x)), (5, .int (nI (a + 1))), (6, .int (nI (min top top2))), (7, .int (nI w))] → W pP l eE (rRm (1) (21) (0) (0)) sS mM aA bB tT cC H locs (0) (0) Q (F0 mM 56 ls []) from LOOP56 _ ((a + 1) / 64) _ _ _ (⟨Nat.le_refl _, by omega⟩) (fun y h1 h2 => by omega) (Nat.lt_succ_self _) hs (lv_sub hl [3, 4, 5, 6, 7, 2, 1, 0] rfl)
    intro fu56
    induction fu56 with
    | zero => intro w H locs ls iw hno hfu; exact absurd hfu (Nat.not_lt_zero _)
    | succ fu56 ih56 => ?_
    intro w H locs ls iw hno hfu56 hs hl
    refine lv_iload hx hb dX5_leastShared_56 (lv_at hl 7 rfl) ?_
    refine lv_iload hx hb dX5_leastShared_58 (lv_at hl 6 rfl) ?_
    refine lv_icmp_gt (tgt := 142) hx hb dX5_leastShared_60 (by decide) (fun c60 => ?_) (fun c60 => ?_)
    · skip
      have hwm : min top top2 < w := (nI_ltI (by omega) (by omega)).mp c60
      refine lv_iconst (v := 0) hx hb dX5_leastShared_142 (by decide) ?_
      refine r_iret (v := 0) (mc := 0) (ms := 0) hx hb hr hlk hs (Nat.le_refl _) (Nat.le_refl _) dX5_leastShared_143 hQ ?_
      exact roV.rf (least_none hrep hrep2 hrow hrow2 hno hwm ham c5)
    · skip
      have hwm : w ≤ min top top2 := Nat.le_of_not_lt (fun q => c60 ((nI_ltI (by omega) (by omega)).mpr q))
      refine lv_aload_n hx hb dX5_leastShared_63 rfl (lv_at hl 0 rfl) ?_
      refine r_get (ci := 5) (v := .ref (ad (p + 1))) (C := RX5) (T := TX5) (N := 2) hx hb hts inlX5 hown hK hs (p) (by omega) he0 rfl 0 (by decide) (hts _ w_fl_RX5_15) rfl dX5_leastShared_64 ?_
      refine lv_iload_n hx hb dX5_leastShared_67 rfl (lv_at hl 1 rfl) ?_
      refine lv_bipush (v := 10) hx hb dX5_leastShared_68 (by decide) ?_
      refine lv_imul hx hb dX5_leastShared_70 ?_
      refine lv_iload hx hb dX5_leastShared_71 (lv_at hl 7 rfl) ?_
      refine lv_iadd hx hb dX5_leastShared_73 ?_
      refine r_lald_N (t := 10 * row + w) hx hb hK hs (p + 1) (by omega) he1 (by simp only [ l0, l1, l2, l3, l4, l5, l6, l10, l600, pk_mul, nI_add]; first | done | exact congrArg nI (by omega)) (by omega) (by omega) dX5_leastShared_74 ?_
      refine lv_aload_n hx hb dX5_leastShared_75 rfl (lv_at hl 2 rfl) ?_
      refine r_get (ci := 5) (v := .ref (ad (q + 1))) (C := RX5) (T := TX5) (N := 2) hx hb hts inlX5 hown hK hs (q) (by omega) hq0 rfl 0 (by decide) (hts _ w_fl_RX5_15) rfl dX5_leastShared_76 ?_
      refine lv_iload_n hx hb dX5_leastShared_79 rfl (lv_at hl 3 rfl) ?_
      refine lv_bipush (v := 10) hx hb dX5_leastShared_80 (by decide) ?_
      refine lv_imul hx hb dX5_leastShared_82 ?_
      refine lv_iload hx hb dX5_leastShared_83 (lv_at hl 7 rfl) ?_
      refine lv_iadd hx hb dX5_leastShared_85 ?_
      refine r_lald_N (t := 10 * row2 + w) hx hb hK hs (q + 1) (by omega) hq1 (by simp only [ l0, l1, l2, l3, l4, l5, l6, l10, l600, pk_mul, nI_add]; first | done | exact congrArg nI (by omega)) (by omega) (by omega) dX5_leastShared_86 ?_
      refine lv_land hx hb dX5_leastShared_87 ?_
      refine lv_topl (fun x8a ex8a => ?_)
      refine lv_lstore (lv' := [(8, .long (x8a)), (0, .ref (ad p)), (1, .int (nI row)), (2, .ref (ad q)), (3, .int (nI row2)), (4, .int (x)), (5, .int (nI (a + 1))), (6, .int (nI (min top top2))), (7, .int (nI w))]) hx hb dX5_leastShared_88 hl (by decide) rfl (fun ls hl => ?_)
      refine lv_iload hx hb dX5_leastShared_90 (lv_at hl 8 rfl) ?_
      refine lv_iload hx hb dX5_leastShared_92 (lv_at hl 6 rfl) ?_
      refine lv_bipush (v := 6) hx hb dX5_leastShared_94 (by decide) ?_
      refine lv_ishr hx hb dX5_leastShared_96 ?_
      refine r_topi (y := nI ((a + 1) / 64)) (pk_shrN (by omega) _ 6 (by decide)) ?_
      refine lv_icmp_ne (tgt := 111) hx hb dX5_leastShared_97 (by decide) (fun c97 => ?_) (fun c97 => ?_)
      · skip
        have hbX : ∀ i, i < 64 → bitL x8a i = (S row (64 * w + i) && S2 row2 (64 * w + i) && decide (a + 1 ≤ 64 * w + i)) := bits_u hrep hrep2 hrow hrow2 (by omega) c97 ex8a iw.1 (by omega)
        refine lv_lload hx hb dX5_leastShared_111 (lv_at hl 0 rfl) ?_
        refine lv_lconst (v := 0) hx hb dX5_leastShared_113 (by decide) ?_
        refine W.lcmp hx hb dX5_leastShared_114 ?_
        refine lv_if_eq (tgt := 136) hx hb dX5_leastShared_115 (by decide) (fun c115 => ?_) (fun c115 => ?_)
        · skip
          refine lv_iinc (v := nI (w + 1)) (lv' := [(7, .int (nI (w + 1))), (8, .long (x8a)), (0, .ref (ad p)), (1, .int (nI row)), (2, .ref (ad q)), (3, .int (nI row2)), (4, .int (x)), (5, .int (nI (a + 1))), (6, .int (nI (min top top2)))]) hx hb dX5_leastShared_136 hl (k := 8) rfl (nI_add w 1) (by decide) rfl (fun ls hl => ?_)
          refine lv_goto (tgt := 56) hx hb dX5_leastShared_139 (by decide) ?_
          exact ih56 (w + 1) _ _ _ (⟨by omega, by omega⟩) (no_more hno hbX ((lg_cmp_eq _ _).mp c115)) (by omega) hs (lv_sub hl [2, 3, 4, 5, 6, 7, 8, 0] rfl)
        · skip
          refine lv_iload hx hb dX5_leastShared_118 (lv_at hl 8 rfl) ?_
          refine lv_bipush (v := 6) hx hb dX5_leastShared_120 (by decide) ?_
          refine lv_ishl hx hb dX5_leastShared_122 ?_
          refine r_topi (y := nI (64 * w)) (shl6 (by omega)) ?_
          refine lv_lload hx hb dX5_leastShared_123 (lv_at hl 0 rfl) ?_
          refine lv_lload hx hb dX5_leastShared_125 (lv_at hl 0 rfl) ?_
          refine lv_lneg hx hb dX5_leastShared_127 ?_
          refine lv_land hx hb dX5_leastShared_128 ?_
          refine lv_lconst (v := 1) hx hb dX5_leastShared_129 (by decide) ?_
          refine lv_lsub hx hb dX5_leastShared_130 ?_
          refine r_callSiR (As := [.long (((x8a) &&& (-(x8a))) - (1))]) hx hb hml hown hts hK hA hs (c_J13_bitCount_95d88 l G (((x8a) &&& (-(x8a))) - (1))) (va_cwS 1 hts (tbS w_ml_RX5_51 w_sta_yJ13_bitCount_95d88 w_ini_RJ13 w_cd_yJ13_bitCount_95d88) rfl rfl rfl (by decide +kernel) ⟨Nat.le_of_ble_eq_true rfl, Nat.le_of_ble_eq_true rfl⟩) rfl hl.1 rfl (Nat.le_of_ble_eq_true rfl) dX5_leastShared_131 ⟨Nat.zero_le _, Nat.zero_le _⟩ (fun H locs hs => ?_)
          refine lv_iadd hx hb dX5_leastShared_134 ?_
          refine r_iret (v := (nI (64 * w)) + (nI (popL (((x8a) &&& (-(x8a))) - (1))))) (mc := 0) (ms := 0) hx hb hr hlk hs (Nat.le_refl _) (Nat.le_refl _) dX5_leastShared_135 hQ ?_
          exact roV.rf (least_hit hno hbX (fun q => c115 ((lg_cmp_eq _ _).mpr q)) (by omega) ham c5)
      · skip
        refine lv_lload hx hb dX5_leastShared_100 (lv_at hl 0 rfl) ?_
        refine lv_ldc2 (v := (-1)) hx hb hown (hts _ w_kl_RX5_35) dX5_leastShared_102 ?_
        refine lv_iload hx hb dX5_leastShared_105 (lv_at hl 6 rfl) ?_
        refine lv_lshl (v := ((-1) : Int64) <<< ((nI (a + 1) : Int32).toInt64 &&& 63)) hx hb dX5_leastShared_107 rfl ?_
        refine lv_land hx hb dX5_leastShared_108 ?_
        refine lv_topl (fun x8b ex8b => ?_)
        refine lv_lstore (lv' := [(8, .long (x8b)), (0, .ref (ad p)), (1, .int (nI row)), (2, .ref (ad q)), (3, .int (nI row2)), (4, .int (x)), (5, .int (nI (a + 1))), (6, .int (nI (min top top2))), (7, .int (nI w))]) hx hb dX5_leastShared_109 hl (by decide) rfl (fun ls hl => ?_)
        have hbX : ∀ i, i < 64 → bitL x8b i = (S row (64 * w + i) && S2 row2 (64 * w + i) && decide (a + 1 ≤ 64 * w + i)) := bits_m hrep hrep2 hrow hrow2 (by omega) c97 ex8a ex8b (by omega)
        refine lv_lload hx hb dX5_leastShared_111 (lv_at hl 0 rfl) ?_
        refine lv_lconst (v := 0) hx hb dX5_leastShared_113 (by decide) ?_
        refine W.lcmp hx hb dX5_leastShared_114 ?_
        refine lv_if_eq (tgt := 136) hx hb dX5_leastShared_115 (by decide) (fun c115 => ?_) (fun c115 => ?_)
        · skip
          refine lv_iinc (v := nI (w + 1)) (lv' := [(7, .int (nI (w + 1))), (8, .long (x8b)), (0, .ref (ad p)), (1, .int (nI row)), (2, .ref (ad q)), (3, .int (nI row2)), (4, .int (x)), (5, .int (nI (a + 1))), (6, .int (nI (min top top2)))]) hx hb dX5_leastShared_136 hl (k := 8) rfl (nI_add w 1) (by decide) rfl (fun ls hl => ?_)
          refine lv_goto (tgt := 56) hx hb dX5_leastShared_139 (by decide) ?_
          exact ih56 (w + 1) _ _ _ (⟨by omega, by omega⟩) (no_more hno hbX ((lg_cmp_eq _ _).mp c115)) (by omega) hs (lv_sub hl [2, 3, 4, 5, 6, 7, 8, 0] rfl)
        · skip
          refine lv_iload hx hb dX5_leastShared_118 (lv_at hl 8 rfl) ?_
          refine lv_bipush (v := 6) hx hb dX5_leastShared_120 (by decide) ?_
          refine lv_ishl hx hb dX5_leastShared_122 ?_
          refine r_topi (y := nI (64 * w)) (shl6 (by omega)) ?_
          refine lv_lload hx hb dX5_leastShared_123 (lv_at hl 0 rfl) ?_
          refine lv_lload hx hb dX5_leastShared_125 (lv_at hl 0 rfl) ?_
          refine lv_lneg hx hb dX5_leastShared_127 ?_
          refine lv_land hx hb dX5_leastShared_128 ?_
          refine lv_lconst (v := 1) hx hb dX5_leastShared_129 (by decide) ?_
          refine lv_lsub hx hb dX5_leastShared_130 ?_
          refine r_callSiR (As := [.long (((x8b) &&& (-(x8b))) - (1))]) hx hb hml hown hts hK hA hs (c_J13_bitCount_95d88 l G (((x8b) &&& (-(x8b))) - (1))) (va_cwS 1 hts (tbS w_ml_RX5_51 w_sta_yJ13_bitCount_95d88 w_ini_RJ13 w_cd_yJ13_bitCount_95d88) rfl rfl rfl (by decide +kernel) ⟨Nat.le_of_ble_eq_true rfl, Nat.le_of_ble_eq_true rfl⟩) rfl hl.1 rfl (Nat.le_of_ble_eq_true rfl) dX5_leastShared_131 ⟨Nat.zero_le _, Nat.zero_le _⟩ (fun H locs hs => ?_)
          refine lv_iadd hx hb dX5_leastShared_134 ?_
          refine r_iret (v := (nI (64 * w)) + (nI (popL (((x8b) &&& (-(x8b))) - (1))))) (mc := 0) (ms := 0) hx hb hr hlk hs (Nat.le_refl _) (Nat.le_refl _) dX5_leastShared_135 hQ ?_
          exact roV.rf (least_hit hno hbX (fun q => c115 ((lg_cmp_eq _ _).mpr q)) (by omega) ham c5)

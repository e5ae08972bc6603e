theorem in_yes {x : Int32} (h1 : ¬ x ≤ 0) (h2 : ¬ 600 < x) : (1 : Int32) = b2i (inS x) := by
  rw [i_le] at h1
  rw [i_lt] at h2
  have e0 : (0 : Int32).toInt = 0 := rfl
  have e1 : (600 : Int32).toInt = 600 := rfl
  rw [show inS x = true from decide_eq_true (by omega)]; rfl
theorem in_no1 {x : Int32} (h1 : x ≤ 0) : (0 : Int32) = b2i (inS x) := by
  rw [i_le] at h1
  have e0 : (0 : Int32).toInt = 0 := rfl
  rw [show inS x = false from decide_eq_false (by omega)]; rfl
theorem in_no2 {x : Int32} (h1 : 600 < x) : (0 : Int32) = b2i (inS x) := by
  rw [i_lt] at h1
  have e0 : (600 : Int32).toInt = 600 := rfl
  rw [show inS x = false from decide_eq_false (by omega)]; rfl
theorem has_f {R top : Nat} {S : Nat → Nat → Bool} {f : Nat → Int64} (h : sRep R S f top) {row k : Nat} (hr : row < R) (hk1 : 1 ≤ k) (hk2 : k ≤ 600) (c : lg_cmp (((f (10 * row + k / 64)).toUInt64 >>> ((nI k).toInt64.toUInt64 &&& Int64.toUInt64 63)).toInt64 &&& 1) 0 = 0) : (0 : Int32) = b2i (inS (nI k) && S row (nI k).toInt.toNat) := by
  have c1 := (bit_has (by omega)).mp ((lg_cmp_eq _ _).mp c)
  rw [has_eq h hr hk2] at c1
  rw [nI_toInt (by omega), Int.toNat_natCast, c1, Bool.and_false]; rfl
theorem has_t {R top : Nat} {S : Nat → Nat → Bool} {f : Nat → Int64} (h : sRep R S f top) {row k : Nat} (hr : row < R) (hk1 : 1 ≤ k) (hk2 : k ≤ 600) (c : ¬ lg_cmp (((f (10 * row + k / 64)).toUInt64 >>> ((nI k).toInt64.toUInt64 &&& Int64.toUInt64 63)).toInt64 &&& 1) 0 = 0) : (1 : Int32) = b2i (inS (nI k) && S row (nI k).toInt.toNat) := by
  have c1 : ¬ bitL (f (10 * row + k / 64)) (k % 64) = false := fun q => c ((lg_cmp_eq _ _).mpr ((bit_has (by omega)).mpr q))
  rw [has_eq h hr hk2] at c1
  rw [nI_toInt (by omega), Int.toNat_natCast, ts_nf c1, inS_nI hk1 hk2]; rfl
set_option maxHeartbeats 4000000 in
set_option maxRecDepth 100000 in
theorem c_X5_isInside (l : Launch) (G : rG) {n p R : Nat} {ad : Nat → Nat} {en : Nat → va_E} {S : Nat → Nat → Bool} (h : SetsAt G n p ad en R S) {row : Nat} (hrow : row < R) (x : Int32) : CI l G yX5_isInside uX5_isInside (0) (0) (0) (0) [.ref (ad p), .int (nI row), .int (x)] (n) (n) ad en (roV ad en (b2i (inS x))) := by
  intro sz
  refine rMet (Qc := qI G (n) (roV ad en (b2i (inS x)))) (cc := cX5_isInside) (maxL := 3) (ret := (some .boolean)) (by decide) rfl (Nat.le_of_ble_eq_true rfl) ?_
  intro pP eE sS mM aA bB tT cC ls A Q hc hK hsz hA hs hl hQ
  obtain ⟨hx, hb, hr, hts, hown, hlk, hnm, hml⟩ := hc
  have hl : lv_has ls 3 [(0, .ref (ad p)), (1, .int (nI row)), (2, .int (x))] := hl
  have hss := h
  obtain ⟨hpn, hR, f, top, he0, he1, hrep⟩ := hss
  have htop := hrep.1
  refine lv_iload_n hx hb dX5_isInside_0 rfl (lv_at hl 2 rfl) ?_
  refine lv_if_le (tgt := 31) hx hb dX5_isInside_1 (by decide) (fun c1 => ?_) (fun c1 => ?_)
  · skip
    refine lv_iconst (v := 0) hx hb dX5_isInside_31 (by decide) ?_
    refine r_zret (v := 0) (mc := 0) (ms := 0) hx hb hr hlk hs (Nat.le_refl _) (Nat.le_refl _) dX5_isInside_32 ?_ hQ ?_
    · first | exact Or.inl rfl | exact Or.inr rfl | exact b2i_z _
    exact roV.rf (in_no1 c1)
  · skip
    refine lv_iload_n hx hb dX5_isInside_4 rfl (lv_at hl 2 rfl) ?_
    refine lv_sipush (v := 600) hx hb dX5_isInside_5 (by decide) ?_
    refine lv_icmp_gt (tgt := 31) hx hb dX5_isInside_8 (by decide) (fun c8 => ?_) (fun c8 => ?_)
    · skip
      refine lv_iconst (v := 0) hx hb dX5_isInside_31 (by decide) ?_
      refine r_zret (v := 0) (mc := 0) (ms := 0) hx hb hr hlk hs (Nat.le_refl _) (Nat.le_refl _) dX5_isInside_32 ?_ hQ ?_
      · first | exact Or.inl rfl | exact Or.inr rfl | exact b2i_z _
      exact roV.rf (in_no2 c8)
    · skip
      refine lv_iload_n hx hb dX5_isInside_11 rfl (lv_at hl 1 rfl) ?_
      refine lv_if_lt (tgt := 31) hx hb dX5_isInside_12 (by decide) (fun c12 => absurd c12 (nI_pos (by omega))) (fun _ => ?_)
      refine lv_iload_n hx hb dX5_isInside_15 rfl (lv_at hl 1 rfl) ?_
      refine lv_aload_n hx hb dX5_isInside_16 rfl (lv_at hl 0 rfl) ?_
      refine r_get (ci := 5) (v := .ref (ad (p + 1))) (C := RX5) (T := TX5) (N := 2) hx hb hts inlX5 hown hK hs (p) (by omega) he0 rfl 0 (by decide) (hts _ w_fl_RX5_15) rfl dX5_isInside_17 ?_
      refine r_alen (v := nI (10 * R)) hx hb hK hs (p + 1) 2 (by omega) he1 rfl rfl dX5_isInside_20 ?_
      refine lv_bipush (v := 10) hx hb dX5_isInside_21 (by decide) ?_
      refine lv_idiv hx hb dX5_isInside_23 (by decide) ?_
      refine r_topi (y := nI R) (div10 hR) ?_
      refine lv_icmp_ge (tgt := 31) hx hb dX5_isInside_24 (by decide) (fun c24 => absurd c24 (nI_ge hrow (by omega))) (fun _ => ?_)
      refine lv_iconst (v := 1) hx hb dX5_isInside_27 (by decide) ?_
      refine lv_goto (tgt := 32) hx hb dX5_isInside_28 (by decide) ?_
      refine r_zret (v := 1) (mc := 0) (ms := 0) hx hb hr hlk hs (Nat.le_refl _) (Nat.le_refl _) dX5_isInside_32 ?_ hQ ?_
      · first | exact Or.inl rfl | exact Or.inr rfl | exact b2i_z _
      exact roV.rf (in_yes c1 c8)

set_option maxHeartbeats 4000000 in
set_option maxRecDepth 100000 in
theorem c_X5_isRow (l : Launch) (G : rG) {n p R : Nat} {ad : Nat → Nat} {en : Nat → va_E} {S : Nat → Nat → Bool} (h : SetsAt G n p ad en R S) {row : Nat} (hrow : row < R) : CI l G yX5_isRow uX5_isRow (0) (0) (0) (0) [.ref (ad p), .int (nI row)] (n) (n) ad en (roV ad en 1) := by
  intro sz
  refine rMet (Qc := qI G (n) (roV ad en 1)) (cc := cX5_isRow) (maxL := 2) (ret := (some .boolean)) (by decide) rfl (Nat.le_of_ble_eq_true rfl) ?_
  intro pP eE sS mM aA bB tT cC ls A Q hc hK hsz hA hs hl hQ
  obtain ⟨hx, hb, hr, hts, hown, hlk, hnm, hml⟩ := hc
  have hl : lv_has ls 2 [(0, .ref (ad p)), (1, .int (nI row))] := hl
  have hss := h
  obtain ⟨hpn, hR, f, top, he0, he1, hrep⟩ := hss
  have htop := hrep.1
  refine lv_iload_n hx hb dX5_isRow_0 rfl (lv_at hl 1 rfl) ?_
  refine lv_if_lt (tgt := 20) hx hb dX5_isRow_1 (by decide) (fun c1 => absurd c1 (nI_pos (by omega))) (fun _ => ?_)
  refine lv_iload_n hx hb dX5_isRow_4 rfl (lv_at hl 1 rfl) ?_
  refine lv_aload_n hx hb dX5_isRow_5 rfl (lv_at hl 0 rfl) ?_
  refine r_get (ci := 5) (v := .ref (ad (p + 1))) (C := RX5) (T := TX5) (N := 2) hx hb hts inlX5 hown hK hs (p) (by omega) he0 rfl 0 (by decide) (hts _ w_fl_RX5_15) rfl dX5_isRow_6 ?_
  refine r_alen (v := nI (10 * R)) hx hb hK hs (p + 1) 2 (by omega) he1 rfl rfl dX5_isRow_9 ?_
  refine lv_bipush (v := 10) hx hb dX5_isRow_10 (by decide) ?_
  refine lv_idiv hx hb dX5_isRow_12 (by decide) ?_
  refine r_topi (y := nI R) (div10 hR) ?_
  refine lv_icmp_ge (tgt := 20) hx hb dX5_isRow_13 (by decide) (fun c13 => absurd c13 (nI_ge hrow (by omega))) (fun _ => ?_)
  refine lv_iconst (v := 1) hx hb dX5_isRow_16 (by decide) ?_
  refine lv_goto (tgt := 21) hx hb dX5_isRow_17 (by decide) ?_
  refine r_zret (v := 1) (mc := 0) (ms := 0) hx hb hr hlk hs (Nat.le_refl _) (Nat.le_refl _) dX5_isRow_21 ?_ hQ ?_
  · first | exact Or.inl rfl | exact Or.inr rfl | exact b2i_z _
  exact roV.rf rfl

set_option maxHeartbeats 4000000 in
set_option maxRecDepth 100000 in
theorem c_X5_has (l : Launch) (G : rG) {n p R : Nat} {ad : Nat → Nat} {en : Nat → va_E} {S : Nat → Nat → Bool} (h : SetsAt G n p ad en R S) {row : Nat} (hrow : row < R) (x : Int32) : CI l G yX5_has uX5_has (1) (22) (0) (0) [.ref (ad p), .int (nI row), .int (x)] (n) (n) ad en (roV ad en (b2i (inS x && S row x.toInt.toNat))) := by
  intro sz
  refine rMet (Qc := qI G (n) (roV ad en (b2i (inS x && S row x.toInt.toNat)))) (cc := cX5_has) (maxL := 3) (ret := (some .boolean)) (by decide) rfl (Nat.le_of_ble_eq_true rfl) ?_
  intro pP eE sS mM aA bB tT cC ls A Q hc hK hsz hA hs hl hQ
  obtain ⟨hx, hb, hr, hts, hown, hlk, hnm, hml⟩ := hc
  have hl : lv_has ls 3 [(0, .ref (ad p)), (1, .int (nI row)), (2, .int (x))] := hl
  have hss := h
  obtain ⟨hpn, hR, f, top, he0, he1, hrep⟩ := hss
  have htop := hrep.1
  refine lv_aload_n hx hb dX5_has_0 rfl (lv_at hl 0 rfl) ?_
  refine lv_iload_n hx hb dX5_has_1 rfl (lv_at hl 1 rfl) ?_
  refine lv_iload_n hx hb dX5_has_2 rfl (lv_at hl 2 rfl) ?_
  refine r_callViR (ci := 5) (As := [.int (nI row), .int (x)]) hx hb hml hown hts hK hA hs (p) (by omega) he0 rfl rfl (c_X5_isInside l G h hrow (x)) (cwV 2 hts (tbV w_ml_RX5_31 w_im_yX5_isInside w_se_yX5_isInside w_ini_RX5 w_cd_yX5_isInside) rfl rfl rfl (by decide +kernel) ⟨Nat.le_of_ble_eq_true rfl, Nat.le_of_ble_eq_true rfl⟩) rfl hl.1 rfl (Nat.le_of_ble_eq_true rfl) dX5_has_3 ⟨Nat.zero_le _, Nat.zero_le _⟩ (fun H locs hs => ?_)
  refine lv_if_eq (tgt := 36) hx hb dX5_has_6 (by decide) (fun c6 => ?_) (fun c6 => ?_)
  · skip
    refine lv_iconst (v := 0) hx hb dX5_has_36 (by decide) ?_
    refine r_zret (v := 0) (mc := 0) (ms := 0) hx hb hr hlk hs (Nat.le_refl _) (Nat.le_refl _) dX5_has_37 ?_ hQ ?_
    · first | exact Or.inl rfl | exact Or.inr rfl | exact b2i_z _
    exact roV.rf (by rw [b2i_0 c6]; rfl)
  · skip
    obtain ⟨k, hk1, hk2, rfl⟩ := inS_ex (b2i_1 c6)
    refine lv_aload_n hx hb dX5_has_9 rfl (lv_at hl 0 rfl) ?_
    refine r_get (ci := 5) (v := .ref (ad (p + 1))) (C := RX5) (T := TX5) (N := 2) hx hb hts inlX5 hown hK hs (p) (by omega) he0 rfl 0 (by decide) (hts _ w_fl_RX5_15) rfl dX5_has_10 ?_
    refine lv_iload_n hx hb dX5_has_13 rfl (lv_at hl 1 rfl) ?_
    refine lv_bipush (v := 10) hx hb dX5_has_14 (by decide) ?_
    refine lv_imul hx hb dX5_has_16 ?_
    refine lv_iload_n hx hb dX5_has_17 rfl (lv_at hl 2 rfl) ?_
    refine lv_bipush (v := 6) hx hb dX5_has_18 (by decide) ?_
    refine lv_ishr hx hb dX5_has_20 ?_
    refine r_topi (y := nI (k / 64)) (pk_shrN (by omega) _ 6 (by decide)) ?_
    refine lv_iadd hx hb dX5_has_21 ?_
    refine r_lald_N (t := 10 * row + k / 64) hx hb hK hs (p + 1) (by omega) he1 (by simp only [ l0, l1, l2, l3, l4, l5, l6, l10, l600, pk_mul, nI_add]; first | done | exact congrArg nI (by omega)) (by omega) (by omega) dX5_has_22 ?_
    refine lv_iload_n hx hb dX5_has_23 rfl (lv_at hl 2 rfl) ?_
    refine lv_lushr (v := ((f (10 * row + k / 64) : Int64).toUInt64 >>> ((nI k : Int32).toInt64.toUInt64 &&& Int64.toUInt64 63)).toInt64) hx hb dX5_has_24 rfl ?_
    refine lv_lconst (v := 1) hx hb dX5_has_25 (by decide) ?_
    refine lv_land hx hb dX5_has_26 ?_
    refine lv_lconst (v := 0) hx hb dX5_has_27 (by decide) ?_
    refine W.lcmp hx hb dX5_has_28 ?_
    refine lv_if_eq (tgt := 36) hx hb dX5_has_29 (by decide) (fun c29 => ?_) (fun c29 => ?_)
    · skip
      refine lv_iconst (v := 0) hx hb dX5_has_36 (by decide) ?_
      refine r_zret (v := 0) (mc := 0) (ms := 0) hx hb hr hlk hs (Nat.le_refl _) (Nat.le_refl _) dX5_has_37 ?_ hQ ?_
      · first | exact Or.inl rfl | exact Or.inr rfl | exact b2i_z _
      exact roV.rf (has_f hrep hrow hk1 hk2 c29)
    · skip
      refine lv_iconst (v := 1) hx hb dX5_has_32 (by decide) ?_
      refine lv_goto (tgt := 37) hx hb dX5_has_33 (by decide) ?_
      refine r_zret (v := 1) (mc := 0) (ms := 0) hx hb hr hlk hs (Nat.le_refl _) (Nat.le_refl _) dX5_has_37 ?_ hQ ?_
      · first | exact Or.inl rfl | exact Or.inr rfl | exact b2i_z _
      exact roV.rf (has_t hrep hrow hk1 hk2 c29)

set_option maxHeartbeats 4000000 in
set_option maxRecDepth 100000 in
theorem c_X5_add (l : Launch) (G : rG) {n p R : Nat} {ad : Nat → Nat} {en : Nat → va_E} {S : Nat → Nat → Bool} (h : SetsAt G n p ad en R S) {row : Nat} (hrow : row < R) (x : Int32) : CV l G yX5_add uX5_add (1) (22) (0) (0) [.ref (ad p), .int (nI row), .int (x)] (n) (n) ad en (fun ad1 en1 => SetsAt G n p ad1 en1 R (sAddI S row x) ∧ Fr n (fun k => p ≤ k ∧ k ≤ p + 1) (fun _ => False) ad en ad1 en1) := by
  intro sz
  refine rMet (Qc := qV G (n) (fun ad1 en1 => SetsAt G n p ad1 en1 R (sAddI S row x) ∧ Fr n (fun k => p ≤ k ∧ k ≤ p + 1) (fun _ => False) ad en ad1 en1)) (cc := cX5_add) (maxL := 3) (ret := none) (by decide) rfl (Nat.le_of_ble_eq_true rfl) ?_
  intro pP eE sS mM aA bB tT cC ls A Q hc hK hsz hA hs hl hQ
  obtain ⟨hx, hb, hr, hts, hown, hlk, hnm, hml⟩ := hc
  have hl : lv_has ls 3 [(0, .ref (ad p)), (1, .int (nI row)), (2, .int (x))] := hl
  have hss := h
  obtain ⟨hpn, hR, f, top, he0, he1, hrep⟩ := hss
  have htop := hrep.1
  refine lv_aload_n hx hb dX5_add_0 rfl (lv_at hl 0 rfl) ?_
  refine lv_iload_n hx hb dX5_add_1 rfl (lv_at hl 1 rfl) ?_
  refine lv_iload_n hx hb dX5_add_2 rfl (lv_at hl 2 rfl) ?_
  refine r_callViR (ci := 5) (As := [.int (nI row), .int (x)]) hx hb hml hown hts hK hA hs (p) (by omega) he0 rfl rfl (c_X5_isInside l G h hrow (x)) (cwV 2 hts (tbV w_ml_RX5_31 w_im_yX5_isInside w_se_yX5_isInside w_ini_RX5 w_cd_yX5_isInside) rfl rfl rfl (by decide +kernel) ⟨Nat.le_of_ble_eq_true rfl, Nat.le_of_ble_eq_true rfl⟩) rfl hl.1 rfl (Nat.le_of_ble_eq_true rfl) dX5_add_3 ⟨Nat.zero_le _, Nat.zero_le _⟩ (fun H locs hs => ?_)
  refine lv_if_eq (tgt := 44) hx hb dX5_add_6 (by decide) (fun c6 => ?_) (fun c6 => ?_)
  · skip
    refine r_vret (mc := 0) (ms := 0) hx hb hr hlk hs (Nat.le_refl _) (Nat.le_refl _) dX5_add_44 hQ ?_
    exact ⟨by rw [sAddI, if_neg (by rw [b2i_0 c6]; decide)]; exact h, fun _ _ _ => rfl, fun _ _ _ => rfl⟩
  · skip
    obtain ⟨k, hk1, hk2, rfl⟩ := inS_ex (b2i_1 c6)
    refine lv_aload_n hx hb dX5_add_9 rfl (lv_at hl 0 rfl) ?_
    refine r_get (ci := 5) (v := .ref (ad (p + 1))) (C := RX5) (T := TX5) (N := 2) hx hb hts inlX5 hown hK hs (p) (by omega) he0 rfl 0 (by decide) (hts _ w_fl_RX5_15) rfl dX5_add_10 ?_
    refine lv_iload_n hx hb dX5_add_13 rfl (lv_at hl 1 rfl) ?_
    refine lv_bipush (v := 10) hx hb dX5_add_14 (by decide) ?_
    refine lv_imul hx hb dX5_add_16 ?_
    refine lv_iload_n hx hb dX5_add_17 rfl (lv_at hl 2 rfl) ?_
    refine lv_bipush (v := 6) hx hb dX5_add_18 (by decide) ?_
    refine lv_ishr hx hb dX5_add_20 ?_
    refine r_topi (y := nI (k / 64)) (pk_shrN (by omega) _ 6 (by decide)) ?_
    refine lv_iadd hx hb dX5_add_21 ?_
    refine r_topi (y := nI (10 * row + k / 64)) (by simp only [ l0, l1, l2, l3, l4, l5, l6, l10, l600, pk_mul, nI_add]; first | done | exact congrArg nI (by omega)) ?_
    refine lv_dup2_11 hx hb dX5_add_22 rfl rfl ?_
    refine r_lald_N (t := 10 * row + k / 64) hx hb hK hs (p + 1) (by omega) he1 (rfl) (by omega) (by omega) dX5_add_23 ?_
    refine lv_lconst (v := 1) hx hb dX5_add_24 (by decide) ?_
    refine lv_iload_n hx hb dX5_add_25 rfl (lv_at hl 2 rfl) ?_
    refine lv_lshl (v := (1 : Int64) <<< ((nI k : Int32).toInt64 &&& 63)) hx hb dX5_add_26 rfl ?_
    refine lv_lor hx hb dX5_add_27 ?_
    refine r_lastN (t := 10 * row + k / 64) hx hb hK hs (p + 1) (by omega) he1 (rfl) (by omega) (by omega) dX5_add_28 (fun H locs en_2 hen_2 hs => ?_)
    obtain ⟨g_3, eg_3⟩ : ∃ z, z = vp_updL (f) (10 * row + k / 64) ((f (10 * row + k / 64)) ||| ((1 : Int64) <<< ((nI k : Int32).toInt64 &&& 63))) := ⟨_, rfl⟩
    have he_4 : en_2 (p + 1) = aJ G (10 * R) (g_3) := by rw [hen_2, eg_3]; exact va_up_self _ _ _
    have he_5 : en_2 (p) = .inr (5, [.ref (ad (p + 1)), .int (nI top)]) := by rw [hen_2]; exact (va_up_ne _ _ (by omega)).trans he0
    refine lv_aload_n hx hb dX5_add_29 rfl (lv_at hl 0 rfl) ?_
    refine lv_aload_n hx hb dX5_add_30 rfl (lv_at hl 0 rfl) ?_
    refine r_get (ci := 5) (v := .int (nI top)) (C := RX5) (T := TX5) (N := 2) hx hb hts inlX5 hown hK hs (p) (by omega) he_5 rfl 1 (by decide) (hts _ w_fl_RX5_9) rfl dX5_add_31 ?_
    refine lv_iload_n hx hb dX5_add_34 rfl (lv_at hl 2 rfl) ?_
    refine lv_bipush (v := 6) hx hb dX5_add_35 (by decide) ?_
    refine lv_ishr hx hb dX5_add_37 ?_
    refine r_topi (y := nI (k / 64)) (pk_shrN (by omega) _ 6 (by decide)) ?_
    refine va_mmax hx hb (hml.trans hl.1.symm) hown (hts _ w_ml_RX5_19) (hts _ w_sta_Lib_Math_max_name) (hts _ w_ini_java_lang_Math) (hts _ w_cd_Lib_Math_max_name) (Nat.le_of_ble_eq_true rfl) (Nat.le_of_ble_eq_true rfl) (Nat.le_of_ble_eq_true rfl) (Nat.le_of_ble_eq_true rfl) dX5_add_38 ?_
    refine r_topi (y := nI (max top (k / 64))) (max_nI (by omega) (by omega)) ?_
    refine r_put (ci := 5) (v := .int (nI (max top (k / 64)))) (ty := .int) (C := RX5) (T := TX5) (N := 2) (fs' := [.ref (ad (p + 1)), .int (nI (max top (k / 64)))]) hx hb hts inlX5 tyX5 tyX5_ok nmX5 hown hK hs (p) (by omega) he_5 rfl 1 (by decide) (hts _ w_fl_RX5_9) (Or.inl rfl) (by decide +kernel) rfl rfl (Nat.le_of_ble_eq_true rfl) rfl dX5_add_41 (fun H locs en_6 hen_6 hs => ?_)
    have he_7 : en_6 (p) = .inr (5, [.ref (ad (p + 1)), .int (nI (max top (k / 64)))]) := by rw [hen_6]; exact va_up_self _ _ _
    have he_8 : en_6 (p + 1) = aJ G (10 * R) (g_3) := by rw [hen_6]; exact (va_up_ne _ _ (by omega)).trans he_4
    refine r_vret (mc := 0) (ms := 0) hx hb hr hlk hs (Nat.le_refl _) (Nat.le_refl _) dX5_add_44 hQ ?_
    exact ⟨by rw [sAddI_nI S row hk1 hk2]; exact ⟨hpn, hR, g_3, max top (k / 64), he_7, he_8, by rw [eg_3]; exact sRep_add hrep hrow hk1 hk2⟩, fun _ _ _ => rfl, fun k hk hn => by rw [hen_6, va_up_ne _ _ (by omega), hen_2, va_up_ne _ _ (by omega)]⟩

set_option maxHeartbeats 4000000 in
set_option maxRecDepth 100000 in
theorem c_X5_remove (l : Launch) (G : rG) {n p R : Nat} {ad : Nat → Nat} {en : Nat → va_E} {S : Nat → Nat → Bool} (h : SetsAt G n p ad en R S) {row : Nat} (hrow : row < R) (x : Int32) : CV l G yX5_remove uX5_remove (1) (22) (0) (0) [.ref (ad p), .int (nI row), .int (x)] (n) (n) ad en (fun ad1 en1 => SetsAt G n p ad1 en1 R (sDelI S row x) ∧ Fr n (fun k => p ≤ k ∧ k ≤ p + 1) (fun _ => False) ad en ad1 en1) := by
  intro sz
  refine rMet (Qc := qV G (n) (fun ad1 en1 => SetsAt G n p ad1 en1 R (sDelI S row x) ∧ Fr n (fun k => p ≤ k ∧ k ≤ p + 1) (fun _ => False) ad en ad1 en1)) (cc := cX5_remove) (maxL := 3) (ret := none) (by decide) rfl (Nat.le_of_ble_eq_true rfl) ?_
  intro pP eE sS mM aA bB tT cC ls A Q hc hK hsz hA hs hl hQ
  obtain ⟨hx, hb, hr, hts, hown, hlk, hnm, hml⟩ := hc
  have hl : lv_has ls 3 [(0, .ref (ad p)), (1, .int (nI row)), (2, .int (x))] := hl
  have hss := h
  obtain ⟨hpn, hR, f, top, he0, he1, hrep⟩ := hss
  have htop := hrep.1
  refine lv_aload_n hx hb dX5_remove_0 rfl (lv_at hl 0 rfl) ?_
  refine lv_iload_n hx hb dX5_remove_1 rfl (lv_at hl 1 rfl) ?_
  refine lv_iload_n hx hb dX5_remove_2 rfl (lv_at hl 2 rfl) ?_
  refine r_callViR (ci := 5) (As := [.int (nI row), .int (x)]) hx hb hml hown hts hK hA hs (p) (by omega) he0 rfl rfl (c_X5_isInside l G h hrow (x)) (cwV 2 hts (tbV w_ml_RX5_31 w_im_yX5_isInside w_se_yX5_isInside w_ini_RX5 w_cd_yX5_isInside) rfl rfl rfl (by decide +kernel) ⟨Nat.le_of_ble_eq_true rfl, Nat.le_of_ble_eq_true rfl⟩) rfl hl.1 rfl (Nat.le_of_ble_eq_true rfl) dX5_remove_3 ⟨Nat.zero_le _, Nat.zero_le _⟩ (fun H locs hs => ?_)
  refine lv_if_eq (tgt := 33) hx hb dX5_remove_6 (by decide) (fun c6 => ?_) (fun c6 => ?_)
  · skip
    refine r_vret (mc := 0) (ms := 0) hx hb hr hlk hs (Nat.le_refl _) (Nat.le_refl _) dX5_remove_33 hQ ?_
    exact ⟨by rw [sDelI, if_neg (by rw [b2i_0 c6]; decide)]; exact h, fun _ _ _ => rfl, fun _ _ _ => rfl⟩
  · skip
    obtain ⟨k, hk1, hk2, rfl⟩ := inS_ex (b2i_1 c6)
    refine lv_aload_n hx hb dX5_remove_9 rfl (lv_at hl 0 rfl) ?_
    refine r_get (ci := 5) (v := .ref (ad (p + 1))) (C := RX5) (T := TX5) (N := 2) hx hb hts inlX5 hown hK hs (p) (by omega) he0 rfl 0 (by decide) (hts _ w_fl_RX5_15) rfl dX5_remove_10 ?_
    refine lv_iload_n hx hb dX5_remove_13 rfl (lv_at hl 1 rfl) ?_
    refine lv_bipush (v := 10) hx hb dX5_remove_14 (by decide) ?_
    refine lv_imul hx hb dX5_remove_16 ?_
    refine lv_iload_n hx hb dX5_remove_17 rfl (lv_at hl 2 rfl) ?_
    refine lv_bipush (v := 6) hx hb dX5_remove_18 (by decide) ?_
    refine lv_ishr hx hb dX5_remove_20 ?_
    refine r_topi (y := nI (k / 64)) (pk_shrN (by omega) _ 6 (by decide)) ?_
    refine lv_iadd hx hb dX5_remove_21 ?_
    refine r_topi (y := nI (10 * row + k / 64)) (by simp only [ l0, l1, l2, l3, l4, l5, l6, l10, l600, pk_mul, nI_add]; first | done | exact congrArg nI (by omega)) ?_
    refine lv_dup2_11 hx hb dX5_remove_22 rfl rfl ?_
    refine r_lald_N (t := 10 * row + k / 64) hx hb hK hs (p + 1) (by omega) he1 (rfl) (by omega) (by omega) dX5_remove_23 ?_
    refine lv_lconst (v := 1) hx hb dX5_remove_24 (by decide) ?_
    refine lv_iload_n hx hb dX5_remove_25 rfl (lv_at hl 2 rfl) ?_
    refine lv_lshl (v := (1 : Int64) <<< ((nI k : Int32).toInt64 &&& 63)) hx hb dX5_remove_26 rfl ?_
    refine lv_ldc2 (v := (-1)) hx hb hown (hts _ w_kl_RX5_35) dX5_remove_27 ?_
    refine lv_lxor hx hb dX5_remove_30 ?_
    refine lv_land hx hb dX5_remove_31 ?_
    refine r_lastN (t := 10 * row + k / 64) hx hb hK hs (p + 1) (by omega) he1 (rfl) (by omega) (by omega) dX5_remove_32 (fun H locs en_2 hen_2 hs => ?_)
    obtain ⟨g_3, eg_3⟩ : ∃ z, z = vp_updL (f) (10 * row + k / 64) ((f (10 * row + k / 64)) &&& (((1 : Int64) <<< ((nI k : Int32).toInt64 &&& 63)) ^^^ ((-1)))) := ⟨_, rfl⟩
    have he_4 : en_2 (p + 1) = aJ G (10 * R) (g_3) := by rw [hen_2, eg_3]; exact va_up_self _ _ _
    have he_5 : en_2 (p) = .inr (5, [.ref (ad (p + 1)), .int (nI top)]) := by rw [hen_2]; exact (va_up_ne _ _ (by omega)).trans he0
    refine r_vret (mc := 0) (ms := 0) hx hb hr hlk hs (Nat.le_refl _) (Nat.le_refl _) dX5_remove_33 hQ ?_
    exact ⟨by rw [sDelI_nI S row hk1 hk2]; exact ⟨hpn, hR, g_3, top, he_5, he_4, by rw [eg_3]; exact sRep_del hrep hrow hk1 hk2⟩, fun _ _ _ => rfl, fun k hk hn => by rw [hen_2, va_up_ne _ _ (by omega)]⟩

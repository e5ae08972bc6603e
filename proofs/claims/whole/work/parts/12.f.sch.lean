set_option maxHeartbeats 600000 in
set_option maxRecDepth 100000 in
theorem c_X4_firstWay (l : Launch) (G : rG) {n : Nat} {ad : Nat → Nat} {en : Nat → va_E} {ss : List Row} {hw : Nat} {dv : Nat → Int32} {S : Nat → Nat → Bool} {fuel sp : Nat} (hW : SchW G n ad en ss hw dv S fuel sp) {d : Nat} (hd : d < 82) {goal : Nat} (hg : 1 ≤ goal ∧ goal ≤ ss.length) : CI l G yX4_firstWay uX4_firstWay (4) (96) (0) (0) [.ref (ad 18), .int (nI goal), .int (nI d)] (n) (n) ad en (roV ad en (nI (fstW ss (S d) goal))) := by
  intro sz
  refine rMet (Qc := qI G (n) (roV ad en (nI (fstW ss (S d) goal)))) (cc := cX4_firstWay) (maxL := 4) (ret := (some .int)) (by decide) rfl (Nat.le_of_ble_eq_true rfl) ?_
  intro pP eE sS mM aA bB tT cC ls A Q hc hK hsz hA hs hl hQ
  obtain ⟨hx, hb, hr, hts, hown, hlk, hnm, hml⟩ := hc
  have hl : lv_has ls 4 [(0, .ref (ad 18)), (1, .int (nI goal)), (2, .int (nI d))] := hl
  obtain ⟨hn0, hSt0, hDe0, hGi0, he180⟩ := id hW
  have he30 := hSt0.2.1
  obtain ⟨fs70, he70⟩ := SetsAt_recv hSt0.2.2.2.1
  obtain ⟨fs190, he190⟩ := SetsAt_recv hGi0
  obtain ⟨fs10, he10⟩ := DerAt_recv hDe0
  have hok0 := hSt0.2.2.2.2.2
  have h60 := hok0.1
  
  refine lv_aload_n hx hb dX4_firstWay_0 rfl (lv_at hl 0 rfl) ?_
  refine lv_iload_n hx hb dX4_firstWay_1 rfl (lv_at hl 1 rfl) ?_
  refine lv_iload_n hx hb dX4_firstWay_2 rfl (lv_at hl 2 rfl) ?_
  refine r_callViR (ci := 4) (As := [.int (nI goal), .int (nI d)]) hx hb hml hown hts hK hA hs (18) (by omega) he180 rfl rfl (c_X4_wayByGoal l G hW (d := d) hd (goal := goal) hg) (cwV 2 hts (tbV w_ml_RX4_96 w_im_yX4_wayByGoal w_se_yX4_wayByGoal w_ini_RX4 w_cd_yX4_wayByGoal) rfl rfl rfl (by decide +kernel) ⟨Nat.le_of_ble_eq_true rfl, Nat.le_of_ble_eq_true rfl⟩) rfl hl.1 rfl (Nat.le_of_ble_eq_true rfl) dX4_firstWay_3 ⟨Nat.zero_le _, Nat.zero_le _⟩ (fun H locs hs => ?_)
  refine lv_istore_n (lv' := [(3, .int (nI (goW ss (S d) goal))), (0, .ref (ad 18)), (1, .int (nI goal)), (2, .int (nI d))]) hx hb dX4_firstWay_6 rfl hl (by decide) rfl (fun ls hl => ?_)
  refine lv_iload_n hx hb dX4_firstWay_7 rfl (lv_at hl 0 rfl) ?_
  refine lv_if_ne (tgt := 17) hx hb dX4_firstWay_8 (by decide) (fun c8 => ?_) (fun c8 => ?_)
  · skip
    refine lv_iload_n hx hb dX4_firstWay_17 rfl (lv_at hl 0 rfl) ?_
    refine lv_if_ne (tgt := 40) hx hb dX4_firstWay_18 (by decide) (fun _ => ?_) (fun c18 => absurd c18 (c8))
    refine lv_iload_n hx hb dX4_firstWay_40 rfl (lv_at hl 0 rfl) ?_
    refine lv_if_eq (tgt := 48) hx hb dX4_firstWay_41 (by decide) (fun c41 => absurd c41 (c8)) (fun _ => ?_)
    refine lv_iload_n hx hb dX4_firstWay_44 rfl (lv_at hl 0 rfl) ?_
    refine lv_goto (tgt := 54) hx hb dX4_firstWay_45 (by decide) ?_
    refine r_iret (v := nI (goW ss (S d) goal)) (mc := 0) (ms := 0) hx hb hr hlk hs (Nat.le_refl _) (Nat.le_refl _) dX4_firstWay_54 hQ ?_
    exact roV.rf (by rw [fstW, if_pos (nz_of (by have := way_lt hok0 (goW_ok hok0 (S d) goal); omega) c8)])
  · skip
    refine lv_aload_n hx hb dX4_firstWay_11 rfl (lv_at hl 1 rfl) ?_
    refine lv_iload_n hx hb dX4_firstWay_12 rfl (lv_at hl 3 rfl) ?_
    refine r_callViR (ci := 4) (As := [.int (nI d)]) hx hb hml hown hts hK hA hs (18) (by omega) he180 rfl rfl (c_X4_wayByGiven l G hW (d := d) hd) (cwV 1 hts (tbV w_ml_RX4_99 w_im_yX4_wayByGiven w_se_yX4_wayByGiven w_ini_RX4 w_cd_yX4_wayByGiven) rfl rfl rfl (by decide +kernel) ⟨Nat.le_of_ble_eq_true rfl, Nat.le_of_ble_eq_true rfl⟩) rfl hl.1 rfl (Nat.le_of_ble_eq_true rfl) dX4_firstWay_13 ⟨Nat.zero_le _, Nat.zero_le _⟩ (fun H locs hs => ?_)
    refine lv_istore_n (lv' := [(3, .int (nI (giW ss (S d)))), (0, .ref (ad 18)), (1, .int (nI goal)), (2, .int (nI d))]) hx hb dX4_firstWay_16 rfl hl (by decide) rfl (fun ls hl => ?_)
    refine lv_iload_n hx hb dX4_firstWay_17 rfl (lv_at hl 0 rfl) ?_
    refine lv_if_ne (tgt := 40) hx hb dX4_firstWay_18 (by decide) (fun c18 => ?_) (fun c18 => ?_)
    · skip
      refine lv_iload_n hx hb dX4_firstWay_40 rfl (lv_at hl 0 rfl) ?_
      refine lv_if_eq (tgt := 48) hx hb dX4_firstWay_41 (by decide) (fun c41 => absurd c41 (c18)) (fun _ => ?_)
      refine lv_iload_n hx hb dX4_firstWay_44 rfl (lv_at hl 0 rfl) ?_
      refine lv_goto (tgt := 54) hx hb dX4_firstWay_45 (by decide) ?_
      refine r_iret (v := nI (giW ss (S d))) (mc := 0) (ms := 0) hx hb hr hlk hs (Nat.le_refl _) (Nat.le_refl _) dX4_firstWay_54 hQ ?_
      exact roV.rf (by
        have q8 : goW ss (S d) goal = 0 := z_of (by have := way_lt hok0 (goW_ok hok0 (S d) goal); omega) c8
        rw [fstW, if_neg (fun q => q q8), if_pos (nz_of (by have := way_lt hok0 (giW_ok hok0 (S d) goal); omega) c18)])
    · skip
      refine lv_aload_n hx hb dX4_firstWay_21 rfl (lv_at hl 1 rfl) ?_
      refine r_get (ci := 4) (v := .ref (ad 3)) (C := RX4) (T := TX4) (N := 5) hx hb hts inlX4 hown hK hs (18) (by omega) he180 rfl 0 (by decide) (hts _ w_fl_RX4_27) rfl dX4_firstWay_22 ?_
      refine lv_iload_n hx hb dX4_firstWay_25 rfl (lv_at hl 2 rfl) ?_
      refine r_callViR (ci := 6) (As := [.int (nI goal)]) hx hb hml hown hts hK hA hs (3) (by omega) he30 rfl rfl (c_X6_sortOfN l G hSt0 goal (by omega)) (cwV 1 hts (tbV w_ml_RX4_102 w_im_yX6_sortOf w_se_yX6_sortOf w_ini_RX6 w_cd_yX6_sortOf) rfl rfl rfl (by decide +kernel) ⟨Nat.le_of_ble_eq_true rfl, Nat.le_of_ble_eq_true rfl⟩) rfl hl.1 rfl (Nat.le_of_ble_eq_true rfl) dX4_firstWay_26 ⟨Nat.zero_le _, Nat.zero_le _⟩ (fun H locs hs => ?_)
      refine lv_iconst (v := 3) hx hb dX4_firstWay_29 (by decide) ?_
      refine lv_icmp_ne (tgt := 40) hx hb dX4_firstWay_30 (by decide) (fun c30 => ?_) (fun c30 => ?_)
      · skip
        refine lv_iload_n hx hb dX4_firstWay_40 rfl (lv_at hl 0 rfl) ?_
        refine lv_if_eq (tgt := 48) hx hb dX4_firstWay_41 (by decide) (fun _ => ?_) (fun c41 => absurd (c18) c41)
        refine lv_aload_n hx hb dX4_firstWay_48 rfl (lv_at hl 1 rfl) ?_
        refine lv_iload_n hx hb dX4_firstWay_49 rfl (lv_at hl 3 rfl) ?_
        refine lv_iconst (v := 0) hx hb dX4_firstWay_50 (by decide) ?_
        refine r_callViR (ci := 4) (As := [.int (nI d), .int (0)]) hx hb hml hown hts hK hA hs (18) (by omega) he180 rfl rfl (c_X4_nestedAbove l G hW (d := d) hd (a := 0) (by decide)) (cwV 2 hts (tbV w_ml_RX4_110 w_im_yX4_nestedAbove w_se_yX4_nestedAbove w_ini_RX4 w_cd_yX4_nestedAbove) rfl rfl rfl (by decide +kernel) ⟨Nat.le_of_ble_eq_true rfl, Nat.le_of_ble_eq_true rfl⟩) rfl hl.1 rfl (Nat.le_of_ble_eq_true rfl) dX4_firstWay_51 ⟨Nat.zero_le _, Nat.zero_le _⟩ (fun H locs hs => ?_)
        refine r_iret (v := nI (nsW ss (S d) 0)) (mc := 0) (ms := 0) hx hb hr hlk hs (Nat.le_refl _) (Nat.le_refl _) dX4_firstWay_54 hQ ?_
        exact roV.rf (by
          have q8 : goW ss (S d) goal = 0 := z_of (by have := way_lt hok0 (goW_ok hok0 (S d) goal); omega) c8
          have q18 : giW ss (S d) = 0 := z_of (by have := way_lt hok0 (giW_ok hok0 (S d) goal); omega) c18
          rw [fstW, if_neg (fun q => q q8), if_neg (fun q => q q18), if_neg (sn c30)])
      · skip
        refine lv_bipush (v := 11) hx hb dX4_firstWay_33 (by decide) ?_
        refine lv_iconst (v := 0) hx hb dX4_firstWay_35 (by decide) ?_
        refine r_callSiR (As := [.int (11), .int (0)]) hx hb hml hown hts hK hA hs (c_X0_way l G (r := 11) (t := 0) (by decide) (by decide)) (va_cwS 2 hts (tbS w_ml_RX4_107 w_sta_yX0_way w_ini_RX0 w_cd_yX0_way) rfl rfl rfl (by decide +kernel) ⟨Nat.le_of_ble_eq_true rfl, Nat.le_of_ble_eq_true rfl⟩) rfl hl.1 rfl (Nat.le_of_ble_eq_true rfl) dX4_firstWay_36 ⟨Nat.zero_le _, Nat.zero_le _⟩ (fun H locs hs => ?_)
        refine lv_istore_n (lv' := [(3, .int (nI (16 * (0) + 11))), (0, .ref (ad 18)), (1, .int (nI goal)), (2, .int (nI d))]) hx hb dX4_firstWay_39 rfl hl (by decide) rfl (fun ls hl => ?_)
        refine lv_iload_n hx hb dX4_firstWay_40 rfl (lv_at hl 0 rfl) ?_
        refine lv_if_eq (tgt := 48) hx hb dX4_firstWay_41 (by decide) (fun c41 => absurd c41 (by decide)) (fun _ => ?_)
        refine lv_iload_n hx hb dX4_firstWay_44 rfl (lv_at hl 0 rfl) ?_
        refine lv_goto (tgt := 54) hx hb dX4_firstWay_45 (by decide) ?_
        refine r_iret (v := nI (16 * (0) + 11)) (mc := 0) (ms := 0) hx hb hr hlk hs (Nat.le_refl _) (Nat.le_refl _) dX4_firstWay_54 hQ ?_
        exact roV.rf (by
          have q8 : goW ss (S d) goal = 0 := z_of (by have := way_lt hok0 (goW_ok hok0 (S d) goal); omega) c8
          have q18 : giW ss (S d) = 0 := z_of (by have := way_lt hok0 (giW_ok hok0 (S d) goal); omega) c18
          rw [fstW, if_neg (fun q => q q8), if_neg (fun q => q q18), if_pos (sq hok0 c30)])

set_option maxHeartbeats 600000 in
set_option maxRecDepth 100000 in
theorem c_X4_nextWay (l : Launch) (G : rG) {n : Nat} {ad : Nat → Nat} {en : Nat → va_E} {ss : List Row} {hw : Nat} {dv : Nat → Int32} {S : Nat → Nat → Bool} {fuel sp : Nat} (hW : SchW G n ad en ss hw dv S fuel sp) {d : Nat} (hd : d < 82) {w : Nat} (hw1 : w < 2 ^ 31) : CI l G yX4_nextWay uX4_nextWay (4) (96) (0) (0) [.ref (ad 18), .int (nI w), .int (nI d)] (n) (n) ad en (roV ad en (nI (nxtW ss (S d) w))) := by
  intro sz
  refine rMet (Qc := qI G (n) (roV ad en (nI (nxtW ss (S d) w)))) (cc := cX4_nextWay) (maxL := 3) (ret := (some .int)) (by decide) rfl (Nat.le_of_ble_eq_true rfl) ?_
  intro pP eE sS mM aA bB tT cC ls A Q hc hK hsz hA hs hl hQ
  obtain ⟨hx, hb, hr, hts, hown, hlk, hnm, hml⟩ := hc
  have hl : lv_has ls 3 [(0, .ref (ad 18)), (1, .int (nI w)), (2, .int (nI d))] := hl
  obtain ⟨hn0, hSt0, hDe0, hGi0, he180⟩ := id hW
  have he30 := hSt0.2.1
  obtain ⟨fs70, he70⟩ := SetsAt_recv hSt0.2.2.2.1
  obtain ⟨fs190, he190⟩ := SetsAt_recv hGi0
  obtain ⟨fs10, he10⟩ := DerAt_recv hDe0
  have hok0 := hSt0.2.2.2.2.2
  have h60 := hok0.1
  
  refine lv_iload_n hx hb dX4_nextWay_0 rfl (lv_at hl 1 rfl) ?_
  refine r_callSiR (As := [.int (nI w)]) hx hb hml hown hts hK hA hs (c_X0_ruleOf l G (v := w) (hw1)) (va_cwS 1 hts (tbS w_ml_RX4_65 w_sta_yX0_ruleOf w_ini_RX0 w_cd_yX0_ruleOf) rfl rfl rfl (by decide +kernel) ⟨Nat.le_of_ble_eq_true rfl, Nat.le_of_ble_eq_true rfl⟩) rfl hl.1 rfl (Nat.le_of_ble_eq_true rfl) dX4_nextWay_1 ⟨Nat.zero_le _, Nat.zero_le _⟩ (fun H locs hs => ?_)
  by_cases k4_11 : nI ((w) % 16) = 11
  · skip
    refine lv_tableIn (off := 28) (tgt := 32) hx hb dX4_nextWay_4 (by rw [k4_11]; decide) (by rw [k4_11]; decide) (by rw [k4_11]; decide) (by decide) ?_
    refine lv_bipush (v := 12) hx hb dX4_nextWay_32 (by decide) ?_
    refine lv_iconst (v := 0) hx hb dX4_nextWay_34 (by decide) ?_
    refine r_callSiR (As := [.int (12), .int (0)]) hx hb hml hown hts hK hA hs (c_X0_way l G (r := 12) (t := 0) (by decide) (by decide)) (va_cwS 2 hts (tbS w_ml_RX4_107 w_sta_yX0_way w_ini_RX0 w_cd_yX0_way) rfl rfl rfl (by decide +kernel) ⟨Nat.le_of_ble_eq_true rfl, Nat.le_of_ble_eq_true rfl⟩) rfl hl.1 rfl (Nat.le_of_ble_eq_true rfl) dX4_nextWay_35 ⟨Nat.zero_le _, Nat.zero_le _⟩ (fun H locs hs => ?_)
    refine r_iret (v := nI (16 * (0) + 12)) (mc := 0) (ms := 0) hx hb hr hlk hs (Nat.le_refl _) (Nat.le_refl _) dX4_nextWay_38 hQ ?_
    exact roV.rf (by rw [nxtW, if_pos (sw_nI k4_11 rfl (by omega) (by decide))])
  by_cases k4_12 : nI ((w) % 16) = 12
  · skip
    refine lv_tableIn (off := 35) (tgt := 39) hx hb dX4_nextWay_4 (by rw [k4_12]; decide) (by rw [k4_12]; decide) (by rw [k4_12]; decide) (by decide) ?_
    refine lv_aload_n hx hb dX4_nextWay_39 rfl (lv_at hl 0 rfl) ?_
    refine lv_iload_n hx hb dX4_nextWay_40 rfl (lv_at hl 2 rfl) ?_
    refine lv_iconst (v := 0) hx hb dX4_nextWay_41 (by decide) ?_
    refine r_callViR (ci := 4) (As := [.int (nI d), .int (0)]) hx hb hml hown hts hK hA hs (18) (by omega) he180 rfl rfl (c_X4_nestedAbove l G hW (d := d) hd (a := 0) (by decide)) (cwV 2 hts (tbV w_ml_RX4_110 w_im_yX4_nestedAbove w_se_yX4_nestedAbove w_ini_RX4 w_cd_yX4_nestedAbove) rfl rfl rfl (by decide +kernel) ⟨Nat.le_of_ble_eq_true rfl, Nat.le_of_ble_eq_true rfl⟩) rfl hl.1 rfl (Nat.le_of_ble_eq_true rfl) dX4_nextWay_42 ⟨Nat.zero_le _, Nat.zero_le _⟩ (fun H locs hs => ?_)
    refine r_iret (v := nI (nsW ss (S d) 0)) (mc := 0) (ms := 0) hx hb hr hlk hs (Nat.le_refl _) (Nat.le_refl _) dX4_nextWay_45 hQ ?_
    exact roV.rf (by rw [nxtW, if_neg (fun q => k4_11 (by rw [q]; rfl)), if_pos (sw_nI k4_12 rfl (by omega) (by decide))])
  by_cases k4_13 : nI ((w) % 16) = 13
  · skip
    refine lv_tableIn (off := 42) (tgt := 46) hx hb dX4_nextWay_4 (by rw [k4_13]; decide) (by rw [k4_13]; decide) (by rw [k4_13]; decide) (by decide) ?_
    refine lv_aload_n hx hb dX4_nextWay_46 rfl (lv_at hl 0 rfl) ?_
    refine lv_iload_n hx hb dX4_nextWay_47 rfl (lv_at hl 2 rfl) ?_
    refine lv_iload_n hx hb dX4_nextWay_48 rfl (lv_at hl 1 rfl) ?_
    refine r_callSiR (As := [.int (nI w)]) hx hb hml hown hts hK hA hs (c_X0_takenBy l G (v := w) (hw1)) (va_cwS 1 hts (tbS w_ml_RX4_68 w_sta_yX0_takenBy w_ini_RX0 w_cd_yX0_takenBy) rfl rfl rfl (by decide +kernel) ⟨Nat.le_of_ble_eq_true rfl, Nat.le_of_ble_eq_true rfl⟩) rfl hl.1 rfl (Nat.le_of_ble_eq_true rfl) dX4_nextWay_49 ⟨Nat.zero_le _, Nat.zero_le _⟩ (fun H locs hs => ?_)
    refine r_callViR (ci := 4) (As := [.int (nI d), .int (nI ((w) / 16))]) hx hb hml hown hts hK hA hs (18) (by omega) he180 rfl rfl (c_X4_nestedAbove l G hW (d := d) hd (a := ((w) / 16)) (by omega)) (cwV 2 hts (tbV w_ml_RX4_110 w_im_yX4_nestedAbove w_se_yX4_nestedAbove w_ini_RX4 w_cd_yX4_nestedAbove) rfl rfl rfl (by decide +kernel) ⟨Nat.le_of_ble_eq_true rfl, Nat.le_of_ble_eq_true rfl⟩) rfl hl.1 rfl (Nat.le_of_ble_eq_true rfl) dX4_nextWay_52 ⟨Nat.zero_le _, Nat.zero_le _⟩ (fun H locs hs => ?_)
    refine r_iret (v := nI (nsW ss (S d) ((w) / 16))) (mc := 0) (ms := 0) hx hb hr hlk hs (Nat.le_refl _) (Nat.le_refl _) dX4_nextWay_55 hQ ?_
    exact roV.rf (by rw [nxtW, if_neg (fun q => k4_11 (by rw [q]; rfl)), if_neg (fun q => k4_12 (by rw [q]; rfl)), if_pos (sw_nI k4_13 rfl (by omega) (by decide))])
  refine lv_tableOut (tgt := 56) hx hb dX4_nextWay_4 (by have q0 : (nI ((w) % 16) : Int32).toInt ≠ 11 := sw_ne k4_11; have q1 : (nI ((w) % 16) : Int32).toInt ≠ 12 := sw_ne k4_12; have q2 : (nI ((w) % 16) : Int32).toInt ≠ 13 := sw_ne k4_13; omega) (by decide) ?_
  refine lv_iconst (v := 0) hx hb dX4_nextWay_56 (by decide) ?_
  refine r_iret (v := 0) (mc := 0) (ms := 0) hx hb hr hlk hs (Nat.le_refl _) (Nat.le_refl _) dX4_nextWay_57 hQ ?_
  exact roV.rf (by rw [nxtW, if_neg (fun q => k4_11 (by rw [q]; rfl)), if_neg (fun q => k4_12 (by rw [q]; rfl)), if_neg (fun q => k4_13 (by rw [q]; rfl))]; rfl)

set_option maxHeartbeats 600000 in
set_option maxRecDepth 100000 in
theorem c_X4_goalOfPremise (l : Launch) (G : rG) {n : Nat} {ad : Nat → Nat} {en : Nat → va_E} {ss : List Row} {hw : Nat} {dv : Nat → Int32} {S : Nat → Nat → Bool} {fuel sp : Nat} (hW : SchW G n ad en ss hw dv S fuel sp) {r k f goal : Nat} (hr14 : r < 14) (hk3 : k < 3) (hf : f ≤ ss.length) (hg : goal ≤ ss.length) : CI l G yX4_goalOfPremise uX4_goalOfPremise (2) (44) (0) (0) [.ref (ad 18), .int (nI r), .int (nI k), .int (nI f), .int (nI goal)] (n) (n) ad en (roV ad en (nI (pG ss r k f goal))) := by
  intro sz
  refine rMet (Qc := qI G (n) (roV ad en (nI (pG ss r k f goal)))) (cc := cX4_goalOfPremise) (maxL := 5) (ret := (some .int)) (by decide) rfl (Nat.le_of_ble_eq_true rfl) ?_
  intro pP eE sS mM aA bB tT cC ls A Q hc hK hsz hA hs hl hQ
  obtain ⟨hx, hb, hr, hts, hown, hlk, hnm, hml⟩ := hc
  have hl : lv_has ls 5 [(0, .ref (ad 18)), (1, .int (nI r)), (2, .int (nI k)), (3, .int (nI f)), (4, .int (nI goal))] := hl
  obtain ⟨hn0, hSt0, hDe0, hGi0, he180⟩ := id hW
  have he30 := hSt0.2.1
  obtain ⟨fs70, he70⟩ := SetsAt_recv hSt0.2.2.2.1
  obtain ⟨fs190, he190⟩ := SetsAt_recv hGi0
  obtain ⟨fs10, he10⟩ := DerAt_recv hDe0
  have hok0 := hSt0.2.2.2.2.2
  have h60 := hok0.1
  
  refine lv_iload_n hx hb dX4_goalOfPremise_0 rfl (lv_at hl 1 rfl) ?_
  by_cases k1_3 : nI r = 3
  · skip
    refine lv_tableIn (off := 59) (tgt := 60) hx hb dX4_goalOfPremise_1 (by rw [k1_3]; decide) (by rw [k1_3]; decide) (by rw [k1_3]; decide) (by decide) ?_
    refine lv_iload_n hx hb dX4_goalOfPremise_60 rfl (lv_at hl 2 rfl) ?_
    refine lv_iconst (v := 1) hx hb dX4_goalOfPremise_61 (by decide) ?_
    refine lv_icmp_ne (tgt := 77) hx hb dX4_goalOfPremise_62 (by decide) (fun c62 => ?_) (fun c62 => ?_)
    · skip
      refine lv_aload_n hx hb dX4_goalOfPremise_77 rfl (lv_at hl 0 rfl) ?_
      refine r_get (ci := 4) (v := .ref (ad 3)) (C := RX4) (T := TX4) (N := 5) hx hb hts inlX4 hown hK hs (18) (by omega) he180 rfl 0 (by decide) (hts _ w_fl_RX4_27) rfl dX4_goalOfPremise_78 ?_
      refine lv_iload hx hb dX4_goalOfPremise_81 (lv_at hl 4 rfl) ?_
      refine r_callViR (ci := 6) (As := [.int (nI goal)]) hx hb hml hown hts hK hA hs (3) (by omega) he30 rfl rfl (c_X6_rightOfN l G hSt0 goal (by omega)) (cwV 1 hts (tbV w_ml_RX4_134 w_im_yX6_rightOf w_se_yX6_rightOf w_ini_RX6 w_cd_yX6_rightOf) rfl rfl rfl (by decide +kernel) ⟨Nat.le_of_ble_eq_true rfl, Nat.le_of_ble_eq_true rfl⟩) rfl hl.1 rfl (Nat.le_of_ble_eq_true rfl) dX4_goalOfPremise_83 ⟨Nat.zero_le _, Nat.zero_le _⟩ (fun H locs hs => ?_)
      refine r_iret (v := nI (sR ss goal)) (mc := 0) (ms := 0) hx hb hr hlk hs (Nat.le_refl _) (Nat.le_refl _) dX4_goalOfPremise_86 hQ ?_
      exact roV.rf (congrArg nI (by
        obtain rfl := (sw_nI k1_3 rfl (by omega) (by decide) : r = 3)
        first | (rw [show k = 1 from sw_nI c62 rfl (by omega) (by decide)]; rfl) | (unfold pG; rw [if_pos rfl, if_neg (fun q => c62 (by rw [q]; rfl))])))
    · skip
      refine lv_aload_n hx hb dX4_goalOfPremise_65 rfl (lv_at hl 0 rfl) ?_
      refine r_get (ci := 4) (v := .ref (ad 3)) (C := RX4) (T := TX4) (N := 5) hx hb hts inlX4 hown hK hs (18) (by omega) he180 rfl 0 (by decide) (hts _ w_fl_RX4_27) rfl dX4_goalOfPremise_66 ?_
      refine lv_iload hx hb dX4_goalOfPremise_69 (lv_at hl 4 rfl) ?_
      refine r_callViR (ci := 6) (As := [.int (nI goal)]) hx hb hml hown hts hK hA hs (3) (by omega) he30 rfl rfl (c_X6_leftOfN l G hSt0 goal (by omega)) (cwV 1 hts (tbV w_ml_RX4_131 w_im_yX6_leftOf w_se_yX6_leftOf w_ini_RX6 w_cd_yX6_leftOf) rfl rfl rfl (by decide +kernel) ⟨Nat.le_of_ble_eq_true rfl, Nat.le_of_ble_eq_true rfl⟩) rfl hl.1 rfl (Nat.le_of_ble_eq_true rfl) dX4_goalOfPremise_71 ⟨Nat.zero_le _, Nat.zero_le _⟩ (fun H locs hs => ?_)
      refine lv_goto (tgt := 86) hx hb dX4_goalOfPremise_74 (by decide) ?_
      refine r_iret (v := nI (sL ss goal)) (mc := 0) (ms := 0) hx hb hr hlk hs (Nat.le_refl _) (Nat.le_refl _) dX4_goalOfPremise_86 hQ ?_
      exact roV.rf (congrArg nI (by
        obtain rfl := (sw_nI k1_3 rfl (by omega) (by decide) : r = 3)
        first | (rw [show k = 1 from sw_nI c62 rfl (by omega) (by decide)]; rfl) | (unfold pG; rw [if_pos rfl, if_neg (fun q => c62 (by rw [q]; rfl))])))
  by_cases k1_4 : nI r = 4
  · skip
    refine lv_tableIn (off := 96) (tgt := 97) hx hb dX4_goalOfPremise_1 (by rw [k1_4]; decide) (by rw [k1_4]; decide) (by rw [k1_4]; decide) (by decide) ?_
    refine lv_aload_n hx hb dX4_goalOfPremise_97 rfl (lv_at hl 0 rfl) ?_
    refine r_get (ci := 4) (v := .ref (ad 3)) (C := RX4) (T := TX4) (N := 5) hx hb hts inlX4 hown hK hs (18) (by omega) he180 rfl 0 (by decide) (hts _ w_fl_RX4_27) rfl dX4_goalOfPremise_98 ?_
    refine lv_iload hx hb dX4_goalOfPremise_101 (lv_at hl 4 rfl) ?_
    refine r_callViR (ci := 6) (As := [.int (nI goal)]) hx hb hml hown hts hK hA hs (3) (by omega) he30 rfl rfl (c_X6_rightOfN l G hSt0 goal (by omega)) (cwV 1 hts (tbV w_ml_RX4_134 w_im_yX6_rightOf w_se_yX6_rightOf w_ini_RX6 w_cd_yX6_rightOf) rfl rfl rfl (by decide +kernel) ⟨Nat.le_of_ble_eq_true rfl, Nat.le_of_ble_eq_true rfl⟩) rfl hl.1 rfl (Nat.le_of_ble_eq_true rfl) dX4_goalOfPremise_103 ⟨Nat.zero_le _, Nat.zero_le _⟩ (fun H locs hs => ?_)
    refine r_iret (v := nI (sR ss goal)) (mc := 0) (ms := 0) hx hb hr hlk hs (Nat.le_refl _) (Nat.le_refl _) dX4_goalOfPremise_106 hQ ?_
    exact roV.rf (congrArg nI (by
      obtain rfl := (sw_nI k1_4 rfl (by omega) (by decide) : r = 4)
      rfl))
  by_cases k1_5 : nI r = 5
  · skip
    refine lv_tableIn (off := 125) (tgt := 126) hx hb dX4_goalOfPremise_1 (by rw [k1_5]; decide) (by rw [k1_5]; decide) (by rw [k1_5]; decide) (by decide) ?_
    refine lv_iload hx hb dX4_goalOfPremise_126 (lv_at hl 4 rfl) ?_
    refine r_iret (v := nI goal) (mc := 0) (ms := 0) hx hb hr hlk hs (Nat.le_refl _) (Nat.le_refl _) dX4_goalOfPremise_128 hQ ?_
    exact roV.rf (congrArg nI (by have e := (sw_nI k1_5 rfl (by omega) (by decide) : r = 5); exact (pG_x (by omega) (by omega) (by omega) (by omega) (by omega)).symm))
  by_cases k1_6 : nI r = 6
  · skip
    refine lv_tableIn (off := 125) (tgt := 126) hx hb dX4_goalOfPremise_1 (by rw [k1_6]; decide) (by rw [k1_6]; decide) (by rw [k1_6]; decide) (by decide) ?_
    refine lv_iload hx hb dX4_goalOfPremise_126 (lv_at hl 4 rfl) ?_
    refine r_iret (v := nI goal) (mc := 0) (ms := 0) hx hb hr hlk hs (Nat.le_refl _) (Nat.le_refl _) dX4_goalOfPremise_128 hQ ?_
    exact roV.rf (congrArg nI (by have e := (sw_nI k1_6 rfl (by omega) (by decide) : r = 6); exact (pG_x (by omega) (by omega) (by omega) (by omega) (by omega)).symm))
  by_cases k1_7 : nI r = 7
  · skip
    refine lv_tableIn (off := 125) (tgt := 126) hx hb dX4_goalOfPremise_1 (by rw [k1_7]; decide) (by rw [k1_7]; decide) (by rw [k1_7]; decide) (by decide) ?_
    refine lv_iload hx hb dX4_goalOfPremise_126 (lv_at hl 4 rfl) ?_
    refine r_iret (v := nI goal) (mc := 0) (ms := 0) hx hb hr hlk hs (Nat.le_refl _) (Nat.le_refl _) dX4_goalOfPremise_128 hQ ?_
    exact roV.rf (congrArg nI (by have e := (sw_nI k1_7 rfl (by omega) (by decide) : r = 7); exact (pG_x (by omega) (by omega) (by omega) (by omega) (by omega)).symm))
  by_cases k1_8 : nI r = 8
  · skip
    refine lv_tableIn (off := 125) (tgt := 126) hx hb dX4_goalOfPremise_1 (by rw [k1_8]; decide) (by rw [k1_8]; decide) (by rw [k1_8]; decide) (by decide) ?_
    refine lv_iload hx hb dX4_goalOfPremise_126 (lv_at hl 4 rfl) ?_
    refine r_iret (v := nI goal) (mc := 0) (ms := 0) hx hb hr hlk hs (Nat.le_refl _) (Nat.le_refl _) dX4_goalOfPremise_128 hQ ?_
    exact roV.rf (congrArg nI (by have e := (sw_nI k1_8 rfl (by omega) (by decide) : r = 8); exact (pG_x (by omega) (by omega) (by omega) (by omega) (by omega)).symm))
  by_cases k1_9 : nI r = 9
  · skip
    refine lv_tableIn (off := 125) (tgt := 126) hx hb dX4_goalOfPremise_1 (by rw [k1_9]; decide) (by rw [k1_9]; decide) (by rw [k1_9]; decide) (by decide) ?_
    refine lv_iload hx hb dX4_goalOfPremise_126 (lv_at hl 4 rfl) ?_
    refine r_iret (v := nI goal) (mc := 0) (ms := 0) hx hb hr hlk hs (Nat.le_refl _) (Nat.le_refl _) dX4_goalOfPremise_128 hQ ?_
    exact roV.rf (congrArg nI (by have e := (sw_nI k1_9 rfl (by omega) (by decide) : r = 9); exact (pG_x (by omega) (by omega) (by omega) (by omega) (by omega)).symm))
  by_cases k1_10 : nI r = 10
  · skip
    refine lv_tableIn (off := 125) (tgt := 126) hx hb dX4_goalOfPremise_1 (by rw [k1_10]; decide) (by rw [k1_10]; decide) (by rw [k1_10]; decide) (by decide) ?_
    refine lv_iload hx hb dX4_goalOfPremise_126 (lv_at hl 4 rfl) ?_
    refine r_iret (v := nI goal) (mc := 0) (ms := 0) hx hb hr hlk hs (Nat.le_refl _) (Nat.le_refl _) dX4_goalOfPremise_128 hQ ?_
    exact roV.rf (congrArg nI (by have e := (sw_nI k1_10 rfl (by omega) (by decide) : r = 10); exact (pG_x (by omega) (by omega) (by omega) (by omega) (by omega)).symm))
  by_cases k1_11 : nI r = 11
  · skip
    refine lv_tableIn (off := 86) (tgt := 87) hx hb dX4_goalOfPremise_1 (by rw [k1_11]; decide) (by rw [k1_11]; decide) (by rw [k1_11]; decide) (by decide) ?_
    refine lv_aload_n hx hb dX4_goalOfPremise_87 rfl (lv_at hl 0 rfl) ?_
    refine r_get (ci := 4) (v := .ref (ad 3)) (C := RX4) (T := TX4) (N := 5) hx hb hts inlX4 hown hK hs (18) (by omega) he180 rfl 0 (by decide) (hts _ w_fl_RX4_27) rfl dX4_goalOfPremise_88 ?_
    refine lv_iload hx hb dX4_goalOfPremise_91 (lv_at hl 4 rfl) ?_
    refine r_callViR (ci := 6) (As := [.int (nI goal)]) hx hb hml hown hts hK hA hs (3) (by omega) he30 rfl rfl (c_X6_leftOfN l G hSt0 goal (by omega)) (cwV 1 hts (tbV w_ml_RX4_131 w_im_yX6_leftOf w_se_yX6_leftOf w_ini_RX6 w_cd_yX6_leftOf) rfl rfl rfl (by decide +kernel) ⟨Nat.le_of_ble_eq_true rfl, Nat.le_of_ble_eq_true rfl⟩) rfl hl.1 rfl (Nat.le_of_ble_eq_true rfl) dX4_goalOfPremise_93 ⟨Nat.zero_le _, Nat.zero_le _⟩ (fun H locs hs => ?_)
    refine r_iret (v := nI (sL ss goal)) (mc := 0) (ms := 0) hx hb hr hlk hs (Nat.le_refl _) (Nat.le_refl _) dX4_goalOfPremise_96 hQ ?_
    exact roV.rf (congrArg nI (by
      obtain rfl := (sw_nI k1_11 rfl (by omega) (by decide) : r = 11)
      rfl))
  by_cases k1_12 : nI r = 12
  · skip
    refine lv_tableIn (off := 96) (tgt := 97) hx hb dX4_goalOfPremise_1 (by rw [k1_12]; decide) (by rw [k1_12]; decide) (by rw [k1_12]; decide) (by decide) ?_
    refine lv_aload_n hx hb dX4_goalOfPremise_97 rfl (lv_at hl 0 rfl) ?_
    refine r_get (ci := 4) (v := .ref (ad 3)) (C := RX4) (T := TX4) (N := 5) hx hb hts inlX4 hown hK hs (18) (by omega) he180 rfl 0 (by decide) (hts _ w_fl_RX4_27) rfl dX4_goalOfPremise_98 ?_
    refine lv_iload hx hb dX4_goalOfPremise_101 (lv_at hl 4 rfl) ?_
    refine r_callViR (ci := 6) (As := [.int (nI goal)]) hx hb hml hown hts hK hA hs (3) (by omega) he30 rfl rfl (c_X6_rightOfN l G hSt0 goal (by omega)) (cwV 1 hts (tbV w_ml_RX4_134 w_im_yX6_rightOf w_se_yX6_rightOf w_ini_RX6 w_cd_yX6_rightOf) rfl rfl rfl (by decide +kernel) ⟨Nat.le_of_ble_eq_true rfl, Nat.le_of_ble_eq_true rfl⟩) rfl hl.1 rfl (Nat.le_of_ble_eq_true rfl) dX4_goalOfPremise_103 ⟨Nat.zero_le _, Nat.zero_le _⟩ (fun H locs hs => ?_)
    refine r_iret (v := nI (sR ss goal)) (mc := 0) (ms := 0) hx hb hr hlk hs (Nat.le_refl _) (Nat.le_refl _) dX4_goalOfPremise_106 hQ ?_
    exact roV.rf (congrArg nI (by
      obtain rfl := (sw_nI k1_12 rfl (by omega) (by decide) : r = 12)
      rfl))
  by_cases k1_13 : nI r = 13
  · skip
    refine lv_tableIn (off := 106) (tgt := 107) hx hb dX4_goalOfPremise_1 (by rw [k1_13]; decide) (by rw [k1_13]; decide) (by rw [k1_13]; decide) (by decide) ?_
    refine lv_iload_n hx hb dX4_goalOfPremise_107 rfl (lv_at hl 2 rfl) ?_
    refine lv_iconst (v := 1) hx hb dX4_goalOfPremise_108 (by decide) ?_
    refine lv_icmp_ne (tgt := 123) hx hb dX4_goalOfPremise_109 (by decide) (fun c109 => ?_) (fun c109 => ?_)
    · skip
      refine lv_iload hx hb dX4_goalOfPremise_123 (lv_at hl 4 rfl) ?_
      refine r_iret (v := nI goal) (mc := 0) (ms := 0) hx hb hr hlk hs (Nat.le_refl _) (Nat.le_refl _) dX4_goalOfPremise_125 hQ ?_
      exact roV.rf (congrArg nI (by
        obtain rfl := (sw_nI k1_13 rfl (by omega) (by decide) : r = 13)
        first | (rw [show k = 1 from sw_nI c109 rfl (by omega) (by decide)]; rfl) | (unfold pG; rw [if_neg (by decide), if_neg (by decide), if_neg (by decide), if_pos rfl, if_neg (fun q => c109 (by rw [q]; rfl))])))
    · skip
      refine lv_aload_n hx hb dX4_goalOfPremise_112 rfl (lv_at hl 0 rfl) ?_
      refine r_get (ci := 4) (v := .ref (ad 3)) (C := RX4) (T := TX4) (N := 5) hx hb hts inlX4 hown hK hs (18) (by omega) he180 rfl 0 (by decide) (hts _ w_fl_RX4_27) rfl dX4_goalOfPremise_113 ?_
      refine lv_iload_n hx hb dX4_goalOfPremise_116 rfl (lv_at hl 3 rfl) ?_
      refine r_callViR (ci := 6) (As := [.int (nI f)]) hx hb hml hown hts hK hA hs (3) (by omega) he30 rfl rfl (c_X6_leftOfN l G hSt0 f (by omega)) (cwV 1 hts (tbV w_ml_RX4_131 w_im_yX6_leftOf w_se_yX6_leftOf w_ini_RX6 w_cd_yX6_leftOf) rfl rfl rfl (by decide +kernel) ⟨Nat.le_of_ble_eq_true rfl, Nat.le_of_ble_eq_true rfl⟩) rfl hl.1 rfl (Nat.le_of_ble_eq_true rfl) dX4_goalOfPremise_117 ⟨Nat.zero_le _, Nat.zero_le _⟩ (fun H locs hs => ?_)
      refine lv_goto (tgt := 125) hx hb dX4_goalOfPremise_120 (by decide) ?_
      refine r_iret (v := nI (sL ss f)) (mc := 0) (ms := 0) hx hb hr hlk hs (Nat.le_refl _) (Nat.le_refl _) dX4_goalOfPremise_125 hQ ?_
      exact roV.rf (congrArg nI (by
        obtain rfl := (sw_nI k1_13 rfl (by omega) (by decide) : r = 13)
        first | (rw [show k = 1 from sw_nI c109 rfl (by omega) (by decide)]; rfl) | (unfold pG; rw [if_neg (by decide), if_neg (by decide), if_neg (by decide), if_pos rfl, if_neg (fun q => c109 (by rw [q]; rfl))])))
  refine lv_tableOut (tgt := 126) hx hb dX4_goalOfPremise_1 (by have q0 : (nI r : Int32).toInt ≠ 3 := sw_ne k1_3; have q1 : (nI r : Int32).toInt ≠ 4 := sw_ne k1_4; have q2 : (nI r : Int32).toInt ≠ 5 := sw_ne k1_5; have q3 : (nI r : Int32).toInt ≠ 6 := sw_ne k1_6; have q4 : (nI r : Int32).toInt ≠ 7 := sw_ne k1_7; have q5 : (nI r : Int32).toInt ≠ 8 := sw_ne k1_8; have q6 : (nI r : Int32).toInt ≠ 9 := sw_ne k1_9; have q7 : (nI r : Int32).toInt ≠ 10 := sw_ne k1_10; have q8 : (nI r : Int32).toInt ≠ 11 := sw_ne k1_11; have q9 : (nI r : Int32).toInt ≠ 12 := sw_ne k1_12; have q10 : (nI r : Int32).toInt ≠ 13 := sw_ne k1_13; omega) (by decide) ?_
  refine lv_iload hx hb dX4_goalOfPremise_126 (lv_at hl 4 rfl) ?_
  refine r_iret (v := nI goal) (mc := 0) (ms := 0) hx hb hr hlk hs (Nat.le_refl _) (Nat.le_refl _) dX4_goalOfPremise_128 hQ ?_
  exact roV.rf (congrArg nI (pG_x (fun q => k1_3 (by rw [q]; rfl)) (fun q => k1_4 (by rw [q]; rfl)) (fun q => k1_11 (by rw [q]; rfl)) (fun q => k1_12 (by rw [q]; rfl)) (fun q => k1_13 (by rw [q]; rfl))).symm)

set_option maxHeartbeats 600000 in
set_option maxRecDepth 100000 in
theorem c_X4_fuelSpent (l : Launch) (G : rG) {n : Nat} {ad : Nat → Nat} {en : Nat → va_E} {ss : List Row} {hw : Nat} {dv : Nat → Int32} {S : Nat → Nat → Bool} {fuel sp : Nat} (hW : SchW G n ad en ss hw dv S fuel sp) : CI l G yX4_fuelSpent uX4_fuelSpent (0) (0) (0) (0) [.ref (ad 18)] (n) (n) ad en (roV ad en (nI sp)) := by
  intro sz
  refine rMet (Qc := qI G (n) (roV ad en (nI sp))) (cc := cX4_fuelSpent) (maxL := 1) (ret := (some .int)) (by decide) rfl (Nat.le_of_ble_eq_true rfl) ?_
  intro pP eE sS mM aA bB tT cC ls A Q hc hK hsz hA hs hl hQ
  obtain ⟨hx, hb, hr, hts, hown, hlk, hnm, hml⟩ := hc
  have hl : lv_has ls 1 [(0, .ref (ad 18))] := hl
  obtain ⟨hn0, hSt0, hDe0, hGi0, he180⟩ := id hW
  have he30 := hSt0.2.1
  obtain ⟨fs70, he70⟩ := SetsAt_recv hSt0.2.2.2.1
  obtain ⟨fs190, he190⟩ := SetsAt_recv hGi0
  obtain ⟨fs10, he10⟩ := DerAt_recv hDe0
  have hok0 := hSt0.2.2.2.2.2
  have h60 := hok0.1
  
  refine lv_aload_n hx hb dX4_fuelSpent_0 rfl (lv_at hl 0 rfl) ?_
  refine r_get (ci := 4) (v := .int (nI sp)) (C := RX4) (T := TX4) (N := 5) hx hb hts inlX4 hown hK hs (18) (by omega) he180 rfl 4 (by decide) (hts _ w_fl_RX4_24) rfl dX4_fuelSpent_1 ?_
  refine r_iret (v := nI sp) (mc := 0) (ms := 0) hx hb hr hlk hs (Nat.le_refl _) (Nat.le_refl _) dX4_fuelSpent_4 hQ ?_
  exact roV.rf rfl

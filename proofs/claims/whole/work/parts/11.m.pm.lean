def BldC (l : Launch) (G : rG) (h : Nat) : Prop := ∀ {n : Nat} {ad : Nat → Nat} {en : Nat → va_E} {s0 : NSt} {jd RR SL : Nat} {S : Nat → Nat → Bool} {sf : Nat → Int32} {fl : Bool} (hW : PmW G n ad en s0 jd RR SL S sf fl) {hw : Nat} {dv : Nat → Int32} (hD : DerAt G n 1 ad en hw dv) {lo hi step goal : Nat} (hhi : hi ≤ 3000) (hwf : wfD s0.1 dv h lo hi step goal) (hh : h ≤ 80), CI l G yX3_build uX3_build (h + 6) (35 * h + 203) (aC (aGate fl (bld dv (h) step)) s0) (aS (aGate fl (bld dv (h) step)) s0) [.ref (ad 21), .int (nI step), .int (nI (81 - (h)))] n n ad en (aPostG G n jd RR SL S sf (aGate fl (bld dv (h) step)) s0 ad en)
theorem Der_fr {G : rG} {n hw : Nat} {ad ad1 : Nat → Nat} {en en1 : Nat → va_E} {dv : Nat → Int32} (h : DerAt G n 1 ad en hw dv) (hf : Fr n pmS pmA ad en ad1 en1) : DerAt G n 1 ad1 en1 hw dv := by
  have := h.1
  exact DerAt_keep h (fun k a b => hf.1 k (by omega) (by unfold pmA; omega)) (fun k a b => hf.2 k (by omega) (by unfold pmS; omega))
set_option maxHeartbeats 600000 in
set_option maxRecDepth 100000 in
theorem c_X3_build_s (l : Launch) (G : rG) {h : Nat} (IH : BldC l G h) {n : Nat} {ad : Nat → Nat} {en : Nat → va_E} {s0 : NSt} {jd RR SL : Nat} {S : Nat → Nat → Bool} {sf : Nat → Int32} {fl : Bool} (hW : PmW G n ad en s0 jd RR SL S sf fl) {hw : Nat} {dv : Nat → Int32} (hD : DerAt G n 1 ad en hw dv) {lo hi step goal : Nat} (hhi : hi ≤ 3000) (hwf : wfD s0.1 dv (h + 1) lo hi step goal) (hh : h + 1 ≤ 80) : CI l G yX3_build uX3_build (((h + 1) + 6)) ((35 * (h + 1) + 203)) (aC (aGate fl (bld dv (h + 1) step)) s0) (aS (aGate fl (bld dv (h + 1) step)) s0) [.ref (ad 21), .int (nI step), .int (nI (81 - (h + 1)))] (n) (n) ad en (aPostG G n jd RR SL S sf (aGate fl (bld dv (h + 1) step)) s0 ad en) := by
  intro sz
  refine rMet (Qc := qI G (n) (aPostG G n jd RR SL S sf (aGate fl (bld dv (h + 1) step)) s0 ad en)) (cc := cX3_build) (maxL := 8) (ret := (some .int)) (by decide) rfl (Nat.le_of_ble_eq_true rfl) ?_
  intro pP eE sS mM aA bB tT cC ls A Q hc hK hsz hA hs hl hQ
  obtain ⟨hx, hb, hr, hts, hown, hlk, hnm, hml⟩ := hc
  have hl : lv_has ls 8 [(0, .ref (ad 21)), (1, .int (nI step)), (2, .int (nI (81 - (h + 1))))] := hl
  obtain ⟨h0, hd0, hO0, hn0, he210⟩ := id hW
  obtain ⟨fst0, hest0⟩ : ∃ fs, en 3 = .inr (6, fs) := ⟨_, h0.2.1⟩
  obtain ⟨fnd0, hend0⟩ : ∃ fs, en 11 = .inr (2, fs) := ⟨_, hd0.2.1⟩
  have h6 := h0.2.2.2.2.2.1
  have h8 := hO0.1.1
  have x0 := sExt.rf s0
  have hn0_ : nsOK s0.1 s0.2 := hO0.1
  have hokk : ssOK s0.1 := h0.2.2.2.2.2
  obtain ⟨hlo, hgl, r, f, a, b, hdg, hdw, hf6, hsd, hpa, hpb⟩ := id hwf
  have hr13 := hsd.1
  obtain ⟨fdv, hedv⟩ : ∃ fs, en 1 = .inr (0, fs) := ⟨_, hD.2.2.choose_spec.1⟩
  refine lv_aload_n hx hb dX3_build_0 rfl (lv_at hl 0 rfl) ?_
  refine r_get (ci := 3) (v := .int (b2i fl)) (C := RX3) (T := TX3) (N := 4) hx hb hts inlX3 hown hK hs (21) (by omega) he210 rfl 3 (by decide) (hts _ w_fl_RX3_9) rfl dX3_build_1 ?_
  refine lv_if_ne (tgt := 13) hx hb dX3_build_4 (by decide) (fun c4 => ?_) (fun c4 => ?_)
  · skip
    have hfl : fl = true := b2i_1 c4
    subst hfl
    refine lv_bipush (v := (-3)) hx hb dX3_build_13 (by decide) ?_
    refine r_iret (v := (-3)) (mc := aC (aGate true (bld dv (h + 1) step)) s0) (ms := aS (aGate true (bld dv (h + 1) step)) s0) hx hb hr hlk hs (Nat.zero_le _) (Nat.zero_le _) dX3_build_15 hQ ?_
    exact ⟨⟨rfl, hW, Fr_rf⟩, (fun x hx => by cases hx), sExt.rf s0⟩
  · skip
    have hfl : fl = false := b2i_0 c4
    subst hfl
    refine lv_iload_n hx hb dX3_build_7 rfl (lv_at hl 2 rfl) ?_
    refine lv_bipush (v := 80) hx hb dX3_build_8 (by decide) ?_
    refine lv_icmp_le (tgt := 16) hx hb dX3_build_10 (by decide) (fun _ => ?_) (fun c10 => absurd (nI_le (b := 80) (by omega) (by omega)) c10)
    refine lv_aload_n hx hb dX3_build_16 rfl (lv_at hl 0 rfl) ?_
    refine r_get (ci := 3) (v := .ref (ad 1)) (C := RX3) (T := TX3) (N := 4) hx hb hts inlX3 hown hK hs (21) (by omega) he210 rfl 2 (by decide) (hts _ w_fl_RX3_23) rfl dX3_build_17 ?_
    refine lv_iload_n hx hb dX3_build_20 rfl (lv_at hl 1 rfl) ?_
    refine r_callViR (ci := 0) (As := [.int (nI step)]) hx hb hml hown hts hK hA hs (1) (by omega) hedv rfl rfl (c_X0_goalOf l G hD (sp := step) (by omega)) (cwV 1 hts (tbV w_ml_RX3_31 w_im_yX0_goalOf w_se_yX0_goalOf w_ini_RX0 w_cd_yX0_goalOf) rfl rfl rfl (by decide +kernel) ⟨(by show (1) + 1 ≤ ((h + 1) + 6); omega), (by show 8 + (2 + 11) + (23) ≤ (35 * (h + 1) + 203); omega)⟩) rfl hl.1 rfl (Nat.le_of_ble_eq_true rfl) dX3_build_21 ⟨Nat.zero_le _, Nat.zero_le _⟩ (fun H locs hs => ?_)
    refine r_topi (y := nI goal) (hdg) ?_
    refine lv_istore_n (lv' := [(3, .int (nI goal)), (0, .ref (ad 21)), (1, .int (nI step)), (2, .int (nI (81 - (h + 1))))]) hx hb dX3_build_24 rfl hl (by decide) rfl (fun ls hl => ?_)
    refine lv_aload_n hx hb dX3_build_25 rfl (lv_at hl 1 rfl) ?_
    refine r_get (ci := 3) (v := .ref (ad 1)) (C := RX3) (T := TX3) (N := 4) hx hb hts inlX3 hown hK hs (21) (by omega) he210 rfl 2 (by decide) (hts _ w_fl_RX3_23) rfl dX3_build_26 ?_
    refine lv_iload_n hx hb dX3_build_29 rfl (lv_at hl 2 rfl) ?_
    refine r_callViR (ci := 0) (As := [.int (nI step)]) hx hb hml hown hts hK hA hs (1) (by omega) hedv rfl rfl (c_X0_wayOf l G hD (sp := step) (by omega)) (cwV 1 hts (tbV w_ml_RX3_37 w_im_yX0_wayOf w_se_yX0_wayOf w_ini_RX0 w_cd_yX0_wayOf) rfl rfl rfl (by decide +kernel) ⟨(by show (1) + 1 ≤ ((h + 1) + 6); omega), (by show 8 + (2 + 11) + (23) ≤ (35 * (h + 1) + 203); omega)⟩) rfl hl.1 rfl (Nat.le_of_ble_eq_true rfl) dX3_build_30 ⟨Nat.zero_le _, Nat.zero_le _⟩ (fun H locs hs => ?_)
    refine r_topi (y := nI (16 * f + r)) (hdw) ?_
    refine r_callSiR (As := [.int (nI (16 * f + r))]) hx hb hml hown hts hK hA hs (c_X0_takenBy l G (v := 16 * f + r) (by omega)) (va_cwS 1 hts (tbS w_ml_RX3_40 w_sta_yX0_takenBy w_ini_RX0 w_cd_yX0_takenBy) rfl rfl rfl (by decide +kernel) ⟨(by show (0) + 1 ≤ ((h + 1) + 6); omega), (by show 8 + (1 + 11) + (0) ≤ (35 * (h + 1) + 203); omega)⟩) rfl hl.1 rfl (Nat.le_of_ble_eq_true rfl) dX3_build_33 ⟨Nat.zero_le _, Nat.zero_le _⟩ (fun H locs hs => ?_)
    refine r_topi (y := nI f) (by rw [show (16 * f + r) / 16 = f by omega]) ?_
    refine lv_istore (lv' := [(4, .int (nI f)), (3, .int (nI goal)), (0, .ref (ad 21)), (1, .int (nI step)), (2, .int (nI (81 - (h + 1))))]) hx hb dX3_build_36 hl (by decide) rfl (fun ls hl => ?_)
    refine lv_aload_n hx hb dX3_build_38 rfl (lv_at hl 2 rfl) ?_
    refine r_get (ci := 3) (v := .ref (ad 1)) (C := RX3) (T := TX3) (N := 4) hx hb hts inlX3 hown hK hs (21) (by omega) he210 rfl 2 (by decide) (hts _ w_fl_RX3_23) rfl dX3_build_39 ?_
    refine lv_iload_n hx hb dX3_build_42 rfl (lv_at hl 3 rfl) ?_
    refine lv_iconst (v := 1) hx hb dX3_build_43 (by decide) ?_
    refine r_callViR (ci := 0) (As := [.int (nI step), .int (1)]) hx hb hml hown hts hK hA hs (1) (by omega) hedv rfl rfl (c_X0_premiseOf l G hD (sp := step) (by omega) (k := 1) (by decide)) (cwV 2 hts (tbV w_ml_RX3_43 w_im_yX0_premiseOf w_se_yX0_premiseOf w_ini_RX0 w_cd_yX0_premiseOf) rfl rfl rfl (by decide +kernel) ⟨(by show (1) + 1 ≤ ((h + 1) + 6); omega), (by show 8 + (3 + 11) + (23) ≤ (35 * (h + 1) + 203); omega)⟩) rfl hl.1 rfl (Nat.le_of_ble_eq_true rfl) dX3_build_44 ⟨Nat.zero_le _, Nat.zero_le _⟩ (fun H locs hs => ?_)
    refine lv_istore (lv' := [(5, .int (dv (4 * (step) + (1 + 1)))), (4, .int (nI f)), (3, .int (nI goal)), (0, .ref (ad 21)), (1, .int (nI step)), (2, .int (nI (81 - (h + 1))))]) hx hb dX3_build_47 hl (by decide) rfl (fun ls hl => ?_)
    refine lv_aload_n hx hb dX3_build_49 rfl (lv_at hl 3 rfl) ?_
    refine r_get (ci := 3) (v := .ref (ad 1)) (C := RX3) (T := TX3) (N := 4) hx hb hts inlX3 hown hK hs (21) (by omega) he210 rfl 2 (by decide) (hts _ w_fl_RX3_23) rfl dX3_build_50 ?_
    refine lv_iload_n hx hb dX3_build_53 rfl (lv_at hl 4 rfl) ?_
    refine lv_iconst (v := 2) hx hb dX3_build_54 (by decide) ?_
    refine r_callViR (ci := 0) (As := [.int (nI step), .int (2)]) hx hb hml hown hts hK hA hs (1) (by omega) hedv rfl rfl (c_X0_premiseOf l G hD (sp := step) (by omega) (k := 2) (by decide)) (cwV 2 hts (tbV w_ml_RX3_43 w_im_yX0_premiseOf w_se_yX0_premiseOf w_ini_RX0 w_cd_yX0_premiseOf) rfl rfl rfl (by decide +kernel) ⟨(by show (1) + 1 ≤ ((h + 1) + 6); omega), (by show 8 + (3 + 11) + (23) ≤ (35 * (h + 1) + 203); omega)⟩) rfl hl.1 rfl (Nat.le_of_ble_eq_true rfl) dX3_build_55 ⟨Nat.zero_le _, Nat.zero_le _⟩ (fun H locs hs => ?_)
    refine lv_istore (lv' := [(6, .int (dv (4 * (step) + (1 + 2)))), (5, .int (dv (4 * (step) + (1 + 1)))), (4, .int (nI f)), (3, .int (nI goal)), (0, .ref (ad 21)), (1, .int (nI step)), (2, .int (nI (81 - (h + 1))))]) hx hb dX3_build_58 hl (by decide) rfl (fun ls hl => ?_)
    refine lv_iload_n hx hb dX3_build_60 rfl (lv_at hl 6 rfl) ?_
    refine lv_iconst (v := 1) hx hb dX3_build_61 (by decide) ?_
    refine lv_iadd hx hb dX3_build_62 ?_
    refine r_topi (y := nI (81 - h)) (by rw [show 81 - h = (81 - (h + 1)) + 1 by omega, nI_succ]) ?_
    refine lv_istore (lv' := [(7, .int (nI (81 - h))), (6, .int (dv (4 * (step) + (1 + 2)))), (5, .int (dv (4 * (step) + (1 + 1)))), (4, .int (nI f)), (3, .int (nI goal)), (0, .ref (ad 21)), (1, .int (nI step)), (2, .int (nI (81 - (h + 1))))]) hx hb dX3_build_63 hl (by decide) rfl (fun ls hl => ?_)
    refine lv_aload_n hx hb dX3_build_65 rfl (lv_at hl 5 rfl) ?_
    refine r_get (ci := 3) (v := .ref (ad 1)) (C := RX3) (T := TX3) (N := 4) hx hb hts inlX3 hown hK hs (21) (by omega) he210 rfl 2 (by decide) (hts _ w_fl_RX3_23) rfl dX3_build_66 ?_
    refine lv_iload_n hx hb dX3_build_69 rfl (lv_at hl 6 rfl) ?_
    refine r_callViR (ci := 0) (As := [.int (nI step)]) hx hb hml hown hts hK hA hs (1) (by omega) hedv rfl rfl (c_X0_wayOf l G hD (sp := step) (by omega)) (cwV 1 hts (tbV w_ml_RX3_37 w_im_yX0_wayOf w_se_yX0_wayOf w_ini_RX0 w_cd_yX0_wayOf) rfl rfl rfl (by decide +kernel) ⟨(by show (1) + 1 ≤ ((h + 1) + 6); omega), (by show 8 + (2 + 11) + (23) ≤ (35 * (h + 1) + 203); omega)⟩) rfl hl.1 rfl (Nat.le_of_ble_eq_true rfl) dX3_build_70 ⟨Nat.zero_le _, Nat.zero_le _⟩ (fun H locs hs => ?_)
    refine r_topi (y := nI (16 * f + r)) (hdw) ?_
    refine r_callSiR (As := [.int (nI (16 * f + r))]) hx hb hml hown hts hK hA hs (c_X0_ruleOf l G (v := 16 * f + r) (by omega)) (va_cwS 1 hts (tbS w_ml_RX3_46 w_sta_yX0_ruleOf w_ini_RX0 w_cd_yX0_ruleOf) rfl rfl rfl (by decide +kernel) ⟨(by show (0) + 1 ≤ ((h + 1) + 6); omega), (by show 8 + (1 + 11) + (0) ≤ (35 * (h + 1) + 203); omega)⟩) rfl hl.1 rfl (Nat.le_of_ble_eq_true rfl) dX3_build_73 ⟨Nat.zero_le _, Nat.zero_le _⟩ (fun H locs hs => ?_)
    refine r_topi (y := nI r) (by rw [show (16 * f + r) % 16 = r by omega]) ?_
    by_cases k76_1 : nI r = 1
    · skip
      refine lv_tableIn (off := 68) (tgt := 144) hx hb dX3_build_76 (by rw [k76_1]; decide) (by rw [k76_1]; decide) (by rw [k76_1]; decide) (by decide) ?_
      obtain rfl : r = 1 := sw_nI k76_1 rfl (by omega) (by decide)
      have hB := bld_eq (h := h) hdg hdw (by omega) hf6 (by decide)
      have hB1 := bld_ext dv h a
      have hB2 := bld_ext dv h b
      obtain ⟨o1, s1, hq1⟩ : ∃ oo tt, (aGate false (aNode (0, goal, 0, 0, 0))) s0 = (oo, tt) := ⟨_, _, rfl⟩
      have hc1 := aC_eq hq1 (aGate_ext (aNode_ext _) _ _)
      have x1 := x0.tr hc1.2.2.2.2
      have hS1 := side_ext x1 hokk hgl.2 hsd
      have hE : (aGate false (bld dv (h + 1) step)) s0 = (o1, s1) := by
        show bld dv (h + 1) step s0 = _
        rw [hB]
        exact bR1_eq hq1
      obtain ⟨hRC, hRS⟩ := aC_all hE x1
      refine lv_aload_n hx hb dX3_build_144 rfl (lv_at hl 5 rfl) ?_
      refine lv_iload_n hx hb dX3_build_145 rfl (lv_at hl 4 rfl) ?_
      refine r_callVi (ci := 3) (As := [.int (nI goal)]) hx hb hml hown hts hK hA hs (21) (by omega) he210 rfl rfl (c_X3_given l G hW (f1 := goal) (by have := sExt_len x0; omega)) (cwV 1 hts (tbV w_ml_RX3_49 w_im_yX3_given w_se_yX3_given w_ini_RX3 w_cd_yX3_given) rfl rfl rfl (by decide +kernel) ⟨(by show (4) + 1 ≤ ((h + 1) + 6); omega), (by show 8 + (2 + 11) + (135) ≤ (35 * (h + 1) + 203); omega)⟩) rfl hl.1 rfl (Nat.le_of_ble_eq_true rfl) dX3_build_146 ⟨by show _ ≤ aC (aGate false (bld dv (h + 1) step)) s0; omega, by show _ ≤ aS (aGate false (bld dv (h + 1) step)) s0; omega⟩ (fun r_4 ad_1 en_2 H locs hp_3 hs => ?_)
      obtain ⟨hr1, hW1, hf1⟩ := hp_3
      rw [hq1] at hr1 hW1
      have hW1 : PmW G n ad_1 en_2 s1 jd RR SL S sf o1.isNone := hW1
      have v1 := gate_q hq1
      rw [show r_4 = aR o1 from hr1]
      obtain ⟨hp_5, hdp_5, hOp_5, hnp_5, he21p_5⟩ := id hW1
      obtain ⟨fstp_5, hestp_5⟩ : ∃ fs, en_2 3 = .inr (6, fs) := ⟨_, hp_5.2.1⟩
      obtain ⟨fndp_5, hendp_5⟩ : ∃ fs, en_2 11 = .inr (2, fs) := ⟨_, hdp_5.2.1⟩
      have frp_5 := Fr_tr Fr_rf hf1
      have hl : lv_has ls 8 [(7, .int (nI (81 - h))), (6, .int (dv (4 * (step) + (1 + 2)))), (5, .int (dv (4 * (step) + (1 + 1)))), (4, .int (nI f)), (3, .int (nI goal)), (0, .ref (ad_1 21)), (1, .int (nI step)), (2, .int (nI (81 - (h + 1))))] := by rw [hf1.1 21 (by omega) (by unfold pmA; omega)]; exact hl
      have hn1_ : nsOK s1.1 s1.2 := hOp_5.1
      refine r_iret (v := aR o1) (mc := aC (aGate false (bld dv (h + 1) step)) s0) (ms := aS (aGate false (bld dv (h + 1) step)) s0) hx hb hr hlk hs (by omega) (by omega) dX3_build_149 hQ ?_
      exact aPostG.of hE hW1 frp_5 v1.1.vd x1
    by_cases k76_2 : nI r = 2
    · skip
      refine lv_tableIn (off := 74) (tgt := 150) hx hb dX3_build_76 (by rw [k76_2]; decide) (by rw [k76_2]; decide) (by rw [k76_2]; decide) (by decide) ?_
      obtain rfl : r = 2 := sw_nI k76_2 rfl (by omega) (by decide)
      have hB := bld_eq (h := h) hdg hdw (by omega) hf6 (by decide)
      have hfr_ := hsd.2.1 (by omega)
      have hB1 := bld_ext dv h a
      have hB2 := bld_ext dv h b
      obtain ⟨o1, s1, hq1⟩ : ∃ oo tt, (aGate false (aNode (0, f, 0, 0, 0))) s0 = (oo, tt) := ⟨_, _, rfl⟩
      have hc1 := aC_eq hq1 (aGate_ext (aNode_ext _) _ _)
      have x1 := x0.tr hc1.2.2.2.2
      have hS1 := side_ext x1 hokk hgl.2 hsd
      obtain ⟨o2, s2, hq2⟩ : ∃ oo tt, (aGate o1.isNone (aNode (9, goal, o1.getD 0, 0, 0))) s1 = (oo, tt) := ⟨_, _, rfl⟩
      have hc2 := aC_eq hq2 (aGate_ext (aNode_ext _) _ _)
      have x2 := x1.tr hc2.2.2.2.2
      have hS2 := side_ext x2 hokk hgl.2 hsd
      have hE : (aGate false (bld dv (h + 1) step)) s0 = (o2, s2) := by
        show bld dv (h + 1) step s0 = _
        rw [hB]
        exact bR2_eq hq1 hq2
      obtain ⟨hRC, hRS⟩ := aC_all hE x2
      refine lv_aload_n hx hb dX3_build_150 rfl (lv_at hl 5 rfl) ?_
      refine lv_bipush (v := 9) hx hb dX3_build_151 (by decide) ?_
      refine lv_iload_n hx hb dX3_build_153 rfl (lv_at hl 4 rfl) ?_
      refine lv_aload_n hx hb dX3_build_154 rfl (lv_at hl 5 rfl) ?_
      refine lv_iload hx hb dX3_build_155 (lv_at hl 3 rfl) ?_
      refine r_callVi (ci := 3) (As := [.int (nI f)]) hx hb hml hown hts hK hA hs (21) (by omega) he210 rfl rfl (c_X3_given l G hW (f1 := f) (by have := sExt_len x0; omega)) (cwV 1 hts (tbV w_ml_RX3_49 w_im_yX3_given w_se_yX3_given w_ini_RX3 w_cd_yX3_given) rfl rfl rfl (by decide +kernel) ⟨(by show (4) + 1 ≤ ((h + 1) + 6); omega), (by show 8 + (2 + 11) + (135) ≤ (35 * (h + 1) + 203); omega)⟩) rfl hl.1 rfl (Nat.le_of_ble_eq_true rfl) dX3_build_157 ⟨by show _ ≤ aC (aGate false (bld dv (h + 1) step)) s0; omega, by show _ ≤ aS (aGate false (bld dv (h + 1) step)) s0; omega⟩ (fun r_9 ad_6 en_7 H locs hp_8 hs => ?_)
      obtain ⟨hr1, hW1, hf1⟩ := hp_8
      rw [hq1] at hr1 hW1
      have hW1 : PmW G n ad_6 en_7 s1 jd RR SL S sf o1.isNone := hW1
      have v1 := gate_q hq1
      rw [show r_9 = aR o1 from hr1]
      obtain ⟨hp_10, hdp_10, hOp_10, hnp_10, he21p_10⟩ := id hW1
      obtain ⟨fstp_10, hestp_10⟩ : ∃ fs, en_7 3 = .inr (6, fs) := ⟨_, hp_10.2.1⟩
      obtain ⟨fndp_10, hendp_10⟩ : ∃ fs, en_7 11 = .inr (2, fs) := ⟨_, hdp_10.2.1⟩
      have frp_10 := Fr_tr Fr_rf hf1
      have hl : lv_has ls 8 [(7, .int (nI (81 - h))), (6, .int (dv (4 * (step) + (1 + 2)))), (5, .int (dv (4 * (step) + (1 + 1)))), (4, .int (nI f)), (3, .int (nI goal)), (0, .ref (ad_6 21)), (1, .int (nI step)), (2, .int (nI (81 - (h + 1))))] := by rw [hf1.1 21 (by omega) (by unfold pmA; omega)]; exact hl
      refine r_st (st2 := [.int (aR o1), .int (nI goal), .int (9), .ref (ad_6 21)]) (by rw [hf1.1 21 (by omega) (by unfold pmA; omega)]) ?_
      have hn1_ : nsOK s1.1 s1.2 := hOp_10.1
      refine lv_iconst (v := 0) hx hb dX3_build_160 (by decide) ?_
      refine lv_iconst (v := 0) hx hb dX3_build_161 (by decide) ?_
      refine r_callVi (ci := 3) (As := [.int (9), .int (nI goal), .int (aR o1), .int (0), .int (0)]) hx hb hml hown hts hK hA hs (21) (by omega) he21p_10 rfl rfl (c_X3_make1 l G (o := o1) hW1 (tg := 9) (gl := goal) (by decide) (by have := sExt_len x1; omega) (v1.1.vd)) (cwV 5 hts (tbV w_ml_RX3_52 w_im_yX3_make w_se_yX3_make w_ini_RX3 w_cd_yX3_make) rfl rfl rfl (by decide +kernel) ⟨(by show (4) + 1 ≤ ((h + 1) + 6); omega), (by show 8 + (6 + 11) + (135) ≤ (35 * (h + 1) + 203); omega)⟩) rfl hl.1 rfl (Nat.le_of_ble_eq_true rfl) dX3_build_162 ⟨by show _ ≤ aC (aGate false (bld dv (h + 1) step)) s0; omega, by show _ ≤ aS (aGate false (bld dv (h + 1) step)) s0; omega⟩ (fun r_14 ad_11 en_12 H locs hp_13 hs => ?_)
      obtain ⟨hr2, hW2, hf2⟩ := hp_13
      rw [hq2] at hr2 hW2
      have hW2 : PmW G n ad_11 en_12 s2 jd RR SL S sf o2.isNone := hW2
      have v2 := gate_q hq2
      rw [show r_14 = aR o2 from hr2]
      obtain ⟨hp_15, hdp_15, hOp_15, hnp_15, he21p_15⟩ := id hW2
      obtain ⟨fstp_15, hestp_15⟩ : ∃ fs, en_12 3 = .inr (6, fs) := ⟨_, hp_15.2.1⟩
      obtain ⟨fndp_15, hendp_15⟩ : ∃ fs, en_12 11 = .inr (2, fs) := ⟨_, hdp_15.2.1⟩
      have frp_15 := Fr_tr frp_10 hf2
      have hl : lv_has ls 8 [(7, .int (nI (81 - h))), (6, .int (dv (4 * (step) + (1 + 2)))), (5, .int (dv (4 * (step) + (1 + 1)))), (4, .int (nI f)), (3, .int (nI goal)), (0, .ref (ad_11 21)), (1, .int (nI step)), (2, .int (nI (81 - (h + 1))))] := by rw [hf2.1 21 (by omega) (by unfold pmA; omega)]; exact hl
      have hn2_ : nsOK s2.1 s2.2 := hOp_15.1
      refine r_iret (v := aR o2) (mc := aC (aGate false (bld dv (h + 1) step)) s0) (ms := aS (aGate false (bld dv (h + 1) step)) s0) hx hb hr hlk hs (by omega) (by omega) dX3_build_165 hQ ?_
      exact aPostG.of hE hW2 frp_15 v2.1.vd x2
    by_cases k76_3 : nI r = 3
    · skip
      refine lv_tableIn (off := 90) (tgt := 166) hx hb dX3_build_76 (by rw [k76_3]; decide) (by rw [k76_3]; decide) (by rw [k76_3]; decide) (by decide) ?_
      obtain rfl : r = 3 := sw_nI k76_3 rfl (by omega) (by decide)
      have hB := bld_eq (h := h) hdg hdw (by omega) hf6 (by decide)
      obtain ⟨ha1, hwa⟩ := hpa (by decide)
      have hai := hwa.in
      rw [ha1] at hl
      rw [ha1, tN_nI (by omega)] at hB
      obtain ⟨hb1, hwb⟩ := hpb (by decide)
      have hbi := hwb.in
      rw [hb1] at hl
      rw [hb1, tN_nI (by omega)] at hB
      have hB1 := bld_ext dv h a
      have hB2 := bld_ext dv h b
      obtain ⟨o1, s1, hq1⟩ : ∃ oo tt, (aGate false (bld dv h a)) s0 = (oo, tt) := ⟨_, _, rfl⟩
      have hc1 := aC_eq hq1 (aGate_ext hB1 _ _)
      have x1 := x0.tr hc1.2.2.2.2
      have hS1 := side_ext x1 hokk hgl.2 hsd
      obtain ⟨o2, s2, hq2⟩ : ∃ oo tt, (aGate o1.isNone (bld dv h b)) s1 = (oo, tt) := ⟨_, _, rfl⟩
      have hc2 := aC_eq hq2 (aGate_ext hB2 _ _)
      have x2 := x1.tr hc2.2.2.2.2
      have hS2 := side_ext x2 hokk hgl.2 hsd
      obtain ⟨o3, s3, hq3⟩ : ∃ oo tt, (aGate o2.isNone (aNode (3, goal, o1.getD 0, o2.getD 0, 0))) s2 = (oo, tt) := ⟨_, _, rfl⟩
      have hc3 := aC_eq hq3 (aGate_ext (aNode_ext _) _ _)
      have x3 := x2.tr hc3.2.2.2.2
      have hS3 := side_ext x3 hokk hgl.2 hsd
      have hE : (aGate false (bld dv (h + 1) step)) s0 = (o3, s3) := by
        show bld dv (h + 1) step s0 = _
        rw [hB]
        exact bR3_eq hq1 hq2 hq3
      obtain ⟨hRC, hRS⟩ := aC_all hE x3
      refine lv_aload_n hx hb dX3_build_166 rfl (lv_at hl 5 rfl) ?_
      refine lv_iconst (v := 3) hx hb dX3_build_167 (by decide) ?_
      refine lv_iload_n hx hb dX3_build_168 rfl (lv_at hl 4 rfl) ?_
      refine lv_aload_n hx hb dX3_build_169 rfl (lv_at hl 5 rfl) ?_
      refine lv_iload hx hb dX3_build_170 (lv_at hl 2 rfl) ?_
      refine lv_iload hx hb dX3_build_172 (lv_at hl 0 rfl) ?_
      refine r_callVi (ci := 3) (As := [.int (nI a), .int (nI (81 - h))]) hx hb hml hown hts hK hA hs (21) (by omega) he210 rfl rfl (IH (fl := false) hW (Der_fr hD (Fr_rf : Fr n pmS pmA ad en ad en)) hhi (wfD_ext x0 hokk hwa) (by omega)) (cwV 2 hts (tbV w_ml_RX3_27 w_im_yX3_build w_se_yX3_build w_ini_RX3 w_cd_yX3_build) rfl rfl rfl (by decide +kernel) ⟨(by show ((h + 6)) + 1 ≤ ((h + 1) + 6); omega), (by show 8 + (8 + 11) + ((35 * h + 203)) ≤ (35 * (h + 1) + 203); omega)⟩) rfl hl.1 rfl (Nat.le_of_ble_eq_true rfl) dX3_build_174 ⟨by show _ ≤ aC (aGate false (bld dv (h + 1) step)) s0; omega, by show _ ≤ aS (aGate false (bld dv (h + 1) step)) s0; omega⟩ (fun r_19 ad_16 en_17 H locs hp_18 hs => ?_)
      obtain ⟨⟨hr1, hW1, hf1⟩, hv1, -⟩ := hp_18
      rw [hq1] at hr1 hW1 hv1
      have hW1 : PmW G n ad_16 en_17 s1 jd RR SL S sf o1.isNone := hW1
      obtain ⟨gt1, hnd1, hg1⟩ := vd_nd hv1 hW1.2.2.1.1
      have v1 : oNd s1 o1 gt1 ∧ (false = true → o1 = none) := ⟨hnd1, gt_none hq1⟩
      rw [show r_19 = aR o1 from hr1]
      obtain ⟨hp_20, hdp_20, hOp_20, hnp_20, he21p_20⟩ := id hW1
      obtain ⟨fstp_20, hestp_20⟩ : ∃ fs, en_17 3 = .inr (6, fs) := ⟨_, hp_20.2.1⟩
      obtain ⟨fndp_20, hendp_20⟩ : ∃ fs, en_17 11 = .inr (2, fs) := ⟨_, hdp_20.2.1⟩
      have frp_20 := Fr_tr Fr_rf hf1
      have hl : lv_has ls 8 [(7, .int (nI (81 - h))), (6, .int (nI b)), (5, .int (nI a)), (4, .int (nI f)), (3, .int (nI goal)), (0, .ref (ad_16 21)), (1, .int (nI step)), (2, .int (nI (81 - (h + 1))))] := by rw [hf1.1 21 (by omega) (by unfold pmA; omega)]; exact hl
      refine r_st (st2 := [.int (aR o1), .int (nI goal), .int (3), .ref (ad_16 21)]) (by rw [hf1.1 21 (by omega) (by unfold pmA; omega)]) ?_
      have hn1_ : nsOK s1.1 s1.2 := hOp_20.1
      refine lv_aload_n hx hb dX3_build_177 rfl (lv_at hl 5 rfl) ?_
      refine lv_iload hx hb dX3_build_178 (lv_at hl 1 rfl) ?_
      refine lv_iload hx hb dX3_build_180 (lv_at hl 0 rfl) ?_
      refine r_callVi (ci := 3) (As := [.int (nI b), .int (nI (81 - h))]) hx hb hml hown hts hK hA hs (21) (by omega) he21p_20 rfl rfl (IH (fl := o1.isNone) hW1 (Der_fr hD frp_20) hhi (wfD_ext x1 hokk hwb) (by omega)) (cwV 2 hts (tbV w_ml_RX3_27 w_im_yX3_build w_se_yX3_build w_ini_RX3 w_cd_yX3_build) rfl rfl rfl (by decide +kernel) ⟨(by show ((h + 6)) + 1 ≤ ((h + 1) + 6); omega), (by show 8 + (8 + 11) + ((35 * h + 203)) ≤ (35 * (h + 1) + 203); omega)⟩) rfl hl.1 rfl (Nat.le_of_ble_eq_true rfl) dX3_build_182 ⟨by show _ ≤ aC (aGate false (bld dv (h + 1) step)) s0; omega, by show _ ≤ aS (aGate false (bld dv (h + 1) step)) s0; omega⟩ (fun r_24 ad_21 en_22 H locs hp_23 hs => ?_)
      obtain ⟨⟨hr2, hW2, hf2⟩, hv2, -⟩ := hp_23
      rw [hq2] at hr2 hW2 hv2
      have hW2 : PmW G n ad_21 en_22 s2 jd RR SL S sf o2.isNone := hW2
      obtain ⟨gt2, hnd2, hg2⟩ := vd_nd hv2 hW2.2.2.1.1
      have v2 : oNd s2 o2 gt2 ∧ (o1.isNone = true → o2 = none) := ⟨hnd2, gt_none hq2⟩
      rw [show r_24 = aR o2 from hr2]
      obtain ⟨hp_25, hdp_25, hOp_25, hnp_25, he21p_25⟩ := id hW2
      obtain ⟨fstp_25, hestp_25⟩ : ∃ fs, en_22 3 = .inr (6, fs) := ⟨_, hp_25.2.1⟩
      obtain ⟨fndp_25, hendp_25⟩ : ∃ fs, en_22 11 = .inr (2, fs) := ⟨_, hdp_25.2.1⟩
      have frp_25 := Fr_tr frp_20 hf2
      have hl : lv_has ls 8 [(7, .int (nI (81 - h))), (6, .int (nI b)), (5, .int (nI a)), (4, .int (nI f)), (3, .int (nI goal)), (0, .ref (ad_21 21)), (1, .int (nI step)), (2, .int (nI (81 - (h + 1))))] := by rw [hf2.1 21 (by omega) (by unfold pmA; omega)]; exact hl
      refine r_st (st2 := [.int (aR o2), .int (aR o1), .int (nI goal), .int (3), .ref (ad_21 21)]) (by rw [hf2.1 21 (by omega) (by unfold pmA; omega)]) ?_
      have hn2_ : nsOK s2.1 s2.2 := hOp_25.1
      refine lv_iconst (v := 0) hx hb dX3_build_185 (by decide) ?_
      refine r_callVi (ci := 3) (As := [.int (3), .int (nI goal), .int (aR o1), .int (aR o2), .int (0)]) hx hb hml hown hts hK hA hs (21) (by omega) he21p_25 rfl rfl (c_X3_make2 l G (o1 := o1) (o2 := o2) hW2 (tg := 3) (gl := goal) (by decide) (by have := sExt_len x2; omega) ((v1.1.mono hc2.2.2.2.2).vd) (v2.1.vd) (fun q => v2.2 (none_i q))) (cwV 5 hts (tbV w_ml_RX3_52 w_im_yX3_make w_se_yX3_make w_ini_RX3 w_cd_yX3_make) rfl rfl rfl (by decide +kernel) ⟨(by show (4) + 1 ≤ ((h + 1) + 6); omega), (by show 8 + (6 + 11) + (135) ≤ (35 * (h + 1) + 203); omega)⟩) rfl hl.1 rfl (Nat.le_of_ble_eq_true rfl) dX3_build_186 ⟨by show _ ≤ aC (aGate false (bld dv (h + 1) step)) s0; omega, by show _ ≤ aS (aGate false (bld dv (h + 1) step)) s0; omega⟩ (fun r_29 ad_26 en_27 H locs hp_28 hs => ?_)
      obtain ⟨hr3, hW3, hf3⟩ := hp_28
      rw [hq3] at hr3 hW3
      have hW3 : PmW G n ad_26 en_27 s3 jd RR SL S sf o3.isNone := hW3
      have v3 := gate_q hq3
      rw [show r_29 = aR o3 from hr3]
      obtain ⟨hp_30, hdp_30, hOp_30, hnp_30, he21p_30⟩ := id hW3
      obtain ⟨fstp_30, hestp_30⟩ : ∃ fs, en_27 3 = .inr (6, fs) := ⟨_, hp_30.2.1⟩
      obtain ⟨fndp_30, hendp_30⟩ : ∃ fs, en_27 11 = .inr (2, fs) := ⟨_, hdp_30.2.1⟩
      have frp_30 := Fr_tr frp_25 hf3
      have hl : lv_has ls 8 [(7, .int (nI (81 - h))), (6, .int (nI b)), (5, .int (nI a)), (4, .int (nI f)), (3, .int (nI goal)), (0, .ref (ad_26 21)), (1, .int (nI step)), (2, .int (nI (81 - (h + 1))))] := by rw [hf3.1 21 (by omega) (by unfold pmA; omega)]; exact hl
      have hn3_ : nsOK s3.1 s3.2 := hOp_30.1
      refine r_iret (v := aR o3) (mc := aC (aGate false (bld dv (h + 1) step)) s0) (ms := aS (aGate false (bld dv (h + 1) step)) s0) hx hb hr hlk hs (by omega) (by omega) dX3_build_189 hQ ?_
      exact aPostG.of hE hW3 frp_30 v3.1.vd x3
    by_cases k76_4 : nI r = 4
    · skip
      refine lv_tableIn (off := 114) (tgt := 190) hx hb dX3_build_76 (by rw [k76_4]; decide) (by rw [k76_4]; decide) (by rw [k76_4]; decide) (by decide) ?_
      obtain rfl : r = 4 := sw_nI k76_4 rfl (by omega) (by decide)
      have hB := bld_eq (h := h) hdg hdw (by omega) hf6 (by decide)
      have hgp := parts_of hokk hgl (by rw [hsd.2.2.2.2.1 rfl]; decide)
      obtain ⟨ha1, hwa⟩ := hpa (by decide)
      have hai := hwa.in
      rw [ha1] at hl
      rw [ha1, tN_nI (by omega)] at hB
      have hB1 := bld_ext dv h a
      have hB2 := bld_ext dv h b
      obtain ⟨o1, s1, hq1⟩ : ∃ oo tt, (aGate false (bld dv h a)) s0 = (oo, tt) := ⟨_, _, rfl⟩
      have hc1 := aC_eq hq1 (aGate_ext hB1 _ _)
      have x1 := x0.tr hc1.2.2.2.2
      have hS1 := side_ext x1 hokk hgl.2 hsd
      obtain ⟨o2, s2, hq2⟩ : ∃ oo tt, (aLamO (sL s0.1 goal) o1) s1 = (oo, tt) := ⟨_, _, rfl⟩
      have hc2 := aC_eq hq2 (aLamO_ext _ _ _)
      have x2 := x1.tr hc2.2.2.2.2
      have hS2 := side_ext x2 hokk hgl.2 hsd
      have hE : (aGate false (bld dv (h + 1) step)) s0 = (o2, s2) := by
        show bld dv (h + 1) step s0 = _
        rw [hB]
        exact bR4_eq hq1 hq2
      obtain ⟨hRC, hRS⟩ := aC_all hE x2
      refine lv_aload_n hx hb dX3_build_190 rfl (lv_at hl 5 rfl) ?_
      refine lv_aload_n hx hb dX3_build_191 rfl (lv_at hl 5 rfl) ?_
      refine r_get (ci := 3) (v := .ref (ad 3)) (C := RX3) (T := TX3) (N := 4) hx hb hts inlX3 hown hK hs (21) (by omega) he210 rfl 0 (by decide) (hts _ w_fl_RX3_15) rfl dX3_build_192 ?_
      refine lv_iload_n hx hb dX3_build_195 rfl (lv_at hl 4 rfl) ?_
      refine r_callViR (ci := 6) (As := [.int (nI goal)]) hx hb hml hown hts hK hA hs (3) (by omega) hest0 rfl rfl (c_X6_leftOfN l G h0 goal (by omega)) (cwV 1 hts (tbV w_ml_RX3_56 w_im_yX6_leftOf w_se_yX6_leftOf w_ini_RX6 w_cd_yX6_leftOf) rfl rfl rfl (by decide +kernel) ⟨(by show (1) + 1 ≤ ((h + 1) + 6); omega), (by show 8 + (2 + 11) + (23) ≤ (35 * (h + 1) + 203); omega)⟩) rfl hl.1 rfl (Nat.le_of_ble_eq_true rfl) dX3_build_196 ⟨by show _ ≤ aC (aGate false (bld dv (h + 1) step)) s0; omega, by show _ ≤ aS (aGate false (bld dv (h + 1) step)) s0; omega⟩ (fun H locs hs => ?_)
      refine lv_aload_n hx hb dX3_build_199 rfl (lv_at hl 5 rfl) ?_
      refine lv_iload hx hb dX3_build_200 (lv_at hl 2 rfl) ?_
      refine lv_iload hx hb dX3_build_202 (lv_at hl 0 rfl) ?_
      refine r_callVi (ci := 3) (As := [.int (nI a), .int (nI (81 - h))]) hx hb hml hown hts hK hA hs (21) (by omega) he210 rfl rfl (IH (fl := false) hW (Der_fr hD (Fr_rf : Fr n pmS pmA ad en ad en)) hhi (wfD_ext x0 hokk hwa) (by omega)) (cwV 2 hts (tbV w_ml_RX3_27 w_im_yX3_build w_se_yX3_build w_ini_RX3 w_cd_yX3_build) rfl rfl rfl (by decide +kernel) ⟨(by show ((h + 6)) + 1 ≤ ((h + 1) + 6); omega), (by show 8 + (8 + 11) + ((35 * h + 203)) ≤ (35 * (h + 1) + 203); omega)⟩) rfl hl.1 rfl (Nat.le_of_ble_eq_true rfl) dX3_build_204 ⟨by show _ ≤ aC (aGate false (bld dv (h + 1) step)) s0; omega, by show _ ≤ aS (aGate false (bld dv (h + 1) step)) s0; omega⟩ (fun r_34 ad_31 en_32 H locs hp_33 hs => ?_)
      obtain ⟨⟨hr1, hW1, hf1⟩, hv1, -⟩ := hp_33
      rw [hq1] at hr1 hW1 hv1
      have hW1 : PmW G n ad_31 en_32 s1 jd RR SL S sf o1.isNone := hW1
      obtain ⟨gt1, hnd1, hg1⟩ := vd_nd hv1 hW1.2.2.1.1
      have v1 : oNd s1 o1 gt1 ∧ (false = true → o1 = none) := ⟨hnd1, gt_none hq1⟩
      rw [show r_34 = aR o1 from hr1]
      obtain ⟨hp_35, hdp_35, hOp_35, hnp_35, he21p_35⟩ := id hW1
      obtain ⟨fstp_35, hestp_35⟩ : ∃ fs, en_32 3 = .inr (6, fs) := ⟨_, hp_35.2.1⟩
      obtain ⟨fndp_35, hendp_35⟩ : ∃ fs, en_32 11 = .inr (2, fs) := ⟨_, hdp_35.2.1⟩
      have frp_35 := Fr_tr Fr_rf hf1
      have hl : lv_has ls 8 [(7, .int (nI (81 - h))), (6, .int (dv (4 * (step) + (1 + 2)))), (5, .int (nI a)), (4, .int (nI f)), (3, .int (nI goal)), (0, .ref (ad_31 21)), (1, .int (nI step)), (2, .int (nI (81 - (h + 1))))] := by rw [hf1.1 21 (by omega) (by unfold pmA; omega)]; exact hl
      refine r_st (st2 := [.int (aR o1), .int (nI (sL s0.1 goal)), .ref (ad_31 21)]) (by rw [hf1.1 21 (by omega) (by unfold pmA; omega)]) ?_
      have hn1_ : nsOK s1.1 s1.2 := hOp_35.1
      refine r_callVi (ci := 3) (As := [.int (nI (sL s0.1 goal)), .int (aR o1)]) hx hb hml hown hts hK hA hs (21) (by omega) he21p_35 rfl rfl (c_X3_lambda l G (o := o1) hW1 (a := sL s0.1 goal) (by have := sExt_len x1; omega) (v1.1)) (cwV 2 hts (tbV w_ml_RX3_61 w_im_yX3_lambda w_se_yX3_lambda w_ini_RX3 w_cd_yX3_lambda) rfl rfl rfl (by decide +kernel) ⟨(by show (4) + 1 ≤ ((h + 1) + 6); omega), (by show 8 + (4 + 11) + (135) ≤ (35 * (h + 1) + 203); omega)⟩) rfl hl.1 rfl (Nat.le_of_ble_eq_true rfl) dX3_build_207 ⟨by show _ ≤ aC (aGate false (bld dv (h + 1) step)) s0; omega, by show _ ≤ aS (aGate false (bld dv (h + 1) step)) s0; omega⟩ (fun r_39 ad_36 en_37 H locs hp_38 hs => ?_)
      obtain ⟨hr2, hW2, hf2⟩ := hp_38
      rw [hq2] at hr2 hW2
      have hW2 : PmW G n ad_36 en_37 s2 jd RR SL S sf o2.isNone := hW2
      have v2 := lamO_q hq2 (v1.1)
      rw [show r_39 = aR o2 from hr2]
      obtain ⟨hp_40, hdp_40, hOp_40, hnp_40, he21p_40⟩ := id hW2
      obtain ⟨fstp_40, hestp_40⟩ : ∃ fs, en_37 3 = .inr (6, fs) := ⟨_, hp_40.2.1⟩
      obtain ⟨fndp_40, hendp_40⟩ : ∃ fs, en_37 11 = .inr (2, fs) := ⟨_, hdp_40.2.1⟩
      have frp_40 := Fr_tr frp_35 hf2
      have hl : lv_has ls 8 [(7, .int (nI (81 - h))), (6, .int (dv (4 * (step) + (1 + 2)))), (5, .int (nI a)), (4, .int (nI f)), (3, .int (nI goal)), (0, .ref (ad_36 21)), (1, .int (nI step)), (2, .int (nI (81 - (h + 1))))] := by rw [hf2.1 21 (by omega) (by unfold pmA; omega)]; exact hl
      have hn2_ : nsOK s2.1 s2.2 := hOp_40.1
      refine r_iret (v := aR o2) (mc := aC (aGate false (bld dv (h + 1) step)) s0) (ms := aS (aGate false (bld dv (h + 1) step)) s0) hx hb hr hlk hs (by omega) (by omega) dX3_build_210 hQ ?_
      exact aPostG.of hE hW2 frp_40 v2.1.self.vd x2
    by_cases k76_5 : nI r = 5
    · skip
      refine lv_tableIn (off := 135) (tgt := 211) hx hb dX3_build_76 (by rw [k76_5]; decide) (by rw [k76_5]; decide) (by rw [k76_5]; decide) (by decide) ?_
      obtain rfl : r = 5 := sw_nI k76_5 rfl (by omega) (by decide)
      have hB := bld_eq (h := h) hdg hdw (by omega) hf6 (by decide)
      have hfr_ := hsd.2.1 (by omega)
      obtain ⟨ha1, hwa⟩ := hpa (by decide)
      have hai := hwa.in
      rw [ha1] at hl
      rw [ha1, tN_nI (by omega)] at hB
      have hB1 := bld_ext dv h a
      have hB2 := bld_ext dv h b
      obtain ⟨o1, s1, hq1⟩ : ∃ oo tt, (aGate false (bld dv h a)) s0 = (oo, tt) := ⟨_, _, rfl⟩
      have hc1 := aC_eq hq1 (aGate_ext hB1 _ _)
      have x1 := x0.tr hc1.2.2.2.2
      have hS1 := side_ext x1 hokk hgl.2 hsd
      obtain ⟨o2, s2, hq2⟩ : ∃ oo tt, (aUnpack f o1) s1 = (oo, tt) := ⟨_, _, rfl⟩
      have hc2 := aC_eq hq2 (aUnpack_ext _ _ _)
      have x2 := x1.tr hc2.2.2.2.2
      have hS2 := side_ext x2 hokk hgl.2 hsd
      have hE : (aGate false (bld dv (h + 1) step)) s0 = (o2, s2) := by
        show bld dv (h + 1) step s0 = _
        rw [hB]
        exact bR5_eq hq1 hq2
      obtain ⟨hRC, hRS⟩ := aC_all hE x2
      refine lv_aload_n hx hb dX3_build_211 rfl (lv_at hl 5 rfl) ?_
      refine lv_iload hx hb dX3_build_212 (lv_at hl 3 rfl) ?_
      refine lv_aload_n hx hb dX3_build_214 rfl (lv_at hl 5 rfl) ?_
      refine lv_iload hx hb dX3_build_215 (lv_at hl 2 rfl) ?_
      refine lv_iload hx hb dX3_build_217 (lv_at hl 0 rfl) ?_
      refine r_callVi (ci := 3) (As := [.int (nI a), .int (nI (81 - h))]) hx hb hml hown hts hK hA hs (21) (by omega) he210 rfl rfl (IH (fl := false) hW (Der_fr hD (Fr_rf : Fr n pmS pmA ad en ad en)) hhi (wfD_ext x0 hokk hwa) (by omega)) (cwV 2 hts (tbV w_ml_RX3_27 w_im_yX3_build w_se_yX3_build w_ini_RX3 w_cd_yX3_build) rfl rfl rfl (by decide +kernel) ⟨(by show ((h + 6)) + 1 ≤ ((h + 1) + 6); omega), (by show 8 + (8 + 11) + ((35 * h + 203)) ≤ (35 * (h + 1) + 203); omega)⟩) rfl hl.1 rfl (Nat.le_of_ble_eq_true rfl) dX3_build_219 ⟨by show _ ≤ aC (aGate false (bld dv (h + 1) step)) s0; omega, by show _ ≤ aS (aGate false (bld dv (h + 1) step)) s0; omega⟩ (fun r_44 ad_41 en_42 H locs hp_43 hs => ?_)
      obtain ⟨⟨hr1, hW1, hf1⟩, hv1, -⟩ := hp_43
      rw [hq1] at hr1 hW1 hv1
      have hW1 : PmW G n ad_41 en_42 s1 jd RR SL S sf o1.isNone := hW1
      obtain ⟨gt1, hnd1, hg1⟩ := vd_nd hv1 hW1.2.2.1.1
      have v1 : oNd s1 o1 gt1 ∧ (false = true → o1 = none) := ⟨hnd1, gt_none hq1⟩
      rw [show r_44 = aR o1 from hr1]
      obtain ⟨hp_45, hdp_45, hOp_45, hnp_45, he21p_45⟩ := id hW1
      obtain ⟨fstp_45, hestp_45⟩ : ∃ fs, en_42 3 = .inr (6, fs) := ⟨_, hp_45.2.1⟩
      obtain ⟨fndp_45, hendp_45⟩ : ∃ fs, en_42 11 = .inr (2, fs) := ⟨_, hdp_45.2.1⟩
      have frp_45 := Fr_tr Fr_rf hf1
      have hl : lv_has ls 8 [(7, .int (nI (81 - h))), (6, .int (dv (4 * (step) + (1 + 2)))), (5, .int (nI a)), (4, .int (nI f)), (3, .int (nI goal)), (0, .ref (ad_41 21)), (1, .int (nI step)), (2, .int (nI (81 - (h + 1))))] := by rw [hf1.1 21 (by omega) (by unfold pmA; omega)]; exact hl
      refine r_st (st2 := [.int (aR o1), .int (nI f), .ref (ad_41 21)]) (by rw [hf1.1 21 (by omega) (by unfold pmA; omega)]) ?_
      have hn1_ : nsOK s1.1 s1.2 := hOp_45.1
      refine r_callVi (ci := 3) (As := [.int (nI f), .int (aR o1)]) hx hb hml hown hts hK hA hs (21) (by omega) he21p_45 rfl rfl (c_X3_unpack l G hW1 (f := f) (hS1.2.1 (by omega)) (by rw [hS1.2.2.2.2.2.1 rfl]; decide) v1.1 hg1) (cwV 2 hts (tbV w_ml_RX3_64 w_im_yX3_unpack w_se_yX3_unpack w_ini_RX3 w_cd_yX3_unpack) rfl rfl rfl (by decide +kernel) ⟨(by show (5) + 1 ≤ ((h + 1) + 6); omega), (by show 8 + (5 + 11) + (168) ≤ (35 * (h + 1) + 203); omega)⟩) rfl hl.1 rfl (Nat.le_of_ble_eq_true rfl) dX3_build_222 ⟨by show _ ≤ aC (aGate false (bld dv (h + 1) step)) s0; omega, by show _ ≤ aS (aGate false (bld dv (h + 1) step)) s0; omega⟩ (fun r_49 ad_46 en_47 H locs hp_48 hs => ?_)
      obtain ⟨⟨hr2, hW2, hf2⟩, hv2, -⟩ := hp_48
      rw [hq2] at hr2 hW2 hv2
      have hW2 : PmW G n ad_46 en_47 s2 jd RR SL S sf o2.isNone := hW2
      rw [show r_49 = aR o2 from hr2]
      obtain ⟨hp_50, hdp_50, hOp_50, hnp_50, he21p_50⟩ := id hW2
      obtain ⟨fstp_50, hestp_50⟩ : ∃ fs, en_47 3 = .inr (6, fs) := ⟨_, hp_50.2.1⟩
      obtain ⟨fndp_50, hendp_50⟩ : ∃ fs, en_47 11 = .inr (2, fs) := ⟨_, hdp_50.2.1⟩
      have frp_50 := Fr_tr frp_45 hf2
      have hl : lv_has ls 8 [(7, .int (nI (81 - h))), (6, .int (dv (4 * (step) + (1 + 2)))), (5, .int (nI a)), (4, .int (nI f)), (3, .int (nI goal)), (0, .ref (ad_46 21)), (1, .int (nI step)), (2, .int (nI (81 - (h + 1))))] := by rw [hf2.1 21 (by omega) (by unfold pmA; omega)]; exact hl
      refine r_iret (v := aR o2) (mc := aC (aGate false (bld dv (h + 1) step)) s0) (ms := aS (aGate false (bld dv (h + 1) step)) s0) hx hb hr hlk hs (by omega) (by omega) dX3_build_225 hQ ?_
      exact aPostG.of hE hW2 frp_50 hv2 x2
    by_cases k76_6 : nI r = 6
    · skip
      refine lv_tableIn (off := 150) (tgt := 226) hx hb dX3_build_76 (by rw [k76_6]; decide) (by rw [k76_6]; decide) (by rw [k76_6]; decide) (by decide) ?_
      obtain rfl : r = 6 := sw_nI k76_6 rfl (by omega) (by decide)
      have hB := bld_eq (h := h) hdg hdw (by omega) hf6 (by decide)
      have hfr_ := hsd.2.1 (by omega)
      obtain ⟨ha1, hwa⟩ := hpa (by decide)
      have hai := hwa.in
      rw [ha1] at hl
      rw [ha1, tN_nI (by omega)] at hB
      obtain ⟨hb1, hwb⟩ := hpb (by decide)
      have hbi := hwb.in
      rw [hb1] at hl
      rw [hb1, tN_nI (by omega)] at hB
      have hB1 := bld_ext dv h a
      have hB2 := bld_ext dv h b
      obtain ⟨o1, s1, hq1⟩ : ∃ oo tt, (aGate false (aNode (0, f, 0, 0, 0))) s0 = (oo, tt) := ⟨_, _, rfl⟩
      have hc1 := aC_eq hq1 (aGate_ext (aNode_ext _) _ _)
      have x1 := x0.tr hc1.2.2.2.2
      have hS1 := side_ext x1 hokk hgl.2 hsd
      obtain ⟨o2, s2, hq2⟩ : ∃ oo tt, (aGate o1.isNone (bld dv h a)) s1 = (oo, tt) := ⟨_, _, rfl⟩
      have hc2 := aC_eq hq2 (aGate_ext hB1 _ _)
      have x2 := x1.tr hc2.2.2.2.2
      have hS2 := side_ext x2 hokk hgl.2 hsd
      obtain ⟨o3, s3, hq3⟩ : ∃ oo tt, (aGate o2.isNone (bld dv h b)) s2 = (oo, tt) := ⟨_, _, rfl⟩
      have hc3 := aC_eq hq3 (aGate_ext hB2 _ _)
      have x3 := x2.tr hc3.2.2.2.2
      have hS3 := side_ext x3 hokk hgl.2 hsd
      obtain ⟨o4, s4, hq4⟩ : ∃ oo tt, (aGate o3.isNone (aNode (8, goal, o1.getD 0, o2.getD 0, o3.getD 0))) s3 = (oo, tt) := ⟨_, _, rfl⟩
      have hc4 := aC_eq hq4 (aGate_ext (aNode_ext _) _ _)
      have x4 := x3.tr hc4.2.2.2.2
      have hS4 := side_ext x4 hokk hgl.2 hsd
      have hE : (aGate false (bld dv (h + 1) step)) s0 = (o4, s4) := by
        show bld dv (h + 1) step s0 = _
        rw [hB]
        exact bR6_eq hq1 hq2 hq3 hq4
      obtain ⟨hRC, hRS⟩ := aC_all hE x4
      refine lv_aload_n hx hb dX3_build_226 rfl (lv_at hl 5 rfl) ?_
      refine lv_bipush (v := 8) hx hb dX3_build_227 (by decide) ?_
      refine lv_iload_n hx hb dX3_build_229 rfl (lv_at hl 4 rfl) ?_
      refine lv_aload_n hx hb dX3_build_230 rfl (lv_at hl 5 rfl) ?_
      refine lv_iload hx hb dX3_build_231 (lv_at hl 3 rfl) ?_
      refine r_callVi (ci := 3) (As := [.int (nI f)]) hx hb hml hown hts hK hA hs (21) (by omega) he210 rfl rfl (c_X3_given l G hW (f1 := f) (by have := sExt_len x0; omega)) (cwV 1 hts (tbV w_ml_RX3_49 w_im_yX3_given w_se_yX3_given w_ini_RX3 w_cd_yX3_given) rfl rfl rfl (by decide +kernel) ⟨(by show (4) + 1 ≤ ((h + 1) + 6); omega), (by show 8 + (2 + 11) + (135) ≤ (35 * (h + 1) + 203); omega)⟩) rfl hl.1 rfl (Nat.le_of_ble_eq_true rfl) dX3_build_233 ⟨by show _ ≤ aC (aGate false (bld dv (h + 1) step)) s0; omega, by show _ ≤ aS (aGate false (bld dv (h + 1) step)) s0; omega⟩ (fun r_54 ad_51 en_52 H locs hp_53 hs => ?_)
      obtain ⟨hr1, hW1, hf1⟩ := hp_53
      rw [hq1] at hr1 hW1
      have hW1 : PmW G n ad_51 en_52 s1 jd RR SL S sf o1.isNone := hW1
      have v1 := gate_q hq1
      rw [show r_54 = aR o1 from hr1]
      obtain ⟨hp_55, hdp_55, hOp_55, hnp_55, he21p_55⟩ := id hW1
      obtain ⟨fstp_55, hestp_55⟩ : ∃ fs, en_52 3 = .inr (6, fs) := ⟨_, hp_55.2.1⟩
      obtain ⟨fndp_55, hendp_55⟩ : ∃ fs, en_52 11 = .inr (2, fs) := ⟨_, hdp_55.2.1⟩
      have frp_55 := Fr_tr Fr_rf hf1
      have hl : lv_has ls 8 [(7, .int (nI (81 - h))), (6, .int (nI b)), (5, .int (nI a)), (4, .int (nI f)), (3, .int (nI goal)), (0, .ref (ad_51 21)), (1, .int (nI step)), (2, .int (nI (81 - (h + 1))))] := by rw [hf1.1 21 (by omega) (by unfold pmA; omega)]; exact hl
      refine r_st (st2 := [.int (aR o1), .int (nI goal), .int (8), .ref (ad_51 21)]) (by rw [hf1.1 21 (by omega) (by unfold pmA; omega)]) ?_
      have hn1_ : nsOK s1.1 s1.2 := hOp_55.1
      refine lv_aload_n hx hb dX3_build_236 rfl (lv_at hl 5 rfl) ?_
      refine lv_iload hx hb dX3_build_237 (lv_at hl 2 rfl) ?_
      refine lv_iload hx hb dX3_build_239 (lv_at hl 0 rfl) ?_
      refine r_callVi (ci := 3) (As := [.int (nI a), .int (nI (81 - h))]) hx hb hml hown hts hK hA hs (21) (by omega) he21p_55 rfl rfl (IH (fl := o1.isNone) hW1 (Der_fr hD frp_55) hhi (wfD_ext x1 hokk hwa) (by omega)) (cwV 2 hts (tbV w_ml_RX3_27 w_im_yX3_build w_se_yX3_build w_ini_RX3 w_cd_yX3_build) rfl rfl rfl (by decide +kernel) ⟨(by show ((h + 6)) + 1 ≤ ((h + 1) + 6); omega), (by show 8 + (8 + 11) + ((35 * h + 203)) ≤ (35 * (h + 1) + 203); omega)⟩) rfl hl.1 rfl (Nat.le_of_ble_eq_true rfl) dX3_build_241 ⟨by show _ ≤ aC (aGate false (bld dv (h + 1) step)) s0; omega, by show _ ≤ aS (aGate false (bld dv (h + 1) step)) s0; omega⟩ (fun r_59 ad_56 en_57 H locs hp_58 hs => ?_)
      obtain ⟨⟨hr2, hW2, hf2⟩, hv2, -⟩ := hp_58
      rw [hq2] at hr2 hW2 hv2
      have hW2 : PmW G n ad_56 en_57 s2 jd RR SL S sf o2.isNone := hW2
      obtain ⟨gt2, hnd2, hg2⟩ := vd_nd hv2 hW2.2.2.1.1
      have v2 : oNd s2 o2 gt2 ∧ (o1.isNone = true → o2 = none) := ⟨hnd2, gt_none hq2⟩
      rw [show r_59 = aR o2 from hr2]
      obtain ⟨hp_60, hdp_60, hOp_60, hnp_60, he21p_60⟩ := id hW2
      obtain ⟨fstp_60, hestp_60⟩ : ∃ fs, en_57 3 = .inr (6, fs) := ⟨_, hp_60.2.1⟩
      obtain ⟨fndp_60, hendp_60⟩ : ∃ fs, en_57 11 = .inr (2, fs) := ⟨_, hdp_60.2.1⟩
      have frp_60 := Fr_tr frp_55 hf2
      have hl : lv_has ls 8 [(7, .int (nI (81 - h))), (6, .int (nI b)), (5, .int (nI a)), (4, .int (nI f)), (3, .int (nI goal)), (0, .ref (ad_56 21)), (1, .int (nI step)), (2, .int (nI (81 - (h + 1))))] := by rw [hf2.1 21 (by omega) (by unfold pmA; omega)]; exact hl
      refine r_st (st2 := [.int (aR o2), .int (aR o1), .int (nI goal), .int (8), .ref (ad_56 21)]) (by rw [hf2.1 21 (by omega) (by unfold pmA; omega)]) ?_
      have hn2_ : nsOK s2.1 s2.2 := hOp_60.1
      refine lv_aload_n hx hb dX3_build_244 rfl (lv_at hl 5 rfl) ?_
      refine lv_iload hx hb dX3_build_245 (lv_at hl 1 rfl) ?_
      refine lv_iload hx hb dX3_build_247 (lv_at hl 0 rfl) ?_
      refine r_callVi (ci := 3) (As := [.int (nI b), .int (nI (81 - h))]) hx hb hml hown hts hK hA hs (21) (by omega) he21p_60 rfl rfl (IH (fl := o2.isNone) hW2 (Der_fr hD frp_60) hhi (wfD_ext x2 hokk hwb) (by omega)) (cwV 2 hts (tbV w_ml_RX3_27 w_im_yX3_build w_se_yX3_build w_ini_RX3 w_cd_yX3_build) rfl rfl rfl (by decide +kernel) ⟨(by show ((h + 6)) + 1 ≤ ((h + 1) + 6); omega), (by show 8 + (8 + 11) + ((35 * h + 203)) ≤ (35 * (h + 1) + 203); omega)⟩) rfl hl.1 rfl (Nat.le_of_ble_eq_true rfl) dX3_build_249 ⟨by show _ ≤ aC (aGate false (bld dv (h + 1) step)) s0; omega, by show _ ≤ aS (aGate false (bld dv (h + 1) step)) s0; omega⟩ (fun r_64 ad_61 en_62 H locs hp_63 hs => ?_)
      obtain ⟨⟨hr3, hW3, hf3⟩, hv3, -⟩ := hp_63
      rw [hq3] at hr3 hW3 hv3
      have hW3 : PmW G n ad_61 en_62 s3 jd RR SL S sf o3.isNone := hW3
      obtain ⟨gt3, hnd3, hg3⟩ := vd_nd hv3 hW3.2.2.1.1
      have v3 : oNd s3 o3 gt3 ∧ (o2.isNone = true → o3 = none) := ⟨hnd3, gt_none hq3⟩
      rw [show r_64 = aR o3 from hr3]
      obtain ⟨hp_65, hdp_65, hOp_65, hnp_65, he21p_65⟩ := id hW3
      obtain ⟨fstp_65, hestp_65⟩ : ∃ fs, en_62 3 = .inr (6, fs) := ⟨_, hp_65.2.1⟩
      obtain ⟨fndp_65, hendp_65⟩ : ∃ fs, en_62 11 = .inr (2, fs) := ⟨_, hdp_65.2.1⟩
      have frp_65 := Fr_tr frp_60 hf3
      have hl : lv_has ls 8 [(7, .int (nI (81 - h))), (6, .int (nI b)), (5, .int (nI a)), (4, .int (nI f)), (3, .int (nI goal)), (0, .ref (ad_61 21)), (1, .int (nI step)), (2, .int (nI (81 - (h + 1))))] := by rw [hf3.1 21 (by omega) (by unfold pmA; omega)]; exact hl
      refine r_st (st2 := [.int (aR o3), .int (aR o2), .int (aR o1), .int (nI goal), .int (8), .ref (ad_61 21)]) (by rw [hf3.1 21 (by omega) (by unfold pmA; omega)]) ?_
      have hn3_ : nsOK s3.1 s3.2 := hOp_65.1
      refine r_callVi (ci := 3) (As := [.int (8), .int (nI goal), .int (aR o1), .int (aR o2), .int (aR o3)]) hx hb hml hown hts hK hA hs (21) (by omega) he21p_65 rfl rfl (c_X3_make3 l G (o1 := o1) (o2 := o2) (o3 := o3) hW3 (tg := 8) (gl := goal) (by decide) (by have := sExt_len x3; omega) (((v1.1.mono hc2.2.2.2.2).mono hc3.2.2.2.2).vd) ((v2.1.mono hc3.2.2.2.2).vd) (v3.1.vd) (fun q => v2.2 (none_i q)) (fun q => v3.2 (none_i q))) (cwV 5 hts (tbV w_ml_RX3_52 w_im_yX3_make w_se_yX3_make w_ini_RX3 w_cd_yX3_make) rfl rfl rfl (by decide +kernel) ⟨(by show (4) + 1 ≤ ((h + 1) + 6); omega), (by show 8 + (6 + 11) + (135) ≤ (35 * (h + 1) + 203); omega)⟩) rfl hl.1 rfl (Nat.le_of_ble_eq_true rfl) dX3_build_252 ⟨by show _ ≤ aC (aGate false (bld dv (h + 1) step)) s0; omega, by show _ ≤ aS (aGate false (bld dv (h + 1) step)) s0; omega⟩ (fun r_69 ad_66 en_67 H locs hp_68 hs => ?_)
      obtain ⟨hr4, hW4, hf4⟩ := hp_68
      rw [hq4] at hr4 hW4
      have hW4 : PmW G n ad_66 en_67 s4 jd RR SL S sf o4.isNone := hW4
      have v4 := gate_q hq4
      rw [show r_69 = aR o4 from hr4]
      obtain ⟨hp_70, hdp_70, hOp_70, hnp_70, he21p_70⟩ := id hW4
      obtain ⟨fstp_70, hestp_70⟩ : ∃ fs, en_67 3 = .inr (6, fs) := ⟨_, hp_70.2.1⟩
      obtain ⟨fndp_70, hendp_70⟩ : ∃ fs, en_67 11 = .inr (2, fs) := ⟨_, hdp_70.2.1⟩
      have frp_70 := Fr_tr frp_65 hf4
      have hl : lv_has ls 8 [(7, .int (nI (81 - h))), (6, .int (nI b)), (5, .int (nI a)), (4, .int (nI f)), (3, .int (nI goal)), (0, .ref (ad_66 21)), (1, .int (nI step)), (2, .int (nI (81 - (h + 1))))] := by rw [hf4.1 21 (by omega) (by unfold pmA; omega)]; exact hl
      have hn4_ : nsOK s4.1 s4.2 := hOp_70.1
      refine r_iret (v := aR o4) (mc := aC (aGate false (bld dv (h + 1) step)) s0) (ms := aS (aGate false (bld dv (h + 1) step)) s0) hx hb hr hlk hs (by omega) (by omega) dX3_build_255 hQ ?_
      exact aPostG.of hE hW4 frp_70 v4.1.vd x4
    by_cases k76_7 : nI r = 7
    · skip
      refine lv_tableIn (off := 180) (tgt := 256) hx hb dX3_build_76 (by rw [k76_7]; decide) (by rw [k76_7]; decide) (by rw [k76_7]; decide) (by decide) ?_
      obtain rfl : r = 7 := sw_nI k76_7 rfl (by omega) (by decide)
      have hB := bld_eq (h := h) hdg hdw (by omega) hf6 (by decide)
      have hfr_ := hsd.2.1 (by omega)
      obtain ⟨ha1, hwa⟩ := hpa (by decide)
      have hai := hwa.in
      rw [ha1] at hl
      rw [ha1, tN_nI (by omega)] at hB
      have hB1 := bld_ext dv h a
      have hB2 := bld_ext dv h b
      obtain ⟨o1, s1, hq1⟩ : ∃ oo tt, (aGate false (bld dv h a)) s0 = (oo, tt) := ⟨_, _, rfl⟩
      have hc1 := aC_eq hq1 (aGate_ext hB1 _ _)
      have x1 := x0.tr hc1.2.2.2.2
      have hS1 := side_ext x1 hokk hgl.2 hsd
      obtain ⟨o2, s2, hq2⟩ : ∃ oo tt, (aFire f o1) s1 = (oo, tt) := ⟨_, _, rfl⟩
      have hc2 := aC_eq hq2 (aFire_ext _ _ _)
      have x2 := x1.tr hc2.2.2.2.2
      have hS2 := side_ext x2 hokk hgl.2 hsd
      have hE : (aGate false (bld dv (h + 1) step)) s0 = (o2, s2) := by
        show bld dv (h + 1) step s0 = _
        rw [hB]
        exact bR7_eq hq1 hq2
      obtain ⟨hRC, hRS⟩ := aC_all hE x2
      refine lv_aload_n hx hb dX3_build_256 rfl (lv_at hl 5 rfl) ?_
      refine lv_iload hx hb dX3_build_257 (lv_at hl 3 rfl) ?_
      refine lv_aload_n hx hb dX3_build_259 rfl (lv_at hl 5 rfl) ?_
      refine lv_iload hx hb dX3_build_260 (lv_at hl 2 rfl) ?_
      refine lv_iload hx hb dX3_build_262 (lv_at hl 0 rfl) ?_
      refine r_callVi (ci := 3) (As := [.int (nI a), .int (nI (81 - h))]) hx hb hml hown hts hK hA hs (21) (by omega) he210 rfl rfl (IH (fl := false) hW (Der_fr hD (Fr_rf : Fr n pmS pmA ad en ad en)) hhi (wfD_ext x0 hokk hwa) (by omega)) (cwV 2 hts (tbV w_ml_RX3_27 w_im_yX3_build w_se_yX3_build w_ini_RX3 w_cd_yX3_build) rfl rfl rfl (by decide +kernel) ⟨(by show ((h + 6)) + 1 ≤ ((h + 1) + 6); omega), (by show 8 + (8 + 11) + ((35 * h + 203)) ≤ (35 * (h + 1) + 203); omega)⟩) rfl hl.1 rfl (Nat.le_of_ble_eq_true rfl) dX3_build_264 ⟨by show _ ≤ aC (aGate false (bld dv (h + 1) step)) s0; omega, by show _ ≤ aS (aGate false (bld dv (h + 1) step)) s0; omega⟩ (fun r_74 ad_71 en_72 H locs hp_73 hs => ?_)
      obtain ⟨⟨hr1, hW1, hf1⟩, hv1, -⟩ := hp_73
      rw [hq1] at hr1 hW1 hv1
      have hW1 : PmW G n ad_71 en_72 s1 jd RR SL S sf o1.isNone := hW1
      obtain ⟨gt1, hnd1, hg1⟩ := vd_nd hv1 hW1.2.2.1.1
      have v1 : oNd s1 o1 gt1 ∧ (false = true → o1 = none) := ⟨hnd1, gt_none hq1⟩
      rw [show r_74 = aR o1 from hr1]
      obtain ⟨hp_75, hdp_75, hOp_75, hnp_75, he21p_75⟩ := id hW1
      obtain ⟨fstp_75, hestp_75⟩ : ∃ fs, en_72 3 = .inr (6, fs) := ⟨_, hp_75.2.1⟩
      obtain ⟨fndp_75, hendp_75⟩ : ∃ fs, en_72 11 = .inr (2, fs) := ⟨_, hdp_75.2.1⟩
      have frp_75 := Fr_tr Fr_rf hf1
      have hl : lv_has ls 8 [(7, .int (nI (81 - h))), (6, .int (dv (4 * (step) + (1 + 2)))), (5, .int (nI a)), (4, .int (nI f)), (3, .int (nI goal)), (0, .ref (ad_71 21)), (1, .int (nI step)), (2, .int (nI (81 - (h + 1))))] := by rw [hf1.1 21 (by omega) (by unfold pmA; omega)]; exact hl
      refine r_st (st2 := [.int (aR o1), .int (nI f), .ref (ad_71 21)]) (by rw [hf1.1 21 (by omega) (by unfold pmA; omega)]) ?_
      have hn1_ : nsOK s1.1 s1.2 := hOp_75.1
      refine r_callVi (ci := 3) (As := [.int (nI f), .int (aR o1)]) hx hb hml hown hts hK hA hs (21) (by omega) he21p_75 rfl rfl (c_X3_fire l G hW1 (f := f) (hS1.2.1 (by omega)) (by rw [hS1.2.2.2.2.2.2.2.1 (by omega)]; decide) v1.1 hg1) (cwV 2 hts (tbV w_ml_RX3_67 w_im_yX3_fire w_se_yX3_fire w_ini_RX3 w_cd_yX3_fire) rfl rfl rfl (by decide +kernel) ⟨(by show (5) + 1 ≤ ((h + 1) + 6); omega), (by show 8 + (3 + 11) + (158) ≤ (35 * (h + 1) + 203); omega)⟩) rfl hl.1 rfl (Nat.le_of_ble_eq_true rfl) dX3_build_267 ⟨by show _ ≤ aC (aGate false (bld dv (h + 1) step)) s0; omega, by show _ ≤ aS (aGate false (bld dv (h + 1) step)) s0; omega⟩ (fun r_79 ad_76 en_77 H locs hp_78 hs => ?_)
      obtain ⟨⟨hr2, hW2, hf2⟩, hv2, -⟩ := hp_78
      rw [hq2] at hr2 hW2 hv2
      have hW2 : PmW G n ad_76 en_77 s2 jd RR SL S sf o2.isNone := hW2
      rw [show r_79 = aR o2 from hr2]
      obtain ⟨hp_80, hdp_80, hOp_80, hnp_80, he21p_80⟩ := id hW2
      obtain ⟨fstp_80, hestp_80⟩ : ∃ fs, en_77 3 = .inr (6, fs) := ⟨_, hp_80.2.1⟩
      obtain ⟨fndp_80, hendp_80⟩ : ∃ fs, en_77 11 = .inr (2, fs) := ⟨_, hdp_80.2.1⟩
      have frp_80 := Fr_tr frp_75 hf2
      have hl : lv_has ls 8 [(7, .int (nI (81 - h))), (6, .int (dv (4 * (step) + (1 + 2)))), (5, .int (nI a)), (4, .int (nI f)), (3, .int (nI goal)), (0, .ref (ad_76 21)), (1, .int (nI step)), (2, .int (nI (81 - (h + 1))))] := by rw [hf2.1 21 (by omega) (by unfold pmA; omega)]; exact hl
      refine r_iret (v := aR o2) (mc := aC (aGate false (bld dv (h + 1) step)) s0) (ms := aS (aGate false (bld dv (h + 1) step)) s0) hx hb hr hlk hs (by omega) (by omega) dX3_build_270 hQ ?_
      exact aPostG.of hE hW2 frp_80 hv2 x2
    by_cases k76_8 : nI r = 8
    · skip
      refine lv_tableIn (off := 195) (tgt := 271) hx hb dX3_build_76 (by rw [k76_8]; decide) (by rw [k76_8]; decide) (by rw [k76_8]; decide) (by decide) ?_
      obtain rfl : r = 8 := sw_nI k76_8 rfl (by omega) (by decide)
      have hB := bld_eq (h := h) hdg hdw (by omega) hf6 (by decide)
      have hfr_ := hsd.2.1 (by omega)
      obtain ⟨ha1, hwa⟩ := hpa (by decide)
      have hai := hwa.in
      rw [ha1] at hl
      rw [ha1, tN_nI (by omega)] at hB
      have hB1 := bld_ext dv h a
      have hB2 := bld_ext dv h b
      obtain ⟨o1, s1, hq1⟩ : ∃ oo tt, (aGate false (bld dv h a)) s0 = (oo, tt) := ⟨_, _, rfl⟩
      have hc1 := aC_eq hq1 (aGate_ext hB1 _ _)
      have x1 := x0.tr hc1.2.2.2.2
      have hS1 := side_ext x1 hokk hgl.2 hsd
      have hE : (aGate false (bld dv (h + 1) step)) s0 = (o1, s1) := by
        show bld dv (h + 1) step s0 = _
        rw [hB]
        exact bR8_eq hq1
      obtain ⟨hRC, hRS⟩ := aC_all hE x1
      refine lv_aload_n hx hb dX3_build_271 rfl (lv_at hl 5 rfl) ?_
      refine lv_iload hx hb dX3_build_272 (lv_at hl 2 rfl) ?_
      refine lv_iload hx hb dX3_build_274 (lv_at hl 0 rfl) ?_
      refine r_callVi (ci := 3) (As := [.int (nI a), .int (nI (81 - h))]) hx hb hml hown hts hK hA hs (21) (by omega) he210 rfl rfl (IH (fl := false) hW (Der_fr hD (Fr_rf : Fr n pmS pmA ad en ad en)) hhi (wfD_ext x0 hokk hwa) (by omega)) (cwV 2 hts (tbV w_ml_RX3_27 w_im_yX3_build w_se_yX3_build w_ini_RX3 w_cd_yX3_build) rfl rfl rfl (by decide +kernel) ⟨(by show ((h + 6)) + 1 ≤ ((h + 1) + 6); omega), (by show 8 + (8 + 11) + ((35 * h + 203)) ≤ (35 * (h + 1) + 203); omega)⟩) rfl hl.1 rfl (Nat.le_of_ble_eq_true rfl) dX3_build_276 ⟨by show _ ≤ aC (aGate false (bld dv (h + 1) step)) s0; omega, by show _ ≤ aS (aGate false (bld dv (h + 1) step)) s0; omega⟩ (fun r_84 ad_81 en_82 H locs hp_83 hs => ?_)
      obtain ⟨⟨hr1, hW1, hf1⟩, hv1, -⟩ := hp_83
      rw [hq1] at hr1 hW1 hv1
      have hW1 : PmW G n ad_81 en_82 s1 jd RR SL S sf o1.isNone := hW1
      obtain ⟨gt1, hnd1, hg1⟩ := vd_nd hv1 hW1.2.2.1.1
      have v1 : oNd s1 o1 gt1 ∧ (false = true → o1 = none) := ⟨hnd1, gt_none hq1⟩
      rw [show r_84 = aR o1 from hr1]
      obtain ⟨hp_85, hdp_85, hOp_85, hnp_85, he21p_85⟩ := id hW1
      obtain ⟨fstp_85, hestp_85⟩ : ∃ fs, en_82 3 = .inr (6, fs) := ⟨_, hp_85.2.1⟩
      obtain ⟨fndp_85, hendp_85⟩ : ∃ fs, en_82 11 = .inr (2, fs) := ⟨_, hdp_85.2.1⟩
      have frp_85 := Fr_tr Fr_rf hf1
      have hl : lv_has ls 8 [(7, .int (nI (81 - h))), (6, .int (dv (4 * (step) + (1 + 2)))), (5, .int (nI a)), (4, .int (nI f)), (3, .int (nI goal)), (0, .ref (ad_81 21)), (1, .int (nI step)), (2, .int (nI (81 - (h + 1))))] := by rw [hf1.1 21 (by omega) (by unfold pmA; omega)]; exact hl
      have hn1_ : nsOK s1.1 s1.2 := hOp_85.1
      refine r_iret (v := aR o1) (mc := aC (aGate false (bld dv (h + 1) step)) s0) (ms := aS (aGate false (bld dv (h + 1) step)) s0) hx hb hr hlk hs (by omega) (by omega) dX3_build_279 hQ ?_
      exact aPostG.of hE hW1 frp_85 v1.1.vd x1
    by_cases k76_9 : nI r = 9
    · skip
      refine lv_tableIn (off := 204) (tgt := 280) hx hb dX3_build_76 (by rw [k76_9]; decide) (by rw [k76_9]; decide) (by rw [k76_9]; decide) (by decide) ?_
      obtain rfl : r = 9 := sw_nI k76_9 rfl (by omega) (by decide)
      have hB := bld_eq (h := h) hdg hdw (by omega) hf6 (by decide)
      have hfr_ := hsd.2.1 (by omega)
      obtain ⟨ha1, hwa⟩ := hpa (by decide)
      have hai := hwa.in
      rw [ha1] at hl
      rw [ha1, tN_nI (by omega)] at hB
      have hB1 := bld_ext dv h a
      have hB2 := bld_ext dv h b
      obtain ⟨o1, s1, hq1⟩ : ∃ oo tt, (aGate false (bld dv h a)) s0 = (oo, tt) := ⟨_, _, rfl⟩
      have hc1 := aC_eq hq1 (aGate_ext hB1 _ _)
      have x1 := x0.tr hc1.2.2.2.2
      have hS1 := side_ext x1 hokk hgl.2 hsd
      obtain ⟨o2, s2, hq2⟩ : ∃ oo tt, (aUncurryK f o1) s1 = (oo, tt) := ⟨_, _, rfl⟩
      have hc2 := aC_eq hq2 (aUncurry_ext _ _ _ _)
      have x2 := x1.tr hc2.2.2.2.2
      have hS2 := side_ext x2 hokk hgl.2 hsd
      have hE : (aGate false (bld dv (h + 1) step)) s0 = (o2, s2) := by
        show bld dv (h + 1) step s0 = _
        rw [hB]
        exact bR9_eq hq1 hq2
      obtain ⟨hRC, hRS⟩ := aC_all hE x2
      refine lv_aload_n hx hb dX3_build_280 rfl (lv_at hl 5 rfl) ?_
      refine lv_iload hx hb dX3_build_281 (lv_at hl 3 rfl) ?_
      refine lv_aload_n hx hb dX3_build_283 rfl (lv_at hl 5 rfl) ?_
      refine lv_iload hx hb dX3_build_284 (lv_at hl 2 rfl) ?_
      refine lv_iload hx hb dX3_build_286 (lv_at hl 0 rfl) ?_
      refine r_callVi (ci := 3) (As := [.int (nI a), .int (nI (81 - h))]) hx hb hml hown hts hK hA hs (21) (by omega) he210 rfl rfl (IH (fl := false) hW (Der_fr hD (Fr_rf : Fr n pmS pmA ad en ad en)) hhi (wfD_ext x0 hokk hwa) (by omega)) (cwV 2 hts (tbV w_ml_RX3_27 w_im_yX3_build w_se_yX3_build w_ini_RX3 w_cd_yX3_build) rfl rfl rfl (by decide +kernel) ⟨(by show ((h + 6)) + 1 ≤ ((h + 1) + 6); omega), (by show 8 + (8 + 11) + ((35 * h + 203)) ≤ (35 * (h + 1) + 203); omega)⟩) rfl hl.1 rfl (Nat.le_of_ble_eq_true rfl) dX3_build_288 ⟨by show _ ≤ aC (aGate false (bld dv (h + 1) step)) s0; omega, by show _ ≤ aS (aGate false (bld dv (h + 1) step)) s0; omega⟩ (fun r_89 ad_86 en_87 H locs hp_88 hs => ?_)
      obtain ⟨⟨hr1, hW1, hf1⟩, hv1, -⟩ := hp_88
      rw [hq1] at hr1 hW1 hv1
      have hW1 : PmW G n ad_86 en_87 s1 jd RR SL S sf o1.isNone := hW1
      obtain ⟨gt1, hnd1, hg1⟩ := vd_nd hv1 hW1.2.2.1.1
      have v1 : oNd s1 o1 gt1 ∧ (false = true → o1 = none) := ⟨hnd1, gt_none hq1⟩
      rw [show r_89 = aR o1 from hr1]
      obtain ⟨hp_90, hdp_90, hOp_90, hnp_90, he21p_90⟩ := id hW1
      obtain ⟨fstp_90, hestp_90⟩ : ∃ fs, en_87 3 = .inr (6, fs) := ⟨_, hp_90.2.1⟩
      obtain ⟨fndp_90, hendp_90⟩ : ∃ fs, en_87 11 = .inr (2, fs) := ⟨_, hdp_90.2.1⟩
      have frp_90 := Fr_tr Fr_rf hf1
      have hl : lv_has ls 8 [(7, .int (nI (81 - h))), (6, .int (dv (4 * (step) + (1 + 2)))), (5, .int (nI a)), (4, .int (nI f)), (3, .int (nI goal)), (0, .ref (ad_86 21)), (1, .int (nI step)), (2, .int (nI (81 - (h + 1))))] := by rw [hf1.1 21 (by omega) (by unfold pmA; omega)]; exact hl
      refine r_st (st2 := [.int (aR o1), .int (nI f), .ref (ad_86 21)]) (by rw [hf1.1 21 (by omega) (by unfold pmA; omega)]) ?_
      have hn1_ : nsOK s1.1 s1.2 := hOp_90.1
      refine r_callVi (ci := 3) (As := [.int (nI f), .int (aR o1)]) hx hb hml hown hts hK hA hs (21) (by omega) he21p_90 rfl rfl (c_X3_uncurryK l G hW1 (f := f) (hS1.2.1 (by omega)) (by rw [hS1.2.2.2.2.2.2.2.1 (by omega)]; decide) (by rw [(hS1.2.2.2.2.2.2.2.2.1 rfl).1]; decide) v1.1 hg1 (hS1.2.2.2.2.2.2.2.2.1 rfl).2) (cwV 2 hts (tbV w_ml_RX3_70 w_im_yX3_uncurry w_se_yX3_uncurry w_ini_RX3 w_cd_yX3_uncurry) rfl rfl rfl (by decide +kernel) ⟨(by show (5) + 1 ≤ ((h + 1) + 6); omega), (by show 8 + (7 + 11) + (168) ≤ (35 * (h + 1) + 203); omega)⟩) rfl hl.1 rfl (Nat.le_of_ble_eq_true rfl) dX3_build_291 ⟨by show _ ≤ aC (aGate false (bld dv (h + 1) step)) s0; omega, by show _ ≤ aS (aGate false (bld dv (h + 1) step)) s0; omega⟩ (fun r_94 ad_91 en_92 H locs hp_93 hs => ?_)
      obtain ⟨⟨hr2, hW2, hf2⟩, hv2, -⟩ := hp_93
      rw [hq2] at hr2 hW2 hv2
      have hW2 : PmW G n ad_91 en_92 s2 jd RR SL S sf o2.isNone := hW2
      rw [show r_94 = aR o2 from hr2]
      obtain ⟨hp_95, hdp_95, hOp_95, hnp_95, he21p_95⟩ := id hW2
      obtain ⟨fstp_95, hestp_95⟩ : ∃ fs, en_92 3 = .inr (6, fs) := ⟨_, hp_95.2.1⟩
      obtain ⟨fndp_95, hendp_95⟩ : ∃ fs, en_92 11 = .inr (2, fs) := ⟨_, hdp_95.2.1⟩
      have frp_95 := Fr_tr frp_90 hf2
      have hl : lv_has ls 8 [(7, .int (nI (81 - h))), (6, .int (dv (4 * (step) + (1 + 2)))), (5, .int (nI a)), (4, .int (nI f)), (3, .int (nI goal)), (0, .ref (ad_91 21)), (1, .int (nI step)), (2, .int (nI (81 - (h + 1))))] := by rw [hf2.1 21 (by omega) (by unfold pmA; omega)]; exact hl
      refine r_iret (v := aR o2) (mc := aC (aGate false (bld dv (h + 1) step)) s0) (ms := aS (aGate false (bld dv (h + 1) step)) s0) hx hb hr hlk hs (by omega) (by omega) dX3_build_294 hQ ?_
      exact aPostG.of hE hW2 frp_95 hv2 x2
    by_cases k76_10 : nI r = 10
    · skip
      refine lv_tableIn (off := 219) (tgt := 295) hx hb dX3_build_76 (by rw [k76_10]; decide) (by rw [k76_10]; decide) (by rw [k76_10]; decide) (by decide) ?_
      obtain rfl : r = 10 := sw_nI k76_10 rfl (by omega) (by decide)
      have hB := bld_eq (h := h) hdg hdw (by omega) hf6 (by decide)
      have hfr_ := hsd.2.1 (by omega)
      obtain ⟨ha1, hwa⟩ := hpa (by decide)
      have hai := hwa.in
      rw [ha1] at hl
      rw [ha1, tN_nI (by omega)] at hB
      have hB1 := bld_ext dv h a
      have hB2 := bld_ext dv h b
      obtain ⟨o1, s1, hq1⟩ : ∃ oo tt, (aGate false (bld dv h a)) s0 = (oo, tt) := ⟨_, _, rfl⟩
      have hc1 := aC_eq hq1 (aGate_ext hB1 _ _)
      have x1 := x0.tr hc1.2.2.2.2
      have hS1 := side_ext x1 hokk hgl.2 hsd
      obtain ⟨o2, s2, hq2⟩ : ∃ oo tt, (aRejoinK f o1) s1 = (oo, tt) := ⟨_, _, rfl⟩
      have hc2 := aC_eq hq2 (aRejoin_ext _ _ _ _ _)
      have x2 := x1.tr hc2.2.2.2.2
      have hS2 := side_ext x2 hokk hgl.2 hsd
      have hE : (aGate false (bld dv (h + 1) step)) s0 = (o2, s2) := by
        show bld dv (h + 1) step s0 = _
        rw [hB]
        exact bR10_eq hq1 hq2
      obtain ⟨hRC, hRS⟩ := aC_all hE x2
      refine lv_aload_n hx hb dX3_build_295 rfl (lv_at hl 5 rfl) ?_
      refine lv_iload hx hb dX3_build_296 (lv_at hl 3 rfl) ?_
      refine lv_aload_n hx hb dX3_build_298 rfl (lv_at hl 5 rfl) ?_
      refine lv_iload hx hb dX3_build_299 (lv_at hl 2 rfl) ?_
      refine lv_iload hx hb dX3_build_301 (lv_at hl 0 rfl) ?_
      refine r_callVi (ci := 3) (As := [.int (nI a), .int (nI (81 - h))]) hx hb hml hown hts hK hA hs (21) (by omega) he210 rfl rfl (IH (fl := false) hW (Der_fr hD (Fr_rf : Fr n pmS pmA ad en ad en)) hhi (wfD_ext x0 hokk hwa) (by omega)) (cwV 2 hts (tbV w_ml_RX3_27 w_im_yX3_build w_se_yX3_build w_ini_RX3 w_cd_yX3_build) rfl rfl rfl (by decide +kernel) ⟨(by show ((h + 6)) + 1 ≤ ((h + 1) + 6); omega), (by show 8 + (8 + 11) + ((35 * h + 203)) ≤ (35 * (h + 1) + 203); omega)⟩) rfl hl.1 rfl (Nat.le_of_ble_eq_true rfl) dX3_build_303 ⟨by show _ ≤ aC (aGate false (bld dv (h + 1) step)) s0; omega, by show _ ≤ aS (aGate false (bld dv (h + 1) step)) s0; omega⟩ (fun r_99 ad_96 en_97 H locs hp_98 hs => ?_)
      obtain ⟨⟨hr1, hW1, hf1⟩, hv1, -⟩ := hp_98
      rw [hq1] at hr1 hW1 hv1
      have hW1 : PmW G n ad_96 en_97 s1 jd RR SL S sf o1.isNone := hW1
      obtain ⟨gt1, hnd1, hg1⟩ := vd_nd hv1 hW1.2.2.1.1
      have v1 : oNd s1 o1 gt1 ∧ (false = true → o1 = none) := ⟨hnd1, gt_none hq1⟩
      rw [show r_99 = aR o1 from hr1]
      obtain ⟨hp_100, hdp_100, hOp_100, hnp_100, he21p_100⟩ := id hW1
      obtain ⟨fstp_100, hestp_100⟩ : ∃ fs, en_97 3 = .inr (6, fs) := ⟨_, hp_100.2.1⟩
      obtain ⟨fndp_100, hendp_100⟩ : ∃ fs, en_97 11 = .inr (2, fs) := ⟨_, hdp_100.2.1⟩
      have frp_100 := Fr_tr Fr_rf hf1
      have hl : lv_has ls 8 [(7, .int (nI (81 - h))), (6, .int (dv (4 * (step) + (1 + 2)))), (5, .int (nI a)), (4, .int (nI f)), (3, .int (nI goal)), (0, .ref (ad_96 21)), (1, .int (nI step)), (2, .int (nI (81 - (h + 1))))] := by rw [hf1.1 21 (by omega) (by unfold pmA; omega)]; exact hl
      refine r_st (st2 := [.int (aR o1), .int (nI f), .ref (ad_96 21)]) (by rw [hf1.1 21 (by omega) (by unfold pmA; omega)]) ?_
      have hn1_ : nsOK s1.1 s1.2 := hOp_100.1
      refine r_callVi (ci := 3) (As := [.int (nI f), .int (aR o1)]) hx hb hml hown hts hK hA hs (21) (by omega) he21p_100 rfl rfl (c_X3_rejoinK l G hW1 (f := f) (hS1.2.1 (by omega)) (by rw [hS1.2.2.2.2.2.2.2.1 (by omega)]; decide) (by rw [(hS1.2.2.2.2.2.2.2.2.2.1 rfl).1]; decide) v1.1 hg1 (hS1.2.2.2.2.2.2.2.2.2.1 rfl).2.1 (hS1.2.2.2.2.2.2.2.2.2.1 rfl).2.2) (cwV 2 hts (tbV w_ml_RX3_73 w_im_yX3_rejoin w_se_yX3_rejoin w_ini_RX3 w_cd_yX3_rejoin) rfl rfl rfl (by decide +kernel) ⟨(by show (5) + 1 ≤ ((h + 1) + 6); omega), (by show 8 + (8 + 11) + (168) ≤ (35 * (h + 1) + 203); omega)⟩) rfl hl.1 rfl (Nat.le_of_ble_eq_true rfl) dX3_build_306 ⟨by show _ ≤ aC (aGate false (bld dv (h + 1) step)) s0; omega, by show _ ≤ aS (aGate false (bld dv (h + 1) step)) s0; omega⟩ (fun r_104 ad_101 en_102 H locs hp_103 hs => ?_)
      obtain ⟨⟨hr2, hW2, hf2⟩, hv2, -⟩ := hp_103
      rw [hq2] at hr2 hW2 hv2
      have hW2 : PmW G n ad_101 en_102 s2 jd RR SL S sf o2.isNone := hW2
      rw [show r_104 = aR o2 from hr2]
      obtain ⟨hp_105, hdp_105, hOp_105, hnp_105, he21p_105⟩ := id hW2
      obtain ⟨fstp_105, hestp_105⟩ : ∃ fs, en_102 3 = .inr (6, fs) := ⟨_, hp_105.2.1⟩
      obtain ⟨fndp_105, hendp_105⟩ : ∃ fs, en_102 11 = .inr (2, fs) := ⟨_, hdp_105.2.1⟩
      have frp_105 := Fr_tr frp_100 hf2
      have hl : lv_has ls 8 [(7, .int (nI (81 - h))), (6, .int (dv (4 * (step) + (1 + 2)))), (5, .int (nI a)), (4, .int (nI f)), (3, .int (nI goal)), (0, .ref (ad_101 21)), (1, .int (nI step)), (2, .int (nI (81 - (h + 1))))] := by rw [hf2.1 21 (by omega) (by unfold pmA; omega)]; exact hl
      refine r_iret (v := aR o2) (mc := aC (aGate false (bld dv (h + 1) step)) s0) (ms := aS (aGate false (bld dv (h + 1) step)) s0) hx hb hr hlk hs (by omega) (by omega) dX3_build_309 hQ ?_
      exact aPostG.of hE hW2 frp_105 hv2 x2
    by_cases k76_11 : nI r = 11
    · skip
      refine lv_tableIn (off := 234) (tgt := 310) hx hb dX3_build_76 (by rw [k76_11]; decide) (by rw [k76_11]; decide) (by rw [k76_11]; decide) (by decide) ?_
      obtain rfl : r = 11 := sw_nI k76_11 rfl (by omega) (by decide)
      have hB := bld_eq (h := h) hdg hdw (by omega) hf6 (by decide)
      obtain ⟨ha1, hwa⟩ := hpa (by decide)
      have hai := hwa.in
      rw [ha1] at hl
      rw [ha1, tN_nI (by omega)] at hB
      have hB1 := bld_ext dv h a
      have hB2 := bld_ext dv h b
      obtain ⟨o1, s1, hq1⟩ : ∃ oo tt, (aGate false (bld dv h a)) s0 = (oo, tt) := ⟨_, _, rfl⟩
      have hc1 := aC_eq hq1 (aGate_ext hB1 _ _)
      have x1 := x0.tr hc1.2.2.2.2
      have hS1 := side_ext x1 hokk hgl.2 hsd
      obtain ⟨o2, s2, hq2⟩ : ∃ oo tt, (aGate o1.isNone (aNode (6, goal, o1.getD 0, 0, 0))) s1 = (oo, tt) := ⟨_, _, rfl⟩
      have hc2 := aC_eq hq2 (aGate_ext (aNode_ext _) _ _)
      have x2 := x1.tr hc2.2.2.2.2
      have hS2 := side_ext x2 hokk hgl.2 hsd
      have hE : (aGate false (bld dv (h + 1) step)) s0 = (o2, s2) := by
        show bld dv (h + 1) step s0 = _
        rw [hB]
        exact bR11_eq hq1 hq2
      obtain ⟨hRC, hRS⟩ := aC_all hE x2
      refine lv_aload_n hx hb dX3_build_310 rfl (lv_at hl 5 rfl) ?_
      refine lv_bipush (v := 6) hx hb dX3_build_311 (by decide) ?_
      refine lv_iload_n hx hb dX3_build_313 rfl (lv_at hl 4 rfl) ?_
      refine lv_aload_n hx hb dX3_build_314 rfl (lv_at hl 5 rfl) ?_
      refine lv_iload hx hb dX3_build_315 (lv_at hl 2 rfl) ?_
      refine lv_iload hx hb dX3_build_317 (lv_at hl 0 rfl) ?_
      refine r_callVi (ci := 3) (As := [.int (nI a), .int (nI (81 - h))]) hx hb hml hown hts hK hA hs (21) (by omega) he210 rfl rfl (IH (fl := false) hW (Der_fr hD (Fr_rf : Fr n pmS pmA ad en ad en)) hhi (wfD_ext x0 hokk hwa) (by omega)) (cwV 2 hts (tbV w_ml_RX3_27 w_im_yX3_build w_se_yX3_build w_ini_RX3 w_cd_yX3_build) rfl rfl rfl (by decide +kernel) ⟨(by show ((h + 6)) + 1 ≤ ((h + 1) + 6); omega), (by show 8 + (8 + 11) + ((35 * h + 203)) ≤ (35 * (h + 1) + 203); omega)⟩) rfl hl.1 rfl (Nat.le_of_ble_eq_true rfl) dX3_build_319 ⟨by show _ ≤ aC (aGate false (bld dv (h + 1) step)) s0; omega, by show _ ≤ aS (aGate false (bld dv (h + 1) step)) s0; omega⟩ (fun r_109 ad_106 en_107 H locs hp_108 hs => ?_)
      obtain ⟨⟨hr1, hW1, hf1⟩, hv1, -⟩ := hp_108
      rw [hq1] at hr1 hW1 hv1
      have hW1 : PmW G n ad_106 en_107 s1 jd RR SL S sf o1.isNone := hW1
      obtain ⟨gt1, hnd1, hg1⟩ := vd_nd hv1 hW1.2.2.1.1
      have v1 : oNd s1 o1 gt1 ∧ (false = true → o1 = none) := ⟨hnd1, gt_none hq1⟩
      rw [show r_109 = aR o1 from hr1]
      obtain ⟨hp_110, hdp_110, hOp_110, hnp_110, he21p_110⟩ := id hW1
      obtain ⟨fstp_110, hestp_110⟩ : ∃ fs, en_107 3 = .inr (6, fs) := ⟨_, hp_110.2.1⟩
      obtain ⟨fndp_110, hendp_110⟩ : ∃ fs, en_107 11 = .inr (2, fs) := ⟨_, hdp_110.2.1⟩
      have frp_110 := Fr_tr Fr_rf hf1
      have hl : lv_has ls 8 [(7, .int (nI (81 - h))), (6, .int (dv (4 * (step) + (1 + 2)))), (5, .int (nI a)), (4, .int (nI f)), (3, .int (nI goal)), (0, .ref (ad_106 21)), (1, .int (nI step)), (2, .int (nI (81 - (h + 1))))] := by rw [hf1.1 21 (by omega) (by unfold pmA; omega)]; exact hl
      refine r_st (st2 := [.int (aR o1), .int (nI goal), .int (6), .ref (ad_106 21)]) (by rw [hf1.1 21 (by omega) (by unfold pmA; omega)]) ?_
      have hn1_ : nsOK s1.1 s1.2 := hOp_110.1
      refine lv_iconst (v := 0) hx hb dX3_build_322 (by decide) ?_
      refine lv_iconst (v := 0) hx hb dX3_build_323 (by decide) ?_
      refine r_callVi (ci := 3) (As := [.int (6), .int (nI goal), .int (aR o1), .int (0), .int (0)]) hx hb hml hown hts hK hA hs (21) (by omega) he21p_110 rfl rfl (c_X3_make1 l G (o := o1) hW1 (tg := 6) (gl := goal) (by decide) (by have := sExt_len x1; omega) (v1.1.vd)) (cwV 5 hts (tbV w_ml_RX3_52 w_im_yX3_make w_se_yX3_make w_ini_RX3 w_cd_yX3_make) rfl rfl rfl (by decide +kernel) ⟨(by show (4) + 1 ≤ ((h + 1) + 6); omega), (by show 8 + (6 + 11) + (135) ≤ (35 * (h + 1) + 203); omega)⟩) rfl hl.1 rfl (Nat.le_of_ble_eq_true rfl) dX3_build_324 ⟨by show _ ≤ aC (aGate false (bld dv (h + 1) step)) s0; omega, by show _ ≤ aS (aGate false (bld dv (h + 1) step)) s0; omega⟩ (fun r_114 ad_111 en_112 H locs hp_113 hs => ?_)
      obtain ⟨hr2, hW2, hf2⟩ := hp_113
      rw [hq2] at hr2 hW2
      have hW2 : PmW G n ad_111 en_112 s2 jd RR SL S sf o2.isNone := hW2
      have v2 := gate_q hq2
      rw [show r_114 = aR o2 from hr2]
      obtain ⟨hp_115, hdp_115, hOp_115, hnp_115, he21p_115⟩ := id hW2
      obtain ⟨fstp_115, hestp_115⟩ : ∃ fs, en_112 3 = .inr (6, fs) := ⟨_, hp_115.2.1⟩
      obtain ⟨fndp_115, hendp_115⟩ : ∃ fs, en_112 11 = .inr (2, fs) := ⟨_, hdp_115.2.1⟩
      have frp_115 := Fr_tr frp_110 hf2
      have hl : lv_has ls 8 [(7, .int (nI (81 - h))), (6, .int (dv (4 * (step) + (1 + 2)))), (5, .int (nI a)), (4, .int (nI f)), (3, .int (nI goal)), (0, .ref (ad_111 21)), (1, .int (nI step)), (2, .int (nI (81 - (h + 1))))] := by rw [hf2.1 21 (by omega) (by unfold pmA; omega)]; exact hl
      have hn2_ : nsOK s2.1 s2.2 := hOp_115.1
      refine r_iret (v := aR o2) (mc := aC (aGate false (bld dv (h + 1) step)) s0) (ms := aS (aGate false (bld dv (h + 1) step)) s0) hx hb hr hlk hs (by omega) (by omega) dX3_build_327 hQ ?_
      exact aPostG.of hE hW2 frp_115 v2.1.vd x2
    by_cases k76_12 : nI r = 12
    · skip
      refine lv_tableIn (off := 252) (tgt := 328) hx hb dX3_build_76 (by rw [k76_12]; decide) (by rw [k76_12]; decide) (by rw [k76_12]; decide) (by decide) ?_
      obtain rfl : r = 12 := sw_nI k76_12 rfl (by omega) (by decide)
      have hB := bld_eq (h := h) hdg hdw (by omega) hf6 (by decide)
      obtain ⟨ha1, hwa⟩ := hpa (by decide)
      have hai := hwa.in
      rw [ha1] at hl
      rw [ha1, tN_nI (by omega)] at hB
      have hB1 := bld_ext dv h a
      have hB2 := bld_ext dv h b
      obtain ⟨o1, s1, hq1⟩ : ∃ oo tt, (aGate false (bld dv h a)) s0 = (oo, tt) := ⟨_, _, rfl⟩
      have hc1 := aC_eq hq1 (aGate_ext hB1 _ _)
      have x1 := x0.tr hc1.2.2.2.2
      have hS1 := side_ext x1 hokk hgl.2 hsd
      obtain ⟨o2, s2, hq2⟩ : ∃ oo tt, (aGate o1.isNone (aNode (7, goal, o1.getD 0, 0, 0))) s1 = (oo, tt) := ⟨_, _, rfl⟩
      have hc2 := aC_eq hq2 (aGate_ext (aNode_ext _) _ _)
      have x2 := x1.tr hc2.2.2.2.2
      have hS2 := side_ext x2 hokk hgl.2 hsd
      have hE : (aGate false (bld dv (h + 1) step)) s0 = (o2, s2) := by
        show bld dv (h + 1) step s0 = _
        rw [hB]
        exact bR12_eq hq1 hq2
      obtain ⟨hRC, hRS⟩ := aC_all hE x2
      refine lv_aload_n hx hb dX3_build_328 rfl (lv_at hl 5 rfl) ?_
      refine lv_bipush (v := 7) hx hb dX3_build_329 (by decide) ?_
      refine lv_iload_n hx hb dX3_build_331 rfl (lv_at hl 4 rfl) ?_
      refine lv_aload_n hx hb dX3_build_332 rfl (lv_at hl 5 rfl) ?_
      refine lv_iload hx hb dX3_build_333 (lv_at hl 2 rfl) ?_
      refine lv_iload hx hb dX3_build_335 (lv_at hl 0 rfl) ?_
      refine r_callVi (ci := 3) (As := [.int (nI a), .int (nI (81 - h))]) hx hb hml hown hts hK hA hs (21) (by omega) he210 rfl rfl (IH (fl := false) hW (Der_fr hD (Fr_rf : Fr n pmS pmA ad en ad en)) hhi (wfD_ext x0 hokk hwa) (by omega)) (cwV 2 hts (tbV w_ml_RX3_27 w_im_yX3_build w_se_yX3_build w_ini_RX3 w_cd_yX3_build) rfl rfl rfl (by decide +kernel) ⟨(by show ((h + 6)) + 1 ≤ ((h + 1) + 6); omega), (by show 8 + (8 + 11) + ((35 * h + 203)) ≤ (35 * (h + 1) + 203); omega)⟩) rfl hl.1 rfl (Nat.le_of_ble_eq_true rfl) dX3_build_337 ⟨by show _ ≤ aC (aGate false (bld dv (h + 1) step)) s0; omega, by show _ ≤ aS (aGate false (bld dv (h + 1) step)) s0; omega⟩ (fun r_119 ad_116 en_117 H locs hp_118 hs => ?_)
      obtain ⟨⟨hr1, hW1, hf1⟩, hv1, -⟩ := hp_118
      rw [hq1] at hr1 hW1 hv1
      have hW1 : PmW G n ad_116 en_117 s1 jd RR SL S sf o1.isNone := hW1
      obtain ⟨gt1, hnd1, hg1⟩ := vd_nd hv1 hW1.2.2.1.1
      have v1 : oNd s1 o1 gt1 ∧ (false = true → o1 = none) := ⟨hnd1, gt_none hq1⟩
      rw [show r_119 = aR o1 from hr1]
      obtain ⟨hp_120, hdp_120, hOp_120, hnp_120, he21p_120⟩ := id hW1
      obtain ⟨fstp_120, hestp_120⟩ : ∃ fs, en_117 3 = .inr (6, fs) := ⟨_, hp_120.2.1⟩
      obtain ⟨fndp_120, hendp_120⟩ : ∃ fs, en_117 11 = .inr (2, fs) := ⟨_, hdp_120.2.1⟩
      have frp_120 := Fr_tr Fr_rf hf1
      have hl : lv_has ls 8 [(7, .int (nI (81 - h))), (6, .int (dv (4 * (step) + (1 + 2)))), (5, .int (nI a)), (4, .int (nI f)), (3, .int (nI goal)), (0, .ref (ad_116 21)), (1, .int (nI step)), (2, .int (nI (81 - (h + 1))))] := by rw [hf1.1 21 (by omega) (by unfold pmA; omega)]; exact hl
      refine r_st (st2 := [.int (aR o1), .int (nI goal), .int (7), .ref (ad_116 21)]) (by rw [hf1.1 21 (by omega) (by unfold pmA; omega)]) ?_
      have hn1_ : nsOK s1.1 s1.2 := hOp_120.1
      refine lv_iconst (v := 0) hx hb dX3_build_340 (by decide) ?_
      refine lv_iconst (v := 0) hx hb dX3_build_341 (by decide) ?_
      refine r_callVi (ci := 3) (As := [.int (7), .int (nI goal), .int (aR o1), .int (0), .int (0)]) hx hb hml hown hts hK hA hs (21) (by omega) he21p_120 rfl rfl (c_X3_make1 l G (o := o1) hW1 (tg := 7) (gl := goal) (by decide) (by have := sExt_len x1; omega) (v1.1.vd)) (cwV 5 hts (tbV w_ml_RX3_52 w_im_yX3_make w_se_yX3_make w_ini_RX3 w_cd_yX3_make) rfl rfl rfl (by decide +kernel) ⟨(by show (4) + 1 ≤ ((h + 1) + 6); omega), (by show 8 + (6 + 11) + (135) ≤ (35 * (h + 1) + 203); omega)⟩) rfl hl.1 rfl (Nat.le_of_ble_eq_true rfl) dX3_build_342 ⟨by show _ ≤ aC (aGate false (bld dv (h + 1) step)) s0; omega, by show _ ≤ aS (aGate false (bld dv (h + 1) step)) s0; omega⟩ (fun r_124 ad_121 en_122 H locs hp_123 hs => ?_)
      obtain ⟨hr2, hW2, hf2⟩ := hp_123
      rw [hq2] at hr2 hW2
      have hW2 : PmW G n ad_121 en_122 s2 jd RR SL S sf o2.isNone := hW2
      have v2 := gate_q hq2
      rw [show r_124 = aR o2 from hr2]
      obtain ⟨hp_125, hdp_125, hOp_125, hnp_125, he21p_125⟩ := id hW2
      obtain ⟨fstp_125, hestp_125⟩ : ∃ fs, en_122 3 = .inr (6, fs) := ⟨_, hp_125.2.1⟩
      obtain ⟨fndp_125, hendp_125⟩ : ∃ fs, en_122 11 = .inr (2, fs) := ⟨_, hdp_125.2.1⟩
      have frp_125 := Fr_tr frp_120 hf2
      have hl : lv_has ls 8 [(7, .int (nI (81 - h))), (6, .int (dv (4 * (step) + (1 + 2)))), (5, .int (nI a)), (4, .int (nI f)), (3, .int (nI goal)), (0, .ref (ad_121 21)), (1, .int (nI step)), (2, .int (nI (81 - (h + 1))))] := by rw [hf2.1 21 (by omega) (by unfold pmA; omega)]; exact hl
      have hn2_ : nsOK s2.1 s2.2 := hOp_125.1
      refine r_iret (v := aR o2) (mc := aC (aGate false (bld dv (h + 1) step)) s0) (ms := aS (aGate false (bld dv (h + 1) step)) s0) hx hb hr hlk hs (by omega) (by omega) dX3_build_345 hQ ?_
      exact aPostG.of hE hW2 frp_125 v2.1.vd x2
    by_cases k76_13 : nI r = 13
    · skip
      refine lv_tableIn (off := 270) (tgt := 346) hx hb dX3_build_76 (by rw [k76_13]; decide) (by rw [k76_13]; decide) (by rw [k76_13]; decide) (by decide) ?_
      obtain rfl : r = 13 := sw_nI k76_13 rfl (by omega) (by decide)
      have hB := bld_eq (h := h) hdg hdw (by omega) hf6 (by decide)
      have hfr_ := hsd.2.1 (by omega)
      have hgp := parts_of hokk hfr_ (by rw [hsd.2.2.2.2.2.2.2.1 (by omega)]; decide)
      obtain ⟨ha1, hwa⟩ := hpa (by decide)
      have hai := hwa.in
      rw [ha1] at hl
      rw [ha1, tN_nI (by omega)] at hB
      obtain ⟨hb1, hwb⟩ := hpb (by decide)
      have hbi := hwb.in
      rw [hb1] at hl
      rw [hb1, tN_nI (by omega)] at hB
      have hB1 := bld_ext dv h a
      have hB2 := bld_ext dv h b
      obtain ⟨o1, s1, hq1⟩ : ∃ oo tt, (aGate false (bld dv h b)) s0 = (oo, tt) := ⟨_, _, rfl⟩
      have hc1 := aC_eq hq1 (aGate_ext hB2 _ _)
      have x1 := x0.tr hc1.2.2.2.2
      have hS1 := side_ext x1 hokk hgl.2 hsd
      obtain ⟨o2, s2, hq2⟩ : ∃ oo tt, (aLamO (sR s0.1 f) o1) s1 = (oo, tt) := ⟨_, _, rfl⟩
      have hc2 := aC_eq hq2 (aLamO_ext _ _ _)
      have x2 := x1.tr hc2.2.2.2.2
      have hS2 := side_ext x2 hokk hgl.2 hsd
      obtain ⟨o3, s3, hq3⟩ : ∃ oo tt, (aGate o2.isNone (aNode (0, f, 0, 0, 0))) s2 = (oo, tt) := ⟨_, _, rfl⟩
      have hc3 := aC_eq hq3 (aGate_ext (aNode_ext _) _ _)
      have x3 := x2.tr hc3.2.2.2.2
      have hS3 := side_ext x3 hokk hgl.2 hsd
      obtain ⟨o4, s4, hq4⟩ : ∃ oo tt, (aGate o3.isNone (bld dv h a)) s3 = (oo, tt) := ⟨_, _, rfl⟩
      have hc4 := aC_eq hq4 (aGate_ext hB1 _ _)
      have x4 := x3.tr hc4.2.2.2.2
      have hS4 := side_ext x4 hokk hgl.2 hsd
      obtain ⟨o5, s5, hq5⟩ : ∃ oo tt, (aNestK f o2 o3 o4) s4 = (oo, tt) := ⟨_, _, rfl⟩
      have hc5 := aC_eq hq5 (aNest_ext _ _ _ _ _ _)
      have x5 := x4.tr hc5.2.2.2.2
      have hS5 := side_ext x5 hokk hgl.2 hsd
      have hE : (aGate false (bld dv (h + 1) step)) s0 = (o5, s5) := by
        show bld dv (h + 1) step s0 = _
        rw [hB]
        exact bR13_eq hq1 hq2 hq3 hq4 hq5
      obtain ⟨hRC, hRS⟩ := aC_all hE x5
      refine lv_aload_n hx hb dX3_build_346 rfl (lv_at hl 5 rfl) ?_
      refine lv_iload hx hb dX3_build_347 (lv_at hl 3 rfl) ?_
      refine lv_aload_n hx hb dX3_build_349 rfl (lv_at hl 5 rfl) ?_
      refine lv_aload_n hx hb dX3_build_350 rfl (lv_at hl 5 rfl) ?_
      refine r_get (ci := 3) (v := .ref (ad 3)) (C := RX3) (T := TX3) (N := 4) hx hb hts inlX3 hown hK hs (21) (by omega) he210 rfl 0 (by decide) (hts _ w_fl_RX3_15) rfl dX3_build_351 ?_
      refine lv_iload hx hb dX3_build_354 (lv_at hl 3 rfl) ?_
      refine r_callViR (ci := 6) (As := [.int (nI f)]) hx hb hml hown hts hK hA hs (3) (by omega) hest0 rfl rfl (c_X6_rightOfN l G h0 f (by omega)) (cwV 1 hts (tbV w_ml_RX3_76 w_im_yX6_rightOf w_se_yX6_rightOf w_ini_RX6 w_cd_yX6_rightOf) rfl rfl rfl (by decide +kernel) ⟨(by show (1) + 1 ≤ ((h + 1) + 6); omega), (by show 8 + (2 + 11) + (23) ≤ (35 * (h + 1) + 203); omega)⟩) rfl hl.1 rfl (Nat.le_of_ble_eq_true rfl) dX3_build_356 ⟨by show _ ≤ aC (aGate false (bld dv (h + 1) step)) s0; omega, by show _ ≤ aS (aGate false (bld dv (h + 1) step)) s0; omega⟩ (fun H locs hs => ?_)
      refine lv_aload_n hx hb dX3_build_359 rfl (lv_at hl 5 rfl) ?_
      refine lv_iload hx hb dX3_build_360 (lv_at hl 1 rfl) ?_
      refine lv_iload hx hb dX3_build_362 (lv_at hl 0 rfl) ?_
      refine r_callVi (ci := 3) (As := [.int (nI b), .int (nI (81 - h))]) hx hb hml hown hts hK hA hs (21) (by omega) he210 rfl rfl (IH (fl := false) hW (Der_fr hD (Fr_rf : Fr n pmS pmA ad en ad en)) hhi (wfD_ext x0 hokk hwb) (by omega)) (cwV 2 hts (tbV w_ml_RX3_27 w_im_yX3_build w_se_yX3_build w_ini_RX3 w_cd_yX3_build) rfl rfl rfl (by decide +kernel) ⟨(by show ((h + 6)) + 1 ≤ ((h + 1) + 6); omega), (by show 8 + (8 + 11) + ((35 * h + 203)) ≤ (35 * (h + 1) + 203); omega)⟩) rfl hl.1 rfl (Nat.le_of_ble_eq_true rfl) dX3_build_364 ⟨by show _ ≤ aC (aGate false (bld dv (h + 1) step)) s0; omega, by show _ ≤ aS (aGate false (bld dv (h + 1) step)) s0; omega⟩ (fun r_129 ad_126 en_127 H locs hp_128 hs => ?_)
      obtain ⟨⟨hr1, hW1, hf1⟩, hv1, -⟩ := hp_128
      rw [hq1] at hr1 hW1 hv1
      have hW1 : PmW G n ad_126 en_127 s1 jd RR SL S sf o1.isNone := hW1
      obtain ⟨gt1, hnd1, hg1⟩ := vd_nd hv1 hW1.2.2.1.1
      have v1 : oNd s1 o1 gt1 ∧ (false = true → o1 = none) := ⟨hnd1, gt_none hq1⟩
      rw [show r_129 = aR o1 from hr1]
      obtain ⟨hp_130, hdp_130, hOp_130, hnp_130, he21p_130⟩ := id hW1
      obtain ⟨fstp_130, hestp_130⟩ : ∃ fs, en_127 3 = .inr (6, fs) := ⟨_, hp_130.2.1⟩
      obtain ⟨fndp_130, hendp_130⟩ : ∃ fs, en_127 11 = .inr (2, fs) := ⟨_, hdp_130.2.1⟩
      have frp_130 := Fr_tr Fr_rf hf1
      have hl : lv_has ls 8 [(7, .int (nI (81 - h))), (6, .int (nI b)), (5, .int (nI a)), (4, .int (nI f)), (3, .int (nI goal)), (0, .ref (ad_126 21)), (1, .int (nI step)), (2, .int (nI (81 - (h + 1))))] := by rw [hf1.1 21 (by omega) (by unfold pmA; omega)]; exact hl
      refine r_st (st2 := [.int (aR o1), .int (nI (sR s0.1 f)), .ref (ad_126 21), .int (nI f), .ref (ad_126 21)]) (by rw [hf1.1 21 (by omega) (by unfold pmA; omega)]) ?_
      have hn1_ : nsOK s1.1 s1.2 := hOp_130.1
      refine r_callVi (ci := 3) (As := [.int (nI (sR s0.1 f)), .int (aR o1)]) hx hb hml hown hts hK hA hs (21) (by omega) he21p_130 rfl rfl (c_X3_lambda l G (o := o1) hW1 (a := sR s0.1 f) (by have := sExt_len x1; omega) (v1.1)) (cwV 2 hts (tbV w_ml_RX3_61 w_im_yX3_lambda w_se_yX3_lambda w_ini_RX3 w_cd_yX3_lambda) rfl rfl rfl (by decide +kernel) ⟨(by show (4) + 1 ≤ ((h + 1) + 6); omega), (by show 8 + (4 + 11) + (135) ≤ (35 * (h + 1) + 203); omega)⟩) rfl hl.1 rfl (Nat.le_of_ble_eq_true rfl) dX3_build_367 ⟨by show _ ≤ aC (aGate false (bld dv (h + 1) step)) s0; omega, by show _ ≤ aS (aGate false (bld dv (h + 1) step)) s0; omega⟩ (fun r_134 ad_131 en_132 H locs hp_133 hs => ?_)
      obtain ⟨hr2, hW2, hf2⟩ := hp_133
      rw [hq2] at hr2 hW2
      have hW2 : PmW G n ad_131 en_132 s2 jd RR SL S sf o2.isNone := hW2
      have v2 := lamO_q hq2 (v1.1)
      rw [show r_134 = aR o2 from hr2]
      obtain ⟨hp_135, hdp_135, hOp_135, hnp_135, he21p_135⟩ := id hW2
      obtain ⟨fstp_135, hestp_135⟩ : ∃ fs, en_132 3 = .inr (6, fs) := ⟨_, hp_135.2.1⟩
      obtain ⟨fndp_135, hendp_135⟩ : ∃ fs, en_132 11 = .inr (2, fs) := ⟨_, hdp_135.2.1⟩
      have frp_135 := Fr_tr frp_130 hf2
      have hl : lv_has ls 8 [(7, .int (nI (81 - h))), (6, .int (nI b)), (5, .int (nI a)), (4, .int (nI f)), (3, .int (nI goal)), (0, .ref (ad_131 21)), (1, .int (nI step)), (2, .int (nI (81 - (h + 1))))] := by rw [hf2.1 21 (by omega) (by unfold pmA; omega)]; exact hl
      refine r_st (st2 := [.int (aR o2), .int (nI f), .ref (ad_131 21)]) (by rw [hf2.1 21 (by omega) (by unfold pmA; omega)]) ?_
      have hn2_ : nsOK s2.1 s2.2 := hOp_135.1
      refine lv_aload_n hx hb dX3_build_370 rfl (lv_at hl 5 rfl) ?_
      refine lv_iload hx hb dX3_build_371 (lv_at hl 3 rfl) ?_
      refine r_callVi (ci := 3) (As := [.int (nI f)]) hx hb hml hown hts hK hA hs (21) (by omega) he21p_135 rfl rfl (c_X3_given l G hW2 (f1 := f) (by have := sExt_len x2; omega)) (cwV 1 hts (tbV w_ml_RX3_49 w_im_yX3_given w_se_yX3_given w_ini_RX3 w_cd_yX3_given) rfl rfl rfl (by decide +kernel) ⟨(by show (4) + 1 ≤ ((h + 1) + 6); omega), (by show 8 + (2 + 11) + (135) ≤ (35 * (h + 1) + 203); omega)⟩) rfl hl.1 rfl (Nat.le_of_ble_eq_true rfl) dX3_build_373 ⟨by show _ ≤ aC (aGate false (bld dv (h + 1) step)) s0; omega, by show _ ≤ aS (aGate false (bld dv (h + 1) step)) s0; omega⟩ (fun r_139 ad_136 en_137 H locs hp_138 hs => ?_)
      obtain ⟨hr3, hW3, hf3⟩ := hp_138
      rw [hq3] at hr3 hW3
      have hW3 : PmW G n ad_136 en_137 s3 jd RR SL S sf o3.isNone := hW3
      have v3 := gate_q hq3
      rw [show r_139 = aR o3 from hr3]
      obtain ⟨hp_140, hdp_140, hOp_140, hnp_140, he21p_140⟩ := id hW3
      obtain ⟨fstp_140, hestp_140⟩ : ∃ fs, en_137 3 = .inr (6, fs) := ⟨_, hp_140.2.1⟩
      obtain ⟨fndp_140, hendp_140⟩ : ∃ fs, en_137 11 = .inr (2, fs) := ⟨_, hdp_140.2.1⟩
      have frp_140 := Fr_tr frp_135 hf3
      have hl : lv_has ls 8 [(7, .int (nI (81 - h))), (6, .int (nI b)), (5, .int (nI a)), (4, .int (nI f)), (3, .int (nI goal)), (0, .ref (ad_136 21)), (1, .int (nI step)), (2, .int (nI (81 - (h + 1))))] := by rw [hf3.1 21 (by omega) (by unfold pmA; omega)]; exact hl
      refine r_st (st2 := [.int (aR o3), .int (aR o2), .int (nI f), .ref (ad_136 21)]) (by rw [hf3.1 21 (by omega) (by unfold pmA; omega)]) ?_
      have hn3_ : nsOK s3.1 s3.2 := hOp_140.1
      refine lv_aload_n hx hb dX3_build_376 rfl (lv_at hl 5 rfl) ?_
      refine lv_iload hx hb dX3_build_377 (lv_at hl 2 rfl) ?_
      refine lv_iload hx hb dX3_build_379 (lv_at hl 0 rfl) ?_
      refine r_callVi (ci := 3) (As := [.int (nI a), .int (nI (81 - h))]) hx hb hml hown hts hK hA hs (21) (by omega) he21p_140 rfl rfl (IH (fl := o3.isNone) hW3 (Der_fr hD frp_140) hhi (wfD_ext x3 hokk hwa) (by omega)) (cwV 2 hts (tbV w_ml_RX3_27 w_im_yX3_build w_se_yX3_build w_ini_RX3 w_cd_yX3_build) rfl rfl rfl (by decide +kernel) ⟨(by show ((h + 6)) + 1 ≤ ((h + 1) + 6); omega), (by show 8 + (8 + 11) + ((35 * h + 203)) ≤ (35 * (h + 1) + 203); omega)⟩) rfl hl.1 rfl (Nat.le_of_ble_eq_true rfl) dX3_build_381 ⟨by show _ ≤ aC (aGate false (bld dv (h + 1) step)) s0; omega, by show _ ≤ aS (aGate false (bld dv (h + 1) step)) s0; omega⟩ (fun r_144 ad_141 en_142 H locs hp_143 hs => ?_)
      obtain ⟨⟨hr4, hW4, hf4⟩, hv4, -⟩ := hp_143
      rw [hq4] at hr4 hW4 hv4
      have hW4 : PmW G n ad_141 en_142 s4 jd RR SL S sf o4.isNone := hW4
      obtain ⟨gt4, hnd4, hg4⟩ := vd_nd hv4 hW4.2.2.1.1
      have v4 : oNd s4 o4 gt4 ∧ (o3.isNone = true → o4 = none) := ⟨hnd4, gt_none hq4⟩
      rw [show r_144 = aR o4 from hr4]
      obtain ⟨hp_145, hdp_145, hOp_145, hnp_145, he21p_145⟩ := id hW4
      obtain ⟨fstp_145, hestp_145⟩ : ∃ fs, en_142 3 = .inr (6, fs) := ⟨_, hp_145.2.1⟩
      obtain ⟨fndp_145, hendp_145⟩ : ∃ fs, en_142 11 = .inr (2, fs) := ⟨_, hdp_145.2.1⟩
      have frp_145 := Fr_tr frp_140 hf4
      have hl : lv_has ls 8 [(7, .int (nI (81 - h))), (6, .int (nI b)), (5, .int (nI a)), (4, .int (nI f)), (3, .int (nI goal)), (0, .ref (ad_141 21)), (1, .int (nI step)), (2, .int (nI (81 - (h + 1))))] := by rw [hf4.1 21 (by omega) (by unfold pmA; omega)]; exact hl
      refine r_st (st2 := [.int (aR o4), .int (aR o3), .int (aR o2), .int (nI f), .ref (ad_141 21)]) (by rw [hf4.1 21 (by omega) (by unfold pmA; omega)]) ?_
      have hn4_ : nsOK s4.1 s4.2 := hOp_145.1
      refine r_callVi (ci := 3) (As := [.int (nI f), .int (aR o2), .int (aR o3), .int (aR o4)]) hx hb hml hown hts hK hA hs (21) (by omega) he21p_145 rfl rfl (c_X3_nestK l G hW4 (f := f) (oE := o2) (oG := o3) (hS4.2.1 (by omega)) (by rw [hS4.2.2.2.2.2.2.2.1 (by omega)]; decide) (by rw [(hS4.2.2.2.2.2.2.2.2.2.2.2 rfl).1]; decide) v4.1 hg4 ((v2.1.mono hc3.2.2.2.2 hn2_).mono hc4.2.2.2.2 hn3_) hg1 (v3.1.mono hc4.2.2.2.2) (fun q => v3.2 (none_i q)) (fun q => v4.2 (none_i q)) (hS4.2.2.2.2.2.2.2.2.2.2.2 rfl).2) (cwV 4 hts (tbV w_ml_RX3_79 w_im_yX3_nest w_se_yX3_nest w_ini_RX3 w_cd_yX3_nest) rfl rfl rfl (by decide +kernel) ⟨(by show (5) + 1 ≤ ((h + 1) + 6); omega), (by show 8 + (10 + 11) + (166) ≤ (35 * (h + 1) + 203); omega)⟩) rfl hl.1 rfl (Nat.le_of_ble_eq_true rfl) dX3_build_384 ⟨by show _ ≤ aC (aGate false (bld dv (h + 1) step)) s0; omega, by show _ ≤ aS (aGate false (bld dv (h + 1) step)) s0; omega⟩ (fun r_149 ad_146 en_147 H locs hp_148 hs => ?_)
      obtain ⟨⟨hr5, hW5, hf5⟩, hv5, -⟩ := hp_148
      rw [hq5] at hr5 hW5 hv5
      have hW5 : PmW G n ad_146 en_147 s5 jd RR SL S sf o5.isNone := hW5
      rw [show r_149 = aR o5 from hr5]
      obtain ⟨hp_150, hdp_150, hOp_150, hnp_150, he21p_150⟩ := id hW5
      obtain ⟨fstp_150, hestp_150⟩ : ∃ fs, en_147 3 = .inr (6, fs) := ⟨_, hp_150.2.1⟩
      obtain ⟨fndp_150, hendp_150⟩ : ∃ fs, en_147 11 = .inr (2, fs) := ⟨_, hdp_150.2.1⟩
      have frp_150 := Fr_tr frp_145 hf5
      have hl : lv_has ls 8 [(7, .int (nI (81 - h))), (6, .int (nI b)), (5, .int (nI a)), (4, .int (nI f)), (3, .int (nI goal)), (0, .ref (ad_146 21)), (1, .int (nI step)), (2, .int (nI (81 - (h + 1))))] := by rw [hf5.1 21 (by omega) (by unfold pmA; omega)]; exact hl
      refine r_iret (v := aR o5) (mc := aC (aGate false (bld dv (h + 1) step)) s0) (ms := aS (aGate false (bld dv (h + 1) step)) s0) hx hb hr hlk hs (by omega) (by omega) dX3_build_387 hQ ?_
      exact aPostG.of hE hW5 frp_150 hv5 x5
    exact (sw13 hsd.1 (fun v a b => by
      have : v = 1 ∨ v = 2 ∨ v = 3 ∨ v = 4 ∨ v = 5 ∨ v = 6 ∨ v = 7 ∨ v = 8 ∨ v = 9 ∨ v = 10 ∨ v = 11 ∨ v = 12 ∨ v = 13 := by omega
      rcases this with rfl | rfl | rfl | rfl | rfl | rfl | rfl | rfl | rfl | rfl | rfl | rfl | rfl <;> assumption)).elim
theorem c_X3_build (l : Launch) (G : rG) : ∀ h, BldC l G h := by
  intro h
  induction h with
  | zero => intro n ad en s0 jd RR SL S sf fl hW hw dv hD lo hi step goal hhi hwf hh; exact absurd hwf (fun z => z)
  | succ h ih => intro n ad en s0 jd RR SL S sf fl hW hw dv hD lo hi step goal hhi hwf hh; exact c_X3_build_s l G ih hW hD hhi hwf hh

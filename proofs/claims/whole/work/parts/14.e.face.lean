set_option maxHeartbeats 600000 in
set_option maxRecDepth 100000 in
theorem c_X7_prove (l : Launch) (G : rG) {n : Nat} {ad : Nat → Nat} {en : Nat → va_E} {s0 : NSt} {jd RR SL : Nat} {SN : Nat → Nat → Bool} {sf : Nat → Int32} {fl : Bool} {hw : Nat} {dv : Nat → Int32} {SG : Nat → Nat → Bool} {fuel sp : Nat} (hW : PsW G n ad en s0 jd RR SL SN sf fl hw dv SG fuel sp) (x y : Int32) : CI l G yX7_prove uX7_prove (169) (4715) (fPC dv hw s0 x y) (fPS dv hw s0 x y) [.ref (ad 0), .int (x), .int (y)] (n) (n) ad en (fPost G n ad en (fProve dv s0 x y).1 (fProve dv s0 x y).2 (fUsed dv s0 x y sp) (fPC dv hw s0 x y + pC7 s0 hw RR SL) (fPS dv hw s0 x y + pS7 s0 hw RR SL)) := by
  intro sz
  refine rMet (Qc := qI G (n) (fPost G n ad en (fProve dv s0 x y).1 (fProve dv s0 x y).2 (fUsed dv s0 x y sp) (fPC dv hw s0 x y + pC7 s0 hw RR SL) (fPS dv hw s0 x y + pS7 s0 hw RR SL))) (cc := cX7_prove) (maxL := 4) (ret := (some .int)) (by decide) rfl (Nat.le_of_ble_eq_true rfl) ?_
  intro pP eE sS mM aA bB tT cC ls A Q hc hK hsz hA hs hl hQ
  obtain ⟨hx, hb, hr, hts, hown, hlk, hnm, hml⟩ := hc
  have hl : lv_has ls 4 [(0, .ref (ad 0)), (1, .int (x)), (2, .int (y))] := hl
  obtain ⟨he00, hPm0, hSc0, hRR0, hSL0⟩ := id hW
  obtain ⟨hSt0, hNd0, hOk0, hn0, he210⟩ := id hPm0
  obtain ⟨fs30, he30⟩ : ∃ fs, en 3 = .inr (6, fs) := ⟨_, hSt0.2.1⟩
  obtain ⟨fs110, he110⟩ : ∃ fs, en 11 = .inr (2, fs) := ⟨_, hNd0.2.1⟩
  obtain ⟨fs180, he180⟩ : ∃ fs, en 18 = .inr (4, fs) := ⟨_, hSc0.2.2.2.2⟩
  obtain ⟨fs210, hf210⟩ : ∃ fs, en 21 = .inr (3, fs) := ⟨_, he210⟩
  have h60 := hSt0.2.2.2.2.2.1
  have h80 := hOk0.1.1
  
  refine lv_aload_n hx hb dX7_prove_0 rfl (lv_at hl 0 rfl) ?_
  refine r_get (ci := 7) (v := .ref (ad 3)) (C := RX7) (T := TX7) (N := 4) hx hb hts inlX7 hown hK hs (0) (by omega) he00 rfl 0 (by decide) (hts _ w_fl_RX7_13) rfl dX7_prove_1 ?_
  refine lv_iload_n hx hb dX7_prove_4 rfl (lv_at hl 1 rfl) ?_
  refine r_callViR (ci := 6) (As := [.int (x)]) hx hb hml hown hts hK hA hs (3) (by omega) he30 rfl rfl (c_X6_holds l G hSt0 (x)) (cwV 1 hts (tbV w_ml_RX7_50 w_im_yX6_holds w_se_yX6_holds w_ini_RX6 w_cd_yX6_holds) rfl rfl rfl (by decide +kernel) ⟨Nat.le_of_ble_eq_true rfl, Nat.le_of_ble_eq_true rfl⟩) rfl hl.1 rfl (Nat.le_of_ble_eq_true rfl) dX7_prove_5 ⟨Nat.zero_le _, Nat.zero_le _⟩ (fun H locs hs => ?_)
  refine lv_if_eq (tgt := 22) hx hb dX7_prove_8 (by decide) (fun c8 => ?_) (fun c8 => ?_)
  · skip
    refine lv_iconst (v := (-1)) hx hb dX7_prove_22 (by decide) ?_
    refine r_iret (v := (-1)) (mc := fPC dv hw s0 x y) (ms := fPS dv hw s0 x y) hx hb hr hlk hs (Nat.zero_le _) (Nat.zero_le _) dX7_prove_23 hQ ?_
    have hb0 : ¬ fPvOK s0 x y = true := by rw [fPvOK, decide_eq_true_eq]; exact fun q => absurd q.1 (by rw [b2i_0 c8]; decide)
    rw [show fProve dv s0 x y = (-1, s0) from if_neg hb0, show fUsed dv s0 x y sp = sp from if_neg hb0]
    exact fx_same hW rfl (if_neg hb0) (if_neg hb0)
  · skip
    refine lv_iload_n hx hb dX7_prove_11 rfl (lv_at hl 2 rfl) ?_
    refine lv_if_lt (tgt := 22) hx hb dX7_prove_12 (by decide) (fun c12 => ?_) (fun c12 => ?_)
    · skip
      refine lv_iconst (v := (-1)) hx hb dX7_prove_22 (by decide) ?_
      refine r_iret (v := (-1)) (mc := fPC dv hw s0 x y) (ms := fPS dv hw s0 x y) hx hb hr hlk hs (Nat.zero_le _) (Nat.zero_le _) dX7_prove_23 hQ ?_
      have hb0 : ¬ fPvOK s0 x y = true := by rw [fPvOK, decide_eq_true_eq]; exact fun q => absurd q.2.1 (Int32.not_le.mpr c12)
      rw [show fProve dv s0 x y = (-1, s0) from if_neg hb0, show fUsed dv s0 x y sp = sp from if_neg hb0]
      exact fx_same hW rfl (if_neg hb0) (if_neg hb0)
    · skip
      refine lv_iload_n hx hb dX7_prove_15 rfl (lv_at hl 2 rfl) ?_
      refine lv_sipush (v := 3000) hx hb dX7_prove_16 (by decide) ?_
      refine lv_icmp_le (tgt := 24) hx hb dX7_prove_19 (by decide) (fun c19 => ?_) (fun c19 => ?_)
      · skip
        obtain ⟨k, hk0, hk1, hk2⟩ := holds_ex (b2i_1 c8)
        have hHk := b2i_1 c8
        obtain ⟨fu, hfu0, hfu1⟩ := pos_ex c12
        have hy0 := Int32.not_lt.mp c12
        subst hk0 hfu0
        have hfu3 : fu ≤ 3000 := (nI_leI hfu1 (by decide)).mp c19
        have hok : fPvOK s0 (nI k) (nI fu) = true := by rw [fPvOK, decide_eq_true_eq]; exact ⟨hHk, hy0, c19⟩
        have hFL : fLook dv s0 (nI k) (nI fu) = look fu 80 (fun _ => false) k (s0.1, 0, dv) := by rw [fLook, tN_nI (by omega), tN_nI (by omega)]
        have hLQ := look_ok hfu3 80 (fun _ => false) k (s0.1, 0, dv) hSt0.2.2.2.2.2 (fun y q => by cases q) ⟨hk1, hk2⟩ (Nat.zero_le _)
        have ha2 := anI_le hfu3 hLQ
        obtain ⟨a1, ss3, sp3, dv3, hP1⟩ : ∃ a b c e, look fu 80 (fun _ => false) k (s0.1, 0, dv) = (a, (b, c, e)) := ⟨_, _, _, _, rfl⟩
        have hFL2 : fLook dv s0 (nI k) (nI fu) = (a1, (ss3, sp3, dv3)) := hFL.trans hP1
        rw [hP1] at hLQ ha2
        obtain ⟨⟨y3, hy3⟩, hok3, -, hfx⟩ := id hLQ.1
        have hfx : sp3 ≤ fu := hfx
        have ha2 : a1 ≤ 3002 := ha2
        have hC1 : lC hw s0.1 (look fu 80 (fun _ => false) k (s0.1, 0, dv)).2 = lC hw s0.1 (ss3, sp3, dv3) ∧ lS hw s0.1 (look fu 80 (fun _ => false) k (s0.1, 0, dv)).2 = lS hw s0.1 (ss3, sp3, dv3) := by rw [hP1]; exact ⟨rfl, rfl⟩
        have hlc := lC_eq (hw := hw) (ss := s0.1) (x1 := (ss3, sp3, dv3)) hLQ.1.len
        have hpc : fPC dv hw s0 (nI k) (nI fu) = lC hw s0.1 (ss3, sp3, dv3) + (if a1 = 0 ∨ 3000 < a1 then 0 else aC (bld dv3 80 a1) (ss3, s0.2)) := by rw [fPC, if_pos hok, hFL2]
        have hps : fPS dv hw s0 (nI k) (nI fu) = lS hw s0.1 (ss3, sp3, dv3) + (if a1 = 0 ∨ 3000 < a1 then 0 else aS (bld dv3 80 a1) (ss3, s0.2)) := by rw [fPS, if_pos hok, hFL2]
        refine lv_aload_n hx hb dX7_prove_24 rfl (lv_at hl 0 rfl) ?_
        refine r_get (ci := 7) (v := .ref (ad 18)) (C := RX7) (T := TX7) (N := 4) hx hb hts inlX7 hown hK hs (0) (by omega) he00 rfl 2 (by decide) (hts _ w_fl_RX7_33) rfl dX7_prove_25 ?_
        refine lv_iload_n hx hb dX7_prove_28 rfl (lv_at hl 1 rfl) ?_
        refine lv_iload_n hx hb dX7_prove_29 rfl (lv_at hl 2 rfl) ?_
        refine r_callVi (ci := 4) (As := [.int (nI k), .int (nI fu)]) hx hb hml hown hts hK hA hs (18) (by omega) he180 rfl rfl (c_X4_run l G hSc0 (f1 := k) (fu := fu) ⟨hk1, hk2⟩ hfu3) (cwV 2 hts (tbV w_ml_RX7_63 w_im_yX4_run w_se_yX4_run w_ini_RX4 w_cd_yX4_run) rfl rfl rfl (by decide +kernel) ⟨Nat.le_of_ble_eq_true rfl, Nat.le_of_ble_eq_true rfl⟩) rfl hl.1 rfl (Nat.le_of_ble_eq_true rfl) dX7_prove_30 ⟨by show 0 + _ ≤ fPC dv hw s0 (nI k) (nI fu); omega, by show 0 + _ ≤ fPS dv hw s0 (nI k) (nI fu); omega⟩ (fun r_4 ad_1 en_2 H locs hp_3 hs => ?_)
        obtain ⟨hr1, ⟨S1, hs1⟩, hf1⟩ := hp_3
        rw [hP1] at hr1 hs1
        obtain ⟨hW1, hF1⟩ := Ps_sc (y := y3) hW hs1 hy3 hf1
        have hW1 : PsW G n ad_1 en_2 (ss3, s0.2) jd RR SL SN sf fl (max hw sp3) dv3 S1 fu (if a1 = 3002 then fu else sp3) := hW1
        rw [show r_4 = anI a1 from hr1]
        obtain ⟨he01, hPm1, hSc1, hRR1, hSL1⟩ := id hW1
        obtain ⟨hSt1, hNd1, hOk1, hn1, he211⟩ := id hPm1
        obtain ⟨fs31, he31⟩ : ∃ fs, en_2 3 = .inr (6, fs) := ⟨_, hSt1.2.1⟩
        obtain ⟨fs111, he111⟩ : ∃ fs, en_2 11 = .inr (2, fs) := ⟨_, hNd1.2.1⟩
        obtain ⟨fs181, he181⟩ : ∃ fs, en_2 18 = .inr (4, fs) := ⟨_, hSc1.2.2.2.2⟩
        obtain ⟨fs211, hf211⟩ : ∃ fs, en_2 21 = .inr (3, fs) := ⟨_, he211⟩
        have h61 := hSt1.2.2.2.2.2.1
        have h81 := hOk1.1.1
        have hl : lv_has ls 4 [(0, .ref (ad_1 0)), (1, .int (nI k)), (2, .int (nI fu))] := by rw [hF1.1 0 (by omega) (by unfold psA; omega)]; exact hl
        refine lv_istore_n (lv' := [(3, .int (anI a1)), (0, .ref (ad_1 0)), (1, .int (nI k)), (2, .int (nI fu))]) hx hb dX7_prove_33 rfl hl (by decide) rfl (fun ls hl => ?_)
        refine lv_iload_n hx hb dX7_prove_34 rfl (lv_at hl 0 rfl) ?_
        refine lv_if_le (tgt := 49) hx hb dX7_prove_35 (by decide) (fun c35 => ?_) (fun c35 => ?_)
        · skip
          have hbad := anI_le0 c35
          refine lv_iload_n hx hb dX7_prove_49 rfl (lv_at hl 0 rfl) ?_
          refine r_iret (v := anI a1) (mc := fPC dv hw s0 (nI k) (nI fu)) (ms := fPS dv hw s0 (nI k) (nI fu)) hx hb hr hlk hs (by omega) (by omega) dX7_prove_50 hQ ?_
          have hU : fUsed dv s0 (nI k) (nI fu) sp = (if a1 = 3002 then fu else sp3) := by rw [fUsed, if_pos hok, hFL2, tN_nI (by omega)]
          have hV : fProve dv s0 (nI k) (nI fu) = (anI a1, (ss3, s0.2)) := by rw [fProve, if_pos hok, hFL2, fLay, if_pos hbad]
          rw [if_pos hbad] at hpc hps
          rw [hV, hU, hpc, hps]
          exact pv_post0 hW1 hF1 rfl hlc
        · skip
          have hgood := anI_gt0 c35 ha2
          refine lv_aload_n hx hb dX7_prove_38 rfl (lv_at hl 1 rfl) ?_
          refine r_get (ci := 7) (v := .ref (ad_1 21)) (C := RX7) (T := TX7) (N := 4) hx hb hts inlX7 hown hK hs (0) (by omega) he01 rfl 3 (by decide) (hts _ w_fl_RX7_42) rfl dX7_prove_39 ?_
          refine lv_iload_n hx hb dX7_prove_42 rfl (lv_at hl 0 rfl) ?_
          refine r_topi (y := nI a1) (anI_nI hgood) ?_
          rw [if_neg hgood] at hpc hps
          have hwf : wfD ss3 dv3 80 0 sp3 a1 k := by
            rcases hLQ.2.2 with q | q | q | ⟨q, q2⟩
            · exact absurd (Or.inl q) hgood
            · exact absurd (Or.inr (by show 3000 < a1; have : a1 = 3001 := q; omega)) hgood
            · exact absurd (Or.inr (by show 3000 < a1; have : a1 = 3002 := q; omega)) hgood
            · exact q2
          refine r_callVi (ci := 3) (As := [.int (nI a1)]) hx hb hml hown hts hK hA hs (21) (by omega) hf211 rfl rfl (c_X3_makeAll l G hPm1 hSc1.2.2.1 (lo := 0) (hi := sp3) (step := a1) (goal := k) (by omega) hwf) (cwV 1 hts (tbV w_ml_RX7_66 w_im_yX3_makeAll w_se_yX3_makeAll w_ini_RX3 w_cd_yX3_makeAll) rfl rfl rfl (by decide +kernel) ⟨Nat.le_of_ble_eq_true rfl, Nat.le_of_ble_eq_true rfl⟩) rfl hl.1 rfl (Nat.le_of_ble_eq_true rfl) dX7_prove_43 ⟨by show _ + aC (bld dv3 80 a1) (ss3, s0.2) ≤ fPC dv hw s0 (nI k) (nI fu); omega, by show _ + aS (bld dv3 80 a1) (ss3, s0.2) ≤ fPS dv hw s0 (nI k) (nI fu); omega⟩ (fun r_8 ad_5 en_6 H locs hp_7 hs => ?_)
          obtain ⟨⟨hr2, hW2, hf2⟩, -, hx2⟩ := hp_7
          obtain ⟨hW3, hF3⟩ := Ps_pm hW1 hW2 hf2
          rw [hr2]
          refine lv_goto (tgt := 50) hx hb dX7_prove_46 (by decide) ?_
          refine r_iret (v := aR ((aGate false (bld dv3 80 a1)) (ss3, s0.2)).1) (mc := fPC dv hw s0 (nI k) (nI fu)) (ms := fPS dv hw s0 (nI k) (nI fu)) hx hb hr hlk hs (by show _ + aC (bld dv3 80 a1) (ss3, s0.2) ≤ fPC dv hw s0 (nI k) (nI fu); omega) (by show _ + aS (bld dv3 80 a1) (ss3, s0.2) ≤ fPS dv hw s0 (nI k) (nI fu); omega) dX7_prove_50 hQ ?_
          have hU : fUsed dv s0 (nI k) (nI fu) sp = (if a1 = 3002 then fu else sp3) := by rw [fUsed, if_pos hok, hFL2, tN_nI (by omega)]
          obtain ⟨o4, s4, hq4⟩ : ∃ o z, bld dv3 80 a1 (ss3, s0.2) = (o, z) := ⟨_, _, rfl⟩
          have hV : fProve dv s0 (nI k) (nI fu) = (aR o4, s4) := by rw [fProve, if_pos hok, hFL2, fLay, if_neg hgood, hq4]
          have hx4 : sExt (ss3, s0.2) s4 := by have q := bld_ext dv3 80 a1 (ss3, s0.2); rw [hq4] at q; exact q
          obtain ⟨hc4, hd4⟩ := aC_all hq4 hx4
          have hW3 : PsW G n ad_5 en_6 s4 jd RR SL SN sf o4.isNone (max hw sp3) dv3 S1 fu (if a1 = 3002 then fu else sp3) := by have q := hW3; rw [show (aGate false (bld dv3 80 a1) (ss3, s0.2)) = (o4, s4) from hq4] at q; exact q
          rw [hV, hU, hpc, hps]
          exact pv_post hW3 (Fr_tr hF1 hF3) (congrArg aR (congrArg Prod.fst hq4)) hlc hc4 hd4
      · skip
        refine lv_iconst (v := (-1)) hx hb dX7_prove_22 (by decide) ?_
        refine r_iret (v := (-1)) (mc := fPC dv hw s0 x y) (ms := fPS dv hw s0 x y) hx hb hr hlk hs (Nat.zero_le _) (Nat.zero_le _) dX7_prove_23 hQ ?_
        have hb0 : ¬ fPvOK s0 x y = true := by rw [fPvOK, decide_eq_true_eq]; exact fun q => absurd q.2.2 (Int32.not_le.mpr (Int32.not_le.mp c19))
        rw [show fProve dv s0 x y = (-1, s0) from if_neg hb0, show fUsed dv s0 x y sp = sp from if_neg hb0]
        exact fx_same hW rfl (if_neg hb0) (if_neg hb0)

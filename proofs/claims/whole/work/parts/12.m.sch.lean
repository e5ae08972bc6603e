set_option maxHeartbeats 600000 in
set_option maxRecDepth 100000 in
theorem c_X4_run (l : Launch) (G : rG) {n : Nat} {ad : Nat → Nat} {en : Nat → va_E} {ss : List Row} {hw : Nat} {dv : Nat → Int32} {S : Nat → Nat → Bool} {fuel sp : Nat} (hW : SchW G n ad en ss hw dv S fuel sp) {f1 fu : Nat} (hf1 : 1 ≤ f1 ∧ f1 ≤ ss.length) (hfu : fu ≤ 3000) : CI l G yX4_run uX4_run (168) (4692) (lC hw ss (look fu 80 (fun _ => false) f1 (ss, 0, dv)).2) (lS hw ss (look fu 80 (fun _ => false) f1 (ss, 0, dv)).2) [.ref (ad 18), .int (nI f1), .int (nI fu)] (n) (n) ad en (fun rz ad1 en1 => rz = anI (look fu 80 (fun _ => false) f1 (ss, 0, dv)).1 ∧ (∃ S1, SchW G n ad1 en1 (look fu 80 (fun _ => false) f1 (ss, 0, dv)).2.1 (max hw (look fu 80 (fun _ => false) f1 (ss, 0, dv)).2.2.1) (look fu 80 (fun _ => false) f1 (ss, 0, dv)).2.2.2 S1 fu (if (look fu 80 (fun _ => false) f1 (ss, 0, dv)).1 = 3002 then fu else (look fu 80 (fun _ => false) f1 (ss, 0, dv)).2.2.1)) ∧ Fr n scS scA ad en ad1 en1) := by
  intro sz
  refine rMet (Qc := qI G (n) (fun rz ad1 en1 => rz = anI (look fu 80 (fun _ => false) f1 (ss, 0, dv)).1 ∧ (∃ S1, SchW G n ad1 en1 (look fu 80 (fun _ => false) f1 (ss, 0, dv)).2.1 (max hw (look fu 80 (fun _ => false) f1 (ss, 0, dv)).2.2.1) (look fu 80 (fun _ => false) f1 (ss, 0, dv)).2.2.2 S1 fu (if (look fu 80 (fun _ => false) f1 (ss, 0, dv)).1 = 3002 then fu else (look fu 80 (fun _ => false) f1 (ss, 0, dv)).2.2.1)) ∧ Fr n scS scA ad en ad1 en1)) (cc := cX4_run) (maxL := 4) (ret := (some .int)) (by decide) rfl (Nat.le_of_ble_eq_true rfl) ?_
  intro pP eE sS mM aA bB tT cC ls A Q hc hK hsz hA hs hl hQ
  obtain ⟨hx, hb, hr, hts, hown, hlk, hnm, hml⟩ := hc
  have hl : lv_has ls 4 [(0, .ref (ad 18)), (1, .int (nI f1)), (2, .int (nI fu))] := hl
  obtain ⟨hn0, hSt0, hDe0, hGi0, he180⟩ := id hW
  have he30 := hSt0.2.1
  obtain ⟨fs70, he70⟩ := SetsAt_recv hSt0.2.2.2.1
  obtain ⟨fs190, he190⟩ := SetsAt_recv hGi0
  obtain ⟨fs10, he10⟩ := DerAt_recv hDe0
  have hok0 := hSt0.2.2.2.2.2
  have h60 := hok0.1
  
  refine lv_aload_n hx hb dX4_run_0 rfl (lv_at hl 0 rfl) ?_
  refine lv_iload_n hx hb dX4_run_1 rfl (lv_at hl 2 rfl) ?_
  refine r_put (ci := 4) (v := .int (nI fu)) (ty := .int) (C := RX4) (T := TX4) (N := 5) (fs' := [.ref (ad 3), .ref (ad 1), .ref (ad 19), .int (nI fu), .int (nI sp)]) hx hb hts inlX4 tyX4 tyX4_ok nmX4 hown hK hs (18) (by omega) he180 rfl 3 (by decide) (hts _ w_fl_RX4_20) (Or.inl rfl) (by decide +kernel) rfl rfl (Nat.le_of_ble_eq_true rfl) rfl dX4_run_2 (fun H locs en_1 hen_1 hs => ?_)
  have he_2 : en_1 (18) = .inr (4, [.ref (ad 3), .ref (ad 1), .ref (ad 19), .int (nI fu), .int (nI sp)]) := by rw [hen_1]; exact va_up_self _ _ _
  have he_3 : en_1 (3) = .inr (6, [.ref (ad 4), .ref (ad 7), .ref (ad 9)]) := by rw [hen_1]; exact (va_up_ne _ _ (by omega)).trans he30
  have he_4 : en_1 (7) = .inr (5, fs70) := by rw [hen_1]; exact (va_up_ne _ _ (by omega)).trans he70
  have he_5 : en_1 (19) = .inr (5, fs190) := by rw [hen_1]; exact (va_up_ne _ _ (by omega)).trans he190
  have he_6 : en_1 (1) = .inr (0, fs10) := by rw [hen_1]; exact (va_up_ne _ _ (by omega)).trans he10
  obtain ⟨hW1, hF1⟩ := SchW_pu (fuel1 := fu) (sp1 := sp) hW hen_1 he_2
  obtain ⟨hnw_7, hStw_7, hDew_7, hGiw_7, he18w_7⟩ := id hW1
  have he3w_7 := hStw_7.2.1
  obtain ⟨fs7w_7, he7w_7⟩ := SetsAt_recv hStw_7.2.2.2.1
  obtain ⟨fs19w_7, he19w_7⟩ := SetsAt_recv hGiw_7
  obtain ⟨fs1w_7, he1w_7⟩ := DerAt_recv hDew_7
  have hokw_7 := hStw_7.2.2.2.2.2
  have h6w_7 := hokw_7.1
  have frw_7 := Fr_tr Fr_rf hF1
  have hl : lv_has ls 4 [(0, .ref (ad 18)), (1, .int (nI f1)), (2, .int (nI fu))] := by rw [hF1.1 18 (by omega) (by unfold scA; omega)]; exact hl
  refine lv_aload_n hx hb dX4_run_5 rfl (lv_at hl 0 rfl) ?_
  refine lv_iconst (v := 0) hx hb dX4_run_6 (by decide) ?_
  refine r_put (ci := 4) (v := .int (0)) (ty := .int) (C := RX4) (T := TX4) (N := 5) (fs' := [.ref (ad 3), .ref (ad 1), .ref (ad 19), .int (nI fu), .int (0)]) hx hb hts inlX4 tyX4 tyX4_ok nmX4 hown hK hs (18) (by omega) he18w_7 rfl 4 (by decide) (hts _ w_fl_RX4_24) (Or.inl rfl) (by decide +kernel) rfl rfl (Nat.le_of_ble_eq_true rfl) rfl dX4_run_7 (fun H locs en_8 hen_8 hs => ?_)
  have he_9 : en_8 (18) = .inr (4, [.ref (ad 3), .ref (ad 1), .ref (ad 19), .int (nI fu), .int (0)]) := by rw [hen_8]; exact va_up_self _ _ _
  have he_10 : en_8 (3) = .inr (6, [.ref (ad 4), .ref (ad 7), .ref (ad 9)]) := by rw [hen_8]; exact (va_up_ne _ _ (by omega)).trans he3w_7
  have he_11 : en_8 (7) = .inr (5, fs7w_7) := by rw [hen_8]; exact (va_up_ne _ _ (by omega)).trans he7w_7
  have he_12 : en_8 (19) = .inr (5, fs19w_7) := by rw [hen_8]; exact (va_up_ne _ _ (by omega)).trans he19w_7
  have he_13 : en_8 (1) = .inr (0, fs1w_7) := by rw [hen_8]; exact (va_up_ne _ _ (by omega)).trans he1w_7
  obtain ⟨hW2, hF2⟩ := SchW_pu (fuel1 := fu) (sp1 := 0) hW1 hen_8 he_9
  obtain ⟨hnw_14, hStw_14, hDew_14, hGiw_14, he18w_14⟩ := id hW2
  have he3w_14 := hStw_14.2.1
  obtain ⟨fs7w_14, he7w_14⟩ := SetsAt_recv hStw_14.2.2.2.1
  obtain ⟨fs19w_14, he19w_14⟩ := SetsAt_recv hGiw_14
  obtain ⟨fs1w_14, he1w_14⟩ := DerAt_recv hDew_14
  have hokw_14 := hStw_14.2.2.2.2.2
  have h6w_14 := hokw_14.1
  have frw_14 := Fr_tr frw_7 hF2
  have hl : lv_has ls 4 [(0, .ref (ad 18)), (1, .int (nI f1)), (2, .int (nI fu))] := by rw [hF2.1 18 (by omega) (by unfold scA; omega)]; exact hl
  refine lv_aload_n hx hb dX4_run_10 rfl (lv_at hl 0 rfl) ?_
  refine r_get (ci := 4) (v := .ref (ad 19)) (C := RX4) (T := TX4) (N := 5) hx hb hts inlX4 hown hK hs (18) (by omega) he18w_14 rfl 2 (by decide) (hts _ w_fl_RX4_14) rfl dX4_run_11 ?_
  refine lv_iconst (v := 1) hx hb dX4_run_14 (by decide) ?_
  refine r_topi (y := nI 1) (rfl) ?_
  refine r_callVv (ci := 5) (As := [.int (nI 1)]) hx hb hml hown hts hK hA hs (19) (by omega) he19w_14 rfl rfl (c_X5_clear l G hGiw_14 (row := 1) (by omega)) (cwV 1 hts (tbV w_ml_RX4_35 w_im_yX5_clear w_se_yX5_clear w_ini_RX5 w_cd_yX5_clear) rfl rfl rfl (by decide +kernel) ⟨Nat.le_of_ble_eq_true rfl, Nat.le_of_ble_eq_true rfl⟩) rfl hl.1 rfl (Nat.le_of_ble_eq_true rfl) dX4_run_15 ⟨Nat.zero_le _, Nat.zero_le _⟩ (fun ad_15 en_16 H locs hp_17 hs => ?_)
  obtain ⟨hsSc, hfSc⟩ := hp_17
  obtain ⟨Sc, eSc⟩ : ∃ z, z = sClr S 1 := ⟨_, rfl⟩
  rw [← eSc] at hsSc
  obtain ⟨hWSc, hFSc⟩ := SchW_gi hW2 hsSc hfSc
  obtain ⟨hnw_18, hStw_18, hDew_18, hGiw_18, he18w_18⟩ := id hWSc
  have he3w_18 := hStw_18.2.1
  obtain ⟨fs7w_18, he7w_18⟩ := SetsAt_recv hStw_18.2.2.2.1
  obtain ⟨fs19w_18, he19w_18⟩ := SetsAt_recv hGiw_18
  obtain ⟨fs1w_18, he1w_18⟩ := DerAt_recv hDew_18
  have hokw_18 := hStw_18.2.2.2.2.2
  have h6w_18 := hokw_18.1
  have frw_18 := Fr_tr frw_14 hFSc
  have hl : lv_has ls 4 [(0, .ref (ad_15 18)), (1, .int (nI f1)), (2, .int (nI fu))] := by rw [hFSc.1 18 (by omega) (by unfold scA; omega)]; exact hl
  refine lv_aload_n hx hb dX4_run_18 rfl (lv_at hl 0 rfl) ?_
  refine lv_iload_n hx hb dX4_run_19 rfl (lv_at hl 1 rfl) ?_
  refine lv_iconst (v := 1) hx hb dX4_run_20 (by decide) ?_
  refine r_topi (y := nI 1) (rfl) ?_
  have hS1 : Sc 1 = fun _ => false := by rw [eSc]; funext y; exact if_pos rfl
  obtain ⟨a1, ss3, sp3, dv3, hP1⟩ : ∃ a b c e, look fu 80 (fun _ => false) f1 (ss, 0, dv) = (a, (b, c, e)) := ⟨_, _, _, _, rfl⟩
  have hP2 : look fu 80 (Sc 1) f1 (ss, 0, dv) = (a1, (ss3, sp3, dv3)) := by rw [hS1]; exact hP1
  have hLQ := look_ok hfu 80 (fun _ => false) f1 (ss, 0, dv) hok0 (fun y q => by cases q) hf1 (Nat.zero_le _)
  have ha2 := anI_le hfu hLQ
  rw [hP1] at hLQ ha2
  refine r_callVi (ci := 4) (As := [.int (nI f1), .int (nI 1)]) hx hb hml hown hts hK hA hs (18) (by omega) he18w_18 rfl rfl (c_X4_look l G 80 hWSc (d := 1) (goal := f1) (by decide) (Nat.zero_le _) ⟨Nat.zero_le _, hfu⟩ hf1 (by rw [hS1]; intro y q; cases q)) (cwV 2 hts (tbV w_ml_RX4_38 w_im_yX4_look w_se_yX4_look w_ini_RX4 w_cd_yX4_look) rfl rfl rfl (by decide +kernel) ⟨Nat.le_of_ble_eq_true rfl, Nat.le_of_ble_eq_true rfl⟩) rfl hl.1 rfl (Nat.le_of_ble_eq_true rfl) dX4_run_21 ⟨by rw [hS1]; show 0 + _ ≤ lC hw ss (look fu 80 (fun _ => false) f1 (ss, 0, dv)).2; omega, by rw [hS1]; show 0 + _ ≤ lS hw ss (look fu 80 (fun _ => false) f1 (ss, 0, dv)).2; omega⟩ (fun r_22 ad_19 en_20 H locs hp_21 hs => ?_)
  obtain ⟨hrz7, ⟨S7, hW7, hS7⟩, hF7⟩ := hp_21
  rw [hP2] at hrz7 hW7
  have hW7 : SchW G n ad_19 en_20 ss3 (max hw sp3) dv3 S7 fu sp3 := hW7
  rw [show r_22 = anI a1 from hrz7]
  obtain ⟨hnw_23, hStw_23, hDew_23, hGiw_23, he18w_23⟩ := id hW7
  have he3w_23 := hStw_23.2.1
  obtain ⟨fs7w_23, he7w_23⟩ := SetsAt_recv hStw_23.2.2.2.1
  obtain ⟨fs19w_23, he19w_23⟩ := SetsAt_recv hGiw_23
  obtain ⟨fs1w_23, he1w_23⟩ := DerAt_recv hDew_23
  have hokw_23 := hStw_23.2.2.2.2.2
  have h6w_23 := hokw_23.1
  have frw_23 := Fr_tr frw_18 hF7
  have hl : lv_has ls 4 [(0, .ref (ad_19 18)), (1, .int (nI f1)), (2, .int (nI fu))] := by rw [hF7.1 18 (by omega) (by unfold scA; omega)]; exact hl
  refine lv_istore_n (lv' := [(3, .int (anI a1)), (0, .ref (ad_19 18)), (1, .int (nI f1)), (2, .int (nI fu))]) hx hb dX4_run_24 rfl hl (by decide) rfl (fun ls hl => ?_)
  refine lv_iload_n hx hb dX4_run_25 rfl (lv_at hl 0 rfl) ?_
  refine lv_bipush (v := (-4)) hx hb dX4_run_26 (by decide) ?_
  refine lv_icmp_ne (tgt := 39) hx hb dX4_run_28 (by decide) (fun c28 => ?_) (fun c28 => ?_)
  · skip
    refine lv_iload_n hx hb dX4_run_39 rfl (lv_at hl 0 rfl) ?_
    refine r_iret (v := anI a1) (mc := lC hw ss (look fu 80 (fun _ => false) f1 (ss, 0, dv)).2) (ms := lS hw ss (look fu 80 (fun _ => false) f1 (ss, 0, dv)).2) hx hb hr hlk hs (by rw [hS1]; omega) (by rw [hS1]; omega) dX4_run_40 hQ ?_
    rw [hP1]
    exact ⟨rfl, ⟨S7, by show SchW G n ad_19 en_20 ss3 (max hw sp3) dv3 S7 fu (if a1 = 3002 then fu else sp3); rw [if_neg (anI_nout c28)]; exact hW7⟩, frw_23⟩
  · skip
    refine lv_aload_n hx hb dX4_run_31 rfl (lv_at hl 1 rfl) ?_
    refine lv_aload_n hx hb dX4_run_32 rfl (lv_at hl 1 rfl) ?_
    refine r_get (ci := 4) (v := .int (nI fu)) (C := RX4) (T := TX4) (N := 5) hx hb hts inlX4 hown hK hs (18) (by omega) he18w_23 rfl 3 (by decide) (hts _ w_fl_RX4_20) rfl dX4_run_33 ?_
    refine r_put (ci := 4) (v := .int (nI fu)) (ty := .int) (C := RX4) (T := TX4) (N := 5) (fs' := [.ref (ad_19 3), .ref (ad_19 1), .ref (ad_19 19), .int (nI fu), .int (nI fu)]) hx hb hts inlX4 tyX4 tyX4_ok nmX4 hown hK hs (18) (by omega) he18w_23 rfl 4 (by decide) (hts _ w_fl_RX4_24) (Or.inl rfl) (by decide +kernel) rfl rfl (Nat.le_of_ble_eq_true rfl) rfl dX4_run_36 (fun H locs en_24 hen_24 hs => ?_)
    have he_25 : en_24 (18) = .inr (4, [.ref (ad_19 3), .ref (ad_19 1), .ref (ad_19 19), .int (nI fu), .int (nI fu)]) := by rw [hen_24]; exact va_up_self _ _ _
    have he_26 : en_24 (3) = .inr (6, [.ref (ad_19 4), .ref (ad_19 7), .ref (ad_19 9)]) := by rw [hen_24]; exact (va_up_ne _ _ (by omega)).trans he3w_23
    have he_27 : en_24 (7) = .inr (5, fs7w_23) := by rw [hen_24]; exact (va_up_ne _ _ (by omega)).trans he7w_23
    have he_28 : en_24 (19) = .inr (5, fs19w_23) := by rw [hen_24]; exact (va_up_ne _ _ (by omega)).trans he19w_23
    have he_29 : en_24 (1) = .inr (0, fs1w_23) := by rw [hen_24]; exact (va_up_ne _ _ (by omega)).trans he1w_23
    obtain ⟨hW8, hF8⟩ := SchW_pu (fuel1 := fu) (sp1 := fu) hW7 hen_24 he_25
    obtain ⟨hnw_30, hStw_30, hDew_30, hGiw_30, he18w_30⟩ := id hW8
    have he3w_30 := hStw_30.2.1
    obtain ⟨fs7w_30, he7w_30⟩ := SetsAt_recv hStw_30.2.2.2.1
    obtain ⟨fs19w_30, he19w_30⟩ := SetsAt_recv hGiw_30
    obtain ⟨fs1w_30, he1w_30⟩ := DerAt_recv hDew_30
    have hokw_30 := hStw_30.2.2.2.2.2
    have h6w_30 := hokw_30.1
    have frw_30 := Fr_tr frw_23 hF8
    have hl : lv_has ls 4 [(3, .int (anI a1)), (0, .ref (ad_19 18)), (1, .int (nI f1)), (2, .int (nI fu))] := by rw [hF8.1 18 (by omega) (by unfold scA; omega)]; exact hl
    refine lv_iload_n hx hb dX4_run_39 rfl (lv_at hl 0 rfl) ?_
    refine r_iret (v := anI a1) (mc := lC hw ss (look fu 80 (fun _ => false) f1 (ss, 0, dv)).2) (ms := lS hw ss (look fu 80 (fun _ => false) f1 (ss, 0, dv)).2) hx hb hr hlk hs (by rw [hS1]; omega) (by rw [hS1]; omega) dX4_run_40 hQ ?_
    rw [hP1]
    exact ⟨rfl, ⟨S7, by show SchW G n ad_19 en_24 ss3 (max hw sp3) dv3 S7 fu (if a1 = 3002 then fu else sp3); rw [if_pos (anI_out c28)]; exact hW8⟩, frw_30⟩

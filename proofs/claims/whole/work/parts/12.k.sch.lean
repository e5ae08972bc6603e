set_option maxHeartbeats 600000 in
set_option maxRecDepth 100000 in
theorem c_X4_follow (l : Launch) (G : rG) {h : Nat} (IH : LookC l G h) {n : Nat} {ad : Nat → Nat} {en : Nat → va_E} {ss : List Row} {hw : Nat} {dv : Nat → Int32} {S : Nat → Nat → Bool} {fuel sp : Nat} (hW : SchW G n ad en ss hw dv S fuel sp) {d goal step r f : Nat} (hdh : d + (h + 1) = 81) (hsp : sp ≤ hw) (hfu : fuel ≤ 3000) (hst : 1 ≤ step) (hc : CX fuel step goal (S d) (ss, sp, dv)) (hwy : wyOK ss (S d) goal r f) : CI l G yX4_follow uX4_follow ((2 * h + 8)) ((55 * h + 292)) (lC hw ss (folW (look fuel h) (S d) goal step (16 * f + r) (ss, sp, dv)).2) (lS hw ss (folW (look fuel h) (S d) goal step (16 * f + r) (ss, sp, dv)).2) [.ref (ad 18), .int (nI step), .int (nI (16 * f + r)), .int (nI d)] (n) (n) ad en (lkPost G n hw fuel d S ad en (folW (look fuel h) (S d) goal step (16 * f + r) (ss, sp, dv))) := by
  intro sz
  refine rMet (Qc := qI G (n) (lkPost G n hw fuel d S ad en (folW (look fuel h) (S d) goal step (16 * f + r) (ss, sp, dv)))) (cc := cX4_follow) (maxL := 10) (ret := (some .int)) (by decide) rfl (Nat.le_of_ble_eq_true rfl) ?_
  intro pP eE sS mM aA bB tT cC ls A Q hc hK hsz hA hs hl hQ
  obtain ⟨hx, hb, hr, hts, hown, hlk, hnm, hml⟩ := hc
  have hl : lv_has ls 10 [(0, .ref (ad 18)), (1, .int (nI step)), (2, .int (nI (16 * f + r))), (3, .int (nI d))] := hl
  obtain ⟨hn0, hSt0, hDe0, hGi0, he180⟩ := id hW
  have he30 := hSt0.2.1
  obtain ⟨fs70, he70⟩ := SetsAt_recv hSt0.2.2.2.1
  obtain ⟨fs190, he190⟩ := SetsAt_recv hGi0
  obtain ⟨fs10, he10⟩ := DerAt_recv hDe0
  have hok0 := hSt0.2.2.2.2.2
  have h60 := hok0.1
  obtain ⟨-, hΓ, hg, hspf, hsts, hdv0⟩ := id hc
  have hΓ : ∀ y, S d y = true → 1 ≤ y ∧ y ≤ ss.length := hΓ
  have hg : 1 ≤ goal ∧ goal ≤ ss.length := hg
  have hspf : sp ≤ fuel := hspf
  have hsts : step ≤ sp := hsts
  have hdv0 : dv (4 * step + 0) = nI goal := hdv0
  have hr13 := wy_r hwy
  have hfl := wy_f hΓ hwy
  have hRQ := folW_ok (look_ok hfu h) hc hfu (lo := 0) (by omega) hwy
  have hlc := lC_eq (hw := hw) (ss := ss) (x1 := (folW (look fuel h) (S d) goal step (16 * f + r) (ss, sp, dv)).2) hRQ.1.len
  have hP2 : rPremL.getD (r) 0 ≤ 2 := by
    have : ∀ r, r < 14 → rPremL.getD r 0 ≤ 2 := by decide
    exact this r (by omega)
  have hRQl : ∀ a b c, folW (look fuel h) (S d) goal step (16 * f + r) (ss, sp, dv) = prms (look fuel h) (S d) r f goal step 0 (rPremL.getD (r) 0 + 1) (a, b, c) → ss.length ≤ a.length := fun a b c q => by have z := hRQ.1.len; rw [q] at z; exact z
  refine lv_aload_n hx hb dX4_follow_0 rfl (lv_at hl 0 rfl) ?_
  refine r_get (ci := 4) (v := .ref (ad 1)) (C := RX4) (T := TX4) (N := 5) hx hb hts inlX4 hown hK hs (18) (by omega) he180 rfl 1 (by decide) (hts _ w_fl_RX4_31) rfl dX4_follow_1 ?_
  refine lv_iload_n hx hb dX4_follow_4 rfl (lv_at hl 1 rfl) ?_
  refine lv_iload_n hx hb dX4_follow_5 rfl (lv_at hl 2 rfl) ?_
  refine r_callVv (ci := 0) (As := [.int (nI step), .int (nI (16 * f + r))]) hx hb hml hown hts hK hA hs (1) (by omega) he10 rfl rfl (c_X0_setWay l G hDe0 (sp := step) (by omega) (nI (16 * f + r))) (cwV 2 hts (tbV w_ml_RX4_58 w_im_yX0_setWay w_se_yX0_setWay w_ini_RX0 w_cd_yX0_setWay) rfl rfl rfl (by decide +kernel) ⟨(by show (3) + 1 ≤ (2 * h + 8); omega), (by show 8 + (3 + 11) + (106) ≤ (55 * h + 292); omega)⟩) rfl hl.1 rfl (Nat.le_of_ble_eq_true rfl) dX4_follow_6 ⟨by show _ ≤ lC hw ss (folW (look fuel h) (S d) goal step (16 * f + r) (ss, sp, dv)).2; omega, by show _ ≤ lS hw ss (folW (look fuel h) (S d) goal step (16 * f + r) (ss, sp, dv)).2; omega⟩ (fun ad_1 en_2 H locs hp_3 hs => ?_)
  obtain ⟨hddv1, hfdv1⟩ := hp_3
  obtain ⟨dv1, edv1⟩ : ∃ z, z = upd dv (4 * step + 1) (nI (16 * f + r)) := ⟨_, rfl⟩
  rw [← edv1] at hddv1
  rw [show max hw step = hw by omega] at hddv1
  obtain ⟨hWdv1, hFdv1⟩ := SchW_de hW hddv1 hfdv1
  obtain ⟨hnw_4, hStw_4, hDew_4, hGiw_4, he18w_4⟩ := id hWdv1
  have he3w_4 := hStw_4.2.1
  obtain ⟨fs7w_4, he7w_4⟩ := SetsAt_recv hStw_4.2.2.2.1
  obtain ⟨fs19w_4, he19w_4⟩ := SetsAt_recv hGiw_4
  obtain ⟨fs1w_4, he1w_4⟩ := DerAt_recv hDew_4
  have hokw_4 := hStw_4.2.2.2.2.2
  have h6w_4 := hokw_4.1
  have frw_4 := Fr_tr Fr_rf hFdv1
  have hl : lv_has ls 10 [(0, .ref (ad_1 18)), (1, .int (nI step)), (2, .int (nI (16 * f + r))), (3, .int (nI d))] := by rw [hFdv1.1 18 (by omega) (by unfold scA; omega)]; exact hl
  refine lv_aload_n hx hb dX4_follow_9 rfl (lv_at hl 0 rfl) ?_
  refine r_get (ci := 4) (v := .ref (ad_1 1)) (C := RX4) (T := TX4) (N := 5) hx hb hts inlX4 hown hK hs (18) (by omega) he18w_4 rfl 1 (by decide) (hts _ w_fl_RX4_31) rfl dX4_follow_10 ?_
  refine lv_iload_n hx hb dX4_follow_13 rfl (lv_at hl 1 rfl) ?_
  refine r_callViR (ci := 0) (As := [.int (nI step)]) hx hb hml hown hts hK hA hs (1) (by omega) he1w_4 rfl rfl (c_X0_goalOf l G hDew_4 (sp := step) (by omega)) (cwV 1 hts (tbV w_ml_RX4_61 w_im_yX0_goalOf w_se_yX0_goalOf w_ini_RX0 w_cd_yX0_goalOf) rfl rfl rfl (by decide +kernel) ⟨(by show (1) + 1 ≤ (2 * h + 8); omega), (by show 8 + (2 + 11) + (23) ≤ (55 * h + 292); omega)⟩) rfl hl.1 rfl (Nat.le_of_ble_eq_true rfl) dX4_follow_14 ⟨by show _ ≤ lC hw ss (folW (look fuel h) (S d) goal step (16 * f + r) (ss, sp, dv)).2; omega, by show _ ≤ lS hw ss (folW (look fuel h) (S d) goal step (16 * f + r) (ss, sp, dv)).2; omega⟩ (fun H locs hs => ?_)
  refine r_topi (y := nI goal) (by rw [edv1, upd_ne (by omega)]; exact hdv0) ?_
  refine lv_istore (lv' := [(4, .int (nI goal)), (0, .ref (ad_1 18)), (1, .int (nI step)), (2, .int (nI (16 * f + r))), (3, .int (nI d))]) hx hb dX4_follow_17 hl (by decide) rfl (fun ls hl => ?_)
  refine lv_iload_n hx hb dX4_follow_19 rfl (lv_at hl 3 rfl) ?_
  refine r_callSiR (As := [.int (nI (16 * f + r))]) hx hb hml hown hts hK hA hs (c_X0_ruleOf l G (v := 16 * f + r) (by omega)) (va_cwS 1 hts (tbS w_ml_RX4_65 w_sta_yX0_ruleOf w_ini_RX0 w_cd_yX0_ruleOf) rfl rfl rfl (by decide +kernel) ⟨(by show (0) + 1 ≤ (2 * h + 8); omega), (by show 8 + (1 + 11) + (0) ≤ (55 * h + 292); omega)⟩) rfl hl.1 rfl (Nat.le_of_ble_eq_true rfl) dX4_follow_20 ⟨by show _ ≤ lC hw ss (folW (look fuel h) (S d) goal step (16 * f + r) (ss, sp, dv)).2; omega, by show _ ≤ lS hw ss (folW (look fuel h) (S d) goal step (16 * f + r) (ss, sp, dv)).2; omega⟩ (fun H locs hs => ?_)
  refine r_topi (y := nI r) (by rw [show (16 * f + r) % 16 = r by omega]) ?_
  refine lv_istore (lv' := [(5, .int (nI r)), (4, .int (nI goal)), (0, .ref (ad_1 18)), (1, .int (nI step)), (2, .int (nI (16 * f + r))), (3, .int (nI d))]) hx hb dX4_follow_23 hl (by decide) rfl (fun ls hl => ?_)
  refine lv_iload_n hx hb dX4_follow_25 rfl (lv_at hl 4 rfl) ?_
  refine r_callSiR (As := [.int (nI (16 * f + r))]) hx hb hml hown hts hK hA hs (c_X0_takenBy l G (v := 16 * f + r) (by omega)) (va_cwS 1 hts (tbS w_ml_RX4_68 w_sta_yX0_takenBy w_ini_RX0 w_cd_yX0_takenBy) rfl rfl rfl (by decide +kernel) ⟨(by show (0) + 1 ≤ (2 * h + 8); omega), (by show 8 + (1 + 11) + (0) ≤ (55 * h + 292); omega)⟩) rfl hl.1 rfl (Nat.le_of_ble_eq_true rfl) dX4_follow_26 ⟨by show _ ≤ lC hw ss (folW (look fuel h) (S d) goal step (16 * f + r) (ss, sp, dv)).2; omega, by show _ ≤ lS hw ss (folW (look fuel h) (S d) goal step (16 * f + r) (ss, sp, dv)).2; omega⟩ (fun H locs hs => ?_)
  refine r_topi (y := nI f) (by rw [show (16 * f + r) / 16 = f by omega]) ?_
  refine lv_istore (lv' := [(6, .int (nI f)), (5, .int (nI r)), (4, .int (nI goal)), (0, .ref (ad_1 18)), (1, .int (nI step)), (2, .int (nI (16 * f + r))), (3, .int (nI d))]) hx hb dX4_follow_29 hl (by decide) rfl (fun ls hl => ?_)
  refine lv_iload hx hb dX4_follow_31 (lv_at hl 1 rfl) ?_
  refine r_callSiR (As := [.int (nI r)]) hx hb hml hown hts hK hA hs (c_X0_premisesOf l G (r := r) (by omega)) (va_cwS 1 hts (tbS w_ml_RX4_71 w_sta_yX0_premisesOf w_ini_RX0 w_cd_yX0_premisesOf) rfl rfl rfl (by decide +kernel) ⟨(by show (0) + 1 ≤ (2 * h + 8); omega), (by show 8 + (1 + 11) + (0) ≤ (55 * h + 292); omega)⟩) rfl hl.1 rfl (Nat.le_of_ble_eq_true rfl) dX4_follow_33 ⟨by show _ ≤ lC hw ss (folW (look fuel h) (S d) goal step (16 * f + r) (ss, sp, dv)).2; omega, by show _ ≤ lS hw ss (folW (look fuel h) (S d) goal step (16 * f + r) (ss, sp, dv)).2; omega⟩ (fun H locs hs => ?_)
  refine lv_istore (lv' := [(7, .int (nI (rPremL.getD (r) 0))), (6, .int (nI f)), (5, .int (nI r)), (4, .int (nI goal)), (0, .ref (ad_1 18)), (1, .int (nI step)), (2, .int (nI (16 * f + r))), (3, .int (nI d))]) hx hb dX4_follow_36 hl (by decide) rfl (fun ls hl => ?_)
  refine lv_iconst (v := 1) hx hb dX4_follow_38 (by decide) ?_
  refine lv_istore (lv' := [(8, .int (1)), (7, .int (nI (rPremL.getD (r) 0))), (6, .int (nI f)), (5, .int (nI r)), (4, .int (nI goal)), (0, .ref (ad_1 18)), (1, .int (nI step)), (2, .int (nI (16 * f + r))), (3, .int (nI d))]) hx hb dX4_follow_39 hl (by decide) rfl (fun ls hl => ?_)
  suffices LOOP41 : ∀ (fu41 : Nat) (k : Nat) (ss2 : List Row) (sp2 : Nat) (dv2 : Nat → Int32) (S2 : Nat → Nat → Bool) (ad2 : Nat → Nat) (en2 : Nat → va_E) (cc : Nat) (cs : Nat) (H : Heap) (locs : List Loc) (ls : Array Slot), (1 ≤ k ∧ k ≤ rPremL.getD (r) 0 + 1) → (SchW G n ad2 en2 ss2 (max hw sp2) dv2 S2 fuel sp2) → (folW (look fuel h) (S d) goal step (16 * f + r) (ss, sp, dv) = prms (look fuel h) (S d) r f goal step (rPremL.getD (r) 0 + 1 - k) k (ss2, sp2, dv2)) → (CX fuel step goal (S d) (ss2, sp2, dv2)) → (wyOK ss2 (S d) goal r f) → (∀ e, e ≤ d → ∀ y, S2 e y = S e y) → (Fr n scS scA ad en ad2 en2) → (cc + xC hw ss = xC (max hw sp2) ss2 ∧ cs + xS hw ss = xS (max hw sp2) ss2) → rPremL.getD (r) 0 + 2 - k < fu41 → rS G A sS.heap (n) ad2 en2 H locs → lv_has ls 10 [(0, .ref (ad2 18)), (1, .int (nI step)), (2, .int (nI (16 * f + r))), (3, .int (nI d)), (4, .int (nI goal)), (5, .int (nI r)), (6, .int (nI f)), (7, .int (nI (rPremL.getD (r) 0))), (8, .int (nI k))] → W pP l eE (rRm ((2 * h + 8)) ((55 * h + 292)) (lC hw ss (folW (look fuel h) (S d) goal step (16 * f + r) (ss, sp, dv)).2) (lS hw ss (folW (look fuel h) (S d) goal step (16 * f + r) (ss, sp, dv)).2)) sS mM aA bB tT cC H locs (cc) (cs) Q (F0 mM 41 ls []) from LOOP41 _ (1) (ss) (sp) (dv1) (S) (ad_1) (en_2) (0) (0) _ _ _ (⟨Nat.le_refl _, by omega⟩) (by rw [show max hw sp = hw by omega]; exact hWdv1) (by rw [folW, show (16 * f + r) % 16 = r by omega, show (16 * f + r) / 16 = f by omega, edv1]; rfl) (⟨hok0, hΓ, hg, hspf, hsts, by show dv1 _ = _; rw [edv1, upd_ne (by omega)]; exact hdv0⟩) (hwy) (fun _ _ _ => rfl) (frw_4) (by rw [show max hw sp = hw by omega]; exact ⟨Nat.zero_add _, Nat.zero_add _⟩) (Nat.lt_succ_self _) hs (lv_sub hl [5, 6, 7, 8, 4, 3, 2, 1, 0] rfl)
  intro fu41
  induction fu41 with
  | zero => intro k ss2 sp2 dv2 S2 ad2 en2 cc cs H locs ls ik hW2 hE hc2 hwy2 hS2 hF2 hcc hfu; exact absurd hfu (Nat.not_lt_zero _)
  | succ fu41 ih41 => ?_
  intro k ss2 sp2 dv2 S2 ad2 en2 cc cs H locs ls ik hW2 hE hc2 hwy2 hS2 hF2 hcc hfu41 hs hl
  obtain ⟨hn2, hSt2, hDe2, hGi2, he182⟩ := id hW2
  have he32 := hSt2.2.1
  obtain ⟨fs72, he72⟩ := SetsAt_recv hSt2.2.2.2.1
  obtain ⟨fs192, he192⟩ := SetsAt_recv hGi2
  obtain ⟨fs12, he12⟩ := DerAt_recv hDe2
  have hok2 := hSt2.2.2.2.2.2
  have h62 := hok2.1
  obtain ⟨-, hΓ2, hg2, hspf2, hsts2, hdv2⟩ := id hc2
  have hΓ2 : ∀ y, S d y = true → 1 ≤ y ∧ y ≤ ss2.length := hΓ2
  have hg2 : 1 ≤ goal ∧ goal ≤ ss2.length := hg2
  have hspf2 : sp2 ≤ fuel := hspf2
  have hsts2 : step ≤ sp2 := hsts2
  have hdv2 : dv2 (4 * step + 0) = nI goal := hdv2
  have hfl2 := wy_f hΓ2 hwy2
  refine lv_iload hx hb dX4_follow_41 (lv_at hl 8 rfl) ?_
  refine lv_iload hx hb dX4_follow_43 (lv_at hl 7 rfl) ?_
  refine lv_icmp_gt (tgt := 161) hx hb dX4_follow_45 (by decide) (fun c45 => ?_) (fun c45 => ?_)
  · skip
    have hkP : k = rPremL.getD (r) 0 + 1 := by have := (nI_ltI (by omega) (by omega)).mp c45; omega
    refine lv_iload_n hx hb dX4_follow_161 rfl (lv_at hl 1 rfl) ?_
    refine r_iret (v := nI step) (mc := lC hw ss (folW (look fuel h) (S d) goal step (16 * f + r) (ss, sp, dv)).2) (ms := lS hw ss (folW (look fuel h) (S d) goal step (16 * f + r) (ss, sp, dv)).2) hx hb hr hlk hs (by rw [show rPremL.getD (r) 0 + 1 - k = 0 by omega] at hE; rw [hE]; show cc ≤ lC hw ss (ss2, sp2, dv2); have q := lC_eq (hw := hw) (ss := ss) (x1 := (ss2, sp2, dv2)) (hRQl ss2 sp2 dv2 hE); have q1 : xC (max hw (ss2, sp2, dv2).2.1) (ss2, sp2, dv2).1 = xC (max hw sp2) ss2 := rfl; omega) (by rw [show rPremL.getD (r) 0 + 1 - k = 0 by omega] at hE; rw [hE]; show cs ≤ lS hw ss (ss2, sp2, dv2); have q := lC_eq (hw := hw) (ss := ss) (x1 := (ss2, sp2, dv2)) (hRQl ss2 sp2 dv2 hE); have q1 : xS (max hw (ss2, sp2, dv2).2.1) (ss2, sp2, dv2).1 = xS (max hw sp2) ss2 := rfl; omega) dX4_follow_162 hQ ?_
    exact lkPost.of (a := step) (by rw [hE, show rPremL.getD (r) 0 + 1 - k = 0 by omega]; rfl) (anI_nI (by omega)).symm hW2 hS2 hF2
  · skip
    have hkP : k ≤ rPremL.getD (r) 0 := Nat.le_of_not_lt (fun q => c45 ((nI_ltI (by omega) (by omega)).mpr q))
    obtain ⟨m, hm⟩ : ∃ m, rPremL.getD (r) 0 + 1 - k = m + 1 := ⟨rPremL.getD (r) 0 - k, by omega⟩
    rw [hm] at hE
    obtain ⟨ob, ss1, hB⟩ : ∃ o z, brg ss2 r k f = (o, z) := ⟨_, _, rfl⟩
    obtain ⟨⟨yb, eb⟩, okb, vb⟩ := brg_ok hok2 hΓ2 hwy2 hB
    have hlb : ss2.length ≤ ss1.length := by rw [eb]; simp
    have hpr := prm_ok (k := k) (look_ok hfu h) (x := (ss2, sp2, dv2)) hok2 hΓ2 hg2 hspf2 hwy2
    have hmid := prm_mid (look_ok hfu h) (x := (ss2, sp2, dv2)) hok2 hΓ2 hg2 hspf2 hwy2 hB
    have hlast := prms_sx1 (look_ok hfu h) (m := m) hc2 hwy2 ik.1
    rw [← hE] at hlast
    have hbx := bC_x (max hw sp2) (ss := ss2) (ss1 := (brg ss2 r k f).2) (by rw [hB]; exact hlb)
    have hbx2 : xC (max hw sp2) (brg ss2 r k f).2 = xC (max hw sp2) ss1 ∧ xS (max hw sp2) (brg ss2 r k f).2 = xS (max hw sp2) ss1 := by rw [hB]; exact ⟨rfl, rfl⟩
    have hm1 : xC (max hw sp2) ss1 ≤ _ ∧ xS (max hw sp2) ss1 ≤ _ := xC_mono (hw := hw) hmid
    have hm2 := xC_mono (hw := hw) hlast
    refine lv_aload_n hx hb dX4_follow_48 rfl (lv_at hl 0 rfl) ?_
    refine r_get (ci := 4) (v := .ref (ad2 19)) (C := RX4) (T := TX4) (N := 5) hx hb hts inlX4 hown hK hs (18) (by omega) he182 rfl 2 (by decide) (hts _ w_fl_RX4_14) rfl dX4_follow_49 ?_
    refine lv_iload_n hx hb dX4_follow_52 rfl (lv_at hl 3 rfl) ?_
    refine lv_iload_n hx hb dX4_follow_53 rfl (lv_at hl 3 rfl) ?_
    refine lv_iconst (v := 1) hx hb dX4_follow_54 (by decide) ?_
    refine lv_iadd hx hb dX4_follow_55 ?_
    refine r_topi (y := nI (d + 1)) (nI_add _ _) ?_
    refine r_callVv (ci := 5) (As := [.int (nI d), .int (nI (d + 1))]) hx hb hml hown hts hK hA hs (19) (by omega) he192 rfl rfl (c_X5_copy l G hGi2 (fr1 := d) (to1 := (d + 1)) (by omega) (by omega)) (cwV 2 hts (tbV w_ml_RX4_74 w_im_yX5_copy w_se_yX5_copy w_ini_RX5 w_cd_yX5_copy) rfl rfl rfl (by decide +kernel) ⟨(by show (1) + 1 ≤ (2 * h + 8); omega), (by show 8 + (3 + 11) + (60) ≤ (55 * h + 292); omega)⟩) rfl hl.1 rfl (Nat.le_of_ble_eq_true rfl) dX4_follow_56 ⟨by show _ ≤ lC hw ss (folW (look fuel h) (S d) goal step (16 * f + r) (ss, sp, dv)).2; omega, by show _ ≤ lS hw ss (folW (look fuel h) (S d) goal step (16 * f + r) (ss, sp, dv)).2; omega⟩ (fun ad_5 en_6 H locs hp_7 hs => ?_)
    obtain ⟨hsS3, hfS3⟩ := hp_7
    obtain ⟨S3, eS3⟩ : ∃ z, z = sCpy S2 d (d + 1) := ⟨_, rfl⟩
    rw [← eS3] at hsS3
    obtain ⟨hWS3, hFS3⟩ := SchW_gi hW2 hsS3 hfS3
    obtain ⟨hnw_8, hStw_8, hDew_8, hGiw_8, he18w_8⟩ := id hWS3
    have he3w_8 := hStw_8.2.1
    obtain ⟨fs7w_8, he7w_8⟩ := SetsAt_recv hStw_8.2.2.2.1
    obtain ⟨fs19w_8, he19w_8⟩ := SetsAt_recv hGiw_8
    obtain ⟨fs1w_8, he1w_8⟩ := DerAt_recv hDew_8
    have hokw_8 := hStw_8.2.2.2.2.2
    have h6w_8 := hokw_8.1
    have frw_8 := Fr_tr hF2 hFS3
    have hl : lv_has ls 10 [(0, .ref (ad_5 18)), (1, .int (nI step)), (2, .int (nI (16 * f + r))), (3, .int (nI d)), (4, .int (nI goal)), (5, .int (nI r)), (6, .int (nI f)), (7, .int (nI (rPremL.getD (r) 0))), (8, .int (nI k))] := by rw [hFS3.1 18 (by omega) (by unfold scA; omega)]; exact hl
    refine lv_aload_n hx hb dX4_follow_59 rfl (lv_at hl 0 rfl) ?_
    refine r_get (ci := 4) (v := .ref (ad_5 19)) (C := RX4) (T := TX4) (N := 5) hx hb hts inlX4 hown hK hs (18) (by omega) he18w_8 rfl 2 (by decide) (hts _ w_fl_RX4_14) rfl dX4_follow_60 ?_
    refine lv_iload_n hx hb dX4_follow_63 rfl (lv_at hl 3 rfl) ?_
    refine lv_iconst (v := 1) hx hb dX4_follow_64 (by decide) ?_
    refine lv_iadd hx hb dX4_follow_65 ?_
    refine r_topi (y := nI (d + 1)) (nI_add _ _) ?_
    refine lv_iload hx hb dX4_follow_66 (lv_at hl 6 rfl) ?_
    refine r_callVv (ci := 5) (As := [.int (nI (d + 1)), .int (nI f)]) hx hb hml hown hts hK hA hs (19) (by omega) he19w_8 rfl rfl (c_X5_remove l G hGiw_8 (row := (d + 1)) (by omega) (nI f)) (cwV 2 hts (tbV w_ml_RX4_77 w_im_yX5_remove w_se_yX5_remove w_ini_RX5 w_cd_yX5_remove) rfl rfl rfl (by decide +kernel) ⟨(by show (1) + 1 ≤ (2 * h + 8); omega), (by show 8 + (3 + 11) + (22) ≤ (55 * h + 292); omega)⟩) rfl hl.1 rfl (Nat.le_of_ble_eq_true rfl) dX4_follow_68 ⟨by show _ ≤ lC hw ss (folW (look fuel h) (S d) goal step (16 * f + r) (ss, sp, dv)).2; omega, by show _ ≤ lS hw ss (folW (look fuel h) (S d) goal step (16 * f + r) (ss, sp, dv)).2; omega⟩ (fun ad_9 en_10 H locs hp_11 hs => ?_)
    obtain ⟨hsS4, hfS4⟩ := hp_11
    obtain ⟨S4, eS4⟩ : ∃ z, z = sDelI S3 (d + 1) (nI f) := ⟨_, rfl⟩
    rw [← eS4] at hsS4
    obtain ⟨hWS4, hFS4⟩ := SchW_gi hWS3 hsS4 hfS4
    obtain ⟨hnw_12, hStw_12, hDew_12, hGiw_12, he18w_12⟩ := id hWS4
    have he3w_12 := hStw_12.2.1
    obtain ⟨fs7w_12, he7w_12⟩ := SetsAt_recv hStw_12.2.2.2.1
    obtain ⟨fs19w_12, he19w_12⟩ := SetsAt_recv hGiw_12
    obtain ⟨fs1w_12, he1w_12⟩ := DerAt_recv hDew_12
    have hokw_12 := hStw_12.2.2.2.2.2
    have h6w_12 := hokw_12.1
    have frw_12 := Fr_tr frw_8 hFS4
    have hl : lv_has ls 10 [(0, .ref (ad_9 18)), (1, .int (nI step)), (2, .int (nI (16 * f + r))), (3, .int (nI d)), (4, .int (nI goal)), (5, .int (nI r)), (6, .int (nI f)), (7, .int (nI (rPremL.getD (r) 0))), (8, .int (nI k))] := by rw [hFS4.1 18 (by omega) (by unfold scA; omega)]; exact hl
    refine lv_aload_n hx hb dX4_follow_71 rfl (lv_at hl 0 rfl) ?_
    refine lv_iload hx hb dX4_follow_72 (lv_at hl 5 rfl) ?_
    refine lv_iload hx hb dX4_follow_74 (lv_at hl 8 rfl) ?_
    refine lv_iload hx hb dX4_follow_76 (lv_at hl 6 rfl) ?_
    refine lv_iload_n hx hb dX4_follow_78 rfl (lv_at hl 3 rfl) ?_
    refine lv_iconst (v := 1) hx hb dX4_follow_79 (by decide) ?_
    refine lv_iadd hx hb dX4_follow_80 ?_
    refine r_topi (y := nI (d + 1)) (nI_add _ _) ?_
    refine r_callVi (ci := 4) (As := [.int (nI r), .int (nI k), .int (nI f), .int (nI (d + 1))]) hx hb hml hown hts hK hA hs (18) (by omega) he18w_12 rfl rfl (c_X4_bringNew l G hWS4 (r := r) (k := k) (f := f) (d1 := d + 1) (by omega) (by omega) (by omega) hΓ2 hwy2) (cwV 4 hts (tbV w_ml_RX4_80 w_im_yX4_bringNew w_se_yX4_bringNew w_ini_RX4 w_cd_yX4_bringNew) rfl rfl rfl (by decide +kernel) ⟨(by show (4) + 1 ≤ (2 * h + 8); omega), (by show 8 + (12 + 11) + (134) ≤ (55 * h + 292); omega)⟩) rfl hl.1 rfl (Nat.le_of_ble_eq_true rfl) dX4_follow_81 ⟨by show _ ≤ lC hw ss (folW (look fuel h) (S d) goal step (16 * f + r) (ss, sp, dv)).2; omega, by show _ ≤ lS hw ss (folW (look fuel h) (S d) goal step (16 * f + r) (ss, sp, dv)).2; omega⟩ (fun r_16 ad_13 en_14 H locs hp_15 hs => ?_)
    obtain ⟨hrz5, ⟨S5, hW5, hS5a, hS5b⟩, hF5⟩ := hp_15
    rw [hB] at hrz5 hW5 hS5b
    have hW5 : SchW G n ad_13 en_14 ss1 (max hw sp2) dv2 S5 fuel sp2 := hW5
    rw [show r_16 = b2i ob.isSome from hrz5]
    obtain ⟨hnw_17, hStw_17, hDew_17, hGiw_17, he18w_17⟩ := id hW5
    have he3w_17 := hStw_17.2.1
    obtain ⟨fs7w_17, he7w_17⟩ := SetsAt_recv hStw_17.2.2.2.1
    obtain ⟨fs19w_17, he19w_17⟩ := SetsAt_recv hGiw_17
    obtain ⟨fs1w_17, he1w_17⟩ := DerAt_recv hDew_17
    have hokw_17 := hStw_17.2.2.2.2.2
    have h6w_17 := hokw_17.1
    have frw_17 := Fr_tr frw_12 hF5
    have hl : lv_has ls 10 [(0, .ref (ad_13 18)), (1, .int (nI step)), (2, .int (nI (16 * f + r))), (3, .int (nI d)), (4, .int (nI goal)), (5, .int (nI r)), (6, .int (nI f)), (7, .int (nI (rPremL.getD (r) 0))), (8, .int (nI k))] := by rw [hF5.1 18 (by omega) (by unfold scA; omega)]; exact hl
    have hS5e : ∀ e, e ≤ d → ∀ y, S5 e y = S e y := fun e he y => (hS5a e (by omega) y).trans (by rw [eS4, sDelI_ne (by omega), eS3, sCpy_ne (by omega)]; exact hS2 e he y)
    refine lv_if_ne (tgt := 90) hx hb dX4_follow_84 (by decide) (fun c84 => ?_) (fun c84 => ?_)
    · skip
      obtain ⟨qb, hqb⟩ : ∃ q, ob = some q := Option.isSome_iff_exists.mp (b2i_1 c84)
      obtain ⟨hq1, hq2, hq3⟩ := vb qb hqb
      have hwyb : wyOK ss1 (S d) goal r f := by rw [eb]; exact wyOK_app yb hok2 hfl2 hg2.2 hwy2
      have hΓb1 : ∀ y, S d y = true → 1 ≤ y ∧ y ≤ ss1.length := fun y q => by have := hΓ2 y q; omega
      have hgb := pG_b (k := k) okb hΓb1 (by omega) hwyb
      have h6b := okb.1
      have hwl : (if r = 4 then goal else f) ≤ ss1.length := by split <;> omega
      have hwb : (gLf r k = true → sL ss1 (if r = 4 then goal else f) ≤ 600) ∧ (gRf r k = true → sR ss1 (if r = 4 then goal else f) ≤ 600) := par_b okb hwyb
      refine lv_aload_n hx hb dX4_follow_90 rfl (lv_at hl 0 rfl) ?_
      refine lv_iload hx hb dX4_follow_91 (lv_at hl 5 rfl) ?_
      refine lv_iload hx hb dX4_follow_93 (lv_at hl 8 rfl) ?_
      refine lv_iload hx hb dX4_follow_95 (lv_at hl 5 rfl) ?_
      refine lv_iconst (v := 4) hx hb dX4_follow_97 (by decide) ?_
      refine lv_icmp_ne (tgt := 106) hx hb dX4_follow_98 (by decide) (fun c98 => ?_) (fun c98 => ?_)
      · skip
        refine lv_iload hx hb dX4_follow_106 (lv_at hl 6 rfl) ?_
        refine r_topi (y := nI (if r = 4 then goal else f)) (by rw [if_neg (fun q => c98 (by rw [q]; rfl))]) ?_
        refine lv_iload_n hx hb dX4_follow_108 rfl (lv_at hl 3 rfl) ?_
        refine lv_iconst (v := 1) hx hb dX4_follow_109 (by decide) ?_
        refine lv_iadd hx hb dX4_follow_110 ?_
        refine r_topi (y := nI (d + 1)) (nI_add _ _) ?_
        refine r_callVv (ci := 4) (As := [.int (nI r), .int (nI k), .int (nI (if r = 4 then goal else f)), .int (nI (d + 1))]) hx hb hml hown hts hK hA hs (18) (by omega) he18w_17 rfl rfl (c_X4_bringParts l G hW5 (r := r) (k := k) (w := if r = 4 then goal else f) (d1 := d + 1) (by omega) (by omega) (by omega) hwl hwb) (cwV 4 hts (tbV w_ml_RX4_84 w_im_yX4_bringParts w_se_yX4_bringParts w_ini_RX4 w_cd_yX4_bringParts) rfl rfl rfl (by decide +kernel) ⟨(by show (2) + 1 ≤ (2 * h + 8); omega), (by show 8 + (7 + 11) + (44) ≤ (55 * h + 292); omega)⟩) rfl hl.1 rfl (Nat.le_of_ble_eq_true rfl) dX4_follow_111 ⟨by show _ ≤ lC hw ss (folW (look fuel h) (S d) goal step (16 * f + r) (ss, sp, dv)).2; omega, by show _ ≤ lS hw ss (folW (look fuel h) (S d) goal step (16 * f + r) (ss, sp, dv)).2; omega⟩ (fun ad_18 en_19 H locs hp_20 hs => ?_)
        obtain ⟨⟨S6, hW6, hS6a, hS6b⟩, hF6⟩ := hp_20
        obtain ⟨hnw_21, hStw_21, hDew_21, hGiw_21, he18w_21⟩ := id hW6
        have he3w_21 := hStw_21.2.1
        obtain ⟨fs7w_21, he7w_21⟩ := SetsAt_recv hStw_21.2.2.2.1
        obtain ⟨fs19w_21, he19w_21⟩ := SetsAt_recv hGiw_21
        obtain ⟨fs1w_21, he1w_21⟩ := DerAt_recv hDew_21
        have hokw_21 := hStw_21.2.2.2.2.2
        have h6w_21 := hokw_21.1
        have frw_21 := Fr_tr frw_17 hF6
        have hl : lv_has ls 10 [(0, .ref (ad_18 18)), (1, .int (nI step)), (2, .int (nI (16 * f + r))), (3, .int (nI d)), (4, .int (nI goal)), (5, .int (nI r)), (6, .int (nI f)), (7, .int (nI (rPremL.getD (r) 0))), (8, .int (nI k))] := by rw [hF6.1 18 (by omega) (by unfold scA; omega)]; exact hl
        have hΓb : ∀ y, S6 (d + 1) y = true → 1 ≤ y ∧ y ≤ ss1.length := by rw [hS6b, hS5b qb hqb, eS4, gdel_eq _ _ (by omega), eS3, sCpy_to, show S2 d = S d from funext (hS2 d (Nat.le_refl _))]; exact gPar_b okb hΓb1 hwyb hq1 hq2
        have hΓ6 : S6 (d + 1) = gPar ss1 r k (if r = 4 then goal else f) (gAdd (gAdd (gDel (S d) f) qb.1) qb.2) := by rw [hS6b, hS5b qb hqb, eS4, gdel_eq _ _ (by omega), eS3, sCpy_to, show S2 d = S d from funext (hS2 d (Nat.le_refl _))]
        obtain ⟨a1, ss3, sp3, dv3, hP1⟩ : ∃ a b c e, look fuel h (S6 (d + 1)) (pG ss1 r k f goal) (ss1, sp2, dv2) = (a, (b, c, e)) := ⟨_, _, _, _, rfl⟩
        have hprm : prm (look fuel h) (S d) r k f goal (ss2, sp2, dv2) = (a1, (ss3, sp3, dv3)) := by rw [prm_some (x := (ss2, sp2, dv2)) (hB.trans (by rw [hqb])), ← hΓ6]; exact hP1
        rw [hprm] at hpr hmid hlast hm1 hm2
        have hmx : sp2 ≤ sp3 := hmid.2.2.1
        have hfx : sp3 ≤ fuel := hmid.2.2.2
        have hmx2 : max (max hw sp2) sp3 = max hw sp3 := by omega
        have hlen3 : ss1.length ≤ ss3.length := hmid.len
        have hlc1 : lC (max hw sp2) ss1 (look fuel h (S6 (d + 1)) (pG ss1 r k f goal) (ss1, sp2, dv2)).2 + xC (max hw sp2) ss1 = xC (max hw sp3) ss3 ∧ lS (max hw sp2) ss1 (look fuel h (S6 (d + 1)) (pG ss1 r k f goal) (ss1, sp2, dv2)).2 + xS (max hw sp2) ss1 = xS (max hw sp3) ss3 := by
          have q := lC_eq (hw := max hw sp2) (ss := ss1) (x1 := (ss3, sp3, dv3)) hlen3
          rw [show max (max hw sp2) (ss3, sp3, dv3).2.1 = max hw sp3 from hmx2] at q
          rw [hP1]; exact q
        have hm3 : xC (max hw sp3) ss3 ≤ xC (max hw (folW (look fuel h) (S d) goal step (16 * f + r) (ss, sp, dv)).2.2.1) (folW (look fuel h) (S d) goal step (16 * f + r) (ss, sp, dv)).2.1 ∧ xS (max hw sp3) ss3 ≤ xS (max hw (folW (look fuel h) (S d) goal step (16 * f + r) (ss, sp, dv)).2.2.1) (folW (look fuel h) (S d) goal step (16 * f + r) (ss, sp, dv)).2.1 := hm2
        have ha2 : a1 ≤ 3002 := by
          have q := look_ok hfu h (S6 (d + 1)) (pG ss1 r k f goal) (ss1, sp2, dv2) okb hΓb hgb hspf2
          rw [hP1] at q
          exact anI_le hfu q
        refine lv_aload_n hx hb dX4_follow_114 rfl (lv_at hl 0 rfl) ?_
        refine lv_aload_n hx hb dX4_follow_115 rfl (lv_at hl 0 rfl) ?_
        refine lv_iload hx hb dX4_follow_116 (lv_at hl 5 rfl) ?_
        refine lv_iload hx hb dX4_follow_118 (lv_at hl 8 rfl) ?_
        refine lv_iload hx hb dX4_follow_120 (lv_at hl 6 rfl) ?_
        refine lv_iload hx hb dX4_follow_122 (lv_at hl 4 rfl) ?_
        refine r_callViR (ci := 4) (As := [.int (nI r), .int (nI k), .int (nI f), .int (nI goal)]) hx hb hml hown hts hK hA hs (18) (by omega) he18w_21 rfl rfl (c_X4_goalOfPremise l G hW6 (r := r) (k := k) (f := f) (goal := goal) (by omega) (by omega) (by omega) (by omega)) (cwV 4 hts (tbV w_ml_RX4_88 w_im_yX4_goalOfPremise w_se_yX4_goalOfPremise w_ini_RX4 w_cd_yX4_goalOfPremise) rfl rfl rfl (by decide +kernel) ⟨(by show (2) + 1 ≤ (2 * h + 8); omega), (by show 8 + (5 + 11) + (44) ≤ (55 * h + 292); omega)⟩) rfl hl.1 rfl (Nat.le_of_ble_eq_true rfl) dX4_follow_124 ⟨by show _ ≤ lC hw ss (folW (look fuel h) (S d) goal step (16 * f + r) (ss, sp, dv)).2; omega, by show _ ≤ lS hw ss (folW (look fuel h) (S d) goal step (16 * f + r) (ss, sp, dv)).2; omega⟩ (fun H locs hs => ?_)
        refine lv_iload_n hx hb dX4_follow_127 rfl (lv_at hl 3 rfl) ?_
        refine lv_iconst (v := 1) hx hb dX4_follow_128 (by decide) ?_
        refine lv_iadd hx hb dX4_follow_129 ?_
        refine r_topi (y := nI (d + 1)) (nI_add _ _) ?_
        refine r_callVi (ci := 4) (As := [.int (nI (pG ss1 r k f goal)), .int (nI (d + 1))]) hx hb hml hown hts hK hA hs (18) (by omega) he18w_21 rfl rfl (IH hW6 (d := d + 1) (goal := pG ss1 r k f goal) (by omega) (by omega) ⟨hspf2, hfu⟩ hgb hΓb) (cwV 2 hts (tbV w_ml_RX4_38 w_im_yX4_look w_se_yX4_look w_ini_RX4 w_cd_yX4_look) rfl rfl rfl (by decide +kernel) ⟨(by show ((2 * h + 7)) + 1 ≤ (2 * h + 8); omega), (by show 8 + (7 + 11) + ((55 * h + 266)) ≤ (55 * h + 292); omega)⟩) rfl hl.1 rfl (Nat.le_of_ble_eq_true rfl) dX4_follow_130 ⟨by show _ ≤ lC hw ss (folW (look fuel h) (S d) goal step (16 * f + r) (ss, sp, dv)).2; omega, by show _ ≤ lS hw ss (folW (look fuel h) (S d) goal step (16 * f + r) (ss, sp, dv)).2; omega⟩ (fun r_25 ad_22 en_23 H locs hp_24 hs => ?_)
        obtain ⟨hrz7, ⟨S7, hW7, hS7⟩, hF7⟩ := hp_24
        rw [hP1] at hrz7 hW7
        have hW7 : SchW G n ad_22 en_23 ss3 (max hw sp3) dv3 S7 fuel sp3 := by rw [← hmx2]; exact hW7
        rw [show r_25 = anI a1 from hrz7]
        have hS7e : ∀ e, e ≤ d → ∀ y, S7 e y = S e y := fun e he y => (hS7 e (by omega) y).trans ((hS6a e (by omega) y).trans ((hS5e) e he y))
        obtain ⟨hnw_26, hStw_26, hDew_26, hGiw_26, he18w_26⟩ := id hW7
        have he3w_26 := hStw_26.2.1
        obtain ⟨fs7w_26, he7w_26⟩ := SetsAt_recv hStw_26.2.2.2.1
        obtain ⟨fs19w_26, he19w_26⟩ := SetsAt_recv hGiw_26
        obtain ⟨fs1w_26, he1w_26⟩ := DerAt_recv hDew_26
        have hokw_26 := hStw_26.2.2.2.2.2
        have h6w_26 := hokw_26.1
        have frw_26 := Fr_tr frw_21 hF7
        have hl : lv_has ls 10 [(0, .ref (ad_22 18)), (1, .int (nI step)), (2, .int (nI (16 * f + r))), (3, .int (nI d)), (4, .int (nI goal)), (5, .int (nI r)), (6, .int (nI f)), (7, .int (nI (rPremL.getD (r) 0))), (8, .int (nI k))] := by rw [hF7.1 18 (by omega) (by unfold scA; omega)]; exact hl
        refine lv_istore (lv' := [(9, .int (anI a1)), (0, .ref (ad_22 18)), (1, .int (nI step)), (2, .int (nI (16 * f + r))), (3, .int (nI d)), (4, .int (nI goal)), (5, .int (nI r)), (6, .int (nI f)), (7, .int (nI (rPremL.getD (r) 0))), (8, .int (nI k))]) hx hb dX4_follow_133 hl (by decide) rfl (fun ls hl => ?_)
        refine lv_iload hx hb dX4_follow_135 (lv_at hl 0 rfl) ?_
        refine lv_if_ge (tgt := 143) hx hb dX4_follow_137 (by decide) (fun c137 => ?_) (fun c137 => ?_)
        · skip
          have hgood := anI_good c137 ha2
          refine lv_aload_n hx hb dX4_follow_143 rfl (lv_at hl 1 rfl) ?_
          refine r_get (ci := 4) (v := .ref (ad_22 1)) (C := RX4) (T := TX4) (N := 5) hx hb hts inlX4 hown hK hs (18) (by omega) he18w_26 rfl 1 (by decide) (hts _ w_fl_RX4_31) rfl dX4_follow_144 ?_
          refine lv_iload_n hx hb dX4_follow_147 rfl (lv_at hl 2 rfl) ?_
          refine lv_iload hx hb dX4_follow_148 (lv_at hl 9 rfl) ?_
          refine lv_iload hx hb dX4_follow_150 (lv_at hl 0 rfl) ?_
          refine r_topi (y := nI a1) (anI_nI hgood) ?_
          refine r_callVv (ci := 0) (As := [.int (nI step), .int (nI k), .int (nI a1)]) hx hb hml hown hts hK hA hs (1) (by omega) he1w_26 rfl rfl (c_X0_setPremise l G hDew_26 (sp := step) (k := k) (by omega) (by omega) (nI a1)) (cwV 3 hts (tbV w_ml_RX4_92 w_im_yX0_setPremise w_se_yX0_setPremise w_ini_RX0 w_cd_yX0_setPremise) rfl rfl rfl (by decide +kernel) ⟨(by show (3) + 1 ≤ (2 * h + 8); omega), (by show 8 + (4 + 11) + (106) ≤ (55 * h + 292); omega)⟩) rfl hl.1 rfl (Nat.le_of_ble_eq_true rfl) dX4_follow_152 ⟨by show _ ≤ lC hw ss (folW (look fuel h) (S d) goal step (16 * f + r) (ss, sp, dv)).2; omega, by show _ ≤ lS hw ss (folW (look fuel h) (S d) goal step (16 * f + r) (ss, sp, dv)).2; omega⟩ (fun ad_27 en_28 H locs hp_29 hs => ?_)
          obtain ⟨hddv4, hfdv4⟩ := hp_29
          obtain ⟨dv4, edv4⟩ : ∃ z, z = upd dv3 (4 * step + (1 + k)) (nI a1) := ⟨_, rfl⟩
          rw [← edv4] at hddv4
          rw [show max (max hw sp3) step = (max hw sp3) by omega] at hddv4
          obtain ⟨hWdv4, hFdv4⟩ := SchW_de hW7 hddv4 hfdv4
          obtain ⟨hnw_30, hStw_30, hDew_30, hGiw_30, he18w_30⟩ := id hWdv4
          have he3w_30 := hStw_30.2.1
          obtain ⟨fs7w_30, he7w_30⟩ := SetsAt_recv hStw_30.2.2.2.1
          obtain ⟨fs19w_30, he19w_30⟩ := SetsAt_recv hGiw_30
          obtain ⟨fs1w_30, he1w_30⟩ := DerAt_recv hDew_30
          have hokw_30 := hStw_30.2.2.2.2.2
          have h6w_30 := hokw_30.1
          have frw_30 := Fr_tr frw_26 hFdv4
          have hl : lv_has ls 10 [(9, .int (anI a1)), (0, .ref (ad_27 18)), (1, .int (nI step)), (2, .int (nI (16 * f + r))), (3, .int (nI d)), (4, .int (nI goal)), (5, .int (nI r)), (6, .int (nI f)), (7, .int (nI (rPremL.getD (r) 0))), (8, .int (nI k))] := by rw [hFdv4.1 18 (by omega) (by unfold scA; omega)]; exact hl
          have hx4 : SxE fuel (ss2, sp2, dv2) (ss3, sp3, dv4) := ⟨hpr.1.1, hpr.1.2.1, hpr.1.2.2.1, hpr.1.2.2.2⟩
          refine lv_iinc (v := nI (k + 1)) (lv' := [(8, .int (nI (k + 1))), (9, .int (anI a1)), (0, .ref (ad_27 18)), (1, .int (nI step)), (2, .int (nI (16 * f + r))), (3, .int (nI d)), (4, .int (nI goal)), (5, .int (nI r)), (6, .int (nI f)), (7, .int (nI (rPremL.getD (r) 0)))]) hx hb dX4_follow_155 hl (k := 9) rfl (nI_add k 1) (by decide) rfl (fun ls hl => ?_)
          refine lv_goto (tgt := 41) hx hb dX4_follow_158 (by decide) ?_
          exact ih41 (k + 1) (ss3) (sp3) (dv4) (S7) (ad_27) (en_28) (cc + bC ss2 (brg ss2 r k f).2 + lC (max hw sp2) ss1 (look fuel h (S6 (d + 1)) (pG ss1 r k f goal) (ss1, sp2, dv2)).2) (cs + bS ss2 (brg ss2 r k f).2 + lS (max hw sp2) ss1 (look fuel h (S6 (d + 1)) (pG ss1 r k f goal) (ss1, sp2, dv2)).2) _ _ _ (by omega) (hWdv4) (by rw [hE, prms_good hprm hgood, edv4, show rPremL.getD (r) 0 + 1 - (k + 1) = m by omega]; rfl) (hc2.next hx4 (by show dv4 _ = dv2 _; rw [edv4, upd_ne (by omega)]; exact hpr.2.1 _ (by show 4 * step + 0 < 4 * sp2 + 4; omega))) (by obtain ⟨⟨y9, e9⟩, -⟩ := id hpr.1; rw [show ss3 = ss2 ++ y9 from e9]; exact wyOK_app y9 hok2 hfl2 hg2.2 hwy2) (hS7e) (frw_30) (by omega) (by omega) hs (lv_sub hl [2, 3, 4, 5, 6, 7, 8, 9, 0] rfl)
        · skip
          have hbad := anI_bad c137
          refine lv_iload hx hb dX4_follow_140 (lv_at hl 0 rfl) ?_
          refine r_iret (v := anI a1) (mc := lC hw ss (folW (look fuel h) (S d) goal step (16 * f + r) (ss, sp, dv)).2) (ms := lS hw ss (folW (look fuel h) (S d) goal step (16 * f + r) (ss, sp, dv)).2) hx hb hr hlk hs (by omega) (by omega) dX4_follow_142 hQ ?_
          exact lkPost.of (hE.trans (prms_bad hprm hbad)) rfl hW7 hS7e frw_26
      · skip
        refine lv_iload hx hb dX4_follow_101 (lv_at hl 4 rfl) ?_
        refine lv_goto (tgt := 108) hx hb dX4_follow_103 (by decide) ?_
        refine r_topi (y := nI (if r = 4 then goal else f)) (by rw [if_pos (sw_nI c98 rfl (by omega) (by decide))]) ?_
        refine lv_iload_n hx hb dX4_follow_108 rfl (lv_at hl 3 rfl) ?_
        refine lv_iconst (v := 1) hx hb dX4_follow_109 (by decide) ?_
        refine lv_iadd hx hb dX4_follow_110 ?_
        refine r_topi (y := nI (d + 1)) (nI_add _ _) ?_
        refine r_callVv (ci := 4) (As := [.int (nI r), .int (nI k), .int (nI (if r = 4 then goal else f)), .int (nI (d + 1))]) hx hb hml hown hts hK hA hs (18) (by omega) he18w_17 rfl rfl (c_X4_bringParts l G hW5 (r := r) (k := k) (w := if r = 4 then goal else f) (d1 := d + 1) (by omega) (by omega) (by omega) hwl hwb) (cwV 4 hts (tbV w_ml_RX4_84 w_im_yX4_bringParts w_se_yX4_bringParts w_ini_RX4 w_cd_yX4_bringParts) rfl rfl rfl (by decide +kernel) ⟨(by show (2) + 1 ≤ (2 * h + 8); omega), (by show 8 + (7 + 11) + (44) ≤ (55 * h + 292); omega)⟩) rfl hl.1 rfl (Nat.le_of_ble_eq_true rfl) dX4_follow_111 ⟨by show _ ≤ lC hw ss (folW (look fuel h) (S d) goal step (16 * f + r) (ss, sp, dv)).2; omega, by show _ ≤ lS hw ss (folW (look fuel h) (S d) goal step (16 * f + r) (ss, sp, dv)).2; omega⟩ (fun ad_31 en_32 H locs hp_33 hs => ?_)
        obtain ⟨⟨S6, hW6, hS6a, hS6b⟩, hF6⟩ := hp_33
        obtain ⟨hnw_34, hStw_34, hDew_34, hGiw_34, he18w_34⟩ := id hW6
        have he3w_34 := hStw_34.2.1
        obtain ⟨fs7w_34, he7w_34⟩ := SetsAt_recv hStw_34.2.2.2.1
        obtain ⟨fs19w_34, he19w_34⟩ := SetsAt_recv hGiw_34
        obtain ⟨fs1w_34, he1w_34⟩ := DerAt_recv hDew_34
        have hokw_34 := hStw_34.2.2.2.2.2
        have h6w_34 := hokw_34.1
        have frw_34 := Fr_tr frw_17 hF6
        have hl : lv_has ls 10 [(0, .ref (ad_31 18)), (1, .int (nI step)), (2, .int (nI (16 * f + r))), (3, .int (nI d)), (4, .int (nI goal)), (5, .int (nI r)), (6, .int (nI f)), (7, .int (nI (rPremL.getD (r) 0))), (8, .int (nI k))] := by rw [hF6.1 18 (by omega) (by unfold scA; omega)]; exact hl
        have hΓb : ∀ y, S6 (d + 1) y = true → 1 ≤ y ∧ y ≤ ss1.length := by rw [hS6b, hS5b qb hqb, eS4, gdel_eq _ _ (by omega), eS3, sCpy_to, show S2 d = S d from funext (hS2 d (Nat.le_refl _))]; exact gPar_b okb hΓb1 hwyb hq1 hq2
        have hΓ6 : S6 (d + 1) = gPar ss1 r k (if r = 4 then goal else f) (gAdd (gAdd (gDel (S d) f) qb.1) qb.2) := by rw [hS6b, hS5b qb hqb, eS4, gdel_eq _ _ (by omega), eS3, sCpy_to, show S2 d = S d from funext (hS2 d (Nat.le_refl _))]
        obtain ⟨a1, ss3, sp3, dv3, hP1⟩ : ∃ a b c e, look fuel h (S6 (d + 1)) (pG ss1 r k f goal) (ss1, sp2, dv2) = (a, (b, c, e)) := ⟨_, _, _, _, rfl⟩
        have hprm : prm (look fuel h) (S d) r k f goal (ss2, sp2, dv2) = (a1, (ss3, sp3, dv3)) := by rw [prm_some (x := (ss2, sp2, dv2)) (hB.trans (by rw [hqb])), ← hΓ6]; exact hP1
        rw [hprm] at hpr hmid hlast hm1 hm2
        have hmx : sp2 ≤ sp3 := hmid.2.2.1
        have hfx : sp3 ≤ fuel := hmid.2.2.2
        have hmx2 : max (max hw sp2) sp3 = max hw sp3 := by omega
        have hlen3 : ss1.length ≤ ss3.length := hmid.len
        have hlc1 : lC (max hw sp2) ss1 (look fuel h (S6 (d + 1)) (pG ss1 r k f goal) (ss1, sp2, dv2)).2 + xC (max hw sp2) ss1 = xC (max hw sp3) ss3 ∧ lS (max hw sp2) ss1 (look fuel h (S6 (d + 1)) (pG ss1 r k f goal) (ss1, sp2, dv2)).2 + xS (max hw sp2) ss1 = xS (max hw sp3) ss3 := by
          have q := lC_eq (hw := max hw sp2) (ss := ss1) (x1 := (ss3, sp3, dv3)) hlen3
          rw [show max (max hw sp2) (ss3, sp3, dv3).2.1 = max hw sp3 from hmx2] at q
          rw [hP1]; exact q
        have hm3 : xC (max hw sp3) ss3 ≤ xC (max hw (folW (look fuel h) (S d) goal step (16 * f + r) (ss, sp, dv)).2.2.1) (folW (look fuel h) (S d) goal step (16 * f + r) (ss, sp, dv)).2.1 ∧ xS (max hw sp3) ss3 ≤ xS (max hw (folW (look fuel h) (S d) goal step (16 * f + r) (ss, sp, dv)).2.2.1) (folW (look fuel h) (S d) goal step (16 * f + r) (ss, sp, dv)).2.1 := hm2
        have ha2 : a1 ≤ 3002 := by
          have q := look_ok hfu h (S6 (d + 1)) (pG ss1 r k f goal) (ss1, sp2, dv2) okb hΓb hgb hspf2
          rw [hP1] at q
          exact anI_le hfu q
        refine lv_aload_n hx hb dX4_follow_114 rfl (lv_at hl 0 rfl) ?_
        refine lv_aload_n hx hb dX4_follow_115 rfl (lv_at hl 0 rfl) ?_
        refine lv_iload hx hb dX4_follow_116 (lv_at hl 5 rfl) ?_
        refine lv_iload hx hb dX4_follow_118 (lv_at hl 8 rfl) ?_
        refine lv_iload hx hb dX4_follow_120 (lv_at hl 6 rfl) ?_
        refine lv_iload hx hb dX4_follow_122 (lv_at hl 4 rfl) ?_
        refine r_callViR (ci := 4) (As := [.int (nI r), .int (nI k), .int (nI f), .int (nI goal)]) hx hb hml hown hts hK hA hs (18) (by omega) he18w_34 rfl rfl (c_X4_goalOfPremise l G hW6 (r := r) (k := k) (f := f) (goal := goal) (by omega) (by omega) (by omega) (by omega)) (cwV 4 hts (tbV w_ml_RX4_88 w_im_yX4_goalOfPremise w_se_yX4_goalOfPremise w_ini_RX4 w_cd_yX4_goalOfPremise) rfl rfl rfl (by decide +kernel) ⟨(by show (2) + 1 ≤ (2 * h + 8); omega), (by show 8 + (5 + 11) + (44) ≤ (55 * h + 292); omega)⟩) rfl hl.1 rfl (Nat.le_of_ble_eq_true rfl) dX4_follow_124 ⟨by show _ ≤ lC hw ss (folW (look fuel h) (S d) goal step (16 * f + r) (ss, sp, dv)).2; omega, by show _ ≤ lS hw ss (folW (look fuel h) (S d) goal step (16 * f + r) (ss, sp, dv)).2; omega⟩ (fun H locs hs => ?_)
        refine lv_iload_n hx hb dX4_follow_127 rfl (lv_at hl 3 rfl) ?_
        refine lv_iconst (v := 1) hx hb dX4_follow_128 (by decide) ?_
        refine lv_iadd hx hb dX4_follow_129 ?_
        refine r_topi (y := nI (d + 1)) (nI_add _ _) ?_
        refine r_callVi (ci := 4) (As := [.int (nI (pG ss1 r k f goal)), .int (nI (d + 1))]) hx hb hml hown hts hK hA hs (18) (by omega) he18w_34 rfl rfl (IH hW6 (d := d + 1) (goal := pG ss1 r k f goal) (by omega) (by omega) ⟨hspf2, hfu⟩ hgb hΓb) (cwV 2 hts (tbV w_ml_RX4_38 w_im_yX4_look w_se_yX4_look w_ini_RX4 w_cd_yX4_look) rfl rfl rfl (by decide +kernel) ⟨(by show ((2 * h + 7)) + 1 ≤ (2 * h + 8); omega), (by show 8 + (7 + 11) + ((55 * h + 266)) ≤ (55 * h + 292); omega)⟩) rfl hl.1 rfl (Nat.le_of_ble_eq_true rfl) dX4_follow_130 ⟨by show _ ≤ lC hw ss (folW (look fuel h) (S d) goal step (16 * f + r) (ss, sp, dv)).2; omega, by show _ ≤ lS hw ss (folW (look fuel h) (S d) goal step (16 * f + r) (ss, sp, dv)).2; omega⟩ (fun r_38 ad_35 en_36 H locs hp_37 hs => ?_)
        obtain ⟨hrz7, ⟨S7, hW7, hS7⟩, hF7⟩ := hp_37
        rw [hP1] at hrz7 hW7
        have hW7 : SchW G n ad_35 en_36 ss3 (max hw sp3) dv3 S7 fuel sp3 := by rw [← hmx2]; exact hW7
        rw [show r_38 = anI a1 from hrz7]
        have hS7e : ∀ e, e ≤ d → ∀ y, S7 e y = S e y := fun e he y => (hS7 e (by omega) y).trans ((hS6a e (by omega) y).trans ((hS5e) e he y))
        obtain ⟨hnw_39, hStw_39, hDew_39, hGiw_39, he18w_39⟩ := id hW7
        have he3w_39 := hStw_39.2.1
        obtain ⟨fs7w_39, he7w_39⟩ := SetsAt_recv hStw_39.2.2.2.1
        obtain ⟨fs19w_39, he19w_39⟩ := SetsAt_recv hGiw_39
        obtain ⟨fs1w_39, he1w_39⟩ := DerAt_recv hDew_39
        have hokw_39 := hStw_39.2.2.2.2.2
        have h6w_39 := hokw_39.1
        have frw_39 := Fr_tr frw_34 hF7
        have hl : lv_has ls 10 [(0, .ref (ad_35 18)), (1, .int (nI step)), (2, .int (nI (16 * f + r))), (3, .int (nI d)), (4, .int (nI goal)), (5, .int (nI r)), (6, .int (nI f)), (7, .int (nI (rPremL.getD (r) 0))), (8, .int (nI k))] := by rw [hF7.1 18 (by omega) (by unfold scA; omega)]; exact hl
        refine lv_istore (lv' := [(9, .int (anI a1)), (0, .ref (ad_35 18)), (1, .int (nI step)), (2, .int (nI (16 * f + r))), (3, .int (nI d)), (4, .int (nI goal)), (5, .int (nI r)), (6, .int (nI f)), (7, .int (nI (rPremL.getD (r) 0))), (8, .int (nI k))]) hx hb dX4_follow_133 hl (by decide) rfl (fun ls hl => ?_)
        refine lv_iload hx hb dX4_follow_135 (lv_at hl 0 rfl) ?_
        refine lv_if_ge (tgt := 143) hx hb dX4_follow_137 (by decide) (fun c137 => ?_) (fun c137 => ?_)
        · skip
          have hgood := anI_good c137 ha2
          refine lv_aload_n hx hb dX4_follow_143 rfl (lv_at hl 1 rfl) ?_
          refine r_get (ci := 4) (v := .ref (ad_35 1)) (C := RX4) (T := TX4) (N := 5) hx hb hts inlX4 hown hK hs (18) (by omega) he18w_39 rfl 1 (by decide) (hts _ w_fl_RX4_31) rfl dX4_follow_144 ?_
          refine lv_iload_n hx hb dX4_follow_147 rfl (lv_at hl 2 rfl) ?_
          refine lv_iload hx hb dX4_follow_148 (lv_at hl 9 rfl) ?_
          refine lv_iload hx hb dX4_follow_150 (lv_at hl 0 rfl) ?_
          refine r_topi (y := nI a1) (anI_nI hgood) ?_
          refine r_callVv (ci := 0) (As := [.int (nI step), .int (nI k), .int (nI a1)]) hx hb hml hown hts hK hA hs (1) (by omega) he1w_39 rfl rfl (c_X0_setPremise l G hDew_39 (sp := step) (k := k) (by omega) (by omega) (nI a1)) (cwV 3 hts (tbV w_ml_RX4_92 w_im_yX0_setPremise w_se_yX0_setPremise w_ini_RX0 w_cd_yX0_setPremise) rfl rfl rfl (by decide +kernel) ⟨(by show (3) + 1 ≤ (2 * h + 8); omega), (by show 8 + (4 + 11) + (106) ≤ (55 * h + 292); omega)⟩) rfl hl.1 rfl (Nat.le_of_ble_eq_true rfl) dX4_follow_152 ⟨by show _ ≤ lC hw ss (folW (look fuel h) (S d) goal step (16 * f + r) (ss, sp, dv)).2; omega, by show _ ≤ lS hw ss (folW (look fuel h) (S d) goal step (16 * f + r) (ss, sp, dv)).2; omega⟩ (fun ad_40 en_41 H locs hp_42 hs => ?_)
          obtain ⟨hddv4, hfdv4⟩ := hp_42
          obtain ⟨dv4, edv4⟩ : ∃ z, z = upd dv3 (4 * step + (1 + k)) (nI a1) := ⟨_, rfl⟩
          rw [← edv4] at hddv4
          rw [show max (max hw sp3) step = (max hw sp3) by omega] at hddv4
          obtain ⟨hWdv4, hFdv4⟩ := SchW_de hW7 hddv4 hfdv4
          obtain ⟨hnw_43, hStw_43, hDew_43, hGiw_43, he18w_43⟩ := id hWdv4
          have he3w_43 := hStw_43.2.1
          obtain ⟨fs7w_43, he7w_43⟩ := SetsAt_recv hStw_43.2.2.2.1
          obtain ⟨fs19w_43, he19w_43⟩ := SetsAt_recv hGiw_43
          obtain ⟨fs1w_43, he1w_43⟩ := DerAt_recv hDew_43
          have hokw_43 := hStw_43.2.2.2.2.2
          have h6w_43 := hokw_43.1
          have frw_43 := Fr_tr frw_39 hFdv4
          have hl : lv_has ls 10 [(9, .int (anI a1)), (0, .ref (ad_40 18)), (1, .int (nI step)), (2, .int (nI (16 * f + r))), (3, .int (nI d)), (4, .int (nI goal)), (5, .int (nI r)), (6, .int (nI f)), (7, .int (nI (rPremL.getD (r) 0))), (8, .int (nI k))] := by rw [hFdv4.1 18 (by omega) (by unfold scA; omega)]; exact hl
          have hx4 : SxE fuel (ss2, sp2, dv2) (ss3, sp3, dv4) := ⟨hpr.1.1, hpr.1.2.1, hpr.1.2.2.1, hpr.1.2.2.2⟩
          refine lv_iinc (v := nI (k + 1)) (lv' := [(8, .int (nI (k + 1))), (9, .int (anI a1)), (0, .ref (ad_40 18)), (1, .int (nI step)), (2, .int (nI (16 * f + r))), (3, .int (nI d)), (4, .int (nI goal)), (5, .int (nI r)), (6, .int (nI f)), (7, .int (nI (rPremL.getD (r) 0)))]) hx hb dX4_follow_155 hl (k := 9) rfl (nI_add k 1) (by decide) rfl (fun ls hl => ?_)
          refine lv_goto (tgt := 41) hx hb dX4_follow_158 (by decide) ?_
          exact ih41 (k + 1) (ss3) (sp3) (dv4) (S7) (ad_40) (en_41) (cc + bC ss2 (brg ss2 r k f).2 + lC (max hw sp2) ss1 (look fuel h (S6 (d + 1)) (pG ss1 r k f goal) (ss1, sp2, dv2)).2) (cs + bS ss2 (brg ss2 r k f).2 + lS (max hw sp2) ss1 (look fuel h (S6 (d + 1)) (pG ss1 r k f goal) (ss1, sp2, dv2)).2) _ _ _ (by omega) (hWdv4) (by rw [hE, prms_good hprm hgood, edv4, show rPremL.getD (r) 0 + 1 - (k + 1) = m by omega]; rfl) (hc2.next hx4 (by show dv4 _ = dv2 _; rw [edv4, upd_ne (by omega)]; exact hpr.2.1 _ (by show 4 * step + 0 < 4 * sp2 + 4; omega))) (by obtain ⟨⟨y9, e9⟩, -⟩ := id hpr.1; rw [show ss3 = ss2 ++ y9 from e9]; exact wyOK_app y9 hok2 hfl2 hg2.2 hwy2) (hS7e) (frw_43) (by omega) (by omega) hs (lv_sub hl [2, 3, 4, 5, 6, 7, 8, 9, 0] rfl)
        · skip
          have hbad := anI_bad c137
          refine lv_iload hx hb dX4_follow_140 (lv_at hl 0 rfl) ?_
          refine r_iret (v := anI a1) (mc := lC hw ss (folW (look fuel h) (S d) goal step (16 * f + r) (ss, sp, dv)).2) (ms := lS hw ss (folW (look fuel h) (S d) goal step (16 * f + r) (ss, sp, dv)).2) hx hb hr hlk hs (by omega) (by omega) dX4_follow_142 hQ ?_
          exact lkPost.of (hE.trans (prms_bad hprm hbad)) rfl hW7 hS7e frw_39
    · skip
      have hobn : ob = none := by cases ob with
        | none => rfl
        | some q => exact absurd c84 (by show ¬ (1 : Int32) = 0; decide)
      refine lv_bipush (v := (-3)) hx hb dX4_follow_87 (by decide) ?_
      refine r_iret (v := (-3)) (mc := lC hw ss (folW (look fuel h) (S d) goal step (16 * f + r) (ss, sp, dv)).2) (ms := lS hw ss (folW (look fuel h) (S d) goal step (16 * f + r) (ss, sp, dv)).2) hx hb hr hlk hs (by omega) (by omega) dX4_follow_89 hQ ?_
      exact lkPost.of (hE.trans (prms_bad (prm_none (x := (ss2, sp2, dv2)) (hB.trans (by rw [hobn]))) (Or.inr (by decide)))) rfl hW5 (hS5e) frw_17

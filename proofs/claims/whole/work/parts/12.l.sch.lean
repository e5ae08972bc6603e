set_option maxHeartbeats 600000 in
set_option maxRecDepth 100000 in
theorem c_X4_look_0 (l : Launch) (G : rG) {n : Nat} {ad : Nat → Nat} {en : Nat → va_E} {ss : List Row} {hw : Nat} {dv : Nat → Int32} {S : Nat → Nat → Bool} {fuel sp : Nat} (hW : SchW G n ad en ss hw dv S fuel sp) {d goal : Nat} (hdh : d + 0 = 81) (hsp : sp ≤ hw) (hfu : sp ≤ fuel ∧ fuel ≤ 3000) (hg : 1 ≤ goal ∧ goal ≤ ss.length) (hΓ : ∀ y, S d y = true → 1 ≤ y ∧ y ≤ ss.length) : CI l G yX4_look uX4_look ((2 * 0 + 7)) ((55 * 0 + 266)) (lC hw ss (look fuel 0 (S d) goal (ss, sp, dv)).2) (lS hw ss (look fuel 0 (S d) goal (ss, sp, dv)).2) [.ref (ad 18), .int (nI goal), .int (nI d)] (n) (n) ad en (lkPost G n hw fuel d S ad en (look fuel 0 (S d) goal (ss, sp, dv))) := by
  intro sz
  refine rMet (Qc := qI G (n) (lkPost G n hw fuel d S ad en (look fuel 0 (S d) goal (ss, sp, dv)))) (cc := cX4_look) (maxL := 7) (ret := (some .int)) (by decide) rfl (Nat.le_of_ble_eq_true rfl) ?_
  intro pP eE sS mM aA bB tT cC ls A Q hc hK hsz hA hs hl hQ
  obtain ⟨hx, hb, hr, hts, hown, hlk, hnm, hml⟩ := hc
  have hl : lv_has ls 7 [(0, .ref (ad 18)), (1, .int (nI goal)), (2, .int (nI d))] := hl
  obtain ⟨hn0, hSt0, hDe0, hGi0, he180⟩ := id hW
  have he30 := hSt0.2.1
  obtain ⟨fs70, he70⟩ := SetsAt_recv hSt0.2.2.2.1
  obtain ⟨fs190, he190⟩ := SetsAt_recv hGi0
  obtain ⟨fs10, he10⟩ := DerAt_recv hDe0
  have hok0 := hSt0.2.2.2.2.2
  have h60 := hok0.1
  refine lv_iload_n hx hb dX4_look_0 rfl (lv_at hl 2 rfl) ?_
  refine lv_bipush (v := 80) hx hb dX4_look_1 (by decide) ?_
  refine lv_icmp_gt (tgt := 17) hx hb dX4_look_3 (by decide) (fun _ => ?_) (fun c3 => absurd (nI_lt (a := 80) (by omega) (by omega)) c3)
  refine lv_bipush (v := (-4)) hx hb dX4_look_17 (by decide) ?_
  refine r_iret (v := (-4)) (mc := lC hw ss (look fuel 0 (S d) goal (ss, sp, dv)).2) (ms := lS hw ss (look fuel 0 (S d) goal (ss, sp, dv)).2) hx hb hr hlk hs (Nat.zero_le _) (Nat.zero_le _) dX4_look_19 hQ ?_
  exact lkPost.of (P := look fuel 0 (S d) goal (ss, sp, dv)) rfl rfl (by rw [show max hw sp = hw by omega]; exact hW) (fun _ _ _ => rfl) Fr_rf

set_option maxHeartbeats 600000 in
set_option maxRecDepth 100000 in
theorem c_X4_look_s (l : Launch) (G : rG) {h : Nat} (IH : LookC l G h) {n : Nat} {ad : Nat → Nat} {en : Nat → va_E} {ss : List Row} {hw : Nat} {dv : Nat → Int32} {S : Nat → Nat → Bool} {fuel sp : Nat} (hW : SchW G n ad en ss hw dv S fuel sp) {d goal : Nat} (hdh : d + (h + 1) = 81) (hsp : sp ≤ hw) (hfu : sp ≤ fuel ∧ fuel ≤ 3000) (hg : 1 ≤ goal ∧ goal ≤ ss.length) (hΓ : ∀ y, S d y = true → 1 ≤ y ∧ y ≤ ss.length) : CI l G yX4_look uX4_look ((2 * (h + 1) + 7)) ((55 * (h + 1) + 266)) (lC hw ss (look fuel (h + 1) (S d) goal (ss, sp, dv)).2) (lS hw ss (look fuel (h + 1) (S d) goal (ss, sp, dv)).2) [.ref (ad 18), .int (nI goal), .int (nI d)] (n) (n) ad en (lkPost G n hw fuel d S ad en (look fuel (h + 1) (S d) goal (ss, sp, dv))) := by
  intro sz
  refine rMet (Qc := qI G (n) (lkPost G n hw fuel d S ad en (look fuel (h + 1) (S d) goal (ss, sp, dv)))) (cc := cX4_look) (maxL := 7) (ret := (some .int)) (by decide) rfl (Nat.le_of_ble_eq_true rfl) ?_
  intro pP eE sS mM aA bB tT cC ls A Q hc hK hsz hA hs hl hQ
  obtain ⟨hx, hb, hr, hts, hown, hlk, hnm, hml⟩ := hc
  have hl : lv_has ls 7 [(0, .ref (ad 18)), (1, .int (nI goal)), (2, .int (nI d))] := hl
  obtain ⟨hn0, hSt0, hDe0, hGi0, he180⟩ := id hW
  have he30 := hSt0.2.1
  obtain ⟨fs70, he70⟩ := SetsAt_recv hSt0.2.2.2.1
  obtain ⟨fs190, he190⟩ := SetsAt_recv hGi0
  obtain ⟨fs10, he10⟩ := DerAt_recv hDe0
  have hok0 := hSt0.2.2.2.2.2
  have h60 := hok0.1
  have hLQ := look_ok hfu.2 (h + 1) (S d) goal (ss, sp, dv) hok0 hΓ hg hfu.1
  have hlc := lC_eq (hw := hw) (ss := ss) (x1 := (look fuel (h + 1) (S d) goal (ss, sp, dv)).2) hLQ.1.len
  have hd : d < 82 := by omega
  refine lv_iload_n hx hb dX4_look_0 rfl (lv_at hl 2 rfl) ?_
  refine lv_bipush (v := 80) hx hb dX4_look_1 (by decide) ?_
  refine lv_icmp_gt (tgt := 17) hx hb dX4_look_3 (by decide) (fun c3 => absurd c3 (nI_nlt (a := 80) (by omega) (by decide))) (fun _ => ?_)
  refine lv_aload_n hx hb dX4_look_6 rfl (lv_at hl 0 rfl) ?_
  refine r_get (ci := 4) (v := .int (nI sp)) (C := RX4) (T := TX4) (N := 5) hx hb hts inlX4 hown hK hs (18) (by omega) he180 rfl 4 (by decide) (hts _ w_fl_RX4_24) rfl dX4_look_7 ?_
  refine lv_aload_n hx hb dX4_look_10 rfl (lv_at hl 0 rfl) ?_
  refine r_get (ci := 4) (v := .int (nI fuel)) (C := RX4) (T := TX4) (N := 5) hx hb hts inlX4 hown hK hs (18) (by omega) he180 rfl 3 (by decide) (hts _ w_fl_RX4_20) rfl dX4_look_11 ?_
  refine lv_icmp_lt (tgt := 20) hx hb dX4_look_14 (by decide) (fun c14 => ?_) (fun c14 => ?_)
  · skip
    have hlt : sp < fuel := (nI_ltI (by omega) (by omega)).mp c14
    have hdp := dP_s (hw := hw) (s := sp + 1) (by omega)
    have hLx : LKq fuel (h + 1) goal (ss, sp, dv) (look fuel (h + 1) (S d) goal (ss, sp, dv)) := hLQ
    have hxm : xC (max hw (sp + 1)) ss ≤ xC (max hw (look fuel (h + 1) (S d) goal (ss, sp, dv)).2.2.1) (look fuel (h + 1) (S d) goal (ss, sp, dv)).2.1 ∧ xS (max hw (sp + 1)) ss ≤ xS (max hw (look fuel (h + 1) (S d) goal (ss, sp, dv)).2.2.1) (look fuel (h + 1) (S d) goal (ss, sp, dv)).2.1 := look_first hfu.2 hlt hok0 hΓ hg
    refine lv_aload_n hx hb dX4_look_20 rfl (lv_at hl 0 rfl) ?_
    refine lv_dup hx hb dX4_look_21 rfl ?_
    refine r_get (ci := 4) (v := .int (nI sp)) (C := RX4) (T := TX4) (N := 5) hx hb hts inlX4 hown hK hs (18) (by omega) he180 rfl 4 (by decide) (hts _ w_fl_RX4_24) rfl dX4_look_22 ?_
    refine lv_iconst (v := 1) hx hb dX4_look_25 (by decide) ?_
    refine lv_iadd hx hb dX4_look_26 ?_
    refine r_topi (y := nI (sp + 1)) (nI_add _ _) ?_
    refine r_put (ci := 4) (v := .int (nI (sp + 1))) (ty := .int) (C := RX4) (T := TX4) (N := 5) (fs' := [.ref (ad 3), .ref (ad 1), .ref (ad 19), .int (nI fuel), .int (nI (sp + 1))]) hx hb hts inlX4 tyX4 tyX4_ok nmX4 hown hK hs (18) (by omega) he180 rfl 4 (by decide) (hts _ w_fl_RX4_24) (Or.inl rfl) (by decide +kernel) rfl rfl (Nat.le_of_ble_eq_true rfl) rfl dX4_look_27 (fun H locs en_1 hen_1 hs => ?_)
    have he_2 : en_1 (18) = .inr (4, [.ref (ad 3), .ref (ad 1), .ref (ad 19), .int (nI fuel), .int (nI (sp + 1))]) := by rw [hen_1]; exact va_up_self _ _ _
    have he_3 : en_1 (3) = .inr (6, [.ref (ad 4), .ref (ad 7), .ref (ad 9)]) := by rw [hen_1]; exact (va_up_ne _ _ (by omega)).trans he30
    have he_4 : en_1 (7) = .inr (5, fs70) := by rw [hen_1]; exact (va_up_ne _ _ (by omega)).trans he70
    have he_5 : en_1 (19) = .inr (5, fs190) := by rw [hen_1]; exact (va_up_ne _ _ (by omega)).trans he190
    have he_6 : en_1 (1) = .inr (0, fs10) := by rw [hen_1]; exact (va_up_ne _ _ (by omega)).trans he10
    obtain ⟨hW1, hF1⟩ := SchW_pu (fuel1 := fuel) (sp1 := sp + 1) hW hen_1 he_2
    obtain ⟨hnw_7, hStw_7, hDew_7, hGiw_7, he18w_7⟩ := id hW1
    have he3w_7 := hStw_7.2.1
    obtain ⟨fs7w_7, he7w_7⟩ := SetsAt_recv hStw_7.2.2.2.1
    obtain ⟨fs19w_7, he19w_7⟩ := SetsAt_recv hGiw_7
    obtain ⟨fs1w_7, he1w_7⟩ := DerAt_recv hDew_7
    have hokw_7 := hStw_7.2.2.2.2.2
    have h6w_7 := hokw_7.1
    have frw_7 := Fr_tr Fr_rf hF1
    have hl : lv_has ls 7 [(0, .ref (ad 18)), (1, .int (nI goal)), (2, .int (nI d))] := by rw [hF1.1 18 (by omega) (by unfold scA; omega)]; exact hl
    refine lv_aload_n hx hb dX4_look_30 rfl (lv_at hl 0 rfl) ?_
    refine r_get (ci := 4) (v := .int (nI (sp + 1))) (C := RX4) (T := TX4) (N := 5) hx hb hts inlX4 hown hK hs (18) (by omega) he18w_7 rfl 4 (by decide) (hts _ w_fl_RX4_24) rfl dX4_look_31 ?_
    refine lv_istore_n (lv' := [(3, .int (nI (sp + 1))), (0, .ref (ad 18)), (1, .int (nI goal)), (2, .int (nI d))]) hx hb dX4_look_34 rfl hl (by decide) rfl (fun ls hl => ?_)
    refine lv_aload_n hx hb dX4_look_35 rfl (lv_at hl 1 rfl) ?_
    refine r_get (ci := 4) (v := .ref (ad 1)) (C := RX4) (T := TX4) (N := 5) hx hb hts inlX4 hown hK hs (18) (by omega) he18w_7 rfl 1 (by decide) (hts _ w_fl_RX4_31) rfl dX4_look_36 ?_
    refine lv_iload_n hx hb dX4_look_39 rfl (lv_at hl 0 rfl) ?_
    refine lv_iload_n hx hb dX4_look_40 rfl (lv_at hl 2 rfl) ?_
    refine r_callVv (ci := 0) (As := [.int (nI (sp + 1)), .int (nI goal)]) hx hb hml hown hts hK hA hs (1) (by omega) he1w_7 rfl rfl (c_X0_begin l G hDew_7 (sp := sp + 1) (by omega) (by omega) (nI goal)) (cwV 2 hts (tbV w_ml_RX4_42 w_im_yX0_begin w_se_yX0_begin w_ini_RX0 w_cd_yX0_begin) rfl rfl rfl (by decide +kernel) ⟨(by show (3) + 1 ≤ (2 * (h + 1) + 7); omega), (by show 8 + (3 + 11) + (106) ≤ (55 * (h + 1) + 266); omega)⟩) rfl hl.1 rfl (Nat.le_of_ble_eq_true rfl) dX4_look_41 ⟨by show _ ≤ lC hw ss (look fuel (h + 1) (S d) goal (ss, sp, dv)).2; unfold xC xS at hxm; unfold xC xS at hlc; omega, by show _ ≤ lS hw ss (look fuel (h + 1) (S d) goal (ss, sp, dv)).2; unfold xC xS at hxm; unfold xC xS at hlc; omega⟩ (fun ad_8 en_9 H locs hp_10 hs => ?_)
    obtain ⟨hddv1, hfdv1⟩ := hp_10
    obtain ⟨dv1, edv1⟩ : ∃ z, z = upd dv (4 * (sp + 1) + 0) (nI goal) := ⟨_, rfl⟩
    rw [← edv1] at hddv1
    obtain ⟨hWdv1, hFdv1⟩ := SchW_de hW1 hddv1 hfdv1
    obtain ⟨hnw_11, hStw_11, hDew_11, hGiw_11, he18w_11⟩ := id hWdv1
    have he3w_11 := hStw_11.2.1
    obtain ⟨fs7w_11, he7w_11⟩ := SetsAt_recv hStw_11.2.2.2.1
    obtain ⟨fs19w_11, he19w_11⟩ := SetsAt_recv hGiw_11
    obtain ⟨fs1w_11, he1w_11⟩ := DerAt_recv hDew_11
    have hokw_11 := hStw_11.2.2.2.2.2
    have h6w_11 := hokw_11.1
    have frw_11 := Fr_tr frw_7 hFdv1
    have hl : lv_has ls 7 [(3, .int (nI (sp + 1))), (0, .ref (ad_8 18)), (1, .int (nI goal)), (2, .int (nI d))] := by rw [hFdv1.1 18 (by omega) (by unfold scA; omega)]; exact hl
    have hc1 : CX fuel (sp + 1) goal (S d) (ss, sp + 1, dv1) := ⟨hok0, hΓ, hg, by show sp + 1 ≤ fuel; omega, Nat.le_refl _, by show dv1 _ = _; rw [edv1, upd_eq]⟩
    refine lv_aload_n hx hb dX4_look_44 rfl (lv_at hl 1 rfl) ?_
    refine lv_iload_n hx hb dX4_look_45 rfl (lv_at hl 2 rfl) ?_
    refine lv_iload_n hx hb dX4_look_46 rfl (lv_at hl 3 rfl) ?_
    refine r_callViR (ci := 4) (As := [.int (nI goal), .int (nI d)]) hx hb hml hown hts hK hA hs (18) (by omega) he18w_11 rfl rfl (c_X4_firstWay l G hWdv1 (d := d) hd (goal := goal) hg) (cwV 2 hts (tbV w_ml_RX4_48 w_im_yX4_firstWay w_se_yX4_firstWay w_ini_RX4 w_cd_yX4_firstWay) rfl rfl rfl (by decide +kernel) ⟨(by show (4) + 1 ≤ (2 * (h + 1) + 7); omega), (by show 8 + (4 + 11) + (96) ≤ (55 * (h + 1) + 266); omega)⟩) rfl hl.1 rfl (Nat.le_of_ble_eq_true rfl) dX4_look_47 ⟨by show _ ≤ lC hw ss (look fuel (h + 1) (S d) goal (ss, sp, dv)).2; unfold xC xS at hxm; unfold xC xS at hlc; omega, by show _ ≤ lS hw ss (look fuel (h + 1) (S d) goal (ss, sp, dv)).2; unfold xC xS at hxm; unfold xC xS at hlc; omega⟩ (fun H locs hs => ?_)
    refine lv_istore (lv' := [(4, .int (nI (fstW ss (S d) goal))), (3, .int (nI (sp + 1))), (0, .ref (ad_8 18)), (1, .int (nI goal)), (2, .int (nI d))]) hx hb dX4_look_50 hl (by decide) rfl (fun ls hl => ?_)
    refine lv_iconst (v := 0) hx hb dX4_look_52 (by decide) ?_
    refine lv_istore (lv' := [(5, .int (0)), (4, .int (nI (fstW ss (S d) goal))), (3, .int (nI (sp + 1))), (0, .ref (ad_8 18)), (1, .int (nI goal)), (2, .int (nI d))]) hx hb dX4_look_53 hl (by decide) rfl (fun ls hl => ?_)
    suffices LOOP55 : ∀ (fu55 : Nat) (t : Nat) (w : Nat) (ss2 : List Row) (sp2 : Nat) (dv2 : Nat → Int32) (S2 : Nat → Nat → Bool) (ad2 : Nat → Nat) (en2 : Nat → va_E) (cc : Nat) (cs : Nat) (H : Heap) (locs : List Loc) (ls : Array Slot), (t ≤ 602) → (SchW G n ad2 en2 ss2 (max hw sp2) dv2 S2 fuel sp2) → (look fuel (h + 1) (S d) goal (ss, sp, dv) = tryW (folW (look fuel h) (S d) goal (sp + 1)) (S d) (602 - t) w (ss2, sp2, dv2)) → (CX fuel (sp + 1) goal (S d) (ss2, sp2, dv2)) → (wayI ss2 (S d) goal w) → (∀ e, e ≤ d → ∀ y, S2 e y = S e y) → (Fr n scS scA ad en ad2 en2) → (cc + xC hw ss = xC (max hw sp2) ss2 ∧ cs + xS hw ss = xS (max hw sp2) ss2) → 603 - t < fu55 → rS G A sS.heap (n) ad2 en2 H locs → lv_has ls 7 [(0, .ref (ad2 18)), (1, .int (nI goal)), (2, .int (nI d)), (3, .int (nI (sp + 1))), (4, .int (nI w)), (5, .int (nI t))] → W pP l eE (rRm ((2 * (h + 1) + 7)) ((55 * (h + 1) + 266)) (lC hw ss (look fuel (h + 1) (S d) goal (ss, sp, dv)).2) (lS hw ss (look fuel (h + 1) (S d) goal (ss, sp, dv)).2)) sS mM aA bB tT cC H locs (cc) (cs) Q (F0 mM 55 ls []) from LOOP55 _ (0) (fstW ss (S d) goal) (ss) ((sp + 1)) (dv1) (S) (ad_8) (en_9) (0 + dMC hw (sp + 1)) (0 + dMS hw (sp + 1)) _ _ _ (by decide) (hWdv1) (by rw [look, if_neg (by show ¬ fuel ≤ sp; omega), edv1]) (hc1) (fstW_ok hok0 (S d) goal) (fun _ _ _ => rfl) (frw_11) (by unfold xC xS; omega) (Nat.lt_succ_self _) hs (lv_sub hl [3, 4, 5, 2, 1, 0] rfl)
    intro fu55
    induction fu55 with
    | zero => intro t w ss2 sp2 dv2 S2 ad2 en2 cc cs H locs ls it hW2 hE hc2 hwI hS2 hF2 hcc hfu; exact absurd hfu (Nat.not_lt_zero _)
    | succ fu55 ih55 => ?_
    intro t w ss2 sp2 dv2 S2 ad2 en2 cc cs H locs ls it hW2 hE hc2 hwI hS2 hF2 hcc hfu55 hs hl
    obtain ⟨hn2, hSt2, hDe2, hGi2, he182⟩ := id hW2
    have he32 := hSt2.2.1
    obtain ⟨fs72, he72⟩ := SetsAt_recv hSt2.2.2.2.1
    obtain ⟨fs192, he192⟩ := SetsAt_recv hGi2
    obtain ⟨fs12, he12⟩ := DerAt_recv hDe2
    have hok2 := hSt2.2.2.2.2.2
    have h62 := hok2.1
    obtain ⟨-, hΓ2, hg2, hspf2, hsts2, hdv2⟩ := id hc2
    have hΓ2 : ∀ y, S d y = true → 1 ≤ y ∧ y ≤ ss2.length := hΓ2
    have hg2 : 1 ≤ goal ∧ goal ≤ ss2.length := hg2
    have hspf2 : sp2 ≤ fuel := hspf2
    have hsts2 : sp + 1 ≤ sp2 := hsts2
    have hwlt := way_lt hok2 hwI
    have hSd : S2 d = S d := funext (hS2 d (Nat.le_refl _))
    refine lv_iload hx hb dX4_look_55 (lv_at hl 4 rfl) ?_
    refine lv_if_eq (tgt := 103) hx hb dX4_look_57 (by decide) (fun c57 => ?_) (fun c57 => ?_)
    · skip
      have hw0 : w = 0 := z_of (by omega) c57
      subst hw0
      have hE2 : look fuel (h + 1) (S d) goal (ss, sp, dv) = (0, (ss2, sp2, dv2)) := hE.trans tryW_0
      have hl2 : ss.length ≤ ss2.length := by have z := hLQ.1.len; rw [hE2] at z; exact z
      refine lv_bipush (v := (-2)) hx hb dX4_look_103 (by decide) ?_
      refine r_iret (v := (-2)) (mc := lC hw ss (look fuel (h + 1) (S d) goal (ss, sp, dv)).2) (ms := lS hw ss (look fuel (h + 1) (S d) goal (ss, sp, dv)).2) hx hb hr hlk hs (by rw [hE2]; show cc ≤ lC hw ss (ss2, sp2, dv2); have q := lC_eq (hw := hw) (ss := ss) (x1 := (ss2, sp2, dv2)) hl2; have q1 : xC (max hw (ss2, sp2, dv2).2.1) (ss2, sp2, dv2).1 = xC (max hw sp2) ss2 := rfl; omega) (by rw [hE2]; show cs ≤ lS hw ss (ss2, sp2, dv2); have q := lC_eq (hw := hw) (ss := ss) (x1 := (ss2, sp2, dv2)) hl2; have q1 : xS (max hw (ss2, sp2, dv2).2.1) (ss2, sp2, dv2).1 = xS (max hw sp2) ss2 := rfl; omega) dX4_look_105 hQ ?_
      exact lkPost.of hE2 rfl hW2 hS2 hF2
    · skip
      refine lv_iload hx hb dX4_look_60 (lv_at hl 5 rfl) ?_
      refine lv_sipush (v := 602) hx hb dX4_look_62 (by decide) ?_
      refine lv_icmp_ge (tgt := 103) hx hb dX4_look_65 (by decide) (fun c65 => ?_) (fun c65 => ?_)
      · skip
        have h602 : 602 ≤ t := (nI_leI (a := 602) (by decide) (by omega)).mp c65
        have hE2 : look fuel (h + 1) (S d) goal (ss, sp, dv) = (0, (ss2, sp2, dv2)) := hE.trans (by rw [show 602 - t = 0 by omega]; rfl)
        have hl2 : ss.length ≤ ss2.length := by have z := hLQ.1.len; rw [hE2] at z; exact z
        refine lv_bipush (v := (-2)) hx hb dX4_look_103 (by decide) ?_
        refine r_iret (v := (-2)) (mc := lC hw ss (look fuel (h + 1) (S d) goal (ss, sp, dv)).2) (ms := lS hw ss (look fuel (h + 1) (S d) goal (ss, sp, dv)).2) hx hb hr hlk hs (by rw [hE2]; show cc ≤ lC hw ss (ss2, sp2, dv2); have q := lC_eq (hw := hw) (ss := ss) (x1 := (ss2, sp2, dv2)) hl2; have q1 : xC (max hw (ss2, sp2, dv2).2.1) (ss2, sp2, dv2).1 = xC (max hw sp2) ss2 := rfl; omega) (by rw [hE2]; show cs ≤ lS hw ss (ss2, sp2, dv2); have q := lC_eq (hw := hw) (ss := ss) (x1 := (ss2, sp2, dv2)) hl2; have q1 : xS (max hw (ss2, sp2, dv2).2.1) (ss2, sp2, dv2).1 = xS (max hw sp2) ss2 := rfl; omega) dX4_look_105 hQ ?_
        exact lkPost.of hE2 rfl hW2 hS2 hF2
      · skip
        have h602 : t < 602 := lt_of_nI (b := 602) c65 (by omega)
        obtain ⟨r, f, ew, hfl2, hwy2⟩ : ∃ r f, w = 16 * f + r ∧ f ≤ ss2.length ∧ wyOK ss2 (S d) goal r f := hwI.resolve_left (nz_of (by omega) c57)
        subst ew
        have hr13 := wy_r hwy2
        obtain ⟨m, hm⟩ : ∃ m, 602 - t = m + 1 := ⟨601 - t, by omega⟩
        rw [hm] at hE
        obtain ⟨a1, ss3, sp3, dv3, hP1⟩ : ∃ a b c e, folW (look fuel h) (S2 d) goal (sp + 1) (16 * f + r) (ss2, sp2, dv2) = (a, (b, c, e)) := ⟨_, _, _, _, rfl⟩
        have hFW : folW (look fuel h) (S d) goal (sp + 1) (16 * f + r) (ss2, sp2, dv2) = (a1, (ss3, sp3, dv3)) := hSd ▸ hP1
        have hq := folW_ok (look_ok hfu.2 h) hc2 hfu.2 (lo := sp) (by omega) hwy2
        rw [hFW] at hq
        have hlast := tryW_sx (lo := sp) (fun x1 r f hc1 hy => folW_ok (look_ok hfu.2 h) hc1 hfu.2 (by omega) hy) (t := m) hc2 hwy2
        rw [← hE, hFW] at hlast
        have hmx : sp2 ≤ sp3 := hq.1.2.2.1
        have hfx : sp3 ≤ fuel := hq.1.2.2.2
        have hmx2 : max (max hw sp2) sp3 = max hw sp3 := by omega
        have hlen3 : ss2.length ≤ ss3.length := hq.1.len
        have hm3 : xC (max hw sp3) ss3 ≤ xC (max hw (look fuel (h + 1) (S d) goal (ss, sp, dv)).2.2.1) (look fuel (h + 1) (S d) goal (ss, sp, dv)).2.1 ∧ xS (max hw sp3) ss3 ≤ xS (max hw (look fuel (h + 1) (S d) goal (ss, sp, dv)).2.2.1) (look fuel (h + 1) (S d) goal (ss, sp, dv)).2.1 := xC_mono (hw := hw) hlast
        have hlc1 : lC (max hw sp2) ss2 (folW (look fuel h) (S2 d) goal (sp + 1) (16 * f + r) (ss2, sp2, dv2)).2 + xC (max hw sp2) ss2 = xC (max hw sp3) ss3 ∧ lS (max hw sp2) ss2 (folW (look fuel h) (S2 d) goal (sp + 1) (16 * f + r) (ss2, sp2, dv2)).2 + xS (max hw sp2) ss2 = xS (max hw sp3) ss3 := by
          have q := lC_eq (hw := max hw sp2) (ss := ss2) (x1 := (ss3, sp3, dv3)) hlen3
          rw [show max (max hw sp2) (ss3, sp3, dv3).2.1 = max hw sp3 from hmx2] at q
          rw [hP1]; exact q
        have ha2 : a1 ≤ 3002 := by
          rcases hq.2.2 with q | q | q | ⟨q, q2⟩
          · show a1 ≤ 3002; have : a1 = 0 := q; omega
          · show a1 ≤ 3002; have : a1 = 3001 := q; omega
          · show a1 ≤ 3002; have : a1 = 3002 := q; omega
          · have : a1 = sp + 1 := q; omega
        have hc3 : CX fuel (sp + 1) goal (S d) (ss3, sp3, dv3) := hc2.next hq.1 (hq.2.1 _ (by omega))
        refine lv_aload_n hx hb dX4_look_68 rfl (lv_at hl 0 rfl) ?_
        refine lv_iload_n hx hb dX4_look_69 rfl (lv_at hl 3 rfl) ?_
        refine lv_iload hx hb dX4_look_70 (lv_at hl 4 rfl) ?_
        refine lv_iload_n hx hb dX4_look_72 rfl (lv_at hl 2 rfl) ?_
        refine r_callVi (ci := 4) (As := [.int (nI (sp + 1)), .int (nI (16 * f + r)), .int (nI d)]) hx hb hml hown hts hK hA hs (18) (by omega) he182 rfl rfl (c_X4_follow l G IH hW2 (d := d) (goal := goal) (step := sp + 1) (r := r) (f := f) (by omega) (by omega) hfu.2 (by omega) (by rw [hSd]; exact hc2) (by rw [hSd]; exact hwy2)) (cwV 3 hts (tbV w_ml_RX4_51 w_im_yX4_follow w_se_yX4_follow w_ini_RX4 w_cd_yX4_follow) rfl rfl rfl (by decide +kernel) ⟨(by show ((2 * h + 8)) + 1 ≤ (2 * (h + 1) + 7); omega), (by show 8 + (10 + 11) + ((55 * h + 292)) ≤ (55 * (h + 1) + 266); omega)⟩) rfl hl.1 rfl (Nat.le_of_ble_eq_true rfl) dX4_look_73 ⟨by show _ ≤ lC hw ss (look fuel (h + 1) (S d) goal (ss, sp, dv)).2; omega, by show _ ≤ lS hw ss (look fuel (h + 1) (S d) goal (ss, sp, dv)).2; omega⟩ (fun r_15 ad_12 en_13 H locs hp_14 hs => ?_)
        obtain ⟨hrz7, ⟨S7, hW7, hS7⟩, hF7⟩ := hp_14
        rw [hP1] at hrz7 hW7
        have hW7 : SchW G n ad_12 en_13 ss3 (max hw sp3) dv3 S7 fuel sp3 := by rw [← hmx2]; exact hW7
        rw [show r_15 = anI a1 from hrz7]
        have hS7e : ∀ e, e ≤ d → ∀ y, S7 e y = S e y := fun e he y => (hS7 e he y).trans (hS2 e he y)
        obtain ⟨hnw_16, hStw_16, hDew_16, hGiw_16, he18w_16⟩ := id hW7
        have he3w_16 := hStw_16.2.1
        obtain ⟨fs7w_16, he7w_16⟩ := SetsAt_recv hStw_16.2.2.2.1
        obtain ⟨fs19w_16, he19w_16⟩ := SetsAt_recv hGiw_16
        obtain ⟨fs1w_16, he1w_16⟩ := DerAt_recv hDew_16
        have hokw_16 := hStw_16.2.2.2.2.2
        have h6w_16 := hokw_16.1
        have frw_16 := Fr_tr hF2 hF7
        have hl : lv_has ls 7 [(0, .ref (ad_12 18)), (1, .int (nI goal)), (2, .int (nI d)), (3, .int (nI (sp + 1))), (4, .int (nI (16 * f + r))), (5, .int (nI t))] := by rw [hF7.1 18 (by omega) (by unfold scA; omega)]; exact hl
        refine lv_istore (lv' := [(6, .int (anI a1)), (0, .ref (ad_12 18)), (1, .int (nI goal)), (2, .int (nI d)), (3, .int (nI (sp + 1))), (4, .int (nI (16 * f + r))), (5, .int (nI t))]) hx hb dX4_look_76 hl (by decide) rfl (fun ls hl => ?_)
        refine lv_iload hx hb dX4_look_78 (lv_at hl 0 rfl) ?_
        refine lv_bipush (v := (-2)) hx hb dX4_look_80 (by decide) ?_
        refine lv_icmp_eq (tgt := 88) hx hb dX4_look_82 (by decide) (fun c82 => ?_) (fun c82 => ?_)
        · skip
          have ha0 := anI_no c82 ha2
          refine lv_aload_n hx hb dX4_look_88 rfl (lv_at hl 1 rfl) ?_
          refine lv_iload hx hb dX4_look_89 (lv_at hl 5 rfl) ?_
          refine lv_iload_n hx hb dX4_look_91 rfl (lv_at hl 3 rfl) ?_
          refine r_callViR (ci := 4) (As := [.int (nI (16 * f + r)), .int (nI d)]) hx hb hml hown hts hK hA hs (18) (by omega) he18w_16 rfl rfl (c_X4_nextWay l G hW7 (d := d) hd (w := (16 * f + r)) (by omega)) (cwV 2 hts (tbV w_ml_RX4_55 w_im_yX4_nextWay w_se_yX4_nextWay w_ini_RX4 w_cd_yX4_nextWay) rfl rfl rfl (by decide +kernel) ⟨(by show (4) + 1 ≤ (2 * (h + 1) + 7); omega), (by show 8 + (3 + 11) + (96) ≤ (55 * (h + 1) + 266); omega)⟩) rfl hl.1 rfl (Nat.le_of_ble_eq_true rfl) dX4_look_92 ⟨by show _ ≤ lC hw ss (look fuel (h + 1) (S d) goal (ss, sp, dv)).2; omega, by show _ ≤ lS hw ss (look fuel (h + 1) (S d) goal (ss, sp, dv)).2; omega⟩ (fun H locs hs => ?_)
          refine r_topi (y := nI (nxtW ss3 (S d) (16 * f + r))) (by rw [show S7 d = S d from funext (hS7e d (Nat.le_refl _))]) ?_
          refine lv_istore (lv' := [(4, .int (nI (nxtW ss3 (S d) (16 * f + r)))), (6, .int (anI a1)), (0, .ref (ad_12 18)), (1, .int (nI goal)), (2, .int (nI d)), (3, .int (nI (sp + 1))), (5, .int (nI t))]) hx hb dX4_look_95 hl (by decide) rfl (fun ls hl => ?_)
          refine lv_iinc (v := nI (t + 1)) (lv' := [(5, .int (nI (t + 1))), (4, .int (nI (nxtW ss3 (S d) (16 * f + r)))), (6, .int (anI a1)), (0, .ref (ad_12 18)), (1, .int (nI goal)), (2, .int (nI d)), (3, .int (nI (sp + 1)))]) hx hb dX4_look_97 hl (k := 6) rfl (nI_add t 1) (by decide) rfl (fun ls hl => ?_)
          refine lv_goto (tgt := 55) hx hb dX4_look_100 (by decide) ?_
          exact ih55 (t + 1) (nxtW ss3 (S d) (16 * f + r)) (ss3) (sp3) (dv3) (S7) (ad_12) (en_13) (cc + lC (max hw sp2) ss2 (folW (look fuel h) (S2 d) goal (sp + 1) (16 * f + r) (ss2, sp2, dv2)).2) (cs + lS (max hw sp2) ss2 (folW (look fuel h) (S2 d) goal (sp + 1) (16 * f + r) (ss2, sp2, dv2)).2) _ _ _ (by omega) (hW7) (by rw [hE, tryW_n (by omega) (ha0 ▸ hFW), show 602 - (t + 1) = m by omega]) (hc3) (nxtW_ok (ss := ss2) hc3.1 rfl (by omega) hwy2 (by obtain ⟨⟨y9, e9⟩, -⟩ := id hq.1; rw [show ss3 = ss2 ++ y9 from e9]; exact (st_app hg2.2).1)) (hS7e) (frw_16) (by omega) (by omega) hs (lv_sub hl [3, 4, 5, 6, 1, 0] rfl)
        · skip
          have ha0 := anI_nn c82
          refine lv_iload hx hb dX4_look_85 (lv_at hl 0 rfl) ?_
          refine r_iret (v := anI a1) (mc := lC hw ss (look fuel (h + 1) (S d) goal (ss, sp, dv)).2) (ms := lS hw ss (look fuel (h + 1) (S d) goal (ss, sp, dv)).2) hx hb hr hlk hs (by omega) (by omega) dX4_look_87 hQ ?_
          exact lkPost.of (hE.trans (tryW_y (by omega) hFW ha0)) rfl hW7 hS7e frw_16
  · skip
    have hge : fuel ≤ sp := Nat.le_of_not_lt (fun q => c14 ((nI_ltI (by omega) (by omega)).mpr q))
    have hE0 : look fuel (h + 1) (S d) goal (ss, sp, dv) = (3002, (ss, sp, dv)) := by rw [look, if_pos hge]
    refine lv_bipush (v := (-4)) hx hb dX4_look_17 (by decide) ?_
    refine r_iret (v := (-4)) (mc := lC hw ss (look fuel (h + 1) (S d) goal (ss, sp, dv)).2) (ms := lS hw ss (look fuel (h + 1) (S d) goal (ss, sp, dv)).2) hx hb hr hlk hs (Nat.zero_le _) (Nat.zero_le _) dX4_look_19 hQ ?_
    exact lkPost.of hE0 rfl (by rw [show max hw sp = hw by omega]; exact hW) (fun _ _ _ => rfl) Fr_rf
theorem c_X4_look (l : Launch) (G : rG) : ∀ h, LookC l G h := by
  intro h
  induction h with
  | zero => intro n ad en ss hw dv S fuel sp hW d goal hdh hsp hfu hg hΓ; exact c_X4_look_0 l G hW hdh hsp hfu hg hΓ
  | succ h ih => intro n ad en ss hw dv S fuel sp hW d goal hdh hsp hfu hg hΓ; exact c_X4_look_s l G ih hW hdh hsp hfu hg hΓ

theorem up_n {o o2 : Option Nat} (h : o.isNone = true → o2 = none) (hu : ∃ u, o2 = some u) : ∃ x, o = some x := by
  obtain ⟨u, hu⟩ := hu
  cases o with
  | none => rw [h rfl] at hu; cases hu
  | some x => exact ⟨x, rfl⟩
theorem up_s {o o2 : Option Nat} (h : o = none → o2 = none) (hu : ∃ u, o2 = some u) : ∃ x, o = some x := by
  obtain ⟨u, hu⟩ := hu
  cases o with
  | none => rw [h rfl] at hu; cases hu
  | some x => exact ⟨x, rfl⟩
theorem low_g {s : NSt} {o : Option Nat} {b : Nat} (h : oFn s o b) (hn : nsOK s.1 s.2) (he : ∃ x, o = some x) : 1 ≤ nG s.2 (o.getD 0) := by
  obtain ⟨x, rfl⟩ := he
  exact (part_lt hn (h x rfl).1).2.1.1
theorem hi_g {s t : NSt} {o : Option Nat} {b : Nat} (h : oFn s o b) (hn : nsOK s.1 s.2) (e : sExt s t) (he : ∃ x, o = some x) : sR t.1 (nG s.2 (o.getD 0)) = b := by
  obtain ⟨x, rfl⟩ := he
  rw [(sR_ext e (nG_le hn _)).1]
  exact (h x rfl).2
def aFire (f : Nat) (o : Option Nat) : Act := fun s =>
  let q1 := (aLamO (sR s.1 f) o) s
  let q2 := (aGate q1.1.isNone (aNode (0, f, 0, 0, 0))) q1.2
  let q3 := (aGate q2.1.isNone (aNode (0, sL s.1 f, 0, 0, 0))) q2.2
  let q4 := (aAppO q2.1 q3.1) q3.2
  (aAppO q1.1 q4.1) q4.2
theorem aFire_eq {f : Nat} {o : Option Nat} {o1 o2 o3 o4 o5 : Option Nat} {s s1 s2 s3 s4 s5 : NSt} (h1 : (aLamO (sR s.1 f) o) s = (o1, s1)) (h2 : (aGate o1.isNone (aNode (0, f, 0, 0, 0))) s1 = (o2, s2)) (h3 : (aGate o2.isNone (aNode (0, sL s.1 f, 0, 0, 0))) s2 = (o3, s3)) (h4 : (aAppO o2 o3) s3 = (o4, s4)) (h5 : (aAppO o1 o4) s4 = (o5, s5)) : aFire f o s = (o5, s5) := by
  unfold aFire
  simp only [h1, h2, h3, h4, h5]
theorem aFire_ext (f : Nat) (o : Option Nat) (s0 : NSt) : sExt s0 (aFire f o s0).2 := by
  obtain ⟨o1, s1, hq1⟩ : ∃ oo tt, (aLamO (sR s0.1 f) o) s0 = (oo, tt) := ⟨_, _, rfl⟩
  have x1 := (aC_eq hq1 (aLamO_ext _ _ _)).2.2.2.2
  obtain ⟨o2, s2, hq2⟩ : ∃ oo tt, (aGate o1.isNone (aNode (0, f, 0, 0, 0))) s1 = (oo, tt) := ⟨_, _, rfl⟩
  have x2 := x1.tr ((aC_eq hq2 (aGate_ext (aNode_ext _) _ _)).2.2.2.2)
  obtain ⟨o3, s3, hq3⟩ : ∃ oo tt, (aGate o2.isNone (aNode (0, sL s0.1 f, 0, 0, 0))) s2 = (oo, tt) := ⟨_, _, rfl⟩
  have x3 := x2.tr ((aC_eq hq3 (aGate_ext (aNode_ext _) _ _)).2.2.2.2)
  obtain ⟨o4, s4, hq4⟩ : ∃ oo tt, (aAppO o2 o3) s3 = (oo, tt) := ⟨_, _, rfl⟩
  have x4 := x3.tr ((aC_eq hq4 (aAppO_ext _ _ _)).2.2.2.2)
  obtain ⟨o5, s5, hq5⟩ : ∃ oo tt, (aAppO o1 o4) s4 = (oo, tt) := ⟨_, _, rfl⟩
  have x5 := x4.tr ((aC_eq hq5 (aAppO_ext _ _ _)).2.2.2.2)
  rw [aFire_eq hq1 hq2 hq3 hq4 hq5]; exact x5
set_option maxHeartbeats 600000 in
set_option maxRecDepth 100000 in
theorem c_X3_fire (l : Launch) (G : rG) {n : Nat} {ad : Nat → Nat} {en : Nat → va_E} {s0 : NSt} {jd RR SL : Nat} {S : Nat → Nat → Bool} {sf : Nat → Int32} {o : Option Nat} (hW : PmW G n ad en s0 jd RR SL S sf o.isNone) {f gt : Nat} (hf : 1 ≤ f ∧ f ≤ s0.1.length) (h2 : 2 ≤ sSort s0.1 f) (ho : oNd s0 o gt) (hgt : 1 ≤ gt) : CI l G yX3_fire uX3_fire (5) (158) (aC (aFire f o) s0) (aS (aFire f o) s0) [.ref (ad 21), .int (nI f), .int (aR o)] (n) (n) ad en (aPostG G n jd RR SL S sf (aFire f o) s0 ad en) := by
  intro sz
  refine rMet (Qc := qI G (n) (aPostG G n jd RR SL S sf (aFire f o) s0 ad en)) (cc := cX3_fire) (maxL := 3) (ret := (some .int)) (by decide) rfl (Nat.le_of_ble_eq_true rfl) ?_
  intro pP eE sS mM aA bB tT cC ls A Q hc hK hsz hA hs hl hQ
  obtain ⟨hx, hb, hr, hts, hown, hlk, hnm, hml⟩ := hc
  have hl : lv_has ls 3 [(0, .ref (ad 21)), (1, .int (nI f)), (2, .int (aR o))] := hl
  obtain ⟨h0, hd0, hO0, hn0, he210⟩ := id hW
  obtain ⟨fst0, hest0⟩ : ∃ fs, en 3 = .inr (6, fs) := ⟨_, h0.2.1⟩
  obtain ⟨fnd0, hend0⟩ : ∃ fs, en 11 = .inr (2, fs) := ⟨_, hd0.2.1⟩
  have h6 := h0.2.2.2.2.2.1
  have h8 := hO0.1.1
  have x0 := sExt.rf s0
  have hn0_ : nsOK s0.1 s0.2 := hO0.1
  have hokk : ssOK s0.1 := h0.2.2.2.2.2
  obtain ⟨o1, s1, hq1⟩ : ∃ oo tt, (aLamO (sR s0.1 f) o) s0 = (oo, tt) := ⟨_, _, rfl⟩
  have hc1 := aC_eq hq1 (aLamO_ext _ _ _)
  have x1 := x0.tr hc1.2.2.2.2
  obtain ⟨o2, s2, hq2⟩ : ∃ oo tt, (aGate o1.isNone (aNode (0, f, 0, 0, 0))) s1 = (oo, tt) := ⟨_, _, rfl⟩
  have hc2 := aC_eq hq2 (aGate_ext (aNode_ext _) _ _)
  have x2 := x1.tr hc2.2.2.2.2
  obtain ⟨o3, s3, hq3⟩ : ∃ oo tt, (aGate o2.isNone (aNode (0, sL s0.1 f, 0, 0, 0))) s2 = (oo, tt) := ⟨_, _, rfl⟩
  have hc3 := aC_eq hq3 (aGate_ext (aNode_ext _) _ _)
  have x3 := x2.tr hc3.2.2.2.2
  obtain ⟨o4, s4, hq4⟩ : ∃ oo tt, (aAppO o2 o3) s3 = (oo, tt) := ⟨_, _, rfl⟩
  have hc4 := aC_eq hq4 (aAppO_ext _ _ _)
  have x4 := x3.tr hc4.2.2.2.2
  obtain ⟨o5, s5, hq5⟩ : ∃ oo tt, (aAppO o1 o4) s4 = (oo, tt) := ⟨_, _, rfl⟩
  have hc5 := aC_eq hq5 (aAppO_ext _ _ _)
  have x5 := x4.tr hc5.2.2.2.2
  have hE := aFire_eq hq1 hq2 hq3 hq4 hq5
  obtain ⟨hRC, hRS⟩ := aC_all hE x5
  obtain ⟨hL1, hR1⟩ := parts_of hokk hf h2
  refine lv_aload_n hx hb dX3_fire_0 rfl (lv_at hl 0 rfl) ?_
  refine lv_aload_n hx hb dX3_fire_1 rfl (lv_at hl 0 rfl) ?_
  refine lv_aload_n hx hb dX3_fire_2 rfl (lv_at hl 0 rfl) ?_
  refine r_get (ci := 3) (v := .ref (ad 3)) (C := RX3) (T := TX3) (N := 4) hx hb hts inlX3 hown hK hs (21) (by omega) he210 rfl 0 (by decide) (hts _ w_fl_RX3_15) rfl dX3_fire_3 ?_
  refine lv_iload_n hx hb dX3_fire_6 rfl (lv_at hl 1 rfl) ?_
  refine r_callViR (ci := 6) (As := [.int (nI f)]) hx hb hml hown hts hK hA hs (3) (by omega) hest0 rfl rfl (c_X6_rightOfN l G h0 f (by omega)) (cwV 1 hts (tbV w_ml_RX3_76 w_im_yX6_rightOf w_se_yX6_rightOf w_ini_RX6 w_cd_yX6_rightOf) rfl rfl rfl (by decide +kernel) ⟨Nat.le_of_ble_eq_true rfl, Nat.le_of_ble_eq_true rfl⟩) rfl hl.1 rfl (Nat.le_of_ble_eq_true rfl) dX3_fire_7 ⟨by show _ ≤ aC (aFire f o) s0; omega, by show _ ≤ aS (aFire f o) s0; omega⟩ (fun H locs hs => ?_)
  refine lv_iload_n hx hb dX3_fire_10 rfl (lv_at hl 2 rfl) ?_
  refine r_callVi (ci := 3) (As := [.int (nI (sR s0.1 f)), .int (aR o)]) hx hb hml hown hts hK hA hs (21) (by omega) he210 rfl rfl (c_X3_lambda l G (o := o) hW (a := sR s0.1 f) (by have := sExt_len x0; omega) (ho)) (cwV 2 hts (tbV w_ml_RX3_61 w_im_yX3_lambda w_se_yX3_lambda w_ini_RX3 w_cd_yX3_lambda) rfl rfl rfl (by decide +kernel) ⟨Nat.le_of_ble_eq_true rfl, Nat.le_of_ble_eq_true rfl⟩) rfl hl.1 rfl (Nat.le_of_ble_eq_true rfl) dX3_fire_11 ⟨by show _ ≤ aC (aFire f o) s0; omega, by show _ ≤ aS (aFire f o) s0; omega⟩ (fun r_4 ad_1 en_2 H locs hp_3 hs => ?_)
  obtain ⟨hr1, hW1, hf1⟩ := hp_3
  rw [hq1] at hr1 hW1
  have hW1 : PmW G n ad_1 en_2 s1 jd RR SL S sf o1.isNone := hW1
  have v1 := lamO_q hq1 (ho)
  rw [show r_4 = aR o1 from hr1]
  obtain ⟨hp_5, hdp_5, hOp_5, hnp_5, he21p_5⟩ := id hW1
  obtain ⟨fstp_5, hestp_5⟩ : ∃ fs, en_2 3 = .inr (6, fs) := ⟨_, hp_5.2.1⟩
  obtain ⟨fndp_5, hendp_5⟩ : ∃ fs, en_2 11 = .inr (2, fs) := ⟨_, hdp_5.2.1⟩
  have frp_5 := Fr_tr Fr_rf hf1
  have hl : lv_has ls 3 [(0, .ref (ad_1 21)), (1, .int (nI f)), (2, .int (aR o))] := by rw [hf1.1 21 (by omega) (by unfold pmA; omega)]; exact hl
  refine r_st (st2 := [.int (aR o1), .ref (ad_1 21)]) (by rw [hf1.1 21 (by omega) (by unfold pmA; omega)]) ?_
  have hn1_ : nsOK s1.1 s1.2 := hOp_5.1
  refine lv_aload_n hx hb dX3_fire_14 rfl (lv_at hl 0 rfl) ?_
  refine lv_aload_n hx hb dX3_fire_15 rfl (lv_at hl 0 rfl) ?_
  refine lv_iload_n hx hb dX3_fire_16 rfl (lv_at hl 1 rfl) ?_
  refine r_callVi (ci := 3) (As := [.int (nI f)]) hx hb hml hown hts hK hA hs (21) (by omega) he21p_5 rfl rfl (c_X3_given l G hW1 (f1 := f) (by have := sExt_len x1; omega)) (cwV 1 hts (tbV w_ml_RX3_49 w_im_yX3_given w_se_yX3_given w_ini_RX3 w_cd_yX3_given) rfl rfl rfl (by decide +kernel) ⟨Nat.le_of_ble_eq_true rfl, Nat.le_of_ble_eq_true rfl⟩) rfl hl.1 rfl (Nat.le_of_ble_eq_true rfl) dX3_fire_17 ⟨by show _ ≤ aC (aFire f o) s0; omega, by show _ ≤ aS (aFire f o) s0; omega⟩ (fun r_9 ad_6 en_7 H locs hp_8 hs => ?_)
  obtain ⟨hr2, hW2, hf2⟩ := hp_8
  rw [hq2] at hr2 hW2
  have hW2 : PmW G n ad_6 en_7 s2 jd RR SL S sf o2.isNone := hW2
  have v2 := gate_q hq2
  rw [show r_9 = aR o2 from hr2]
  obtain ⟨hp_10, hdp_10, hOp_10, hnp_10, he21p_10⟩ := id hW2
  obtain ⟨fstp_10, hestp_10⟩ : ∃ fs, en_7 3 = .inr (6, fs) := ⟨_, hp_10.2.1⟩
  obtain ⟨fndp_10, hendp_10⟩ : ∃ fs, en_7 11 = .inr (2, fs) := ⟨_, hdp_10.2.1⟩
  have frp_10 := Fr_tr frp_5 hf2
  have hl : lv_has ls 3 [(0, .ref (ad_6 21)), (1, .int (nI f)), (2, .int (aR o))] := by rw [hf2.1 21 (by omega) (by unfold pmA; omega)]; exact hl
  refine r_st (st2 := [.int (aR o2), .ref (ad_6 21), .int (aR o1), .ref (ad_6 21)]) (by rw [hf2.1 21 (by omega) (by unfold pmA; omega)]) ?_
  have hn2_ : nsOK s2.1 s2.2 := hOp_10.1
  refine lv_aload_n hx hb dX3_fire_20 rfl (lv_at hl 0 rfl) ?_
  refine lv_aload_n hx hb dX3_fire_21 rfl (lv_at hl 0 rfl) ?_
  refine r_get (ci := 3) (v := .ref (ad_6 3)) (C := RX3) (T := TX3) (N := 4) hx hb hts inlX3 hown hK hs (21) (by omega) he21p_10 rfl 0 (by decide) (hts _ w_fl_RX3_15) rfl dX3_fire_22 ?_
  refine lv_iload_n hx hb dX3_fire_25 rfl (lv_at hl 1 rfl) ?_
  refine r_callViR (ci := 6) (As := [.int (nI f)]) hx hb hml hown hts hK hA hs (3) (by omega) hestp_10 rfl rfl (c_X6_leftOfN l G hp_10 f (by omega)) (cwV 1 hts (tbV w_ml_RX3_56 w_im_yX6_leftOf w_se_yX6_leftOf w_ini_RX6 w_cd_yX6_leftOf) rfl rfl rfl (by decide +kernel) ⟨Nat.le_of_ble_eq_true rfl, Nat.le_of_ble_eq_true rfl⟩) rfl hl.1 rfl (Nat.le_of_ble_eq_true rfl) dX3_fire_26 ⟨by show _ ≤ aC (aFire f o) s0; omega, by show _ ≤ aS (aFire f o) s0; omega⟩ (fun H locs hs => ?_)
  refine r_topi (y := nI (sL s0.1 f)) (by rw [(sR_ext x2 hf.2).2]) ?_
  refine r_callVi (ci := 3) (As := [.int (nI (sL s0.1 f))]) hx hb hml hown hts hK hA hs (21) (by omega) he21p_10 rfl rfl (c_X3_given l G hW2 (f1 := sL s0.1 f) (by have := sExt_len x2; omega)) (cwV 1 hts (tbV w_ml_RX3_49 w_im_yX3_given w_se_yX3_given w_ini_RX3 w_cd_yX3_given) rfl rfl rfl (by decide +kernel) ⟨Nat.le_of_ble_eq_true rfl, Nat.le_of_ble_eq_true rfl⟩) rfl hl.1 rfl (Nat.le_of_ble_eq_true rfl) dX3_fire_29 ⟨by show _ ≤ aC (aFire f o) s0; omega, by show _ ≤ aS (aFire f o) s0; omega⟩ (fun r_14 ad_11 en_12 H locs hp_13 hs => ?_)
  obtain ⟨hr3, hW3, hf3⟩ := hp_13
  rw [hq3] at hr3 hW3
  have hW3 : PmW G n ad_11 en_12 s3 jd RR SL S sf o3.isNone := hW3
  have v3 := gate_q hq3
  rw [show r_14 = aR o3 from hr3]
  obtain ⟨hp_15, hdp_15, hOp_15, hnp_15, he21p_15⟩ := id hW3
  obtain ⟨fstp_15, hestp_15⟩ : ∃ fs, en_12 3 = .inr (6, fs) := ⟨_, hp_15.2.1⟩
  obtain ⟨fndp_15, hendp_15⟩ : ∃ fs, en_12 11 = .inr (2, fs) := ⟨_, hdp_15.2.1⟩
  have frp_15 := Fr_tr frp_10 hf3
  have hl : lv_has ls 3 [(0, .ref (ad_11 21)), (1, .int (nI f)), (2, .int (aR o))] := by rw [hf3.1 21 (by omega) (by unfold pmA; omega)]; exact hl
  refine r_st (st2 := [.int (aR o3), .int (aR o2), .ref (ad_11 21), .int (aR o1), .ref (ad_11 21)]) (by rw [hf3.1 21 (by omega) (by unfold pmA; omega)]) ?_
  have hn3_ : nsOK s3.1 s3.2 := hOp_15.1
  refine r_callVi (ci := 3) (As := [.int (aR o2), .int (aR o3)]) hx hb hml hown hts hK hA hs (21) (by omega) he21p_15 rfl rfl (c_X3_apply l G (o1 := o2) (o2 := o3) hW3 (fun _ _ => by rw [(sR_ext x3 hf.2).1]; exact hR1.1) (((v2.1).mono hc3.2.2.2.2).fn) ((v3.1).vd) (fun q => v3.2 (none_i (q)))) (cwV 2 hts (tbV w_ml_RX3_83 w_im_yX3_apply w_se_yX3_apply w_ini_RX3 w_cd_yX3_apply) rfl rfl rfl (by decide +kernel) ⟨Nat.le_of_ble_eq_true rfl, Nat.le_of_ble_eq_true rfl⟩) rfl hl.1 rfl (Nat.le_of_ble_eq_true rfl) dX3_fire_32 ⟨by show _ ≤ aC (aFire f o) s0; omega, by show _ ≤ aS (aFire f o) s0; omega⟩ (fun r_19 ad_16 en_17 H locs hp_18 hs => ?_)
  obtain ⟨hr4, hW4, hf4⟩ := hp_18
  rw [hq4] at hr4 hW4
  have hW4 : PmW G n ad_16 en_17 s4 jd RR SL S sf o4.isNone := hW4
  have v4 := appO_q hq4 (((v2.1).mono hc3.2.2.2.2).fn)
  rw [show r_19 = aR o4 from hr4]
  obtain ⟨hp_20, hdp_20, hOp_20, hnp_20, he21p_20⟩ := id hW4
  obtain ⟨fstp_20, hestp_20⟩ : ∃ fs, en_17 3 = .inr (6, fs) := ⟨_, hp_20.2.1⟩
  obtain ⟨fndp_20, hendp_20⟩ : ∃ fs, en_17 11 = .inr (2, fs) := ⟨_, hdp_20.2.1⟩
  have frp_20 := Fr_tr frp_15 hf4
  have hl : lv_has ls 3 [(0, .ref (ad_16 21)), (1, .int (nI f)), (2, .int (aR o))] := by rw [hf4.1 21 (by omega) (by unfold pmA; omega)]; exact hl
  refine r_st (st2 := [.int (aR o4), .int (aR o1), .ref (ad_16 21)]) (by rw [hf4.1 21 (by omega) (by unfold pmA; omega)]) ?_
  have hn4_ : nsOK s4.1 s4.2 := hOp_20.1
  refine r_callVi (ci := 3) (As := [.int (aR o1), .int (aR o4)]) hx hb hml hown hts hK hA hs (21) (by omega) he21p_20 rfl rfl (c_X3_apply l G (o1 := o1) (o2 := o4) hW4 (fun _ _ => hgt) ((((v1.1).mono hc2.2.2.2.2 hn1_).mono hc3.2.2.2.2 hn2_).mono hc4.2.2.2.2 hn3_) ((v4.1).vd) (fun q => v4.2 (v3.2 (none_i (v2.2 (none_i (q))))))) (cwV 2 hts (tbV w_ml_RX3_83 w_im_yX3_apply w_se_yX3_apply w_ini_RX3 w_cd_yX3_apply) rfl rfl rfl (by decide +kernel) ⟨Nat.le_of_ble_eq_true rfl, Nat.le_of_ble_eq_true rfl⟩) rfl hl.1 rfl (Nat.le_of_ble_eq_true rfl) dX3_fire_35 ⟨by show _ ≤ aC (aFire f o) s0; omega, by show _ ≤ aS (aFire f o) s0; omega⟩ (fun r_24 ad_21 en_22 H locs hp_23 hs => ?_)
  obtain ⟨hr5, hW5, hf5⟩ := hp_23
  rw [hq5] at hr5 hW5
  have hW5 : PmW G n ad_21 en_22 s5 jd RR SL S sf o5.isNone := hW5
  have v5 := appO_q hq5 ((((v1.1).mono hc2.2.2.2.2 hn1_).mono hc3.2.2.2.2 hn2_).mono hc4.2.2.2.2 hn3_)
  rw [show r_24 = aR o5 from hr5]
  obtain ⟨hp_25, hdp_25, hOp_25, hnp_25, he21p_25⟩ := id hW5
  obtain ⟨fstp_25, hestp_25⟩ : ∃ fs, en_22 3 = .inr (6, fs) := ⟨_, hp_25.2.1⟩
  obtain ⟨fndp_25, hendp_25⟩ : ∃ fs, en_22 11 = .inr (2, fs) := ⟨_, hdp_25.2.1⟩
  have frp_25 := Fr_tr frp_20 hf5
  have hl : lv_has ls 3 [(0, .ref (ad_21 21)), (1, .int (nI f)), (2, .int (aR o))] := by rw [hf5.1 21 (by omega) (by unfold pmA; omega)]; exact hl
  have hn5_ : nsOK s5.1 s5.2 := hOp_25.1
  refine r_iret (v := aR o5) (mc := aC (aFire f o) s0) (ms := aS (aFire f o) s0) hx hb hr hlk hs (by omega) (by omega) dX3_fire_38 hQ ?_
  exact aPostG.of hE hW5 frp_25 v5.1.vd x5
def aUnpack (f : Nat) (o : Option Nat) : Act := fun s =>
  let q1 := (aLamO (sR s.1 f) o) s
  let q2 := (aLamO (sL s.1 f) q1.1) q1.2
  let q3 := (aGate q2.1.isNone (aNode (0, f, 0, 0, 0))) q2.2
  let q4 := (aGate q3.1.isNone (aNode (4, sL s.1 f, q3.1.getD 0, 0, 0))) q3.2
  let q5 := (aAppO q2.1 q4.1) q4.2
  let q6 := (aGate q5.1.isNone (aNode (0, f, 0, 0, 0))) q5.2
  let q7 := (aGate q6.1.isNone (aNode (5, sR s.1 f, q6.1.getD 0, 0, 0))) q6.2
  (aAppO q5.1 q7.1) q7.2
theorem aUnpack_eq {f : Nat} {o : Option Nat} {o1 o2 o3 o4 o5 o6 o7 o8 : Option Nat} {s s1 s2 s3 s4 s5 s6 s7 s8 : NSt} (h1 : (aLamO (sR s.1 f) o) s = (o1, s1)) (h2 : (aLamO (sL s.1 f) o1) s1 = (o2, s2)) (h3 : (aGate o2.isNone (aNode (0, f, 0, 0, 0))) s2 = (o3, s3)) (h4 : (aGate o3.isNone (aNode (4, sL s.1 f, o3.getD 0, 0, 0))) s3 = (o4, s4)) (h5 : (aAppO o2 o4) s4 = (o5, s5)) (h6 : (aGate o5.isNone (aNode (0, f, 0, 0, 0))) s5 = (o6, s6)) (h7 : (aGate o6.isNone (aNode (5, sR s.1 f, o6.getD 0, 0, 0))) s6 = (o7, s7)) (h8 : (aAppO o5 o7) s7 = (o8, s8)) : aUnpack f o s = (o8, s8) := by
  unfold aUnpack
  simp only [h1, h2, h3, h4, h5, h6, h7, h8]
theorem aUnpack_ext (f : Nat) (o : Option Nat) (s0 : NSt) : sExt s0 (aUnpack f o s0).2 := by
  obtain ⟨o1, s1, hq1⟩ : ∃ oo tt, (aLamO (sR s0.1 f) o) s0 = (oo, tt) := ⟨_, _, rfl⟩
  have x1 := (aC_eq hq1 (aLamO_ext _ _ _)).2.2.2.2
  obtain ⟨o2, s2, hq2⟩ : ∃ oo tt, (aLamO (sL s0.1 f) o1) s1 = (oo, tt) := ⟨_, _, rfl⟩
  have x2 := x1.tr ((aC_eq hq2 (aLamO_ext _ _ _)).2.2.2.2)
  obtain ⟨o3, s3, hq3⟩ : ∃ oo tt, (aGate o2.isNone (aNode (0, f, 0, 0, 0))) s2 = (oo, tt) := ⟨_, _, rfl⟩
  have x3 := x2.tr ((aC_eq hq3 (aGate_ext (aNode_ext _) _ _)).2.2.2.2)
  obtain ⟨o4, s4, hq4⟩ : ∃ oo tt, (aGate o3.isNone (aNode (4, sL s0.1 f, o3.getD 0, 0, 0))) s3 = (oo, tt) := ⟨_, _, rfl⟩
  have x4 := x3.tr ((aC_eq hq4 (aGate_ext (aNode_ext _) _ _)).2.2.2.2)
  obtain ⟨o5, s5, hq5⟩ : ∃ oo tt, (aAppO o2 o4) s4 = (oo, tt) := ⟨_, _, rfl⟩
  have x5 := x4.tr ((aC_eq hq5 (aAppO_ext _ _ _)).2.2.2.2)
  obtain ⟨o6, s6, hq6⟩ : ∃ oo tt, (aGate o5.isNone (aNode (0, f, 0, 0, 0))) s5 = (oo, tt) := ⟨_, _, rfl⟩
  have x6 := x5.tr ((aC_eq hq6 (aGate_ext (aNode_ext _) _ _)).2.2.2.2)
  obtain ⟨o7, s7, hq7⟩ : ∃ oo tt, (aGate o6.isNone (aNode (5, sR s0.1 f, o6.getD 0, 0, 0))) s6 = (oo, tt) := ⟨_, _, rfl⟩
  have x7 := x6.tr ((aC_eq hq7 (aGate_ext (aNode_ext _) _ _)).2.2.2.2)
  obtain ⟨o8, s8, hq8⟩ : ∃ oo tt, (aAppO o5 o7) s7 = (oo, tt) := ⟨_, _, rfl⟩
  have x8 := x7.tr ((aC_eq hq8 (aAppO_ext _ _ _)).2.2.2.2)
  rw [aUnpack_eq hq1 hq2 hq3 hq4 hq5 hq6 hq7 hq8]; exact x8
set_option maxHeartbeats 600000 in
set_option maxRecDepth 100000 in
theorem c_X3_unpack (l : Launch) (G : rG) {n : Nat} {ad : Nat → Nat} {en : Nat → va_E} {s0 : NSt} {jd RR SL : Nat} {S : Nat → Nat → Bool} {sf : Nat → Int32} {o : Option Nat} (hW : PmW G n ad en s0 jd RR SL S sf o.isNone) {f gt : Nat} (hf : 1 ≤ f ∧ f ≤ s0.1.length) (h2 : 2 ≤ sSort s0.1 f) (ho : oNd s0 o gt) (hgt : 1 ≤ gt) : CI l G yX3_unpack uX3_unpack (5) (168) (aC (aUnpack f o) s0) (aS (aUnpack f o) s0) [.ref (ad 21), .int (nI f), .int (aR o)] (n) (n) ad en (aPostG G n jd RR SL S sf (aUnpack f o) s0 ad en) := by
  intro sz
  refine rMet (Qc := qI G (n) (aPostG G n jd RR SL S sf (aUnpack f o) s0 ad en)) (cc := cX3_unpack) (maxL := 5) (ret := (some .int)) (by decide) rfl (Nat.le_of_ble_eq_true rfl) ?_
  intro pP eE sS mM aA bB tT cC ls A Q hc hK hsz hA hs hl hQ
  obtain ⟨hx, hb, hr, hts, hown, hlk, hnm, hml⟩ := hc
  have hl : lv_has ls 5 [(0, .ref (ad 21)), (1, .int (nI f)), (2, .int (aR o))] := hl
  obtain ⟨h0, hd0, hO0, hn0, he210⟩ := id hW
  obtain ⟨fst0, hest0⟩ : ∃ fs, en 3 = .inr (6, fs) := ⟨_, h0.2.1⟩
  obtain ⟨fnd0, hend0⟩ : ∃ fs, en 11 = .inr (2, fs) := ⟨_, hd0.2.1⟩
  have h6 := h0.2.2.2.2.2.1
  have h8 := hO0.1.1
  have x0 := sExt.rf s0
  have hn0_ : nsOK s0.1 s0.2 := hO0.1
  have hokk : ssOK s0.1 := h0.2.2.2.2.2
  obtain ⟨o1, s1, hq1⟩ : ∃ oo tt, (aLamO (sR s0.1 f) o) s0 = (oo, tt) := ⟨_, _, rfl⟩
  have hc1 := aC_eq hq1 (aLamO_ext _ _ _)
  have x1 := x0.tr hc1.2.2.2.2
  obtain ⟨o2, s2, hq2⟩ : ∃ oo tt, (aLamO (sL s0.1 f) o1) s1 = (oo, tt) := ⟨_, _, rfl⟩
  have hc2 := aC_eq hq2 (aLamO_ext _ _ _)
  have x2 := x1.tr hc2.2.2.2.2
  obtain ⟨o3, s3, hq3⟩ : ∃ oo tt, (aGate o2.isNone (aNode (0, f, 0, 0, 0))) s2 = (oo, tt) := ⟨_, _, rfl⟩
  have hc3 := aC_eq hq3 (aGate_ext (aNode_ext _) _ _)
  have x3 := x2.tr hc3.2.2.2.2
  obtain ⟨o4, s4, hq4⟩ : ∃ oo tt, (aGate o3.isNone (aNode (4, sL s0.1 f, o3.getD 0, 0, 0))) s3 = (oo, tt) := ⟨_, _, rfl⟩
  have hc4 := aC_eq hq4 (aGate_ext (aNode_ext _) _ _)
  have x4 := x3.tr hc4.2.2.2.2
  obtain ⟨o5, s5, hq5⟩ : ∃ oo tt, (aAppO o2 o4) s4 = (oo, tt) := ⟨_, _, rfl⟩
  have hc5 := aC_eq hq5 (aAppO_ext _ _ _)
  have x5 := x4.tr hc5.2.2.2.2
  obtain ⟨o6, s6, hq6⟩ : ∃ oo tt, (aGate o5.isNone (aNode (0, f, 0, 0, 0))) s5 = (oo, tt) := ⟨_, _, rfl⟩
  have hc6 := aC_eq hq6 (aGate_ext (aNode_ext _) _ _)
  have x6 := x5.tr hc6.2.2.2.2
  obtain ⟨o7, s7, hq7⟩ : ∃ oo tt, (aGate o6.isNone (aNode (5, sR s0.1 f, o6.getD 0, 0, 0))) s6 = (oo, tt) := ⟨_, _, rfl⟩
  have hc7 := aC_eq hq7 (aGate_ext (aNode_ext _) _ _)
  have x7 := x6.tr hc7.2.2.2.2
  obtain ⟨o8, s8, hq8⟩ : ∃ oo tt, (aAppO o5 o7) s7 = (oo, tt) := ⟨_, _, rfl⟩
  have hc8 := aC_eq hq8 (aAppO_ext _ _ _)
  have x8 := x7.tr hc8.2.2.2.2
  have hE := aUnpack_eq hq1 hq2 hq3 hq4 hq5 hq6 hq7 hq8
  obtain ⟨hRC, hRS⟩ := aC_all hE x8
  obtain ⟨hL1, hR1⟩ := parts_of hokk hf h2
  refine lv_aload_n hx hb dX3_unpack_0 rfl (lv_at hl 0 rfl) ?_
  refine r_get (ci := 3) (v := .ref (ad 3)) (C := RX3) (T := TX3) (N := 4) hx hb hts inlX3 hown hK hs (21) (by omega) he210 rfl 0 (by decide) (hts _ w_fl_RX3_15) rfl dX3_unpack_1 ?_
  refine lv_iload_n hx hb dX3_unpack_4 rfl (lv_at hl 1 rfl) ?_
  refine r_callViR (ci := 6) (As := [.int (nI f)]) hx hb hml hown hts hK hA hs (3) (by omega) hest0 rfl rfl (c_X6_leftOfN l G h0 f (by omega)) (cwV 1 hts (tbV w_ml_RX3_56 w_im_yX6_leftOf w_se_yX6_leftOf w_ini_RX6 w_cd_yX6_leftOf) rfl rfl rfl (by decide +kernel) ⟨Nat.le_of_ble_eq_true rfl, Nat.le_of_ble_eq_true rfl⟩) rfl hl.1 rfl (Nat.le_of_ble_eq_true rfl) dX3_unpack_5 ⟨by show _ ≤ aC (aUnpack f o) s0; omega, by show _ ≤ aS (aUnpack f o) s0; omega⟩ (fun H locs hs => ?_)
  refine lv_istore_n (lv' := [(3, .int (nI (sL s0.1 f))), (0, .ref (ad 21)), (1, .int (nI f)), (2, .int (aR o))]) hx hb dX3_unpack_8 rfl hl (by decide) rfl (fun ls hl => ?_)
  refine lv_aload_n hx hb dX3_unpack_9 rfl (lv_at hl 1 rfl) ?_
  refine r_get (ci := 3) (v := .ref (ad 3)) (C := RX3) (T := TX3) (N := 4) hx hb hts inlX3 hown hK hs (21) (by omega) he210 rfl 0 (by decide) (hts _ w_fl_RX3_15) rfl dX3_unpack_10 ?_
  refine lv_iload_n hx hb dX3_unpack_13 rfl (lv_at hl 2 rfl) ?_
  refine r_callViR (ci := 6) (As := [.int (nI f)]) hx hb hml hown hts hK hA hs (3) (by omega) hest0 rfl rfl (c_X6_rightOfN l G h0 f (by omega)) (cwV 1 hts (tbV w_ml_RX3_76 w_im_yX6_rightOf w_se_yX6_rightOf w_ini_RX6 w_cd_yX6_rightOf) rfl rfl rfl (by decide +kernel) ⟨Nat.le_of_ble_eq_true rfl, Nat.le_of_ble_eq_true rfl⟩) rfl hl.1 rfl (Nat.le_of_ble_eq_true rfl) dX3_unpack_14 ⟨by show _ ≤ aC (aUnpack f o) s0; omega, by show _ ≤ aS (aUnpack f o) s0; omega⟩ (fun H locs hs => ?_)
  refine lv_istore (lv' := [(4, .int (nI (sR s0.1 f))), (3, .int (nI (sL s0.1 f))), (0, .ref (ad 21)), (1, .int (nI f)), (2, .int (aR o))]) hx hb dX3_unpack_17 hl (by decide) rfl (fun ls hl => ?_)
  refine lv_aload_n hx hb dX3_unpack_19 rfl (lv_at hl 2 rfl) ?_
  refine lv_aload_n hx hb dX3_unpack_20 rfl (lv_at hl 2 rfl) ?_
  refine lv_aload_n hx hb dX3_unpack_21 rfl (lv_at hl 2 rfl) ?_
  refine lv_iload_n hx hb dX3_unpack_22 rfl (lv_at hl 1 rfl) ?_
  refine lv_aload_n hx hb dX3_unpack_23 rfl (lv_at hl 2 rfl) ?_
  refine lv_iload hx hb dX3_unpack_24 (lv_at hl 0 rfl) ?_
  refine lv_iload_n hx hb dX3_unpack_26 rfl (lv_at hl 4 rfl) ?_
  refine r_callVi (ci := 3) (As := [.int (nI (sR s0.1 f)), .int (aR o)]) hx hb hml hown hts hK hA hs (21) (by omega) he210 rfl rfl (c_X3_lambda l G (o := o) hW (a := sR s0.1 f) (by have := sExt_len x0; omega) (ho)) (cwV 2 hts (tbV w_ml_RX3_61 w_im_yX3_lambda w_se_yX3_lambda w_ini_RX3 w_cd_yX3_lambda) rfl rfl rfl (by decide +kernel) ⟨Nat.le_of_ble_eq_true rfl, Nat.le_of_ble_eq_true rfl⟩) rfl hl.1 rfl (Nat.le_of_ble_eq_true rfl) dX3_unpack_27 ⟨by show _ ≤ aC (aUnpack f o) s0; omega, by show _ ≤ aS (aUnpack f o) s0; omega⟩ (fun r_4 ad_1 en_2 H locs hp_3 hs => ?_)
  obtain ⟨hr1, hW1, hf1⟩ := hp_3
  rw [hq1] at hr1 hW1
  have hW1 : PmW G n ad_1 en_2 s1 jd RR SL S sf o1.isNone := hW1
  have v1 := lamO_q hq1 (ho)
  rw [show r_4 = aR o1 from hr1]
  obtain ⟨hp_5, hdp_5, hOp_5, hnp_5, he21p_5⟩ := id hW1
  obtain ⟨fstp_5, hestp_5⟩ : ∃ fs, en_2 3 = .inr (6, fs) := ⟨_, hp_5.2.1⟩
  obtain ⟨fndp_5, hendp_5⟩ : ∃ fs, en_2 11 = .inr (2, fs) := ⟨_, hdp_5.2.1⟩
  have frp_5 := Fr_tr Fr_rf hf1
  have hl : lv_has ls 5 [(4, .int (nI (sR s0.1 f))), (3, .int (nI (sL s0.1 f))), (0, .ref (ad_1 21)), (1, .int (nI f)), (2, .int (aR o))] := by rw [hf1.1 21 (by omega) (by unfold pmA; omega)]; exact hl
  refine r_st (st2 := [.int (aR o1), .int (nI (sL s0.1 f)), .ref (ad_1 21), .ref (ad_1 21), .ref (ad_1 21)]) (by rw [hf1.1 21 (by omega) (by unfold pmA; omega)]) ?_
  have hn1_ : nsOK s1.1 s1.2 := hOp_5.1
  refine r_callVi (ci := 3) (As := [.int (nI (sL s0.1 f)), .int (aR o1)]) hx hb hml hown hts hK hA hs (21) (by omega) he21p_5 rfl rfl (c_X3_lambda l G (o := o1) hW1 (a := sL s0.1 f) (by have := sExt_len x1; omega) ((v1.1).self)) (cwV 2 hts (tbV w_ml_RX3_61 w_im_yX3_lambda w_se_yX3_lambda w_ini_RX3 w_cd_yX3_lambda) rfl rfl rfl (by decide +kernel) ⟨Nat.le_of_ble_eq_true rfl, Nat.le_of_ble_eq_true rfl⟩) rfl hl.1 rfl (Nat.le_of_ble_eq_true rfl) dX3_unpack_30 ⟨by show _ ≤ aC (aUnpack f o) s0; omega, by show _ ≤ aS (aUnpack f o) s0; omega⟩ (fun r_9 ad_6 en_7 H locs hp_8 hs => ?_)
  obtain ⟨hr2, hW2, hf2⟩ := hp_8
  rw [hq2] at hr2 hW2
  have hW2 : PmW G n ad_6 en_7 s2 jd RR SL S sf o2.isNone := hW2
  have v2 := lamO_q hq2 ((v1.1).self)
  rw [show r_9 = aR o2 from hr2]
  obtain ⟨hp_10, hdp_10, hOp_10, hnp_10, he21p_10⟩ := id hW2
  obtain ⟨fstp_10, hestp_10⟩ : ∃ fs, en_7 3 = .inr (6, fs) := ⟨_, hp_10.2.1⟩
  obtain ⟨fndp_10, hendp_10⟩ : ∃ fs, en_7 11 = .inr (2, fs) := ⟨_, hdp_10.2.1⟩
  have frp_10 := Fr_tr frp_5 hf2
  have hl : lv_has ls 5 [(4, .int (nI (sR s0.1 f))), (3, .int (nI (sL s0.1 f))), (0, .ref (ad_6 21)), (1, .int (nI f)), (2, .int (aR o))] := by rw [hf2.1 21 (by omega) (by unfold pmA; omega)]; exact hl
  refine r_st (st2 := [.int (aR o2), .ref (ad_6 21), .ref (ad_6 21)]) (by rw [hf2.1 21 (by omega) (by unfold pmA; omega)]) ?_
  have hn2_ : nsOK s2.1 s2.2 := hOp_10.1
  refine lv_aload_n hx hb dX3_unpack_33 rfl (lv_at hl 2 rfl) ?_
  refine lv_iconst (v := 4) hx hb dX3_unpack_34 (by decide) ?_
  refine lv_iload_n hx hb dX3_unpack_35 rfl (lv_at hl 1 rfl) ?_
  refine lv_aload_n hx hb dX3_unpack_36 rfl (lv_at hl 2 rfl) ?_
  refine lv_iload_n hx hb dX3_unpack_37 rfl (lv_at hl 3 rfl) ?_
  refine r_callVi (ci := 3) (As := [.int (nI f)]) hx hb hml hown hts hK hA hs (21) (by omega) he21p_10 rfl rfl (c_X3_given l G hW2 (f1 := f) (by have := sExt_len x2; omega)) (cwV 1 hts (tbV w_ml_RX3_49 w_im_yX3_given w_se_yX3_given w_ini_RX3 w_cd_yX3_given) rfl rfl rfl (by decide +kernel) ⟨Nat.le_of_ble_eq_true rfl, Nat.le_of_ble_eq_true rfl⟩) rfl hl.1 rfl (Nat.le_of_ble_eq_true rfl) dX3_unpack_38 ⟨by show _ ≤ aC (aUnpack f o) s0; omega, by show _ ≤ aS (aUnpack f o) s0; omega⟩ (fun r_14 ad_11 en_12 H locs hp_13 hs => ?_)
  obtain ⟨hr3, hW3, hf3⟩ := hp_13
  rw [hq3] at hr3 hW3
  have hW3 : PmW G n ad_11 en_12 s3 jd RR SL S sf o3.isNone := hW3
  have v3 := gate_q hq3
  rw [show r_14 = aR o3 from hr3]
  obtain ⟨hp_15, hdp_15, hOp_15, hnp_15, he21p_15⟩ := id hW3
  obtain ⟨fstp_15, hestp_15⟩ : ∃ fs, en_12 3 = .inr (6, fs) := ⟨_, hp_15.2.1⟩
  obtain ⟨fndp_15, hendp_15⟩ : ∃ fs, en_12 11 = .inr (2, fs) := ⟨_, hdp_15.2.1⟩
  have frp_15 := Fr_tr frp_10 hf3
  have hl : lv_has ls 5 [(4, .int (nI (sR s0.1 f))), (3, .int (nI (sL s0.1 f))), (0, .ref (ad_11 21)), (1, .int (nI f)), (2, .int (aR o))] := by rw [hf3.1 21 (by omega) (by unfold pmA; omega)]; exact hl
  refine r_st (st2 := [.int (aR o3), .int (nI (sL s0.1 f)), .int (4), .ref (ad_11 21), .int (aR o2), .ref (ad_11 21), .ref (ad_11 21)]) (by rw [hf3.1 21 (by omega) (by unfold pmA; omega)]) ?_
  have hn3_ : nsOK s3.1 s3.2 := hOp_15.1
  refine lv_iconst (v := 0) hx hb dX3_unpack_41 (by decide) ?_
  refine lv_iconst (v := 0) hx hb dX3_unpack_42 (by decide) ?_
  refine r_callVi (ci := 3) (As := [.int (4), .int (nI (sL s0.1 f)), .int (aR o3), .int (0), .int (0)]) hx hb hml hown hts hK hA hs (21) (by omega) he21p_15 rfl rfl (c_X3_make1 l G (o := o3) hW3 (tg := 4) (gl := sL s0.1 f) (by decide) (by have := sExt_len x3; omega) ((v3.1).vd)) (cwV 5 hts (tbV w_ml_RX3_52 w_im_yX3_make w_se_yX3_make w_ini_RX3 w_cd_yX3_make) rfl rfl rfl (by decide +kernel) ⟨Nat.le_of_ble_eq_true rfl, Nat.le_of_ble_eq_true rfl⟩) rfl hl.1 rfl (Nat.le_of_ble_eq_true rfl) dX3_unpack_43 ⟨by show _ ≤ aC (aUnpack f o) s0; omega, by show _ ≤ aS (aUnpack f o) s0; omega⟩ (fun r_19 ad_16 en_17 H locs hp_18 hs => ?_)
  obtain ⟨hr4, hW4, hf4⟩ := hp_18
  rw [hq4] at hr4 hW4
  have hW4 : PmW G n ad_16 en_17 s4 jd RR SL S sf o4.isNone := hW4
  have v4 := gate_q hq4
  rw [show r_19 = aR o4 from hr4]
  obtain ⟨hp_20, hdp_20, hOp_20, hnp_20, he21p_20⟩ := id hW4
  obtain ⟨fstp_20, hestp_20⟩ : ∃ fs, en_17 3 = .inr (6, fs) := ⟨_, hp_20.2.1⟩
  obtain ⟨fndp_20, hendp_20⟩ : ∃ fs, en_17 11 = .inr (2, fs) := ⟨_, hdp_20.2.1⟩
  have frp_20 := Fr_tr frp_15 hf4
  have hl : lv_has ls 5 [(4, .int (nI (sR s0.1 f))), (3, .int (nI (sL s0.1 f))), (0, .ref (ad_16 21)), (1, .int (nI f)), (2, .int (aR o))] := by rw [hf4.1 21 (by omega) (by unfold pmA; omega)]; exact hl
  refine r_st (st2 := [.int (aR o4), .int (aR o2), .ref (ad_16 21), .ref (ad_16 21)]) (by rw [hf4.1 21 (by omega) (by unfold pmA; omega)]) ?_
  have hn4_ : nsOK s4.1 s4.2 := hOp_20.1
  refine r_callVi (ci := 3) (As := [.int (aR o2), .int (aR o4)]) hx hb hml hown hts hK hA hs (21) (by omega) he21p_20 rfl rfl (c_X3_apply l G (o1 := o2) (o2 := o4) hW4 (fun u hu => low_g v1.1 hn1_ (up_s v2.2 (up_n v3.2 (up_n v4.2 (⟨u, hu⟩))))) (((v2.1).mono hc3.2.2.2.2 hn2_).mono hc4.2.2.2.2 hn3_) ((v4.1).vd) (fun q => v4.2 (none_i (v3.2 (none_i (q)))))) (cwV 2 hts (tbV w_ml_RX3_83 w_im_yX3_apply w_se_yX3_apply w_ini_RX3 w_cd_yX3_apply) rfl rfl rfl (by decide +kernel) ⟨Nat.le_of_ble_eq_true rfl, Nat.le_of_ble_eq_true rfl⟩) rfl hl.1 rfl (Nat.le_of_ble_eq_true rfl) dX3_unpack_46 ⟨by show _ ≤ aC (aUnpack f o) s0; omega, by show _ ≤ aS (aUnpack f o) s0; omega⟩ (fun r_24 ad_21 en_22 H locs hp_23 hs => ?_)
  obtain ⟨hr5, hW5, hf5⟩ := hp_23
  rw [hq5] at hr5 hW5
  have hW5 : PmW G n ad_21 en_22 s5 jd RR SL S sf o5.isNone := hW5
  have v5 := appO_q hq5 (((v2.1).mono hc3.2.2.2.2 hn2_).mono hc4.2.2.2.2 hn3_)
  rw [show r_24 = aR o5 from hr5]
  obtain ⟨hp_25, hdp_25, hOp_25, hnp_25, he21p_25⟩ := id hW5
  obtain ⟨fstp_25, hestp_25⟩ : ∃ fs, en_22 3 = .inr (6, fs) := ⟨_, hp_25.2.1⟩
  obtain ⟨fndp_25, hendp_25⟩ : ∃ fs, en_22 11 = .inr (2, fs) := ⟨_, hdp_25.2.1⟩
  have frp_25 := Fr_tr frp_20 hf5
  have hl : lv_has ls 5 [(4, .int (nI (sR s0.1 f))), (3, .int (nI (sL s0.1 f))), (0, .ref (ad_21 21)), (1, .int (nI f)), (2, .int (aR o))] := by rw [hf5.1 21 (by omega) (by unfold pmA; omega)]; exact hl
  refine r_st (st2 := [.int (aR o5), .ref (ad_21 21)]) (by rw [hf5.1 21 (by omega) (by unfold pmA; omega)]) ?_
  have hn5_ : nsOK s5.1 s5.2 := hOp_25.1
  refine lv_aload_n hx hb dX3_unpack_49 rfl (lv_at hl 2 rfl) ?_
  refine lv_iconst (v := 5) hx hb dX3_unpack_50 (by decide) ?_
  refine lv_iload hx hb dX3_unpack_51 (lv_at hl 0 rfl) ?_
  refine lv_aload_n hx hb dX3_unpack_53 rfl (lv_at hl 2 rfl) ?_
  refine lv_iload_n hx hb dX3_unpack_54 rfl (lv_at hl 3 rfl) ?_
  refine r_callVi (ci := 3) (As := [.int (nI f)]) hx hb hml hown hts hK hA hs (21) (by omega) he21p_25 rfl rfl (c_X3_given l G hW5 (f1 := f) (by have := sExt_len x5; omega)) (cwV 1 hts (tbV w_ml_RX3_49 w_im_yX3_given w_se_yX3_given w_ini_RX3 w_cd_yX3_given) rfl rfl rfl (by decide +kernel) ⟨Nat.le_of_ble_eq_true rfl, Nat.le_of_ble_eq_true rfl⟩) rfl hl.1 rfl (Nat.le_of_ble_eq_true rfl) dX3_unpack_55 ⟨by show _ ≤ aC (aUnpack f o) s0; omega, by show _ ≤ aS (aUnpack f o) s0; omega⟩ (fun r_29 ad_26 en_27 H locs hp_28 hs => ?_)
  obtain ⟨hr6, hW6, hf6⟩ := hp_28
  rw [hq6] at hr6 hW6
  have hW6 : PmW G n ad_26 en_27 s6 jd RR SL S sf o6.isNone := hW6
  have v6 := gate_q hq6
  rw [show r_29 = aR o6 from hr6]
  obtain ⟨hp_30, hdp_30, hOp_30, hnp_30, he21p_30⟩ := id hW6
  obtain ⟨fstp_30, hestp_30⟩ : ∃ fs, en_27 3 = .inr (6, fs) := ⟨_, hp_30.2.1⟩
  obtain ⟨fndp_30, hendp_30⟩ : ∃ fs, en_27 11 = .inr (2, fs) := ⟨_, hdp_30.2.1⟩
  have frp_30 := Fr_tr frp_25 hf6
  have hl : lv_has ls 5 [(4, .int (nI (sR s0.1 f))), (3, .int (nI (sL s0.1 f))), (0, .ref (ad_26 21)), (1, .int (nI f)), (2, .int (aR o))] := by rw [hf6.1 21 (by omega) (by unfold pmA; omega)]; exact hl
  refine r_st (st2 := [.int (aR o6), .int (nI (sR s0.1 f)), .int (5), .ref (ad_26 21), .int (aR o5), .ref (ad_26 21)]) (by rw [hf6.1 21 (by omega) (by unfold pmA; omega)]) ?_
  have hn6_ : nsOK s6.1 s6.2 := hOp_30.1
  refine lv_iconst (v := 0) hx hb dX3_unpack_58 (by decide) ?_
  refine lv_iconst (v := 0) hx hb dX3_unpack_59 (by decide) ?_
  refine r_callVi (ci := 3) (As := [.int (5), .int (nI (sR s0.1 f)), .int (aR o6), .int (0), .int (0)]) hx hb hml hown hts hK hA hs (21) (by omega) he21p_30 rfl rfl (c_X3_make1 l G (o := o6) hW6 (tg := 5) (gl := sR s0.1 f) (by decide) (by have := sExt_len x6; omega) ((v6.1).vd)) (cwV 5 hts (tbV w_ml_RX3_52 w_im_yX3_make w_se_yX3_make w_ini_RX3 w_cd_yX3_make) rfl rfl rfl (by decide +kernel) ⟨Nat.le_of_ble_eq_true rfl, Nat.le_of_ble_eq_true rfl⟩) rfl hl.1 rfl (Nat.le_of_ble_eq_true rfl) dX3_unpack_60 ⟨by show _ ≤ aC (aUnpack f o) s0; omega, by show _ ≤ aS (aUnpack f o) s0; omega⟩ (fun r_34 ad_31 en_32 H locs hp_33 hs => ?_)
  obtain ⟨hr7, hW7, hf7⟩ := hp_33
  rw [hq7] at hr7 hW7
  have hW7 : PmW G n ad_31 en_32 s7 jd RR SL S sf o7.isNone := hW7
  have v7 := gate_q hq7
  rw [show r_34 = aR o7 from hr7]
  obtain ⟨hp_35, hdp_35, hOp_35, hnp_35, he21p_35⟩ := id hW7
  obtain ⟨fstp_35, hestp_35⟩ : ∃ fs, en_32 3 = .inr (6, fs) := ⟨_, hp_35.2.1⟩
  obtain ⟨fndp_35, hendp_35⟩ : ∃ fs, en_32 11 = .inr (2, fs) := ⟨_, hdp_35.2.1⟩
  have frp_35 := Fr_tr frp_30 hf7
  have hl : lv_has ls 5 [(4, .int (nI (sR s0.1 f))), (3, .int (nI (sL s0.1 f))), (0, .ref (ad_31 21)), (1, .int (nI f)), (2, .int (aR o))] := by rw [hf7.1 21 (by omega) (by unfold pmA; omega)]; exact hl
  refine r_st (st2 := [.int (aR o7), .int (aR o5), .ref (ad_31 21)]) (by rw [hf7.1 21 (by omega) (by unfold pmA; omega)]) ?_
  have hn7_ : nsOK s7.1 s7.2 := hOp_35.1
  refine r_callVi (ci := 3) (As := [.int (aR o5), .int (aR o7)]) hx hb hml hown hts hK hA hs (21) (by omega) he21p_35 rfl rfl (c_X3_apply l G (o1 := o5) (o2 := o7) hW7 (fun u hu => by rw [hi_g v1.1 hn1_ (((((((sExt.rf s1).tr hc2.2.2.2.2).tr hc3.2.2.2.2).tr hc4.2.2.2.2).tr hc5.2.2.2.2).tr hc6.2.2.2.2).tr hc7.2.2.2.2) (up_s v2.2 (up_n v3.2 (up_n v4.2 (up_s v5.2 (up_n v6.2 (up_n v7.2 (⟨u, hu⟩)))))))]; exact hgt) ((((v5.1).mono hc6.2.2.2.2).mono hc7.2.2.2.2).fn) ((v7.1).vd) (fun q => v7.2 (none_i (v6.2 (none_i (q)))))) (cwV 2 hts (tbV w_ml_RX3_83 w_im_yX3_apply w_se_yX3_apply w_ini_RX3 w_cd_yX3_apply) rfl rfl rfl (by decide +kernel) ⟨Nat.le_of_ble_eq_true rfl, Nat.le_of_ble_eq_true rfl⟩) rfl hl.1 rfl (Nat.le_of_ble_eq_true rfl) dX3_unpack_63 ⟨by show _ ≤ aC (aUnpack f o) s0; omega, by show _ ≤ aS (aUnpack f o) s0; omega⟩ (fun r_39 ad_36 en_37 H locs hp_38 hs => ?_)
  obtain ⟨hr8, hW8, hf8⟩ := hp_38
  rw [hq8] at hr8 hW8
  have hW8 : PmW G n ad_36 en_37 s8 jd RR SL S sf o8.isNone := hW8
  have v8 := appO_q hq8 ((((v5.1).mono hc6.2.2.2.2).mono hc7.2.2.2.2).fn)
  rw [show r_39 = aR o8 from hr8]
  obtain ⟨hp_40, hdp_40, hOp_40, hnp_40, he21p_40⟩ := id hW8
  obtain ⟨fstp_40, hestp_40⟩ : ∃ fs, en_37 3 = .inr (6, fs) := ⟨_, hp_40.2.1⟩
  obtain ⟨fndp_40, hendp_40⟩ : ∃ fs, en_37 11 = .inr (2, fs) := ⟨_, hdp_40.2.1⟩
  have frp_40 := Fr_tr frp_35 hf8
  have hl : lv_has ls 5 [(4, .int (nI (sR s0.1 f))), (3, .int (nI (sL s0.1 f))), (0, .ref (ad_36 21)), (1, .int (nI f)), (2, .int (aR o))] := by rw [hf8.1 21 (by omega) (by unfold pmA; omega)]; exact hl
  have hn8_ : nsOK s8.1 s8.2 := hOp_40.1
  refine r_iret (v := aR o8) (mc := aC (aUnpack f o) s0) (ms := aS (aUnpack f o) s0) hx hb hr hlk hs (by omega) (by omega) dX3_unpack_66 hQ ?_
  exact aPostG.of hE hW8 frp_40 v8.1.vd x8

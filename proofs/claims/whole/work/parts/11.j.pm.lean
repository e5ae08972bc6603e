def aRejoin (f g h : Nat) (o : Option Nat) : Act := fun s =>
  let q1 := (aLamO (h) o) s
  let q2 := (aLamO (g) q1.1) q1.2
  let q3 := (aGate q2.1.isNone (aNode (0, f, 0, 0, 0))) q2.2
  let q4 := (aGate q3.1.isNone (aNode (0, sL s.1 (sL s.1 f), 0, 0, 0))) q3.2
  let q5 := (aGate q4.1.isNone (aNode (6, sL s.1 f, q4.1.getD 0, 0, 0))) q4.2
  let q6 := (aAppO q3.1 q5.1) q5.2
  let q7 := (aLamO (sL s.1 (sL s.1 f)) q6.1) q6.2
  let q8 := (aAppO q2.1 q7.1) q7.2
  let q9 := (aGate q8.1.isNone (aNode (0, f, 0, 0, 0))) q8.2
  let q10 := (aGate q9.1.isNone (aNode (0, sR s.1 (sL s.1 f), 0, 0, 0))) q9.2
  let q11 := (aGate q10.1.isNone (aNode (7, sL s.1 f, q10.1.getD 0, 0, 0))) q10.2
  let q12 := (aAppO q9.1 q11.1) q11.2
  let q13 := (aLamO (sR s.1 (sL s.1 f)) q12.1) q12.2
  (aAppO q8.1 q13.1) q13.2
theorem aRejoin_eq {f g h : Nat} {o : Option Nat} {o1 o2 o3 o4 o5 o6 o7 o8 o9 o10 o11 o12 o13 o14 : Option Nat} {s s1 s2 s3 s4 s5 s6 s7 s8 s9 s10 s11 s12 s13 s14 : NSt} (h1 : (aLamO (h) o) s = (o1, s1)) (h2 : (aLamO (g) o1) s1 = (o2, s2)) (h3 : (aGate o2.isNone (aNode (0, f, 0, 0, 0))) s2 = (o3, s3)) (h4 : (aGate o3.isNone (aNode (0, sL s.1 (sL s.1 f), 0, 0, 0))) s3 = (o4, s4)) (h5 : (aGate o4.isNone (aNode (6, sL s.1 f, o4.getD 0, 0, 0))) s4 = (o5, s5)) (h6 : (aAppO o3 o5) s5 = (o6, s6)) (h7 : (aLamO (sL s.1 (sL s.1 f)) o6) s6 = (o7, s7)) (h8 : (aAppO o2 o7) s7 = (o8, s8)) (h9 : (aGate o8.isNone (aNode (0, f, 0, 0, 0))) s8 = (o9, s9)) (h10 : (aGate o9.isNone (aNode (0, sR s.1 (sL s.1 f), 0, 0, 0))) s9 = (o10, s10)) (h11 : (aGate o10.isNone (aNode (7, sL s.1 f, o10.getD 0, 0, 0))) s10 = (o11, s11)) (h12 : (aAppO o9 o11) s11 = (o12, s12)) (h13 : (aLamO (sR s.1 (sL s.1 f)) o12) s12 = (o13, s13)) (h14 : (aAppO o8 o13) s13 = (o14, s14)) : aRejoin f g h o s = (o14, s14) := by
  unfold aRejoin
  simp only [h1, h2, h3, h4, h5, h6, h7, h8, h9, h10, h11, h12, h13, h14]
theorem aRejoin_ext (f g h : Nat) (o : Option Nat) (s0 : NSt) : sExt s0 (aRejoin f g h o s0).2 := by
  obtain ⟨o1, s1, hq1⟩ : ∃ oo tt, (aLamO (h) o) s0 = (oo, tt) := ⟨_, _, rfl⟩
  have x1 := (aC_eq hq1 (aLamO_ext _ _ _)).2.2.2.2
  obtain ⟨o2, s2, hq2⟩ : ∃ oo tt, (aLamO (g) o1) s1 = (oo, tt) := ⟨_, _, rfl⟩
  have x2 := x1.tr ((aC_eq hq2 (aLamO_ext _ _ _)).2.2.2.2)
  obtain ⟨o3, s3, hq3⟩ : ∃ oo tt, (aGate o2.isNone (aNode (0, f, 0, 0, 0))) s2 = (oo, tt) := ⟨_, _, rfl⟩
  have x3 := x2.tr ((aC_eq hq3 (aGate_ext (aNode_ext _) _ _)).2.2.2.2)
  obtain ⟨o4, s4, hq4⟩ : ∃ oo tt, (aGate o3.isNone (aNode (0, sL s0.1 (sL s0.1 f), 0, 0, 0))) s3 = (oo, tt) := ⟨_, _, rfl⟩
  have x4 := x3.tr ((aC_eq hq4 (aGate_ext (aNode_ext _) _ _)).2.2.2.2)
  obtain ⟨o5, s5, hq5⟩ : ∃ oo tt, (aGate o4.isNone (aNode (6, sL s0.1 f, o4.getD 0, 0, 0))) s4 = (oo, tt) := ⟨_, _, rfl⟩
  have x5 := x4.tr ((aC_eq hq5 (aGate_ext (aNode_ext _) _ _)).2.2.2.2)
  obtain ⟨o6, s6, hq6⟩ : ∃ oo tt, (aAppO o3 o5) s5 = (oo, tt) := ⟨_, _, rfl⟩
  have x6 := x5.tr ((aC_eq hq6 (aAppO_ext _ _ _)).2.2.2.2)
  obtain ⟨o7, s7, hq7⟩ : ∃ oo tt, (aLamO (sL s0.1 (sL s0.1 f)) o6) s6 = (oo, tt) := ⟨_, _, rfl⟩
  have x7 := x6.tr ((aC_eq hq7 (aLamO_ext _ _ _)).2.2.2.2)
  obtain ⟨o8, s8, hq8⟩ : ∃ oo tt, (aAppO o2 o7) s7 = (oo, tt) := ⟨_, _, rfl⟩
  have x8 := x7.tr ((aC_eq hq8 (aAppO_ext _ _ _)).2.2.2.2)
  obtain ⟨o9, s9, hq9⟩ : ∃ oo tt, (aGate o8.isNone (aNode (0, f, 0, 0, 0))) s8 = (oo, tt) := ⟨_, _, rfl⟩
  have x9 := x8.tr ((aC_eq hq9 (aGate_ext (aNode_ext _) _ _)).2.2.2.2)
  obtain ⟨o10, s10, hq10⟩ : ∃ oo tt, (aGate o9.isNone (aNode (0, sR s0.1 (sL s0.1 f), 0, 0, 0))) s9 = (oo, tt) := ⟨_, _, rfl⟩
  have x10 := x9.tr ((aC_eq hq10 (aGate_ext (aNode_ext _) _ _)).2.2.2.2)
  obtain ⟨o11, s11, hq11⟩ : ∃ oo tt, (aGate o10.isNone (aNode (7, sL s0.1 f, o10.getD 0, 0, 0))) s10 = (oo, tt) := ⟨_, _, rfl⟩
  have x11 := x10.tr ((aC_eq hq11 (aGate_ext (aNode_ext _) _ _)).2.2.2.2)
  obtain ⟨o12, s12, hq12⟩ : ∃ oo tt, (aAppO o9 o11) s11 = (oo, tt) := ⟨_, _, rfl⟩
  have x12 := x11.tr ((aC_eq hq12 (aAppO_ext _ _ _)).2.2.2.2)
  obtain ⟨o13, s13, hq13⟩ : ∃ oo tt, (aLamO (sR s0.1 (sL s0.1 f)) o12) s12 = (oo, tt) := ⟨_, _, rfl⟩
  have x13 := x12.tr ((aC_eq hq13 (aLamO_ext _ _ _)).2.2.2.2)
  obtain ⟨o14, s14, hq14⟩ : ∃ oo tt, (aAppO o8 o13) s13 = (oo, tt) := ⟨_, _, rfl⟩
  have x14 := x13.tr ((aC_eq hq14 (aAppO_ext _ _ _)).2.2.2.2)
  rw [aRejoin_eq hq1 hq2 hq3 hq4 hq5 hq6 hq7 hq8 hq9 hq10 hq11 hq12 hq13 hq14]; exact x14
set_option maxHeartbeats 600000 in
set_option maxRecDepth 100000 in
theorem c_X3_rejoin (l : Launch) (G : rG) {n : Nat} {ad : Nat → Nat} {en : Nat → va_E} {s0 : NSt} {jd RR SL : Nat} {S : Nat → Nat → Bool} {sf : Nat → Int32} {o : Option Nat} (hW : PmW G n ad en s0 jd RR SL S sf o.isNone) {f g h gt : Nat} (hf : 1 ≤ f ∧ f ≤ s0.1.length) (h2 : 2 ≤ sSort s0.1 f) (h3 : 2 ≤ sSort s0.1 (sL s0.1 f)) (ho : oNd s0 o gt) (hgt : 1 ≤ gt) (hg : 1 ≤ g ∧ g ≤ s0.1.length) (hh : 1 ≤ h ∧ h ≤ s0.1.length) (hgg : kFind s0.1 (4, sL s0.1 (sL s0.1 f), sR s0.1 f, 0, 0) = g) (hhh : kFind s0.1 (4, sR s0.1 (sL s0.1 f), sR s0.1 f, 0, 0) = h) : CI l G yX3_rejoin uX3_rejoin (5) (168) (aC (aRejoin f g h o) s0) (aS (aRejoin f g h o) s0) [.ref (ad 21), .int (nI f), .int (aR o)] (n) (n) ad en (aPostG G n jd RR SL S sf (aRejoin f g h o) s0 ad en) := by
  intro sz
  refine rMet (Qc := qI G (n) (aPostG G n jd RR SL S sf (aRejoin f g h o) s0 ad en)) (cc := cX3_rejoin) (maxL := 8) (ret := (some .int)) (by decide) rfl (Nat.le_of_ble_eq_true rfl) ?_
  intro pP eE sS mM aA bB tT cC ls A Q hc hK hsz hA hs hl hQ
  obtain ⟨hx, hb, hr, hts, hown, hlk, hnm, hml⟩ := hc
  have hl : lv_has ls 8 [(0, .ref (ad 21)), (1, .int (nI f)), (2, .int (aR o))] := hl
  obtain ⟨h0, hd0, hO0, hn0, he210⟩ := id hW
  obtain ⟨fst0, hest0⟩ : ∃ fs, en 3 = .inr (6, fs) := ⟨_, h0.2.1⟩
  obtain ⟨fnd0, hend0⟩ : ∃ fs, en 11 = .inr (2, fs) := ⟨_, hd0.2.1⟩
  have h6 := h0.2.2.2.2.2.1
  have h8 := hO0.1.1
  have x0 := sExt.rf s0
  have hn0_ : nsOK s0.1 s0.2 := hO0.1
  have hokk : ssOK s0.1 := h0.2.2.2.2.2
  obtain ⟨o1, s1, hq1⟩ : ∃ oo tt, (aLamO (h) o) s0 = (oo, tt) := ⟨_, _, rfl⟩
  have hc1 := aC_eq hq1 (aLamO_ext _ _ _)
  have x1 := x0.tr hc1.2.2.2.2
  obtain ⟨o2, s2, hq2⟩ : ∃ oo tt, (aLamO (g) o1) s1 = (oo, tt) := ⟨_, _, rfl⟩
  have hc2 := aC_eq hq2 (aLamO_ext _ _ _)
  have x2 := x1.tr hc2.2.2.2.2
  obtain ⟨o3, s3, hq3⟩ : ∃ oo tt, (aGate o2.isNone (aNode (0, f, 0, 0, 0))) s2 = (oo, tt) := ⟨_, _, rfl⟩
  have hc3 := aC_eq hq3 (aGate_ext (aNode_ext _) _ _)
  have x3 := x2.tr hc3.2.2.2.2
  obtain ⟨o4, s4, hq4⟩ : ∃ oo tt, (aGate o3.isNone (aNode (0, sL s0.1 (sL s0.1 f), 0, 0, 0))) s3 = (oo, tt) := ⟨_, _, rfl⟩
  have hc4 := aC_eq hq4 (aGate_ext (aNode_ext _) _ _)
  have x4 := x3.tr hc4.2.2.2.2
  obtain ⟨o5, s5, hq5⟩ : ∃ oo tt, (aGate o4.isNone (aNode (6, sL s0.1 f, o4.getD 0, 0, 0))) s4 = (oo, tt) := ⟨_, _, rfl⟩
  have hc5 := aC_eq hq5 (aGate_ext (aNode_ext _) _ _)
  have x5 := x4.tr hc5.2.2.2.2
  obtain ⟨o6, s6, hq6⟩ : ∃ oo tt, (aAppO o3 o5) s5 = (oo, tt) := ⟨_, _, rfl⟩
  have hc6 := aC_eq hq6 (aAppO_ext _ _ _)
  have x6 := x5.tr hc6.2.2.2.2
  obtain ⟨o7, s7, hq7⟩ : ∃ oo tt, (aLamO (sL s0.1 (sL s0.1 f)) o6) s6 = (oo, tt) := ⟨_, _, rfl⟩
  have hc7 := aC_eq hq7 (aLamO_ext _ _ _)
  have x7 := x6.tr hc7.2.2.2.2
  obtain ⟨o8, s8, hq8⟩ : ∃ oo tt, (aAppO o2 o7) s7 = (oo, tt) := ⟨_, _, rfl⟩
  have hc8 := aC_eq hq8 (aAppO_ext _ _ _)
  have x8 := x7.tr hc8.2.2.2.2
  obtain ⟨o9, s9, hq9⟩ : ∃ oo tt, (aGate o8.isNone (aNode (0, f, 0, 0, 0))) s8 = (oo, tt) := ⟨_, _, rfl⟩
  have hc9 := aC_eq hq9 (aGate_ext (aNode_ext _) _ _)
  have x9 := x8.tr hc9.2.2.2.2
  obtain ⟨o10, s10, hq10⟩ : ∃ oo tt, (aGate o9.isNone (aNode (0, sR s0.1 (sL s0.1 f), 0, 0, 0))) s9 = (oo, tt) := ⟨_, _, rfl⟩
  have hc10 := aC_eq hq10 (aGate_ext (aNode_ext _) _ _)
  have x10 := x9.tr hc10.2.2.2.2
  obtain ⟨o11, s11, hq11⟩ : ∃ oo tt, (aGate o10.isNone (aNode (7, sL s0.1 f, o10.getD 0, 0, 0))) s10 = (oo, tt) := ⟨_, _, rfl⟩
  have hc11 := aC_eq hq11 (aGate_ext (aNode_ext _) _ _)
  have x11 := x10.tr hc11.2.2.2.2
  obtain ⟨o12, s12, hq12⟩ : ∃ oo tt, (aAppO o9 o11) s11 = (oo, tt) := ⟨_, _, rfl⟩
  have hc12 := aC_eq hq12 (aAppO_ext _ _ _)
  have x12 := x11.tr hc12.2.2.2.2
  obtain ⟨o13, s13, hq13⟩ : ∃ oo tt, (aLamO (sR s0.1 (sL s0.1 f)) o12) s12 = (oo, tt) := ⟨_, _, rfl⟩
  have hc13 := aC_eq hq13 (aLamO_ext _ _ _)
  have x13 := x12.tr hc13.2.2.2.2
  obtain ⟨o14, s14, hq14⟩ : ∃ oo tt, (aAppO o8 o13) s13 = (oo, tt) := ⟨_, _, rfl⟩
  have hc14 := aC_eq hq14 (aAppO_ext _ _ _)
  have x14 := x13.tr hc14.2.2.2.2
  have hE := aRejoin_eq hq1 hq2 hq3 hq4 hq5 hq6 hq7 hq8 hq9 hq10 hq11 hq12 hq13 hq14
  obtain ⟨hRC, hRS⟩ := aC_all hE x14
  obtain ⟨hL1, hR1⟩ := parts_of hokk hf h2
  obtain ⟨hC1, hD1⟩ := parts_of hokk hL1 h3
  refine lv_aload_n hx hb dX3_rejoin_0 rfl (lv_at hl 0 rfl) ?_
  refine r_get (ci := 3) (v := .ref (ad 3)) (C := RX3) (T := TX3) (N := 4) hx hb hts inlX3 hown hK hs (21) (by omega) he210 rfl 0 (by decide) (hts _ w_fl_RX3_15) rfl dX3_rejoin_1 ?_
  refine lv_iload_n hx hb dX3_rejoin_4 rfl (lv_at hl 1 rfl) ?_
  refine r_callViR (ci := 6) (As := [.int (nI f)]) hx hb hml hown hts hK hA hs (3) (by omega) hest0 rfl rfl (c_X6_leftOfN l G h0 f (by omega)) (cwV 1 hts (tbV w_ml_RX3_56 w_im_yX6_leftOf w_se_yX6_leftOf w_ini_RX6 w_cd_yX6_leftOf) rfl rfl rfl (by decide +kernel) ⟨Nat.le_of_ble_eq_true rfl, Nat.le_of_ble_eq_true rfl⟩) rfl hl.1 rfl (Nat.le_of_ble_eq_true rfl) dX3_rejoin_5 ⟨by show _ ≤ aC (aRejoin f g h o) s0; omega, by show _ ≤ aS (aRejoin f g h o) s0; omega⟩ (fun H locs hs => ?_)
  refine lv_istore_n (lv' := [(3, .int (nI (sL s0.1 f))), (0, .ref (ad 21)), (1, .int (nI f)), (2, .int (aR o))]) hx hb dX3_rejoin_8 rfl hl (by decide) rfl (fun ls hl => ?_)
  refine lv_aload_n hx hb dX3_rejoin_9 rfl (lv_at hl 1 rfl) ?_
  refine r_get (ci := 3) (v := .ref (ad 3)) (C := RX3) (T := TX3) (N := 4) hx hb hts inlX3 hown hK hs (21) (by omega) he210 rfl 0 (by decide) (hts _ w_fl_RX3_15) rfl dX3_rejoin_10 ?_
  refine lv_iload_n hx hb dX3_rejoin_13 rfl (lv_at hl 0 rfl) ?_
  refine r_callViR (ci := 6) (As := [.int (nI (sL s0.1 f))]) hx hb hml hown hts hK hA hs (3) (by omega) hest0 rfl rfl (c_X6_leftOfN l G h0 (sL s0.1 f) (by omega)) (cwV 1 hts (tbV w_ml_RX3_56 w_im_yX6_leftOf w_se_yX6_leftOf w_ini_RX6 w_cd_yX6_leftOf) rfl rfl rfl (by decide +kernel) ⟨Nat.le_of_ble_eq_true rfl, Nat.le_of_ble_eq_true rfl⟩) rfl hl.1 rfl (Nat.le_of_ble_eq_true rfl) dX3_rejoin_14 ⟨by show _ ≤ aC (aRejoin f g h o) s0; omega, by show _ ≤ aS (aRejoin f g h o) s0; omega⟩ (fun H locs hs => ?_)
  refine lv_istore (lv' := [(4, .int (nI (sL s0.1 (sL s0.1 f)))), (3, .int (nI (sL s0.1 f))), (0, .ref (ad 21)), (1, .int (nI f)), (2, .int (aR o))]) hx hb dX3_rejoin_17 hl (by decide) rfl (fun ls hl => ?_)
  refine lv_aload_n hx hb dX3_rejoin_19 rfl (lv_at hl 2 rfl) ?_
  refine r_get (ci := 3) (v := .ref (ad 3)) (C := RX3) (T := TX3) (N := 4) hx hb hts inlX3 hown hK hs (21) (by omega) he210 rfl 0 (by decide) (hts _ w_fl_RX3_15) rfl dX3_rejoin_20 ?_
  refine lv_iload_n hx hb dX3_rejoin_23 rfl (lv_at hl 1 rfl) ?_
  refine r_callViR (ci := 6) (As := [.int (nI (sL s0.1 f))]) hx hb hml hown hts hK hA hs (3) (by omega) hest0 rfl rfl (c_X6_rightOfN l G h0 (sL s0.1 f) (by omega)) (cwV 1 hts (tbV w_ml_RX3_76 w_im_yX6_rightOf w_se_yX6_rightOf w_ini_RX6 w_cd_yX6_rightOf) rfl rfl rfl (by decide +kernel) ⟨Nat.le_of_ble_eq_true rfl, Nat.le_of_ble_eq_true rfl⟩) rfl hl.1 rfl (Nat.le_of_ble_eq_true rfl) dX3_rejoin_24 ⟨by show _ ≤ aC (aRejoin f g h o) s0; omega, by show _ ≤ aS (aRejoin f g h o) s0; omega⟩ (fun H locs hs => ?_)
  refine lv_istore (lv' := [(5, .int (nI (sR s0.1 (sL s0.1 f)))), (4, .int (nI (sL s0.1 (sL s0.1 f)))), (3, .int (nI (sL s0.1 f))), (0, .ref (ad 21)), (1, .int (nI f)), (2, .int (aR o))]) hx hb dX3_rejoin_27 hl (by decide) rfl (fun ls hl => ?_)
  refine lv_aload_n hx hb dX3_rejoin_29 rfl (lv_at hl 3 rfl) ?_
  refine lv_iload hx hb dX3_rejoin_30 (lv_at hl 1 rfl) ?_
  refine lv_aload_n hx hb dX3_rejoin_32 rfl (lv_at hl 3 rfl) ?_
  refine r_get (ci := 3) (v := .ref (ad 3)) (C := RX3) (T := TX3) (N := 4) hx hb hts inlX3 hown hK hs (21) (by omega) he210 rfl 0 (by decide) (hts _ w_fl_RX3_15) rfl dX3_rejoin_33 ?_
  refine lv_iload_n hx hb dX3_rejoin_36 rfl (lv_at hl 4 rfl) ?_
  refine r_callViR (ci := 6) (As := [.int (nI f)]) hx hb hml hown hts hK hA hs (3) (by omega) hest0 rfl rfl (c_X6_rightOfN l G h0 f (by omega)) (cwV 1 hts (tbV w_ml_RX3_76 w_im_yX6_rightOf w_se_yX6_rightOf w_ini_RX6 w_cd_yX6_rightOf) rfl rfl rfl (by decide +kernel) ⟨Nat.le_of_ble_eq_true rfl, Nat.le_of_ble_eq_true rfl⟩) rfl hl.1 rfl (Nat.le_of_ble_eq_true rfl) dX3_rejoin_37 ⟨by show _ ≤ aC (aRejoin f g h o) s0; omega, by show _ ≤ aS (aRejoin f g h o) s0; omega⟩ (fun H locs hs => ?_)
  refine r_callViR (ci := 3) (As := [.int (nI (sL s0.1 (sL s0.1 f))), .int (nI (sR s0.1 f))]) hx hb hml hown hts hK hA hs (21) (by omega) he210 rfl rfl (c_X3_implication l G hW (a := sL s0.1 (sL s0.1 f)) (b := sR s0.1 f) (by omega)) (cwV 2 hts (tbV w_ml_RX3_86 w_im_yX3_implication w_se_yX3_implication w_ini_RX3 w_cd_yX3_implication) rfl rfl rfl (by decide +kernel) ⟨Nat.le_of_ble_eq_true rfl, Nat.le_of_ble_eq_true rfl⟩) rfl hl.1 rfl (Nat.le_of_ble_eq_true rfl) dX3_rejoin_40 ⟨by show _ ≤ aC (aRejoin f g h o) s0; omega, by show _ ≤ aS (aRejoin f g h o) s0; omega⟩ (fun H locs hs => ?_)
  refine r_topi (y := nI g) (by rw [hgg]) ?_
  refine lv_istore (lv' := [(6, .int (nI g)), (5, .int (nI (sR s0.1 (sL s0.1 f)))), (4, .int (nI (sL s0.1 (sL s0.1 f)))), (3, .int (nI (sL s0.1 f))), (0, .ref (ad 21)), (1, .int (nI f)), (2, .int (aR o))]) hx hb dX3_rejoin_43 hl (by decide) rfl (fun ls hl => ?_)
  refine lv_aload_n hx hb dX3_rejoin_45 rfl (lv_at hl 4 rfl) ?_
  refine lv_iload hx hb dX3_rejoin_46 (lv_at hl 1 rfl) ?_
  refine lv_aload_n hx hb dX3_rejoin_48 rfl (lv_at hl 4 rfl) ?_
  refine r_get (ci := 3) (v := .ref (ad 3)) (C := RX3) (T := TX3) (N := 4) hx hb hts inlX3 hown hK hs (21) (by omega) he210 rfl 0 (by decide) (hts _ w_fl_RX3_15) rfl dX3_rejoin_49 ?_
  refine lv_iload_n hx hb dX3_rejoin_52 rfl (lv_at hl 5 rfl) ?_
  refine r_callViR (ci := 6) (As := [.int (nI f)]) hx hb hml hown hts hK hA hs (3) (by omega) hest0 rfl rfl (c_X6_rightOfN l G h0 f (by omega)) (cwV 1 hts (tbV w_ml_RX3_76 w_im_yX6_rightOf w_se_yX6_rightOf w_ini_RX6 w_cd_yX6_rightOf) rfl rfl rfl (by decide +kernel) ⟨Nat.le_of_ble_eq_true rfl, Nat.le_of_ble_eq_true rfl⟩) rfl hl.1 rfl (Nat.le_of_ble_eq_true rfl) dX3_rejoin_53 ⟨by show _ ≤ aC (aRejoin f g h o) s0; omega, by show _ ≤ aS (aRejoin f g h o) s0; omega⟩ (fun H locs hs => ?_)
  refine r_callViR (ci := 3) (As := [.int (nI (sR s0.1 (sL s0.1 f))), .int (nI (sR s0.1 f))]) hx hb hml hown hts hK hA hs (21) (by omega) he210 rfl rfl (c_X3_implication l G hW (a := sR s0.1 (sL s0.1 f)) (b := sR s0.1 f) (by omega)) (cwV 2 hts (tbV w_ml_RX3_86 w_im_yX3_implication w_se_yX3_implication w_ini_RX3 w_cd_yX3_implication) rfl rfl rfl (by decide +kernel) ⟨Nat.le_of_ble_eq_true rfl, Nat.le_of_ble_eq_true rfl⟩) rfl hl.1 rfl (Nat.le_of_ble_eq_true rfl) dX3_rejoin_56 ⟨by show _ ≤ aC (aRejoin f g h o) s0; omega, by show _ ≤ aS (aRejoin f g h o) s0; omega⟩ (fun H locs hs => ?_)
  refine r_topi (y := nI h) (by rw [hhh]) ?_
  refine lv_istore (lv' := [(7, .int (nI h)), (6, .int (nI g)), (5, .int (nI (sR s0.1 (sL s0.1 f)))), (4, .int (nI (sL s0.1 (sL s0.1 f)))), (3, .int (nI (sL s0.1 f))), (0, .ref (ad 21)), (1, .int (nI f)), (2, .int (aR o))]) hx hb dX3_rejoin_59 hl (by decide) rfl (fun ls hl => ?_)
  refine lv_aload_n hx hb dX3_rejoin_61 rfl (lv_at hl 5 rfl) ?_
  refine lv_aload_n hx hb dX3_rejoin_62 rfl (lv_at hl 5 rfl) ?_
  refine lv_aload_n hx hb dX3_rejoin_63 rfl (lv_at hl 5 rfl) ?_
  refine lv_iload hx hb dX3_rejoin_64 (lv_at hl 1 rfl) ?_
  refine lv_aload_n hx hb dX3_rejoin_66 rfl (lv_at hl 5 rfl) ?_
  refine lv_iload hx hb dX3_rejoin_67 (lv_at hl 0 rfl) ?_
  refine lv_iload_n hx hb dX3_rejoin_69 rfl (lv_at hl 7 rfl) ?_
  refine r_callVi (ci := 3) (As := [.int (nI h), .int (aR o)]) hx hb hml hown hts hK hA hs (21) (by omega) he210 rfl rfl (c_X3_lambda l G (o := o) hW (a := h) (by have := sExt_len x0; omega) (ho)) (cwV 2 hts (tbV w_ml_RX3_61 w_im_yX3_lambda w_se_yX3_lambda w_ini_RX3 w_cd_yX3_lambda) rfl rfl rfl (by decide +kernel) ⟨Nat.le_of_ble_eq_true rfl, Nat.le_of_ble_eq_true rfl⟩) rfl hl.1 rfl (Nat.le_of_ble_eq_true rfl) dX3_rejoin_70 ⟨by show _ ≤ aC (aRejoin f g h o) s0; omega, by show _ ≤ aS (aRejoin f g h o) s0; omega⟩ (fun r_4 ad_1 en_2 H locs hp_3 hs => ?_)
  obtain ⟨hr1, hW1, hf1⟩ := hp_3
  rw [hq1] at hr1 hW1
  have hW1 : PmW G n ad_1 en_2 s1 jd RR SL S sf o1.isNone := hW1
  have v1 := lamO_q hq1 (ho)
  rw [show r_4 = aR o1 from hr1]
  obtain ⟨hp_5, hdp_5, hOp_5, hnp_5, he21p_5⟩ := id hW1
  obtain ⟨fstp_5, hestp_5⟩ : ∃ fs, en_2 3 = .inr (6, fs) := ⟨_, hp_5.2.1⟩
  obtain ⟨fndp_5, hendp_5⟩ : ∃ fs, en_2 11 = .inr (2, fs) := ⟨_, hdp_5.2.1⟩
  have frp_5 := Fr_tr Fr_rf hf1
  have hl : lv_has ls 8 [(7, .int (nI h)), (6, .int (nI g)), (5, .int (nI (sR s0.1 (sL s0.1 f)))), (4, .int (nI (sL s0.1 (sL s0.1 f)))), (3, .int (nI (sL s0.1 f))), (0, .ref (ad_1 21)), (1, .int (nI f)), (2, .int (aR o))] := by rw [hf1.1 21 (by omega) (by unfold pmA; omega)]; exact hl
  refine r_st (st2 := [.int (aR o1), .int (nI g), .ref (ad_1 21), .ref (ad_1 21), .ref (ad_1 21)]) (by rw [hf1.1 21 (by omega) (by unfold pmA; omega)]) ?_
  have hn1_ : nsOK s1.1 s1.2 := hOp_5.1
  refine r_callVi (ci := 3) (As := [.int (nI g), .int (aR o1)]) hx hb hml hown hts hK hA hs (21) (by omega) he21p_5 rfl rfl (c_X3_lambda l G (o := o1) hW1 (a := g) (by have := sExt_len x1; omega) ((v1.1).self)) (cwV 2 hts (tbV w_ml_RX3_61 w_im_yX3_lambda w_se_yX3_lambda w_ini_RX3 w_cd_yX3_lambda) rfl rfl rfl (by decide +kernel) ⟨Nat.le_of_ble_eq_true rfl, Nat.le_of_ble_eq_true rfl⟩) rfl hl.1 rfl (Nat.le_of_ble_eq_true rfl) dX3_rejoin_73 ⟨by show _ ≤ aC (aRejoin f g h o) s0; omega, by show _ ≤ aS (aRejoin f g h o) s0; omega⟩ (fun r_9 ad_6 en_7 H locs hp_8 hs => ?_)
  obtain ⟨hr2, hW2, hf2⟩ := hp_8
  rw [hq2] at hr2 hW2
  have hW2 : PmW G n ad_6 en_7 s2 jd RR SL S sf o2.isNone := hW2
  have v2 := lamO_q hq2 ((v1.1).self)
  rw [show r_9 = aR o2 from hr2]
  obtain ⟨hp_10, hdp_10, hOp_10, hnp_10, he21p_10⟩ := id hW2
  obtain ⟨fstp_10, hestp_10⟩ : ∃ fs, en_7 3 = .inr (6, fs) := ⟨_, hp_10.2.1⟩
  obtain ⟨fndp_10, hendp_10⟩ : ∃ fs, en_7 11 = .inr (2, fs) := ⟨_, hdp_10.2.1⟩
  have frp_10 := Fr_tr frp_5 hf2
  have hl : lv_has ls 8 [(7, .int (nI h)), (6, .int (nI g)), (5, .int (nI (sR s0.1 (sL s0.1 f)))), (4, .int (nI (sL s0.1 (sL s0.1 f)))), (3, .int (nI (sL s0.1 f))), (0, .ref (ad_6 21)), (1, .int (nI f)), (2, .int (aR o))] := by rw [hf2.1 21 (by omega) (by unfold pmA; omega)]; exact hl
  refine r_st (st2 := [.int (aR o2), .ref (ad_6 21), .ref (ad_6 21)]) (by rw [hf2.1 21 (by omega) (by unfold pmA; omega)]) ?_
  have hn2_ : nsOK s2.1 s2.2 := hOp_10.1
  refine lv_aload_n hx hb dX3_rejoin_76 rfl (lv_at hl 5 rfl) ?_
  refine lv_iload hx hb dX3_rejoin_77 (lv_at hl 3 rfl) ?_
  refine lv_aload_n hx hb dX3_rejoin_79 rfl (lv_at hl 5 rfl) ?_
  refine lv_aload_n hx hb dX3_rejoin_80 rfl (lv_at hl 5 rfl) ?_
  refine lv_iload_n hx hb dX3_rejoin_81 rfl (lv_at hl 6 rfl) ?_
  refine r_callVi (ci := 3) (As := [.int (nI f)]) hx hb hml hown hts hK hA hs (21) (by omega) he21p_10 rfl rfl (c_X3_given l G hW2 (f1 := f) (by have := sExt_len x2; omega)) (cwV 1 hts (tbV w_ml_RX3_49 w_im_yX3_given w_se_yX3_given w_ini_RX3 w_cd_yX3_given) rfl rfl rfl (by decide +kernel) ⟨Nat.le_of_ble_eq_true rfl, Nat.le_of_ble_eq_true rfl⟩) rfl hl.1 rfl (Nat.le_of_ble_eq_true rfl) dX3_rejoin_82 ⟨by show _ ≤ aC (aRejoin f g h o) s0; omega, by show _ ≤ aS (aRejoin f g h o) s0; omega⟩ (fun r_14 ad_11 en_12 H locs hp_13 hs => ?_)
  obtain ⟨hr3, hW3, hf3⟩ := hp_13
  rw [hq3] at hr3 hW3
  have hW3 : PmW G n ad_11 en_12 s3 jd RR SL S sf o3.isNone := hW3
  have v3 := gate_q hq3
  rw [show r_14 = aR o3 from hr3]
  obtain ⟨hp_15, hdp_15, hOp_15, hnp_15, he21p_15⟩ := id hW3
  obtain ⟨fstp_15, hestp_15⟩ : ∃ fs, en_12 3 = .inr (6, fs) := ⟨_, hp_15.2.1⟩
  obtain ⟨fndp_15, hendp_15⟩ : ∃ fs, en_12 11 = .inr (2, fs) := ⟨_, hdp_15.2.1⟩
  have frp_15 := Fr_tr frp_10 hf3
  have hl : lv_has ls 8 [(7, .int (nI h)), (6, .int (nI g)), (5, .int (nI (sR s0.1 (sL s0.1 f)))), (4, .int (nI (sL s0.1 (sL s0.1 f)))), (3, .int (nI (sL s0.1 f))), (0, .ref (ad_11 21)), (1, .int (nI f)), (2, .int (aR o))] := by rw [hf3.1 21 (by omega) (by unfold pmA; omega)]; exact hl
  refine r_st (st2 := [.int (aR o3), .ref (ad_11 21), .int (nI (sL s0.1 (sL s0.1 f))), .ref (ad_11 21), .int (aR o2), .ref (ad_11 21), .ref (ad_11 21)]) (by rw [hf3.1 21 (by omega) (by unfold pmA; omega)]) ?_
  have hn3_ : nsOK s3.1 s3.2 := hOp_15.1
  refine lv_aload_n hx hb dX3_rejoin_85 rfl (lv_at hl 5 rfl) ?_
  refine lv_bipush (v := 6) hx hb dX3_rejoin_86 (by decide) ?_
  refine lv_iload_n hx hb dX3_rejoin_88 rfl (lv_at hl 4 rfl) ?_
  refine lv_aload_n hx hb dX3_rejoin_89 rfl (lv_at hl 5 rfl) ?_
  refine lv_iload hx hb dX3_rejoin_90 (lv_at hl 3 rfl) ?_
  refine r_callDi (ci := 3) (As := [.int (nI (sL s0.1 (sL s0.1 f)))]) hx hb hml hown hts hK hA hs (21) (by omega) he21p_15 rfl rfl (c_X3_given l G hW3 (f1 := sL s0.1 (sL s0.1 f)) (by have := sExt_len x3; omega)) (cwV 1 hts (tbV w_ml_RX3_49 w_im_yX3_given w_se_yX3_given w_ini_RX3 w_cd_yX3_given) rfl rfl rfl (by decide +kernel) ⟨Nat.le_of_ble_eq_true rfl, Nat.le_of_ble_eq_true rfl⟩) (Nat.le_of_ble_eq_true rfl) rfl hl.1 rfl (Nat.le_of_ble_eq_true rfl) dX3_rejoin_92 ⟨by show _ ≤ aC (aRejoin f g h o) s0; omega, by show _ ≤ aS (aRejoin f g h o) s0; omega⟩ (fun r_19 ad_16 en_17 H locs hp_18 hs => ?_)
  obtain ⟨hr4, hW4, hf4⟩ := hp_18
  rw [hq4] at hr4 hW4
  have hW4 : PmW G n ad_16 en_17 s4 jd RR SL S sf o4.isNone := hW4
  have v4 := gate_q hq4
  rw [show r_19 = aR o4 from hr4]
  obtain ⟨hp_20, hdp_20, hOp_20, hnp_20, he21p_20⟩ := id hW4
  obtain ⟨fstp_20, hestp_20⟩ : ∃ fs, en_17 3 = .inr (6, fs) := ⟨_, hp_20.2.1⟩
  obtain ⟨fndp_20, hendp_20⟩ : ∃ fs, en_17 11 = .inr (2, fs) := ⟨_, hdp_20.2.1⟩
  have frp_20 := Fr_tr frp_15 hf4
  have hl : lv_has ls 8 [(7, .int (nI h)), (6, .int (nI g)), (5, .int (nI (sR s0.1 (sL s0.1 f)))), (4, .int (nI (sL s0.1 (sL s0.1 f)))), (3, .int (nI (sL s0.1 f))), (0, .ref (ad_16 21)), (1, .int (nI f)), (2, .int (aR o))] := by rw [hf4.1 21 (by omega) (by unfold pmA; omega)]; exact hl
  refine r_st (st2 := [.int (aR o4), .int (nI (sL s0.1 f)), .int (6), .ref (ad_16 21), .int (aR o3), .ref (ad_16 21), .int (nI (sL s0.1 (sL s0.1 f))), .ref (ad_16 21), .int (aR o2), .ref (ad_16 21), .ref (ad_16 21)]) (by rw [hf4.1 21 (by omega) (by unfold pmA; omega)]) ?_
  have hn4_ : nsOK s4.1 s4.2 := hOp_20.1
  refine lv_iconst (v := 0) hx hb dX3_rejoin_95 (by decide) ?_
  refine lv_iconst (v := 0) hx hb dX3_rejoin_96 (by decide) ?_
  refine r_callVi (ci := 3) (As := [.int (6), .int (nI (sL s0.1 f)), .int (aR o4), .int (0), .int (0)]) hx hb hml hown hts hK hA hs (21) (by omega) he21p_20 rfl rfl (c_X3_make1 l G (o := o4) hW4 (tg := 6) (gl := sL s0.1 f) (by decide) (by have := sExt_len x4; omega) ((v4.1).vd)) (cwV 5 hts (tbV w_ml_RX3_52 w_im_yX3_make w_se_yX3_make w_ini_RX3 w_cd_yX3_make) rfl rfl rfl (by decide +kernel) ⟨Nat.le_of_ble_eq_true rfl, Nat.le_of_ble_eq_true rfl⟩) rfl hl.1 rfl (Nat.le_of_ble_eq_true rfl) dX3_rejoin_97 ⟨by show _ ≤ aC (aRejoin f g h o) s0; omega, by show _ ≤ aS (aRejoin f g h o) s0; omega⟩ (fun r_24 ad_21 en_22 H locs hp_23 hs => ?_)
  obtain ⟨hr5, hW5, hf5⟩ := hp_23
  rw [hq5] at hr5 hW5
  have hW5 : PmW G n ad_21 en_22 s5 jd RR SL S sf o5.isNone := hW5
  have v5 := gate_q hq5
  rw [show r_24 = aR o5 from hr5]
  obtain ⟨hp_25, hdp_25, hOp_25, hnp_25, he21p_25⟩ := id hW5
  obtain ⟨fstp_25, hestp_25⟩ : ∃ fs, en_22 3 = .inr (6, fs) := ⟨_, hp_25.2.1⟩
  obtain ⟨fndp_25, hendp_25⟩ : ∃ fs, en_22 11 = .inr (2, fs) := ⟨_, hdp_25.2.1⟩
  have frp_25 := Fr_tr frp_20 hf5
  have hl : lv_has ls 8 [(7, .int (nI h)), (6, .int (nI g)), (5, .int (nI (sR s0.1 (sL s0.1 f)))), (4, .int (nI (sL s0.1 (sL s0.1 f)))), (3, .int (nI (sL s0.1 f))), (0, .ref (ad_21 21)), (1, .int (nI f)), (2, .int (aR o))] := by rw [hf5.1 21 (by omega) (by unfold pmA; omega)]; exact hl
  refine r_st (st2 := [.int (aR o5), .int (aR o3), .ref (ad_21 21), .int (nI (sL s0.1 (sL s0.1 f))), .ref (ad_21 21), .int (aR o2), .ref (ad_21 21), .ref (ad_21 21)]) (by rw [hf5.1 21 (by omega) (by unfold pmA; omega)]) ?_
  have hn5_ : nsOK s5.1 s5.2 := hOp_25.1
  refine r_callVi (ci := 3) (As := [.int (aR o3), .int (aR o5)]) hx hb hml hown hts hK hA hs (21) (by omega) he21p_25 rfl rfl (c_X3_apply l G (o1 := o3) (o2 := o5) hW5 (fun _ _ => by rw [(sR_ext x5 hf.2).1]; exact hR1.1) ((((v3.1).mono hc4.2.2.2.2).mono hc5.2.2.2.2).fn) ((v5.1).vd) (fun q => v5.2 (none_i (v4.2 (none_i (q)))))) (cwV 2 hts (tbV w_ml_RX3_83 w_im_yX3_apply w_se_yX3_apply w_ini_RX3 w_cd_yX3_apply) rfl rfl rfl (by decide +kernel) ⟨Nat.le_of_ble_eq_true rfl, Nat.le_of_ble_eq_true rfl⟩) rfl hl.1 rfl (Nat.le_of_ble_eq_true rfl) dX3_rejoin_100 ⟨by show _ ≤ aC (aRejoin f g h o) s0; omega, by show _ ≤ aS (aRejoin f g h o) s0; omega⟩ (fun r_29 ad_26 en_27 H locs hp_28 hs => ?_)
  obtain ⟨hr6, hW6, hf6⟩ := hp_28
  rw [hq6] at hr6 hW6
  have hW6 : PmW G n ad_26 en_27 s6 jd RR SL S sf o6.isNone := hW6
  have v6 := appO_q hq6 ((((v3.1).mono hc4.2.2.2.2).mono hc5.2.2.2.2).fn)
  rw [show r_29 = aR o6 from hr6]
  obtain ⟨hp_30, hdp_30, hOp_30, hnp_30, he21p_30⟩ := id hW6
  obtain ⟨fstp_30, hestp_30⟩ : ∃ fs, en_27 3 = .inr (6, fs) := ⟨_, hp_30.2.1⟩
  obtain ⟨fndp_30, hendp_30⟩ : ∃ fs, en_27 11 = .inr (2, fs) := ⟨_, hdp_30.2.1⟩
  have frp_30 := Fr_tr frp_25 hf6
  have hl : lv_has ls 8 [(7, .int (nI h)), (6, .int (nI g)), (5, .int (nI (sR s0.1 (sL s0.1 f)))), (4, .int (nI (sL s0.1 (sL s0.1 f)))), (3, .int (nI (sL s0.1 f))), (0, .ref (ad_26 21)), (1, .int (nI f)), (2, .int (aR o))] := by rw [hf6.1 21 (by omega) (by unfold pmA; omega)]; exact hl
  refine r_st (st2 := [.int (aR o6), .int (nI (sL s0.1 (sL s0.1 f))), .ref (ad_26 21), .int (aR o2), .ref (ad_26 21), .ref (ad_26 21)]) (by rw [hf6.1 21 (by omega) (by unfold pmA; omega)]) ?_
  have hn6_ : nsOK s6.1 s6.2 := hOp_30.1
  refine r_callVi (ci := 3) (As := [.int (nI (sL s0.1 (sL s0.1 f))), .int (aR o6)]) hx hb hml hown hts hK hA hs (21) (by omega) he21p_30 rfl rfl (c_X3_lambda l G (o := o6) hW6 (a := sL s0.1 (sL s0.1 f)) (by have := sExt_len x6; omega) (v6.1)) (cwV 2 hts (tbV w_ml_RX3_61 w_im_yX3_lambda w_se_yX3_lambda w_ini_RX3 w_cd_yX3_lambda) rfl rfl rfl (by decide +kernel) ⟨Nat.le_of_ble_eq_true rfl, Nat.le_of_ble_eq_true rfl⟩) rfl hl.1 rfl (Nat.le_of_ble_eq_true rfl) dX3_rejoin_103 ⟨by show _ ≤ aC (aRejoin f g h o) s0; omega, by show _ ≤ aS (aRejoin f g h o) s0; omega⟩ (fun r_34 ad_31 en_32 H locs hp_33 hs => ?_)
  obtain ⟨hr7, hW7, hf7⟩ := hp_33
  rw [hq7] at hr7 hW7
  have hW7 : PmW G n ad_31 en_32 s7 jd RR SL S sf o7.isNone := hW7
  have v7 := lamO_q hq7 (v6.1)
  rw [show r_34 = aR o7 from hr7]
  obtain ⟨hp_35, hdp_35, hOp_35, hnp_35, he21p_35⟩ := id hW7
  obtain ⟨fstp_35, hestp_35⟩ : ∃ fs, en_32 3 = .inr (6, fs) := ⟨_, hp_35.2.1⟩
  obtain ⟨fndp_35, hendp_35⟩ : ∃ fs, en_32 11 = .inr (2, fs) := ⟨_, hdp_35.2.1⟩
  have frp_35 := Fr_tr frp_30 hf7
  have hl : lv_has ls 8 [(7, .int (nI h)), (6, .int (nI g)), (5, .int (nI (sR s0.1 (sL s0.1 f)))), (4, .int (nI (sL s0.1 (sL s0.1 f)))), (3, .int (nI (sL s0.1 f))), (0, .ref (ad_31 21)), (1, .int (nI f)), (2, .int (aR o))] := by rw [hf7.1 21 (by omega) (by unfold pmA; omega)]; exact hl
  refine r_st (st2 := [.int (aR o7), .int (aR o2), .ref (ad_31 21), .ref (ad_31 21)]) (by rw [hf7.1 21 (by omega) (by unfold pmA; omega)]) ?_
  have hn7_ : nsOK s7.1 s7.2 := hOp_35.1
  refine r_callVi (ci := 3) (As := [.int (aR o2), .int (aR o7)]) hx hb hml hown hts hK hA hs (21) (by omega) he21p_35 rfl rfl (c_X3_apply l G (o1 := o2) (o2 := o7) hW7 (fun u hu => low_g v1.1 hn1_ (up_s v2.2 (up_n v3.2 (up_n v4.2 (up_n v5.2 (up_s v6.2 (up_s v7.2 (⟨u, hu⟩)))))))) ((((((v2.1).mono hc3.2.2.2.2 hn2_).mono hc4.2.2.2.2 hn3_).mono hc5.2.2.2.2 hn4_).mono hc6.2.2.2.2 hn5_).mono hc7.2.2.2.2 hn6_) (((v7.1).self).vd) (fun q => v7.2 (v6.2 (v5.2 (none_i (v4.2 (none_i (v3.2 (none_i (q)))))))))) (cwV 2 hts (tbV w_ml_RX3_83 w_im_yX3_apply w_se_yX3_apply w_ini_RX3 w_cd_yX3_apply) rfl rfl rfl (by decide +kernel) ⟨Nat.le_of_ble_eq_true rfl, Nat.le_of_ble_eq_true rfl⟩) rfl hl.1 rfl (Nat.le_of_ble_eq_true rfl) dX3_rejoin_106 ⟨by show _ ≤ aC (aRejoin f g h o) s0; omega, by show _ ≤ aS (aRejoin f g h o) s0; omega⟩ (fun r_39 ad_36 en_37 H locs hp_38 hs => ?_)
  obtain ⟨hr8, hW8, hf8⟩ := hp_38
  rw [hq8] at hr8 hW8
  have hW8 : PmW G n ad_36 en_37 s8 jd RR SL S sf o8.isNone := hW8
  have v8 := appO_q hq8 ((((((v2.1).mono hc3.2.2.2.2 hn2_).mono hc4.2.2.2.2 hn3_).mono hc5.2.2.2.2 hn4_).mono hc6.2.2.2.2 hn5_).mono hc7.2.2.2.2 hn6_)
  rw [show r_39 = aR o8 from hr8]
  obtain ⟨hp_40, hdp_40, hOp_40, hnp_40, he21p_40⟩ := id hW8
  obtain ⟨fstp_40, hestp_40⟩ : ∃ fs, en_37 3 = .inr (6, fs) := ⟨_, hp_40.2.1⟩
  obtain ⟨fndp_40, hendp_40⟩ : ∃ fs, en_37 11 = .inr (2, fs) := ⟨_, hdp_40.2.1⟩
  have frp_40 := Fr_tr frp_35 hf8
  have hl : lv_has ls 8 [(7, .int (nI h)), (6, .int (nI g)), (5, .int (nI (sR s0.1 (sL s0.1 f)))), (4, .int (nI (sL s0.1 (sL s0.1 f)))), (3, .int (nI (sL s0.1 f))), (0, .ref (ad_36 21)), (1, .int (nI f)), (2, .int (aR o))] := by rw [hf8.1 21 (by omega) (by unfold pmA; omega)]; exact hl
  refine r_st (st2 := [.int (aR o8), .ref (ad_36 21)]) (by rw [hf8.1 21 (by omega) (by unfold pmA; omega)]) ?_
  have hn8_ : nsOK s8.1 s8.2 := hOp_40.1
  refine lv_aload_n hx hb dX3_rejoin_109 rfl (lv_at hl 5 rfl) ?_
  refine lv_iload hx hb dX3_rejoin_110 (lv_at hl 2 rfl) ?_
  refine lv_aload_n hx hb dX3_rejoin_112 rfl (lv_at hl 5 rfl) ?_
  refine lv_aload_n hx hb dX3_rejoin_113 rfl (lv_at hl 5 rfl) ?_
  refine lv_iload_n hx hb dX3_rejoin_114 rfl (lv_at hl 6 rfl) ?_
  refine r_callVi (ci := 3) (As := [.int (nI f)]) hx hb hml hown hts hK hA hs (21) (by omega) he21p_40 rfl rfl (c_X3_given l G hW8 (f1 := f) (by have := sExt_len x8; omega)) (cwV 1 hts (tbV w_ml_RX3_49 w_im_yX3_given w_se_yX3_given w_ini_RX3 w_cd_yX3_given) rfl rfl rfl (by decide +kernel) ⟨Nat.le_of_ble_eq_true rfl, Nat.le_of_ble_eq_true rfl⟩) rfl hl.1 rfl (Nat.le_of_ble_eq_true rfl) dX3_rejoin_115 ⟨by show _ ≤ aC (aRejoin f g h o) s0; omega, by show _ ≤ aS (aRejoin f g h o) s0; omega⟩ (fun r_44 ad_41 en_42 H locs hp_43 hs => ?_)
  obtain ⟨hr9, hW9, hf9⟩ := hp_43
  rw [hq9] at hr9 hW9
  have hW9 : PmW G n ad_41 en_42 s9 jd RR SL S sf o9.isNone := hW9
  have v9 := gate_q hq9
  rw [show r_44 = aR o9 from hr9]
  obtain ⟨hp_45, hdp_45, hOp_45, hnp_45, he21p_45⟩ := id hW9
  obtain ⟨fstp_45, hestp_45⟩ : ∃ fs, en_42 3 = .inr (6, fs) := ⟨_, hp_45.2.1⟩
  obtain ⟨fndp_45, hendp_45⟩ : ∃ fs, en_42 11 = .inr (2, fs) := ⟨_, hdp_45.2.1⟩
  have frp_45 := Fr_tr frp_40 hf9
  have hl : lv_has ls 8 [(7, .int (nI h)), (6, .int (nI g)), (5, .int (nI (sR s0.1 (sL s0.1 f)))), (4, .int (nI (sL s0.1 (sL s0.1 f)))), (3, .int (nI (sL s0.1 f))), (0, .ref (ad_41 21)), (1, .int (nI f)), (2, .int (aR o))] := by rw [hf9.1 21 (by omega) (by unfold pmA; omega)]; exact hl
  refine r_st (st2 := [.int (aR o9), .ref (ad_41 21), .int (nI (sR s0.1 (sL s0.1 f))), .ref (ad_41 21), .int (aR o8), .ref (ad_41 21)]) (by rw [hf9.1 21 (by omega) (by unfold pmA; omega)]) ?_
  have hn9_ : nsOK s9.1 s9.2 := hOp_45.1
  refine lv_aload_n hx hb dX3_rejoin_118 rfl (lv_at hl 5 rfl) ?_
  refine lv_bipush (v := 7) hx hb dX3_rejoin_119 (by decide) ?_
  refine lv_iload_n hx hb dX3_rejoin_121 rfl (lv_at hl 4 rfl) ?_
  refine lv_aload_n hx hb dX3_rejoin_122 rfl (lv_at hl 5 rfl) ?_
  refine lv_iload hx hb dX3_rejoin_123 (lv_at hl 2 rfl) ?_
  refine r_callDi (ci := 3) (As := [.int (nI (sR s0.1 (sL s0.1 f)))]) hx hb hml hown hts hK hA hs (21) (by omega) he21p_45 rfl rfl (c_X3_given l G hW9 (f1 := sR s0.1 (sL s0.1 f)) (by have := sExt_len x9; omega)) (cwV 1 hts (tbV w_ml_RX3_49 w_im_yX3_given w_se_yX3_given w_ini_RX3 w_cd_yX3_given) rfl rfl rfl (by decide +kernel) ⟨Nat.le_of_ble_eq_true rfl, Nat.le_of_ble_eq_true rfl⟩) (Nat.le_of_ble_eq_true rfl) rfl hl.1 rfl (Nat.le_of_ble_eq_true rfl) dX3_rejoin_125 ⟨by show _ ≤ aC (aRejoin f g h o) s0; omega, by show _ ≤ aS (aRejoin f g h o) s0; omega⟩ (fun r_49 ad_46 en_47 H locs hp_48 hs => ?_)
  obtain ⟨hr10, hW10, hf10⟩ := hp_48
  rw [hq10] at hr10 hW10
  have hW10 : PmW G n ad_46 en_47 s10 jd RR SL S sf o10.isNone := hW10
  have v10 := gate_q hq10
  rw [show r_49 = aR o10 from hr10]
  obtain ⟨hp_50, hdp_50, hOp_50, hnp_50, he21p_50⟩ := id hW10
  obtain ⟨fstp_50, hestp_50⟩ : ∃ fs, en_47 3 = .inr (6, fs) := ⟨_, hp_50.2.1⟩
  obtain ⟨fndp_50, hendp_50⟩ : ∃ fs, en_47 11 = .inr (2, fs) := ⟨_, hdp_50.2.1⟩
  have frp_50 := Fr_tr frp_45 hf10
  have hl : lv_has ls 8 [(7, .int (nI h)), (6, .int (nI g)), (5, .int (nI (sR s0.1 (sL s0.1 f)))), (4, .int (nI (sL s0.1 (sL s0.1 f)))), (3, .int (nI (sL s0.1 f))), (0, .ref (ad_46 21)), (1, .int (nI f)), (2, .int (aR o))] := by rw [hf10.1 21 (by omega) (by unfold pmA; omega)]; exact hl
  refine r_st (st2 := [.int (aR o10), .int (nI (sL s0.1 f)), .int (7), .ref (ad_46 21), .int (aR o9), .ref (ad_46 21), .int (nI (sR s0.1 (sL s0.1 f))), .ref (ad_46 21), .int (aR o8), .ref (ad_46 21)]) (by rw [hf10.1 21 (by omega) (by unfold pmA; omega)]) ?_
  have hn10_ : nsOK s10.1 s10.2 := hOp_50.1
  refine lv_iconst (v := 0) hx hb dX3_rejoin_128 (by decide) ?_
  refine lv_iconst (v := 0) hx hb dX3_rejoin_129 (by decide) ?_
  refine r_callVi (ci := 3) (As := [.int (7), .int (nI (sL s0.1 f)), .int (aR o10), .int (0), .int (0)]) hx hb hml hown hts hK hA hs (21) (by omega) he21p_50 rfl rfl (c_X3_make1 l G (o := o10) hW10 (tg := 7) (gl := sL s0.1 f) (by decide) (by have := sExt_len x10; omega) ((v10.1).vd)) (cwV 5 hts (tbV w_ml_RX3_52 w_im_yX3_make w_se_yX3_make w_ini_RX3 w_cd_yX3_make) rfl rfl rfl (by decide +kernel) ⟨Nat.le_of_ble_eq_true rfl, Nat.le_of_ble_eq_true rfl⟩) rfl hl.1 rfl (Nat.le_of_ble_eq_true rfl) dX3_rejoin_130 ⟨by show _ ≤ aC (aRejoin f g h o) s0; omega, by show _ ≤ aS (aRejoin f g h o) s0; omega⟩ (fun r_54 ad_51 en_52 H locs hp_53 hs => ?_)
  obtain ⟨hr11, hW11, hf11⟩ := hp_53
  rw [hq11] at hr11 hW11
  have hW11 : PmW G n ad_51 en_52 s11 jd RR SL S sf o11.isNone := hW11
  have v11 := gate_q hq11
  rw [show r_54 = aR o11 from hr11]
  obtain ⟨hp_55, hdp_55, hOp_55, hnp_55, he21p_55⟩ := id hW11
  obtain ⟨fstp_55, hestp_55⟩ : ∃ fs, en_52 3 = .inr (6, fs) := ⟨_, hp_55.2.1⟩
  obtain ⟨fndp_55, hendp_55⟩ : ∃ fs, en_52 11 = .inr (2, fs) := ⟨_, hdp_55.2.1⟩
  have frp_55 := Fr_tr frp_50 hf11
  have hl : lv_has ls 8 [(7, .int (nI h)), (6, .int (nI g)), (5, .int (nI (sR s0.1 (sL s0.1 f)))), (4, .int (nI (sL s0.1 (sL s0.1 f)))), (3, .int (nI (sL s0.1 f))), (0, .ref (ad_51 21)), (1, .int (nI f)), (2, .int (aR o))] := by rw [hf11.1 21 (by omega) (by unfold pmA; omega)]; exact hl
  refine r_st (st2 := [.int (aR o11), .int (aR o9), .ref (ad_51 21), .int (nI (sR s0.1 (sL s0.1 f))), .ref (ad_51 21), .int (aR o8), .ref (ad_51 21)]) (by rw [hf11.1 21 (by omega) (by unfold pmA; omega)]) ?_
  have hn11_ : nsOK s11.1 s11.2 := hOp_55.1
  refine r_callVi (ci := 3) (As := [.int (aR o9), .int (aR o11)]) hx hb hml hown hts hK hA hs (21) (by omega) he21p_55 rfl rfl (c_X3_apply l G (o1 := o9) (o2 := o11) hW11 (fun _ _ => by rw [(sR_ext x11 hf.2).1]; exact hR1.1) ((((v9.1).mono hc10.2.2.2.2).mono hc11.2.2.2.2).fn) ((v11.1).vd) (fun q => v11.2 (none_i (v10.2 (none_i (q)))))) (cwV 2 hts (tbV w_ml_RX3_83 w_im_yX3_apply w_se_yX3_apply w_ini_RX3 w_cd_yX3_apply) rfl rfl rfl (by decide +kernel) ⟨Nat.le_of_ble_eq_true rfl, Nat.le_of_ble_eq_true rfl⟩) rfl hl.1 rfl (Nat.le_of_ble_eq_true rfl) dX3_rejoin_133 ⟨by show _ ≤ aC (aRejoin f g h o) s0; omega, by show _ ≤ aS (aRejoin f g h o) s0; omega⟩ (fun r_59 ad_56 en_57 H locs hp_58 hs => ?_)
  obtain ⟨hr12, hW12, hf12⟩ := hp_58
  rw [hq12] at hr12 hW12
  have hW12 : PmW G n ad_56 en_57 s12 jd RR SL S sf o12.isNone := hW12
  have v12 := appO_q hq12 ((((v9.1).mono hc10.2.2.2.2).mono hc11.2.2.2.2).fn)
  rw [show r_59 = aR o12 from hr12]
  obtain ⟨hp_60, hdp_60, hOp_60, hnp_60, he21p_60⟩ := id hW12
  obtain ⟨fstp_60, hestp_60⟩ : ∃ fs, en_57 3 = .inr (6, fs) := ⟨_, hp_60.2.1⟩
  obtain ⟨fndp_60, hendp_60⟩ : ∃ fs, en_57 11 = .inr (2, fs) := ⟨_, hdp_60.2.1⟩
  have frp_60 := Fr_tr frp_55 hf12
  have hl : lv_has ls 8 [(7, .int (nI h)), (6, .int (nI g)), (5, .int (nI (sR s0.1 (sL s0.1 f)))), (4, .int (nI (sL s0.1 (sL s0.1 f)))), (3, .int (nI (sL s0.1 f))), (0, .ref (ad_56 21)), (1, .int (nI f)), (2, .int (aR o))] := by rw [hf12.1 21 (by omega) (by unfold pmA; omega)]; exact hl
  refine r_st (st2 := [.int (aR o12), .int (nI (sR s0.1 (sL s0.1 f))), .ref (ad_56 21), .int (aR o8), .ref (ad_56 21)]) (by rw [hf12.1 21 (by omega) (by unfold pmA; omega)]) ?_
  have hn12_ : nsOK s12.1 s12.2 := hOp_60.1
  refine r_callVi (ci := 3) (As := [.int (nI (sR s0.1 (sL s0.1 f))), .int (aR o12)]) hx hb hml hown hts hK hA hs (21) (by omega) he21p_60 rfl rfl (c_X3_lambda l G (o := o12) hW12 (a := sR s0.1 (sL s0.1 f)) (by have := sExt_len x12; omega) (v12.1)) (cwV 2 hts (tbV w_ml_RX3_61 w_im_yX3_lambda w_se_yX3_lambda w_ini_RX3 w_cd_yX3_lambda) rfl rfl rfl (by decide +kernel) ⟨Nat.le_of_ble_eq_true rfl, Nat.le_of_ble_eq_true rfl⟩) rfl hl.1 rfl (Nat.le_of_ble_eq_true rfl) dX3_rejoin_136 ⟨by show _ ≤ aC (aRejoin f g h o) s0; omega, by show _ ≤ aS (aRejoin f g h o) s0; omega⟩ (fun r_64 ad_61 en_62 H locs hp_63 hs => ?_)
  obtain ⟨hr13, hW13, hf13⟩ := hp_63
  rw [hq13] at hr13 hW13
  have hW13 : PmW G n ad_61 en_62 s13 jd RR SL S sf o13.isNone := hW13
  have v13 := lamO_q hq13 (v12.1)
  rw [show r_64 = aR o13 from hr13]
  obtain ⟨hp_65, hdp_65, hOp_65, hnp_65, he21p_65⟩ := id hW13
  obtain ⟨fstp_65, hestp_65⟩ : ∃ fs, en_62 3 = .inr (6, fs) := ⟨_, hp_65.2.1⟩
  obtain ⟨fndp_65, hendp_65⟩ : ∃ fs, en_62 11 = .inr (2, fs) := ⟨_, hdp_65.2.1⟩
  have frp_65 := Fr_tr frp_60 hf13
  have hl : lv_has ls 8 [(7, .int (nI h)), (6, .int (nI g)), (5, .int (nI (sR s0.1 (sL s0.1 f)))), (4, .int (nI (sL s0.1 (sL s0.1 f)))), (3, .int (nI (sL s0.1 f))), (0, .ref (ad_61 21)), (1, .int (nI f)), (2, .int (aR o))] := by rw [hf13.1 21 (by omega) (by unfold pmA; omega)]; exact hl
  refine r_st (st2 := [.int (aR o13), .int (aR o8), .ref (ad_61 21)]) (by rw [hf13.1 21 (by omega) (by unfold pmA; omega)]) ?_
  have hn13_ : nsOK s13.1 s13.2 := hOp_65.1
  refine r_callVi (ci := 3) (As := [.int (aR o8), .int (aR o13)]) hx hb hml hown hts hK hA hs (21) (by omega) he21p_65 rfl rfl (c_X3_apply l G (o1 := o8) (o2 := o13) hW13 (fun u hu => by rw [hi_g v1.1 hn1_ (((((((((((((sExt.rf s1).tr hc2.2.2.2.2).tr hc3.2.2.2.2).tr hc4.2.2.2.2).tr hc5.2.2.2.2).tr hc6.2.2.2.2).tr hc7.2.2.2.2).tr hc8.2.2.2.2).tr hc9.2.2.2.2).tr hc10.2.2.2.2).tr hc11.2.2.2.2).tr hc12.2.2.2.2).tr hc13.2.2.2.2) (up_s v2.2 (up_n v3.2 (up_n v4.2 (up_n v5.2 (up_s v6.2 (up_s v7.2 (up_s v8.2 (up_n v9.2 (up_n v10.2 (up_n v11.2 (up_s v12.2 (up_s v13.2 (⟨u, hu⟩)))))))))))))]; exact hgt) (((((((v8.1).mono hc9.2.2.2.2).mono hc10.2.2.2.2).mono hc11.2.2.2.2).mono hc12.2.2.2.2).mono hc13.2.2.2.2).fn) (((v13.1).self).vd) (fun q => v13.2 (v12.2 (v11.2 (none_i (v10.2 (none_i (v9.2 (none_i (q)))))))))) (cwV 2 hts (tbV w_ml_RX3_83 w_im_yX3_apply w_se_yX3_apply w_ini_RX3 w_cd_yX3_apply) rfl rfl rfl (by decide +kernel) ⟨Nat.le_of_ble_eq_true rfl, Nat.le_of_ble_eq_true rfl⟩) rfl hl.1 rfl (Nat.le_of_ble_eq_true rfl) dX3_rejoin_139 ⟨by show _ ≤ aC (aRejoin f g h o) s0; omega, by show _ ≤ aS (aRejoin f g h o) s0; omega⟩ (fun r_69 ad_66 en_67 H locs hp_68 hs => ?_)
  obtain ⟨hr14, hW14, hf14⟩ := hp_68
  rw [hq14] at hr14 hW14
  have hW14 : PmW G n ad_66 en_67 s14 jd RR SL S sf o14.isNone := hW14
  have v14 := appO_q hq14 (((((((v8.1).mono hc9.2.2.2.2).mono hc10.2.2.2.2).mono hc11.2.2.2.2).mono hc12.2.2.2.2).mono hc13.2.2.2.2).fn)
  rw [show r_69 = aR o14 from hr14]
  obtain ⟨hp_70, hdp_70, hOp_70, hnp_70, he21p_70⟩ := id hW14
  obtain ⟨fstp_70, hestp_70⟩ : ∃ fs, en_67 3 = .inr (6, fs) := ⟨_, hp_70.2.1⟩
  obtain ⟨fndp_70, hendp_70⟩ : ∃ fs, en_67 11 = .inr (2, fs) := ⟨_, hdp_70.2.1⟩
  have frp_70 := Fr_tr frp_65 hf14
  have hl : lv_has ls 8 [(7, .int (nI h)), (6, .int (nI g)), (5, .int (nI (sR s0.1 (sL s0.1 f)))), (4, .int (nI (sL s0.1 (sL s0.1 f)))), (3, .int (nI (sL s0.1 f))), (0, .ref (ad_66 21)), (1, .int (nI f)), (2, .int (aR o))] := by rw [hf14.1 21 (by omega) (by unfold pmA; omega)]; exact hl
  have hn14_ : nsOK s14.1 s14.2 := hOp_70.1
  refine r_iret (v := aR o14) (mc := aC (aRejoin f g h o) s0) (ms := aS (aRejoin f g h o) s0) hx hb hr hlk hs (by omega) (by omega) dX3_rejoin_142 hQ ?_
  exact aPostG.of hE hW14 frp_70 v14.1.vd x14

theorem ok_2 {L M tg g t u : Nat} (h9 : tg ≤ 9 ∧ rPartL.getD tg 0 = 2) (hg : 1 ≤ g ∧ g ≤ L) (ht : 1 ≤ t ∧ t ≤ M) (hu : 1 ≤ u ∧ u ≤ M) : ndOK L (M + 1) (tg, g, t, u, 0) := by
  refine ⟨h9.1, hg.1, hg.2, ?_, ?_, ?_⟩
  · show if 1 ≤ rPartL.getD tg 0 then _ else _
    rw [h9.2, if_pos (by decide)]; simp only; omega
  · show if 2 ≤ rPartL.getD tg 0 then _ else _
    rw [h9.2, if_pos (by decide)]; simp only; omega
  · show if 3 ≤ rPartL.getD tg 0 then _ else _
    rw [h9.2, if_neg (by decide)]
theorem ok_3 {L M tg g t u w : Nat} (h9 : tg ≤ 9 ∧ rPartL.getD tg 0 = 3) (hg : 1 ≤ g ∧ g ≤ L) (ht : 1 ≤ t ∧ t ≤ M) (hu : 1 ≤ u ∧ u ≤ M) (hw : 1 ≤ w ∧ w ≤ M) : ndOK L (M + 1) (tg, g, t, u, w) := by
  refine ⟨h9.1, hg.1, hg.2, ?_, ?_, ?_⟩
  · show if 1 ≤ rPartL.getD tg 0 then _ else _
    rw [h9.2, if_pos (by decide)]; simp only; omega
  · show if 2 ≤ rPartL.getD tg 0 then _ else _
    rw [h9.2, if_pos (by decide)]; simp only; omega
  · show if 3 ≤ rPartL.getD tg 0 then _ else _
    rw [h9.2, if_pos (by decide)]; simp only; omega
theorem not_none {o1 o2 : Option Nat} (hn : o1 = none → o2 = none) (h : o2.isNone = false) : o1.isNone = false := by
  cases o1 with
  | none => rw [hn rfl] at h; cases h
  | some x => rfl
theorem c_X3_make2 (l : Launch) (G : rG) {n : Nat} {ad : Nat → Nat} {en : Nat → va_E} {s0 : NSt} {jd RR SL : Nat} {S : Nat → Nat → Bool} {sf : Nat → Int32} {o1 o2 : Option Nat} (hW : PmW G n ad en s0 jd RR SL S sf o2.isNone) {tg gl : Nat} (ht : tg ≤ 9 ∧ rPartL.getD tg 0 = 2) (hg : 1 ≤ gl ∧ gl ≤ s0.1.length) (h1 : ∀ x, o1 = some x → 1 ≤ x ∧ x ≤ s0.2.length) (h2 : ∀ x, o2 = some x → 1 ≤ x ∧ x ≤ s0.2.length) (hn : o1 = none → o2 = none) : CI l G yX3_make uX3_make (4) (135) (aC (aGate o2.isNone (aNode (tg, gl, o1.getD 0, o2.getD 0, 0))) s0) (aS (aGate o2.isNone (aNode (tg, gl, o1.getD 0, o2.getD 0, 0))) s0) [.ref (ad 21), .int (nI tg), .int (nI gl), .int (aR o1), .int (aR o2), .int 0] n n ad en (aPost G n jd RR SL S sf (aGate o2.isNone (aNode (tg, gl, o1.getD 0, o2.getD 0, 0))) s0 ad en) :=
  c_X3_make l G hW (fun h => ⟨⟨aR_get (not_none hn h), aR_get h, rfl⟩, ok_2 ht hg (h1 _ (get_some (not_none hn h))) (h2 _ (get_some h))⟩)
theorem c_X3_make3 (l : Launch) (G : rG) {n : Nat} {ad : Nat → Nat} {en : Nat → va_E} {s0 : NSt} {jd RR SL : Nat} {S : Nat → Nat → Bool} {sf : Nat → Int32} {o1 o2 o3 : Option Nat} (hW : PmW G n ad en s0 jd RR SL S sf o3.isNone) {tg gl : Nat} (ht : tg ≤ 9 ∧ rPartL.getD tg 0 = 3) (hg : 1 ≤ gl ∧ gl ≤ s0.1.length) (h1 : ∀ x, o1 = some x → 1 ≤ x ∧ x ≤ s0.2.length) (h2 : ∀ x, o2 = some x → 1 ≤ x ∧ x ≤ s0.2.length) (h3 : ∀ x, o3 = some x → 1 ≤ x ∧ x ≤ s0.2.length) (hn1 : o1 = none → o2 = none) (hn2 : o2 = none → o3 = none) : CI l G yX3_make uX3_make (4) (135) (aC (aGate o3.isNone (aNode (tg, gl, o1.getD 0, o2.getD 0, o3.getD 0))) s0) (aS (aGate o3.isNone (aNode (tg, gl, o1.getD 0, o2.getD 0, o3.getD 0))) s0) [.ref (ad 21), .int (nI tg), .int (nI gl), .int (aR o1), .int (aR o2), .int (aR o3)] n n ad en (aPost G n jd RR SL S sf (aGate o3.isNone (aNode (tg, gl, o1.getD 0, o2.getD 0, o3.getD 0))) s0 ad en) :=
  c_X3_make l G hW (fun h => ⟨⟨aR_get (not_none (fun q => hn2 (hn1 q)) h), aR_get (not_none hn2 h), aR_get h⟩, ok_3 ht hg (h1 _ (get_some (not_none (fun q => hn2 (hn1 q)) h))) (h2 _ (get_some (not_none hn2 h))) (h3 _ (get_some h))⟩)
def aUncurry (f g : Nat) (o : Option Nat) : Act := fun s =>
  let q1 := (aLamO (g) o) s
  let q2 := (aGate q1.1.isNone (aNode (0, f, 0, 0, 0))) q1.2
  let q3 := (aGate q2.1.isNone (aNode (0, sL s.1 (sL s.1 f), 0, 0, 0))) q2.2
  let q4 := (aGate q3.1.isNone (aNode (0, sR s.1 (sL s.1 f), 0, 0, 0))) q3.2
  let q5 := (aGate q4.1.isNone (aNode (3, sL s.1 f, q3.1.getD 0, q4.1.getD 0, 0))) q4.2
  let q6 := (aAppO q2.1 q5.1) q5.2
  let q7 := (aLamO (sR s.1 (sL s.1 f)) q6.1) q6.2
  let q8 := (aLamO (sL s.1 (sL s.1 f)) q7.1) q7.2
  (aAppO q1.1 q8.1) q8.2
theorem aUncurry_eq {f g : Nat} {o : Option Nat} {o1 o2 o3 o4 o5 o6 o7 o8 o9 : Option Nat} {s s1 s2 s3 s4 s5 s6 s7 s8 s9 : NSt} (h1 : (aLamO (g) o) s = (o1, s1)) (h2 : (aGate o1.isNone (aNode (0, f, 0, 0, 0))) s1 = (o2, s2)) (h3 : (aGate o2.isNone (aNode (0, sL s.1 (sL s.1 f), 0, 0, 0))) s2 = (o3, s3)) (h4 : (aGate o3.isNone (aNode (0, sR s.1 (sL s.1 f), 0, 0, 0))) s3 = (o4, s4)) (h5 : (aGate o4.isNone (aNode (3, sL s.1 f, o3.getD 0, o4.getD 0, 0))) s4 = (o5, s5)) (h6 : (aAppO o2 o5) s5 = (o6, s6)) (h7 : (aLamO (sR s.1 (sL s.1 f)) o6) s6 = (o7, s7)) (h8 : (aLamO (sL s.1 (sL s.1 f)) o7) s7 = (o8, s8)) (h9 : (aAppO o1 o8) s8 = (o9, s9)) : aUncurry f g o s = (o9, s9) := by
  unfold aUncurry
  simp only [h1, h2, h3, h4, h5, h6, h7, h8, h9]
theorem aUncurry_ext (f g : Nat) (o : Option Nat) (s0 : NSt) : sExt s0 (aUncurry f g o s0).2 := by
  obtain ⟨o1, s1, hq1⟩ : ∃ oo tt, (aLamO (g) o) s0 = (oo, tt) := ⟨_, _, rfl⟩
  have x1 := (aC_eq hq1 (aLamO_ext _ _ _)).2.2.2.2
  obtain ⟨o2, s2, hq2⟩ : ∃ oo tt, (aGate o1.isNone (aNode (0, f, 0, 0, 0))) s1 = (oo, tt) := ⟨_, _, rfl⟩
  have x2 := x1.tr ((aC_eq hq2 (aGate_ext (aNode_ext _) _ _)).2.2.2.2)
  obtain ⟨o3, s3, hq3⟩ : ∃ oo tt, (aGate o2.isNone (aNode (0, sL s0.1 (sL s0.1 f), 0, 0, 0))) s2 = (oo, tt) := ⟨_, _, rfl⟩
  have x3 := x2.tr ((aC_eq hq3 (aGate_ext (aNode_ext _) _ _)).2.2.2.2)
  obtain ⟨o4, s4, hq4⟩ : ∃ oo tt, (aGate o3.isNone (aNode (0, sR s0.1 (sL s0.1 f), 0, 0, 0))) s3 = (oo, tt) := ⟨_, _, rfl⟩
  have x4 := x3.tr ((aC_eq hq4 (aGate_ext (aNode_ext _) _ _)).2.2.2.2)
  obtain ⟨o5, s5, hq5⟩ : ∃ oo tt, (aGate o4.isNone (aNode (3, sL s0.1 f, o3.getD 0, o4.getD 0, 0))) s4 = (oo, tt) := ⟨_, _, rfl⟩
  have x5 := x4.tr ((aC_eq hq5 (aGate_ext (aNode_ext _) _ _)).2.2.2.2)
  obtain ⟨o6, s6, hq6⟩ : ∃ oo tt, (aAppO o2 o5) s5 = (oo, tt) := ⟨_, _, rfl⟩
  have x6 := x5.tr ((aC_eq hq6 (aAppO_ext _ _ _)).2.2.2.2)
  obtain ⟨o7, s7, hq7⟩ : ∃ oo tt, (aLamO (sR s0.1 (sL s0.1 f)) o6) s6 = (oo, tt) := ⟨_, _, rfl⟩
  have x7 := x6.tr ((aC_eq hq7 (aLamO_ext _ _ _)).2.2.2.2)
  obtain ⟨o8, s8, hq8⟩ : ∃ oo tt, (aLamO (sL s0.1 (sL s0.1 f)) o7) s7 = (oo, tt) := ⟨_, _, rfl⟩
  have x8 := x7.tr ((aC_eq hq8 (aLamO_ext _ _ _)).2.2.2.2)
  obtain ⟨o9, s9, hq9⟩ : ∃ oo tt, (aAppO o1 o8) s8 = (oo, tt) := ⟨_, _, rfl⟩
  have x9 := x8.tr ((aC_eq hq9 (aAppO_ext _ _ _)).2.2.2.2)
  rw [aUncurry_eq hq1 hq2 hq3 hq4 hq5 hq6 hq7 hq8 hq9]; exact x9
set_option maxHeartbeats 600000 in
set_option maxRecDepth 100000 in
theorem c_X3_uncurry (l : Launch) (G : rG) {n : Nat} {ad : Nat → Nat} {en : Nat → va_E} {s0 : NSt} {jd RR SL : Nat} {S : Nat → Nat → Bool} {sf : Nat → Int32} {o : Option Nat} (hW : PmW G n ad en s0 jd RR SL S sf o.isNone) {f g gt : Nat} (hf : 1 ≤ f ∧ f ≤ s0.1.length) (h2 : 2 ≤ sSort s0.1 f) (h3 : 2 ≤ sSort s0.1 (sL s0.1 f)) (ho : oNd s0 o gt) (hgt : 1 ≤ gt) (hg : 1 ≤ g ∧ g ≤ s0.1.length) {gi : Nat} (hgi : kFind s0.1 (4, sR s0.1 (sL s0.1 f), sR s0.1 f, 0, 0) = gi ∧ gi ≤ s0.1.length) (hgg : kFind s0.1 (4, sL s0.1 (sL s0.1 f), gi, 0, 0) = g) : CI l G yX3_uncurry uX3_uncurry (5) (168) (aC (aUncurry f g o) s0) (aS (aUncurry f g o) s0) [.ref (ad 21), .int (nI f), .int (aR o)] (n) (n) ad en (aPostG G n jd RR SL S sf (aUncurry f g o) s0 ad en) := by
  intro sz
  refine rMet (Qc := qI G (n) (aPostG G n jd RR SL S sf (aUncurry f g o) s0 ad en)) (cc := cX3_uncurry) (maxL := 7) (ret := (some .int)) (by decide) rfl (Nat.le_of_ble_eq_true rfl) ?_
  intro pP eE sS mM aA bB tT cC ls A Q hc hK hsz hA hs hl hQ
  obtain ⟨hx, hb, hr, hts, hown, hlk, hnm, hml⟩ := hc
  have hl : lv_has ls 7 [(0, .ref (ad 21)), (1, .int (nI f)), (2, .int (aR o))] := hl
  obtain ⟨h0, hd0, hO0, hn0, he210⟩ := id hW
  obtain ⟨fst0, hest0⟩ : ∃ fs, en 3 = .inr (6, fs) := ⟨_, h0.2.1⟩
  obtain ⟨fnd0, hend0⟩ : ∃ fs, en 11 = .inr (2, fs) := ⟨_, hd0.2.1⟩
  have h6 := h0.2.2.2.2.2.1
  have h8 := hO0.1.1
  have x0 := sExt.rf s0
  have hn0_ : nsOK s0.1 s0.2 := hO0.1
  have hokk : ssOK s0.1 := h0.2.2.2.2.2
  obtain ⟨o1, s1, hq1⟩ : ∃ oo tt, (aLamO (g) o) s0 = (oo, tt) := ⟨_, _, rfl⟩
  have hc1 := aC_eq hq1 (aLamO_ext _ _ _)
  have x1 := x0.tr hc1.2.2.2.2
  obtain ⟨o2, s2, hq2⟩ : ∃ oo tt, (aGate o1.isNone (aNode (0, f, 0, 0, 0))) s1 = (oo, tt) := ⟨_, _, rfl⟩
  have hc2 := aC_eq hq2 (aGate_ext (aNode_ext _) _ _)
  have x2 := x1.tr hc2.2.2.2.2
  obtain ⟨o3, s3, hq3⟩ : ∃ oo tt, (aGate o2.isNone (aNode (0, sL s0.1 (sL s0.1 f), 0, 0, 0))) s2 = (oo, tt) := ⟨_, _, rfl⟩
  have hc3 := aC_eq hq3 (aGate_ext (aNode_ext _) _ _)
  have x3 := x2.tr hc3.2.2.2.2
  obtain ⟨o4, s4, hq4⟩ : ∃ oo tt, (aGate o3.isNone (aNode (0, sR s0.1 (sL s0.1 f), 0, 0, 0))) s3 = (oo, tt) := ⟨_, _, rfl⟩
  have hc4 := aC_eq hq4 (aGate_ext (aNode_ext _) _ _)
  have x4 := x3.tr hc4.2.2.2.2
  obtain ⟨o5, s5, hq5⟩ : ∃ oo tt, (aGate o4.isNone (aNode (3, sL s0.1 f, o3.getD 0, o4.getD 0, 0))) s4 = (oo, tt) := ⟨_, _, rfl⟩
  have hc5 := aC_eq hq5 (aGate_ext (aNode_ext _) _ _)
  have x5 := x4.tr hc5.2.2.2.2
  obtain ⟨o6, s6, hq6⟩ : ∃ oo tt, (aAppO o2 o5) s5 = (oo, tt) := ⟨_, _, rfl⟩
  have hc6 := aC_eq hq6 (aAppO_ext _ _ _)
  have x6 := x5.tr hc6.2.2.2.2
  obtain ⟨o7, s7, hq7⟩ : ∃ oo tt, (aLamO (sR s0.1 (sL s0.1 f)) o6) s6 = (oo, tt) := ⟨_, _, rfl⟩
  have hc7 := aC_eq hq7 (aLamO_ext _ _ _)
  have x7 := x6.tr hc7.2.2.2.2
  obtain ⟨o8, s8, hq8⟩ : ∃ oo tt, (aLamO (sL s0.1 (sL s0.1 f)) o7) s7 = (oo, tt) := ⟨_, _, rfl⟩
  have hc8 := aC_eq hq8 (aLamO_ext _ _ _)
  have x8 := x7.tr hc8.2.2.2.2
  obtain ⟨o9, s9, hq9⟩ : ∃ oo tt, (aAppO o1 o8) s8 = (oo, tt) := ⟨_, _, rfl⟩
  have hc9 := aC_eq hq9 (aAppO_ext _ _ _)
  have x9 := x8.tr hc9.2.2.2.2
  have hE := aUncurry_eq hq1 hq2 hq3 hq4 hq5 hq6 hq7 hq8 hq9
  obtain ⟨hRC, hRS⟩ := aC_all hE x9
  obtain ⟨hL1, hR1⟩ := parts_of hokk hf h2
  obtain ⟨hC1, hD1⟩ := parts_of hokk hL1 h3
  refine lv_aload_n hx hb dX3_uncurry_0 rfl (lv_at hl 0 rfl) ?_
  refine r_get (ci := 3) (v := .ref (ad 3)) (C := RX3) (T := TX3) (N := 4) hx hb hts inlX3 hown hK hs (21) (by omega) he210 rfl 0 (by decide) (hts _ w_fl_RX3_15) rfl dX3_uncurry_1 ?_
  refine lv_iload_n hx hb dX3_uncurry_4 rfl (lv_at hl 1 rfl) ?_
  refine r_callViR (ci := 6) (As := [.int (nI f)]) hx hb hml hown hts hK hA hs (3) (by omega) hest0 rfl rfl (c_X6_leftOfN l G h0 f (by omega)) (cwV 1 hts (tbV w_ml_RX3_56 w_im_yX6_leftOf w_se_yX6_leftOf w_ini_RX6 w_cd_yX6_leftOf) rfl rfl rfl (by decide +kernel) ⟨Nat.le_of_ble_eq_true rfl, Nat.le_of_ble_eq_true rfl⟩) rfl hl.1 rfl (Nat.le_of_ble_eq_true rfl) dX3_uncurry_5 ⟨by show _ ≤ aC (aUncurry f g o) s0; omega, by show _ ≤ aS (aUncurry f g o) s0; omega⟩ (fun H locs hs => ?_)
  refine lv_istore_n (lv' := [(3, .int (nI (sL s0.1 f))), (0, .ref (ad 21)), (1, .int (nI f)), (2, .int (aR o))]) hx hb dX3_uncurry_8 rfl hl (by decide) rfl (fun ls hl => ?_)
  refine lv_aload_n hx hb dX3_uncurry_9 rfl (lv_at hl 1 rfl) ?_
  refine r_get (ci := 3) (v := .ref (ad 3)) (C := RX3) (T := TX3) (N := 4) hx hb hts inlX3 hown hK hs (21) (by omega) he210 rfl 0 (by decide) (hts _ w_fl_RX3_15) rfl dX3_uncurry_10 ?_
  refine lv_iload_n hx hb dX3_uncurry_13 rfl (lv_at hl 0 rfl) ?_
  refine r_callViR (ci := 6) (As := [.int (nI (sL s0.1 f))]) hx hb hml hown hts hK hA hs (3) (by omega) hest0 rfl rfl (c_X6_leftOfN l G h0 (sL s0.1 f) (by omega)) (cwV 1 hts (tbV w_ml_RX3_56 w_im_yX6_leftOf w_se_yX6_leftOf w_ini_RX6 w_cd_yX6_leftOf) rfl rfl rfl (by decide +kernel) ⟨Nat.le_of_ble_eq_true rfl, Nat.le_of_ble_eq_true rfl⟩) rfl hl.1 rfl (Nat.le_of_ble_eq_true rfl) dX3_uncurry_14 ⟨by show _ ≤ aC (aUncurry f g o) s0; omega, by show _ ≤ aS (aUncurry f g o) s0; omega⟩ (fun H locs hs => ?_)
  refine lv_istore (lv' := [(4, .int (nI (sL s0.1 (sL s0.1 f)))), (3, .int (nI (sL s0.1 f))), (0, .ref (ad 21)), (1, .int (nI f)), (2, .int (aR o))]) hx hb dX3_uncurry_17 hl (by decide) rfl (fun ls hl => ?_)
  refine lv_aload_n hx hb dX3_uncurry_19 rfl (lv_at hl 2 rfl) ?_
  refine r_get (ci := 3) (v := .ref (ad 3)) (C := RX3) (T := TX3) (N := 4) hx hb hts inlX3 hown hK hs (21) (by omega) he210 rfl 0 (by decide) (hts _ w_fl_RX3_15) rfl dX3_uncurry_20 ?_
  refine lv_iload_n hx hb dX3_uncurry_23 rfl (lv_at hl 1 rfl) ?_
  refine r_callViR (ci := 6) (As := [.int (nI (sL s0.1 f))]) hx hb hml hown hts hK hA hs (3) (by omega) hest0 rfl rfl (c_X6_rightOfN l G h0 (sL s0.1 f) (by omega)) (cwV 1 hts (tbV w_ml_RX3_76 w_im_yX6_rightOf w_se_yX6_rightOf w_ini_RX6 w_cd_yX6_rightOf) rfl rfl rfl (by decide +kernel) ⟨Nat.le_of_ble_eq_true rfl, Nat.le_of_ble_eq_true rfl⟩) rfl hl.1 rfl (Nat.le_of_ble_eq_true rfl) dX3_uncurry_24 ⟨by show _ ≤ aC (aUncurry f g o) s0; omega, by show _ ≤ aS (aUncurry f g o) s0; omega⟩ (fun H locs hs => ?_)
  refine lv_istore (lv' := [(5, .int (nI (sR s0.1 (sL s0.1 f)))), (4, .int (nI (sL s0.1 (sL s0.1 f)))), (3, .int (nI (sL s0.1 f))), (0, .ref (ad 21)), (1, .int (nI f)), (2, .int (aR o))]) hx hb dX3_uncurry_27 hl (by decide) rfl (fun ls hl => ?_)
  refine lv_aload_n hx hb dX3_uncurry_29 rfl (lv_at hl 3 rfl) ?_
  refine lv_iload hx hb dX3_uncurry_30 (lv_at hl 1 rfl) ?_
  refine lv_aload_n hx hb dX3_uncurry_32 rfl (lv_at hl 3 rfl) ?_
  refine lv_iload hx hb dX3_uncurry_33 (lv_at hl 0 rfl) ?_
  refine lv_aload_n hx hb dX3_uncurry_35 rfl (lv_at hl 3 rfl) ?_
  refine r_get (ci := 3) (v := .ref (ad 3)) (C := RX3) (T := TX3) (N := 4) hx hb hts inlX3 hown hK hs (21) (by omega) he210 rfl 0 (by decide) (hts _ w_fl_RX3_15) rfl dX3_uncurry_36 ?_
  refine lv_iload_n hx hb dX3_uncurry_39 rfl (lv_at hl 4 rfl) ?_
  refine r_callViR (ci := 6) (As := [.int (nI f)]) hx hb hml hown hts hK hA hs (3) (by omega) hest0 rfl rfl (c_X6_rightOfN l G h0 f (by omega)) (cwV 1 hts (tbV w_ml_RX3_76 w_im_yX6_rightOf w_se_yX6_rightOf w_ini_RX6 w_cd_yX6_rightOf) rfl rfl rfl (by decide +kernel) ⟨Nat.le_of_ble_eq_true rfl, Nat.le_of_ble_eq_true rfl⟩) rfl hl.1 rfl (Nat.le_of_ble_eq_true rfl) dX3_uncurry_40 ⟨by show _ ≤ aC (aUncurry f g o) s0; omega, by show _ ≤ aS (aUncurry f g o) s0; omega⟩ (fun H locs hs => ?_)
  refine r_callViR (ci := 3) (As := [.int (nI (sR s0.1 (sL s0.1 f))), .int (nI (sR s0.1 f))]) hx hb hml hown hts hK hA hs (21) (by omega) he210 rfl rfl (c_X3_implication l G hW (a := sR s0.1 (sL s0.1 f)) (b := sR s0.1 f) (by omega)) (cwV 2 hts (tbV w_ml_RX3_86 w_im_yX3_implication w_se_yX3_implication w_ini_RX3 w_cd_yX3_implication) rfl rfl rfl (by decide +kernel) ⟨Nat.le_of_ble_eq_true rfl, Nat.le_of_ble_eq_true rfl⟩) rfl hl.1 rfl (Nat.le_of_ble_eq_true rfl) dX3_uncurry_43 ⟨by show _ ≤ aC (aUncurry f g o) s0; omega, by show _ ≤ aS (aUncurry f g o) s0; omega⟩ (fun H locs hs => ?_)
  refine r_topi (y := nI gi) (by rw [hgi.1]) ?_
  refine r_callViR (ci := 3) (As := [.int (nI (sL s0.1 (sL s0.1 f))), .int (nI gi)]) hx hb hml hown hts hK hA hs (21) (by omega) he210 rfl rfl (c_X3_implication l G hW (a := sL s0.1 (sL s0.1 f)) (b := gi) (by omega)) (cwV 2 hts (tbV w_ml_RX3_86 w_im_yX3_implication w_se_yX3_implication w_ini_RX3 w_cd_yX3_implication) rfl rfl rfl (by decide +kernel) ⟨Nat.le_of_ble_eq_true rfl, Nat.le_of_ble_eq_true rfl⟩) rfl hl.1 rfl (Nat.le_of_ble_eq_true rfl) dX3_uncurry_46 ⟨by show _ ≤ aC (aUncurry f g o) s0; omega, by show _ ≤ aS (aUncurry f g o) s0; omega⟩ (fun H locs hs => ?_)
  refine r_topi (y := nI g) (by rw [hgg]) ?_
  refine lv_istore (lv' := [(6, .int (nI g)), (5, .int (nI (sR s0.1 (sL s0.1 f)))), (4, .int (nI (sL s0.1 (sL s0.1 f)))), (3, .int (nI (sL s0.1 f))), (0, .ref (ad 21)), (1, .int (nI f)), (2, .int (aR o))]) hx hb dX3_uncurry_49 hl (by decide) rfl (fun ls hl => ?_)
  refine lv_aload_n hx hb dX3_uncurry_51 rfl (lv_at hl 4 rfl) ?_
  refine lv_aload_n hx hb dX3_uncurry_52 rfl (lv_at hl 4 rfl) ?_
  refine lv_iload hx hb dX3_uncurry_53 (lv_at hl 0 rfl) ?_
  refine lv_iload_n hx hb dX3_uncurry_55 rfl (lv_at hl 6 rfl) ?_
  refine r_callVi (ci := 3) (As := [.int (nI g), .int (aR o)]) hx hb hml hown hts hK hA hs (21) (by omega) he210 rfl rfl (c_X3_lambda l G (o := o) hW (a := g) (by have := sExt_len x0; omega) (ho)) (cwV 2 hts (tbV w_ml_RX3_61 w_im_yX3_lambda w_se_yX3_lambda w_ini_RX3 w_cd_yX3_lambda) rfl rfl rfl (by decide +kernel) ⟨Nat.le_of_ble_eq_true rfl, Nat.le_of_ble_eq_true rfl⟩) rfl hl.1 rfl (Nat.le_of_ble_eq_true rfl) dX3_uncurry_56 ⟨by show _ ≤ aC (aUncurry f g o) s0; omega, by show _ ≤ aS (aUncurry f g o) s0; omega⟩ (fun r_4 ad_1 en_2 H locs hp_3 hs => ?_)
  obtain ⟨hr1, hW1, hf1⟩ := hp_3
  rw [hq1] at hr1 hW1
  have hW1 : PmW G n ad_1 en_2 s1 jd RR SL S sf o1.isNone := hW1
  have v1 := lamO_q hq1 (ho)
  rw [show r_4 = aR o1 from hr1]
  obtain ⟨hp_5, hdp_5, hOp_5, hnp_5, he21p_5⟩ := id hW1
  obtain ⟨fstp_5, hestp_5⟩ : ∃ fs, en_2 3 = .inr (6, fs) := ⟨_, hp_5.2.1⟩
  obtain ⟨fndp_5, hendp_5⟩ : ∃ fs, en_2 11 = .inr (2, fs) := ⟨_, hdp_5.2.1⟩
  have frp_5 := Fr_tr Fr_rf hf1
  have hl : lv_has ls 7 [(6, .int (nI g)), (5, .int (nI (sR s0.1 (sL s0.1 f)))), (4, .int (nI (sL s0.1 (sL s0.1 f)))), (3, .int (nI (sL s0.1 f))), (0, .ref (ad_1 21)), (1, .int (nI f)), (2, .int (aR o))] := by rw [hf1.1 21 (by omega) (by unfold pmA; omega)]; exact hl
  refine r_st (st2 := [.int (aR o1), .ref (ad_1 21)]) (by rw [hf1.1 21 (by omega) (by unfold pmA; omega)]) ?_
  have hn1_ : nsOK s1.1 s1.2 := hOp_5.1
  refine lv_aload_n hx hb dX3_uncurry_59 rfl (lv_at hl 4 rfl) ?_
  refine lv_iload hx hb dX3_uncurry_60 (lv_at hl 2 rfl) ?_
  refine lv_aload_n hx hb dX3_uncurry_62 rfl (lv_at hl 4 rfl) ?_
  refine lv_iload hx hb dX3_uncurry_63 (lv_at hl 1 rfl) ?_
  refine lv_aload_n hx hb dX3_uncurry_65 rfl (lv_at hl 4 rfl) ?_
  refine lv_aload_n hx hb dX3_uncurry_66 rfl (lv_at hl 4 rfl) ?_
  refine lv_iload_n hx hb dX3_uncurry_67 rfl (lv_at hl 5 rfl) ?_
  refine r_callVi (ci := 3) (As := [.int (nI f)]) hx hb hml hown hts hK hA hs (21) (by omega) he21p_5 rfl rfl (c_X3_given l G hW1 (f1 := f) (by have := sExt_len x1; omega)) (cwV 1 hts (tbV w_ml_RX3_49 w_im_yX3_given w_se_yX3_given w_ini_RX3 w_cd_yX3_given) rfl rfl rfl (by decide +kernel) ⟨Nat.le_of_ble_eq_true rfl, Nat.le_of_ble_eq_true rfl⟩) rfl hl.1 rfl (Nat.le_of_ble_eq_true rfl) dX3_uncurry_68 ⟨by show _ ≤ aC (aUncurry f g o) s0; omega, by show _ ≤ aS (aUncurry f g o) s0; omega⟩ (fun r_9 ad_6 en_7 H locs hp_8 hs => ?_)
  obtain ⟨hr2, hW2, hf2⟩ := hp_8
  rw [hq2] at hr2 hW2
  have hW2 : PmW G n ad_6 en_7 s2 jd RR SL S sf o2.isNone := hW2
  have v2 := gate_q hq2
  rw [show r_9 = aR o2 from hr2]
  obtain ⟨hp_10, hdp_10, hOp_10, hnp_10, he21p_10⟩ := id hW2
  obtain ⟨fstp_10, hestp_10⟩ : ∃ fs, en_7 3 = .inr (6, fs) := ⟨_, hp_10.2.1⟩
  obtain ⟨fndp_10, hendp_10⟩ : ∃ fs, en_7 11 = .inr (2, fs) := ⟨_, hdp_10.2.1⟩
  have frp_10 := Fr_tr frp_5 hf2
  have hl : lv_has ls 7 [(6, .int (nI g)), (5, .int (nI (sR s0.1 (sL s0.1 f)))), (4, .int (nI (sL s0.1 (sL s0.1 f)))), (3, .int (nI (sL s0.1 f))), (0, .ref (ad_6 21)), (1, .int (nI f)), (2, .int (aR o))] := by rw [hf2.1 21 (by omega) (by unfold pmA; omega)]; exact hl
  refine r_st (st2 := [.int (aR o2), .ref (ad_6 21), .int (nI (sR s0.1 (sL s0.1 f))), .ref (ad_6 21), .int (nI (sL s0.1 (sL s0.1 f))), .ref (ad_6 21), .int (aR o1), .ref (ad_6 21)]) (by rw [hf2.1 21 (by omega) (by unfold pmA; omega)]) ?_
  have hn2_ : nsOK s2.1 s2.2 := hOp_10.1
  refine lv_aload_n hx hb dX3_uncurry_71 rfl (lv_at hl 4 rfl) ?_
  refine lv_iconst (v := 3) hx hb dX3_uncurry_72 (by decide) ?_
  refine lv_iload_n hx hb dX3_uncurry_73 rfl (lv_at hl 3 rfl) ?_
  refine lv_aload_n hx hb dX3_uncurry_74 rfl (lv_at hl 4 rfl) ?_
  refine lv_iload hx hb dX3_uncurry_75 (lv_at hl 2 rfl) ?_
  refine r_callDi (ci := 3) (As := [.int (nI (sL s0.1 (sL s0.1 f)))]) hx hb hml hown hts hK hA hs (21) (by omega) he21p_10 rfl rfl (c_X3_given l G hW2 (f1 := sL s0.1 (sL s0.1 f)) (by have := sExt_len x2; omega)) (cwV 1 hts (tbV w_ml_RX3_49 w_im_yX3_given w_se_yX3_given w_ini_RX3 w_cd_yX3_given) rfl rfl rfl (by decide +kernel) ⟨Nat.le_of_ble_eq_true rfl, Nat.le_of_ble_eq_true rfl⟩) (Nat.le_of_ble_eq_true rfl) rfl hl.1 rfl (Nat.le_of_ble_eq_true rfl) dX3_uncurry_77 ⟨by show _ ≤ aC (aUncurry f g o) s0; omega, by show _ ≤ aS (aUncurry f g o) s0; omega⟩ (fun r_14 ad_11 en_12 H locs hp_13 hs => ?_)
  obtain ⟨hr3, hW3, hf3⟩ := hp_13
  rw [hq3] at hr3 hW3
  have hW3 : PmW G n ad_11 en_12 s3 jd RR SL S sf o3.isNone := hW3
  have v3 := gate_q hq3
  rw [show r_14 = aR o3 from hr3]
  obtain ⟨hp_15, hdp_15, hOp_15, hnp_15, he21p_15⟩ := id hW3
  obtain ⟨fstp_15, hestp_15⟩ : ∃ fs, en_12 3 = .inr (6, fs) := ⟨_, hp_15.2.1⟩
  obtain ⟨fndp_15, hendp_15⟩ : ∃ fs, en_12 11 = .inr (2, fs) := ⟨_, hdp_15.2.1⟩
  have frp_15 := Fr_tr frp_10 hf3
  have hl : lv_has ls 7 [(6, .int (nI g)), (5, .int (nI (sR s0.1 (sL s0.1 f)))), (4, .int (nI (sL s0.1 (sL s0.1 f)))), (3, .int (nI (sL s0.1 f))), (0, .ref (ad_11 21)), (1, .int (nI f)), (2, .int (aR o))] := by rw [hf3.1 21 (by omega) (by unfold pmA; omega)]; exact hl
  refine r_st (st2 := [.int (aR o3), .int (nI (sL s0.1 f)), .int (3), .ref (ad_11 21), .int (aR o2), .ref (ad_11 21), .int (nI (sR s0.1 (sL s0.1 f))), .ref (ad_11 21), .int (nI (sL s0.1 (sL s0.1 f))), .ref (ad_11 21), .int (aR o1), .ref (ad_11 21)]) (by rw [hf3.1 21 (by omega) (by unfold pmA; omega)]) ?_
  have hn3_ : nsOK s3.1 s3.2 := hOp_15.1
  refine lv_aload_n hx hb dX3_uncurry_80 rfl (lv_at hl 4 rfl) ?_
  refine lv_iload hx hb dX3_uncurry_81 (lv_at hl 1 rfl) ?_
  refine r_callDi (ci := 3) (As := [.int (nI (sR s0.1 (sL s0.1 f)))]) hx hb hml hown hts hK hA hs (21) (by omega) he21p_15 rfl rfl (c_X3_given l G hW3 (f1 := sR s0.1 (sL s0.1 f)) (by have := sExt_len x3; omega)) (cwV 1 hts (tbV w_ml_RX3_49 w_im_yX3_given w_se_yX3_given w_ini_RX3 w_cd_yX3_given) rfl rfl rfl (by decide +kernel) ⟨Nat.le_of_ble_eq_true rfl, Nat.le_of_ble_eq_true rfl⟩) (Nat.le_of_ble_eq_true rfl) rfl hl.1 rfl (Nat.le_of_ble_eq_true rfl) dX3_uncurry_83 ⟨by show _ ≤ aC (aUncurry f g o) s0; omega, by show _ ≤ aS (aUncurry f g o) s0; omega⟩ (fun r_19 ad_16 en_17 H locs hp_18 hs => ?_)
  obtain ⟨hr4, hW4, hf4⟩ := hp_18
  rw [hq4] at hr4 hW4
  have hW4 : PmW G n ad_16 en_17 s4 jd RR SL S sf o4.isNone := hW4
  have v4 := gate_q hq4
  rw [show r_19 = aR o4 from hr4]
  obtain ⟨hp_20, hdp_20, hOp_20, hnp_20, he21p_20⟩ := id hW4
  obtain ⟨fstp_20, hestp_20⟩ : ∃ fs, en_17 3 = .inr (6, fs) := ⟨_, hp_20.2.1⟩
  obtain ⟨fndp_20, hendp_20⟩ : ∃ fs, en_17 11 = .inr (2, fs) := ⟨_, hdp_20.2.1⟩
  have frp_20 := Fr_tr frp_15 hf4
  have hl : lv_has ls 7 [(6, .int (nI g)), (5, .int (nI (sR s0.1 (sL s0.1 f)))), (4, .int (nI (sL s0.1 (sL s0.1 f)))), (3, .int (nI (sL s0.1 f))), (0, .ref (ad_16 21)), (1, .int (nI f)), (2, .int (aR o))] := by rw [hf4.1 21 (by omega) (by unfold pmA; omega)]; exact hl
  refine r_st (st2 := [.int (aR o4), .int (aR o3), .int (nI (sL s0.1 f)), .int (3), .ref (ad_16 21), .int (aR o2), .ref (ad_16 21), .int (nI (sR s0.1 (sL s0.1 f))), .ref (ad_16 21), .int (nI (sL s0.1 (sL s0.1 f))), .ref (ad_16 21), .int (aR o1), .ref (ad_16 21)]) (by rw [hf4.1 21 (by omega) (by unfold pmA; omega)]) ?_
  have hn4_ : nsOK s4.1 s4.2 := hOp_20.1
  refine lv_iconst (v := 0) hx hb dX3_uncurry_86 (by decide) ?_
  refine r_callVi (ci := 3) (As := [.int (3), .int (nI (sL s0.1 f)), .int (aR o3), .int (aR o4), .int (0)]) hx hb hml hown hts hK hA hs (21) (by omega) he21p_20 rfl rfl (c_X3_make2 l G (o1 := o3) (o2 := o4) hW4 (tg := 3) (gl := sL s0.1 f) (by decide) (by have := sExt_len x4; omega) (((v3.1).mono hc4.2.2.2.2).vd) ((v4.1).vd) (fun q => v4.2 (none_i (q)))) (cwV 5 hts (tbV w_ml_RX3_52 w_im_yX3_make w_se_yX3_make w_ini_RX3 w_cd_yX3_make) rfl rfl rfl (by decide +kernel) ⟨Nat.le_of_ble_eq_true rfl, Nat.le_of_ble_eq_true rfl⟩) rfl hl.1 rfl (Nat.le_of_ble_eq_true rfl) dX3_uncurry_87 ⟨by show _ ≤ aC (aUncurry f g o) s0; omega, by show _ ≤ aS (aUncurry f g o) s0; omega⟩ (fun r_24 ad_21 en_22 H locs hp_23 hs => ?_)
  obtain ⟨hr5, hW5, hf5⟩ := hp_23
  rw [hq5] at hr5 hW5
  have hW5 : PmW G n ad_21 en_22 s5 jd RR SL S sf o5.isNone := hW5
  have v5 := gate_q hq5
  rw [show r_24 = aR o5 from hr5]
  obtain ⟨hp_25, hdp_25, hOp_25, hnp_25, he21p_25⟩ := id hW5
  obtain ⟨fstp_25, hestp_25⟩ : ∃ fs, en_22 3 = .inr (6, fs) := ⟨_, hp_25.2.1⟩
  obtain ⟨fndp_25, hendp_25⟩ : ∃ fs, en_22 11 = .inr (2, fs) := ⟨_, hdp_25.2.1⟩
  have frp_25 := Fr_tr frp_20 hf5
  have hl : lv_has ls 7 [(6, .int (nI g)), (5, .int (nI (sR s0.1 (sL s0.1 f)))), (4, .int (nI (sL s0.1 (sL s0.1 f)))), (3, .int (nI (sL s0.1 f))), (0, .ref (ad_21 21)), (1, .int (nI f)), (2, .int (aR o))] := by rw [hf5.1 21 (by omega) (by unfold pmA; omega)]; exact hl
  refine r_st (st2 := [.int (aR o5), .int (aR o2), .ref (ad_21 21), .int (nI (sR s0.1 (sL s0.1 f))), .ref (ad_21 21), .int (nI (sL s0.1 (sL s0.1 f))), .ref (ad_21 21), .int (aR o1), .ref (ad_21 21)]) (by rw [hf5.1 21 (by omega) (by unfold pmA; omega)]) ?_
  have hn5_ : nsOK s5.1 s5.2 := hOp_25.1
  refine r_callVi (ci := 3) (As := [.int (aR o2), .int (aR o5)]) hx hb hml hown hts hK hA hs (21) (by omega) he21p_25 rfl rfl (c_X3_apply l G (o1 := o2) (o2 := o5) hW5 (fun _ _ => by rw [(sR_ext x5 hf.2).1]; exact hR1.1) (((((v2.1).mono hc3.2.2.2.2).mono hc4.2.2.2.2).mono hc5.2.2.2.2).fn) ((v5.1).vd) (fun q => v5.2 (none_i (v4.2 (none_i (v3.2 (none_i (q)))))))) (cwV 2 hts (tbV w_ml_RX3_83 w_im_yX3_apply w_se_yX3_apply w_ini_RX3 w_cd_yX3_apply) rfl rfl rfl (by decide +kernel) ⟨Nat.le_of_ble_eq_true rfl, Nat.le_of_ble_eq_true rfl⟩) rfl hl.1 rfl (Nat.le_of_ble_eq_true rfl) dX3_uncurry_90 ⟨by show _ ≤ aC (aUncurry f g o) s0; omega, by show _ ≤ aS (aUncurry f g o) s0; omega⟩ (fun r_29 ad_26 en_27 H locs hp_28 hs => ?_)
  obtain ⟨hr6, hW6, hf6⟩ := hp_28
  rw [hq6] at hr6 hW6
  have hW6 : PmW G n ad_26 en_27 s6 jd RR SL S sf o6.isNone := hW6
  have v6 := appO_q hq6 (((((v2.1).mono hc3.2.2.2.2).mono hc4.2.2.2.2).mono hc5.2.2.2.2).fn)
  rw [show r_29 = aR o6 from hr6]
  obtain ⟨hp_30, hdp_30, hOp_30, hnp_30, he21p_30⟩ := id hW6
  obtain ⟨fstp_30, hestp_30⟩ : ∃ fs, en_27 3 = .inr (6, fs) := ⟨_, hp_30.2.1⟩
  obtain ⟨fndp_30, hendp_30⟩ : ∃ fs, en_27 11 = .inr (2, fs) := ⟨_, hdp_30.2.1⟩
  have frp_30 := Fr_tr frp_25 hf6
  have hl : lv_has ls 7 [(6, .int (nI g)), (5, .int (nI (sR s0.1 (sL s0.1 f)))), (4, .int (nI (sL s0.1 (sL s0.1 f)))), (3, .int (nI (sL s0.1 f))), (0, .ref (ad_26 21)), (1, .int (nI f)), (2, .int (aR o))] := by rw [hf6.1 21 (by omega) (by unfold pmA; omega)]; exact hl
  refine r_st (st2 := [.int (aR o6), .int (nI (sR s0.1 (sL s0.1 f))), .ref (ad_26 21), .int (nI (sL s0.1 (sL s0.1 f))), .ref (ad_26 21), .int (aR o1), .ref (ad_26 21)]) (by rw [hf6.1 21 (by omega) (by unfold pmA; omega)]) ?_
  have hn6_ : nsOK s6.1 s6.2 := hOp_30.1
  refine r_callVi (ci := 3) (As := [.int (nI (sR s0.1 (sL s0.1 f))), .int (aR o6)]) hx hb hml hown hts hK hA hs (21) (by omega) he21p_30 rfl rfl (c_X3_lambda l G (o := o6) hW6 (a := sR s0.1 (sL s0.1 f)) (by have := sExt_len x6; omega) (v6.1)) (cwV 2 hts (tbV w_ml_RX3_61 w_im_yX3_lambda w_se_yX3_lambda w_ini_RX3 w_cd_yX3_lambda) rfl rfl rfl (by decide +kernel) ⟨Nat.le_of_ble_eq_true rfl, Nat.le_of_ble_eq_true rfl⟩) rfl hl.1 rfl (Nat.le_of_ble_eq_true rfl) dX3_uncurry_93 ⟨by show _ ≤ aC (aUncurry f g o) s0; omega, by show _ ≤ aS (aUncurry f g o) s0; omega⟩ (fun r_34 ad_31 en_32 H locs hp_33 hs => ?_)
  obtain ⟨hr7, hW7, hf7⟩ := hp_33
  rw [hq7] at hr7 hW7
  have hW7 : PmW G n ad_31 en_32 s7 jd RR SL S sf o7.isNone := hW7
  have v7 := lamO_q hq7 (v6.1)
  rw [show r_34 = aR o7 from hr7]
  obtain ⟨hp_35, hdp_35, hOp_35, hnp_35, he21p_35⟩ := id hW7
  obtain ⟨fstp_35, hestp_35⟩ : ∃ fs, en_32 3 = .inr (6, fs) := ⟨_, hp_35.2.1⟩
  obtain ⟨fndp_35, hendp_35⟩ : ∃ fs, en_32 11 = .inr (2, fs) := ⟨_, hdp_35.2.1⟩
  have frp_35 := Fr_tr frp_30 hf7
  have hl : lv_has ls 7 [(6, .int (nI g)), (5, .int (nI (sR s0.1 (sL s0.1 f)))), (4, .int (nI (sL s0.1 (sL s0.1 f)))), (3, .int (nI (sL s0.1 f))), (0, .ref (ad_31 21)), (1, .int (nI f)), (2, .int (aR o))] := by rw [hf7.1 21 (by omega) (by unfold pmA; omega)]; exact hl
  refine r_st (st2 := [.int (aR o7), .int (nI (sL s0.1 (sL s0.1 f))), .ref (ad_31 21), .int (aR o1), .ref (ad_31 21)]) (by rw [hf7.1 21 (by omega) (by unfold pmA; omega)]) ?_
  have hn7_ : nsOK s7.1 s7.2 := hOp_35.1
  refine r_callVi (ci := 3) (As := [.int (nI (sL s0.1 (sL s0.1 f))), .int (aR o7)]) hx hb hml hown hts hK hA hs (21) (by omega) he21p_35 rfl rfl (c_X3_lambda l G (o := o7) hW7 (a := sL s0.1 (sL s0.1 f)) (by have := sExt_len x7; omega) ((v7.1).self)) (cwV 2 hts (tbV w_ml_RX3_61 w_im_yX3_lambda w_se_yX3_lambda w_ini_RX3 w_cd_yX3_lambda) rfl rfl rfl (by decide +kernel) ⟨Nat.le_of_ble_eq_true rfl, Nat.le_of_ble_eq_true rfl⟩) rfl hl.1 rfl (Nat.le_of_ble_eq_true rfl) dX3_uncurry_96 ⟨by show _ ≤ aC (aUncurry f g o) s0; omega, by show _ ≤ aS (aUncurry f g o) s0; omega⟩ (fun r_39 ad_36 en_37 H locs hp_38 hs => ?_)
  obtain ⟨hr8, hW8, hf8⟩ := hp_38
  rw [hq8] at hr8 hW8
  have hW8 : PmW G n ad_36 en_37 s8 jd RR SL S sf o8.isNone := hW8
  have v8 := lamO_q hq8 ((v7.1).self)
  rw [show r_39 = aR o8 from hr8]
  obtain ⟨hp_40, hdp_40, hOp_40, hnp_40, he21p_40⟩ := id hW8
  obtain ⟨fstp_40, hestp_40⟩ : ∃ fs, en_37 3 = .inr (6, fs) := ⟨_, hp_40.2.1⟩
  obtain ⟨fndp_40, hendp_40⟩ : ∃ fs, en_37 11 = .inr (2, fs) := ⟨_, hdp_40.2.1⟩
  have frp_40 := Fr_tr frp_35 hf8
  have hl : lv_has ls 7 [(6, .int (nI g)), (5, .int (nI (sR s0.1 (sL s0.1 f)))), (4, .int (nI (sL s0.1 (sL s0.1 f)))), (3, .int (nI (sL s0.1 f))), (0, .ref (ad_36 21)), (1, .int (nI f)), (2, .int (aR o))] := by rw [hf8.1 21 (by omega) (by unfold pmA; omega)]; exact hl
  refine r_st (st2 := [.int (aR o8), .int (aR o1), .ref (ad_36 21)]) (by rw [hf8.1 21 (by omega) (by unfold pmA; omega)]) ?_
  have hn8_ : nsOK s8.1 s8.2 := hOp_40.1
  refine r_callVi (ci := 3) (As := [.int (aR o1), .int (aR o8)]) hx hb hml hown hts hK hA hs (21) (by omega) he21p_40 rfl rfl (c_X3_apply l G (o1 := o1) (o2 := o8) hW8 (fun _ _ => hgt) ((((((((v1.1).mono hc2.2.2.2.2 hn1_).mono hc3.2.2.2.2 hn2_).mono hc4.2.2.2.2 hn3_).mono hc5.2.2.2.2 hn4_).mono hc6.2.2.2.2 hn5_).mono hc7.2.2.2.2 hn6_).mono hc8.2.2.2.2 hn7_) (((v8.1).self).vd) (fun q => v8.2 (v7.2 (v6.2 (v5.2 (none_i (v4.2 (none_i (v3.2 (none_i (v2.2 (none_i (q))))))))))))) (cwV 2 hts (tbV w_ml_RX3_83 w_im_yX3_apply w_se_yX3_apply w_ini_RX3 w_cd_yX3_apply) rfl rfl rfl (by decide +kernel) ⟨Nat.le_of_ble_eq_true rfl, Nat.le_of_ble_eq_true rfl⟩) rfl hl.1 rfl (Nat.le_of_ble_eq_true rfl) dX3_uncurry_99 ⟨by show _ ≤ aC (aUncurry f g o) s0; omega, by show _ ≤ aS (aUncurry f g o) s0; omega⟩ (fun r_44 ad_41 en_42 H locs hp_43 hs => ?_)
  obtain ⟨hr9, hW9, hf9⟩ := hp_43
  rw [hq9] at hr9 hW9
  have hW9 : PmW G n ad_41 en_42 s9 jd RR SL S sf o9.isNone := hW9
  have v9 := appO_q hq9 ((((((((v1.1).mono hc2.2.2.2.2 hn1_).mono hc3.2.2.2.2 hn2_).mono hc4.2.2.2.2 hn3_).mono hc5.2.2.2.2 hn4_).mono hc6.2.2.2.2 hn5_).mono hc7.2.2.2.2 hn6_).mono hc8.2.2.2.2 hn7_)
  rw [show r_44 = aR o9 from hr9]
  obtain ⟨hp_45, hdp_45, hOp_45, hnp_45, he21p_45⟩ := id hW9
  obtain ⟨fstp_45, hestp_45⟩ : ∃ fs, en_42 3 = .inr (6, fs) := ⟨_, hp_45.2.1⟩
  obtain ⟨fndp_45, hendp_45⟩ : ∃ fs, en_42 11 = .inr (2, fs) := ⟨_, hdp_45.2.1⟩
  have frp_45 := Fr_tr frp_40 hf9
  have hl : lv_has ls 7 [(6, .int (nI g)), (5, .int (nI (sR s0.1 (sL s0.1 f)))), (4, .int (nI (sL s0.1 (sL s0.1 f)))), (3, .int (nI (sL s0.1 f))), (0, .ref (ad_41 21)), (1, .int (nI f)), (2, .int (aR o))] := by rw [hf9.1 21 (by omega) (by unfold pmA; omega)]; exact hl
  have hn9_ : nsOK s9.1 s9.2 := hOp_45.1
  refine r_iret (v := aR o9) (mc := aC (aUncurry f g o) s0) (ms := aS (aUncurry f g o) s0) hx hb hr hlk hs (by omega) (by omega) dX3_uncurry_102 hQ ?_
  exact aPostG.of hE hW9 frp_45 v9.1.vd x9

set_option maxHeartbeats 600000 in
set_option maxRecDepth 100000 in
theorem c_X8_around_1 (l : Launch) (G : rG) {n : Nat} {ad : Nat → Nat} {en : Nat → va_E} {s0 : NSt} {c : Nat → Nat → Int32} {us : Int32} {dp : Int32} {cl : Int32}  (hM : MdW G n ad en s0.1 s0.2 c us 0 dp cl) {s uu hh goal : Nat} (hs3 : s ≤ 3000) {o : Option Nat} (hso : o.isNone = false) (hgl : 1 ≤ goal ∧ goal ≤ s0.1.length) (h36 : c 36 s = nI 1) (h37 : c 37 s = nI goal) (h38 : c 38 s = nI goal)  : CI l G yX8_around uX8_around (5) (138) (0) (0) [.ref (ad 22), .int (nI s), .int (nI (o.getD 0)), .int (nI uu), .int (nI hh)] (n) (n) ad en (mAct G n ad en c us dp cl (aGate false (aNode (0, goal, 0, 0, 0))) s0) := by
  intro sz
  refine rMet (Qc := qI G (n) (mAct G n ad en c us dp cl (aGate false (aNode (0, goal, 0, 0, 0))) s0)) (cc := cX8_around) (maxL := 13) (ret := (some .int)) (by decide) rfl (Nat.le_of_ble_eq_true rfl) ?_
  intro pP eE sS mM aA bB tT cC ls A Q hc hK hsz hA hs hl hQ
  obtain ⟨hx, hb, hr, hts, hown, hlk, hnm, hml⟩ := hc
  have hl : lv_has ls 13 [(0, .ref (ad 22)), (1, .int (nI s)), (2, .int (nI (o.getD 0))), (3, .int (nI uu)), (4, .int (nI hh))] := hl
  have fr0 : ∀ k, k < 22 → en k = en k := fun _ _ => rfl
  obtain ⟨hn48, -, -, -, hok, hnk⟩ := id hM
  have h6 := hok.1
  have h8 := hnk.1
  
  refine lv_aload_n hx hb dX8_around_0 rfl (lv_at hl 0 rfl) ?_
  refine r_get (ci := 8) (v := .ref (ad 37)) (C := RX8) (T := TX8) (N := 31) hx hb hts inlX8 hown hK hs (22) (by omega) (md22 hM) rfl 19 (by decide) (hts _ w_fl_RX8_54) rfl dX8_around_1 ?_
  refine lv_iload_n hx hb dX8_around_4 rfl (lv_at hl 1 rfl) ?_
  refine r_ialdN (t := s) hx hb hK hs (37) (by omega) (md37 hM) (rfl) (by omega) (by omega) dX8_around_5 ?_
  refine r_topi (y := nI goal) (h37) ?_
  refine lv_istore (lv' := [(5, .int (nI goal)), (0, .ref (ad 22)), (1, .int (nI s)), (2, .int (nI (o.getD 0))), (3, .int (nI uu)), (4, .int (nI hh))]) hx hb dX8_around_6 hl (by decide) rfl (fun ls hl => ?_)
  refine lv_aload_n hx hb dX8_around_8 rfl (lv_at hl 1 rfl) ?_
  refine r_get (ci := 8) (v := .ref (ad 38)) (C := RX8) (T := TX8) (N := 31) hx hb hts inlX8 hown hK hs (22) (by omega) (md22 hM) rfl 20 (by decide) (hts _ w_fl_RX8_57) rfl dX8_around_9 ?_
  refine lv_iload_n hx hb dX8_around_12 rfl (lv_at hl 2 rfl) ?_
  refine r_ialdN (t := s) hx hb hK hs (38) (by omega) (md38 hM) (rfl) (by omega) (by omega) dX8_around_13 ?_
  refine r_topi (y := nI goal) (h38) ?_
  refine lv_istore (lv' := [(6, .int (nI goal)), (5, .int (nI goal)), (0, .ref (ad 22)), (1, .int (nI s)), (2, .int (nI (o.getD 0))), (3, .int (nI uu)), (4, .int (nI hh))]) hx hb dX8_around_14 hl (by decide) rfl (fun ls hl => ?_)
  refine lv_iload hx hb dX8_around_16 (lv_at hl 1 rfl) ?_
  refine lv_if_le (tgt := 31) hx hb dX8_around_18 (by decide) (fun c18 => absurd c18 (fun q => by have := nI_le0 (by omega) q; omega)) (fun _ => ?_)
  refine lv_aload_n hx hb dX8_around_21 rfl (lv_at hl 2 rfl) ?_
  refine r_get (ci := 8) (v := .ref (ad 24)) (C := RX8) (T := TX8) (N := 31) hx hb hts inlX8 hown hK hs (22) (by omega) (md22 hM) rfl 1 (by decide) (hts _ w_fl_RX8_13) rfl dX8_around_22 ?_
  refine lv_iload hx hb dX8_around_25 (lv_at hl 1 rfl) ?_
  refine r_ialdN (t := goal) hx hb hK hs (24) (by omega) (md24 hM) (rfl) (by omega) (by omega) dX8_around_27 ?_
  refine r_topi (y := nI (sL s0.1 (goal))) rfl ?_
  refine lv_goto (tgt := 32) hx hb dX8_around_28 (by decide) ?_
  refine lv_istore (lv' := [(7, .int (nI (sL s0.1 (goal)))), (6, .int (nI goal)), (5, .int (nI goal)), (0, .ref (ad 22)), (1, .int (nI s)), (2, .int (nI (o.getD 0))), (3, .int (nI uu)), (4, .int (nI hh))]) hx hb dX8_around_32 hl (by decide) rfl (fun ls hl => ?_)
  refine lv_iload hx hb dX8_around_34 (lv_at hl 2 rfl) ?_
  refine lv_if_le (tgt := 49) hx hb dX8_around_36 (by decide) (fun c36 => absurd c36 (fun q => by have := nI_le0 (by omega) q; omega)) (fun _ => ?_)
  refine lv_aload_n hx hb dX8_around_39 rfl (lv_at hl 3 rfl) ?_
  refine r_get (ci := 8) (v := .ref (ad 25)) (C := RX8) (T := TX8) (N := 31) hx hb hts inlX8 hown hK hs (22) (by omega) (md22 hM) rfl 2 (by decide) (hts _ w_fl_RX8_16) rfl dX8_around_40 ?_
  refine lv_iload hx hb dX8_around_43 (lv_at hl 2 rfl) ?_
  refine r_ialdN (t := goal) hx hb hK hs (25) (by omega) (md25 hM) (rfl) (by omega) (by omega) dX8_around_45 ?_
  refine r_topi (y := nI (sR s0.1 (goal))) rfl ?_
  refine lv_goto (tgt := 50) hx hb dX8_around_46 (by decide) ?_
  refine lv_istore (lv' := [(8, .int (nI (sR s0.1 (goal)))), (7, .int (nI (sL s0.1 (goal)))), (6, .int (nI goal)), (5, .int (nI goal)), (0, .ref (ad 22)), (1, .int (nI s)), (2, .int (nI (o.getD 0))), (3, .int (nI uu)), (4, .int (nI hh))]) hx hb dX8_around_50 hl (by decide) rfl (fun ls hl => ?_)
  refine lv_aload_n hx hb dX8_around_52 rfl (lv_at hl 4 rfl) ?_
  refine r_get (ci := 8) (v := .ref (ad 36)) (C := RX8) (T := TX8) (N := 31) hx hb hts inlX8 hown hK hs (22) (by omega) (md22 hM) rfl 18 (by decide) (hts _ w_fl_RX8_51) rfl dX8_around_53 ?_
  refine lv_iload_n hx hb dX8_around_56 rfl (lv_at hl 5 rfl) ?_
  refine r_ialdN (t := s) hx hb hK hs (36) (by omega) (md36 hM) (rfl) (by omega) (by omega) dX8_around_57 ?_
  refine r_topi (y := nI 1) (h36) ?_
  refine lv_tableIn (off := 54) (tgt := 112) hx hb dX8_around_58 (by decide) (by decide) (by decide) (by decide) ?_
  refine lv_aload_n hx hb dX8_around_112 rfl (lv_at hl 4 rfl) ?_
  refine lv_iload hx hb dX8_around_113 (lv_at hl 2 rfl) ?_
  refine r_callVi (ci := 8) (As := [.int (nI goal)]) hx hb hml hown hts hK hA hs (22) (by omega) (md22 hM) rfl rfl (c_X8_v l G (fl := false) hM (f := goal) hgl) (cwV 1 hts (tbV w_ml_RX8_177 w_im_yX8_v w_se_yX8_v w_ini_RX8 w_cd_yX8_v) rfl rfl rfl (by decide +kernel) ⟨Nat.le_of_ble_eq_true rfl, Nat.le_of_ble_eq_true rfl⟩) rfl hl.1 rfl (Nat.le_of_ble_eq_true rfl) dX8_around_115 ⟨Nat.le_refl _, Nat.le_refl _⟩ (fun r_4 ad_1 en_2 H locs hp_3 hs => ?_)
  have hfin := hp_3
  refine r_iret (v := r_4) (mc := 0) (ms := 0) hx hb hr hlk hs (Nat.le_refl _) (Nat.le_refl _) dX8_around_118 hQ ?_
  exact hfin

set_option maxHeartbeats 600000 in
set_option maxRecDepth 100000 in
theorem c_X8_around_2 (l : Launch) (G : rG) {n : Nat} {ad : Nat → Nat} {en : Nat → va_E} {s0 : NSt} {c : Nat → Nat → Int32} {us : Int32} {dp : Int32} {cl : Int32}  (hM : MdW G n ad en s0.1 s0.2 c us 0 dp cl) {s uu hh goal : Nat} (hs3 : s ≤ 3000) {o : Option Nat} (hso : o.isNone = false) (hgl : 1 ≤ goal ∧ goal ≤ s0.1.length) {f : Nat} (hf : 1 ≤ f ∧ f ≤ s0.1.length) (hff : kFind s0.1 (1, 0, 0, 0, 0) = f) (h36 : c 36 s = nI 2) (h37 : c 37 s = nI goal) (h38 : c 38 s = nI goal)  : CI l G yX8_around uX8_around (5) (138) (0) (0) [.ref (ad 22), .int (nI s), .int (nI (o.getD 0)), .int (nI uu), .int (nI hh)] (n) (n) ad en (mAct G n ad en c us dp cl (bR2 goal f) s0) := by
  intro sz
  refine rMet (Qc := qI G (n) (mAct G n ad en c us dp cl (bR2 goal f) s0)) (cc := cX8_around) (maxL := 13) (ret := (some .int)) (by decide) rfl (Nat.le_of_ble_eq_true rfl) ?_
  intro pP eE sS mM aA bB tT cC ls A Q hc hK hsz hA hs hl hQ
  obtain ⟨hx, hb, hr, hts, hown, hlk, hnm, hml⟩ := hc
  have hl : lv_has ls 13 [(0, .ref (ad 22)), (1, .int (nI s)), (2, .int (nI (o.getD 0))), (3, .int (nI uu)), (4, .int (nI hh))] := hl
  have fr0 : ∀ k, k < 22 → en k = en k := fun _ _ => rfl
  obtain ⟨hn48, -, -, -, hok, hnk⟩ := id hM
  have h6 := hok.1
  have h8 := hnk.1
  obtain ⟨o1, s1, hq1⟩ : ∃ oo tt, (aGate false (aNode (0, f, 0, 0, 0))) s0 = (oo, tt) := ⟨_, _, rfl⟩
  obtain ⟨o2, s2, hq2⟩ : ∃ oo tt, (aGate o1.isNone (aNode (9, goal, o1.getD 0, 0, 0))) s1 = (oo, tt) := ⟨_, _, rfl⟩
  have hE := bR2_eq hq1 hq2
  have v1 := gate_q hq1
  have x1 := (aC_eq hq1 (aGate_ext (aNode_ext _) _ _)).2.2.2.2
  have hv8 := (g_gate ⟨hok, hnk⟩ hq1 (fun _ => ok_giv hf)).2.1
  refine lv_aload_n hx hb dX8_around_0 rfl (lv_at hl 0 rfl) ?_
  refine r_get (ci := 8) (v := .ref (ad 37)) (C := RX8) (T := TX8) (N := 31) hx hb hts inlX8 hown hK hs (22) (by omega) (md22 hM) rfl 19 (by decide) (hts _ w_fl_RX8_54) rfl dX8_around_1 ?_
  refine lv_iload_n hx hb dX8_around_4 rfl (lv_at hl 1 rfl) ?_
  refine r_ialdN (t := s) hx hb hK hs (37) (by omega) (md37 hM) (rfl) (by omega) (by omega) dX8_around_5 ?_
  refine r_topi (y := nI goal) (h37) ?_
  refine lv_istore (lv' := [(5, .int (nI goal)), (0, .ref (ad 22)), (1, .int (nI s)), (2, .int (nI (o.getD 0))), (3, .int (nI uu)), (4, .int (nI hh))]) hx hb dX8_around_6 hl (by decide) rfl (fun ls hl => ?_)
  refine lv_aload_n hx hb dX8_around_8 rfl (lv_at hl 1 rfl) ?_
  refine r_get (ci := 8) (v := .ref (ad 38)) (C := RX8) (T := TX8) (N := 31) hx hb hts inlX8 hown hK hs (22) (by omega) (md22 hM) rfl 20 (by decide) (hts _ w_fl_RX8_57) rfl dX8_around_9 ?_
  refine lv_iload_n hx hb dX8_around_12 rfl (lv_at hl 2 rfl) ?_
  refine r_ialdN (t := s) hx hb hK hs (38) (by omega) (md38 hM) (rfl) (by omega) (by omega) dX8_around_13 ?_
  refine r_topi (y := nI goal) (h38) ?_
  refine lv_istore (lv' := [(6, .int (nI goal)), (5, .int (nI goal)), (0, .ref (ad 22)), (1, .int (nI s)), (2, .int (nI (o.getD 0))), (3, .int (nI uu)), (4, .int (nI hh))]) hx hb dX8_around_14 hl (by decide) rfl (fun ls hl => ?_)
  refine lv_iload hx hb dX8_around_16 (lv_at hl 1 rfl) ?_
  refine lv_if_le (tgt := 31) hx hb dX8_around_18 (by decide) (fun c18 => absurd c18 (fun q => by have := nI_le0 (by omega) q; omega)) (fun _ => ?_)
  refine lv_aload_n hx hb dX8_around_21 rfl (lv_at hl 2 rfl) ?_
  refine r_get (ci := 8) (v := .ref (ad 24)) (C := RX8) (T := TX8) (N := 31) hx hb hts inlX8 hown hK hs (22) (by omega) (md22 hM) rfl 1 (by decide) (hts _ w_fl_RX8_13) rfl dX8_around_22 ?_
  refine lv_iload hx hb dX8_around_25 (lv_at hl 1 rfl) ?_
  refine r_ialdN (t := goal) hx hb hK hs (24) (by omega) (md24 hM) (rfl) (by omega) (by omega) dX8_around_27 ?_
  refine r_topi (y := nI (sL s0.1 (goal))) rfl ?_
  refine lv_goto (tgt := 32) hx hb dX8_around_28 (by decide) ?_
  refine lv_istore (lv' := [(7, .int (nI (sL s0.1 (goal)))), (6, .int (nI goal)), (5, .int (nI goal)), (0, .ref (ad 22)), (1, .int (nI s)), (2, .int (nI (o.getD 0))), (3, .int (nI uu)), (4, .int (nI hh))]) hx hb dX8_around_32 hl (by decide) rfl (fun ls hl => ?_)
  refine lv_iload hx hb dX8_around_34 (lv_at hl 2 rfl) ?_
  refine lv_if_le (tgt := 49) hx hb dX8_around_36 (by decide) (fun c36 => absurd c36 (fun q => by have := nI_le0 (by omega) q; omega)) (fun _ => ?_)
  refine lv_aload_n hx hb dX8_around_39 rfl (lv_at hl 3 rfl) ?_
  refine r_get (ci := 8) (v := .ref (ad 25)) (C := RX8) (T := TX8) (N := 31) hx hb hts inlX8 hown hK hs (22) (by omega) (md22 hM) rfl 2 (by decide) (hts _ w_fl_RX8_16) rfl dX8_around_40 ?_
  refine lv_iload hx hb dX8_around_43 (lv_at hl 2 rfl) ?_
  refine r_ialdN (t := goal) hx hb hK hs (25) (by omega) (md25 hM) (rfl) (by omega) (by omega) dX8_around_45 ?_
  refine r_topi (y := nI (sR s0.1 (goal))) rfl ?_
  refine lv_goto (tgt := 50) hx hb dX8_around_46 (by decide) ?_
  refine lv_istore (lv' := [(8, .int (nI (sR s0.1 (goal)))), (7, .int (nI (sL s0.1 (goal)))), (6, .int (nI goal)), (5, .int (nI goal)), (0, .ref (ad 22)), (1, .int (nI s)), (2, .int (nI (o.getD 0))), (3, .int (nI uu)), (4, .int (nI hh))]) hx hb dX8_around_50 hl (by decide) rfl (fun ls hl => ?_)
  refine lv_aload_n hx hb dX8_around_52 rfl (lv_at hl 4 rfl) ?_
  refine r_get (ci := 8) (v := .ref (ad 36)) (C := RX8) (T := TX8) (N := 31) hx hb hts inlX8 hown hK hs (22) (by omega) (md22 hM) rfl 18 (by decide) (hts _ w_fl_RX8_51) rfl dX8_around_53 ?_
  refine lv_iload_n hx hb dX8_around_56 rfl (lv_at hl 5 rfl) ?_
  refine r_ialdN (t := s) hx hb hK hs (36) (by omega) (md36 hM) (rfl) (by omega) (by omega) dX8_around_57 ?_
  refine r_topi (y := nI 2) (h36) ?_
  refine lv_tableIn (off := 61) (tgt := 119) hx hb dX8_around_58 (by decide) (by decide) (by decide) (by decide) ?_
  refine lv_aload_n hx hb dX8_around_119 rfl (lv_at hl 4 rfl) ?_
  refine lv_bipush (v := 9) hx hb dX8_around_120 (by decide) ?_
  refine lv_iload hx hb dX8_around_122 (lv_at hl 2 rfl) ?_
  refine lv_aload_n hx hb dX8_around_124 rfl (lv_at hl 4 rfl) ?_
  refine lv_aload_n hx hb dX8_around_125 rfl (lv_at hl 4 rfl) ?_
  refine r_callViR (ci := 8) (As := []) hx hb hml hown hts hK hA hs (22) (by omega) (md22 hM) rfl rfl (c_X8_falseOne l G hM) (cwV 0 hts (tbV w_ml_RX8_125 w_im_yX8_falseOne w_se_yX8_falseOne w_ini_RX8 w_cd_yX8_falseOne) rfl rfl rfl (by decide +kernel) ⟨Nat.le_of_ble_eq_true rfl, Nat.le_of_ble_eq_true rfl⟩) rfl hl.1 rfl (Nat.le_of_ble_eq_true rfl) dX8_around_126 ⟨Nat.zero_le _, Nat.zero_le _⟩ (fun H locs hs => ?_)
  refine r_topi (y := nI f) (by rw [hff]) ?_
  refine r_callVi (ci := 8) (As := [.int (nI f)]) hx hb hml hown hts hK hA hs (22) (by omega) (md22 hM) rfl rfl (c_X8_v l G (fl := false) hM (f := f) hf) (cwV 1 hts (tbV w_ml_RX8_177 w_im_yX8_v w_se_yX8_v w_ini_RX8 w_cd_yX8_v) rfl rfl rfl (by decide +kernel) ⟨Nat.le_of_ble_eq_true rfl, Nat.le_of_ble_eq_true rfl⟩) rfl hl.1 rfl (Nat.le_of_ble_eq_true rfl) dX8_around_129 ⟨Nat.le_refl _, Nat.le_refl _⟩ (fun r_4 ad_1 en_2 H locs hp_3 hs => ?_)
  obtain ⟨⟨hA1, hF1⟩, hr1, hN1⟩ := hp_3
  subst hA1
  rw [hq1] at hr1 hN1
  have hN1 : MdW G n ad en_2 s1.1 s1.2 c us (ovB o1.isNone) dp cl := hN1
  rw [show r_4 = nI (o1.getD 0) from hr1]
  have fr_5 : ∀ k, k < 22 → en_2 k = en k := fun k hk => Eq.trans (hF1 k hk) (fr0 k hk)
  refine lv_iconst (v := 0) hx hb dX8_around_132 (by decide) ?_
  refine lv_iconst (v := 0) hx hb dX8_around_133 (by decide) ?_
  refine r_callVi (ci := 8) (As := [.int (9), .int (nI goal), .int (nI (o1.getD 0)), .int (0), .int (0)]) hx hb hml hown hts hK hA hs (22) (by omega) (md22 hN1) rfl rfl (c_X8_put l G (fl := o1.isNone) hN1 (tg := 9) (gl := goal) (a := o1.getD 0) (b := 0) (c1 := 0) (by have := getD_lt v1.1.vd hv8; omega) (fun h => ok_1 (by decide) (by have := sExt_len x1; omega) (v1.1.vd _ (get_some h)))) (cwV 5 hts (tbV w_ml_RX8_171 w_im_yX8_put w_se_yX8_put w_ini_RX8 w_cd_yX8_put) rfl rfl rfl (by decide +kernel) ⟨Nat.le_of_ble_eq_true rfl, Nat.le_of_ble_eq_true rfl⟩) rfl hl.1 rfl (Nat.le_of_ble_eq_true rfl) dX8_around_134 ⟨Nat.le_refl _, Nat.le_refl _⟩ (fun r_9 ad_6 en_7 H locs hp_8 hs => ?_)
  obtain ⟨⟨hA2, hF2⟩, hr2, hN2⟩ := hp_8
  subst hA2
  rw [hq2] at hr2 hN2
  have hN2 : MdW G n ad en_7 s2.1 s2.2 c us (ovB o2.isNone) dp cl := hN2
  rw [show r_9 = nI (o2.getD 0) from hr2]
  have fr_10 : ∀ k, k < 22 → en_7 k = en k := fun k hk => Eq.trans (hF2 k hk) (fr_5 k hk)
  refine r_iret (v := nI (o2.getD 0)) (mc := 0) (ms := 0) hx hb hr hlk hs (Nat.le_refl _) (Nat.le_refl _) dX8_around_137 hQ ?_
  unfold mAct
  rw [hE]
  exact ⟨⟨rfl, fr_10⟩, rfl, hN2⟩

set_option maxHeartbeats 600000 in
set_option maxRecDepth 100000 in
theorem c_X8_around_3 (l : Launch) (G : rG) {n : Nat} {ad : Nat → Nat} {en : Nat → va_E} {s0 : NSt} {c : Nat → Nat → Int32} {us : Int32} {dp : Int32} {cl : Int32}  (hM : MdW G n ad en s0.1 s0.2 c us 0 dp cl) {s uu hh goal : Nat} (hs3 : s ≤ 3000) {o : Option Nat} (hso : o.isNone = false) (hgl : 1 ≤ goal ∧ goal ≤ s0.1.length) (ht : ∀ x, o = some x → 1 ≤ x ∧ x ≤ s0.2.length) (hu1 : 1 ≤ uu ∧ uu ≤ s0.2.length) (h36 : c 36 s = nI 3) (h37 : c 37 s = nI goal) (h38 : c 38 s = nI goal)  : CI l G yX8_around uX8_around (5) (138) (0) (0) [.ref (ad 22), .int (nI s), .int (nI (o.getD 0)), .int (nI uu), .int (nI hh)] (n) (n) ad en (mAct G n ad en c us dp cl (aGate false (aNode (3, goal, uu, o.getD 0, 0))) s0) := by
  intro sz
  refine rMet (Qc := qI G (n) (mAct G n ad en c us dp cl (aGate false (aNode (3, goal, uu, o.getD 0, 0))) s0)) (cc := cX8_around) (maxL := 13) (ret := (some .int)) (by decide) rfl (Nat.le_of_ble_eq_true rfl) ?_
  intro pP eE sS mM aA bB tT cC ls A Q hc hK hsz hA hs hl hQ
  obtain ⟨hx, hb, hr, hts, hown, hlk, hnm, hml⟩ := hc
  have hl : lv_has ls 13 [(0, .ref (ad 22)), (1, .int (nI s)), (2, .int (nI (o.getD 0))), (3, .int (nI uu)), (4, .int (nI hh))] := hl
  have fr0 : ∀ k, k < 22 → en k = en k := fun _ _ => rfl
  obtain ⟨hn48, -, -, -, hok, hnk⟩ := id hM
  have h6 := hok.1
  have h8 := hnk.1
  
  refine lv_aload_n hx hb dX8_around_0 rfl (lv_at hl 0 rfl) ?_
  refine r_get (ci := 8) (v := .ref (ad 37)) (C := RX8) (T := TX8) (N := 31) hx hb hts inlX8 hown hK hs (22) (by omega) (md22 hM) rfl 19 (by decide) (hts _ w_fl_RX8_54) rfl dX8_around_1 ?_
  refine lv_iload_n hx hb dX8_around_4 rfl (lv_at hl 1 rfl) ?_
  refine r_ialdN (t := s) hx hb hK hs (37) (by omega) (md37 hM) (rfl) (by omega) (by omega) dX8_around_5 ?_
  refine r_topi (y := nI goal) (h37) ?_
  refine lv_istore (lv' := [(5, .int (nI goal)), (0, .ref (ad 22)), (1, .int (nI s)), (2, .int (nI (o.getD 0))), (3, .int (nI uu)), (4, .int (nI hh))]) hx hb dX8_around_6 hl (by decide) rfl (fun ls hl => ?_)
  refine lv_aload_n hx hb dX8_around_8 rfl (lv_at hl 1 rfl) ?_
  refine r_get (ci := 8) (v := .ref (ad 38)) (C := RX8) (T := TX8) (N := 31) hx hb hts inlX8 hown hK hs (22) (by omega) (md22 hM) rfl 20 (by decide) (hts _ w_fl_RX8_57) rfl dX8_around_9 ?_
  refine lv_iload_n hx hb dX8_around_12 rfl (lv_at hl 2 rfl) ?_
  refine r_ialdN (t := s) hx hb hK hs (38) (by omega) (md38 hM) (rfl) (by omega) (by omega) dX8_around_13 ?_
  refine r_topi (y := nI goal) (h38) ?_
  refine lv_istore (lv' := [(6, .int (nI goal)), (5, .int (nI goal)), (0, .ref (ad 22)), (1, .int (nI s)), (2, .int (nI (o.getD 0))), (3, .int (nI uu)), (4, .int (nI hh))]) hx hb dX8_around_14 hl (by decide) rfl (fun ls hl => ?_)
  refine lv_iload hx hb dX8_around_16 (lv_at hl 1 rfl) ?_
  refine lv_if_le (tgt := 31) hx hb dX8_around_18 (by decide) (fun c18 => absurd c18 (fun q => by have := nI_le0 (by omega) q; omega)) (fun _ => ?_)
  refine lv_aload_n hx hb dX8_around_21 rfl (lv_at hl 2 rfl) ?_
  refine r_get (ci := 8) (v := .ref (ad 24)) (C := RX8) (T := TX8) (N := 31) hx hb hts inlX8 hown hK hs (22) (by omega) (md22 hM) rfl 1 (by decide) (hts _ w_fl_RX8_13) rfl dX8_around_22 ?_
  refine lv_iload hx hb dX8_around_25 (lv_at hl 1 rfl) ?_
  refine r_ialdN (t := goal) hx hb hK hs (24) (by omega) (md24 hM) (rfl) (by omega) (by omega) dX8_around_27 ?_
  refine r_topi (y := nI (sL s0.1 (goal))) rfl ?_
  refine lv_goto (tgt := 32) hx hb dX8_around_28 (by decide) ?_
  refine lv_istore (lv' := [(7, .int (nI (sL s0.1 (goal)))), (6, .int (nI goal)), (5, .int (nI goal)), (0, .ref (ad 22)), (1, .int (nI s)), (2, .int (nI (o.getD 0))), (3, .int (nI uu)), (4, .int (nI hh))]) hx hb dX8_around_32 hl (by decide) rfl (fun ls hl => ?_)
  refine lv_iload hx hb dX8_around_34 (lv_at hl 2 rfl) ?_
  refine lv_if_le (tgt := 49) hx hb dX8_around_36 (by decide) (fun c36 => absurd c36 (fun q => by have := nI_le0 (by omega) q; omega)) (fun _ => ?_)
  refine lv_aload_n hx hb dX8_around_39 rfl (lv_at hl 3 rfl) ?_
  refine r_get (ci := 8) (v := .ref (ad 25)) (C := RX8) (T := TX8) (N := 31) hx hb hts inlX8 hown hK hs (22) (by omega) (md22 hM) rfl 2 (by decide) (hts _ w_fl_RX8_16) rfl dX8_around_40 ?_
  refine lv_iload hx hb dX8_around_43 (lv_at hl 2 rfl) ?_
  refine r_ialdN (t := goal) hx hb hK hs (25) (by omega) (md25 hM) (rfl) (by omega) (by omega) dX8_around_45 ?_
  refine r_topi (y := nI (sR s0.1 (goal))) rfl ?_
  refine lv_goto (tgt := 50) hx hb dX8_around_46 (by decide) ?_
  refine lv_istore (lv' := [(8, .int (nI (sR s0.1 (goal)))), (7, .int (nI (sL s0.1 (goal)))), (6, .int (nI goal)), (5, .int (nI goal)), (0, .ref (ad 22)), (1, .int (nI s)), (2, .int (nI (o.getD 0))), (3, .int (nI uu)), (4, .int (nI hh))]) hx hb dX8_around_50 hl (by decide) rfl (fun ls hl => ?_)
  refine lv_aload_n hx hb dX8_around_52 rfl (lv_at hl 4 rfl) ?_
  refine r_get (ci := 8) (v := .ref (ad 36)) (C := RX8) (T := TX8) (N := 31) hx hb hts inlX8 hown hK hs (22) (by omega) (md22 hM) rfl 18 (by decide) (hts _ w_fl_RX8_51) rfl dX8_around_53 ?_
  refine lv_iload_n hx hb dX8_around_56 rfl (lv_at hl 5 rfl) ?_
  refine r_ialdN (t := s) hx hb hK hs (36) (by omega) (md36 hM) (rfl) (by omega) (by omega) dX8_around_57 ?_
  refine r_topi (y := nI 3) (h36) ?_
  refine lv_tableIn (off := 80) (tgt := 138) hx hb dX8_around_58 (by decide) (by decide) (by decide) (by decide) ?_
  refine lv_aload_n hx hb dX8_around_138 rfl (lv_at hl 4 rfl) ?_
  refine lv_iconst (v := 3) hx hb dX8_around_139 (by decide) ?_
  refine lv_iload hx hb dX8_around_140 (lv_at hl 2 rfl) ?_
  refine lv_iload_n hx hb dX8_around_142 rfl (lv_at hl 7 rfl) ?_
  refine lv_iload_n hx hb dX8_around_143 rfl (lv_at hl 6 rfl) ?_
  refine lv_iconst (v := 0) hx hb dX8_around_144 (by decide) ?_
  refine r_callVi (ci := 8) (As := [.int (3), .int (nI goal), .int (nI uu), .int (nI (o.getD 0)), .int (0)]) hx hb hml hown hts hK hA hs (22) (by omega) (md22 hM) rfl rfl (c_X8_put l G (fl := false) hM (tg := 3) (gl := goal) (a := uu) (b := o.getD 0) (c1 := 0) (by have := ht _ (get_some hso); omega) (fun _ => ok_2 (by decide) hgl hu1 (ht _ (get_some hso)))) (cwV 5 hts (tbV w_ml_RX8_171 w_im_yX8_put w_se_yX8_put w_ini_RX8 w_cd_yX8_put) rfl rfl rfl (by decide +kernel) ⟨Nat.le_of_ble_eq_true rfl, Nat.le_of_ble_eq_true rfl⟩) rfl hl.1 rfl (Nat.le_of_ble_eq_true rfl) dX8_around_145 ⟨Nat.le_refl _, Nat.le_refl _⟩ (fun r_4 ad_1 en_2 H locs hp_3 hs => ?_)
  have hfin := hp_3
  refine r_iret (v := r_4) (mc := 0) (ms := 0) hx hb hr hlk hs (Nat.le_refl _) (Nat.le_refl _) dX8_around_148 hQ ?_
  exact hfin

set_option maxHeartbeats 600000 in
set_option maxRecDepth 100000 in
theorem c_X8_around_4 (l : Launch) (G : rG) {n : Nat} {ad : Nat → Nat} {en : Nat → va_E} {s0 : NSt} {c : Nat → Nat → Int32} {us : Int32} {dp : Int32} {cl : Int32}  (hM : MdW G n ad en s0.1 s0.2 c us 0 dp cl) {s uu hh goal : Nat} (hs3 : s ≤ 3000) {o : Option Nat} (hso : o.isNone = false) (hgl : 1 ≤ goal ∧ goal ≤ s0.1.length) {gt : Nat} (ho : oNd s0 o gt) (h2 : 2 ≤ sSort s0.1 goal) (h36 : c 36 s = nI 4) (h37 : c 37 s = nI goal) (h38 : c 38 s = nI goal)  : CI l G yX8_around uX8_around (5) (138) (0) (0) [.ref (ad 22), .int (nI s), .int (nI (o.getD 0)), .int (nI uu), .int (nI hh)] (n) (n) ad en (mAct G n ad en c us dp cl (aLamO (sL s0.1 goal) o) s0) := by
  intro sz
  refine rMet (Qc := qI G (n) (mAct G n ad en c us dp cl (aLamO (sL s0.1 goal) o) s0)) (cc := cX8_around) (maxL := 13) (ret := (some .int)) (by decide) rfl (Nat.le_of_ble_eq_true rfl) ?_
  intro pP eE sS mM aA bB tT cC ls A Q hc hK hsz hA hs hl hQ
  obtain ⟨hx, hb, hr, hts, hown, hlk, hnm, hml⟩ := hc
  have hl : lv_has ls 13 [(0, .ref (ad 22)), (1, .int (nI s)), (2, .int (nI (o.getD 0))), (3, .int (nI uu)), (4, .int (nI hh))] := hl
  have fr0 : ∀ k, k < 22 → en k = en k := fun _ _ => rfl
  obtain ⟨hn48, -, -, -, hok, hnk⟩ := id hM
  have h6 := hok.1
  have h8 := hnk.1
  
  refine lv_aload_n hx hb dX8_around_0 rfl (lv_at hl 0 rfl) ?_
  refine r_get (ci := 8) (v := .ref (ad 37)) (C := RX8) (T := TX8) (N := 31) hx hb hts inlX8 hown hK hs (22) (by omega) (md22 hM) rfl 19 (by decide) (hts _ w_fl_RX8_54) rfl dX8_around_1 ?_
  refine lv_iload_n hx hb dX8_around_4 rfl (lv_at hl 1 rfl) ?_
  refine r_ialdN (t := s) hx hb hK hs (37) (by omega) (md37 hM) (rfl) (by omega) (by omega) dX8_around_5 ?_
  refine r_topi (y := nI goal) (h37) ?_
  refine lv_istore (lv' := [(5, .int (nI goal)), (0, .ref (ad 22)), (1, .int (nI s)), (2, .int (nI (o.getD 0))), (3, .int (nI uu)), (4, .int (nI hh))]) hx hb dX8_around_6 hl (by decide) rfl (fun ls hl => ?_)
  refine lv_aload_n hx hb dX8_around_8 rfl (lv_at hl 1 rfl) ?_
  refine r_get (ci := 8) (v := .ref (ad 38)) (C := RX8) (T := TX8) (N := 31) hx hb hts inlX8 hown hK hs (22) (by omega) (md22 hM) rfl 20 (by decide) (hts _ w_fl_RX8_57) rfl dX8_around_9 ?_
  refine lv_iload_n hx hb dX8_around_12 rfl (lv_at hl 2 rfl) ?_
  refine r_ialdN (t := s) hx hb hK hs (38) (by omega) (md38 hM) (rfl) (by omega) (by omega) dX8_around_13 ?_
  refine r_topi (y := nI goal) (h38) ?_
  refine lv_istore (lv' := [(6, .int (nI goal)), (5, .int (nI goal)), (0, .ref (ad 22)), (1, .int (nI s)), (2, .int (nI (o.getD 0))), (3, .int (nI uu)), (4, .int (nI hh))]) hx hb dX8_around_14 hl (by decide) rfl (fun ls hl => ?_)
  refine lv_iload hx hb dX8_around_16 (lv_at hl 1 rfl) ?_
  refine lv_if_le (tgt := 31) hx hb dX8_around_18 (by decide) (fun c18 => absurd c18 (fun q => by have := nI_le0 (by omega) q; omega)) (fun _ => ?_)
  refine lv_aload_n hx hb dX8_around_21 rfl (lv_at hl 2 rfl) ?_
  refine r_get (ci := 8) (v := .ref (ad 24)) (C := RX8) (T := TX8) (N := 31) hx hb hts inlX8 hown hK hs (22) (by omega) (md22 hM) rfl 1 (by decide) (hts _ w_fl_RX8_13) rfl dX8_around_22 ?_
  refine lv_iload hx hb dX8_around_25 (lv_at hl 1 rfl) ?_
  refine r_ialdN (t := goal) hx hb hK hs (24) (by omega) (md24 hM) (rfl) (by omega) (by omega) dX8_around_27 ?_
  refine r_topi (y := nI (sL s0.1 (goal))) rfl ?_
  refine lv_goto (tgt := 32) hx hb dX8_around_28 (by decide) ?_
  refine lv_istore (lv' := [(7, .int (nI (sL s0.1 (goal)))), (6, .int (nI goal)), (5, .int (nI goal)), (0, .ref (ad 22)), (1, .int (nI s)), (2, .int (nI (o.getD 0))), (3, .int (nI uu)), (4, .int (nI hh))]) hx hb dX8_around_32 hl (by decide) rfl (fun ls hl => ?_)
  refine lv_iload hx hb dX8_around_34 (lv_at hl 2 rfl) ?_
  refine lv_if_le (tgt := 49) hx hb dX8_around_36 (by decide) (fun c36 => absurd c36 (fun q => by have := nI_le0 (by omega) q; omega)) (fun _ => ?_)
  refine lv_aload_n hx hb dX8_around_39 rfl (lv_at hl 3 rfl) ?_
  refine r_get (ci := 8) (v := .ref (ad 25)) (C := RX8) (T := TX8) (N := 31) hx hb hts inlX8 hown hK hs (22) (by omega) (md22 hM) rfl 2 (by decide) (hts _ w_fl_RX8_16) rfl dX8_around_40 ?_
  refine lv_iload hx hb dX8_around_43 (lv_at hl 2 rfl) ?_
  refine r_ialdN (t := goal) hx hb hK hs (25) (by omega) (md25 hM) (rfl) (by omega) (by omega) dX8_around_45 ?_
  refine r_topi (y := nI (sR s0.1 (goal))) rfl ?_
  refine lv_goto (tgt := 50) hx hb dX8_around_46 (by decide) ?_
  refine lv_istore (lv' := [(8, .int (nI (sR s0.1 (goal)))), (7, .int (nI (sL s0.1 (goal)))), (6, .int (nI goal)), (5, .int (nI goal)), (0, .ref (ad 22)), (1, .int (nI s)), (2, .int (nI (o.getD 0))), (3, .int (nI uu)), (4, .int (nI hh))]) hx hb dX8_around_50 hl (by decide) rfl (fun ls hl => ?_)
  refine lv_aload_n hx hb dX8_around_52 rfl (lv_at hl 4 rfl) ?_
  refine r_get (ci := 8) (v := .ref (ad 36)) (C := RX8) (T := TX8) (N := 31) hx hb hts inlX8 hown hK hs (22) (by omega) (md22 hM) rfl 18 (by decide) (hts _ w_fl_RX8_51) rfl dX8_around_53 ?_
  refine lv_iload_n hx hb dX8_around_56 rfl (lv_at hl 5 rfl) ?_
  refine r_ialdN (t := s) hx hb hK hs (36) (by omega) (md36 hM) (rfl) (by omega) (by omega) dX8_around_57 ?_
  refine r_topi (y := nI 4) (h36) ?_
  refine lv_tableIn (off := 91) (tgt := 149) hx hb dX8_around_58 (by decide) (by decide) (by decide) (by decide) ?_
  refine lv_aload_n hx hb dX8_around_149 rfl (lv_at hl 4 rfl) ?_
  refine lv_aload_n hx hb dX8_around_150 rfl (lv_at hl 4 rfl) ?_
  refine r_get (ci := 8) (v := .ref (ad 24)) (C := RX8) (T := TX8) (N := 31) hx hb hts inlX8 hown hK hs (22) (by omega) (md22 hM) rfl 1 (by decide) (hts _ w_fl_RX8_13) rfl dX8_around_151 ?_
  refine lv_iload hx hb dX8_around_154 (lv_at hl 2 rfl) ?_
  refine r_ialdN (t := goal) hx hb hK hs (24) (by omega) (md24 hM) (rfl) (by omega) (by omega) dX8_around_156 ?_
  refine r_topi (y := nI (sL s0.1 (goal))) rfl ?_
  refine lv_iload_n hx hb dX8_around_157 rfl (lv_at hl 6 rfl) ?_
  refine r_callVi (ci := 8) (As := [.int (nI (sL s0.1 (goal))), .int (nI (o.getD 0))]) hx hb hml hown hts hK hA hs (22) (by omega) (md22 hM) rfl rfl (c_X8_l l G (o := o) (show MdW G n ad en s0.1 s0.2 c us (ovB o.isNone) dp cl by rw [hso]; exact hM) (a := sL s0.1 goal) (parts_of hok hgl h2).1 ho) (cwV 2 hts (tbV w_ml_RX8_174 w_im_yX8_l w_se_yX8_l w_ini_RX8 w_cd_yX8_l) rfl rfl rfl (by decide +kernel) ⟨Nat.le_of_ble_eq_true rfl, Nat.le_of_ble_eq_true rfl⟩) rfl hl.1 rfl (Nat.le_of_ble_eq_true rfl) dX8_around_158 ⟨Nat.le_refl _, Nat.le_refl _⟩ (fun r_4 ad_1 en_2 H locs hp_3 hs => ?_)
  have hfin := hp_3
  refine r_iret (v := r_4) (mc := 0) (ms := 0) hx hb hr hlk hs (Nat.le_refl _) (Nat.le_refl _) dX8_around_161 hQ ?_
  exact hfin

set_option maxHeartbeats 600000 in
set_option maxRecDepth 100000 in
theorem c_X8_around_6 (l : Launch) (G : rG) {n : Nat} {ad : Nat → Nat} {en : Nat → va_E} {s0 : NSt} {c : Nat → Nat → Int32} {us : Int32} {dp : Int32} {cl : Int32}  (hM : MdW G n ad en s0.1 s0.2 c us 0 dp cl) {s uu hh goal : Nat} (hs3 : s ≤ 3000) {o : Option Nat} (hso : o.isNone = false) {f : Nat} (hf : 1 ≤ f ∧ f ≤ s0.1.length) (hgl : 1 ≤ goal ∧ goal ≤ s0.1.length) (ht : ∀ x, o = some x → 1 ≤ x ∧ x ≤ s0.2.length) (hu1 : 1 ≤ uu ∧ uu ≤ s0.2.length) (hh1 : 1 ≤ hh ∧ hh ≤ s0.2.length) (h36 : c 36 s = nI 6) (h37 : c 37 s = nI f) (h38 : c 38 s = nI goal)  : CI l G yX8_around uX8_around (5) (138) (0) (0) [.ref (ad 22), .int (nI s), .int (nI (o.getD 0)), .int (nI uu), .int (nI hh)] (n) (n) ad en (mAct G n ad en c us dp cl (aGate false (aNode (8, goal, hh, uu, o.getD 0))) s0) := by
  intro sz
  refine rMet (Qc := qI G (n) (mAct G n ad en c us dp cl (aGate false (aNode (8, goal, hh, uu, o.getD 0))) s0)) (cc := cX8_around) (maxL := 13) (ret := (some .int)) (by decide) rfl (Nat.le_of_ble_eq_true rfl) ?_
  intro pP eE sS mM aA bB tT cC ls A Q hc hK hsz hA hs hl hQ
  obtain ⟨hx, hb, hr, hts, hown, hlk, hnm, hml⟩ := hc
  have hl : lv_has ls 13 [(0, .ref (ad 22)), (1, .int (nI s)), (2, .int (nI (o.getD 0))), (3, .int (nI uu)), (4, .int (nI hh))] := hl
  have fr0 : ∀ k, k < 22 → en k = en k := fun _ _ => rfl
  obtain ⟨hn48, -, -, -, hok, hnk⟩ := id hM
  have h6 := hok.1
  have h8 := hnk.1
  
  refine lv_aload_n hx hb dX8_around_0 rfl (lv_at hl 0 rfl) ?_
  refine r_get (ci := 8) (v := .ref (ad 37)) (C := RX8) (T := TX8) (N := 31) hx hb hts inlX8 hown hK hs (22) (by omega) (md22 hM) rfl 19 (by decide) (hts _ w_fl_RX8_54) rfl dX8_around_1 ?_
  refine lv_iload_n hx hb dX8_around_4 rfl (lv_at hl 1 rfl) ?_
  refine r_ialdN (t := s) hx hb hK hs (37) (by omega) (md37 hM) (rfl) (by omega) (by omega) dX8_around_5 ?_
  refine r_topi (y := nI f) (h37) ?_
  refine lv_istore (lv' := [(5, .int (nI f)), (0, .ref (ad 22)), (1, .int (nI s)), (2, .int (nI (o.getD 0))), (3, .int (nI uu)), (4, .int (nI hh))]) hx hb dX8_around_6 hl (by decide) rfl (fun ls hl => ?_)
  refine lv_aload_n hx hb dX8_around_8 rfl (lv_at hl 1 rfl) ?_
  refine r_get (ci := 8) (v := .ref (ad 38)) (C := RX8) (T := TX8) (N := 31) hx hb hts inlX8 hown hK hs (22) (by omega) (md22 hM) rfl 20 (by decide) (hts _ w_fl_RX8_57) rfl dX8_around_9 ?_
  refine lv_iload_n hx hb dX8_around_12 rfl (lv_at hl 2 rfl) ?_
  refine r_ialdN (t := s) hx hb hK hs (38) (by omega) (md38 hM) (rfl) (by omega) (by omega) dX8_around_13 ?_
  refine r_topi (y := nI goal) (h38) ?_
  refine lv_istore (lv' := [(6, .int (nI goal)), (5, .int (nI f)), (0, .ref (ad 22)), (1, .int (nI s)), (2, .int (nI (o.getD 0))), (3, .int (nI uu)), (4, .int (nI hh))]) hx hb dX8_around_14 hl (by decide) rfl (fun ls hl => ?_)
  refine lv_iload hx hb dX8_around_16 (lv_at hl 1 rfl) ?_
  refine lv_if_le (tgt := 31) hx hb dX8_around_18 (by decide) (fun c18 => absurd c18 (fun q => by have := nI_le0 (by omega) q; omega)) (fun _ => ?_)
  refine lv_aload_n hx hb dX8_around_21 rfl (lv_at hl 2 rfl) ?_
  refine r_get (ci := 8) (v := .ref (ad 24)) (C := RX8) (T := TX8) (N := 31) hx hb hts inlX8 hown hK hs (22) (by omega) (md22 hM) rfl 1 (by decide) (hts _ w_fl_RX8_13) rfl dX8_around_22 ?_
  refine lv_iload hx hb dX8_around_25 (lv_at hl 1 rfl) ?_
  refine r_ialdN (t := f) hx hb hK hs (24) (by omega) (md24 hM) (rfl) (by omega) (by omega) dX8_around_27 ?_
  refine r_topi (y := nI (sL s0.1 (f))) rfl ?_
  refine lv_goto (tgt := 32) hx hb dX8_around_28 (by decide) ?_
  refine lv_istore (lv' := [(7, .int (nI (sL s0.1 (f)))), (6, .int (nI goal)), (5, .int (nI f)), (0, .ref (ad 22)), (1, .int (nI s)), (2, .int (nI (o.getD 0))), (3, .int (nI uu)), (4, .int (nI hh))]) hx hb dX8_around_32 hl (by decide) rfl (fun ls hl => ?_)
  refine lv_iload hx hb dX8_around_34 (lv_at hl 2 rfl) ?_
  refine lv_if_le (tgt := 49) hx hb dX8_around_36 (by decide) (fun c36 => absurd c36 (fun q => by have := nI_le0 (by omega) q; omega)) (fun _ => ?_)
  refine lv_aload_n hx hb dX8_around_39 rfl (lv_at hl 3 rfl) ?_
  refine r_get (ci := 8) (v := .ref (ad 25)) (C := RX8) (T := TX8) (N := 31) hx hb hts inlX8 hown hK hs (22) (by omega) (md22 hM) rfl 2 (by decide) (hts _ w_fl_RX8_16) rfl dX8_around_40 ?_
  refine lv_iload hx hb dX8_around_43 (lv_at hl 2 rfl) ?_
  refine r_ialdN (t := f) hx hb hK hs (25) (by omega) (md25 hM) (rfl) (by omega) (by omega) dX8_around_45 ?_
  refine r_topi (y := nI (sR s0.1 (f))) rfl ?_
  refine lv_goto (tgt := 50) hx hb dX8_around_46 (by decide) ?_
  refine lv_istore (lv' := [(8, .int (nI (sR s0.1 (f)))), (7, .int (nI (sL s0.1 (f)))), (6, .int (nI goal)), (5, .int (nI f)), (0, .ref (ad 22)), (1, .int (nI s)), (2, .int (nI (o.getD 0))), (3, .int (nI uu)), (4, .int (nI hh))]) hx hb dX8_around_50 hl (by decide) rfl (fun ls hl => ?_)
  refine lv_aload_n hx hb dX8_around_52 rfl (lv_at hl 4 rfl) ?_
  refine r_get (ci := 8) (v := .ref (ad 36)) (C := RX8) (T := TX8) (N := 31) hx hb hts inlX8 hown hK hs (22) (by omega) (md22 hM) rfl 18 (by decide) (hts _ w_fl_RX8_51) rfl dX8_around_53 ?_
  refine lv_iload_n hx hb dX8_around_56 rfl (lv_at hl 5 rfl) ?_
  refine r_ialdN (t := s) hx hb hK hs (36) (by omega) (md36 hM) (rfl) (by omega) (by omega) dX8_around_57 ?_
  refine r_topi (y := nI 6) (h36) ?_
  refine lv_tableIn (off := 164) (tgt := 222) hx hb dX8_around_58 (by decide) (by decide) (by decide) (by decide) ?_
  refine lv_aload_n hx hb dX8_around_222 rfl (lv_at hl 4 rfl) ?_
  refine lv_bipush (v := 8) hx hb dX8_around_223 (by decide) ?_
  refine lv_iload hx hb dX8_around_225 (lv_at hl 2 rfl) ?_
  refine lv_iload hx hb dX8_around_227 (lv_at hl 8 rfl) ?_
  refine lv_iload_n hx hb dX8_around_229 rfl (lv_at hl 7 rfl) ?_
  refine lv_iload_n hx hb dX8_around_230 rfl (lv_at hl 6 rfl) ?_
  refine r_callVi (ci := 8) (As := [.int (8), .int (nI goal), .int (nI hh), .int (nI uu), .int (nI (o.getD 0))]) hx hb hml hown hts hK hA hs (22) (by omega) (md22 hM) rfl rfl (c_X8_put l G (fl := false) hM (tg := 8) (gl := goal) (a := hh) (b := uu) (c1 := o.getD 0) (by have := ht _ (get_some hso); omega) (fun _ => ok_3 (by decide) hgl hh1 hu1 (ht _ (get_some hso)))) (cwV 5 hts (tbV w_ml_RX8_171 w_im_yX8_put w_se_yX8_put w_ini_RX8 w_cd_yX8_put) rfl rfl rfl (by decide +kernel) ⟨Nat.le_of_ble_eq_true rfl, Nat.le_of_ble_eq_true rfl⟩) rfl hl.1 rfl (Nat.le_of_ble_eq_true rfl) dX8_around_231 ⟨Nat.le_refl _, Nat.le_refl _⟩ (fun r_4 ad_1 en_2 H locs hp_3 hs => ?_)
  have hfin := hp_3
  refine r_iret (v := r_4) (mc := 0) (ms := 0) hx hb hr hlk hs (Nat.le_refl _) (Nat.le_refl _) dX8_around_234 hQ ?_
  exact hfin

set_option maxHeartbeats 600000 in
set_option maxRecDepth 100000 in
theorem c_X8_around_8 (l : Launch) (G : rG) {n : Nat} {ad : Nat → Nat} {en : Nat → va_E} {s0 : NSt} {c : Nat → Nat → Int32} {us : Int32} {dp : Int32} {cl : Int32}  (hM : MdW G n ad en s0.1 s0.2 c us 0 dp cl) {s uu hh goal : Nat} (hs3 : s ≤ 3000) {o : Option Nat} (hso : o.isNone = false) {f : Nat} (hf : 1 ≤ f ∧ f ≤ s0.1.length) (h36 : c 36 s = nI 8) (h37 : c 37 s = nI f) (h38 : c 38 s = nI goal)  : CI l G yX8_around uX8_around (5) (138) (0) (0) [.ref (ad 22), .int (nI s), .int (nI (o.getD 0)), .int (nI uu), .int (nI hh)] (n) (n) ad en (mAct G n ad en c us dp cl (fun s => (o, s)) s0) := by
  intro sz
  refine rMet (Qc := qI G (n) (mAct G n ad en c us dp cl (fun s => (o, s)) s0)) (cc := cX8_around) (maxL := 13) (ret := (some .int)) (by decide) rfl (Nat.le_of_ble_eq_true rfl) ?_
  intro pP eE sS mM aA bB tT cC ls A Q hc hK hsz hA hs hl hQ
  obtain ⟨hx, hb, hr, hts, hown, hlk, hnm, hml⟩ := hc
  have hl : lv_has ls 13 [(0, .ref (ad 22)), (1, .int (nI s)), (2, .int (nI (o.getD 0))), (3, .int (nI uu)), (4, .int (nI hh))] := hl
  have fr0 : ∀ k, k < 22 → en k = en k := fun _ _ => rfl
  obtain ⟨hn48, -, -, -, hok, hnk⟩ := id hM
  have h6 := hok.1
  have h8 := hnk.1
  
  refine lv_aload_n hx hb dX8_around_0 rfl (lv_at hl 0 rfl) ?_
  refine r_get (ci := 8) (v := .ref (ad 37)) (C := RX8) (T := TX8) (N := 31) hx hb hts inlX8 hown hK hs (22) (by omega) (md22 hM) rfl 19 (by decide) (hts _ w_fl_RX8_54) rfl dX8_around_1 ?_
  refine lv_iload_n hx hb dX8_around_4 rfl (lv_at hl 1 rfl) ?_
  refine r_ialdN (t := s) hx hb hK hs (37) (by omega) (md37 hM) (rfl) (by omega) (by omega) dX8_around_5 ?_
  refine r_topi (y := nI f) (h37) ?_
  refine lv_istore (lv' := [(5, .int (nI f)), (0, .ref (ad 22)), (1, .int (nI s)), (2, .int (nI (o.getD 0))), (3, .int (nI uu)), (4, .int (nI hh))]) hx hb dX8_around_6 hl (by decide) rfl (fun ls hl => ?_)
  refine lv_aload_n hx hb dX8_around_8 rfl (lv_at hl 1 rfl) ?_
  refine r_get (ci := 8) (v := .ref (ad 38)) (C := RX8) (T := TX8) (N := 31) hx hb hts inlX8 hown hK hs (22) (by omega) (md22 hM) rfl 20 (by decide) (hts _ w_fl_RX8_57) rfl dX8_around_9 ?_
  refine lv_iload_n hx hb dX8_around_12 rfl (lv_at hl 2 rfl) ?_
  refine r_ialdN (t := s) hx hb hK hs (38) (by omega) (md38 hM) (rfl) (by omega) (by omega) dX8_around_13 ?_
  refine r_topi (y := nI goal) (h38) ?_
  refine lv_istore (lv' := [(6, .int (nI goal)), (5, .int (nI f)), (0, .ref (ad 22)), (1, .int (nI s)), (2, .int (nI (o.getD 0))), (3, .int (nI uu)), (4, .int (nI hh))]) hx hb dX8_around_14 hl (by decide) rfl (fun ls hl => ?_)
  refine lv_iload hx hb dX8_around_16 (lv_at hl 1 rfl) ?_
  refine lv_if_le (tgt := 31) hx hb dX8_around_18 (by decide) (fun c18 => absurd c18 (fun q => by have := nI_le0 (by omega) q; omega)) (fun _ => ?_)
  refine lv_aload_n hx hb dX8_around_21 rfl (lv_at hl 2 rfl) ?_
  refine r_get (ci := 8) (v := .ref (ad 24)) (C := RX8) (T := TX8) (N := 31) hx hb hts inlX8 hown hK hs (22) (by omega) (md22 hM) rfl 1 (by decide) (hts _ w_fl_RX8_13) rfl dX8_around_22 ?_
  refine lv_iload hx hb dX8_around_25 (lv_at hl 1 rfl) ?_
  refine r_ialdN (t := f) hx hb hK hs (24) (by omega) (md24 hM) (rfl) (by omega) (by omega) dX8_around_27 ?_
  refine r_topi (y := nI (sL s0.1 (f))) rfl ?_
  refine lv_goto (tgt := 32) hx hb dX8_around_28 (by decide) ?_
  refine lv_istore (lv' := [(7, .int (nI (sL s0.1 (f)))), (6, .int (nI goal)), (5, .int (nI f)), (0, .ref (ad 22)), (1, .int (nI s)), (2, .int (nI (o.getD 0))), (3, .int (nI uu)), (4, .int (nI hh))]) hx hb dX8_around_32 hl (by decide) rfl (fun ls hl => ?_)
  refine lv_iload hx hb dX8_around_34 (lv_at hl 2 rfl) ?_
  refine lv_if_le (tgt := 49) hx hb dX8_around_36 (by decide) (fun c36 => absurd c36 (fun q => by have := nI_le0 (by omega) q; omega)) (fun _ => ?_)
  refine lv_aload_n hx hb dX8_around_39 rfl (lv_at hl 3 rfl) ?_
  refine r_get (ci := 8) (v := .ref (ad 25)) (C := RX8) (T := TX8) (N := 31) hx hb hts inlX8 hown hK hs (22) (by omega) (md22 hM) rfl 2 (by decide) (hts _ w_fl_RX8_16) rfl dX8_around_40 ?_
  refine lv_iload hx hb dX8_around_43 (lv_at hl 2 rfl) ?_
  refine r_ialdN (t := f) hx hb hK hs (25) (by omega) (md25 hM) (rfl) (by omega) (by omega) dX8_around_45 ?_
  refine r_topi (y := nI (sR s0.1 (f))) rfl ?_
  refine lv_goto (tgt := 50) hx hb dX8_around_46 (by decide) ?_
  refine lv_istore (lv' := [(8, .int (nI (sR s0.1 (f)))), (7, .int (nI (sL s0.1 (f)))), (6, .int (nI goal)), (5, .int (nI f)), (0, .ref (ad 22)), (1, .int (nI s)), (2, .int (nI (o.getD 0))), (3, .int (nI uu)), (4, .int (nI hh))]) hx hb dX8_around_50 hl (by decide) rfl (fun ls hl => ?_)
  refine lv_aload_n hx hb dX8_around_52 rfl (lv_at hl 4 rfl) ?_
  refine r_get (ci := 8) (v := .ref (ad 36)) (C := RX8) (T := TX8) (N := 31) hx hb hts inlX8 hown hK hs (22) (by omega) (md22 hM) rfl 18 (by decide) (hts _ w_fl_RX8_51) rfl dX8_around_53 ?_
  refine lv_iload_n hx hb dX8_around_56 rfl (lv_at hl 5 rfl) ?_
  refine r_ialdN (t := s) hx hb hK hs (36) (by omega) (md36 hM) (rfl) (by omega) (by omega) dX8_around_57 ?_
  refine r_topi (y := nI 8) (h36) ?_
  refine lv_tableIn (off := 213) (tgt := 271) hx hb dX8_around_58 (by decide) (by decide) (by decide) (by decide) ?_
  refine lv_iload_n hx hb dX8_around_271 rfl (lv_at hl 6 rfl) ?_
  refine r_iret (v := nI (o.getD 0)) (mc := 0) (ms := 0) hx hb hr hlk hs (Nat.le_refl _) (Nat.le_refl _) dX8_around_272 hQ ?_
  exact ⟨⟨rfl, fun _ _ => rfl⟩, rfl, (show MdW G n ad en s0.1 s0.2 c us (ovB o.isNone) dp cl by rw [hso]; exact hM)⟩

set_option maxHeartbeats 600000 in
set_option maxRecDepth 100000 in
theorem c_X8_around_11 (l : Launch) (G : rG) {n : Nat} {ad : Nat → Nat} {en : Nat → va_E} {s0 : NSt} {c : Nat → Nat → Int32} {us : Int32} {dp : Int32} {cl : Int32}  (hM : MdW G n ad en s0.1 s0.2 c us 0 dp cl) {s uu hh goal : Nat} (hs3 : s ≤ 3000) {o : Option Nat} (hso : o.isNone = false) (hgl : 1 ≤ goal ∧ goal ≤ s0.1.length) (ht : ∀ x, o = some x → 1 ≤ x ∧ x ≤ s0.2.length) (h36 : c 36 s = nI 11) (h37 : c 37 s = (-1)) (h38 : c 38 s = nI goal)  : CI l G yX8_around uX8_around (5) (138) (0) (0) [.ref (ad 22), .int (nI s), .int (nI (o.getD 0)), .int (nI uu), .int (nI hh)] (n) (n) ad en (mAct G n ad en c us dp cl (aGate false (aNode (6, goal, o.getD 0, 0, 0))) s0) := by
  intro sz
  refine rMet (Qc := qI G (n) (mAct G n ad en c us dp cl (aGate false (aNode (6, goal, o.getD 0, 0, 0))) s0)) (cc := cX8_around) (maxL := 13) (ret := (some .int)) (by decide) rfl (Nat.le_of_ble_eq_true rfl) ?_
  intro pP eE sS mM aA bB tT cC ls A Q hc hK hsz hA hs hl hQ
  obtain ⟨hx, hb, hr, hts, hown, hlk, hnm, hml⟩ := hc
  have hl : lv_has ls 13 [(0, .ref (ad 22)), (1, .int (nI s)), (2, .int (nI (o.getD 0))), (3, .int (nI uu)), (4, .int (nI hh))] := hl
  have fr0 : ∀ k, k < 22 → en k = en k := fun _ _ => rfl
  obtain ⟨hn48, -, -, -, hok, hnk⟩ := id hM
  have h6 := hok.1
  have h8 := hnk.1
  
  refine lv_aload_n hx hb dX8_around_0 rfl (lv_at hl 0 rfl) ?_
  refine r_get (ci := 8) (v := .ref (ad 37)) (C := RX8) (T := TX8) (N := 31) hx hb hts inlX8 hown hK hs (22) (by omega) (md22 hM) rfl 19 (by decide) (hts _ w_fl_RX8_54) rfl dX8_around_1 ?_
  refine lv_iload_n hx hb dX8_around_4 rfl (lv_at hl 1 rfl) ?_
  refine r_ialdN (t := s) hx hb hK hs (37) (by omega) (md37 hM) (rfl) (by omega) (by omega) dX8_around_5 ?_
  refine r_topi (y := (-1)) (h37) ?_
  refine lv_istore (lv' := [(5, .int ((-1))), (0, .ref (ad 22)), (1, .int (nI s)), (2, .int (nI (o.getD 0))), (3, .int (nI uu)), (4, .int (nI hh))]) hx hb dX8_around_6 hl (by decide) rfl (fun ls hl => ?_)
  refine lv_aload_n hx hb dX8_around_8 rfl (lv_at hl 1 rfl) ?_
  refine r_get (ci := 8) (v := .ref (ad 38)) (C := RX8) (T := TX8) (N := 31) hx hb hts inlX8 hown hK hs (22) (by omega) (md22 hM) rfl 20 (by decide) (hts _ w_fl_RX8_57) rfl dX8_around_9 ?_
  refine lv_iload_n hx hb dX8_around_12 rfl (lv_at hl 2 rfl) ?_
  refine r_ialdN (t := s) hx hb hK hs (38) (by omega) (md38 hM) (rfl) (by omega) (by omega) dX8_around_13 ?_
  refine r_topi (y := nI goal) (h38) ?_
  refine lv_istore (lv' := [(6, .int (nI goal)), (5, .int ((-1))), (0, .ref (ad 22)), (1, .int (nI s)), (2, .int (nI (o.getD 0))), (3, .int (nI uu)), (4, .int (nI hh))]) hx hb dX8_around_14 hl (by decide) rfl (fun ls hl => ?_)
  refine lv_iload hx hb dX8_around_16 (lv_at hl 1 rfl) ?_
  refine lv_if_le (tgt := 31) hx hb dX8_around_18 (by decide) (fun _ => ?_) (fun c18 => absurd (by decide) c18)
  refine lv_iconst (v := 0) hx hb dX8_around_31 (by decide) ?_
  refine lv_istore (lv' := [(7, .int (0)), (6, .int (nI goal)), (5, .int ((-1))), (0, .ref (ad 22)), (1, .int (nI s)), (2, .int (nI (o.getD 0))), (3, .int (nI uu)), (4, .int (nI hh))]) hx hb dX8_around_32 hl (by decide) rfl (fun ls hl => ?_)
  refine lv_iload hx hb dX8_around_34 (lv_at hl 2 rfl) ?_
  refine lv_if_le (tgt := 49) hx hb dX8_around_36 (by decide) (fun _ => ?_) (fun c36 => absurd (by decide) c36)
  refine lv_iconst (v := 0) hx hb dX8_around_49 (by decide) ?_
  refine lv_istore (lv' := [(8, .int (0)), (7, .int (0)), (6, .int (nI goal)), (5, .int ((-1))), (0, .ref (ad 22)), (1, .int (nI s)), (2, .int (nI (o.getD 0))), (3, .int (nI uu)), (4, .int (nI hh))]) hx hb dX8_around_50 hl (by decide) rfl (fun ls hl => ?_)
  refine lv_aload_n hx hb dX8_around_52 rfl (lv_at hl 4 rfl) ?_
  refine r_get (ci := 8) (v := .ref (ad 36)) (C := RX8) (T := TX8) (N := 31) hx hb hts inlX8 hown hK hs (22) (by omega) (md22 hM) rfl 18 (by decide) (hts _ w_fl_RX8_51) rfl dX8_around_53 ?_
  refine lv_iload_n hx hb dX8_around_56 rfl (lv_at hl 5 rfl) ?_
  refine r_ialdN (t := s) hx hb hK hs (36) (by omega) (md36 hM) (rfl) (by omega) (by omega) dX8_around_57 ?_
  refine r_topi (y := nI 11) (h36) ?_
  refine lv_tableOut (tgt := 289) hx hb dX8_around_58 (by decide) (by decide) ?_
  refine lv_iload hx hb dX8_around_289 (lv_at hl 3 rfl) ?_
  refine lv_if_ge (tgt := 319) hx hb dX8_around_291 (by decide) (fun c291 => absurd c291 (by decide)) (fun _ => ?_)
  refine lv_aload_n hx hb dX8_around_294 rfl (lv_at hl 4 rfl) ?_
  refine lv_iload hx hb dX8_around_295 (lv_at hl 3 rfl) ?_
  refine lv_iconst (v := (-1)) hx hb dX8_around_297 (by decide) ?_
  refine lv_icmp_ne (tgt := 306) hx hb dX8_around_298 (by decide) (fun c298 => absurd (by decide) c298) (fun _ => ?_)
  refine lv_bipush (v := 6) hx hb dX8_around_301 (by decide) ?_
  refine lv_goto (tgt := 308) hx hb dX8_around_303 (by decide) ?_
  refine lv_iload hx hb dX8_around_308 (lv_at hl 2 rfl) ?_
  refine lv_iload_n hx hb dX8_around_310 rfl (lv_at hl 6 rfl) ?_
  refine lv_iconst (v := 0) hx hb dX8_around_311 (by decide) ?_
  refine lv_iconst (v := 0) hx hb dX8_around_312 (by decide) ?_
  refine r_callVi (ci := 8) (As := [.int (6), .int (nI goal), .int (nI (o.getD 0)), .int (0), .int (0)]) hx hb hml hown hts hK hA hs (22) (by omega) (md22 hM) rfl rfl (c_X8_put l G (fl := false) hM (tg := 6) (gl := goal) (a := o.getD 0) (b := 0) (c1 := 0) (by have := ht _ (get_some hso); omega) (fun _ => ok_1 (by decide) hgl (ht _ (get_some hso)))) (cwV 5 hts (tbV w_ml_RX8_171 w_im_yX8_put w_se_yX8_put w_ini_RX8 w_cd_yX8_put) rfl rfl rfl (by decide +kernel) ⟨Nat.le_of_ble_eq_true rfl, Nat.le_of_ble_eq_true rfl⟩) rfl hl.1 rfl (Nat.le_of_ble_eq_true rfl) dX8_around_313 ⟨Nat.le_refl _, Nat.le_refl _⟩ (fun r_4 ad_1 en_2 H locs hp_3 hs => ?_)
  have hfin := hp_3
  refine lv_goto (tgt := 329) hx hb dX8_around_316 (by decide) ?_
  refine r_iret (v := r_4) (mc := 0) (ms := 0) hx hb hr hlk hs (Nat.le_refl _) (Nat.le_refl _) dX8_around_329 hQ ?_
  exact hfin

set_option maxHeartbeats 600000 in
set_option maxRecDepth 100000 in
theorem c_X8_around_12 (l : Launch) (G : rG) {n : Nat} {ad : Nat → Nat} {en : Nat → va_E} {s0 : NSt} {c : Nat → Nat → Int32} {us : Int32} {dp : Int32} {cl : Int32}  (hM : MdW G n ad en s0.1 s0.2 c us 0 dp cl) {s uu hh goal : Nat} (hs3 : s ≤ 3000) {o : Option Nat} (hso : o.isNone = false) (hgl : 1 ≤ goal ∧ goal ≤ s0.1.length) (ht : ∀ x, o = some x → 1 ≤ x ∧ x ≤ s0.2.length) (h36 : c 36 s = nI 11) (h37 : c 37 s = (-2)) (h38 : c 38 s = nI goal)  : CI l G yX8_around uX8_around (5) (138) (0) (0) [.ref (ad 22), .int (nI s), .int (nI (o.getD 0)), .int (nI uu), .int (nI hh)] (n) (n) ad en (mAct G n ad en c us dp cl (aGate false (aNode (7, goal, o.getD 0, 0, 0))) s0) := by
  intro sz
  refine rMet (Qc := qI G (n) (mAct G n ad en c us dp cl (aGate false (aNode (7, goal, o.getD 0, 0, 0))) s0)) (cc := cX8_around) (maxL := 13) (ret := (some .int)) (by decide) rfl (Nat.le_of_ble_eq_true rfl) ?_
  intro pP eE sS mM aA bB tT cC ls A Q hc hK hsz hA hs hl hQ
  obtain ⟨hx, hb, hr, hts, hown, hlk, hnm, hml⟩ := hc
  have hl : lv_has ls 13 [(0, .ref (ad 22)), (1, .int (nI s)), (2, .int (nI (o.getD 0))), (3, .int (nI uu)), (4, .int (nI hh))] := hl
  have fr0 : ∀ k, k < 22 → en k = en k := fun _ _ => rfl
  obtain ⟨hn48, -, -, -, hok, hnk⟩ := id hM
  have h6 := hok.1
  have h8 := hnk.1
  
  refine lv_aload_n hx hb dX8_around_0 rfl (lv_at hl 0 rfl) ?_
  refine r_get (ci := 8) (v := .ref (ad 37)) (C := RX8) (T := TX8) (N := 31) hx hb hts inlX8 hown hK hs (22) (by omega) (md22 hM) rfl 19 (by decide) (hts _ w_fl_RX8_54) rfl dX8_around_1 ?_
  refine lv_iload_n hx hb dX8_around_4 rfl (lv_at hl 1 rfl) ?_
  refine r_ialdN (t := s) hx hb hK hs (37) (by omega) (md37 hM) (rfl) (by omega) (by omega) dX8_around_5 ?_
  refine r_topi (y := (-2)) (h37) ?_
  refine lv_istore (lv' := [(5, .int ((-2))), (0, .ref (ad 22)), (1, .int (nI s)), (2, .int (nI (o.getD 0))), (3, .int (nI uu)), (4, .int (nI hh))]) hx hb dX8_around_6 hl (by decide) rfl (fun ls hl => ?_)
  refine lv_aload_n hx hb dX8_around_8 rfl (lv_at hl 1 rfl) ?_
  refine r_get (ci := 8) (v := .ref (ad 38)) (C := RX8) (T := TX8) (N := 31) hx hb hts inlX8 hown hK hs (22) (by omega) (md22 hM) rfl 20 (by decide) (hts _ w_fl_RX8_57) rfl dX8_around_9 ?_
  refine lv_iload_n hx hb dX8_around_12 rfl (lv_at hl 2 rfl) ?_
  refine r_ialdN (t := s) hx hb hK hs (38) (by omega) (md38 hM) (rfl) (by omega) (by omega) dX8_around_13 ?_
  refine r_topi (y := nI goal) (h38) ?_
  refine lv_istore (lv' := [(6, .int (nI goal)), (5, .int ((-2))), (0, .ref (ad 22)), (1, .int (nI s)), (2, .int (nI (o.getD 0))), (3, .int (nI uu)), (4, .int (nI hh))]) hx hb dX8_around_14 hl (by decide) rfl (fun ls hl => ?_)
  refine lv_iload hx hb dX8_around_16 (lv_at hl 1 rfl) ?_
  refine lv_if_le (tgt := 31) hx hb dX8_around_18 (by decide) (fun _ => ?_) (fun c18 => absurd (by decide) c18)
  refine lv_iconst (v := 0) hx hb dX8_around_31 (by decide) ?_
  refine lv_istore (lv' := [(7, .int (0)), (6, .int (nI goal)), (5, .int ((-2))), (0, .ref (ad 22)), (1, .int (nI s)), (2, .int (nI (o.getD 0))), (3, .int (nI uu)), (4, .int (nI hh))]) hx hb dX8_around_32 hl (by decide) rfl (fun ls hl => ?_)
  refine lv_iload hx hb dX8_around_34 (lv_at hl 2 rfl) ?_
  refine lv_if_le (tgt := 49) hx hb dX8_around_36 (by decide) (fun _ => ?_) (fun c36 => absurd (by decide) c36)
  refine lv_iconst (v := 0) hx hb dX8_around_49 (by decide) ?_
  refine lv_istore (lv' := [(8, .int (0)), (7, .int (0)), (6, .int (nI goal)), (5, .int ((-2))), (0, .ref (ad 22)), (1, .int (nI s)), (2, .int (nI (o.getD 0))), (3, .int (nI uu)), (4, .int (nI hh))]) hx hb dX8_around_50 hl (by decide) rfl (fun ls hl => ?_)
  refine lv_aload_n hx hb dX8_around_52 rfl (lv_at hl 4 rfl) ?_
  refine r_get (ci := 8) (v := .ref (ad 36)) (C := RX8) (T := TX8) (N := 31) hx hb hts inlX8 hown hK hs (22) (by omega) (md22 hM) rfl 18 (by decide) (hts _ w_fl_RX8_51) rfl dX8_around_53 ?_
  refine lv_iload_n hx hb dX8_around_56 rfl (lv_at hl 5 rfl) ?_
  refine r_ialdN (t := s) hx hb hK hs (36) (by omega) (md36 hM) (rfl) (by omega) (by omega) dX8_around_57 ?_
  refine r_topi (y := nI 11) (h36) ?_
  refine lv_tableOut (tgt := 289) hx hb dX8_around_58 (by decide) (by decide) ?_
  refine lv_iload hx hb dX8_around_289 (lv_at hl 3 rfl) ?_
  refine lv_if_ge (tgt := 319) hx hb dX8_around_291 (by decide) (fun c291 => absurd c291 (by decide)) (fun _ => ?_)
  refine lv_aload_n hx hb dX8_around_294 rfl (lv_at hl 4 rfl) ?_
  refine lv_iload hx hb dX8_around_295 (lv_at hl 3 rfl) ?_
  refine lv_iconst (v := (-1)) hx hb dX8_around_297 (by decide) ?_
  refine lv_icmp_ne (tgt := 306) hx hb dX8_around_298 (by decide) (fun _ => ?_) (fun c298 => absurd c298 (by decide))
  refine lv_bipush (v := 7) hx hb dX8_around_306 (by decide) ?_
  refine lv_iload hx hb dX8_around_308 (lv_at hl 2 rfl) ?_
  refine lv_iload_n hx hb dX8_around_310 rfl (lv_at hl 6 rfl) ?_
  refine lv_iconst (v := 0) hx hb dX8_around_311 (by decide) ?_
  refine lv_iconst (v := 0) hx hb dX8_around_312 (by decide) ?_
  refine r_callVi (ci := 8) (As := [.int (7), .int (nI goal), .int (nI (o.getD 0)), .int (0), .int (0)]) hx hb hml hown hts hK hA hs (22) (by omega) (md22 hM) rfl rfl (c_X8_put l G (fl := false) hM (tg := 7) (gl := goal) (a := o.getD 0) (b := 0) (c1 := 0) (by have := ht _ (get_some hso); omega) (fun _ => ok_1 (by decide) hgl (ht _ (get_some hso)))) (cwV 5 hts (tbV w_ml_RX8_171 w_im_yX8_put w_se_yX8_put w_ini_RX8 w_cd_yX8_put) rfl rfl rfl (by decide +kernel) ⟨Nat.le_of_ble_eq_true rfl, Nat.le_of_ble_eq_true rfl⟩) rfl hl.1 rfl (Nat.le_of_ble_eq_true rfl) dX8_around_313 ⟨Nat.le_refl _, Nat.le_refl _⟩ (fun r_4 ad_1 en_2 H locs hp_3 hs => ?_)
  have hfin := hp_3
  refine lv_goto (tgt := 329) hx hb dX8_around_316 (by decide) ?_
  refine r_iret (v := r_4) (mc := 0) (ms := 0) hx hb hr hlk hs (Nat.le_refl _) (Nat.le_refl _) dX8_around_329 hQ ?_
  exact hfin

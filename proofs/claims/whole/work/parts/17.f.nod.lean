set_option maxHeartbeats 600000 in
set_option maxRecDepth 100000 in
theorem c_X8_around_5 (l : Launch) (G : rG) {n : Nat} {ad : Nat → Nat} {en : Nat → va_E} {s0 : NSt} {c : Nat → Nat → Int32} {us : Int32} {dp : Int32} {cl : Int32}  (hM : MdW G n ad en s0.1 s0.2 c us 0 dp cl) {s uu hh goal : Nat} (hs3 : s ≤ 3000) {o : Option Nat} (hso : o.isNone = false) {f : Nat} (hf : 1 ≤ f ∧ f ≤ s0.1.length) {gt : Nat} (h2 : 2 ≤ sSort s0.1 f) (ho : oNd s0 o gt) (hgt : 1 ≤ gt) (h36 : c 36 s = nI 5) (h37 : c 37 s = nI f) (h38 : c 38 s = nI goal)  : CI l G yX8_around uX8_around (5) (138) (0) (0) [.ref (ad 22), .int (nI s), .int (nI (o.getD 0)), .int (nI uu), .int (nI hh)] (n) (n) ad en (mAct G n ad en c us dp cl (aUnpack f o) s0) := by
  intro sz
  refine rMet (Qc := qI G (n) (mAct G n ad en c us dp cl (aUnpack f o) s0)) (cc := cX8_around) (maxL := 13) (ret := (some .int)) (by decide) rfl (Nat.le_of_ble_eq_true rfl) ?_
  intro pP eE sS mM aA bB tT cC ls A Q hc hK hsz hA hs hl hQ
  obtain ⟨hx, hb, hr, hts, hown, hlk, hnm, hml⟩ := hc
  have hl : lv_has ls 13 [(0, .ref (ad 22)), (1, .int (nI s)), (2, .int (nI (o.getD 0))), (3, .int (nI uu)), (4, .int (nI hh))] := hl
  have fr0 : ∀ k, k < 22 → en k = en k := fun _ _ => rfl
  obtain ⟨hn48, -, -, -, hok, hnk⟩ := id hM
  have h6 := hok.1
  have h8 := hnk.1
  have x0 := sExt.rf s0
  have hn0_ : nsOK s0.1 s0.2 := hnk
  have hokk : ssOK s0.1 := hok
  have hG0 : sGood s0 := ⟨hok, hnk⟩
  have h8_0 := hn0_.1
  obtain ⟨hL1, hR1⟩ := parts_of hokk hf h2
  obtain ⟨o1, s1, hq1⟩ : ∃ oo tt, (aLamO (sR s0.1 f) o) s0 = (oo, tt) := ⟨_, _, rfl⟩
  have hc1 := aC_eq hq1 (aLamO_ext _ _ _)
  have x1 := x0.tr hc1.2.2.2.2
  have v1 := lamO_q hq1 (ho)
  have hG1 : sGood s1 := g_lam hG0 hq1 (by have := sExt_len x0; omega) (ho)
  have hn1_ : nsOK s1.1 s1.2 := hG1.2
  have h8_1 := hn1_.1
  have hQ1 := hq1
  obtain ⟨o2, s2, hq2⟩ : ∃ oo tt, (aLamO (sL s0.1 f) o1) s1 = (oo, tt) := ⟨_, _, rfl⟩
  have hc2 := aC_eq hq2 (aLamO_ext _ _ _)
  have x2 := x1.tr hc2.2.2.2.2
  have v2 := lamO_q hq2 ((v1.1).self)
  have hG2 : sGood s2 := g_lam hG1 hq2 (by have := sExt_len x1; omega) ((v1.1).self)
  have hn2_ : nsOK s2.1 s2.2 := hG2.2
  have h8_2 := hn2_.1
  have hQ2 := hq2
  obtain ⟨o3, s3, hq3⟩ : ∃ oo tt, (aGate o2.isNone (aNode (0, f, 0, 0, 0))) s2 = (oo, tt) := ⟨_, _, rfl⟩
  have hc3 := aC_eq hq3 (aGate_ext (aNode_ext _) _ _)
  have x3 := x2.tr hc3.2.2.2.2
  have v3 := gate_q hq3
  have hG3 : sGood s3 := g_gate hG2 hq3 (fun h => ok_giv (by have := sExt_len x2; omega))
  have hn3_ : nsOK s3.1 s3.2 := hG3.2
  have h8_3 := hn3_.1
  have hQ3 := hq3
  obtain ⟨o4, s4, hq4⟩ : ∃ oo tt, (aGate o3.isNone (aNode (4, sL s0.1 f, o3.getD 0, 0, 0))) s3 = (oo, tt) := ⟨_, _, rfl⟩
  have hc4 := aC_eq hq4 (aGate_ext (aNode_ext _) _ _)
  have x4 := x3.tr hc4.2.2.2.2
  have v4 := gate_q hq4
  have hG4 : sGood s4 := g_gate hG3 hq4 (fun h => ok_1 (by decide) (by have := sExt_len x3; omega) ((v3.1).vd _ (get_some h)))
  have hn4_ : nsOK s4.1 s4.2 := hG4.2
  have h8_4 := hn4_.1
  have hQ4 := hq4
  obtain ⟨o5, s5, hq5⟩ : ∃ oo tt, (aAppO o2 o4) s4 = (oo, tt) := ⟨_, _, rfl⟩
  have hc5 := aC_eq hq5 (aAppO_ext _ _ _)
  have x5 := x4.tr hc5.2.2.2.2
  have v5 := appO_q hq5 (((v2.1).mono hc3.2.2.2.2 hn2_).mono hc4.2.2.2.2 hn3_)
  have hG5 : sGood s5 := g_app hG4 hq5 (fun u hu => low_g v1.1 hn1_ (up_s v2.2 (up_n v3.2 (up_n v4.2 (⟨u, hu⟩))))) (((v2.1).mono hc3.2.2.2.2 hn2_).mono hc4.2.2.2.2 hn3_) ((v4.1).vd)
  have hn5_ : nsOK s5.1 s5.2 := hG5.2
  have h8_5 := hn5_.1
  have hQ5 := hq5
  obtain ⟨o6, s6, hq6⟩ : ∃ oo tt, (aGate o5.isNone (aNode (0, f, 0, 0, 0))) s5 = (oo, tt) := ⟨_, _, rfl⟩
  have hc6 := aC_eq hq6 (aGate_ext (aNode_ext _) _ _)
  have x6 := x5.tr hc6.2.2.2.2
  have v6 := gate_q hq6
  have hG6 : sGood s6 := g_gate hG5 hq6 (fun h => ok_giv (by have := sExt_len x5; omega))
  have hn6_ : nsOK s6.1 s6.2 := hG6.2
  have h8_6 := hn6_.1
  have hQ6 := hq6
  obtain ⟨o7, s7, hq7⟩ : ∃ oo tt, (aGate o6.isNone (aNode (5, sR s0.1 f, o6.getD 0, 0, 0))) s6 = (oo, tt) := ⟨_, _, rfl⟩
  have hc7 := aC_eq hq7 (aGate_ext (aNode_ext _) _ _)
  have x7 := x6.tr hc7.2.2.2.2
  have v7 := gate_q hq7
  have hG7 : sGood s7 := g_gate hG6 hq7 (fun h => ok_1 (by decide) (by have := sExt_len x6; omega) ((v6.1).vd _ (get_some h)))
  have hn7_ : nsOK s7.1 s7.2 := hG7.2
  have h8_7 := hn7_.1
  have hQ7 := hq7
  obtain ⟨o8, s8, hq8⟩ : ∃ oo tt, (aAppO o5 o7) s7 = (oo, tt) := ⟨_, _, rfl⟩
  have hc8 := aC_eq hq8 (aAppO_ext _ _ _)
  have x8 := x7.tr hc8.2.2.2.2
  have v8 := appO_q hq8 ((((v5.1).mono hc6.2.2.2.2).mono hc7.2.2.2.2).fn)
  have hG8 : sGood s8 := g_app hG7 hq8 (fun u hu => by rw [hi_g v1.1 hn1_ (((((((sExt.rf s1).tr hc2.2.2.2.2).tr hc3.2.2.2.2).tr hc4.2.2.2.2).tr hc5.2.2.2.2).tr hc6.2.2.2.2).tr hc7.2.2.2.2) (up_s v2.2 (up_n v3.2 (up_n v4.2 (up_s v5.2 (up_n v6.2 (up_n v7.2 (⟨u, hu⟩)))))))]; exact hgt) ((((v5.1).mono hc6.2.2.2.2).mono hc7.2.2.2.2).fn) ((v7.1).vd)
  have hn8_ : nsOK s8.1 s8.2 := hG8.2
  have h8_8 := hn8_.1
  have hQ8 := hq8
  have hE := aUnpack_eq hq1 hq2 hq3 hq4 hq5 hq6 hq7 hq8
  
  refine lv_aload_n hx hb dX8_around_0 rfl (lv_at hl 0 rfl) ?_
  refine r_get (ci := 8) (v := .ref (ad 37)) (C := RX8) (T := TX8) (N := 31) hx hb hts inlX8 hown hK hs (22) (by omega) (md22 hM) rfl 19 (by decide) (hts _ w_fl_RX8_54) rfl dX8_around_1 ?_
  refine lv_iload_n hx hb dX8_around_4 rfl (lv_at hl 1 rfl) ?_
  refine r_ialdN (t := s) hx hb hK hs (37) (by omega) (md37 hM) (rfl) (by omega) (by omega) dX8_around_5 ?_
  refine r_topi (y := nI f) (h37) ?_
  refine lv_istore (lv' := [(5, .int (nI f)), (0, .ref (ad 22)), (1, .int (nI s)), (2, .int (nI (o.getD 0))), (3, .int (nI uu)), (4, .int (nI hh))]) hx hb dX8_around_6 hl (by decide) rfl (fun ls hl => ?_)
  refine lv_aload_n hx hb dX8_around_8 rfl (lv_at hl 1 rfl) ?_
  refine r_get (ci := 8) (v := .ref (ad 38)) (C := RX8) (T := TX8) (N := 31) hx hb hts inlX8 hown hK hs (22) (by omega) (md22 hM) rfl 20 (by decide) (hts _ w_fl_RX8_57) rfl dX8_around_9 ?_
  refine lv_iload_n hx hb dX8_around_12 rfl (lv_at hl 2 rfl) ?_
  refine r_ialdN (t := s) hx hb hK hs (38) (by omega) (md38 hM) (rfl) (by omega) (by omega) dX8_around_13 ?_
  refine r_topi (y := nI goal) (h38) ?_
  refine lv_istore (lv' := [(6, .int (nI goal)), (5, .int (nI f)), (0, .ref (ad 22)), (1, .int (nI s)), (2, .int (nI (o.getD 0))), (3, .int (nI uu)), (4, .int (nI hh))]) hx hb dX8_around_14 hl (by decide) rfl (fun ls hl => ?_)
  refine lv_iload hx hb dX8_around_16 (lv_at hl 1 rfl) ?_
  refine lv_if_le (tgt := 31) hx hb dX8_around_18 (by decide) (fun c18 => absurd c18 (fun q => by have := nI_le0 (by omega) q; omega)) (fun _ => ?_)
  refine lv_aload_n hx hb dX8_around_21 rfl (lv_at hl 2 rfl) ?_
  refine r_get (ci := 8) (v := .ref (ad 24)) (C := RX8) (T := TX8) (N := 31) hx hb hts inlX8 hown hK hs (22) (by omega) (md22 hM) rfl 1 (by decide) (hts _ w_fl_RX8_13) rfl dX8_around_22 ?_
  refine lv_iload hx hb dX8_around_25 (lv_at hl 1 rfl) ?_
  refine r_ialdN (t := f) hx hb hK hs (24) (by omega) (md24 hM) (rfl) (by omega) (by omega) dX8_around_27 ?_
  refine r_topi (y := nI (sL s0.1 (f))) rfl ?_
  refine lv_goto (tgt := 32) hx hb dX8_around_28 (by decide) ?_
  refine lv_istore (lv' := [(7, .int (nI (sL s0.1 (f)))), (6, .int (nI goal)), (5, .int (nI f)), (0, .ref (ad 22)), (1, .int (nI s)), (2, .int (nI (o.getD 0))), (3, .int (nI uu)), (4, .int (nI hh))]) hx hb dX8_around_32 hl (by decide) rfl (fun ls hl => ?_)
  refine lv_iload hx hb dX8_around_34 (lv_at hl 2 rfl) ?_
  refine lv_if_le (tgt := 49) hx hb dX8_around_36 (by decide) (fun c36 => absurd c36 (fun q => by have := nI_le0 (by omega) q; omega)) (fun _ => ?_)
  refine lv_aload_n hx hb dX8_around_39 rfl (lv_at hl 3 rfl) ?_
  refine r_get (ci := 8) (v := .ref (ad 25)) (C := RX8) (T := TX8) (N := 31) hx hb hts inlX8 hown hK hs (22) (by omega) (md22 hM) rfl 2 (by decide) (hts _ w_fl_RX8_16) rfl dX8_around_40 ?_
  refine lv_iload hx hb dX8_around_43 (lv_at hl 2 rfl) ?_
  refine r_ialdN (t := f) hx hb hK hs (25) (by omega) (md25 hM) (rfl) (by omega) (by omega) dX8_around_45 ?_
  refine r_topi (y := nI (sR s0.1 (f))) rfl ?_
  refine lv_goto (tgt := 50) hx hb dX8_around_46 (by decide) ?_
  refine lv_istore (lv' := [(8, .int (nI (sR s0.1 (f)))), (7, .int (nI (sL s0.1 (f)))), (6, .int (nI goal)), (5, .int (nI f)), (0, .ref (ad 22)), (1, .int (nI s)), (2, .int (nI (o.getD 0))), (3, .int (nI uu)), (4, .int (nI hh))]) hx hb dX8_around_50 hl (by decide) rfl (fun ls hl => ?_)
  refine lv_aload_n hx hb dX8_around_52 rfl (lv_at hl 4 rfl) ?_
  refine r_get (ci := 8) (v := .ref (ad 36)) (C := RX8) (T := TX8) (N := 31) hx hb hts inlX8 hown hK hs (22) (by omega) (md22 hM) rfl 18 (by decide) (hts _ w_fl_RX8_51) rfl dX8_around_53 ?_
  refine lv_iload_n hx hb dX8_around_56 rfl (lv_at hl 5 rfl) ?_
  refine r_ialdN (t := s) hx hb hK hs (36) (by omega) (md36 hM) (rfl) (by omega) (by omega) dX8_around_57 ?_
  refine r_topi (y := nI 5) (h36) ?_
  refine lv_tableIn (off := 104) (tgt := 162) hx hb dX8_around_58 (by decide) (by decide) (by decide) (by decide) ?_
  refine lv_aload_n hx hb dX8_around_162 rfl (lv_at hl 4 rfl) ?_
  refine lv_iload hx hb dX8_around_163 (lv_at hl 1 rfl) ?_
  refine lv_aload_n hx hb dX8_around_165 rfl (lv_at hl 4 rfl) ?_
  refine lv_iload hx hb dX8_around_166 (lv_at hl 0 rfl) ?_
  refine lv_iload_n hx hb dX8_around_168 rfl (lv_at hl 6 rfl) ?_
  have hO_1 : MdW G n ad en s0.1 s0.2 c us ((ovB o.isNone)) dp cl := by rw [show ovB o.isNone = 0 from by rw [hso]; rfl]; exact hM
  refine r_callVi (ci := 8) (As := [.int (nI (sR s0.1 (f))), .int (nI (o.getD 0))]) hx hb hml hown hts hK hA hs (22) (by omega) (md22 hM) rfl rfl (c_X8_l l G (o := o) hO_1 (a := sR s0.1 f) (by have := sExt_len x0; omega) (ho)) (cwV 2 hts (tbV w_ml_RX8_174 w_im_yX8_l w_se_yX8_l w_ini_RX8 w_cd_yX8_l) rfl rfl rfl (by decide +kernel) ⟨Nat.le_of_ble_eq_true rfl, Nat.le_of_ble_eq_true rfl⟩) rfl hl.1 rfl (Nat.le_of_ble_eq_true rfl) dX8_around_169 ⟨Nat.le_refl _, Nat.le_refl _⟩ (fun r_5 ad_2 en_3 H locs hp_4 hs => ?_)
  obtain ⟨⟨hA1, hF1⟩, hr1, hN1⟩ := hp_4
  subst hA1
  rw [hQ1] at hr1 hN1
  have hN1 : MdW G n ad en_3 s1.1 s1.2 c us (ovB o1.isNone) dp cl := hN1
  rw [show r_5 = nI (o1.getD 0) from hr1]
  have fr_6 : ∀ k, k < 22 → en_3 k = en k := fun k hk => Eq.trans (hF1 k hk) (fr0 k hk)
  refine r_callVi (ci := 8) (As := [.int (nI (sL s0.1 (f))), .int (nI (o1.getD 0))]) hx hb hml hown hts hK hA hs (22) (by omega) (md22 hN1) rfl rfl (c_X8_l l G (o := o1) hN1 (a := sL s0.1 f) (by have := sExt_len x1; omega) ((v1.1).self)) (cwV 2 hts (tbV w_ml_RX8_174 w_im_yX8_l w_se_yX8_l w_ini_RX8 w_cd_yX8_l) rfl rfl rfl (by decide +kernel) ⟨Nat.le_of_ble_eq_true rfl, Nat.le_of_ble_eq_true rfl⟩) rfl hl.1 rfl (Nat.le_of_ble_eq_true rfl) dX8_around_172 ⟨Nat.le_refl _, Nat.le_refl _⟩ (fun r_10 ad_7 en_8 H locs hp_9 hs => ?_)
  obtain ⟨⟨hA2, hF2⟩, hr2, hN2⟩ := hp_9
  subst hA2
  rw [hQ2] at hr2 hN2
  have hN2 : MdW G n ad en_8 s2.1 s2.2 c us (ovB o2.isNone) dp cl := hN2
  rw [show r_10 = nI (o2.getD 0) from hr2]
  have fr_11 : ∀ k, k < 22 → en_8 k = en k := fun k hk => Eq.trans (hF2 k hk) (fr_6 k hk)
  refine lv_istore (lv' := [(9, .int (nI (o2.getD 0))), (8, .int (nI (sR s0.1 (f)))), (7, .int (nI (sL s0.1 (f)))), (6, .int (nI goal)), (5, .int (nI f)), (0, .ref (ad 22)), (1, .int (nI s)), (2, .int (nI (o.getD 0))), (3, .int (nI uu)), (4, .int (nI hh))]) hx hb dX8_around_175 hl (by decide) rfl (fun ls hl => ?_)
  refine lv_aload_n hx hb dX8_around_177 rfl (lv_at hl 5 rfl) ?_
  refine lv_iload hx hb dX8_around_178 (lv_at hl 0 rfl) ?_
  refine lv_aload_n hx hb dX8_around_180 rfl (lv_at hl 5 rfl) ?_
  refine lv_iconst (v := 4) hx hb dX8_around_181 (by decide) ?_
  refine lv_iload hx hb dX8_around_182 (lv_at hl 2 rfl) ?_
  refine lv_aload_n hx hb dX8_around_184 rfl (lv_at hl 5 rfl) ?_
  refine lv_iload hx hb dX8_around_185 (lv_at hl 4 rfl) ?_
  refine r_callVi (ci := 8) (As := [.int (nI f)]) hx hb hml hown hts hK hA hs (22) (by omega) (md22 hN2) rfl rfl (c_X8_v l G (fl := o2.isNone) hN2 (f := f) (by have := sExt_len x2; omega)) (cwV 1 hts (tbV w_ml_RX8_177 w_im_yX8_v w_se_yX8_v w_ini_RX8 w_cd_yX8_v) rfl rfl rfl (by decide +kernel) ⟨Nat.le_of_ble_eq_true rfl, Nat.le_of_ble_eq_true rfl⟩) rfl hl.1 rfl (Nat.le_of_ble_eq_true rfl) dX8_around_187 ⟨Nat.le_refl _, Nat.le_refl _⟩ (fun r_15 ad_12 en_13 H locs hp_14 hs => ?_)
  obtain ⟨⟨hA3, hF3⟩, hr3, hN3⟩ := hp_14
  subst hA3
  rw [hQ3] at hr3 hN3
  have hN3 : MdW G n ad en_13 s3.1 s3.2 c us (ovB o3.isNone) dp cl := hN3
  rw [show r_15 = nI (o3.getD 0) from hr3]
  have fr_16 : ∀ k, k < 22 → en_13 k = en k := fun k hk => Eq.trans (hF3 k hk) (fr_11 k hk)
  refine lv_iconst (v := 0) hx hb dX8_around_190 (by decide) ?_
  refine lv_iconst (v := 0) hx hb dX8_around_191 (by decide) ?_
  refine r_callVi (ci := 8) (As := [.int (4), .int (nI (sL s0.1 (f))), .int (nI (o3.getD 0)), .int (0), .int (0)]) hx hb hml hown hts hK hA hs (22) (by omega) (md22 hN3) rfl rfl (c_X8_put l G (fl := o3.isNone) hN3 (tg := 4) (gl := sL s0.1 f) (a := o3.getD 0) (b := 0) (c1 := 0) (by have := getD_lt ((v3.1).vd) h8_3; omega) (fun h => ok_1 (by decide) (by have := sExt_len x3; omega) ((v3.1).vd _ (get_some h)))) (cwV 5 hts (tbV w_ml_RX8_171 w_im_yX8_put w_se_yX8_put w_ini_RX8 w_cd_yX8_put) rfl rfl rfl (by decide +kernel) ⟨Nat.le_of_ble_eq_true rfl, Nat.le_of_ble_eq_true rfl⟩) rfl hl.1 rfl (Nat.le_of_ble_eq_true rfl) dX8_around_192 ⟨Nat.le_refl _, Nat.le_refl _⟩ (fun r_20 ad_17 en_18 H locs hp_19 hs => ?_)
  obtain ⟨⟨hA4, hF4⟩, hr4, hN4⟩ := hp_19
  subst hA4
  rw [hQ4] at hr4 hN4
  have hN4 : MdW G n ad en_18 s4.1 s4.2 c us (ovB o4.isNone) dp cl := hN4
  rw [show r_20 = nI (o4.getD 0) from hr4]
  have fr_21 : ∀ k, k < 22 → en_18 k = en k := fun k hk => Eq.trans (hF4 k hk) (fr_16 k hk)
  refine r_callVi (ci := 8) (As := [.int (nI (o2.getD 0)), .int (nI (o4.getD 0))]) hx hb hml hown hts hK hA hs (22) (by omega) (md22 hN4) rfl rfl (c_X8_a l G (o1 := o2) (o2 := o4) hN4 (fun u hu => low_g v1.1 hn1_ (up_s v2.2 (up_n v3.2 (up_n v4.2 (⟨u, hu⟩))))) (((v2.1).mono hc3.2.2.2.2 hn2_).mono hc4.2.2.2.2 hn3_) ((v4.1).vd) (fun q => v4.2 (none_i (v3.2 (none_i (q)))))) (cwV 2 hts (tbV w_ml_RX8_184 w_im_yX8_a w_se_yX8_a w_ini_RX8 w_cd_yX8_a) rfl rfl rfl (by decide +kernel) ⟨Nat.le_of_ble_eq_true rfl, Nat.le_of_ble_eq_true rfl⟩) rfl hl.1 rfl (Nat.le_of_ble_eq_true rfl) dX8_around_195 ⟨Nat.le_refl _, Nat.le_refl _⟩ (fun r_25 ad_22 en_23 H locs hp_24 hs => ?_)
  obtain ⟨⟨hA5, hF5⟩, hr5, hN5⟩ := hp_24
  subst hA5
  rw [hQ5] at hr5 hN5
  have hN5 : MdW G n ad en_23 s5.1 s5.2 c us (ovB o5.isNone) dp cl := hN5
  rw [show r_25 = nI (o5.getD 0) from hr5]
  have fr_26 : ∀ k, k < 22 → en_23 k = en k := fun k hk => Eq.trans (hF5 k hk) (fr_21 k hk)
  refine lv_istore (lv' := [(10, .int (nI (o5.getD 0))), (9, .int (nI (o2.getD 0))), (8, .int (nI (sR s0.1 (f)))), (7, .int (nI (sL s0.1 (f)))), (6, .int (nI goal)), (5, .int (nI f)), (0, .ref (ad 22)), (1, .int (nI s)), (2, .int (nI (o.getD 0))), (3, .int (nI uu)), (4, .int (nI hh))]) hx hb dX8_around_198 hl (by decide) rfl (fun ls hl => ?_)
  refine lv_aload_n hx hb dX8_around_200 rfl (lv_at hl 6 rfl) ?_
  refine lv_iload hx hb dX8_around_201 (lv_at hl 0 rfl) ?_
  refine lv_aload_n hx hb dX8_around_203 rfl (lv_at hl 6 rfl) ?_
  refine lv_iconst (v := 5) hx hb dX8_around_204 (by decide) ?_
  refine lv_iload hx hb dX8_around_205 (lv_at hl 2 rfl) ?_
  refine lv_aload_n hx hb dX8_around_207 rfl (lv_at hl 6 rfl) ?_
  refine lv_iload hx hb dX8_around_208 (lv_at hl 5 rfl) ?_
  refine r_callVi (ci := 8) (As := [.int (nI f)]) hx hb hml hown hts hK hA hs (22) (by omega) (md22 hN5) rfl rfl (c_X8_v l G (fl := o5.isNone) hN5 (f := f) (by have := sExt_len x5; omega)) (cwV 1 hts (tbV w_ml_RX8_177 w_im_yX8_v w_se_yX8_v w_ini_RX8 w_cd_yX8_v) rfl rfl rfl (by decide +kernel) ⟨Nat.le_of_ble_eq_true rfl, Nat.le_of_ble_eq_true rfl⟩) rfl hl.1 rfl (Nat.le_of_ble_eq_true rfl) dX8_around_210 ⟨Nat.le_refl _, Nat.le_refl _⟩ (fun r_30 ad_27 en_28 H locs hp_29 hs => ?_)
  obtain ⟨⟨hA6, hF6⟩, hr6, hN6⟩ := hp_29
  subst hA6
  rw [hQ6] at hr6 hN6
  have hN6 : MdW G n ad en_28 s6.1 s6.2 c us (ovB o6.isNone) dp cl := hN6
  rw [show r_30 = nI (o6.getD 0) from hr6]
  have fr_31 : ∀ k, k < 22 → en_28 k = en k := fun k hk => Eq.trans (hF6 k hk) (fr_26 k hk)
  refine lv_iconst (v := 0) hx hb dX8_around_213 (by decide) ?_
  refine lv_iconst (v := 0) hx hb dX8_around_214 (by decide) ?_
  refine r_callVi (ci := 8) (As := [.int (5), .int (nI (sR s0.1 (f))), .int (nI (o6.getD 0)), .int (0), .int (0)]) hx hb hml hown hts hK hA hs (22) (by omega) (md22 hN6) rfl rfl (c_X8_put l G (fl := o6.isNone) hN6 (tg := 5) (gl := sR s0.1 f) (a := o6.getD 0) (b := 0) (c1 := 0) (by have := getD_lt ((v6.1).vd) h8_6; omega) (fun h => ok_1 (by decide) (by have := sExt_len x6; omega) ((v6.1).vd _ (get_some h)))) (cwV 5 hts (tbV w_ml_RX8_171 w_im_yX8_put w_se_yX8_put w_ini_RX8 w_cd_yX8_put) rfl rfl rfl (by decide +kernel) ⟨Nat.le_of_ble_eq_true rfl, Nat.le_of_ble_eq_true rfl⟩) rfl hl.1 rfl (Nat.le_of_ble_eq_true rfl) dX8_around_215 ⟨Nat.le_refl _, Nat.le_refl _⟩ (fun r_35 ad_32 en_33 H locs hp_34 hs => ?_)
  obtain ⟨⟨hA7, hF7⟩, hr7, hN7⟩ := hp_34
  subst hA7
  rw [hQ7] at hr7 hN7
  have hN7 : MdW G n ad en_33 s7.1 s7.2 c us (ovB o7.isNone) dp cl := hN7
  rw [show r_35 = nI (o7.getD 0) from hr7]
  have fr_36 : ∀ k, k < 22 → en_33 k = en k := fun k hk => Eq.trans (hF7 k hk) (fr_31 k hk)
  refine r_callVi (ci := 8) (As := [.int (nI (o5.getD 0)), .int (nI (o7.getD 0))]) hx hb hml hown hts hK hA hs (22) (by omega) (md22 hN7) rfl rfl (c_X8_a l G (o1 := o5) (o2 := o7) hN7 (fun u hu => by rw [hi_g v1.1 hn1_ (((((((sExt.rf s1).tr hc2.2.2.2.2).tr hc3.2.2.2.2).tr hc4.2.2.2.2).tr hc5.2.2.2.2).tr hc6.2.2.2.2).tr hc7.2.2.2.2) (up_s v2.2 (up_n v3.2 (up_n v4.2 (up_s v5.2 (up_n v6.2 (up_n v7.2 (⟨u, hu⟩)))))))]; exact hgt) ((((v5.1).mono hc6.2.2.2.2).mono hc7.2.2.2.2).fn) ((v7.1).vd) (fun q => v7.2 (none_i (v6.2 (none_i (q)))))) (cwV 2 hts (tbV w_ml_RX8_184 w_im_yX8_a w_se_yX8_a w_ini_RX8 w_cd_yX8_a) rfl rfl rfl (by decide +kernel) ⟨Nat.le_of_ble_eq_true rfl, Nat.le_of_ble_eq_true rfl⟩) rfl hl.1 rfl (Nat.le_of_ble_eq_true rfl) dX8_around_218 ⟨Nat.le_refl _, Nat.le_refl _⟩ (fun r_40 ad_37 en_38 H locs hp_39 hs => ?_)
  obtain ⟨⟨hA8, hF8⟩, hr8, hN8⟩ := hp_39
  subst hA8
  rw [hQ8] at hr8 hN8
  have hN8 : MdW G n ad en_38 s8.1 s8.2 c us (ovB o8.isNone) dp cl := hN8
  rw [show r_40 = nI (o8.getD 0) from hr8]
  have fr_41 : ∀ k, k < 22 → en_38 k = en k := fun k hk => Eq.trans (hF8 k hk) (fr_36 k hk)
  refine r_iret (v := nI (o8.getD 0)) (mc := 0) (ms := 0) hx hb hr hlk hs (Nat.le_refl _) (Nat.le_refl _) dX8_around_221 hQ ?_
  unfold mAct
  rw [hE]
  exact ⟨⟨rfl, fr_41⟩, rfl, hN8⟩

set_option maxHeartbeats 600000 in
set_option maxRecDepth 100000 in
theorem c_X8_around_7 (l : Launch) (G : rG) {n : Nat} {ad : Nat → Nat} {en : Nat → va_E} {s0 : NSt} {c : Nat → Nat → Int32} {us : Int32} {dp : Int32} {cl : Int32}  (hM : MdW G n ad en s0.1 s0.2 c us 0 dp cl) {s uu hh goal : Nat} (hs3 : s ≤ 3000) {o : Option Nat} (hso : o.isNone = false) {f : Nat} (hf : 1 ≤ f ∧ f ≤ s0.1.length) {gt : Nat} (h2 : 2 ≤ sSort s0.1 f) (ho : oNd s0 o gt) (hgt : 1 ≤ gt) (h36 : c 36 s = nI 7) (h37 : c 37 s = nI f) (h38 : c 38 s = nI goal)  : CI l G yX8_around uX8_around (5) (138) (0) (0) [.ref (ad 22), .int (nI s), .int (nI (o.getD 0)), .int (nI uu), .int (nI hh)] (n) (n) ad en (mAct G n ad en c us dp cl (aFire f o) s0) := by
  intro sz
  refine rMet (Qc := qI G (n) (mAct G n ad en c us dp cl (aFire f o) s0)) (cc := cX8_around) (maxL := 13) (ret := (some .int)) (by decide) rfl (Nat.le_of_ble_eq_true rfl) ?_
  intro pP eE sS mM aA bB tT cC ls A Q hc hK hsz hA hs hl hQ
  obtain ⟨hx, hb, hr, hts, hown, hlk, hnm, hml⟩ := hc
  have hl : lv_has ls 13 [(0, .ref (ad 22)), (1, .int (nI s)), (2, .int (nI (o.getD 0))), (3, .int (nI uu)), (4, .int (nI hh))] := hl
  have fr0 : ∀ k, k < 22 → en k = en k := fun _ _ => rfl
  obtain ⟨hn48, -, -, -, hok, hnk⟩ := id hM
  have h6 := hok.1
  have h8 := hnk.1
  have x0 := sExt.rf s0
  have hn0_ : nsOK s0.1 s0.2 := hnk
  have hokk : ssOK s0.1 := hok
  have hG0 : sGood s0 := ⟨hok, hnk⟩
  have h8_0 := hn0_.1
  obtain ⟨hL1, hR1⟩ := parts_of hokk hf h2
  obtain ⟨o1, s1, hq1⟩ : ∃ oo tt, (aLamO (sR s0.1 f) o) s0 = (oo, tt) := ⟨_, _, rfl⟩
  have hc1 := aC_eq hq1 (aLamO_ext _ _ _)
  have x1 := x0.tr hc1.2.2.2.2
  have v1 := lamO_q hq1 (ho)
  have hG1 : sGood s1 := g_lam hG0 hq1 (by have := sExt_len x0; omega) (ho)
  have hn1_ : nsOK s1.1 s1.2 := hG1.2
  have h8_1 := hn1_.1
  have hQ1 := hq1
  obtain ⟨o2, s2, hq2⟩ : ∃ oo tt, (aGate o1.isNone (aNode (0, f, 0, 0, 0))) s1 = (oo, tt) := ⟨_, _, rfl⟩
  have hc2 := aC_eq hq2 (aGate_ext (aNode_ext _) _ _)
  have x2 := x1.tr hc2.2.2.2.2
  have v2 := gate_q hq2
  have hG2 : sGood s2 := g_gate hG1 hq2 (fun h => ok_giv (by have := sExt_len x1; omega))
  have hn2_ : nsOK s2.1 s2.2 := hG2.2
  have h8_2 := hn2_.1
  have hQ2 := hq2
  obtain ⟨o3, s3, hq3⟩ : ∃ oo tt, (aGate o2.isNone (aNode (0, sL s0.1 f, 0, 0, 0))) s2 = (oo, tt) := ⟨_, _, rfl⟩
  have hc3 := aC_eq hq3 (aGate_ext (aNode_ext _) _ _)
  have x3 := x2.tr hc3.2.2.2.2
  have v3 := gate_q hq3
  have hG3 : sGood s3 := g_gate hG2 hq3 (fun h => ok_giv (by have := sExt_len x2; omega))
  have hn3_ : nsOK s3.1 s3.2 := hG3.2
  have h8_3 := hn3_.1
  have hQ3 := hq3
  obtain ⟨o4, s4, hq4⟩ : ∃ oo tt, (aAppO o2 o3) s3 = (oo, tt) := ⟨_, _, rfl⟩
  have hc4 := aC_eq hq4 (aAppO_ext _ _ _)
  have x4 := x3.tr hc4.2.2.2.2
  have v4 := appO_q hq4 (((v2.1).mono hc3.2.2.2.2).fn)
  have hG4 : sGood s4 := g_app hG3 hq4 (fun _ _ => by rw [(sR_ext x3 hf.2).1]; exact hR1.1) (((v2.1).mono hc3.2.2.2.2).fn) ((v3.1).vd)
  have hn4_ : nsOK s4.1 s4.2 := hG4.2
  have h8_4 := hn4_.1
  have hQ4 := hq4
  obtain ⟨o5, s5, hq5⟩ : ∃ oo tt, (aAppO o1 o4) s4 = (oo, tt) := ⟨_, _, rfl⟩
  have hc5 := aC_eq hq5 (aAppO_ext _ _ _)
  have x5 := x4.tr hc5.2.2.2.2
  have v5 := appO_q hq5 ((((v1.1).mono hc2.2.2.2.2 hn1_).mono hc3.2.2.2.2 hn2_).mono hc4.2.2.2.2 hn3_)
  have hG5 : sGood s5 := g_app hG4 hq5 (fun _ _ => hgt) ((((v1.1).mono hc2.2.2.2.2 hn1_).mono hc3.2.2.2.2 hn2_).mono hc4.2.2.2.2 hn3_) ((v4.1).vd)
  have hn5_ : nsOK s5.1 s5.2 := hG5.2
  have h8_5 := hn5_.1
  have hQ5 := hq5
  have hE := aFire_eq hq1 hq2 hq3 hq4 hq5
  
  refine lv_aload_n hx hb dX8_around_0 rfl (lv_at hl 0 rfl) ?_
  refine r_get (ci := 8) (v := .ref (ad 37)) (C := RX8) (T := TX8) (N := 31) hx hb hts inlX8 hown hK hs (22) (by omega) (md22 hM) rfl 19 (by decide) (hts _ w_fl_RX8_54) rfl dX8_around_1 ?_
  refine lv_iload_n hx hb dX8_around_4 rfl (lv_at hl 1 rfl) ?_
  refine r_ialdN (t := s) hx hb hK hs (37) (by omega) (md37 hM) (rfl) (by omega) (by omega) dX8_around_5 ?_
  refine r_topi (y := nI f) (h37) ?_
  refine lv_istore (lv' := [(5, .int (nI f)), (0, .ref (ad 22)), (1, .int (nI s)), (2, .int (nI (o.getD 0))), (3, .int (nI uu)), (4, .int (nI hh))]) hx hb dX8_around_6 hl (by decide) rfl (fun ls hl => ?_)
  refine lv_aload_n hx hb dX8_around_8 rfl (lv_at hl 1 rfl) ?_
  refine r_get (ci := 8) (v := .ref (ad 38)) (C := RX8) (T := TX8) (N := 31) hx hb hts inlX8 hown hK hs (22) (by omega) (md22 hM) rfl 20 (by decide) (hts _ w_fl_RX8_57) rfl dX8_around_9 ?_
  refine lv_iload_n hx hb dX8_around_12 rfl (lv_at hl 2 rfl) ?_
  refine r_ialdN (t := s) hx hb hK hs (38) (by omega) (md38 hM) (rfl) (by omega) (by omega) dX8_around_13 ?_
  refine r_topi (y := nI goal) (h38) ?_
  refine lv_istore (lv' := [(6, .int (nI goal)), (5, .int (nI f)), (0, .ref (ad 22)), (1, .int (nI s)), (2, .int (nI (o.getD 0))), (3, .int (nI uu)), (4, .int (nI hh))]) hx hb dX8_around_14 hl (by decide) rfl (fun ls hl => ?_)
  refine lv_iload hx hb dX8_around_16 (lv_at hl 1 rfl) ?_
  refine lv_if_le (tgt := 31) hx hb dX8_around_18 (by decide) (fun c18 => absurd c18 (fun q => by have := nI_le0 (by omega) q; omega)) (fun _ => ?_)
  refine lv_aload_n hx hb dX8_around_21 rfl (lv_at hl 2 rfl) ?_
  refine r_get (ci := 8) (v := .ref (ad 24)) (C := RX8) (T := TX8) (N := 31) hx hb hts inlX8 hown hK hs (22) (by omega) (md22 hM) rfl 1 (by decide) (hts _ w_fl_RX8_13) rfl dX8_around_22 ?_
  refine lv_iload hx hb dX8_around_25 (lv_at hl 1 rfl) ?_
  refine r_ialdN (t := f) hx hb hK hs (24) (by omega) (md24 hM) (rfl) (by omega) (by omega) dX8_around_27 ?_
  refine r_topi (y := nI (sL s0.1 (f))) rfl ?_
  refine lv_goto (tgt := 32) hx hb dX8_around_28 (by decide) ?_
  refine lv_istore (lv' := [(7, .int (nI (sL s0.1 (f)))), (6, .int (nI goal)), (5, .int (nI f)), (0, .ref (ad 22)), (1, .int (nI s)), (2, .int (nI (o.getD 0))), (3, .int (nI uu)), (4, .int (nI hh))]) hx hb dX8_around_32 hl (by decide) rfl (fun ls hl => ?_)
  refine lv_iload hx hb dX8_around_34 (lv_at hl 2 rfl) ?_
  refine lv_if_le (tgt := 49) hx hb dX8_around_36 (by decide) (fun c36 => absurd c36 (fun q => by have := nI_le0 (by omega) q; omega)) (fun _ => ?_)
  refine lv_aload_n hx hb dX8_around_39 rfl (lv_at hl 3 rfl) ?_
  refine r_get (ci := 8) (v := .ref (ad 25)) (C := RX8) (T := TX8) (N := 31) hx hb hts inlX8 hown hK hs (22) (by omega) (md22 hM) rfl 2 (by decide) (hts _ w_fl_RX8_16) rfl dX8_around_40 ?_
  refine lv_iload hx hb dX8_around_43 (lv_at hl 2 rfl) ?_
  refine r_ialdN (t := f) hx hb hK hs (25) (by omega) (md25 hM) (rfl) (by omega) (by omega) dX8_around_45 ?_
  refine r_topi (y := nI (sR s0.1 (f))) rfl ?_
  refine lv_goto (tgt := 50) hx hb dX8_around_46 (by decide) ?_
  refine lv_istore (lv' := [(8, .int (nI (sR s0.1 (f)))), (7, .int (nI (sL s0.1 (f)))), (6, .int (nI goal)), (5, .int (nI f)), (0, .ref (ad 22)), (1, .int (nI s)), (2, .int (nI (o.getD 0))), (3, .int (nI uu)), (4, .int (nI hh))]) hx hb dX8_around_50 hl (by decide) rfl (fun ls hl => ?_)
  refine lv_aload_n hx hb dX8_around_52 rfl (lv_at hl 4 rfl) ?_
  refine r_get (ci := 8) (v := .ref (ad 36)) (C := RX8) (T := TX8) (N := 31) hx hb hts inlX8 hown hK hs (22) (by omega) (md22 hM) rfl 18 (by decide) (hts _ w_fl_RX8_51) rfl dX8_around_53 ?_
  refine lv_iload_n hx hb dX8_around_56 rfl (lv_at hl 5 rfl) ?_
  refine r_ialdN (t := s) hx hb hK hs (36) (by omega) (md36 hM) (rfl) (by omega) (by omega) dX8_around_57 ?_
  refine r_topi (y := nI 7) (h36) ?_
  refine lv_tableIn (off := 177) (tgt := 235) hx hb dX8_around_58 (by decide) (by decide) (by decide) (by decide) ?_
  refine lv_aload_n hx hb dX8_around_235 rfl (lv_at hl 4 rfl) ?_
  refine lv_iload hx hb dX8_around_236 (lv_at hl 0 rfl) ?_
  refine lv_iload_n hx hb dX8_around_238 rfl (lv_at hl 6 rfl) ?_
  have hO_1 : MdW G n ad en s0.1 s0.2 c us ((ovB o.isNone)) dp cl := by rw [show ovB o.isNone = 0 from by rw [hso]; rfl]; exact hM
  refine r_callVi (ci := 8) (As := [.int (nI (sR s0.1 (f))), .int (nI (o.getD 0))]) hx hb hml hown hts hK hA hs (22) (by omega) (md22 hM) rfl rfl (c_X8_l l G (o := o) hO_1 (a := sR s0.1 f) (by have := sExt_len x0; omega) (ho)) (cwV 2 hts (tbV w_ml_RX8_174 w_im_yX8_l w_se_yX8_l w_ini_RX8 w_cd_yX8_l) rfl rfl rfl (by decide +kernel) ⟨Nat.le_of_ble_eq_true rfl, Nat.le_of_ble_eq_true rfl⟩) rfl hl.1 rfl (Nat.le_of_ble_eq_true rfl) dX8_around_239 ⟨Nat.le_refl _, Nat.le_refl _⟩ (fun r_5 ad_2 en_3 H locs hp_4 hs => ?_)
  obtain ⟨⟨hA1, hF1⟩, hr1, hN1⟩ := hp_4
  subst hA1
  rw [hQ1] at hr1 hN1
  have hN1 : MdW G n ad en_3 s1.1 s1.2 c us (ovB o1.isNone) dp cl := hN1
  rw [show r_5 = nI (o1.getD 0) from hr1]
  have fr_6 : ∀ k, k < 22 → en_3 k = en k := fun k hk => Eq.trans (hF1 k hk) (fr0 k hk)
  refine lv_istore (lv' := [(11, .int (nI (o1.getD 0))), (8, .int (nI (sR s0.1 (f)))), (7, .int (nI (sL s0.1 (f)))), (6, .int (nI goal)), (5, .int (nI f)), (0, .ref (ad 22)), (1, .int (nI s)), (2, .int (nI (o.getD 0))), (3, .int (nI uu)), (4, .int (nI hh))]) hx hb dX8_around_242 hl (by decide) rfl (fun ls hl => ?_)
  refine lv_aload_n hx hb dX8_around_244 rfl (lv_at hl 5 rfl) ?_
  refine lv_iload hx hb dX8_around_245 (lv_at hl 4 rfl) ?_
  refine r_callVi (ci := 8) (As := [.int (nI f)]) hx hb hml hown hts hK hA hs (22) (by omega) (md22 hN1) rfl rfl (c_X8_v l G (fl := o1.isNone) hN1 (f := f) (by have := sExt_len x1; omega)) (cwV 1 hts (tbV w_ml_RX8_177 w_im_yX8_v w_se_yX8_v w_ini_RX8 w_cd_yX8_v) rfl rfl rfl (by decide +kernel) ⟨Nat.le_of_ble_eq_true rfl, Nat.le_of_ble_eq_true rfl⟩) rfl hl.1 rfl (Nat.le_of_ble_eq_true rfl) dX8_around_247 ⟨Nat.le_refl _, Nat.le_refl _⟩ (fun r_10 ad_7 en_8 H locs hp_9 hs => ?_)
  obtain ⟨⟨hA2, hF2⟩, hr2, hN2⟩ := hp_9
  subst hA2
  rw [hQ2] at hr2 hN2
  have hN2 : MdW G n ad en_8 s2.1 s2.2 c us (ovB o2.isNone) dp cl := hN2
  rw [show r_10 = nI (o2.getD 0) from hr2]
  have fr_11 : ∀ k, k < 22 → en_8 k = en k := fun k hk => Eq.trans (hF2 k hk) (fr_6 k hk)
  refine lv_istore (lv' := [(12, .int (nI (o2.getD 0))), (11, .int (nI (o1.getD 0))), (8, .int (nI (sR s0.1 (f)))), (7, .int (nI (sL s0.1 (f)))), (6, .int (nI goal)), (5, .int (nI f)), (0, .ref (ad 22)), (1, .int (nI s)), (2, .int (nI (o.getD 0))), (3, .int (nI uu)), (4, .int (nI hh))]) hx hb dX8_around_250 hl (by decide) rfl (fun ls hl => ?_)
  refine lv_aload_n hx hb dX8_around_252 rfl (lv_at hl 6 rfl) ?_
  refine lv_iload hx hb dX8_around_253 (lv_at hl 1 rfl) ?_
  refine lv_aload_n hx hb dX8_around_255 rfl (lv_at hl 6 rfl) ?_
  refine lv_iload hx hb dX8_around_256 (lv_at hl 0 rfl) ?_
  refine lv_aload_n hx hb dX8_around_258 rfl (lv_at hl 6 rfl) ?_
  refine lv_iload hx hb dX8_around_259 (lv_at hl 3 rfl) ?_
  refine r_callVi (ci := 8) (As := [.int (nI (sL s0.1 (f)))]) hx hb hml hown hts hK hA hs (22) (by omega) (md22 hN2) rfl rfl (c_X8_v l G (fl := o2.isNone) hN2 (f := sL s0.1 f) (by have := sExt_len x2; omega)) (cwV 1 hts (tbV w_ml_RX8_177 w_im_yX8_v w_se_yX8_v w_ini_RX8 w_cd_yX8_v) rfl rfl rfl (by decide +kernel) ⟨Nat.le_of_ble_eq_true rfl, Nat.le_of_ble_eq_true rfl⟩) rfl hl.1 rfl (Nat.le_of_ble_eq_true rfl) dX8_around_261 ⟨Nat.le_refl _, Nat.le_refl _⟩ (fun r_15 ad_12 en_13 H locs hp_14 hs => ?_)
  obtain ⟨⟨hA3, hF3⟩, hr3, hN3⟩ := hp_14
  subst hA3
  rw [hQ3] at hr3 hN3
  have hN3 : MdW G n ad en_13 s3.1 s3.2 c us (ovB o3.isNone) dp cl := hN3
  rw [show r_15 = nI (o3.getD 0) from hr3]
  have fr_16 : ∀ k, k < 22 → en_13 k = en k := fun k hk => Eq.trans (hF3 k hk) (fr_11 k hk)
  refine r_callVi (ci := 8) (As := [.int (nI (o2.getD 0)), .int (nI (o3.getD 0))]) hx hb hml hown hts hK hA hs (22) (by omega) (md22 hN3) rfl rfl (c_X8_a l G (o1 := o2) (o2 := o3) hN3 (fun _ _ => by rw [(sR_ext x3 hf.2).1]; exact hR1.1) (((v2.1).mono hc3.2.2.2.2).fn) ((v3.1).vd) (fun q => v3.2 (none_i (q)))) (cwV 2 hts (tbV w_ml_RX8_184 w_im_yX8_a w_se_yX8_a w_ini_RX8 w_cd_yX8_a) rfl rfl rfl (by decide +kernel) ⟨Nat.le_of_ble_eq_true rfl, Nat.le_of_ble_eq_true rfl⟩) rfl hl.1 rfl (Nat.le_of_ble_eq_true rfl) dX8_around_264 ⟨Nat.le_refl _, Nat.le_refl _⟩ (fun r_20 ad_17 en_18 H locs hp_19 hs => ?_)
  obtain ⟨⟨hA4, hF4⟩, hr4, hN4⟩ := hp_19
  subst hA4
  rw [hQ4] at hr4 hN4
  have hN4 : MdW G n ad en_18 s4.1 s4.2 c us (ovB o4.isNone) dp cl := hN4
  rw [show r_20 = nI (o4.getD 0) from hr4]
  have fr_21 : ∀ k, k < 22 → en_18 k = en k := fun k hk => Eq.trans (hF4 k hk) (fr_16 k hk)
  refine r_callVi (ci := 8) (As := [.int (nI (o1.getD 0)), .int (nI (o4.getD 0))]) hx hb hml hown hts hK hA hs (22) (by omega) (md22 hN4) rfl rfl (c_X8_a l G (o1 := o1) (o2 := o4) hN4 (fun _ _ => hgt) ((((v1.1).mono hc2.2.2.2.2 hn1_).mono hc3.2.2.2.2 hn2_).mono hc4.2.2.2.2 hn3_) ((v4.1).vd) (fun q => v4.2 (v3.2 (none_i (v2.2 (none_i (q))))))) (cwV 2 hts (tbV w_ml_RX8_184 w_im_yX8_a w_se_yX8_a w_ini_RX8 w_cd_yX8_a) rfl rfl rfl (by decide +kernel) ⟨Nat.le_of_ble_eq_true rfl, Nat.le_of_ble_eq_true rfl⟩) rfl hl.1 rfl (Nat.le_of_ble_eq_true rfl) dX8_around_267 ⟨Nat.le_refl _, Nat.le_refl _⟩ (fun r_25 ad_22 en_23 H locs hp_24 hs => ?_)
  obtain ⟨⟨hA5, hF5⟩, hr5, hN5⟩ := hp_24
  subst hA5
  rw [hQ5] at hr5 hN5
  have hN5 : MdW G n ad en_23 s5.1 s5.2 c us (ovB o5.isNone) dp cl := hN5
  rw [show r_25 = nI (o5.getD 0) from hr5]
  have fr_26 : ∀ k, k < 22 → en_23 k = en k := fun k hk => Eq.trans (hF5 k hk) (fr_21 k hk)
  refine r_iret (v := nI (o5.getD 0)) (mc := 0) (ms := 0) hx hb hr hlk hs (Nat.le_refl _) (Nat.le_refl _) dX8_around_270 hQ ?_
  unfold mAct
  rw [hE]
  exact ⟨⟨rfl, fr_26⟩, rfl, hN5⟩

set_option maxHeartbeats 600000 in
set_option maxRecDepth 100000 in
theorem c_X8_around_9 (l : Launch) (G : rG) {n : Nat} {ad : Nat → Nat} {en : Nat → va_E} {s0 : NSt} {c : Nat → Nat → Int32} {us : Int32} {dp : Int32} {cl : Int32}  (hM : MdW G n ad en s0.1 s0.2 c us 0 dp cl) {s uu hh goal : Nat} (hs3 : s ≤ 3000) {o : Option Nat} (hso : o.isNone = false) {f : Nat} (hf : 1 ≤ f ∧ f ≤ s0.1.length) {gt : Nat} (h2 : 2 ≤ sSort s0.1 f) (h3 : 2 ≤ sSort s0.1 (sL s0.1 f)) (ho : oNd s0 o gt) (hgt : 1 ≤ gt) (hx1 : ∃ gi g, hasRow s0.1 gi (4, sR s0.1 (sL s0.1 f), sR s0.1 f, 0, 0) ∧ hasRow s0.1 g (4, sL s0.1 (sL s0.1 f), gi, 0, 0)) (h36 : c 36 s = nI 9) (h37 : c 37 s = nI f) (h38 : c 38 s = nI goal)  : CI l G yX8_around uX8_around (5) (138) (0) (0) [.ref (ad 22), .int (nI s), .int (nI (o.getD 0)), .int (nI uu), .int (nI hh)] (n) (n) ad en (mAct G n ad en c us dp cl (aUncurryK f o) s0) := by
  intro sz
  refine rMet (Qc := qI G (n) (mAct G n ad en c us dp cl (aUncurryK f o) s0)) (cc := cX8_around) (maxL := 13) (ret := (some .int)) (by decide) rfl (Nat.le_of_ble_eq_true rfl) ?_
  intro pP eE sS mM aA bB tT cC ls A Q hc hK hsz hA hs hl hQ
  obtain ⟨hx, hb, hr, hts, hown, hlk, hnm, hml⟩ := hc
  have hl : lv_has ls 13 [(0, .ref (ad 22)), (1, .int (nI s)), (2, .int (nI (o.getD 0))), (3, .int (nI uu)), (4, .int (nI hh))] := hl
  have fr0 : ∀ k, k < 22 → en k = en k := fun _ _ => rfl
  obtain ⟨hn48, -, -, -, hok, hnk⟩ := id hM
  have h6 := hok.1
  have h8 := hnk.1
  obtain ⟨gi, g, q1, q2⟩ := hx1
  have e1 := kFind_of hok q1
  have e2 := kFind_of hok q2
  refine lv_aload_n hx hb dX8_around_0 rfl (lv_at hl 0 rfl) ?_
  refine r_get (ci := 8) (v := .ref (ad 37)) (C := RX8) (T := TX8) (N := 31) hx hb hts inlX8 hown hK hs (22) (by omega) (md22 hM) rfl 19 (by decide) (hts _ w_fl_RX8_54) rfl dX8_around_1 ?_
  refine lv_iload_n hx hb dX8_around_4 rfl (lv_at hl 1 rfl) ?_
  refine r_ialdN (t := s) hx hb hK hs (37) (by omega) (md37 hM) (rfl) (by omega) (by omega) dX8_around_5 ?_
  refine r_topi (y := nI f) (h37) ?_
  refine lv_istore (lv' := [(5, .int (nI f)), (0, .ref (ad 22)), (1, .int (nI s)), (2, .int (nI (o.getD 0))), (3, .int (nI uu)), (4, .int (nI hh))]) hx hb dX8_around_6 hl (by decide) rfl (fun ls hl => ?_)
  refine lv_aload_n hx hb dX8_around_8 rfl (lv_at hl 1 rfl) ?_
  refine r_get (ci := 8) (v := .ref (ad 38)) (C := RX8) (T := TX8) (N := 31) hx hb hts inlX8 hown hK hs (22) (by omega) (md22 hM) rfl 20 (by decide) (hts _ w_fl_RX8_57) rfl dX8_around_9 ?_
  refine lv_iload_n hx hb dX8_around_12 rfl (lv_at hl 2 rfl) ?_
  refine r_ialdN (t := s) hx hb hK hs (38) (by omega) (md38 hM) (rfl) (by omega) (by omega) dX8_around_13 ?_
  refine r_topi (y := nI goal) (h38) ?_
  refine lv_istore (lv' := [(6, .int (nI goal)), (5, .int (nI f)), (0, .ref (ad 22)), (1, .int (nI s)), (2, .int (nI (o.getD 0))), (3, .int (nI uu)), (4, .int (nI hh))]) hx hb dX8_around_14 hl (by decide) rfl (fun ls hl => ?_)
  refine lv_iload hx hb dX8_around_16 (lv_at hl 1 rfl) ?_
  refine lv_if_le (tgt := 31) hx hb dX8_around_18 (by decide) (fun c18 => absurd c18 (fun q => by have := nI_le0 (by omega) q; omega)) (fun _ => ?_)
  refine lv_aload_n hx hb dX8_around_21 rfl (lv_at hl 2 rfl) ?_
  refine r_get (ci := 8) (v := .ref (ad 24)) (C := RX8) (T := TX8) (N := 31) hx hb hts inlX8 hown hK hs (22) (by omega) (md22 hM) rfl 1 (by decide) (hts _ w_fl_RX8_13) rfl dX8_around_22 ?_
  refine lv_iload hx hb dX8_around_25 (lv_at hl 1 rfl) ?_
  refine r_ialdN (t := f) hx hb hK hs (24) (by omega) (md24 hM) (rfl) (by omega) (by omega) dX8_around_27 ?_
  refine r_topi (y := nI (sL s0.1 (f))) rfl ?_
  refine lv_goto (tgt := 32) hx hb dX8_around_28 (by decide) ?_
  refine lv_istore (lv' := [(7, .int (nI (sL s0.1 (f)))), (6, .int (nI goal)), (5, .int (nI f)), (0, .ref (ad 22)), (1, .int (nI s)), (2, .int (nI (o.getD 0))), (3, .int (nI uu)), (4, .int (nI hh))]) hx hb dX8_around_32 hl (by decide) rfl (fun ls hl => ?_)
  refine lv_iload hx hb dX8_around_34 (lv_at hl 2 rfl) ?_
  refine lv_if_le (tgt := 49) hx hb dX8_around_36 (by decide) (fun c36 => absurd c36 (fun q => by have := nI_le0 (by omega) q; omega)) (fun _ => ?_)
  refine lv_aload_n hx hb dX8_around_39 rfl (lv_at hl 3 rfl) ?_
  refine r_get (ci := 8) (v := .ref (ad 25)) (C := RX8) (T := TX8) (N := 31) hx hb hts inlX8 hown hK hs (22) (by omega) (md22 hM) rfl 2 (by decide) (hts _ w_fl_RX8_16) rfl dX8_around_40 ?_
  refine lv_iload hx hb dX8_around_43 (lv_at hl 2 rfl) ?_
  refine r_ialdN (t := f) hx hb hK hs (25) (by omega) (md25 hM) (rfl) (by omega) (by omega) dX8_around_45 ?_
  refine r_topi (y := nI (sR s0.1 (f))) rfl ?_
  refine lv_goto (tgt := 50) hx hb dX8_around_46 (by decide) ?_
  refine lv_istore (lv' := [(8, .int (nI (sR s0.1 (f)))), (7, .int (nI (sL s0.1 (f)))), (6, .int (nI goal)), (5, .int (nI f)), (0, .ref (ad 22)), (1, .int (nI s)), (2, .int (nI (o.getD 0))), (3, .int (nI uu)), (4, .int (nI hh))]) hx hb dX8_around_50 hl (by decide) rfl (fun ls hl => ?_)
  refine lv_aload_n hx hb dX8_around_52 rfl (lv_at hl 4 rfl) ?_
  refine r_get (ci := 8) (v := .ref (ad 36)) (C := RX8) (T := TX8) (N := 31) hx hb hts inlX8 hown hK hs (22) (by omega) (md22 hM) rfl 18 (by decide) (hts _ w_fl_RX8_51) rfl dX8_around_53 ?_
  refine lv_iload_n hx hb dX8_around_56 rfl (lv_at hl 5 rfl) ?_
  refine r_ialdN (t := s) hx hb hK hs (36) (by omega) (md36 hM) (rfl) (by omega) (by omega) dX8_around_57 ?_
  refine r_topi (y := nI 9) (h36) ?_
  refine lv_tableIn (off := 215) (tgt := 273) hx hb dX8_around_58 (by decide) (by decide) (by decide) (by decide) ?_
  refine lv_aload_n hx hb dX8_around_273 rfl (lv_at hl 4 rfl) ?_
  refine lv_iload hx hb dX8_around_274 (lv_at hl 3 rfl) ?_
  refine lv_iload_n hx hb dX8_around_276 rfl (lv_at hl 6 rfl) ?_
  refine r_callVi (ci := 8) (As := [.int (nI f), .int (nI (o.getD 0))]) hx hb hml hown hts hK hA hs (22) (by omega) (md22 hM) rfl rfl (c_X8_curried l G hM hso (f := f) (g := kFind s0.1 (4, sL s0.1 (sL s0.1 f), kFind s0.1 (4, sR s0.1 (sL s0.1 f), sR s0.1 f, 0, 0), 0, 0)) (gi := gi) hf h2 h3 ho hgt (by rw [e1, e2]; exact ⟨q2.1, q2.2.1⟩) ⟨e1, q1.1, q1.2.1⟩ (by rw [e1])) (cwV 2 hts (tbV w_ml_RX8_187 w_im_yX8_curried w_se_yX8_curried w_ini_RX8 w_cd_yX8_curried) rfl rfl rfl (by decide +kernel) ⟨Nat.le_of_ble_eq_true rfl, Nat.le_of_ble_eq_true rfl⟩) rfl hl.1 rfl (Nat.le_of_ble_eq_true rfl) dX8_around_277 ⟨Nat.le_refl _, Nat.le_refl _⟩ (fun r_4 ad_1 en_2 H locs hp_3 hs => ?_)
  have hfin := hp_3
  refine r_iret (v := r_4) (mc := 0) (ms := 0) hx hb hr hlk hs (Nat.le_refl _) (Nat.le_refl _) dX8_around_280 hQ ?_
  exact hfin

set_option maxHeartbeats 600000 in
set_option maxRecDepth 100000 in
theorem c_X8_around_10 (l : Launch) (G : rG) {n : Nat} {ad : Nat → Nat} {en : Nat → va_E} {s0 : NSt} {c : Nat → Nat → Int32} {us : Int32} {dp : Int32} {cl : Int32}  (hM : MdW G n ad en s0.1 s0.2 c us 0 dp cl) {s uu hh goal : Nat} (hs3 : s ≤ 3000) {o : Option Nat} (hso : o.isNone = false) {f : Nat} (hf : 1 ≤ f ∧ f ≤ s0.1.length) {gt : Nat} (h2 : 2 ≤ sSort s0.1 f) (h3 : 2 ≤ sSort s0.1 (sL s0.1 f)) (ho : oNd s0 o gt) (hgt : 1 ≤ gt) (hx1 : ∃ g, hasRow s0.1 g (4, sL s0.1 (sL s0.1 f), sR s0.1 f, 0, 0)) (hx2 : ∃ h, hasRow s0.1 h (4, sR s0.1 (sL s0.1 f), sR s0.1 f, 0, 0)) (h36 : c 36 s = nI 10) (h37 : c 37 s = nI f) (h38 : c 38 s = nI goal)  : CI l G yX8_around uX8_around (5) (138) (0) (0) [.ref (ad 22), .int (nI s), .int (nI (o.getD 0)), .int (nI uu), .int (nI hh)] (n) (n) ad en (mAct G n ad en c us dp cl (aRejoinK f o) s0) := by
  intro sz
  refine rMet (Qc := qI G (n) (mAct G n ad en c us dp cl (aRejoinK f o) s0)) (cc := cX8_around) (maxL := 13) (ret := (some .int)) (by decide) rfl (Nat.le_of_ble_eq_true rfl) ?_
  intro pP eE sS mM aA bB tT cC ls A Q hc hK hsz hA hs hl hQ
  obtain ⟨hx, hb, hr, hts, hown, hlk, hnm, hml⟩ := hc
  have hl : lv_has ls 13 [(0, .ref (ad 22)), (1, .int (nI s)), (2, .int (nI (o.getD 0))), (3, .int (nI uu)), (4, .int (nI hh))] := hl
  have fr0 : ∀ k, k < 22 → en k = en k := fun _ _ => rfl
  obtain ⟨hn48, -, -, -, hok, hnk⟩ := id hM
  have h6 := hok.1
  have h8 := hnk.1
  obtain ⟨g, q1⟩ := hx1
  obtain ⟨h, q2⟩ := hx2
  have e1 := kFind_of hok q1
  have e2 := kFind_of hok q2
  refine lv_aload_n hx hb dX8_around_0 rfl (lv_at hl 0 rfl) ?_
  refine r_get (ci := 8) (v := .ref (ad 37)) (C := RX8) (T := TX8) (N := 31) hx hb hts inlX8 hown hK hs (22) (by omega) (md22 hM) rfl 19 (by decide) (hts _ w_fl_RX8_54) rfl dX8_around_1 ?_
  refine lv_iload_n hx hb dX8_around_4 rfl (lv_at hl 1 rfl) ?_
  refine r_ialdN (t := s) hx hb hK hs (37) (by omega) (md37 hM) (rfl) (by omega) (by omega) dX8_around_5 ?_
  refine r_topi (y := nI f) (h37) ?_
  refine lv_istore (lv' := [(5, .int (nI f)), (0, .ref (ad 22)), (1, .int (nI s)), (2, .int (nI (o.getD 0))), (3, .int (nI uu)), (4, .int (nI hh))]) hx hb dX8_around_6 hl (by decide) rfl (fun ls hl => ?_)
  refine lv_aload_n hx hb dX8_around_8 rfl (lv_at hl 1 rfl) ?_
  refine r_get (ci := 8) (v := .ref (ad 38)) (C := RX8) (T := TX8) (N := 31) hx hb hts inlX8 hown hK hs (22) (by omega) (md22 hM) rfl 20 (by decide) (hts _ w_fl_RX8_57) rfl dX8_around_9 ?_
  refine lv_iload_n hx hb dX8_around_12 rfl (lv_at hl 2 rfl) ?_
  refine r_ialdN (t := s) hx hb hK hs (38) (by omega) (md38 hM) (rfl) (by omega) (by omega) dX8_around_13 ?_
  refine r_topi (y := nI goal) (h38) ?_
  refine lv_istore (lv' := [(6, .int (nI goal)), (5, .int (nI f)), (0, .ref (ad 22)), (1, .int (nI s)), (2, .int (nI (o.getD 0))), (3, .int (nI uu)), (4, .int (nI hh))]) hx hb dX8_around_14 hl (by decide) rfl (fun ls hl => ?_)
  refine lv_iload hx hb dX8_around_16 (lv_at hl 1 rfl) ?_
  refine lv_if_le (tgt := 31) hx hb dX8_around_18 (by decide) (fun c18 => absurd c18 (fun q => by have := nI_le0 (by omega) q; omega)) (fun _ => ?_)
  refine lv_aload_n hx hb dX8_around_21 rfl (lv_at hl 2 rfl) ?_
  refine r_get (ci := 8) (v := .ref (ad 24)) (C := RX8) (T := TX8) (N := 31) hx hb hts inlX8 hown hK hs (22) (by omega) (md22 hM) rfl 1 (by decide) (hts _ w_fl_RX8_13) rfl dX8_around_22 ?_
  refine lv_iload hx hb dX8_around_25 (lv_at hl 1 rfl) ?_
  refine r_ialdN (t := f) hx hb hK hs (24) (by omega) (md24 hM) (rfl) (by omega) (by omega) dX8_around_27 ?_
  refine r_topi (y := nI (sL s0.1 (f))) rfl ?_
  refine lv_goto (tgt := 32) hx hb dX8_around_28 (by decide) ?_
  refine lv_istore (lv' := [(7, .int (nI (sL s0.1 (f)))), (6, .int (nI goal)), (5, .int (nI f)), (0, .ref (ad 22)), (1, .int (nI s)), (2, .int (nI (o.getD 0))), (3, .int (nI uu)), (4, .int (nI hh))]) hx hb dX8_around_32 hl (by decide) rfl (fun ls hl => ?_)
  refine lv_iload hx hb dX8_around_34 (lv_at hl 2 rfl) ?_
  refine lv_if_le (tgt := 49) hx hb dX8_around_36 (by decide) (fun c36 => absurd c36 (fun q => by have := nI_le0 (by omega) q; omega)) (fun _ => ?_)
  refine lv_aload_n hx hb dX8_around_39 rfl (lv_at hl 3 rfl) ?_
  refine r_get (ci := 8) (v := .ref (ad 25)) (C := RX8) (T := TX8) (N := 31) hx hb hts inlX8 hown hK hs (22) (by omega) (md22 hM) rfl 2 (by decide) (hts _ w_fl_RX8_16) rfl dX8_around_40 ?_
  refine lv_iload hx hb dX8_around_43 (lv_at hl 2 rfl) ?_
  refine r_ialdN (t := f) hx hb hK hs (25) (by omega) (md25 hM) (rfl) (by omega) (by omega) dX8_around_45 ?_
  refine r_topi (y := nI (sR s0.1 (f))) rfl ?_
  refine lv_goto (tgt := 50) hx hb dX8_around_46 (by decide) ?_
  refine lv_istore (lv' := [(8, .int (nI (sR s0.1 (f)))), (7, .int (nI (sL s0.1 (f)))), (6, .int (nI goal)), (5, .int (nI f)), (0, .ref (ad 22)), (1, .int (nI s)), (2, .int (nI (o.getD 0))), (3, .int (nI uu)), (4, .int (nI hh))]) hx hb dX8_around_50 hl (by decide) rfl (fun ls hl => ?_)
  refine lv_aload_n hx hb dX8_around_52 rfl (lv_at hl 4 rfl) ?_
  refine r_get (ci := 8) (v := .ref (ad 36)) (C := RX8) (T := TX8) (N := 31) hx hb hts inlX8 hown hK hs (22) (by omega) (md22 hM) rfl 18 (by decide) (hts _ w_fl_RX8_51) rfl dX8_around_53 ?_
  refine lv_iload_n hx hb dX8_around_56 rfl (lv_at hl 5 rfl) ?_
  refine r_ialdN (t := s) hx hb hK hs (36) (by omega) (md36 hM) (rfl) (by omega) (by omega) dX8_around_57 ?_
  refine r_topi (y := nI 10) (h36) ?_
  refine lv_tableIn (off := 223) (tgt := 281) hx hb dX8_around_58 (by decide) (by decide) (by decide) (by decide) ?_
  refine lv_aload_n hx hb dX8_around_281 rfl (lv_at hl 4 rfl) ?_
  refine lv_iload hx hb dX8_around_282 (lv_at hl 3 rfl) ?_
  refine lv_iload_n hx hb dX8_around_284 rfl (lv_at hl 6 rfl) ?_
  refine r_callVi (ci := 8) (As := [.int (nI f), .int (nI (o.getD 0))]) hx hb hml hown hts hK hA hs (22) (by omega) (md22 hM) rfl rfl (c_X8_shared l G hM hso (f := f) (g := kFind s0.1 (4, sL s0.1 (sL s0.1 f), sR s0.1 f, 0, 0)) (h := kFind s0.1 (4, sR s0.1 (sL s0.1 f), sR s0.1 f, 0, 0)) hf h2 h3 ho hgt (by rw [e1]; exact ⟨q1.1, q1.2.1⟩) (by rw [e2]; exact ⟨q2.1, q2.2.1⟩) rfl rfl) (cwV 2 hts (tbV w_ml_RX8_190 w_im_yX8_shared w_se_yX8_shared w_ini_RX8 w_cd_yX8_shared) rfl rfl rfl (by decide +kernel) ⟨Nat.le_of_ble_eq_true rfl, Nat.le_of_ble_eq_true rfl⟩) rfl hl.1 rfl (Nat.le_of_ble_eq_true rfl) dX8_around_285 ⟨Nat.le_refl _, Nat.le_refl _⟩ (fun r_4 ad_1 en_2 H locs hp_3 hs => ?_)
  have hfin := hp_3
  refine r_iret (v := r_4) (mc := 0) (ms := 0) hx hb hr hlk hs (Nat.le_refl _) (Nat.le_refl _) dX8_around_288 hQ ?_
  exact hfin

set_option maxHeartbeats 600000 in
set_option maxRecDepth 100000 in
theorem c_X8_around_13 (l : Launch) (G : rG) {n : Nat} {ad : Nat → Nat} {en : Nat → va_E} {s0 : NSt} {c : Nat → Nat → Int32} {us : Int32} {dp : Int32} {cl : Int32}  (hM : MdW G n ad en s0.1 s0.2 c us 0 dp cl) {s uu hh goal : Nat} (hs3 : s ≤ 3000) {o : Option Nat} (hso : o.isNone = false) {f : Nat} (hf : 1 ≤ f ∧ f ≤ s0.1.length) {gt : Nat} (h2 : 2 ≤ sSort s0.1 f) (h3 : 2 ≤ sSort s0.1 (sL s0.1 f)) (ho : oNd s0 o gt) (hgt : 1 ≤ gt) {gE : Nat} (hoE : oFn s0 (some uu) gE) (hgE : 1 ≤ gE) (hoG : oNd s0 (some hh) f) (hGr : kAt s0.2 hh = (0, f, 0, 0, 0)) (hx1 : ∃ g, hasRow s0.1 g (4, sR s0.1 (sL s0.1 f), sR s0.1 f, 0, 0)) (h36 : c 36 s = nI 11) (h37 : c 37 s = nI f) (h38 : c 38 s = nI goal)  : CI l G yX8_around uX8_around (5) (138) (0) (0) [.ref (ad 22), .int (nI s), .int (nI (o.getD 0)), .int (nI uu), .int (nI hh)] (n) (n) ad en (mAct G n ad en c us dp cl (aNestK f (some uu) (some hh) o) s0) := by
  intro sz
  refine rMet (Qc := qI G (n) (mAct G n ad en c us dp cl (aNestK f (some uu) (some hh) o) s0)) (cc := cX8_around) (maxL := 13) (ret := (some .int)) (by decide) rfl (Nat.le_of_ble_eq_true rfl) ?_
  intro pP eE sS mM aA bB tT cC ls A Q hc hK hsz hA hs hl hQ
  obtain ⟨hx, hb, hr, hts, hown, hlk, hnm, hml⟩ := hc
  have hl : lv_has ls 13 [(0, .ref (ad 22)), (1, .int (nI s)), (2, .int (nI (o.getD 0))), (3, .int (nI uu)), (4, .int (nI hh))] := hl
  have fr0 : ∀ k, k < 22 → en k = en k := fun _ _ => rfl
  obtain ⟨hn48, -, -, -, hok, hnk⟩ := id hM
  have h6 := hok.1
  have h8 := hnk.1
  obtain ⟨g, q1⟩ := hx1
  have e1 := kFind_of hok q1
  refine lv_aload_n hx hb dX8_around_0 rfl (lv_at hl 0 rfl) ?_
  refine r_get (ci := 8) (v := .ref (ad 37)) (C := RX8) (T := TX8) (N := 31) hx hb hts inlX8 hown hK hs (22) (by omega) (md22 hM) rfl 19 (by decide) (hts _ w_fl_RX8_54) rfl dX8_around_1 ?_
  refine lv_iload_n hx hb dX8_around_4 rfl (lv_at hl 1 rfl) ?_
  refine r_ialdN (t := s) hx hb hK hs (37) (by omega) (md37 hM) (rfl) (by omega) (by omega) dX8_around_5 ?_
  refine r_topi (y := nI f) (h37) ?_
  refine lv_istore (lv' := [(5, .int (nI f)), (0, .ref (ad 22)), (1, .int (nI s)), (2, .int (nI (o.getD 0))), (3, .int (nI uu)), (4, .int (nI hh))]) hx hb dX8_around_6 hl (by decide) rfl (fun ls hl => ?_)
  refine lv_aload_n hx hb dX8_around_8 rfl (lv_at hl 1 rfl) ?_
  refine r_get (ci := 8) (v := .ref (ad 38)) (C := RX8) (T := TX8) (N := 31) hx hb hts inlX8 hown hK hs (22) (by omega) (md22 hM) rfl 20 (by decide) (hts _ w_fl_RX8_57) rfl dX8_around_9 ?_
  refine lv_iload_n hx hb dX8_around_12 rfl (lv_at hl 2 rfl) ?_
  refine r_ialdN (t := s) hx hb hK hs (38) (by omega) (md38 hM) (rfl) (by omega) (by omega) dX8_around_13 ?_
  refine r_topi (y := nI goal) (h38) ?_
  refine lv_istore (lv' := [(6, .int (nI goal)), (5, .int (nI f)), (0, .ref (ad 22)), (1, .int (nI s)), (2, .int (nI (o.getD 0))), (3, .int (nI uu)), (4, .int (nI hh))]) hx hb dX8_around_14 hl (by decide) rfl (fun ls hl => ?_)
  refine lv_iload hx hb dX8_around_16 (lv_at hl 1 rfl) ?_
  refine lv_if_le (tgt := 31) hx hb dX8_around_18 (by decide) (fun c18 => absurd c18 (fun q => by have := nI_le0 (by omega) q; omega)) (fun _ => ?_)
  refine lv_aload_n hx hb dX8_around_21 rfl (lv_at hl 2 rfl) ?_
  refine r_get (ci := 8) (v := .ref (ad 24)) (C := RX8) (T := TX8) (N := 31) hx hb hts inlX8 hown hK hs (22) (by omega) (md22 hM) rfl 1 (by decide) (hts _ w_fl_RX8_13) rfl dX8_around_22 ?_
  refine lv_iload hx hb dX8_around_25 (lv_at hl 1 rfl) ?_
  refine r_ialdN (t := f) hx hb hK hs (24) (by omega) (md24 hM) (rfl) (by omega) (by omega) dX8_around_27 ?_
  refine r_topi (y := nI (sL s0.1 (f))) rfl ?_
  refine lv_goto (tgt := 32) hx hb dX8_around_28 (by decide) ?_
  refine lv_istore (lv' := [(7, .int (nI (sL s0.1 (f)))), (6, .int (nI goal)), (5, .int (nI f)), (0, .ref (ad 22)), (1, .int (nI s)), (2, .int (nI (o.getD 0))), (3, .int (nI uu)), (4, .int (nI hh))]) hx hb dX8_around_32 hl (by decide) rfl (fun ls hl => ?_)
  refine lv_iload hx hb dX8_around_34 (lv_at hl 2 rfl) ?_
  refine lv_if_le (tgt := 49) hx hb dX8_around_36 (by decide) (fun c36 => absurd c36 (fun q => by have := nI_le0 (by omega) q; omega)) (fun _ => ?_)
  refine lv_aload_n hx hb dX8_around_39 rfl (lv_at hl 3 rfl) ?_
  refine r_get (ci := 8) (v := .ref (ad 25)) (C := RX8) (T := TX8) (N := 31) hx hb hts inlX8 hown hK hs (22) (by omega) (md22 hM) rfl 2 (by decide) (hts _ w_fl_RX8_16) rfl dX8_around_40 ?_
  refine lv_iload hx hb dX8_around_43 (lv_at hl 2 rfl) ?_
  refine r_ialdN (t := f) hx hb hK hs (25) (by omega) (md25 hM) (rfl) (by omega) (by omega) dX8_around_45 ?_
  refine r_topi (y := nI (sR s0.1 (f))) rfl ?_
  refine lv_goto (tgt := 50) hx hb dX8_around_46 (by decide) ?_
  refine lv_istore (lv' := [(8, .int (nI (sR s0.1 (f)))), (7, .int (nI (sL s0.1 (f)))), (6, .int (nI goal)), (5, .int (nI f)), (0, .ref (ad 22)), (1, .int (nI s)), (2, .int (nI (o.getD 0))), (3, .int (nI uu)), (4, .int (nI hh))]) hx hb dX8_around_50 hl (by decide) rfl (fun ls hl => ?_)
  refine lv_aload_n hx hb dX8_around_52 rfl (lv_at hl 4 rfl) ?_
  refine r_get (ci := 8) (v := .ref (ad 36)) (C := RX8) (T := TX8) (N := 31) hx hb hts inlX8 hown hK hs (22) (by omega) (md22 hM) rfl 18 (by decide) (hts _ w_fl_RX8_51) rfl dX8_around_53 ?_
  refine lv_iload_n hx hb dX8_around_56 rfl (lv_at hl 5 rfl) ?_
  refine r_ialdN (t := s) hx hb hK hs (36) (by omega) (md36 hM) (rfl) (by omega) (by omega) dX8_around_57 ?_
  refine r_topi (y := nI 11) (h36) ?_
  refine lv_tableOut (tgt := 289) hx hb dX8_around_58 (by decide) (by decide) ?_
  refine lv_iload hx hb dX8_around_289 (lv_at hl 3 rfl) ?_
  refine lv_if_ge (tgt := 319) hx hb dX8_around_291 (by decide) (fun _ => ?_) (fun c291 => absurd (nI_pos' (by omega)) c291)
  refine lv_aload_n hx hb dX8_around_319 rfl (lv_at hl 4 rfl) ?_
  refine lv_iload hx hb dX8_around_320 (lv_at hl 3 rfl) ?_
  refine lv_iload_n hx hb dX8_around_322 rfl (lv_at hl 6 rfl) ?_
  refine lv_iload_n hx hb dX8_around_323 rfl (lv_at hl 7 rfl) ?_
  refine lv_iload hx hb dX8_around_324 (lv_at hl 8 rfl) ?_
  refine r_callVi (ci := 8) (As := [.int (nI f), .int (nI (o.getD 0)), .int (nI uu), .int (nI hh)]) hx hb hml hown hts hK hA hs (22) (by omega) (md22 hM) rfl rfl (c_X8_nested l G hM hso (f := f) (g := kFind s0.1 (4, sR s0.1 (sL s0.1 f), sR s0.1 f, 0, 0)) (oE := some uu) (oG := some hh) hf h2 h3 ho hgt hoE hgE hoG (fun x hx => by injection hx with hx; subst hx; exact hGr) (fun q => by cases q) (fun q => by cases q) (by rw [e1]; exact ⟨q1.1, q1.2.1⟩) rfl) (cwV 4 hts (tbV w_ml_RX8_193 w_im_yX8_nested w_se_yX8_nested w_ini_RX8 w_cd_yX8_nested) rfl rfl rfl (by decide +kernel) ⟨Nat.le_of_ble_eq_true rfl, Nat.le_of_ble_eq_true rfl⟩) rfl hl.1 rfl (Nat.le_of_ble_eq_true rfl) dX8_around_326 ⟨Nat.le_refl _, Nat.le_refl _⟩ (fun r_4 ad_1 en_2 H locs hp_3 hs => ?_)
  have hfin := hp_3
  refine r_iret (v := r_4) (mc := 0) (ms := 0) hx hb hr hlk hs (Nat.le_refl _) (Nat.le_refl _) dX8_around_329 hQ ?_
  exact hfin

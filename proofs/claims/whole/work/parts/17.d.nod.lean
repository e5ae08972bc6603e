set_option maxHeartbeats 600000 in
set_option maxRecDepth 100000 in
theorem c_X8_shared (l : Launch) (G : rG) {n : Nat} {ad : Nat → Nat} {en : Nat → va_E} {s0 : NSt} {c : Nat → Nat → Int32} {us : Int32} {dp : Int32} {cl : Int32}  (hM : MdW G n ad en s0.1 s0.2 c us 0 dp cl) {o : Option Nat} (hso : o.isNone = false) {f g h gt : Nat} (hf : 1 ≤ f ∧ f ≤ s0.1.length) (h2 : 2 ≤ sSort s0.1 f) (h3 : 2 ≤ sSort s0.1 (sL s0.1 f)) (ho : oNd s0 o gt) (hgt : 1 ≤ gt) (hg : 1 ≤ g ∧ g ≤ s0.1.length) (hh : 1 ≤ h ∧ h ≤ s0.1.length) (hgg : kFind s0.1 (4, sL s0.1 (sL s0.1 f), sR s0.1 f, 0, 0) = g) (hhh : kFind s0.1 (4, sR s0.1 (sL s0.1 f), sR s0.1 f, 0, 0) = h) : CI l G yX8_shared uX8_shared (4) (101) (0) (0) [.ref (ad 22), .int (nI f), .int (nI (o.getD 0))] (n) (n) ad en (mAct G n ad en c us dp cl (aRejoin f g h o) s0) := by
  intro sz
  refine rMet (Qc := qI G (n) (mAct G n ad en c us dp cl (aRejoin f g h o) s0)) (cc := cX8_shared) (maxL := 10) (ret := (some .int)) (by decide) rfl (Nat.le_of_ble_eq_true rfl) ?_
  intro pP eE sS mM aA bB tT cC ls A Q hc hK hsz hA hs hl hQ
  obtain ⟨hx, hb, hr, hts, hown, hlk, hnm, hml⟩ := hc
  have hl : lv_has ls 10 [(0, .ref (ad 22)), (1, .int (nI f)), (2, .int (nI (o.getD 0)))] := hl
  have fr0 : ∀ k, k < 22 → en k = en k := fun _ _ => rfl
  obtain ⟨hn48, -, -, -, hok, hnk⟩ := id hM
  have h6 := hok.1
  have h8 := hnk.1
  have x0 := sExt.rf s0
  have hn0_ : nsOK s0.1 s0.2 := hnk
  have hokk : ssOK s0.1 := hok
  have hG0 : sGood s0 := ⟨hok, hnk⟩
  have h8_0 := hn0_.1
  obtain ⟨hL1, hR1⟩ := parts_of hokk hf h2
  obtain ⟨hC1, hD1⟩ := parts_of hokk hL1 h3
  obtain ⟨o1, s1, hq1⟩ : ∃ oo tt, (aLamO (h) o) s0 = (oo, tt) := ⟨_, _, rfl⟩
  have hc1 := aC_eq hq1 (aLamO_ext _ _ _)
  have x1 := x0.tr hc1.2.2.2.2
  have v1 := lamO_q hq1 (ho)
  have hG1 : sGood s1 := g_lam hG0 hq1 (by have := sExt_len x0; omega) (ho)
  have hn1_ : nsOK s1.1 s1.2 := hG1.2
  have h8_1 := hn1_.1
  have hQ1 := hq1
  obtain ⟨o2, s2, hq2⟩ : ∃ oo tt, (aLamO (g) o1) s1 = (oo, tt) := ⟨_, _, rfl⟩
  have hc2 := aC_eq hq2 (aLamO_ext _ _ _)
  have x2 := x1.tr hc2.2.2.2.2
  have v2 := lamO_q hq2 ((v1.1).self)
  have hG2 : sGood s2 := g_lam hG1 hq2 (by have := sExt_len x1; omega) ((v1.1).self)
  have hn2_ : nsOK s2.1 s2.2 := hG2.2
  have h8_2 := hn2_.1
  have hQ2 := hq2
  obtain ⟨o3, s3, hq3⟩ : ∃ oo tt, (aGate o2.isNone (aNode (0, f, 0, 0, 0))) s2 = (oo, tt) := ⟨_, _, rfl⟩
  have hc3 := aC_eq hq3 (aGate_ext (aNode_ext _) _ _)
  have x3 := x2.tr hc3.2.2.2.2
  have v3 := gate_q hq3
  have hG3 : sGood s3 := g_gate hG2 hq3 (fun h => ok_giv (by have := sExt_len x2; omega))
  have hn3_ : nsOK s3.1 s3.2 := hG3.2
  have h8_3 := hn3_.1
  have hQ3 := hq3
  obtain ⟨o4, s4, hq4⟩ : ∃ oo tt, (aGate o3.isNone (aNode (0, sL s0.1 (sL s0.1 f), 0, 0, 0))) s3 = (oo, tt) := ⟨_, _, rfl⟩
  have hc4 := aC_eq hq4 (aGate_ext (aNode_ext _) _ _)
  have x4 := x3.tr hc4.2.2.2.2
  have v4 := gate_q hq4
  have hG4 : sGood s4 := g_gate hG3 hq4 (fun h => ok_giv (by have := sExt_len x3; omega))
  have hn4_ : nsOK s4.1 s4.2 := hG4.2
  have h8_4 := hn4_.1
  have hQ4 := hq4
  obtain ⟨o5, s5, hq5⟩ : ∃ oo tt, (aGate o4.isNone (aNode (6, sL s0.1 f, o4.getD 0, 0, 0))) s4 = (oo, tt) := ⟨_, _, rfl⟩
  have hc5 := aC_eq hq5 (aGate_ext (aNode_ext _) _ _)
  have x5 := x4.tr hc5.2.2.2.2
  have v5 := gate_q hq5
  have hG5 : sGood s5 := g_gate hG4 hq5 (fun h => ok_1 (by decide) (by have := sExt_len x4; omega) ((v4.1).vd _ (get_some h)))
  have hn5_ : nsOK s5.1 s5.2 := hG5.2
  have h8_5 := hn5_.1
  have hQ5 := hq5
  obtain ⟨o6, s6, hq6⟩ : ∃ oo tt, (aAppO o3 o5) s5 = (oo, tt) := ⟨_, _, rfl⟩
  have hc6 := aC_eq hq6 (aAppO_ext _ _ _)
  have x6 := x5.tr hc6.2.2.2.2
  have v6 := appO_q hq6 ((((v3.1).mono hc4.2.2.2.2).mono hc5.2.2.2.2).fn)
  have hG6 : sGood s6 := g_app hG5 hq6 (fun _ _ => by rw [(sR_ext x5 hf.2).1]; exact hR1.1) ((((v3.1).mono hc4.2.2.2.2).mono hc5.2.2.2.2).fn) ((v5.1).vd)
  have hn6_ : nsOK s6.1 s6.2 := hG6.2
  have h8_6 := hn6_.1
  have hQ6 := hq6
  obtain ⟨o7, s7, hq7⟩ : ∃ oo tt, (aLamO (sL s0.1 (sL s0.1 f)) o6) s6 = (oo, tt) := ⟨_, _, rfl⟩
  have hc7 := aC_eq hq7 (aLamO_ext _ _ _)
  have x7 := x6.tr hc7.2.2.2.2
  have v7 := lamO_q hq7 (v6.1)
  have hG7 : sGood s7 := g_lam hG6 hq7 (by have := sExt_len x6; omega) (v6.1)
  have hn7_ : nsOK s7.1 s7.2 := hG7.2
  have h8_7 := hn7_.1
  have hQ7 := hq7
  obtain ⟨o8, s8, hq8⟩ : ∃ oo tt, (aAppO o2 o7) s7 = (oo, tt) := ⟨_, _, rfl⟩
  have hc8 := aC_eq hq8 (aAppO_ext _ _ _)
  have x8 := x7.tr hc8.2.2.2.2
  have v8 := appO_q hq8 ((((((v2.1).mono hc3.2.2.2.2 hn2_).mono hc4.2.2.2.2 hn3_).mono hc5.2.2.2.2 hn4_).mono hc6.2.2.2.2 hn5_).mono hc7.2.2.2.2 hn6_)
  have hG8 : sGood s8 := g_app hG7 hq8 (fun u hu => low_g v1.1 hn1_ (up_s v2.2 (up_n v3.2 (up_n v4.2 (up_n v5.2 (up_s v6.2 (up_s v7.2 (⟨u, hu⟩)))))))) ((((((v2.1).mono hc3.2.2.2.2 hn2_).mono hc4.2.2.2.2 hn3_).mono hc5.2.2.2.2 hn4_).mono hc6.2.2.2.2 hn5_).mono hc7.2.2.2.2 hn6_) (((v7.1).self).vd)
  have hn8_ : nsOK s8.1 s8.2 := hG8.2
  have h8_8 := hn8_.1
  have hQ8 := hq8
  obtain ⟨o9, s9, hq9⟩ : ∃ oo tt, (aGate o8.isNone (aNode (0, f, 0, 0, 0))) s8 = (oo, tt) := ⟨_, _, rfl⟩
  have hc9 := aC_eq hq9 (aGate_ext (aNode_ext _) _ _)
  have x9 := x8.tr hc9.2.2.2.2
  have v9 := gate_q hq9
  have hG9 : sGood s9 := g_gate hG8 hq9 (fun h => ok_giv (by have := sExt_len x8; omega))
  have hn9_ : nsOK s9.1 s9.2 := hG9.2
  have h8_9 := hn9_.1
  obtain ⟨z9, e9, w9⟩ := hit9 (o3 := o3) (fun q => v8.2 (v7.2 (v6.2 (v5.2 (none_i (v4.2 (none_i (q)))))))) (fun x hx => row_mono ((((((sExt.rf s3).tr hc4.2.2.2.2).tr hc5.2.2.2.2).tr hc6.2.2.2.2).tr hc7.2.2.2.2).tr hc8.2.2.2.2) (gate_row hq3 x hx)) hn8_ hq9
  obtain ⟨o10, s10, hq10⟩ : ∃ oo tt, (aGate o9.isNone (aNode (0, sR s0.1 (sL s0.1 f), 0, 0, 0))) s9 = (oo, tt) := ⟨_, _, rfl⟩
  have hc10 := aC_eq hq10 (aGate_ext (aNode_ext _) _ _)
  have x10 := x9.tr hc10.2.2.2.2
  have v10 := gate_q hq10
  have hG10 : sGood s10 := g_gate hG9 hq10 (fun h => ok_giv (by have := sExt_len x9; omega))
  have hn10_ : nsOK s10.1 s10.2 := hG10.2
  have h8_10 := hn10_.1
  have hQ10 : (aGate o8.isNone (aNode (0, sR s0.1 (sL s0.1 f), 0, 0, 0))) s8 = (o10, s10) := by rw [← e9, ← z9]; exact hq10
  obtain ⟨o11, s11, hq11⟩ : ∃ oo tt, (aGate o10.isNone (aNode (7, sL s0.1 f, o10.getD 0, 0, 0))) s10 = (oo, tt) := ⟨_, _, rfl⟩
  have hc11 := aC_eq hq11 (aGate_ext (aNode_ext _) _ _)
  have x11 := x10.tr hc11.2.2.2.2
  have v11 := gate_q hq11
  have hG11 : sGood s11 := g_gate hG10 hq11 (fun h => ok_1 (by decide) (by have := sExt_len x10; omega) ((v10.1).vd _ (get_some h)))
  have hn11_ : nsOK s11.1 s11.2 := hG11.2
  have h8_11 := hn11_.1
  have hQ11 := hq11
  obtain ⟨o12, s12, hq12⟩ : ∃ oo tt, (aAppO o9 o11) s11 = (oo, tt) := ⟨_, _, rfl⟩
  have hc12 := aC_eq hq12 (aAppO_ext _ _ _)
  have x12 := x11.tr hc12.2.2.2.2
  have v12 := appO_q hq12 ((((v9.1).mono hc10.2.2.2.2).mono hc11.2.2.2.2).fn)
  have hG12 : sGood s12 := g_app hG11 hq12 (fun _ _ => by rw [(sR_ext x11 hf.2).1]; exact hR1.1) ((((v9.1).mono hc10.2.2.2.2).mono hc11.2.2.2.2).fn) ((v11.1).vd)
  have hn12_ : nsOK s12.1 s12.2 := hG12.2
  have h8_12 := hn12_.1
  have hQ12 : (aAppO o3 o11) s11 = (o12, s12) := by rw [app_sw (fun q => w9 (not_none (fun z => v11.2 (none_i (v10.2 (none_i (v9.2 (none_i (z))))))) q))]; exact hq12
  obtain ⟨o13, s13, hq13⟩ : ∃ oo tt, (aLamO (sR s0.1 (sL s0.1 f)) o12) s12 = (oo, tt) := ⟨_, _, rfl⟩
  have hc13 := aC_eq hq13 (aLamO_ext _ _ _)
  have x13 := x12.tr hc13.2.2.2.2
  have v13 := lamO_q hq13 (v12.1)
  have hG13 : sGood s13 := g_lam hG12 hq13 (by have := sExt_len x12; omega) (v12.1)
  have hn13_ : nsOK s13.1 s13.2 := hG13.2
  have h8_13 := hn13_.1
  have hQ13 := hq13
  obtain ⟨o14, s14, hq14⟩ : ∃ oo tt, (aAppO o8 o13) s13 = (oo, tt) := ⟨_, _, rfl⟩
  have hc14 := aC_eq hq14 (aAppO_ext _ _ _)
  have x14 := x13.tr hc14.2.2.2.2
  have v14 := appO_q hq14 (((((((v8.1).mono hc9.2.2.2.2).mono hc10.2.2.2.2).mono hc11.2.2.2.2).mono hc12.2.2.2.2).mono hc13.2.2.2.2).fn)
  have hG14 : sGood s14 := g_app hG13 hq14 (fun u hu => by rw [hi_g v1.1 hn1_ (((((((((((((sExt.rf s1).tr hc2.2.2.2.2).tr hc3.2.2.2.2).tr hc4.2.2.2.2).tr hc5.2.2.2.2).tr hc6.2.2.2.2).tr hc7.2.2.2.2).tr hc8.2.2.2.2).tr hc9.2.2.2.2).tr hc10.2.2.2.2).tr hc11.2.2.2.2).tr hc12.2.2.2.2).tr hc13.2.2.2.2) (up_s v2.2 (up_n v3.2 (up_n v4.2 (up_n v5.2 (up_s v6.2 (up_s v7.2 (up_s v8.2 (up_n v9.2 (up_n v10.2 (up_n v11.2 (up_s v12.2 (up_s v13.2 (⟨u, hu⟩)))))))))))))]; exact hgt) (((((((v8.1).mono hc9.2.2.2.2).mono hc10.2.2.2.2).mono hc11.2.2.2.2).mono hc12.2.2.2.2).mono hc13.2.2.2.2).fn) (((v13.1).self).vd)
  have hn14_ : nsOK s14.1 s14.2 := hG14.2
  have h8_14 := hn14_.1
  have hQ14 := hq14
  have hE := aRejoin_eq hq1 hq2 hq3 hq4 hq5 hq6 hq7 hq8 hq9 hq10 hq11 hq12 hq13 hq14
  refine lv_aload_n hx hb dX8_shared_0 rfl (lv_at hl 0 rfl) ?_
  refine r_get (ci := 8) (v := .ref (ad 24)) (C := RX8) (T := TX8) (N := 31) hx hb hts inlX8 hown hK hs (22) (by omega) (md22 hM) rfl 1 (by decide) (hts _ w_fl_RX8_13) rfl dX8_shared_1 ?_
  refine lv_iload_n hx hb dX8_shared_4 rfl (lv_at hl 1 rfl) ?_
  refine r_ialdN (t := f) hx hb hK hs (24) (by omega) (md24 hM) (rfl) (by omega) (by omega) dX8_shared_5 ?_
  refine r_topi (y := nI (sL s0.1 (f))) rfl ?_
  refine lv_istore_n (lv' := [(3, .int (nI (sL s0.1 (f)))), (0, .ref (ad 22)), (1, .int (nI f)), (2, .int (nI (o.getD 0)))]) hx hb dX8_shared_6 rfl hl (by decide) rfl (fun ls hl => ?_)
  refine lv_aload_n hx hb dX8_shared_7 rfl (lv_at hl 1 rfl) ?_
  refine r_get (ci := 8) (v := .ref (ad 24)) (C := RX8) (T := TX8) (N := 31) hx hb hts inlX8 hown hK hs (22) (by omega) (md22 hM) rfl 1 (by decide) (hts _ w_fl_RX8_13) rfl dX8_shared_8 ?_
  refine lv_iload_n hx hb dX8_shared_11 rfl (lv_at hl 0 rfl) ?_
  refine r_ialdN (t := sL s0.1 (f)) hx hb hK hs (24) (by omega) (md24 hM) (rfl) (by omega) (by omega) dX8_shared_12 ?_
  refine r_topi (y := nI (sL s0.1 (sL s0.1 (f)))) rfl ?_
  refine lv_istore (lv' := [(4, .int (nI (sL s0.1 (sL s0.1 (f))))), (3, .int (nI (sL s0.1 (f)))), (0, .ref (ad 22)), (1, .int (nI f)), (2, .int (nI (o.getD 0)))]) hx hb dX8_shared_13 hl (by decide) rfl (fun ls hl => ?_)
  refine lv_aload_n hx hb dX8_shared_15 rfl (lv_at hl 2 rfl) ?_
  refine r_get (ci := 8) (v := .ref (ad 25)) (C := RX8) (T := TX8) (N := 31) hx hb hts inlX8 hown hK hs (22) (by omega) (md22 hM) rfl 2 (by decide) (hts _ w_fl_RX8_16) rfl dX8_shared_16 ?_
  refine lv_iload_n hx hb dX8_shared_19 rfl (lv_at hl 1 rfl) ?_
  refine r_ialdN (t := sL s0.1 (f)) hx hb hK hs (25) (by omega) (md25 hM) (rfl) (by omega) (by omega) dX8_shared_20 ?_
  refine r_topi (y := nI (sR s0.1 (sL s0.1 (f)))) rfl ?_
  refine lv_istore (lv' := [(5, .int (nI (sR s0.1 (sL s0.1 (f))))), (4, .int (nI (sL s0.1 (sL s0.1 (f))))), (3, .int (nI (sL s0.1 (f)))), (0, .ref (ad 22)), (1, .int (nI f)), (2, .int (nI (o.getD 0)))]) hx hb dX8_shared_21 hl (by decide) rfl (fun ls hl => ?_)
  refine lv_aload_n hx hb dX8_shared_23 rfl (lv_at hl 3 rfl) ?_
  refine lv_aload_n hx hb dX8_shared_24 rfl (lv_at hl 3 rfl) ?_
  refine lv_iload hx hb dX8_shared_25 (lv_at hl 1 rfl) ?_
  refine lv_aload_n hx hb dX8_shared_27 rfl (lv_at hl 3 rfl) ?_
  refine r_get (ci := 8) (v := .ref (ad 25)) (C := RX8) (T := TX8) (N := 31) hx hb hts inlX8 hown hK hs (22) (by omega) (md22 hM) rfl 2 (by decide) (hts _ w_fl_RX8_16) rfl dX8_shared_28 ?_
  refine lv_iload_n hx hb dX8_shared_31 rfl (lv_at hl 4 rfl) ?_
  refine r_ialdN (t := f) hx hb hK hs (25) (by omega) (md25 hM) (rfl) (by omega) (by omega) dX8_shared_32 ?_
  refine r_topi (y := nI (sR s0.1 (f))) rfl ?_
  refine r_callVi (ci := 8) (As := [.int (nI (sL s0.1 (sL s0.1 (f)))), .int (nI (sR s0.1 (f)))]) hx hb hml hown hts hK hA hs (22) (by omega) (md22 hM) rfl rfl (c_X8_imph l G hM (a := sL s0.1 (sL s0.1 f)) (b := sR s0.1 f) (g := g) (hC1) (hR1) (hgg) (hg.1)) (cwV 2 hts (tbV w_ml_RX8_141 w_im_yX8_implication w_se_yX8_implication w_ini_RX8 w_cd_yX8_implication) rfl rfl rfl (by decide +kernel) ⟨Nat.le_of_ble_eq_true rfl, Nat.le_of_ble_eq_true rfl⟩) rfl hl.1 rfl (Nat.le_of_ble_eq_true rfl) dX8_shared_33 ⟨Nat.le_refl _, Nat.le_refl _⟩ (fun r_4 ad_1 en_2 H locs hp_3 hs => ?_)
  obtain ⟨⟨hAm_5, hFm_5⟩, hrm_5, hMm_5⟩ := hp_3
  subst hAm_5
  rw [hrm_5]
  have fr_6 : ∀ k, k < 22 → en_2 k = en k := fun k hk => Eq.trans (hFm_5 k hk) (fr0 k hk)
  refine lv_aload_n hx hb dX8_shared_36 rfl (lv_at hl 3 rfl) ?_
  refine lv_aload_n hx hb dX8_shared_37 rfl (lv_at hl 3 rfl) ?_
  refine lv_iload hx hb dX8_shared_38 (lv_at hl 0 rfl) ?_
  refine lv_aload_n hx hb dX8_shared_40 rfl (lv_at hl 3 rfl) ?_
  refine r_get (ci := 8) (v := .ref (ad 25)) (C := RX8) (T := TX8) (N := 31) hx hb hts inlX8 hown hK hs (22) (by omega) (md22 hMm_5) rfl 2 (by decide) (hts _ w_fl_RX8_16) rfl dX8_shared_41 ?_
  refine lv_iload_n hx hb dX8_shared_44 rfl (lv_at hl 4 rfl) ?_
  refine r_ialdN (t := f) hx hb hK hs (25) (by omega) (md25 hMm_5) (rfl) (by omega) (by omega) dX8_shared_45 ?_
  refine r_topi (y := nI (sR s0.1 (f))) rfl ?_
  refine r_callVi (ci := 8) (As := [.int (nI (sR s0.1 (sL s0.1 (f)))), .int (nI (sR s0.1 (f)))]) hx hb hml hown hts hK hA hs (22) (by omega) (md22 hMm_5) rfl rfl (c_X8_imph l G hMm_5 (a := sR s0.1 (sL s0.1 f)) (b := sR s0.1 f) (g := h) (hD1) (hR1) (hhh) (hh.1)) (cwV 2 hts (tbV w_ml_RX8_141 w_im_yX8_implication w_se_yX8_implication w_ini_RX8 w_cd_yX8_implication) rfl rfl rfl (by decide +kernel) ⟨Nat.le_of_ble_eq_true rfl, Nat.le_of_ble_eq_true rfl⟩) rfl hl.1 rfl (Nat.le_of_ble_eq_true rfl) dX8_shared_46 ⟨Nat.le_refl _, Nat.le_refl _⟩ (fun r_10 ad_7 en_8 H locs hp_9 hs => ?_)
  obtain ⟨⟨hAm_11, hFm_11⟩, hrm_11, hMm_11⟩ := hp_9
  subst hAm_11
  rw [hrm_11]
  have fr_12 : ∀ k, k < 22 → en_8 k = en k := fun k hk => Eq.trans (hFm_11 k hk) (fr_6 k hk)
  refine lv_iload_n hx hb dX8_shared_49 rfl (lv_at hl 5 rfl) ?_
  have hO_13 : MdW G n ad en_8 s0.1 s0.2 c us ((ovB o.isNone)) dp cl := by rw [show ovB o.isNone = 0 from by rw [hso]; rfl]; exact hMm_11
  refine r_callVi (ci := 8) (As := [.int (nI h), .int (nI (o.getD 0))]) hx hb hml hown hts hK hA hs (22) (by omega) (md22 hMm_11) rfl rfl (c_X8_l l G (o := o) hO_13 (a := h) (by have := sExt_len x0; omega) (ho)) (cwV 2 hts (tbV w_ml_RX8_174 w_im_yX8_l w_se_yX8_l w_ini_RX8 w_cd_yX8_l) rfl rfl rfl (by decide +kernel) ⟨Nat.le_of_ble_eq_true rfl, Nat.le_of_ble_eq_true rfl⟩) rfl hl.1 rfl (Nat.le_of_ble_eq_true rfl) dX8_shared_50 ⟨Nat.le_refl _, Nat.le_refl _⟩ (fun r_17 ad_14 en_15 H locs hp_16 hs => ?_)
  obtain ⟨⟨hA1, hF1⟩, hr1, hN1⟩ := hp_16
  subst hA1
  rw [hQ1] at hr1 hN1
  have hN1 : MdW G n ad en_15 s1.1 s1.2 c us (ovB o1.isNone) dp cl := hN1
  rw [show r_17 = nI (o1.getD 0) from hr1]
  have fr_18 : ∀ k, k < 22 → en_15 k = en k := fun k hk => Eq.trans (hF1 k hk) (fr_12 k hk)
  refine r_callVi (ci := 8) (As := [.int (nI g), .int (nI (o1.getD 0))]) hx hb hml hown hts hK hA hs (22) (by omega) (md22 hN1) rfl rfl (c_X8_l l G (o := o1) hN1 (a := g) (by have := sExt_len x1; omega) ((v1.1).self)) (cwV 2 hts (tbV w_ml_RX8_174 w_im_yX8_l w_se_yX8_l w_ini_RX8 w_cd_yX8_l) rfl rfl rfl (by decide +kernel) ⟨Nat.le_of_ble_eq_true rfl, Nat.le_of_ble_eq_true rfl⟩) rfl hl.1 rfl (Nat.le_of_ble_eq_true rfl) dX8_shared_53 ⟨Nat.le_refl _, Nat.le_refl _⟩ (fun r_22 ad_19 en_20 H locs hp_21 hs => ?_)
  obtain ⟨⟨hA2, hF2⟩, hr2, hN2⟩ := hp_21
  subst hA2
  rw [hQ2] at hr2 hN2
  have hN2 : MdW G n ad en_20 s2.1 s2.2 c us (ovB o2.isNone) dp cl := hN2
  rw [show r_22 = nI (o2.getD 0) from hr2]
  have fr_23 : ∀ k, k < 22 → en_20 k = en k := fun k hk => Eq.trans (hF2 k hk) (fr_18 k hk)
  refine lv_istore (lv' := [(6, .int (nI (o2.getD 0))), (5, .int (nI (sR s0.1 (sL s0.1 (f))))), (4, .int (nI (sL s0.1 (sL s0.1 (f))))), (3, .int (nI (sL s0.1 (f)))), (0, .ref (ad 22)), (1, .int (nI f)), (2, .int (nI (o.getD 0)))]) hx hb dX8_shared_56 hl (by decide) rfl (fun ls hl => ?_)
  refine lv_aload_n hx hb dX8_shared_58 rfl (lv_at hl 4 rfl) ?_
  refine lv_iload_n hx hb dX8_shared_59 rfl (lv_at hl 5 rfl) ?_
  refine r_callVi (ci := 8) (As := [.int (nI f)]) hx hb hml hown hts hK hA hs (22) (by omega) (md22 hN2) rfl rfl (c_X8_v l G (fl := o2.isNone) hN2 (f := f) (by have := sExt_len x2; omega)) (cwV 1 hts (tbV w_ml_RX8_177 w_im_yX8_v w_se_yX8_v w_ini_RX8 w_cd_yX8_v) rfl rfl rfl (by decide +kernel) ⟨Nat.le_of_ble_eq_true rfl, Nat.le_of_ble_eq_true rfl⟩) rfl hl.1 rfl (Nat.le_of_ble_eq_true rfl) dX8_shared_60 ⟨Nat.le_refl _, Nat.le_refl _⟩ (fun r_27 ad_24 en_25 H locs hp_26 hs => ?_)
  obtain ⟨⟨hA3, hF3⟩, hr3, hN3⟩ := hp_26
  subst hA3
  rw [hQ3] at hr3 hN3
  have hN3 : MdW G n ad en_25 s3.1 s3.2 c us (ovB o3.isNone) dp cl := hN3
  rw [show r_27 = nI (o3.getD 0) from hr3]
  have fr_28 : ∀ k, k < 22 → en_25 k = en k := fun k hk => Eq.trans (hF3 k hk) (fr_23 k hk)
  refine lv_istore (lv' := [(7, .int (nI (o3.getD 0))), (6, .int (nI (o2.getD 0))), (5, .int (nI (sR s0.1 (sL s0.1 (f))))), (4, .int (nI (sL s0.1 (sL s0.1 (f))))), (3, .int (nI (sL s0.1 (f)))), (0, .ref (ad 22)), (1, .int (nI f)), (2, .int (nI (o.getD 0)))]) hx hb dX8_shared_63 hl (by decide) rfl (fun ls hl => ?_)
  refine lv_aload_n hx hb dX8_shared_65 rfl (lv_at hl 5 rfl) ?_
  refine lv_iload hx hb dX8_shared_66 (lv_at hl 3 rfl) ?_
  refine lv_aload_n hx hb dX8_shared_68 rfl (lv_at hl 5 rfl) ?_
  refine lv_iload hx hb dX8_shared_69 (lv_at hl 0 rfl) ?_
  refine lv_aload_n hx hb dX8_shared_71 rfl (lv_at hl 5 rfl) ?_
  refine lv_bipush (v := 6) hx hb dX8_shared_72 (by decide) ?_
  refine lv_iload_n hx hb dX8_shared_74 rfl (lv_at hl 4 rfl) ?_
  refine lv_aload_n hx hb dX8_shared_75 rfl (lv_at hl 5 rfl) ?_
  refine lv_iload hx hb dX8_shared_76 (lv_at hl 3 rfl) ?_
  refine r_callVi (ci := 8) (As := [.int (nI (sL s0.1 (sL s0.1 (f))))]) hx hb hml hown hts hK hA hs (22) (by omega) (md22 hN3) rfl rfl (c_X8_v l G (fl := o3.isNone) hN3 (f := sL s0.1 (sL s0.1 f)) (by have := sExt_len x3; omega)) (cwV 1 hts (tbV w_ml_RX8_177 w_im_yX8_v w_se_yX8_v w_ini_RX8 w_cd_yX8_v) rfl rfl rfl (by decide +kernel) ⟨Nat.le_of_ble_eq_true rfl, Nat.le_of_ble_eq_true rfl⟩) rfl hl.1 rfl (Nat.le_of_ble_eq_true rfl) dX8_shared_78 ⟨Nat.le_refl _, Nat.le_refl _⟩ (fun r_32 ad_29 en_30 H locs hp_31 hs => ?_)
  obtain ⟨⟨hA4, hF4⟩, hr4, hN4⟩ := hp_31
  subst hA4
  rw [hQ4] at hr4 hN4
  have hN4 : MdW G n ad en_30 s4.1 s4.2 c us (ovB o4.isNone) dp cl := hN4
  rw [show r_32 = nI (o4.getD 0) from hr4]
  have fr_33 : ∀ k, k < 22 → en_30 k = en k := fun k hk => Eq.trans (hF4 k hk) (fr_28 k hk)
  refine lv_iconst (v := 0) hx hb dX8_shared_81 (by decide) ?_
  refine lv_iconst (v := 0) hx hb dX8_shared_82 (by decide) ?_
  refine r_callVi (ci := 8) (As := [.int (6), .int (nI (sL s0.1 (f))), .int (nI (o4.getD 0)), .int (0), .int (0)]) hx hb hml hown hts hK hA hs (22) (by omega) (md22 hN4) rfl rfl (c_X8_put l G (fl := o4.isNone) hN4 (tg := 6) (gl := sL s0.1 f) (a := o4.getD 0) (b := 0) (c1 := 0) (by have := getD_lt ((v4.1).vd) h8_4; omega) (fun h => ok_1 (by decide) (by have := sExt_len x4; omega) ((v4.1).vd _ (get_some h)))) (cwV 5 hts (tbV w_ml_RX8_171 w_im_yX8_put w_se_yX8_put w_ini_RX8 w_cd_yX8_put) rfl rfl rfl (by decide +kernel) ⟨Nat.le_of_ble_eq_true rfl, Nat.le_of_ble_eq_true rfl⟩) rfl hl.1 rfl (Nat.le_of_ble_eq_true rfl) dX8_shared_83 ⟨Nat.le_refl _, Nat.le_refl _⟩ (fun r_37 ad_34 en_35 H locs hp_36 hs => ?_)
  obtain ⟨⟨hA5, hF5⟩, hr5, hN5⟩ := hp_36
  subst hA5
  rw [hQ5] at hr5 hN5
  have hN5 : MdW G n ad en_35 s5.1 s5.2 c us (ovB o5.isNone) dp cl := hN5
  rw [show r_37 = nI (o5.getD 0) from hr5]
  have fr_38 : ∀ k, k < 22 → en_35 k = en k := fun k hk => Eq.trans (hF5 k hk) (fr_33 k hk)
  refine r_callVi (ci := 8) (As := [.int (nI (o3.getD 0)), .int (nI (o5.getD 0))]) hx hb hml hown hts hK hA hs (22) (by omega) (md22 hN5) rfl rfl (c_X8_a l G (o1 := o3) (o2 := o5) hN5 (fun _ _ => by rw [(sR_ext x5 hf.2).1]; exact hR1.1) ((((v3.1).mono hc4.2.2.2.2).mono hc5.2.2.2.2).fn) ((v5.1).vd) (fun q => v5.2 (none_i (v4.2 (none_i (q)))))) (cwV 2 hts (tbV w_ml_RX8_184 w_im_yX8_a w_se_yX8_a w_ini_RX8 w_cd_yX8_a) rfl rfl rfl (by decide +kernel) ⟨Nat.le_of_ble_eq_true rfl, Nat.le_of_ble_eq_true rfl⟩) rfl hl.1 rfl (Nat.le_of_ble_eq_true rfl) dX8_shared_86 ⟨Nat.le_refl _, Nat.le_refl _⟩ (fun r_42 ad_39 en_40 H locs hp_41 hs => ?_)
  obtain ⟨⟨hA6, hF6⟩, hr6, hN6⟩ := hp_41
  subst hA6
  rw [hQ6] at hr6 hN6
  have hN6 : MdW G n ad en_40 s6.1 s6.2 c us (ovB o6.isNone) dp cl := hN6
  rw [show r_42 = nI (o6.getD 0) from hr6]
  have fr_43 : ∀ k, k < 22 → en_40 k = en k := fun k hk => Eq.trans (hF6 k hk) (fr_38 k hk)
  refine r_callVi (ci := 8) (As := [.int (nI (sL s0.1 (sL s0.1 (f)))), .int (nI (o6.getD 0))]) hx hb hml hown hts hK hA hs (22) (by omega) (md22 hN6) rfl rfl (c_X8_l l G (o := o6) hN6 (a := sL s0.1 (sL s0.1 f)) (by have := sExt_len x6; omega) (v6.1)) (cwV 2 hts (tbV w_ml_RX8_174 w_im_yX8_l w_se_yX8_l w_ini_RX8 w_cd_yX8_l) rfl rfl rfl (by decide +kernel) ⟨Nat.le_of_ble_eq_true rfl, Nat.le_of_ble_eq_true rfl⟩) rfl hl.1 rfl (Nat.le_of_ble_eq_true rfl) dX8_shared_89 ⟨Nat.le_refl _, Nat.le_refl _⟩ (fun r_47 ad_44 en_45 H locs hp_46 hs => ?_)
  obtain ⟨⟨hA7, hF7⟩, hr7, hN7⟩ := hp_46
  subst hA7
  rw [hQ7] at hr7 hN7
  have hN7 : MdW G n ad en_45 s7.1 s7.2 c us (ovB o7.isNone) dp cl := hN7
  rw [show r_47 = nI (o7.getD 0) from hr7]
  have fr_48 : ∀ k, k < 22 → en_45 k = en k := fun k hk => Eq.trans (hF7 k hk) (fr_43 k hk)
  refine lv_istore (lv' := [(8, .int (nI (o7.getD 0))), (7, .int (nI (o3.getD 0))), (6, .int (nI (o2.getD 0))), (5, .int (nI (sR s0.1 (sL s0.1 (f))))), (4, .int (nI (sL s0.1 (sL s0.1 (f))))), (3, .int (nI (sL s0.1 (f)))), (0, .ref (ad 22)), (1, .int (nI f)), (2, .int (nI (o.getD 0)))]) hx hb dX8_shared_92 hl (by decide) rfl (fun ls hl => ?_)
  refine lv_aload_n hx hb dX8_shared_94 rfl (lv_at hl 6 rfl) ?_
  refine lv_iload hx hb dX8_shared_95 (lv_at hl 2 rfl) ?_
  refine lv_iload hx hb dX8_shared_97 (lv_at hl 0 rfl) ?_
  refine r_callVi (ci := 8) (As := [.int (nI (o2.getD 0)), .int (nI (o7.getD 0))]) hx hb hml hown hts hK hA hs (22) (by omega) (md22 hN7) rfl rfl (c_X8_a l G (o1 := o2) (o2 := o7) hN7 (fun u hu => low_g v1.1 hn1_ (up_s v2.2 (up_n v3.2 (up_n v4.2 (up_n v5.2 (up_s v6.2 (up_s v7.2 (⟨u, hu⟩)))))))) ((((((v2.1).mono hc3.2.2.2.2 hn2_).mono hc4.2.2.2.2 hn3_).mono hc5.2.2.2.2 hn4_).mono hc6.2.2.2.2 hn5_).mono hc7.2.2.2.2 hn6_) (((v7.1).self).vd) (fun q => v7.2 (v6.2 (v5.2 (none_i (v4.2 (none_i (v3.2 (none_i (q)))))))))) (cwV 2 hts (tbV w_ml_RX8_184 w_im_yX8_a w_se_yX8_a w_ini_RX8 w_cd_yX8_a) rfl rfl rfl (by decide +kernel) ⟨Nat.le_of_ble_eq_true rfl, Nat.le_of_ble_eq_true rfl⟩) rfl hl.1 rfl (Nat.le_of_ble_eq_true rfl) dX8_shared_99 ⟨Nat.le_refl _, Nat.le_refl _⟩ (fun r_52 ad_49 en_50 H locs hp_51 hs => ?_)
  obtain ⟨⟨hA8, hF8⟩, hr8, hN8⟩ := hp_51
  subst hA8
  rw [hQ8] at hr8 hN8
  have hN8 : MdW G n ad en_50 s8.1 s8.2 c us (ovB o8.isNone) dp cl := hN8
  rw [show r_52 = nI (o8.getD 0) from hr8]
  have fr_53 : ∀ k, k < 22 → en_50 k = en k := fun k hk => Eq.trans (hF8 k hk) (fr_48 k hk)
  refine lv_istore (lv' := [(9, .int (nI (o8.getD 0))), (8, .int (nI (o7.getD 0))), (7, .int (nI (o3.getD 0))), (6, .int (nI (o2.getD 0))), (5, .int (nI (sR s0.1 (sL s0.1 (f))))), (4, .int (nI (sL s0.1 (sL s0.1 (f))))), (3, .int (nI (sL s0.1 (f)))), (0, .ref (ad 22)), (1, .int (nI f)), (2, .int (nI (o.getD 0)))]) hx hb dX8_shared_102 hl (by decide) rfl (fun ls hl => ?_)
  refine lv_aload_n hx hb dX8_shared_104 rfl (lv_at hl 7 rfl) ?_
  refine lv_iload hx hb dX8_shared_105 (lv_at hl 0 rfl) ?_
  refine lv_aload_n hx hb dX8_shared_107 rfl (lv_at hl 7 rfl) ?_
  refine lv_iload hx hb dX8_shared_108 (lv_at hl 4 rfl) ?_
  refine lv_aload_n hx hb dX8_shared_110 rfl (lv_at hl 7 rfl) ?_
  refine lv_iload hx hb dX8_shared_111 (lv_at hl 2 rfl) ?_
  refine lv_aload_n hx hb dX8_shared_113 rfl (lv_at hl 7 rfl) ?_
  refine lv_bipush (v := 7) hx hb dX8_shared_114 (by decide) ?_
  refine lv_iload_n hx hb dX8_shared_116 rfl (lv_at hl 6 rfl) ?_
  refine lv_aload_n hx hb dX8_shared_117 rfl (lv_at hl 7 rfl) ?_
  refine lv_iload hx hb dX8_shared_118 (lv_at hl 4 rfl) ?_
  refine r_callDi (ci := 8) (As := [.int (nI (sR s0.1 (sL s0.1 (f))))]) hx hb hml hown hts hK hA hs (22) (by omega) (md22 hN8) rfl rfl (c_X8_v l G (fl := o8.isNone) hN8 (f := sR s0.1 (sL s0.1 f)) (by have := sExt_len x8; omega)) (cwV 1 hts (tbV w_ml_RX8_177 w_im_yX8_v w_se_yX8_v w_ini_RX8 w_cd_yX8_v) rfl rfl rfl (by decide +kernel) ⟨Nat.le_of_ble_eq_true rfl, Nat.le_of_ble_eq_true rfl⟩) (Nat.le_of_ble_eq_true rfl) rfl hl.1 rfl (Nat.le_of_ble_eq_true rfl) dX8_shared_120 ⟨Nat.le_refl _, Nat.le_refl _⟩ (fun r_57 ad_54 en_55 H locs hp_56 hs => ?_)
  skip
  obtain ⟨⟨hA10, hF10⟩, hr10, hN10⟩ := hp_56
  subst hA10
  rw [hQ10] at hr10 hN10
  have hN10 : MdW G n ad en_55 s10.1 s10.2 c us (ovB o10.isNone) dp cl := hN10
  rw [show r_57 = nI (o10.getD 0) from hr10]
  have fr_58 : ∀ k, k < 22 → en_55 k = en k := fun k hk => Eq.trans (hF10 k hk) (fr_53 k hk)
  refine lv_iconst (v := 0) hx hb dX8_shared_123 (by decide) ?_
  refine lv_iconst (v := 0) hx hb dX8_shared_124 (by decide) ?_
  refine r_callVi (ci := 8) (As := [.int (7), .int (nI (sL s0.1 (f))), .int (nI (o10.getD 0)), .int (0), .int (0)]) hx hb hml hown hts hK hA hs (22) (by omega) (md22 hN10) rfl rfl (c_X8_put l G (fl := o10.isNone) hN10 (tg := 7) (gl := sL s0.1 f) (a := o10.getD 0) (b := 0) (c1 := 0) (by have := getD_lt ((v10.1).vd) h8_10; omega) (fun h => ok_1 (by decide) (by have := sExt_len x10; omega) ((v10.1).vd _ (get_some h)))) (cwV 5 hts (tbV w_ml_RX8_171 w_im_yX8_put w_se_yX8_put w_ini_RX8 w_cd_yX8_put) rfl rfl rfl (by decide +kernel) ⟨Nat.le_of_ble_eq_true rfl, Nat.le_of_ble_eq_true rfl⟩) rfl hl.1 rfl (Nat.le_of_ble_eq_true rfl) dX8_shared_125 ⟨Nat.le_refl _, Nat.le_refl _⟩ (fun r_62 ad_59 en_60 H locs hp_61 hs => ?_)
  obtain ⟨⟨hA11, hF11⟩, hr11, hN11⟩ := hp_61
  subst hA11
  rw [hQ11] at hr11 hN11
  have hN11 : MdW G n ad en_60 s11.1 s11.2 c us (ovB o11.isNone) dp cl := hN11
  rw [show r_62 = nI (o11.getD 0) from hr11]
  have fr_63 : ∀ k, k < 22 → en_60 k = en k := fun k hk => Eq.trans (hF11 k hk) (fr_58 k hk)
  refine r_callVi (ci := 8) (As := [.int (nI (o3.getD 0)), .int (nI (o11.getD 0))]) hx hb hml hown hts hK hA hs (22) (by omega) (md22 hN11) rfl rfl (c_X8_a l G (o1 := o3) (o2 := o11) hN11 (fun _ _ => by rw [(sR_ext x11 hf.2).1]; exact hR1.1) ((((((((((v3.1).mono hc4.2.2.2.2).mono hc5.2.2.2.2).mono hc6.2.2.2.2).mono hc7.2.2.2.2).mono hc8.2.2.2.2).mono hc9.2.2.2.2).mono hc10.2.2.2.2).mono hc11.2.2.2.2).fn) ((v11.1).vd) (fun q => v11.2 (none_i (v10.2 (none_i (v9.2 (none_i (v8.2 (v7.2 (v6.2 (v5.2 (none_i (v4.2 (none_i (q))))))))))))))) (cwV 2 hts (tbV w_ml_RX8_184 w_im_yX8_a w_se_yX8_a w_ini_RX8 w_cd_yX8_a) rfl rfl rfl (by decide +kernel) ⟨Nat.le_of_ble_eq_true rfl, Nat.le_of_ble_eq_true rfl⟩) rfl hl.1 rfl (Nat.le_of_ble_eq_true rfl) dX8_shared_128 ⟨Nat.le_refl _, Nat.le_refl _⟩ (fun r_67 ad_64 en_65 H locs hp_66 hs => ?_)
  skip
  obtain ⟨⟨hA12, hF12⟩, hr12, hN12⟩ := hp_66
  subst hA12
  rw [hQ12] at hr12 hN12
  have hN12 : MdW G n ad en_65 s12.1 s12.2 c us (ovB o12.isNone) dp cl := hN12
  rw [show r_67 = nI (o12.getD 0) from hr12]
  have fr_68 : ∀ k, k < 22 → en_65 k = en k := fun k hk => Eq.trans (hF12 k hk) (fr_63 k hk)
  refine r_callVi (ci := 8) (As := [.int (nI (sR s0.1 (sL s0.1 (f)))), .int (nI (o12.getD 0))]) hx hb hml hown hts hK hA hs (22) (by omega) (md22 hN12) rfl rfl (c_X8_l l G (o := o12) hN12 (a := sR s0.1 (sL s0.1 f)) (by have := sExt_len x12; omega) (v12.1)) (cwV 2 hts (tbV w_ml_RX8_174 w_im_yX8_l w_se_yX8_l w_ini_RX8 w_cd_yX8_l) rfl rfl rfl (by decide +kernel) ⟨Nat.le_of_ble_eq_true rfl, Nat.le_of_ble_eq_true rfl⟩) rfl hl.1 rfl (Nat.le_of_ble_eq_true rfl) dX8_shared_131 ⟨Nat.le_refl _, Nat.le_refl _⟩ (fun r_72 ad_69 en_70 H locs hp_71 hs => ?_)
  obtain ⟨⟨hA13, hF13⟩, hr13, hN13⟩ := hp_71
  subst hA13
  rw [hQ13] at hr13 hN13
  have hN13 : MdW G n ad en_70 s13.1 s13.2 c us (ovB o13.isNone) dp cl := hN13
  rw [show r_72 = nI (o13.getD 0) from hr13]
  have fr_73 : ∀ k, k < 22 → en_70 k = en k := fun k hk => Eq.trans (hF13 k hk) (fr_68 k hk)
  refine r_callVi (ci := 8) (As := [.int (nI (o8.getD 0)), .int (nI (o13.getD 0))]) hx hb hml hown hts hK hA hs (22) (by omega) (md22 hN13) rfl rfl (c_X8_a l G (o1 := o8) (o2 := o13) hN13 (fun u hu => by rw [hi_g v1.1 hn1_ (((((((((((((sExt.rf s1).tr hc2.2.2.2.2).tr hc3.2.2.2.2).tr hc4.2.2.2.2).tr hc5.2.2.2.2).tr hc6.2.2.2.2).tr hc7.2.2.2.2).tr hc8.2.2.2.2).tr hc9.2.2.2.2).tr hc10.2.2.2.2).tr hc11.2.2.2.2).tr hc12.2.2.2.2).tr hc13.2.2.2.2) (up_s v2.2 (up_n v3.2 (up_n v4.2 (up_n v5.2 (up_s v6.2 (up_s v7.2 (up_s v8.2 (up_n v9.2 (up_n v10.2 (up_n v11.2 (up_s v12.2 (up_s v13.2 (⟨u, hu⟩)))))))))))))]; exact hgt) (((((((v8.1).mono hc9.2.2.2.2).mono hc10.2.2.2.2).mono hc11.2.2.2.2).mono hc12.2.2.2.2).mono hc13.2.2.2.2).fn) (((v13.1).self).vd) (fun q => v13.2 (v12.2 (v11.2 (none_i (v10.2 (none_i (v9.2 (none_i (q)))))))))) (cwV 2 hts (tbV w_ml_RX8_184 w_im_yX8_a w_se_yX8_a w_ini_RX8 w_cd_yX8_a) rfl rfl rfl (by decide +kernel) ⟨Nat.le_of_ble_eq_true rfl, Nat.le_of_ble_eq_true rfl⟩) rfl hl.1 rfl (Nat.le_of_ble_eq_true rfl) dX8_shared_134 ⟨Nat.le_refl _, Nat.le_refl _⟩ (fun r_77 ad_74 en_75 H locs hp_76 hs => ?_)
  obtain ⟨⟨hA14, hF14⟩, hr14, hN14⟩ := hp_76
  subst hA14
  rw [hQ14] at hr14 hN14
  have hN14 : MdW G n ad en_75 s14.1 s14.2 c us (ovB o14.isNone) dp cl := hN14
  rw [show r_77 = nI (o14.getD 0) from hr14]
  have fr_78 : ∀ k, k < 22 → en_75 k = en k := fun k hk => Eq.trans (hF14 k hk) (fr_73 k hk)
  refine r_iret (v := nI (o14.getD 0)) (mc := 0) (ms := 0) hx hb hr hlk hs (Nat.le_refl _) (Nat.le_refl _) dX8_shared_137 hQ ?_
  unfold mAct
  rw [hE]
  exact ⟨⟨rfl, fr_78⟩, rfl, hN14⟩

set_option maxHeartbeats 600000 in
set_option maxRecDepth 100000 in
theorem c_X8_nested (l : Launch) (G : rG) {n : Nat} {ad : Nat → Nat} {en : Nat → va_E} {s0 : NSt} {c : Nat → Nat → Int32} {us : Int32} {dp : Int32} {cl : Int32}  (hM : MdW G n ad en s0.1 s0.2 c us 0 dp cl) {o : Option Nat} (hso : o.isNone = false) {f g gt gE : Nat} {oE oG : Option Nat} (hf : 1 ≤ f ∧ f ≤ s0.1.length) (h2 : 2 ≤ sSort s0.1 f) (h3 : 2 ≤ sSort s0.1 (sL s0.1 f)) (ho : oNd s0 o gt) (hgt : 1 ≤ gt) (hoE : oFn s0 oE gE) (hgE : 1 ≤ gE) (hoG : oNd s0 oG f) (hGr : ∀ x, oG = some x → kAt s0.2 x = (0, f, 0, 0, 0)) (hEG : oE = none → oG = none) (hGo : oG = none → o = none) (hg : 1 ≤ g ∧ g ≤ s0.1.length) (hgg : kFind s0.1 (4, sR s0.1 (sL s0.1 f), sR s0.1 f, 0, 0) = g) : CI l G yX8_nested uX8_nested (4) (101) (0) (0) [.ref (ad 22), .int (nI f), .int (nI (o.getD 0)), .int (nI (oE.getD 0)), .int (nI (oG.getD 0))] (n) (n) ad en (mAct G n ad en c us dp cl (aNest f g oE oG o) s0) := by
  intro sz
  refine rMet (Qc := qI G (n) (mAct G n ad en c us dp cl (aNest f g oE oG o) s0)) (cc := cX8_nested) (maxL := 9) (ret := (some .int)) (by decide) rfl (Nat.le_of_ble_eq_true rfl) ?_
  intro pP eE sS mM aA bB tT cC ls A Q hc hK hsz hA hs hl hQ
  obtain ⟨hx, hb, hr, hts, hown, hlk, hnm, hml⟩ := hc
  have hl : lv_has ls 9 [(0, .ref (ad 22)), (1, .int (nI f)), (2, .int (nI (o.getD 0))), (3, .int (nI (oE.getD 0))), (4, .int (nI (oG.getD 0)))] := hl
  have fr0 : ∀ k, k < 22 → en k = en k := fun _ _ => rfl
  obtain ⟨hn48, -, -, -, hok, hnk⟩ := id hM
  have h6 := hok.1
  have h8 := hnk.1
  have x0 := sExt.rf s0
  have hn0_ : nsOK s0.1 s0.2 := hnk
  have hokk : ssOK s0.1 := hok
  have hG0 : sGood s0 := ⟨hok, hnk⟩
  have h8_0 := hn0_.1
  obtain ⟨hL1, hR1⟩ := parts_of hokk hf h2
  obtain ⟨hC1, hD1⟩ := parts_of hokk hL1 h3
  obtain ⟨o1, s1, hq1⟩ : ∃ oo tt, (aLamO (g) o) s0 = (oo, tt) := ⟨_, _, rfl⟩
  have hc1 := aC_eq hq1 (aLamO_ext _ _ _)
  have x1 := x0.tr hc1.2.2.2.2
  have v1 := lamO_q hq1 (ho)
  have hG1 : sGood s1 := g_lam hG0 hq1 (by have := sExt_len x0; omega) (ho)
  have hn1_ : nsOK s1.1 s1.2 := hG1.2
  have h8_1 := hn1_.1
  have hQ1 := hq1
  obtain ⟨o2, s2, hq2⟩ : ∃ oo tt, (aGate o1.isNone (aNode (0, f, 0, 0, 0))) s1 = (oo, tt) := ⟨_, _, rfl⟩
  have hc2 := aC_eq hq2 (aGate_ext (aNode_ext _) _ _)
  have x2 := x1.tr hc2.2.2.2.2
  have v2 := gate_q hq2
  have hG2 : sGood s2 := g_gate hG1 hq2 (fun h => ok_giv (by have := sExt_len x1; omega))
  have hn2_ : nsOK s2.1 s2.2 := hG2.2
  have h8_2 := hn2_.1
  obtain ⟨z2, e2, w2⟩ := hit9 (o3 := oG) (fun q => v1.2 (hGo q)) (fun x hx => row_mono x1 ⟨(hoG.vd x hx), hGr x hx⟩) hn1_ hq2
  obtain ⟨o3, s3, hq3⟩ : ∃ oo tt, (aGate o2.isNone (aNode (0, sR s0.1 (sL s0.1 f), 0, 0, 0))) s2 = (oo, tt) := ⟨_, _, rfl⟩
  have hc3 := aC_eq hq3 (aGate_ext (aNode_ext _) _ _)
  have x3 := x2.tr hc3.2.2.2.2
  have v3 := gate_q hq3
  have hG3 : sGood s3 := g_gate hG2 hq3 (fun h => ok_giv (by have := sExt_len x2; omega))
  have hn3_ : nsOK s3.1 s3.2 := hG3.2
  have h8_3 := hn3_.1
  have hQ3 : (aGate o1.isNone (aNode (0, sR s0.1 (sL s0.1 f), 0, 0, 0))) s1 = (o3, s3) := by rw [← e2, ← z2]; exact hq3
  obtain ⟨o4, s4, hq4⟩ : ∃ oo tt, (aLamO (sL s0.1 (sL s0.1 f)) o3) s3 = (oo, tt) := ⟨_, _, rfl⟩
  have hc4 := aC_eq hq4 (aLamO_ext _ _ _)
  have x4 := x3.tr hc4.2.2.2.2
  have v4 := lamO_q hq4 (v3.1)
  have hG4 : sGood s4 := g_lam hG3 hq4 (by have := sExt_len x3; omega) (v3.1)
  have hn4_ : nsOK s4.1 s4.2 := hG4.2
  have h8_4 := hn4_.1
  have hQ4 := hq4
  obtain ⟨o5, s5, hq5⟩ : ∃ oo tt, (aAppO o2 o4) s4 = (oo, tt) := ⟨_, _, rfl⟩
  have hc5 := aC_eq hq5 (aAppO_ext _ _ _)
  have x5 := x4.tr hc5.2.2.2.2
  have v5 := appO_q hq5 ((((v2.1).mono hc3.2.2.2.2).mono hc4.2.2.2.2).fn)
  have hG5 : sGood s5 := g_app hG4 hq5 (fun _ _ => by rw [(sR_ext x4 hf.2).1]; exact hR1.1) ((((v2.1).mono hc3.2.2.2.2).mono hc4.2.2.2.2).fn) (((v4.1).self).vd)
  have hn5_ : nsOK s5.1 s5.2 := hG5.2
  have h8_5 := hn5_.1
  have hQ5 : (aAppO oG o4) s4 = (o5, s5) := by rw [app_sw (fun q => w2 (not_none (fun z => v4.2 (v3.2 (none_i (v2.2 (none_i (z)))))) q))]; exact hq5
  obtain ⟨o6, s6, hq6⟩ : ∃ oo tt, (aLamO (sR s0.1 (sL s0.1 f)) o5) s5 = (oo, tt) := ⟨_, _, rfl⟩
  have hc6 := aC_eq hq6 (aLamO_ext _ _ _)
  have x6 := x5.tr hc6.2.2.2.2
  have v6 := lamO_q hq6 (v5.1)
  have hG6 : sGood s6 := g_lam hG5 hq6 (by have := sExt_len x5; omega) (v5.1)
  have hn6_ : nsOK s6.1 s6.2 := hG6.2
  have h8_6 := hn6_.1
  have hQ6 := hq6
  obtain ⟨o7, s7, hq7⟩ : ∃ oo tt, (aAppO o1 o6) s6 = (oo, tt) := ⟨_, _, rfl⟩
  have hc7 := aC_eq hq7 (aAppO_ext _ _ _)
  have x7 := x6.tr hc7.2.2.2.2
  have v7 := appO_q hq7 ((((((v1.1).mono hc2.2.2.2.2 hn1_).mono hc3.2.2.2.2 hn2_).mono hc4.2.2.2.2 hn3_).mono hc5.2.2.2.2 hn4_).mono hc6.2.2.2.2 hn5_)
  have hG7 : sGood s7 := g_app hG6 hq7 (fun _ _ => hgt) ((((((v1.1).mono hc2.2.2.2.2 hn1_).mono hc3.2.2.2.2 hn2_).mono hc4.2.2.2.2 hn3_).mono hc5.2.2.2.2 hn4_).mono hc6.2.2.2.2 hn5_) (((v6.1).self).vd)
  have hn7_ : nsOK s7.1 s7.2 := hG7.2
  have h8_7 := hn7_.1
  have hQ7 := hq7
  obtain ⟨o8, s8, hq8⟩ : ∃ oo tt, (aAppO oG o7) s7 = (oo, tt) := ⟨_, _, rfl⟩
  have hc8 := aC_eq hq8 (aAppO_ext _ _ _)
  have x8 := x7.tr hc8.2.2.2.2
  have v8 := appO_q hq8 (((((((((hoG).mono hc1.2.2.2.2).mono hc2.2.2.2.2).mono hc3.2.2.2.2).mono hc4.2.2.2.2).mono hc5.2.2.2.2).mono hc6.2.2.2.2).mono hc7.2.2.2.2).fn)
  have hG8 : sGood s8 := g_app hG7 hq8 (fun _ _ => by rw [(sR_ext x7 hf.2).1]; exact hR1.1) (((((((((hoG).mono hc1.2.2.2.2).mono hc2.2.2.2.2).mono hc3.2.2.2.2).mono hc4.2.2.2.2).mono hc5.2.2.2.2).mono hc6.2.2.2.2).mono hc7.2.2.2.2).fn) ((v7.1).vd)
  have hn8_ : nsOK s8.1 s8.2 := hG8.2
  have h8_8 := hn8_.1
  have hQ8 := hq8
  obtain ⟨o9, s9, hq9⟩ : ∃ oo tt, (aAppO oE o8) s8 = (oo, tt) := ⟨_, _, rfl⟩
  have hc9 := aC_eq hq9 (aAppO_ext _ _ _)
  have x9 := x8.tr hc9.2.2.2.2
  have v9 := appO_q hq9 (((((((((hoE).mono hc1.2.2.2.2 hn0_).mono hc2.2.2.2.2 hn1_).mono hc3.2.2.2.2 hn2_).mono hc4.2.2.2.2 hn3_).mono hc5.2.2.2.2 hn4_).mono hc6.2.2.2.2 hn5_).mono hc7.2.2.2.2 hn6_).mono hc8.2.2.2.2 hn7_)
  have hG9 : sGood s9 := g_app hG8 hq9 (fun _ _ => hgE) (((((((((hoE).mono hc1.2.2.2.2 hn0_).mono hc2.2.2.2.2 hn1_).mono hc3.2.2.2.2 hn2_).mono hc4.2.2.2.2 hn3_).mono hc5.2.2.2.2 hn4_).mono hc6.2.2.2.2 hn5_).mono hc7.2.2.2.2 hn6_).mono hc8.2.2.2.2 hn7_) ((v8.1).vd)
  have hn9_ : nsOK s9.1 s9.2 := hG9.2
  have h8_9 := hn9_.1
  have hQ9 := hq9
  have hE := aNest_eq hq1 hq2 hq3 hq4 hq5 hq6 hq7 hq8 hq9
  refine lv_aload_n hx hb dX8_nested_0 rfl (lv_at hl 0 rfl) ?_
  refine r_get (ci := 8) (v := .ref (ad 24)) (C := RX8) (T := TX8) (N := 31) hx hb hts inlX8 hown hK hs (22) (by omega) (md22 hM) rfl 1 (by decide) (hts _ w_fl_RX8_13) rfl dX8_nested_1 ?_
  refine lv_aload_n hx hb dX8_nested_4 rfl (lv_at hl 0 rfl) ?_
  refine r_get (ci := 8) (v := .ref (ad 24)) (C := RX8) (T := TX8) (N := 31) hx hb hts inlX8 hown hK hs (22) (by omega) (md22 hM) rfl 1 (by decide) (hts _ w_fl_RX8_13) rfl dX8_nested_5 ?_
  refine lv_iload_n hx hb dX8_nested_8 rfl (lv_at hl 1 rfl) ?_
  refine r_ialdN (t := f) hx hb hK hs (24) (by omega) (md24 hM) (rfl) (by omega) (by omega) dX8_nested_9 ?_
  refine r_topi (y := nI (sL s0.1 (f))) rfl ?_
  refine r_ialdN (t := sL s0.1 (f)) hx hb hK hs (24) (by omega) (md24 hM) (rfl) (by omega) (by omega) dX8_nested_10 ?_
  refine r_topi (y := nI (sL s0.1 (sL s0.1 (f)))) rfl ?_
  refine lv_istore (lv' := [(5, .int (nI (sL s0.1 (sL s0.1 (f))))), (0, .ref (ad 22)), (1, .int (nI f)), (2, .int (nI (o.getD 0))), (3, .int (nI (oE.getD 0))), (4, .int (nI (oG.getD 0)))]) hx hb dX8_nested_11 hl (by decide) rfl (fun ls hl => ?_)
  refine lv_aload_n hx hb dX8_nested_13 rfl (lv_at hl 1 rfl) ?_
  refine r_get (ci := 8) (v := .ref (ad 25)) (C := RX8) (T := TX8) (N := 31) hx hb hts inlX8 hown hK hs (22) (by omega) (md22 hM) rfl 2 (by decide) (hts _ w_fl_RX8_16) rfl dX8_nested_14 ?_
  refine lv_aload_n hx hb dX8_nested_17 rfl (lv_at hl 1 rfl) ?_
  refine r_get (ci := 8) (v := .ref (ad 24)) (C := RX8) (T := TX8) (N := 31) hx hb hts inlX8 hown hK hs (22) (by omega) (md22 hM) rfl 1 (by decide) (hts _ w_fl_RX8_13) rfl dX8_nested_18 ?_
  refine lv_iload_n hx hb dX8_nested_21 rfl (lv_at hl 2 rfl) ?_
  refine r_ialdN (t := f) hx hb hK hs (24) (by omega) (md24 hM) (rfl) (by omega) (by omega) dX8_nested_22 ?_
  refine r_topi (y := nI (sL s0.1 (f))) rfl ?_
  refine r_ialdN (t := sL s0.1 (f)) hx hb hK hs (25) (by omega) (md25 hM) (rfl) (by omega) (by omega) dX8_nested_23 ?_
  refine r_topi (y := nI (sR s0.1 (sL s0.1 (f)))) rfl ?_
  refine lv_istore (lv' := [(6, .int (nI (sR s0.1 (sL s0.1 (f))))), (5, .int (nI (sL s0.1 (sL s0.1 (f))))), (0, .ref (ad 22)), (1, .int (nI f)), (2, .int (nI (o.getD 0))), (3, .int (nI (oE.getD 0))), (4, .int (nI (oG.getD 0)))]) hx hb dX8_nested_24 hl (by decide) rfl (fun ls hl => ?_)
  refine lv_aload_n hx hb dX8_nested_26 rfl (lv_at hl 2 rfl) ?_
  refine lv_aload_n hx hb dX8_nested_27 rfl (lv_at hl 2 rfl) ?_
  refine lv_iload hx hb dX8_nested_28 (lv_at hl 0 rfl) ?_
  refine lv_aload_n hx hb dX8_nested_30 rfl (lv_at hl 2 rfl) ?_
  refine r_get (ci := 8) (v := .ref (ad 25)) (C := RX8) (T := TX8) (N := 31) hx hb hts inlX8 hown hK hs (22) (by omega) (md22 hM) rfl 2 (by decide) (hts _ w_fl_RX8_16) rfl dX8_nested_31 ?_
  refine lv_iload_n hx hb dX8_nested_34 rfl (lv_at hl 3 rfl) ?_
  refine r_ialdN (t := f) hx hb hK hs (25) (by omega) (md25 hM) (rfl) (by omega) (by omega) dX8_nested_35 ?_
  refine r_topi (y := nI (sR s0.1 (f))) rfl ?_
  refine r_callVi (ci := 8) (As := [.int (nI (sR s0.1 (sL s0.1 (f)))), .int (nI (sR s0.1 (f)))]) hx hb hml hown hts hK hA hs (22) (by omega) (md22 hM) rfl rfl (c_X8_imph l G hM (a := sR s0.1 (sL s0.1 f)) (b := sR s0.1 f) (g := g) (hD1) (hR1) (hgg) (hg.1)) (cwV 2 hts (tbV w_ml_RX8_141 w_im_yX8_implication w_se_yX8_implication w_ini_RX8 w_cd_yX8_implication) rfl rfl rfl (by decide +kernel) ⟨Nat.le_of_ble_eq_true rfl, Nat.le_of_ble_eq_true rfl⟩) rfl hl.1 rfl (Nat.le_of_ble_eq_true rfl) dX8_nested_36 ⟨Nat.le_refl _, Nat.le_refl _⟩ (fun r_4 ad_1 en_2 H locs hp_3 hs => ?_)
  obtain ⟨⟨hAm_5, hFm_5⟩, hrm_5, hMm_5⟩ := hp_3
  subst hAm_5
  rw [hrm_5]
  have fr_6 : ∀ k, k < 22 → en_2 k = en k := fun k hk => Eq.trans (hFm_5 k hk) (fr0 k hk)
  refine lv_iload_n hx hb dX8_nested_39 rfl (lv_at hl 4 rfl) ?_
  have hO_7 : MdW G n ad en_2 s0.1 s0.2 c us ((ovB o.isNone)) dp cl := by rw [show ovB o.isNone = 0 from by rw [hso]; rfl]; exact hMm_5
  refine r_callVi (ci := 8) (As := [.int (nI g), .int (nI (o.getD 0))]) hx hb hml hown hts hK hA hs (22) (by omega) (md22 hMm_5) rfl rfl (c_X8_l l G (o := o) hO_7 (a := g) (by have := sExt_len x0; omega) (ho)) (cwV 2 hts (tbV w_ml_RX8_174 w_im_yX8_l w_se_yX8_l w_ini_RX8 w_cd_yX8_l) rfl rfl rfl (by decide +kernel) ⟨Nat.le_of_ble_eq_true rfl, Nat.le_of_ble_eq_true rfl⟩) rfl hl.1 rfl (Nat.le_of_ble_eq_true rfl) dX8_nested_40 ⟨Nat.le_refl _, Nat.le_refl _⟩ (fun r_11 ad_8 en_9 H locs hp_10 hs => ?_)
  obtain ⟨⟨hA1, hF1⟩, hr1, hN1⟩ := hp_10
  subst hA1
  rw [hQ1] at hr1 hN1
  have hN1 : MdW G n ad en_9 s1.1 s1.2 c us (ovB o1.isNone) dp cl := hN1
  rw [show r_11 = nI (o1.getD 0) from hr1]
  have fr_12 : ∀ k, k < 22 → en_9 k = en k := fun k hk => Eq.trans (hF1 k hk) (fr_6 k hk)
  refine lv_istore (lv' := [(7, .int (nI (o1.getD 0))), (6, .int (nI (sR s0.1 (sL s0.1 (f))))), (5, .int (nI (sL s0.1 (sL s0.1 (f))))), (0, .ref (ad 22)), (1, .int (nI f)), (2, .int (nI (o.getD 0))), (3, .int (nI (oE.getD 0))), (4, .int (nI (oG.getD 0)))]) hx hb dX8_nested_43 hl (by decide) rfl (fun ls hl => ?_)
  refine lv_aload_n hx hb dX8_nested_45 rfl (lv_at hl 3 rfl) ?_
  refine lv_iload hx hb dX8_nested_46 (lv_at hl 1 rfl) ?_
  refine lv_aload_n hx hb dX8_nested_48 rfl (lv_at hl 3 rfl) ?_
  refine lv_iload hx hb dX8_nested_49 (lv_at hl 7 rfl) ?_
  refine lv_aload_n hx hb dX8_nested_51 rfl (lv_at hl 3 rfl) ?_
  refine lv_iload hx hb dX8_nested_52 (lv_at hl 2 rfl) ?_
  refine lv_aload_n hx hb dX8_nested_54 rfl (lv_at hl 3 rfl) ?_
  refine lv_iload hx hb dX8_nested_55 (lv_at hl 1 rfl) ?_
  refine r_callVi (ci := 8) (As := [.int (nI (sR s0.1 (sL s0.1 (f))))]) hx hb hml hown hts hK hA hs (22) (by omega) (md22 hN1) rfl rfl (c_X8_v l G (fl := o1.isNone) hN1 (f := sR s0.1 (sL s0.1 f)) (by have := sExt_len x1; omega)) (cwV 1 hts (tbV w_ml_RX8_177 w_im_yX8_v w_se_yX8_v w_ini_RX8 w_cd_yX8_v) rfl rfl rfl (by decide +kernel) ⟨Nat.le_of_ble_eq_true rfl, Nat.le_of_ble_eq_true rfl⟩) rfl hl.1 rfl (Nat.le_of_ble_eq_true rfl) dX8_nested_57 ⟨Nat.le_refl _, Nat.le_refl _⟩ (fun r_16 ad_13 en_14 H locs hp_15 hs => ?_)
  skip
  obtain ⟨⟨hA3, hF3⟩, hr3, hN3⟩ := hp_15
  subst hA3
  rw [hQ3] at hr3 hN3
  have hN3 : MdW G n ad en_14 s3.1 s3.2 c us (ovB o3.isNone) dp cl := hN3
  rw [show r_16 = nI (o3.getD 0) from hr3]
  have fr_17 : ∀ k, k < 22 → en_14 k = en k := fun k hk => Eq.trans (hF3 k hk) (fr_12 k hk)
  refine r_callVi (ci := 8) (As := [.int (nI (sL s0.1 (sL s0.1 (f)))), .int (nI (o3.getD 0))]) hx hb hml hown hts hK hA hs (22) (by omega) (md22 hN3) rfl rfl (c_X8_l l G (o := o3) hN3 (a := sL s0.1 (sL s0.1 f)) (by have := sExt_len x3; omega) (v3.1)) (cwV 2 hts (tbV w_ml_RX8_174 w_im_yX8_l w_se_yX8_l w_ini_RX8 w_cd_yX8_l) rfl rfl rfl (by decide +kernel) ⟨Nat.le_of_ble_eq_true rfl, Nat.le_of_ble_eq_true rfl⟩) rfl hl.1 rfl (Nat.le_of_ble_eq_true rfl) dX8_nested_60 ⟨Nat.le_refl _, Nat.le_refl _⟩ (fun r_21 ad_18 en_19 H locs hp_20 hs => ?_)
  obtain ⟨⟨hA4, hF4⟩, hr4, hN4⟩ := hp_20
  subst hA4
  rw [hQ4] at hr4 hN4
  have hN4 : MdW G n ad en_19 s4.1 s4.2 c us (ovB o4.isNone) dp cl := hN4
  rw [show r_21 = nI (o4.getD 0) from hr4]
  have fr_22 : ∀ k, k < 22 → en_19 k = en k := fun k hk => Eq.trans (hF4 k hk) (fr_17 k hk)
  refine r_callVi (ci := 8) (As := [.int (nI (oG.getD 0)), .int (nI (o4.getD 0))]) hx hb hml hown hts hK hA hs (22) (by omega) (md22 hN4) rfl rfl (c_X8_a l G (o1 := oG) (o2 := o4) hN4 (fun _ _ => by rw [(sR_ext x4 hf.2).1]; exact hR1.1) ((((((hoG).mono hc1.2.2.2.2).mono hc2.2.2.2.2).mono hc3.2.2.2.2).mono hc4.2.2.2.2).fn) (((v4.1).self).vd) (fun q => v4.2 (v3.2 (none_i (v2.2 (none_i (v1.2 (hGo q)))))))) (cwV 2 hts (tbV w_ml_RX8_184 w_im_yX8_a w_se_yX8_a w_ini_RX8 w_cd_yX8_a) rfl rfl rfl (by decide +kernel) ⟨Nat.le_of_ble_eq_true rfl, Nat.le_of_ble_eq_true rfl⟩) rfl hl.1 rfl (Nat.le_of_ble_eq_true rfl) dX8_nested_63 ⟨Nat.le_refl _, Nat.le_refl _⟩ (fun r_26 ad_23 en_24 H locs hp_25 hs => ?_)
  skip
  obtain ⟨⟨hA5, hF5⟩, hr5, hN5⟩ := hp_25
  subst hA5
  rw [hQ5] at hr5 hN5
  have hN5 : MdW G n ad en_24 s5.1 s5.2 c us (ovB o5.isNone) dp cl := hN5
  rw [show r_26 = nI (o5.getD 0) from hr5]
  have fr_27 : ∀ k, k < 22 → en_24 k = en k := fun k hk => Eq.trans (hF5 k hk) (fr_22 k hk)
  refine r_callVi (ci := 8) (As := [.int (nI (sR s0.1 (sL s0.1 (f)))), .int (nI (o5.getD 0))]) hx hb hml hown hts hK hA hs (22) (by omega) (md22 hN5) rfl rfl (c_X8_l l G (o := o5) hN5 (a := sR s0.1 (sL s0.1 f)) (by have := sExt_len x5; omega) (v5.1)) (cwV 2 hts (tbV w_ml_RX8_174 w_im_yX8_l w_se_yX8_l w_ini_RX8 w_cd_yX8_l) rfl rfl rfl (by decide +kernel) ⟨Nat.le_of_ble_eq_true rfl, Nat.le_of_ble_eq_true rfl⟩) rfl hl.1 rfl (Nat.le_of_ble_eq_true rfl) dX8_nested_66 ⟨Nat.le_refl _, Nat.le_refl _⟩ (fun r_31 ad_28 en_29 H locs hp_30 hs => ?_)
  obtain ⟨⟨hA6, hF6⟩, hr6, hN6⟩ := hp_30
  subst hA6
  rw [hQ6] at hr6 hN6
  have hN6 : MdW G n ad en_29 s6.1 s6.2 c us (ovB o6.isNone) dp cl := hN6
  rw [show r_31 = nI (o6.getD 0) from hr6]
  have fr_32 : ∀ k, k < 22 → en_29 k = en k := fun k hk => Eq.trans (hF6 k hk) (fr_27 k hk)
  refine lv_istore (lv' := [(8, .int (nI (o6.getD 0))), (7, .int (nI (o1.getD 0))), (6, .int (nI (sR s0.1 (sL s0.1 (f))))), (5, .int (nI (sL s0.1 (sL s0.1 (f))))), (0, .ref (ad 22)), (1, .int (nI f)), (2, .int (nI (o.getD 0))), (3, .int (nI (oE.getD 0))), (4, .int (nI (oG.getD 0)))]) hx hb dX8_nested_69 hl (by decide) rfl (fun ls hl => ?_)
  refine lv_aload_n hx hb dX8_nested_71 rfl (lv_at hl 4 rfl) ?_
  refine lv_iload_n hx hb dX8_nested_72 rfl (lv_at hl 7 rfl) ?_
  refine lv_aload_n hx hb dX8_nested_73 rfl (lv_at hl 4 rfl) ?_
  refine lv_iload hx hb dX8_nested_74 (lv_at hl 8 rfl) ?_
  refine lv_aload_n hx hb dX8_nested_76 rfl (lv_at hl 4 rfl) ?_
  refine lv_iload hx hb dX8_nested_77 (lv_at hl 1 rfl) ?_
  refine lv_iload hx hb dX8_nested_79 (lv_at hl 0 rfl) ?_
  refine r_callVi (ci := 8) (As := [.int (nI (o1.getD 0)), .int (nI (o6.getD 0))]) hx hb hml hown hts hK hA hs (22) (by omega) (md22 hN6) rfl rfl (c_X8_a l G (o1 := o1) (o2 := o6) hN6 (fun _ _ => hgt) ((((((v1.1).mono hc2.2.2.2.2 hn1_).mono hc3.2.2.2.2 hn2_).mono hc4.2.2.2.2 hn3_).mono hc5.2.2.2.2 hn4_).mono hc6.2.2.2.2 hn5_) (((v6.1).self).vd) (fun q => v6.2 (v5.2 (v4.2 (v3.2 (none_i (v2.2 (none_i (q))))))))) (cwV 2 hts (tbV w_ml_RX8_184 w_im_yX8_a w_se_yX8_a w_ini_RX8 w_cd_yX8_a) rfl rfl rfl (by decide +kernel) ⟨Nat.le_of_ble_eq_true rfl, Nat.le_of_ble_eq_true rfl⟩) rfl hl.1 rfl (Nat.le_of_ble_eq_true rfl) dX8_nested_81 ⟨Nat.le_refl _, Nat.le_refl _⟩ (fun r_36 ad_33 en_34 H locs hp_35 hs => ?_)
  obtain ⟨⟨hA7, hF7⟩, hr7, hN7⟩ := hp_35
  subst hA7
  rw [hQ7] at hr7 hN7
  have hN7 : MdW G n ad en_34 s7.1 s7.2 c us (ovB o7.isNone) dp cl := hN7
  rw [show r_36 = nI (o7.getD 0) from hr7]
  have fr_37 : ∀ k, k < 22 → en_34 k = en k := fun k hk => Eq.trans (hF7 k hk) (fr_32 k hk)
  refine r_callVi (ci := 8) (As := [.int (nI (oG.getD 0)), .int (nI (o7.getD 0))]) hx hb hml hown hts hK hA hs (22) (by omega) (md22 hN7) rfl rfl (c_X8_a l G (o1 := oG) (o2 := o7) hN7 (fun _ _ => by rw [(sR_ext x7 hf.2).1]; exact hR1.1) (((((((((hoG).mono hc1.2.2.2.2).mono hc2.2.2.2.2).mono hc3.2.2.2.2).mono hc4.2.2.2.2).mono hc5.2.2.2.2).mono hc6.2.2.2.2).mono hc7.2.2.2.2).fn) ((v7.1).vd) (fun q => v7.2 (v6.2 (v5.2 (v4.2 (v3.2 (none_i (v2.2 (none_i (v1.2 (hGo q))))))))))) (cwV 2 hts (tbV w_ml_RX8_184 w_im_yX8_a w_se_yX8_a w_ini_RX8 w_cd_yX8_a) rfl rfl rfl (by decide +kernel) ⟨Nat.le_of_ble_eq_true rfl, Nat.le_of_ble_eq_true rfl⟩) rfl hl.1 rfl (Nat.le_of_ble_eq_true rfl) dX8_nested_84 ⟨Nat.le_refl _, Nat.le_refl _⟩ (fun r_41 ad_38 en_39 H locs hp_40 hs => ?_)
  obtain ⟨⟨hA8, hF8⟩, hr8, hN8⟩ := hp_40
  subst hA8
  rw [hQ8] at hr8 hN8
  have hN8 : MdW G n ad en_39 s8.1 s8.2 c us (ovB o8.isNone) dp cl := hN8
  rw [show r_41 = nI (o8.getD 0) from hr8]
  have fr_42 : ∀ k, k < 22 → en_39 k = en k := fun k hk => Eq.trans (hF8 k hk) (fr_37 k hk)
  refine r_callVi (ci := 8) (As := [.int (nI (oE.getD 0)), .int (nI (o8.getD 0))]) hx hb hml hown hts hK hA hs (22) (by omega) (md22 hN8) rfl rfl (c_X8_a l G (o1 := oE) (o2 := o8) hN8 (fun _ _ => hgE) (((((((((hoE).mono hc1.2.2.2.2 hn0_).mono hc2.2.2.2.2 hn1_).mono hc3.2.2.2.2 hn2_).mono hc4.2.2.2.2 hn3_).mono hc5.2.2.2.2 hn4_).mono hc6.2.2.2.2 hn5_).mono hc7.2.2.2.2 hn6_).mono hc8.2.2.2.2 hn7_) ((v8.1).vd) (fun q => v8.2 (v7.2 (v6.2 (v5.2 (v4.2 (v3.2 (none_i (v2.2 (none_i (v1.2 (hGo (hEG q))))))))))))) (cwV 2 hts (tbV w_ml_RX8_184 w_im_yX8_a w_se_yX8_a w_ini_RX8 w_cd_yX8_a) rfl rfl rfl (by decide +kernel) ⟨Nat.le_of_ble_eq_true rfl, Nat.le_of_ble_eq_true rfl⟩) rfl hl.1 rfl (Nat.le_of_ble_eq_true rfl) dX8_nested_87 ⟨Nat.le_refl _, Nat.le_refl _⟩ (fun r_46 ad_43 en_44 H locs hp_45 hs => ?_)
  obtain ⟨⟨hA9, hF9⟩, hr9, hN9⟩ := hp_45
  subst hA9
  rw [hQ9] at hr9 hN9
  have hN9 : MdW G n ad en_44 s9.1 s9.2 c us (ovB o9.isNone) dp cl := hN9
  rw [show r_46 = nI (o9.getD 0) from hr9]
  have fr_47 : ∀ k, k < 22 → en_44 k = en k := fun k hk => Eq.trans (hF9 k hk) (fr_42 k hk)
  refine r_iret (v := nI (o9.getD 0)) (mc := 0) (ms := 0) hx hb hr hlk hs (Nat.le_refl _) (Nat.le_refl _) dX8_nested_90 hQ ?_
  unfold mAct
  rw [hE]
  exact ⟨⟨rfl, fr_47⟩, rfl, hN9⟩

set_option maxHeartbeats 600000 in
set_option maxRecDepth 100000 in
theorem law_c0 (l : Launch) {pP : Program} {eE : Env} {sS : State} {mM : MethodId} {bB : List Frame} {tT : Method} {cC : Code} {b L : Nat} {xs : Nat → Int32} {G : rG} (hL : L ≤ 3072) (C0 : lw_At pP sS mM tT cC b L xs) (hK : rK G (lwA sS) sS) {i : Nat} (hi : i + 6 ≤ L) (IH : LawI pP l eE sS mM bB tT cC b G (i + 6)) {s0 : NSt} {jd RR SL : Nat} {SN : Nat → Nat → Bool} {sf : Nat → Int32} {fl : Bool} {hw : Nat} {dv : Nat → Int32} {SG : Nat → Nat → Bool} {fuel sp : Nat} {c : Nat → Nat → Int32} {ov dp cl : Int32} {C D : Nat} {ad : Nat → Nat} {en : Nat → va_E} {H : Heap} {locs : List Loc} {ls : Array Slot} (hW : PsW G 48 ad en s0 jd RR SL SN sf fl hw dv SG fuel sp) (hM : MdW G 48 ad en s0.1 s0.2 c (nI sp) ov dp cl) (hC : C ≤ 48 + pC7 s0 hw RR SL) (hD : D ≤ 126756 + pS7 s0 hw RR SL) (hs : rS G (lwA sS) sS.heap 48 ad en H locs) (hl : lv_has ls 4 [(3, .int (nI i)), (0, .ref b), (1, .ref (ad 0)), (2, .ref (ad 22))]) : W pP l eE room_1 sS mM #[Value.ref b] bB tT cC H locs C D (lw_Z bB #[Value.ref b] sS) (F0 mM 108 ls []) := by
  obtain ⟨hx, hb, hr, hml, hown, hts0, hX, hbl, hlocks, hgv⟩ := C0
  have hts : ∀ w ∈ TB, w.before #[Value.ref b] sS = true := fun w h => hts0 w (List.mem_filter.mp h).1
  have hown : sS.vm.findClass RL = some mM.cls := hown
  have hA : ∀ q : Nat, sS.heap.size ≤ q → lwA sS q := fun _ h => h
  have hbA : ¬ lwA sS b := Nat.not_le.mpr hbl
  obtain ⟨he0, hPm, hSc, hRR, hSL⟩ := id hW
  obtain ⟨hSt, hNd, hOk, -, he21⟩ := id hPm
  have h6 := hSt.2.2.2.2.2
  have h8 := hOk.1.1
  have hhw : hw ≤ 3000 := hSc.2.2.1.2.1
  have hp7 := p7_le (s := s0) h6.1 h8 hhw hRR hSL
  refine lv_aload_n hx hb dL_law_108 rfl (lv_at hl 2 rfl) ?_
  refine lv_aload_n hx hb dL_law_109 rfl (lv_at hl 1 rfl) ?_
  refine lv_iload_n hx hb dL_law_110 rfl (lv_at hl 0 rfl) ?_
  refine lv_iconst (v := 1) hx hb dL_law_111 (by decide) ?_
  refine lv_iadd hx hb dL_law_112 ?_
  refine r_topi (y := nI (i + 1)) (nI_add _ _) ?_
  refine va_sld (i := nI (i + 1)) hx hb hX hbl hbA hs.2.2 (vp_in_nI (by omega) (by omega)) dL_law_113 ?_
  refine r_topi (y := xs (i + 1)) (by rw [nI_clamp (by omega)]) ?_
  have hrm := rm_s (s := s0) (hw := hw) (RR := RR) (SL := SL) (fAtom_x s0.1 (xs (i + 1))).1 ((fAtom_x s0.1 (xs (i + 1))).2 h6.1) h8 hhw hRR hSL
  refine r_callVi (ci := 7) (As := [.int (xs (i + 1))]) hx hb hml hown hts hK hA hs (0) (by omega) hW.1 rfl rfl (c_X7_atom l G hW (xs (i + 1))) (cwV 1 hts (tbV w_ml_RL_13 w_im_yX7_atom w_se_yX7_atom w_ini_RX7 w_cd_yX7_atom) rfl rfl rfl (by decide +kernel) ⟨Nat.le_of_ble_eq_true rfl, Nat.le_of_ble_eq_true rfl⟩) rfl hl.1 rfl (Nat.le_of_ble_eq_true rfl) dL_law_114 ⟨by show C + (bC s0.1 (fAtom s0.1 (xs (i + 1))).2) ≤ 600000; omega, by show D + (bS s0.1 (fAtom s0.1 (xs (i + 1))).2) ≤ 7302250; omega⟩ (fun r_4 ad_1 en_2 H locs hp_3 hs => ?_)
  obtain ⟨hr1, ⟨jd1, RR1, SL1, SN1, sf1, fl1, hw1, dv1, SG1, fuel1, hW1, hc1, hd1⟩, hF1⟩ := hp_3
  have hM1 := Md_kp hM (ad1 := ad_1) (en1 := en_2) (fun k a b => hF1.1 k (by omega) (by unfold psA; omega)) (fun k a b => hF1.2 k (by omega) (by unfold psS; omega))
  rw [hr1]
  have hl : lv_has ls 4 [(3, .int (nI i)), (0, .ref (b)), (1, .ref (ad_1 0)), (2, .ref (ad_1 22))] := by rw [hF1.1 0 (by omega) (by unfold psA; omega), hF1.1 22 (by omega) (by unfold psA; omega)]; exact hl
  refine lv_aload_n hx hb dL_law_117 rfl (lv_at hl 3 rfl) ?_
  refine lv_aload_n hx hb dL_law_118 rfl (lv_at hl 1 rfl) ?_
  refine lv_iload_n hx hb dL_law_119 rfl (lv_at hl 0 rfl) ?_
  refine lv_iconst (v := 1) hx hb dL_law_120 (by decide) ?_
  refine lv_iadd hx hb dL_law_121 ?_
  refine r_topi (y := nI (i + 1)) (nI_add _ _) ?_
  refine va_sld (i := nI (i + 1)) hx hb hX hbl hbA hs.2.2 (vp_in_nI (by omega) (by omega)) dL_law_122 ?_
  refine r_topi (y := xs (i + 1)) (by rw [nI_clamp (by omega)]) ?_
  refine r_callVi (ci := 8) (As := [.int (xs (i + 1))]) hx hb hml hown hts hK hA hs (22) (by omega) (md22 hM1) rfl rfl (c_X8_atom l G hM1 (xs (i + 1))) (cwV 1 hts (tbV w_ml_RL_17 w_im_yX8_atom w_se_yX8_atom w_ini_RX8 w_cd_yX8_atom) rfl rfl rfl (by decide +kernel) ⟨Nat.le_of_ble_eq_true rfl, Nat.le_of_ble_eq_true rfl⟩) rfl hl.1 rfl (Nat.le_of_ble_eq_true rfl) dL_law_123 ⟨by show C + (bC s0.1 (fAtom s0.1 (xs (i + 1))).2) + 0 ≤ 600000; omega, by show D + (bS s0.1 (fAtom s0.1 (xs (i + 1))).2) + 0 ≤ 7302250; omega⟩ (fun r_8 ad_5 en_6 H locs hp_7 hs => ?_)
  obtain ⟨⟨hA2, hF2⟩, hr2, hM2⟩ := hp_7
  subst hA2
  have hW2 := Ps_kp hW1 hF2
  rw [hr2]
  refine lv_icmp_eq (tgt := 523) hx hb dL_law_126 (by decide) (fun _ => ?_) (fun c126 => absurd (rfl) c126)
  refine lv_iinc (v := nI (i + 6)) (lv' := [(3, .int (nI (i + 6))), (0, .ref (b)), (1, .ref (ad_1 0)), (2, .ref (ad_1 22))]) hx hb dL_law_523 hl (k := 0) rfl (nI_add i 6) (by decide) rfl (fun ls hl => ?_)
  refine lv_goto (tgt := 18) hx hb dL_law_526 (by decide) ?_
  exact IH _ _ _ _ _ _ _ _ _ _ _ _ _ _ _ _ _ _ _ _ _ _ _ hW2 hM2 (by omega) (by omega) hs (lv_sub hl [0, 1, 2, 3] rfl)
set_option maxHeartbeats 600000 in
set_option maxRecDepth 100000 in
theorem law_c1 (l : Launch) {pP : Program} {eE : Env} {sS : State} {mM : MethodId} {bB : List Frame} {tT : Method} {cC : Code} {b L : Nat} {xs : Nat → Int32} {G : rG} (hL : L ≤ 3072) (C0 : lw_At pP sS mM tT cC b L xs) (hK : rK G (lwA sS) sS) {i : Nat} (hi : i + 6 ≤ L) (IH : LawI pP l eE sS mM bB tT cC b G (i + 6)) {s0 : NSt} {jd RR SL : Nat} {SN : Nat → Nat → Bool} {sf : Nat → Int32} {fl : Bool} {hw : Nat} {dv : Nat → Int32} {SG : Nat → Nat → Bool} {fuel sp : Nat} {c : Nat → Nat → Int32} {ov dp cl : Int32} {C D : Nat} {ad : Nat → Nat} {en : Nat → va_E} {H : Heap} {locs : List Loc} {ls : Array Slot} (hW : PsW G 48 ad en s0 jd RR SL SN sf fl hw dv SG fuel sp) (hM : MdW G 48 ad en s0.1 s0.2 c (nI sp) ov dp cl) (hC : C ≤ 48 + pC7 s0 hw RR SL) (hD : D ≤ 126756 + pS7 s0 hw RR SL) (hs : rS G (lwA sS) sS.heap 48 ad en H locs) (hl : lv_has ls 4 [(3, .int (nI i)), (0, .ref b), (1, .ref (ad 0)), (2, .ref (ad 22))]) : W pP l eE room_1 sS mM #[Value.ref b] bB tT cC H locs C D (lw_Z bB #[Value.ref b] sS) (F0 mM 131 ls []) := by
  obtain ⟨hx, hb, hr, hml, hown, hts0, hX, hbl, hlocks, hgv⟩ := C0
  have hts : ∀ w ∈ TB, w.before #[Value.ref b] sS = true := fun w h => hts0 w (List.mem_filter.mp h).1
  have hown : sS.vm.findClass RL = some mM.cls := hown
  have hA : ∀ q : Nat, sS.heap.size ≤ q → lwA sS q := fun _ h => h
  have hbA : ¬ lwA sS b := Nat.not_le.mpr hbl
  obtain ⟨he0, hPm, hSc, hRR, hSL⟩ := id hW
  obtain ⟨hSt, hNd, hOk, -, he21⟩ := id hPm
  have h6 := hSt.2.2.2.2.2
  have h8 := hOk.1.1
  have hhw : hw ≤ 3000 := hSc.2.2.1.2.1
  have hp7 := p7_le (s := s0) h6.1 h8 hhw hRR hSL
  refine lv_aload_n hx hb dL_law_131 rfl (lv_at hl 2 rfl) ?_
  have hrm := rm_s (s := s0) (hw := hw) (RR := RR) (SL := SL) (fFals_x s0.1).1 ((fFals_x s0.1).2 h6.1) h8 hhw hRR hSL
  refine r_callVi (ci := 7) (As := []) hx hb hml hown hts hK hA hs (0) (by omega) hW.1 rfl rfl (c_X7_falsehood l G hW ) (cwV 0 hts (tbV w_ml_RL_18 w_im_yX7_falsehood w_se_yX7_falsehood w_ini_RX7 w_cd_yX7_falsehood) rfl rfl rfl (by decide +kernel) ⟨Nat.le_of_ble_eq_true rfl, Nat.le_of_ble_eq_true rfl⟩) rfl hl.1 rfl (Nat.le_of_ble_eq_true rfl) dL_law_132 ⟨by show C + (bC s0.1 (fFals s0.1).2) ≤ 600000; omega, by show D + (bS s0.1 (fFals s0.1).2) ≤ 7302250; omega⟩ (fun r_4 ad_1 en_2 H locs hp_3 hs => ?_)
  obtain ⟨hr1, ⟨jd1, RR1, SL1, SN1, sf1, fl1, hw1, dv1, SG1, fuel1, hW1, hc1, hd1⟩, hF1⟩ := hp_3
  have hM1 := Md_kp hM (ad1 := ad_1) (en1 := en_2) (fun k a b => hF1.1 k (by omega) (by unfold psA; omega)) (fun k a b => hF1.2 k (by omega) (by unfold psS; omega))
  rw [hr1]
  have hl : lv_has ls 4 [(3, .int (nI i)), (0, .ref (b)), (1, .ref (ad_1 0)), (2, .ref (ad_1 22))] := by rw [hF1.1 0 (by omega) (by unfold psA; omega), hF1.1 22 (by omega) (by unfold psA; omega)]; exact hl
  refine lv_aload_n hx hb dL_law_135 rfl (lv_at hl 3 rfl) ?_
  refine r_callVi (ci := 8) (As := []) hx hb hml hown hts hK hA hs (22) (by omega) (md22 hM1) rfl rfl (c_X8_falsehood l G hM1 ) (cwV 0 hts (tbV w_ml_RL_22 w_im_yX8_falsehood w_se_yX8_falsehood w_ini_RX8 w_cd_yX8_falsehood) rfl rfl rfl (by decide +kernel) ⟨Nat.le_of_ble_eq_true rfl, Nat.le_of_ble_eq_true rfl⟩) rfl hl.1 rfl (Nat.le_of_ble_eq_true rfl) dL_law_136 ⟨by show C + (bC s0.1 (fFals s0.1).2) + 0 ≤ 600000; omega, by show D + (bS s0.1 (fFals s0.1).2) + 0 ≤ 7302250; omega⟩ (fun r_8 ad_5 en_6 H locs hp_7 hs => ?_)
  obtain ⟨⟨hA2, hF2⟩, hr2, hM2⟩ := hp_7
  subst hA2
  have hW2 := Ps_kp hW1 hF2
  rw [hr2]
  refine lv_icmp_eq (tgt := 523) hx hb dL_law_139 (by decide) (fun _ => ?_) (fun c139 => absurd (rfl) c139)
  refine lv_iinc (v := nI (i + 6)) (lv' := [(3, .int (nI (i + 6))), (0, .ref (b)), (1, .ref (ad_1 0)), (2, .ref (ad_1 22))]) hx hb dL_law_523 hl (k := 0) rfl (nI_add i 6) (by decide) rfl (fun ls hl => ?_)
  refine lv_goto (tgt := 18) hx hb dL_law_526 (by decide) ?_
  exact IH _ _ _ _ _ _ _ _ _ _ _ _ _ _ _ _ _ _ _ _ _ _ _ hW2 hM2 (by omega) (by omega) hs (lv_sub hl [0, 1, 2, 3] rfl)
set_option maxHeartbeats 600000 in
set_option maxRecDepth 100000 in
theorem law_c2 (l : Launch) {pP : Program} {eE : Env} {sS : State} {mM : MethodId} {bB : List Frame} {tT : Method} {cC : Code} {b L : Nat} {xs : Nat → Int32} {G : rG} (hL : L ≤ 3072) (C0 : lw_At pP sS mM tT cC b L xs) (hK : rK G (lwA sS) sS) {i : Nat} (hi : i + 6 ≤ L) (IH : LawI pP l eE sS mM bB tT cC b G (i + 6)) {s0 : NSt} {jd RR SL : Nat} {SN : Nat → Nat → Bool} {sf : Nat → Int32} {fl : Bool} {hw : Nat} {dv : Nat → Int32} {SG : Nat → Nat → Bool} {fuel sp : Nat} {c : Nat → Nat → Int32} {ov dp cl : Int32} {C D : Nat} {ad : Nat → Nat} {en : Nat → va_E} {H : Heap} {locs : List Loc} {ls : Array Slot} (hW : PsW G 48 ad en s0 jd RR SL SN sf fl hw dv SG fuel sp) (hM : MdW G 48 ad en s0.1 s0.2 c (nI sp) ov dp cl) (hC : C ≤ 48 + pC7 s0 hw RR SL) (hD : D ≤ 126756 + pS7 s0 hw RR SL) (hs : rS G (lwA sS) sS.heap 48 ad en H locs) (hl : lv_has ls 4 [(3, .int (nI i)), (0, .ref b), (1, .ref (ad 0)), (2, .ref (ad 22))]) : W pP l eE room_1 sS mM #[Value.ref b] bB tT cC H locs C D (lw_Z bB #[Value.ref b] sS) (F0 mM 144 ls []) := by
  obtain ⟨hx, hb, hr, hml, hown, hts0, hX, hbl, hlocks, hgv⟩ := C0
  have hts : ∀ w ∈ TB, w.before #[Value.ref b] sS = true := fun w h => hts0 w (List.mem_filter.mp h).1
  have hown : sS.vm.findClass RL = some mM.cls := hown
  have hA : ∀ q : Nat, sS.heap.size ≤ q → lwA sS q := fun _ h => h
  have hbA : ¬ lwA sS b := Nat.not_le.mpr hbl
  obtain ⟨he0, hPm, hSc, hRR, hSL⟩ := id hW
  obtain ⟨hSt, hNd, hOk, -, he21⟩ := id hPm
  have h6 := hSt.2.2.2.2.2
  have h8 := hOk.1.1
  have hhw : hw ≤ 3000 := hSc.2.2.1.2.1
  have hp7 := p7_le (s := s0) h6.1 h8 hhw hRR hSL
  refine lv_aload_n hx hb dL_law_144 rfl (lv_at hl 2 rfl) ?_
  refine lv_aload_n hx hb dL_law_145 rfl (lv_at hl 1 rfl) ?_
  refine lv_iload_n hx hb dL_law_146 rfl (lv_at hl 0 rfl) ?_
  refine lv_iconst (v := 1) hx hb dL_law_147 (by decide) ?_
  refine lv_iadd hx hb dL_law_148 ?_
  refine r_topi (y := nI (i + 1)) (nI_add _ _) ?_
  refine va_sld (i := nI (i + 1)) hx hb hX hbl hbA hs.2.2 (vp_in_nI (by omega) (by omega)) dL_law_149 ?_
  refine r_topi (y := xs (i + 1)) (by rw [nI_clamp (by omega)]) ?_
  refine lv_aload_n hx hb dL_law_150 rfl (lv_at hl 1 rfl) ?_
  refine lv_iload_n hx hb dL_law_151 rfl (lv_at hl 0 rfl) ?_
  refine lv_iconst (v := 2) hx hb dL_law_152 (by decide) ?_
  refine lv_iadd hx hb dL_law_153 ?_
  refine r_topi (y := nI (i + 2)) (nI_add _ _) ?_
  refine va_sld (i := nI (i + 2)) hx hb hX hbl hbA hs.2.2 (vp_in_nI (by omega) (by omega)) dL_law_154 ?_
  refine r_topi (y := xs (i + 2)) (by rw [nI_clamp (by omega)]) ?_
  refine lv_aload_n hx hb dL_law_155 rfl (lv_at hl 1 rfl) ?_
  refine lv_iload_n hx hb dL_law_156 rfl (lv_at hl 0 rfl) ?_
  refine lv_iconst (v := 3) hx hb dL_law_157 (by decide) ?_
  refine lv_iadd hx hb dL_law_158 ?_
  refine r_topi (y := nI (i + 3)) (nI_add _ _) ?_
  refine va_sld (i := nI (i + 3)) hx hb hX hbl hbA hs.2.2 (vp_in_nI (by omega) (by omega)) dL_law_159 ?_
  refine r_topi (y := xs (i + 3)) (by rw [nI_clamp (by omega)]) ?_
  have hrm := rm_s (s := s0) (hw := hw) (RR := RR) (SL := SL) (fJoin_x s0.1 (xs (i + 1)) (xs (i + 2)) (xs (i + 3))).1 ((fJoin_x s0.1 (xs (i + 1)) (xs (i + 2)) (xs (i + 3))).2 h6.1) h8 hhw hRR hSL
  refine r_callVi (ci := 7) (As := [.int (xs (i + 1)), .int (xs (i + 2)), .int (xs (i + 3))]) hx hb hml hown hts hK hA hs (0) (by omega) hW.1 rfl rfl (c_X7_join l G hW (xs (i + 1)) (xs (i + 2)) (xs (i + 3))) (cwV 3 hts (tbV w_ml_RL_23 w_im_yX7_join w_se_yX7_join w_ini_RX7 w_cd_yX7_join) rfl rfl rfl (by decide +kernel) ⟨Nat.le_of_ble_eq_true rfl, Nat.le_of_ble_eq_true rfl⟩) rfl hl.1 rfl (Nat.le_of_ble_eq_true rfl) dL_law_160 ⟨by show C + (bC s0.1 (fJoin s0.1 (xs (i + 1)) (xs (i + 2)) (xs (i + 3))).2) ≤ 600000; omega, by show D + (bS s0.1 (fJoin s0.1 (xs (i + 1)) (xs (i + 2)) (xs (i + 3))).2) ≤ 7302250; omega⟩ (fun r_4 ad_1 en_2 H locs hp_3 hs => ?_)
  obtain ⟨hr1, ⟨jd1, RR1, SL1, SN1, sf1, fl1, hw1, dv1, SG1, fuel1, hW1, hc1, hd1⟩, hF1⟩ := hp_3
  have hM1 := Md_kp hM (ad1 := ad_1) (en1 := en_2) (fun k a b => hF1.1 k (by omega) (by unfold psA; omega)) (fun k a b => hF1.2 k (by omega) (by unfold psS; omega))
  rw [hr1]
  have hl : lv_has ls 4 [(3, .int (nI i)), (0, .ref (b)), (1, .ref (ad_1 0)), (2, .ref (ad_1 22))] := by rw [hF1.1 0 (by omega) (by unfold psA; omega), hF1.1 22 (by omega) (by unfold psA; omega)]; exact hl
  refine lv_aload_n hx hb dL_law_163 rfl (lv_at hl 3 rfl) ?_
  refine lv_aload_n hx hb dL_law_164 rfl (lv_at hl 1 rfl) ?_
  refine lv_iload_n hx hb dL_law_165 rfl (lv_at hl 0 rfl) ?_
  refine lv_iconst (v := 1) hx hb dL_law_166 (by decide) ?_
  refine lv_iadd hx hb dL_law_167 ?_
  refine r_topi (y := nI (i + 1)) (nI_add _ _) ?_
  refine va_sld (i := nI (i + 1)) hx hb hX hbl hbA hs.2.2 (vp_in_nI (by omega) (by omega)) dL_law_168 ?_
  refine r_topi (y := xs (i + 1)) (by rw [nI_clamp (by omega)]) ?_
  refine lv_aload_n hx hb dL_law_169 rfl (lv_at hl 1 rfl) ?_
  refine lv_iload_n hx hb dL_law_170 rfl (lv_at hl 0 rfl) ?_
  refine lv_iconst (v := 2) hx hb dL_law_171 (by decide) ?_
  refine lv_iadd hx hb dL_law_172 ?_
  refine r_topi (y := nI (i + 2)) (nI_add _ _) ?_
  refine va_sld (i := nI (i + 2)) hx hb hX hbl hbA hs.2.2 (vp_in_nI (by omega) (by omega)) dL_law_173 ?_
  refine r_topi (y := xs (i + 2)) (by rw [nI_clamp (by omega)]) ?_
  refine lv_aload_n hx hb dL_law_174 rfl (lv_at hl 1 rfl) ?_
  refine lv_iload_n hx hb dL_law_175 rfl (lv_at hl 0 rfl) ?_
  refine lv_iconst (v := 3) hx hb dL_law_176 (by decide) ?_
  refine lv_iadd hx hb dL_law_177 ?_
  refine r_topi (y := nI (i + 3)) (nI_add _ _) ?_
  refine va_sld (i := nI (i + 3)) hx hb hX hbl hbA hs.2.2 (vp_in_nI (by omega) (by omega)) dL_law_178 ?_
  refine r_topi (y := xs (i + 3)) (by rw [nI_clamp (by omega)]) ?_
  refine r_callVi (ci := 8) (As := [.int (xs (i + 1)), .int (xs (i + 2)), .int (xs (i + 3))]) hx hb hml hown hts hK hA hs (22) (by omega) (md22 hM1) rfl rfl (c_X8_join l G hM1 (xs (i + 1)) (xs (i + 2)) (xs (i + 3))) (cwV 3 hts (tbV w_ml_RL_27 w_im_yX8_join w_se_yX8_join w_ini_RX8 w_cd_yX8_join) rfl rfl rfl (by decide +kernel) ⟨Nat.le_of_ble_eq_true rfl, Nat.le_of_ble_eq_true rfl⟩) rfl hl.1 rfl (Nat.le_of_ble_eq_true rfl) dL_law_179 ⟨by show C + (bC s0.1 (fJoin s0.1 (xs (i + 1)) (xs (i + 2)) (xs (i + 3))).2) + 0 ≤ 600000; omega, by show D + (bS s0.1 (fJoin s0.1 (xs (i + 1)) (xs (i + 2)) (xs (i + 3))).2) + 0 ≤ 7302250; omega⟩ (fun r_8 ad_5 en_6 H locs hp_7 hs => ?_)
  obtain ⟨⟨hA2, hF2⟩, hr2, hM2⟩ := hp_7
  subst hA2
  have hW2 := Ps_kp hW1 hF2
  rw [hr2]
  refine lv_icmp_eq (tgt := 523) hx hb dL_law_182 (by decide) (fun _ => ?_) (fun c182 => absurd (rfl) c182)
  refine lv_iinc (v := nI (i + 6)) (lv' := [(3, .int (nI (i + 6))), (0, .ref (b)), (1, .ref (ad_1 0)), (2, .ref (ad_1 22))]) hx hb dL_law_523 hl (k := 0) rfl (nI_add i 6) (by decide) rfl (fun ls hl => ?_)
  refine lv_goto (tgt := 18) hx hb dL_law_526 (by decide) ?_
  exact IH _ _ _ _ _ _ _ _ _ _ _ _ _ _ _ _ _ _ _ _ _ _ _ hW2 hM2 (by omega) (by omega) hs (lv_sub hl [0, 1, 2, 3] rfl)
set_option maxHeartbeats 600000 in
set_option maxRecDepth 100000 in
theorem law_c3 (l : Launch) {pP : Program} {eE : Env} {sS : State} {mM : MethodId} {bB : List Frame} {tT : Method} {cC : Code} {b L : Nat} {xs : Nat → Int32} {G : rG} (hL : L ≤ 3072) (C0 : lw_At pP sS mM tT cC b L xs) (hK : rK G (lwA sS) sS) {i : Nat} (hi : i + 6 ≤ L) (IH : LawI pP l eE sS mM bB tT cC b G (i + 6)) {s0 : NSt} {jd RR SL : Nat} {SN : Nat → Nat → Bool} {sf : Nat → Int32} {fl : Bool} {hw : Nat} {dv : Nat → Int32} {SG : Nat → Nat → Bool} {fuel sp : Nat} {c : Nat → Nat → Int32} {ov dp cl : Int32} {C D : Nat} {ad : Nat → Nat} {en : Nat → va_E} {H : Heap} {locs : List Loc} {ls : Array Slot} (hW : PsW G 48 ad en s0 jd RR SL SN sf fl hw dv SG fuel sp) (hM : MdW G 48 ad en s0.1 s0.2 c (nI sp) ov dp cl) (hC : C ≤ 48 + pC7 s0 hw RR SL) (hD : D ≤ 126756 + pS7 s0 hw RR SL) (hs : rS G (lwA sS) sS.heap 48 ad en H locs) (hl : lv_has ls 4 [(3, .int (nI i)), (0, .ref b), (1, .ref (ad 0)), (2, .ref (ad 22))]) : W pP l eE room_1 sS mM #[Value.ref b] bB tT cC H locs C D (lw_Z bB #[Value.ref b] sS) (F0 mM 187 ls []) := by
  obtain ⟨hx, hb, hr, hml, hown, hts0, hX, hbl, hlocks, hgv⟩ := C0
  have hts : ∀ w ∈ TB, w.before #[Value.ref b] sS = true := fun w h => hts0 w (List.mem_filter.mp h).1
  have hown : sS.vm.findClass RL = some mM.cls := hown
  have hA : ∀ q : Nat, sS.heap.size ≤ q → lwA sS q := fun _ h => h
  have hbA : ¬ lwA sS b := Nat.not_le.mpr hbl
  obtain ⟨he0, hPm, hSc, hRR, hSL⟩ := id hW
  obtain ⟨hSt, hNd, hOk, -, he21⟩ := id hPm
  have h6 := hSt.2.2.2.2.2
  have h8 := hOk.1.1
  have hhw : hw ≤ 3000 := hSc.2.2.1.2.1
  have hp7 := p7_le (s := s0) h6.1 h8 hhw hRR hSL
  refine lv_aload_n hx hb dL_law_187 rfl (lv_at hl 2 rfl) ?_
  refine lv_aload_n hx hb dL_law_188 rfl (lv_at hl 1 rfl) ?_
  refine lv_iload_n hx hb dL_law_189 rfl (lv_at hl 0 rfl) ?_
  refine lv_iconst (v := 1) hx hb dL_law_190 (by decide) ?_
  refine lv_iadd hx hb dL_law_191 ?_
  refine r_topi (y := nI (i + 1)) (nI_add _ _) ?_
  refine va_sld (i := nI (i + 1)) hx hb hX hbl hbA hs.2.2 (vp_in_nI (by omega) (by omega)) dL_law_192 ?_
  refine r_topi (y := xs (i + 1)) (by rw [nI_clamp (by omega)]) ?_
  refine lv_aload_n hx hb dL_law_193 rfl (lv_at hl 1 rfl) ?_
  refine lv_iload_n hx hb dL_law_194 rfl (lv_at hl 0 rfl) ?_
  refine lv_iconst (v := 2) hx hb dL_law_195 (by decide) ?_
  refine lv_iadd hx hb dL_law_196 ?_
  refine r_topi (y := nI (i + 2)) (nI_add _ _) ?_
  refine va_sld (i := nI (i + 2)) hx hb hX hbl hbA hs.2.2 (vp_in_nI (by omega) (by omega)) dL_law_197 ?_
  refine r_topi (y := xs (i + 2)) (by rw [nI_clamp (by omega)]) ?_
  refine r_callViR (ci := 7) (As := [.int (xs (i + 1)), .int (xs (i + 2))]) hx hb hml hown hts hK hA hs (0) (by omega) hW.1 rfl rfl (c_X7_told l G hW (xs (i + 1)) (xs (i + 2))) (cwV 2 hts (tbV w_ml_RL_28 w_im_yX7_told w_se_yX7_told w_ini_RX7 w_cd_yX7_told) rfl rfl rfl (by decide +kernel) ⟨Nat.le_of_ble_eq_true rfl, Nat.le_of_ble_eq_true rfl⟩) rfl hl.1 rfl (Nat.le_of_ble_eq_true rfl) dL_law_198 ⟨by show C ≤ 600000; omega, by show D ≤ 7302250; omega⟩ (fun H locs hs => ?_)
  refine lv_aload_n hx hb dL_law_201 rfl (lv_at hl 3 rfl) ?_
  refine lv_aload_n hx hb dL_law_202 rfl (lv_at hl 1 rfl) ?_
  refine lv_iload_n hx hb dL_law_203 rfl (lv_at hl 0 rfl) ?_
  refine lv_iconst (v := 1) hx hb dL_law_204 (by decide) ?_
  refine lv_iadd hx hb dL_law_205 ?_
  refine r_topi (y := nI (i + 1)) (nI_add _ _) ?_
  refine va_sld (i := nI (i + 1)) hx hb hX hbl hbA hs.2.2 (vp_in_nI (by omega) (by omega)) dL_law_206 ?_
  refine r_topi (y := xs (i + 1)) (by rw [nI_clamp (by omega)]) ?_
  refine lv_aload_n hx hb dL_law_207 rfl (lv_at hl 1 rfl) ?_
  refine lv_iload_n hx hb dL_law_208 rfl (lv_at hl 0 rfl) ?_
  refine lv_iconst (v := 2) hx hb dL_law_209 (by decide) ?_
  refine lv_iadd hx hb dL_law_210 ?_
  refine r_topi (y := nI (i + 2)) (nI_add _ _) ?_
  refine va_sld (i := nI (i + 2)) hx hb hX hbl hbA hs.2.2 (vp_in_nI (by omega) (by omega)) dL_law_211 ?_
  refine r_topi (y := xs (i + 2)) (by rw [nI_clamp (by omega)]) ?_
  refine r_callViR (ci := 8) (As := [.int (xs (i + 1)), .int (xs (i + 2))]) hx hb hml hown hts hK hA hs (22) (by omega) (md22 hM) rfl rfl (c_X8_told l G hM (xs (i + 1)) (xs (i + 2))) (cwV 2 hts (tbV w_ml_RL_32 w_im_yX8_told w_se_yX8_told w_ini_RX8 w_cd_yX8_told) rfl rfl rfl (by decide +kernel) ⟨Nat.le_of_ble_eq_true rfl, Nat.le_of_ble_eq_true rfl⟩) rfl hl.1 rfl (Nat.le_of_ble_eq_true rfl) dL_law_212 ⟨by show C ≤ 600000; omega, by show D ≤ 7302250; omega⟩ (fun H locs hs => ?_)
  refine lv_icmp_eq (tgt := 523) hx hb dL_law_215 (by decide) (fun _ => ?_) (fun c215 => absurd (rfl) c215)
  refine lv_iinc (v := nI (i + 6)) (lv' := [(3, .int (nI (i + 6))), (0, .ref (b)), (1, .ref (ad 0)), (2, .ref (ad 22))]) hx hb dL_law_523 hl (k := 0) rfl (nI_add i 6) (by decide) rfl (fun ls hl => ?_)
  refine lv_goto (tgt := 18) hx hb dL_law_526 (by decide) ?_
  exact IH _ _ _ _ _ _ _ _ _ _ _ _ _ _ _ _ _ _ _ _ _ _ _ hW hM (hC) (hD) hs (lv_sub hl [0, 1, 2, 3] rfl)
set_option maxHeartbeats 600000 in
set_option maxRecDepth 100000 in
theorem law_c4 (l : Launch) {pP : Program} {eE : Env} {sS : State} {mM : MethodId} {bB : List Frame} {tT : Method} {cC : Code} {b L : Nat} {xs : Nat → Int32} {G : rG} (hL : L ≤ 3072) (C0 : lw_At pP sS mM tT cC b L xs) (hK : rK G (lwA sS) sS) {i : Nat} (hi : i + 6 ≤ L) (IH : LawI pP l eE sS mM bB tT cC b G (i + 6)) {s0 : NSt} {jd RR SL : Nat} {SN : Nat → Nat → Bool} {sf : Nat → Int32} {fl : Bool} {hw : Nat} {dv : Nat → Int32} {SG : Nat → Nat → Bool} {fuel sp : Nat} {c : Nat → Nat → Int32} {ov dp cl : Int32} {C D : Nat} {ad : Nat → Nat} {en : Nat → va_E} {H : Heap} {locs : List Loc} {ls : Array Slot} (hW : PsW G 48 ad en s0 jd RR SL SN sf fl hw dv SG fuel sp) (hM : MdW G 48 ad en s0.1 s0.2 c (nI sp) ov dp cl) (hC : C ≤ 48 + pC7 s0 hw RR SL) (hD : D ≤ 126756 + pS7 s0 hw RR SL) (hs : rS G (lwA sS) sS.heap 48 ad en H locs) (hl : lv_has ls 4 [(3, .int (nI i)), (0, .ref b), (1, .ref (ad 0)), (2, .ref (ad 22))]) : W pP l eE room_1 sS mM #[Value.ref b] bB tT cC H locs C D (lw_Z bB #[Value.ref b] sS) (F0 mM 220 ls []) := by
  obtain ⟨hx, hb, hr, hml, hown, hts0, hX, hbl, hlocks, hgv⟩ := C0
  have hts : ∀ w ∈ TB, w.before #[Value.ref b] sS = true := fun w h => hts0 w (List.mem_filter.mp h).1
  have hown : sS.vm.findClass RL = some mM.cls := hown
  have hA : ∀ q : Nat, sS.heap.size ≤ q → lwA sS q := fun _ h => h
  have hbA : ¬ lwA sS b := Nat.not_le.mpr hbl
  obtain ⟨he0, hPm, hSc, hRR, hSL⟩ := id hW
  obtain ⟨hSt, hNd, hOk, -, he21⟩ := id hPm
  have h6 := hSt.2.2.2.2.2
  have h8 := hOk.1.1
  have hhw : hw ≤ 3000 := hSc.2.2.1.2.1
  have hp7 := p7_le (s := s0) h6.1 h8 hhw hRR hSL
  refine lv_aload_n hx hb dL_law_220 rfl (lv_at hl 2 rfl) ?_
  refine r_callViR (ci := 7) (As := []) hx hb hml hown hts hK hA hs (0) (by omega) hW.1 rfl rfl (c_X7_statements l G hW ) (cwV 0 hts (tbV w_ml_RL_33 w_im_yX7_statements w_se_yX7_statements w_ini_RX7 w_cd_yX7_statements) rfl rfl rfl (by decide +kernel) ⟨Nat.le_of_ble_eq_true rfl, Nat.le_of_ble_eq_true rfl⟩) rfl hl.1 rfl (Nat.le_of_ble_eq_true rfl) dL_law_221 ⟨by show C ≤ 600000; omega, by show D ≤ 7302250; omega⟩ (fun H locs hs => ?_)
  refine lv_aload_n hx hb dL_law_224 rfl (lv_at hl 3 rfl) ?_
  refine r_callViR (ci := 8) (As := []) hx hb hml hown hts hK hA hs (22) (by omega) (md22 hM) rfl rfl (c_X8_statements l G hM ) (cwV 0 hts (tbV w_ml_RL_36 w_im_yX8_statements w_se_yX8_statements w_ini_RX8 w_cd_yX8_statements) rfl rfl rfl (by decide +kernel) ⟨Nat.le_of_ble_eq_true rfl, Nat.le_of_ble_eq_true rfl⟩) rfl hl.1 rfl (Nat.le_of_ble_eq_true rfl) dL_law_225 ⟨by show C ≤ 600000; omega, by show D ≤ 7302250; omega⟩ (fun H locs hs => ?_)
  refine lv_icmp_eq (tgt := 523) hx hb dL_law_228 (by decide) (fun _ => ?_) (fun c228 => absurd (rfl) c228)
  refine lv_iinc (v := nI (i + 6)) (lv' := [(3, .int (nI (i + 6))), (0, .ref (b)), (1, .ref (ad 0)), (2, .ref (ad 22))]) hx hb dL_law_523 hl (k := 0) rfl (nI_add i 6) (by decide) rfl (fun ls hl => ?_)
  refine lv_goto (tgt := 18) hx hb dL_law_526 (by decide) ?_
  exact IH _ _ _ _ _ _ _ _ _ _ _ _ _ _ _ _ _ _ _ _ _ _ _ hW hM (hC) (hD) hs (lv_sub hl [0, 1, 2, 3] rfl)
set_option maxHeartbeats 600000 in
set_option maxRecDepth 100000 in
theorem law_c5 (l : Launch) {pP : Program} {eE : Env} {sS : State} {mM : MethodId} {bB : List Frame} {tT : Method} {cC : Code} {b L : Nat} {xs : Nat → Int32} {G : rG} (hL : L ≤ 3072) (C0 : lw_At pP sS mM tT cC b L xs) (hK : rK G (lwA sS) sS) {i : Nat} (hi : i + 6 ≤ L) (IH : LawI pP l eE sS mM bB tT cC b G (i + 6)) {s0 : NSt} {jd RR SL : Nat} {SN : Nat → Nat → Bool} {sf : Nat → Int32} {fl : Bool} {hw : Nat} {dv : Nat → Int32} {SG : Nat → Nat → Bool} {fuel sp : Nat} {c : Nat → Nat → Int32} {ov dp cl : Int32} {C D : Nat} {ad : Nat → Nat} {en : Nat → va_E} {H : Heap} {locs : List Loc} {ls : Array Slot} (hW : PsW G 48 ad en s0 jd RR SL SN sf fl hw dv SG fuel sp) (hM : MdW G 48 ad en s0.1 s0.2 c (nI sp) ov dp cl) (hC : C ≤ 48 + pC7 s0 hw RR SL) (hD : D ≤ 126756 + pS7 s0 hw RR SL) (hs : rS G (lwA sS) sS.heap 48 ad en H locs) (hl : lv_has ls 4 [(3, .int (nI i)), (0, .ref b), (1, .ref (ad 0)), (2, .ref (ad 22))]) : W pP l eE room_1 sS mM #[Value.ref b] bB tT cC H locs C D (lw_Z bB #[Value.ref b] sS) (F0 mM 233 ls []) := by
  obtain ⟨hx, hb, hr, hml, hown, hts0, hX, hbl, hlocks, hgv⟩ := C0
  have hts : ∀ w ∈ TB, w.before #[Value.ref b] sS = true := fun w h => hts0 w (List.mem_filter.mp h).1
  have hown : sS.vm.findClass RL = some mM.cls := hown
  have hA : ∀ q : Nat, sS.heap.size ≤ q → lwA sS q := fun _ h => h
  have hbA : ¬ lwA sS b := Nat.not_le.mpr hbl
  obtain ⟨he0, hPm, hSc, hRR, hSL⟩ := id hW
  obtain ⟨hSt, hNd, hOk, -, he21⟩ := id hPm
  have h6 := hSt.2.2.2.2.2
  have h8 := hOk.1.1
  have hhw : hw ≤ 3000 := hSc.2.2.1.2.1
  have hp7 := p7_le (s := s0) h6.1 h8 hhw hRR hSL
  refine lv_aload_n hx hb dL_law_233 rfl (lv_at hl 2 rfl) ?_
  refine r_callViR (ci := 7) (As := []) hx hb hml hown hts hK hA hs (0) (by omega) hW.1 rfl rfl (c_X7_nodes l G hW ) (cwV 0 hts (tbV w_ml_RL_37 w_im_yX7_nodes w_se_yX7_nodes w_ini_RX7 w_cd_yX7_nodes) rfl rfl rfl (by decide +kernel) ⟨Nat.le_of_ble_eq_true rfl, Nat.le_of_ble_eq_true rfl⟩) rfl hl.1 rfl (Nat.le_of_ble_eq_true rfl) dL_law_234 ⟨by show C ≤ 600000; omega, by show D ≤ 7302250; omega⟩ (fun H locs hs => ?_)
  refine lv_aload_n hx hb dL_law_237 rfl (lv_at hl 3 rfl) ?_
  refine r_callViR (ci := 8) (As := []) hx hb hml hown hts hK hA hs (22) (by omega) (md22 hM) rfl rfl (c_X8_nodes l G hM ) (cwV 0 hts (tbV w_ml_RL_40 w_im_yX8_nodes w_se_yX8_nodes w_ini_RX8 w_cd_yX8_nodes) rfl rfl rfl (by decide +kernel) ⟨Nat.le_of_ble_eq_true rfl, Nat.le_of_ble_eq_true rfl⟩) rfl hl.1 rfl (Nat.le_of_ble_eq_true rfl) dL_law_238 ⟨by show C ≤ 600000; omega, by show D ≤ 7302250; omega⟩ (fun H locs hs => ?_)
  refine lv_icmp_eq (tgt := 523) hx hb dL_law_241 (by decide) (fun _ => ?_) (fun c241 => absurd (rfl) c241)
  refine lv_iinc (v := nI (i + 6)) (lv' := [(3, .int (nI (i + 6))), (0, .ref (b)), (1, .ref (ad 0)), (2, .ref (ad 22))]) hx hb dL_law_523 hl (k := 0) rfl (nI_add i 6) (by decide) rfl (fun ls hl => ?_)
  refine lv_goto (tgt := 18) hx hb dL_law_526 (by decide) ?_
  exact IH _ _ _ _ _ _ _ _ _ _ _ _ _ _ _ _ _ _ _ _ _ _ _ hW hM (hC) (hD) hs (lv_sub hl [0, 1, 2, 3] rfl)
set_option maxHeartbeats 600000 in
set_option maxRecDepth 100000 in
theorem law_c6 (l : Launch) {pP : Program} {eE : Env} {sS : State} {mM : MethodId} {bB : List Frame} {tT : Method} {cC : Code} {b L : Nat} {xs : Nat → Int32} {G : rG} (hL : L ≤ 3072) (C0 : lw_At pP sS mM tT cC b L xs) (hK : rK G (lwA sS) sS) {i : Nat} (hi : i + 6 ≤ L) (IH : LawI pP l eE sS mM bB tT cC b G (i + 6)) {s0 : NSt} {jd RR SL : Nat} {SN : Nat → Nat → Bool} {sf : Nat → Int32} {fl : Bool} {hw : Nat} {dv : Nat → Int32} {SG : Nat → Nat → Bool} {fuel sp : Nat} {c : Nat → Nat → Int32} {ov dp cl : Int32} {C D : Nat} {ad : Nat → Nat} {en : Nat → va_E} {H : Heap} {locs : List Loc} {ls : Array Slot} (hW : PsW G 48 ad en s0 jd RR SL SN sf fl hw dv SG fuel sp) (hM : MdW G 48 ad en s0.1 s0.2 c (nI sp) ov dp cl) (hC : C ≤ 48 + pC7 s0 hw RR SL) (hD : D ≤ 126756 + pS7 s0 hw RR SL) (hs : rS G (lwA sS) sS.heap 48 ad en H locs) (hl : lv_has ls 4 [(3, .int (nI i)), (0, .ref b), (1, .ref (ad 0)), (2, .ref (ad 22))]) : W pP l eE room_1 sS mM #[Value.ref b] bB tT cC H locs C D (lw_Z bB #[Value.ref b] sS) (F0 mM 246 ls []) := by
  obtain ⟨hx, hb, hr, hml, hown, hts0, hX, hbl, hlocks, hgv⟩ := C0
  have hts : ∀ w ∈ TB, w.before #[Value.ref b] sS = true := fun w h => hts0 w (List.mem_filter.mp h).1
  have hown : sS.vm.findClass RL = some mM.cls := hown
  have hA : ∀ q : Nat, sS.heap.size ≤ q → lwA sS q := fun _ h => h
  have hbA : ¬ lwA sS b := Nat.not_le.mpr hbl
  obtain ⟨he0, hPm, hSc, hRR, hSL⟩ := id hW
  obtain ⟨hSt, hNd, hOk, -, he21⟩ := id hPm
  have h6 := hSt.2.2.2.2.2
  have h8 := hOk.1.1
  have hhw : hw ≤ 3000 := hSc.2.2.1.2.1
  have hp7 := p7_le (s := s0) h6.1 h8 hhw hRR hSL
  refine lv_aload_n hx hb dL_law_246 rfl (lv_at hl 2 rfl) ?_
  refine lv_aload_n hx hb dL_law_247 rfl (lv_at hl 1 rfl) ?_
  refine lv_iload_n hx hb dL_law_248 rfl (lv_at hl 0 rfl) ?_
  refine lv_iconst (v := 1) hx hb dL_law_249 (by decide) ?_
  refine lv_iadd hx hb dL_law_250 ?_
  refine r_topi (y := nI (i + 1)) (nI_add _ _) ?_
  refine va_sld (i := nI (i + 1)) hx hb hX hbl hbA hs.2.2 (vp_in_nI (by omega) (by omega)) dL_law_251 ?_
  refine r_topi (y := xs (i + 1)) (by rw [nI_clamp (by omega)]) ?_
  refine lv_aload_n hx hb dL_law_252 rfl (lv_at hl 1 rfl) ?_
  refine lv_iload_n hx hb dL_law_253 rfl (lv_at hl 0 rfl) ?_
  refine lv_iconst (v := 2) hx hb dL_law_254 (by decide) ?_
  refine lv_iadd hx hb dL_law_255 ?_
  refine r_topi (y := nI (i + 2)) (nI_add _ _) ?_
  refine va_sld (i := nI (i + 2)) hx hb hX hbl hbA hs.2.2 (vp_in_nI (by omega) (by omega)) dL_law_256 ?_
  refine r_topi (y := xs (i + 2)) (by rw [nI_clamp (by omega)]) ?_
  have hrm := rm_p (s := s0) (hw := hw) (RR := RR) (SL := SL) (dv := dv) (x := (xs (i + 1))) (y := (xs (i + 2))) h6 h8 hhw hRR hSL
  refine r_callVi (ci := 7) (As := [.int (xs (i + 1)), .int (xs (i + 2))]) hx hb hml hown hts hK hA hs (0) (by omega) hW.1 rfl rfl (c_X7_prove l G hW (xs (i + 1)) (xs (i + 2))) (cwV 2 hts (tbV w_ml_RL_41 w_im_yX7_prove w_se_yX7_prove w_ini_RX7 w_cd_yX7_prove) rfl rfl rfl (by decide +kernel) ⟨Nat.le_of_ble_eq_true rfl, Nat.le_of_ble_eq_true rfl⟩) rfl hl.1 rfl (Nat.le_of_ble_eq_true rfl) dL_law_257 ⟨by show C + (fPC dv hw s0 (xs (i + 1)) (xs (i + 2))) ≤ 600000; omega, by show D + (fPS dv hw s0 (xs (i + 1)) (xs (i + 2))) ≤ 7302250; omega⟩ (fun r_4 ad_1 en_2 H locs hp_3 hs => ?_)
  obtain ⟨hr1, ⟨jd1, RR1, SL1, SN1, sf1, fl1, hw1, dv1, SG1, fuel1, hW1, hc1, hd1⟩, hF1⟩ := hp_3
  have hM1 := Md_kp hM (ad1 := ad_1) (en1 := en_2) (fun k a b => hF1.1 k (by omega) (by unfold psA; omega)) (fun k a b => hF1.2 k (by omega) (by unfold psS; omega))
  rw [hr1]
  have hl : lv_has ls 4 [(3, .int (nI i)), (0, .ref (b)), (1, .ref (ad_1 0)), (2, .ref (ad_1 22))] := by rw [hF1.1 0 (by omega) (by unfold psA; omega), hF1.1 22 (by omega) (by unfold psA; omega)]; exact hl
  refine lv_aload_n hx hb dL_law_260 rfl (lv_at hl 3 rfl) ?_
  refine lv_aload_n hx hb dL_law_261 rfl (lv_at hl 1 rfl) ?_
  refine lv_iload_n hx hb dL_law_262 rfl (lv_at hl 0 rfl) ?_
  refine lv_iconst (v := 1) hx hb dL_law_263 (by decide) ?_
  refine lv_iadd hx hb dL_law_264 ?_
  refine r_topi (y := nI (i + 1)) (nI_add _ _) ?_
  refine va_sld (i := nI (i + 1)) hx hb hX hbl hbA hs.2.2 (vp_in_nI (by omega) (by omega)) dL_law_265 ?_
  refine r_topi (y := xs (i + 1)) (by rw [nI_clamp (by omega)]) ?_
  refine lv_aload_n hx hb dL_law_266 rfl (lv_at hl 1 rfl) ?_
  refine lv_iload_n hx hb dL_law_267 rfl (lv_at hl 0 rfl) ?_
  refine lv_iconst (v := 2) hx hb dL_law_268 (by decide) ?_
  refine lv_iadd hx hb dL_law_269 ?_
  refine r_topi (y := nI (i + 2)) (nI_add _ _) ?_
  refine va_sld (i := nI (i + 2)) hx hb hX hbl hbA hs.2.2 (vp_in_nI (by omega) (by omega)) dL_law_270 ?_
  refine r_topi (y := xs (i + 2)) (by rw [nI_clamp (by omega)]) ?_
  refine r_callVi (ci := 8) (As := [.int (xs (i + 1)), .int (xs (i + 2))]) hx hb hml hown hts hK hA hs (22) (by omega) (md22 hM1) rfl rfl (c_X8_prove l G (s0 := s0) (us := sp) hM1 dv (xs (i + 1)) (xs (i + 2))) (cwV 2 hts (tbV w_ml_RL_44 w_im_yX8_prove w_se_yX8_prove w_ini_RX8 w_cd_yX8_prove) rfl rfl rfl (by decide +kernel) ⟨Nat.le_of_ble_eq_true rfl, Nat.le_of_ble_eq_true rfl⟩) rfl hl.1 rfl (Nat.le_of_ble_eq_true rfl) dL_law_271 ⟨by show C + (fPC dv hw s0 (xs (i + 1)) (xs (i + 2))) + 0 ≤ 600000; omega, by show D + (fPS dv hw s0 (xs (i + 1)) (xs (i + 2))) + 0 ≤ 7302250; omega⟩ (fun r_8 ad_5 en_6 H locs hp_7 hs => ?_)
  obtain ⟨⟨hA2, hF2⟩, hr2, c2, ov2, dp2, cl2, hM2⟩ := hp_7
  subst hA2
  have hW2 := Ps_kp hW1 hF2
  rw [hr2]
  refine lv_icmp_eq (tgt := 523) hx hb dL_law_274 (by decide) (fun _ => ?_) (fun c274 => absurd (rfl) c274)
  refine lv_iinc (v := nI (i + 6)) (lv' := [(3, .int (nI (i + 6))), (0, .ref (b)), (1, .ref (ad_1 0)), (2, .ref (ad_1 22))]) hx hb dL_law_523 hl (k := 0) rfl (nI_add i 6) (by decide) rfl (fun ls hl => ?_)
  refine lv_goto (tgt := 18) hx hb dL_law_526 (by decide) ?_
  exact IH _ _ _ _ _ _ _ _ _ _ _ _ _ _ _ _ _ _ _ _ _ _ _ hW2 hM2 (by omega) (by omega) hs (lv_sub hl [0, 1, 2, 3] rfl)
set_option maxHeartbeats 600000 in
set_option maxRecDepth 100000 in
theorem law_c7 (l : Launch) {pP : Program} {eE : Env} {sS : State} {mM : MethodId} {bB : List Frame} {tT : Method} {cC : Code} {b L : Nat} {xs : Nat → Int32} {G : rG} (hL : L ≤ 3072) (C0 : lw_At pP sS mM tT cC b L xs) (hK : rK G (lwA sS) sS) {i : Nat} (hi : i + 6 ≤ L) (IH : LawI pP l eE sS mM bB tT cC b G (i + 6)) {s0 : NSt} {jd RR SL : Nat} {SN : Nat → Nat → Bool} {sf : Nat → Int32} {fl : Bool} {hw : Nat} {dv : Nat → Int32} {SG : Nat → Nat → Bool} {fuel sp : Nat} {c : Nat → Nat → Int32} {ov dp cl : Int32} {C D : Nat} {ad : Nat → Nat} {en : Nat → va_E} {H : Heap} {locs : List Loc} {ls : Array Slot} (hW : PsW G 48 ad en s0 jd RR SL SN sf fl hw dv SG fuel sp) (hM : MdW G 48 ad en s0.1 s0.2 c (nI sp) ov dp cl) (hC : C ≤ 48 + pC7 s0 hw RR SL) (hD : D ≤ 126756 + pS7 s0 hw RR SL) (hs : rS G (lwA sS) sS.heap 48 ad en H locs) (hl : lv_has ls 4 [(3, .int (nI i)), (0, .ref b), (1, .ref (ad 0)), (2, .ref (ad 22))]) : W pP l eE room_1 sS mM #[Value.ref b] bB tT cC H locs C D (lw_Z bB #[Value.ref b] sS) (F0 mM 279 ls []) := by
  obtain ⟨hx, hb, hr, hml, hown, hts0, hX, hbl, hlocks, hgv⟩ := C0
  have hts : ∀ w ∈ TB, w.before #[Value.ref b] sS = true := fun w h => hts0 w (List.mem_filter.mp h).1
  have hown : sS.vm.findClass RL = some mM.cls := hown
  have hA : ∀ q : Nat, sS.heap.size ≤ q → lwA sS q := fun _ h => h
  have hbA : ¬ lwA sS b := Nat.not_le.mpr hbl
  obtain ⟨he0, hPm, hSc, hRR, hSL⟩ := id hW
  obtain ⟨hSt, hNd, hOk, -, he21⟩ := id hPm
  have h6 := hSt.2.2.2.2.2
  have h8 := hOk.1.1
  have hhw : hw ≤ 3000 := hSc.2.2.1.2.1
  have hp7 := p7_le (s := s0) h6.1 h8 hhw hRR hSL
  refine lv_aload_n hx hb dL_law_279 rfl (lv_at hl 2 rfl) ?_
  refine r_callViR (ci := 7) (As := []) hx hb hml hown hts hK hA hs (0) (by omega) hW.1 rfl rfl (c_X7_used l G hW ) (cwV 0 hts (tbV w_ml_RL_45 w_im_yX7_used w_se_yX7_used w_ini_RX7 w_cd_yX7_used) rfl rfl rfl (by decide +kernel) ⟨Nat.le_of_ble_eq_true rfl, Nat.le_of_ble_eq_true rfl⟩) rfl hl.1 rfl (Nat.le_of_ble_eq_true rfl) dL_law_280 ⟨by show C ≤ 600000; omega, by show D ≤ 7302250; omega⟩ (fun H locs hs => ?_)
  refine lv_aload_n hx hb dL_law_283 rfl (lv_at hl 3 rfl) ?_
  refine r_callViR (ci := 8) (As := []) hx hb hml hown hts hK hA hs (22) (by omega) (md22 hM) rfl rfl (c_X8_used l G hM ) (cwV 0 hts (tbV w_ml_RL_48 w_im_yX8_used w_se_yX8_used w_ini_RX8 w_cd_yX8_used) rfl rfl rfl (by decide +kernel) ⟨Nat.le_of_ble_eq_true rfl, Nat.le_of_ble_eq_true rfl⟩) rfl hl.1 rfl (Nat.le_of_ble_eq_true rfl) dL_law_284 ⟨by show C ≤ 600000; omega, by show D ≤ 7302250; omega⟩ (fun H locs hs => ?_)
  refine lv_icmp_eq (tgt := 523) hx hb dL_law_287 (by decide) (fun _ => ?_) (fun c287 => absurd (rfl) c287)
  refine lv_iinc (v := nI (i + 6)) (lv' := [(3, .int (nI (i + 6))), (0, .ref (b)), (1, .ref (ad 0)), (2, .ref (ad 22))]) hx hb dL_law_523 hl (k := 0) rfl (nI_add i 6) (by decide) rfl (fun ls hl => ?_)
  refine lv_goto (tgt := 18) hx hb dL_law_526 (by decide) ?_
  exact IH _ _ _ _ _ _ _ _ _ _ _ _ _ _ _ _ _ _ _ _ _ _ _ hW hM (hC) (hD) hs (lv_sub hl [0, 1, 2, 3] rfl)
set_option maxHeartbeats 600000 in
set_option maxRecDepth 100000 in
theorem law_c8 (l : Launch) {pP : Program} {eE : Env} {sS : State} {mM : MethodId} {bB : List Frame} {tT : Method} {cC : Code} {b L : Nat} {xs : Nat → Int32} {G : rG} (hL : L ≤ 3072) (C0 : lw_At pP sS mM tT cC b L xs) (hK : rK G (lwA sS) sS) {i : Nat} (hi : i + 6 ≤ L) (IH : LawI pP l eE sS mM bB tT cC b G (i + 6)) {s0 : NSt} {jd RR SL : Nat} {SN : Nat → Nat → Bool} {sf : Nat → Int32} {fl : Bool} {hw : Nat} {dv : Nat → Int32} {SG : Nat → Nat → Bool} {fuel sp : Nat} {c : Nat → Nat → Int32} {ov dp cl : Int32} {C D : Nat} {ad : Nat → Nat} {en : Nat → va_E} {H : Heap} {locs : List Loc} {ls : Array Slot} (hW : PsW G 48 ad en s0 jd RR SL SN sf fl hw dv SG fuel sp) (hM : MdW G 48 ad en s0.1 s0.2 c (nI sp) ov dp cl) (hC : C ≤ 48 + pC7 s0 hw RR SL) (hD : D ≤ 126756 + pS7 s0 hw RR SL) (hs : rS G (lwA sS) sS.heap 48 ad en H locs) (hl : lv_has ls 4 [(3, .int (nI i)), (0, .ref b), (1, .ref (ad 0)), (2, .ref (ad 22))]) : W pP l eE room_1 sS mM #[Value.ref b] bB tT cC H locs C D (lw_Z bB #[Value.ref b] sS) (F0 mM 292 ls []) := by
  obtain ⟨hx, hb, hr, hml, hown, hts0, hX, hbl, hlocks, hgv⟩ := C0
  have hts : ∀ w ∈ TB, w.before #[Value.ref b] sS = true := fun w h => hts0 w (List.mem_filter.mp h).1
  have hown : sS.vm.findClass RL = some mM.cls := hown
  have hA : ∀ q : Nat, sS.heap.size ≤ q → lwA sS q := fun _ h => h
  have hbA : ¬ lwA sS b := Nat.not_le.mpr hbl
  obtain ⟨he0, hPm, hSc, hRR, hSL⟩ := id hW
  obtain ⟨hSt, hNd, hOk, -, he21⟩ := id hPm
  have h6 := hSt.2.2.2.2.2
  have h8 := hOk.1.1
  have hhw : hw ≤ 3000 := hSc.2.2.1.2.1
  have hp7 := p7_le (s := s0) h6.1 h8 hhw hRR hSL
  refine lv_aload_n hx hb dL_law_292 rfl (lv_at hl 2 rfl) ?_
  refine lv_aload_n hx hb dL_law_293 rfl (lv_at hl 1 rfl) ?_
  refine lv_iload_n hx hb dL_law_294 rfl (lv_at hl 0 rfl) ?_
  refine lv_iconst (v := 1) hx hb dL_law_295 (by decide) ?_
  refine lv_iadd hx hb dL_law_296 ?_
  refine r_topi (y := nI (i + 1)) (nI_add _ _) ?_
  refine va_sld (i := nI (i + 1)) hx hb hX hbl hbA hs.2.2 (vp_in_nI (by omega) (by omega)) dL_law_297 ?_
  refine r_topi (y := xs (i + 1)) (by rw [nI_clamp (by omega)]) ?_
  refine lv_aload_n hx hb dL_law_298 rfl (lv_at hl 1 rfl) ?_
  refine lv_iload_n hx hb dL_law_299 rfl (lv_at hl 0 rfl) ?_
  refine lv_iconst (v := 2) hx hb dL_law_300 (by decide) ?_
  refine lv_iadd hx hb dL_law_301 ?_
  refine r_topi (y := nI (i + 2)) (nI_add _ _) ?_
  refine va_sld (i := nI (i + 2)) hx hb hX hbl hbA hs.2.2 (vp_in_nI (by omega) (by omega)) dL_law_302 ?_
  refine r_topi (y := xs (i + 2)) (by rw [nI_clamp (by omega)]) ?_
  refine lv_aload_n hx hb dL_law_303 rfl (lv_at hl 1 rfl) ?_
  refine lv_iload_n hx hb dL_law_304 rfl (lv_at hl 0 rfl) ?_
  refine lv_iconst (v := 3) hx hb dL_law_305 (by decide) ?_
  refine lv_iadd hx hb dL_law_306 ?_
  refine r_topi (y := nI (i + 3)) (nI_add _ _) ?_
  refine va_sld (i := nI (i + 3)) hx hb hX hbl hbA hs.2.2 (vp_in_nI (by omega) (by omega)) dL_law_307 ?_
  refine r_topi (y := xs (i + 3)) (by rw [nI_clamp (by omega)]) ?_
  refine lv_aload_n hx hb dL_law_308 rfl (lv_at hl 1 rfl) ?_
  refine lv_iload_n hx hb dL_law_309 rfl (lv_at hl 0 rfl) ?_
  refine lv_iconst (v := 4) hx hb dL_law_310 (by decide) ?_
  refine lv_iadd hx hb dL_law_311 ?_
  refine r_topi (y := nI (i + 4)) (nI_add _ _) ?_
  refine va_sld (i := nI (i + 4)) hx hb hX hbl hbA hs.2.2 (vp_in_nI (by omega) (by omega)) dL_law_312 ?_
  refine r_topi (y := xs (i + 4)) (by rw [nI_clamp (by omega)]) ?_
  refine lv_aload_n hx hb dL_law_313 rfl (lv_at hl 1 rfl) ?_
  refine lv_iload_n hx hb dL_law_314 rfl (lv_at hl 0 rfl) ?_
  refine lv_iconst (v := 5) hx hb dL_law_315 (by decide) ?_
  refine lv_iadd hx hb dL_law_316 ?_
  refine r_topi (y := nI (i + 5)) (nI_add _ _) ?_
  refine va_sld (i := nI (i + 5)) hx hb hX hbl hbA hs.2.2 (vp_in_nI (by omega) (by omega)) dL_law_317 ?_
  refine r_topi (y := xs (i + 5)) (by rw [nI_clamp (by omega)]) ?_
  have hrm := rm_n (s := s0) (hw := hw) (RR := RR) (SL := SL) (fNode_x s0 (xs (i + 1)) (xs (i + 2)) (xs (i + 3)) (xs (i + 4)) (xs (i + 5))).1 ((fNode_x s0 (xs (i + 1)) (xs (i + 2)) (xs (i + 3)) (xs (i + 4)) (xs (i + 5))).2 h8) h6.1 hhw hRR hSL
  refine r_callVi (ci := 7) (As := [.int (xs (i + 1)), .int (xs (i + 2)), .int (xs (i + 3)), .int (xs (i + 4)), .int (xs (i + 5))]) hx hb hml hown hts hK hA hs (0) (by omega) hW.1 rfl rfl (c_X7_node l G hW (xs (i + 1)) (xs (i + 2)) (xs (i + 3)) (xs (i + 4)) (xs (i + 5))) (cwV 5 hts (tbV w_ml_RL_49 w_im_yX7_node w_se_yX7_node w_ini_RX7 w_cd_yX7_node) rfl rfl rfl (by decide +kernel) ⟨Nat.le_of_ble_eq_true rfl, Nat.le_of_ble_eq_true rfl⟩) rfl hl.1 rfl (Nat.le_of_ble_eq_true rfl) dL_law_318 ⟨by show C + (bC s0.2 (fNode s0 (xs (i + 1)) (xs (i + 2)) (xs (i + 3)) (xs (i + 4)) (xs (i + 5))).2) ≤ 600000; omega, by show D + (bS s0.2 (fNode s0 (xs (i + 1)) (xs (i + 2)) (xs (i + 3)) (xs (i + 4)) (xs (i + 5))).2) ≤ 7302250; omega⟩ (fun r_4 ad_1 en_2 H locs hp_3 hs => ?_)
  obtain ⟨hr1, ⟨jd1, RR1, SL1, SN1, sf1, fl1, hw1, dv1, SG1, fuel1, hW1, hc1, hd1⟩, hF1⟩ := hp_3
  have hM1 := Md_kp hM (ad1 := ad_1) (en1 := en_2) (fun k a b => hF1.1 k (by omega) (by unfold psA; omega)) (fun k a b => hF1.2 k (by omega) (by unfold psS; omega))
  rw [hr1]
  have hl : lv_has ls 4 [(3, .int (nI i)), (0, .ref (b)), (1, .ref (ad_1 0)), (2, .ref (ad_1 22))] := by rw [hF1.1 0 (by omega) (by unfold psA; omega), hF1.1 22 (by omega) (by unfold psA; omega)]; exact hl
  refine lv_aload_n hx hb dL_law_321 rfl (lv_at hl 3 rfl) ?_
  refine lv_aload_n hx hb dL_law_322 rfl (lv_at hl 1 rfl) ?_
  refine lv_iload_n hx hb dL_law_323 rfl (lv_at hl 0 rfl) ?_
  refine lv_iconst (v := 1) hx hb dL_law_324 (by decide) ?_
  refine lv_iadd hx hb dL_law_325 ?_
  refine r_topi (y := nI (i + 1)) (nI_add _ _) ?_
  refine va_sld (i := nI (i + 1)) hx hb hX hbl hbA hs.2.2 (vp_in_nI (by omega) (by omega)) dL_law_326 ?_
  refine r_topi (y := xs (i + 1)) (by rw [nI_clamp (by omega)]) ?_
  refine lv_aload_n hx hb dL_law_327 rfl (lv_at hl 1 rfl) ?_
  refine lv_iload_n hx hb dL_law_328 rfl (lv_at hl 0 rfl) ?_
  refine lv_iconst (v := 2) hx hb dL_law_329 (by decide) ?_
  refine lv_iadd hx hb dL_law_330 ?_
  refine r_topi (y := nI (i + 2)) (nI_add _ _) ?_
  refine va_sld (i := nI (i + 2)) hx hb hX hbl hbA hs.2.2 (vp_in_nI (by omega) (by omega)) dL_law_331 ?_
  refine r_topi (y := xs (i + 2)) (by rw [nI_clamp (by omega)]) ?_
  refine lv_aload_n hx hb dL_law_332 rfl (lv_at hl 1 rfl) ?_
  refine lv_iload_n hx hb dL_law_333 rfl (lv_at hl 0 rfl) ?_
  refine lv_iconst (v := 3) hx hb dL_law_334 (by decide) ?_
  refine lv_iadd hx hb dL_law_335 ?_
  refine r_topi (y := nI (i + 3)) (nI_add _ _) ?_
  refine va_sld (i := nI (i + 3)) hx hb hX hbl hbA hs.2.2 (vp_in_nI (by omega) (by omega)) dL_law_336 ?_
  refine r_topi (y := xs (i + 3)) (by rw [nI_clamp (by omega)]) ?_
  refine lv_aload_n hx hb dL_law_337 rfl (lv_at hl 1 rfl) ?_
  refine lv_iload_n hx hb dL_law_338 rfl (lv_at hl 0 rfl) ?_
  refine lv_iconst (v := 4) hx hb dL_law_339 (by decide) ?_
  refine lv_iadd hx hb dL_law_340 ?_
  refine r_topi (y := nI (i + 4)) (nI_add _ _) ?_
  refine va_sld (i := nI (i + 4)) hx hb hX hbl hbA hs.2.2 (vp_in_nI (by omega) (by omega)) dL_law_341 ?_
  refine r_topi (y := xs (i + 4)) (by rw [nI_clamp (by omega)]) ?_
  refine lv_aload_n hx hb dL_law_342 rfl (lv_at hl 1 rfl) ?_
  refine lv_iload_n hx hb dL_law_343 rfl (lv_at hl 0 rfl) ?_
  refine lv_iconst (v := 5) hx hb dL_law_344 (by decide) ?_
  refine lv_iadd hx hb dL_law_345 ?_
  refine r_topi (y := nI (i + 5)) (nI_add _ _) ?_
  refine va_sld (i := nI (i + 5)) hx hb hX hbl hbA hs.2.2 (vp_in_nI (by omega) (by omega)) dL_law_346 ?_
  refine r_topi (y := xs (i + 5)) (by rw [nI_clamp (by omega)]) ?_
  refine r_callVi (ci := 8) (As := [.int (xs (i + 1)), .int (xs (i + 2)), .int (xs (i + 3)), .int (xs (i + 4)), .int (xs (i + 5))]) hx hb hml hown hts hK hA hs (22) (by omega) (md22 hM1) rfl rfl (c_X8_node l G (s0 := s0) hM1 (xs (i + 1)) (xs (i + 2)) (xs (i + 3)) (xs (i + 4)) (xs (i + 5))) (cwV 5 hts (tbV w_ml_RL_53 w_im_yX8_node w_se_yX8_node w_ini_RX8 w_cd_yX8_node) rfl rfl rfl (by decide +kernel) ⟨Nat.le_of_ble_eq_true rfl, Nat.le_of_ble_eq_true rfl⟩) rfl hl.1 rfl (Nat.le_of_ble_eq_true rfl) dL_law_347 ⟨by show C + (bC s0.2 (fNode s0 (xs (i + 1)) (xs (i + 2)) (xs (i + 3)) (xs (i + 4)) (xs (i + 5))).2) + 0 ≤ 600000; omega, by show D + (bS s0.2 (fNode s0 (xs (i + 1)) (xs (i + 2)) (xs (i + 3)) (xs (i + 4)) (xs (i + 5))).2) + 0 ≤ 7302250; omega⟩ (fun r_8 ad_5 en_6 H locs hp_7 hs => ?_)
  obtain ⟨⟨hA2, hF2⟩, hr2, hM2⟩ := hp_7
  subst hA2
  have hW2 := Ps_kp hW1 hF2
  rw [hr2]
  refine lv_icmp_eq (tgt := 523) hx hb dL_law_350 (by decide) (fun _ => ?_) (fun c350 => absurd (rfl) c350)
  refine lv_iinc (v := nI (i + 6)) (lv' := [(3, .int (nI (i + 6))), (0, .ref (b)), (1, .ref (ad_1 0)), (2, .ref (ad_1 22))]) hx hb dL_law_523 hl (k := 0) rfl (nI_add i 6) (by decide) rfl (fun ls hl => ?_)
  refine lv_goto (tgt := 18) hx hb dL_law_526 (by decide) ?_
  exact IH _ _ _ _ _ _ _ _ _ _ _ _ _ _ _ _ _ _ _ _ _ _ _ hW2 hM2 (by omega) (by omega) hs (lv_sub hl [0, 1, 2, 3] rfl)
set_option maxHeartbeats 600000 in
set_option maxRecDepth 100000 in
theorem law_c9 (l : Launch) {pP : Program} {eE : Env} {sS : State} {mM : MethodId} {bB : List Frame} {tT : Method} {cC : Code} {b L : Nat} {xs : Nat → Int32} {G : rG} (hL : L ≤ 3072) (C0 : lw_At pP sS mM tT cC b L xs) (hK : rK G (lwA sS) sS) {i : Nat} (hi : i + 6 ≤ L) (IH : LawI pP l eE sS mM bB tT cC b G (i + 6)) {s0 : NSt} {jd RR SL : Nat} {SN : Nat → Nat → Bool} {sf : Nat → Int32} {fl : Bool} {hw : Nat} {dv : Nat → Int32} {SG : Nat → Nat → Bool} {fuel sp : Nat} {c : Nat → Nat → Int32} {ov dp cl : Int32} {C D : Nat} {ad : Nat → Nat} {en : Nat → va_E} {H : Heap} {locs : List Loc} {ls : Array Slot} (hW : PsW G 48 ad en s0 jd RR SL SN sf fl hw dv SG fuel sp) (hM : MdW G 48 ad en s0.1 s0.2 c (nI sp) ov dp cl) (hC : C ≤ 48 + pC7 s0 hw RR SL) (hD : D ≤ 126756 + pS7 s0 hw RR SL) (hs : rS G (lwA sS) sS.heap 48 ad en H locs) (hl : lv_has ls 4 [(3, .int (nI i)), (0, .ref b), (1, .ref (ad 0)), (2, .ref (ad 22))]) : W pP l eE room_1 sS mM #[Value.ref b] bB tT cC H locs C D (lw_Z bB #[Value.ref b] sS) (F0 mM 355 ls []) := by
  obtain ⟨hx, hb, hr, hml, hown, hts0, hX, hbl, hlocks, hgv⟩ := C0
  have hts : ∀ w ∈ TB, w.before #[Value.ref b] sS = true := fun w h => hts0 w (List.mem_filter.mp h).1
  have hown : sS.vm.findClass RL = some mM.cls := hown
  have hA : ∀ q : Nat, sS.heap.size ≤ q → lwA sS q := fun _ h => h
  have hbA : ¬ lwA sS b := Nat.not_le.mpr hbl
  obtain ⟨he0, hPm, hSc, hRR, hSL⟩ := id hW
  obtain ⟨hSt, hNd, hOk, -, he21⟩ := id hPm
  have h6 := hSt.2.2.2.2.2
  have h8 := hOk.1.1
  have hhw : hw ≤ 3000 := hSc.2.2.1.2.1
  have hp7 := p7_le (s := s0) h6.1 h8 hhw hRR hSL
  refine lv_aload_n hx hb dL_law_355 rfl (lv_at hl 2 rfl) ?_
  refine lv_aload_n hx hb dL_law_356 rfl (lv_at hl 1 rfl) ?_
  refine lv_iload_n hx hb dL_law_357 rfl (lv_at hl 0 rfl) ?_
  refine lv_iconst (v := 1) hx hb dL_law_358 (by decide) ?_
  refine lv_iadd hx hb dL_law_359 ?_
  refine r_topi (y := nI (i + 1)) (nI_add _ _) ?_
  refine va_sld (i := nI (i + 1)) hx hb hX hbl hbA hs.2.2 (vp_in_nI (by omega) (by omega)) dL_law_360 ?_
  refine r_topi (y := xs (i + 1)) (by rw [nI_clamp (by omega)]) ?_
  refine lv_aload_n hx hb dL_law_361 rfl (lv_at hl 1 rfl) ?_
  refine lv_iload_n hx hb dL_law_362 rfl (lv_at hl 0 rfl) ?_
  refine lv_iconst (v := 2) hx hb dL_law_363 (by decide) ?_
  refine lv_iadd hx hb dL_law_364 ?_
  refine r_topi (y := nI (i + 2)) (nI_add _ _) ?_
  refine va_sld (i := nI (i + 2)) hx hb hX hbl hbA hs.2.2 (vp_in_nI (by omega) (by omega)) dL_law_365 ?_
  refine r_topi (y := xs (i + 2)) (by rw [nI_clamp (by omega)]) ?_
  refine r_callViR (ci := 7) (As := [.int (xs (i + 1)), .int (xs (i + 2))]) hx hb hml hown hts hK hA hs (0) (by omega) hW.1 rfl rfl (c_X7_of l G hW (xs (i + 1)) (xs (i + 2))) (cwV 2 hts (tbV w_ml_RL_54 w_im_yX7_of w_se_yX7_of w_ini_RX7 w_cd_yX7_of) rfl rfl rfl (by decide +kernel) ⟨Nat.le_of_ble_eq_true rfl, Nat.le_of_ble_eq_true rfl⟩) rfl hl.1 rfl (Nat.le_of_ble_eq_true rfl) dL_law_366 ⟨by show C ≤ 600000; omega, by show D ≤ 7302250; omega⟩ (fun H locs hs => ?_)
  refine lv_aload_n hx hb dL_law_369 rfl (lv_at hl 3 rfl) ?_
  refine lv_aload_n hx hb dL_law_370 rfl (lv_at hl 1 rfl) ?_
  refine lv_iload_n hx hb dL_law_371 rfl (lv_at hl 0 rfl) ?_
  refine lv_iconst (v := 1) hx hb dL_law_372 (by decide) ?_
  refine lv_iadd hx hb dL_law_373 ?_
  refine r_topi (y := nI (i + 1)) (nI_add _ _) ?_
  refine va_sld (i := nI (i + 1)) hx hb hX hbl hbA hs.2.2 (vp_in_nI (by omega) (by omega)) dL_law_374 ?_
  refine r_topi (y := xs (i + 1)) (by rw [nI_clamp (by omega)]) ?_
  refine lv_aload_n hx hb dL_law_375 rfl (lv_at hl 1 rfl) ?_
  refine lv_iload_n hx hb dL_law_376 rfl (lv_at hl 0 rfl) ?_
  refine lv_iconst (v := 2) hx hb dL_law_377 (by decide) ?_
  refine lv_iadd hx hb dL_law_378 ?_
  refine r_topi (y := nI (i + 2)) (nI_add _ _) ?_
  refine va_sld (i := nI (i + 2)) hx hb hX hbl hbA hs.2.2 (vp_in_nI (by omega) (by omega)) dL_law_379 ?_
  refine r_topi (y := xs (i + 2)) (by rw [nI_clamp (by omega)]) ?_
  refine r_callViR (ci := 8) (As := [.int (xs (i + 1)), .int (xs (i + 2))]) hx hb hml hown hts hK hA hs (22) (by omega) (md22 hM) rfl rfl (c_X8_of l G hM (xs (i + 1)) (xs (i + 2))) (cwV 2 hts (tbV w_ml_RL_57 w_im_yX8_of w_se_yX8_of w_ini_RX8 w_cd_yX8_of) rfl rfl rfl (by decide +kernel) ⟨Nat.le_of_ble_eq_true rfl, Nat.le_of_ble_eq_true rfl⟩) rfl hl.1 rfl (Nat.le_of_ble_eq_true rfl) dL_law_380 ⟨by show C ≤ 600000; omega, by show D ≤ 7302250; omega⟩ (fun H locs hs => ?_)
  refine lv_icmp_eq (tgt := 523) hx hb dL_law_383 (by decide) (fun _ => ?_) (fun c383 => absurd (rfl) c383)
  refine lv_iinc (v := nI (i + 6)) (lv' := [(3, .int (nI (i + 6))), (0, .ref (b)), (1, .ref (ad 0)), (2, .ref (ad 22))]) hx hb dL_law_523 hl (k := 0) rfl (nI_add i 6) (by decide) rfl (fun ls hl => ?_)
  refine lv_goto (tgt := 18) hx hb dL_law_526 (by decide) ?_
  exact IH _ _ _ _ _ _ _ _ _ _ _ _ _ _ _ _ _ _ _ _ _ _ _ hW hM (hC) (hD) hs (lv_sub hl [0, 1, 2, 3] rfl)
set_option maxHeartbeats 600000 in
set_option maxRecDepth 100000 in
theorem law_c10 (l : Launch) {pP : Program} {eE : Env} {sS : State} {mM : MethodId} {bB : List Frame} {tT : Method} {cC : Code} {b L : Nat} {xs : Nat → Int32} {G : rG} (hL : L ≤ 3072) (C0 : lw_At pP sS mM tT cC b L xs) (hK : rK G (lwA sS) sS) {i : Nat} (hi : i + 6 ≤ L) (IH : LawI pP l eE sS mM bB tT cC b G (i + 6)) {s0 : NSt} {jd RR SL : Nat} {SN : Nat → Nat → Bool} {sf : Nat → Int32} {fl : Bool} {hw : Nat} {dv : Nat → Int32} {SG : Nat → Nat → Bool} {fuel sp : Nat} {c : Nat → Nat → Int32} {ov dp cl : Int32} {C D : Nat} {ad : Nat → Nat} {en : Nat → va_E} {H : Heap} {locs : List Loc} {ls : Array Slot} (hW : PsW G 48 ad en s0 jd RR SL SN sf fl hw dv SG fuel sp) (hM : MdW G 48 ad en s0.1 s0.2 c (nI sp) ov dp cl) (hC : C ≤ 48 + pC7 s0 hw RR SL) (hD : D ≤ 126756 + pS7 s0 hw RR SL) (hs : rS G (lwA sS) sS.heap 48 ad en H locs) (hl : lv_has ls 4 [(3, .int (nI i)), (0, .ref b), (1, .ref (ad 0)), (2, .ref (ad 22))]) : W pP l eE room_1 sS mM #[Value.ref b] bB tT cC H locs C D (lw_Z bB #[Value.ref b] sS) (F0 mM 388 ls []) := by
  obtain ⟨hx, hb, hr, hml, hown, hts0, hX, hbl, hlocks, hgv⟩ := C0
  have hts : ∀ w ∈ TB, w.before #[Value.ref b] sS = true := fun w h => hts0 w (List.mem_filter.mp h).1
  have hown : sS.vm.findClass RL = some mM.cls := hown
  have hA : ∀ q : Nat, sS.heap.size ≤ q → lwA sS q := fun _ h => h
  have hbA : ¬ lwA sS b := Nat.not_le.mpr hbl
  obtain ⟨he0, hPm, hSc, hRR, hSL⟩ := id hW
  obtain ⟨hSt, hNd, hOk, -, he21⟩ := id hPm
  have h6 := hSt.2.2.2.2.2
  have h8 := hOk.1.1
  have hhw : hw ≤ 3000 := hSc.2.2.1.2.1
  have hp7 := p7_le (s := s0) h6.1 h8 hhw hRR hSL
  refine lv_aload_n hx hb dL_law_388 rfl (lv_at hl 2 rfl) ?_
  refine lv_aload_n hx hb dL_law_389 rfl (lv_at hl 1 rfl) ?_
  refine lv_iload_n hx hb dL_law_390 rfl (lv_at hl 0 rfl) ?_
  refine lv_iconst (v := 1) hx hb dL_law_391 (by decide) ?_
  refine lv_iadd hx hb dL_law_392 ?_
  refine r_topi (y := nI (i + 1)) (nI_add _ _) ?_
  refine va_sld (i := nI (i + 1)) hx hb hX hbl hbA hs.2.2 (vp_in_nI (by omega) (by omega)) dL_law_393 ?_
  refine r_topi (y := xs (i + 1)) (by rw [nI_clamp (by omega)]) ?_
  have hrm := rm_j (s := s0) (hw := hw) (jd := jd) (RR := RR) (SL := SL) (x := (xs (i + 1))) h6.1 h8 hhw hRR hSL hOk.2.2.1 hOk.2.2.2.1
  refine r_callVi (ci := 7) (As := [.int (xs (i + 1))]) hx hb hml hown hts hK hA hs (0) (by omega) hW.1 rfl rfl (c_X7_wellMade l G hW (xs (i + 1))) (cwV 1 hts (tbV w_ml_RL_58 w_im_yX7_wellMade w_se_yX7_wellMade w_ini_RX7 w_cd_yX7_wellMade) rfl rfl rfl (by decide +kernel) ⟨Nat.le_of_ble_eq_true rfl, Nat.le_of_ble_eq_true rfl⟩) rfl hl.1 rfl (Nat.le_of_ble_eq_true rfl) dL_law_394 ⟨by show C + (fJC jd RR SL s0.2 (xs (i + 1))) ≤ 600000; omega, by show D + (fJS jd RR SL s0.2 (xs (i + 1))) ≤ 7302250; omega⟩ (fun r_4 ad_1 en_2 H locs hp_3 hs => ?_)
  obtain ⟨hr1, ⟨jd1, RR1, SL1, SN1, sf1, fl1, hw1, dv1, SG1, fuel1, hW1, hc1, hd1⟩, hF1⟩ := hp_3
  have hM1 := Md_kp hM (ad1 := ad_1) (en1 := en_2) (fun k a b => hF1.1 k (by omega) (by unfold psA; omega)) (fun k a b => hF1.2 k (by omega) (by unfold psS; omega))
  rw [hr1]
  have hl : lv_has ls 4 [(3, .int (nI i)), (0, .ref (b)), (1, .ref (ad_1 0)), (2, .ref (ad_1 22))] := by rw [hF1.1 0 (by omega) (by unfold psA; omega), hF1.1 22 (by omega) (by unfold psA; omega)]; exact hl
  refine lv_aload_n hx hb dL_law_397 rfl (lv_at hl 3 rfl) ?_
  refine lv_aload_n hx hb dL_law_398 rfl (lv_at hl 1 rfl) ?_
  refine lv_iload_n hx hb dL_law_399 rfl (lv_at hl 0 rfl) ?_
  refine lv_iconst (v := 1) hx hb dL_law_400 (by decide) ?_
  refine lv_iadd hx hb dL_law_401 ?_
  refine r_topi (y := nI (i + 1)) (nI_add _ _) ?_
  refine va_sld (i := nI (i + 1)) hx hb hX hbl hbA hs.2.2 (vp_in_nI (by omega) (by omega)) dL_law_402 ?_
  refine r_topi (y := xs (i + 1)) (by rw [nI_clamp (by omega)]) ?_
  refine r_callVi (ci := 8) (As := [.int (xs (i + 1))]) hx hb hml hown hts hK hA hs (22) (by omega) (md22 hM1) rfl rfl (c_X8_wellMade l G hM1 (xs (i + 1))) (cwV 1 hts (tbV w_ml_RL_61 w_im_yX8_wellMade w_se_yX8_wellMade w_ini_RX8 w_cd_yX8_wellMade) rfl rfl rfl (by decide +kernel) ⟨Nat.le_of_ble_eq_true rfl, Nat.le_of_ble_eq_true rfl⟩) rfl hl.1 rfl (Nat.le_of_ble_eq_true rfl) dL_law_403 ⟨by show C + (fJC jd RR SL s0.2 (xs (i + 1))) + 0 ≤ 600000; omega, by show D + (fJS jd RR SL s0.2 (xs (i + 1))) + 0 ≤ 7302250; omega⟩ (fun r_8 ad_5 en_6 H locs hp_7 hs => ?_)
  obtain ⟨⟨hA2, hF2⟩, hr2, c2, hM2⟩ := hp_7
  subst hA2
  have hW2 := Ps_kp hW1 hF2
  rw [hr2]
  refine lv_icmp_eq (tgt := 523) hx hb dL_law_406 (by decide) (fun _ => ?_) (fun c406 => absurd (rfl) c406)
  refine lv_iinc (v := nI (i + 6)) (lv' := [(3, .int (nI (i + 6))), (0, .ref (b)), (1, .ref (ad_1 0)), (2, .ref (ad_1 22))]) hx hb dL_law_523 hl (k := 0) rfl (nI_add i 6) (by decide) rfl (fun ls hl => ?_)
  refine lv_goto (tgt := 18) hx hb dL_law_526 (by decide) ?_
  exact IH _ _ _ _ _ _ _ _ _ _ _ _ _ _ _ _ _ _ _ _ _ _ _ hW2 hM2 (by omega) (by omega) hs (lv_sub hl [0, 1, 2, 3] rfl)
set_option maxHeartbeats 600000 in
set_option maxRecDepth 100000 in
theorem law_c11 (l : Launch) {pP : Program} {eE : Env} {sS : State} {mM : MethodId} {bB : List Frame} {tT : Method} {cC : Code} {b L : Nat} {xs : Nat → Int32} {G : rG} (hL : L ≤ 3072) (C0 : lw_At pP sS mM tT cC b L xs) (hK : rK G (lwA sS) sS) {i : Nat} (hi : i + 6 ≤ L) (IH : LawI pP l eE sS mM bB tT cC b G (i + 6)) {s0 : NSt} {jd RR SL : Nat} {SN : Nat → Nat → Bool} {sf : Nat → Int32} {fl : Bool} {hw : Nat} {dv : Nat → Int32} {SG : Nat → Nat → Bool} {fuel sp : Nat} {c : Nat → Nat → Int32} {ov dp cl : Int32} {C D : Nat} {ad : Nat → Nat} {en : Nat → va_E} {H : Heap} {locs : List Loc} {ls : Array Slot} (hW : PsW G 48 ad en s0 jd RR SL SN sf fl hw dv SG fuel sp) (hM : MdW G 48 ad en s0.1 s0.2 c (nI sp) ov dp cl) (hC : C ≤ 48 + pC7 s0 hw RR SL) (hD : D ≤ 126756 + pS7 s0 hw RR SL) (hs : rS G (lwA sS) sS.heap 48 ad en H locs) (hl : lv_has ls 4 [(3, .int (nI i)), (0, .ref b), (1, .ref (ad 0)), (2, .ref (ad 22))]) : W pP l eE room_1 sS mM #[Value.ref b] bB tT cC H locs C D (lw_Z bB #[Value.ref b] sS) (F0 mM 411 ls []) := by
  obtain ⟨hx, hb, hr, hml, hown, hts0, hX, hbl, hlocks, hgv⟩ := C0
  have hts : ∀ w ∈ TB, w.before #[Value.ref b] sS = true := fun w h => hts0 w (List.mem_filter.mp h).1
  have hown : sS.vm.findClass RL = some mM.cls := hown
  have hA : ∀ q : Nat, sS.heap.size ≤ q → lwA sS q := fun _ h => h
  have hbA : ¬ lwA sS b := Nat.not_le.mpr hbl
  obtain ⟨he0, hPm, hSc, hRR, hSL⟩ := id hW
  obtain ⟨hSt, hNd, hOk, -, he21⟩ := id hPm
  have h6 := hSt.2.2.2.2.2
  have h8 := hOk.1.1
  have hhw : hw ≤ 3000 := hSc.2.2.1.2.1
  have hp7 := p7_le (s := s0) h6.1 h8 hhw hRR hSL
  refine lv_aload_n hx hb dL_law_411 rfl (lv_at hl 2 rfl) ?_
  refine lv_aload_n hx hb dL_law_412 rfl (lv_at hl 1 rfl) ?_
  refine lv_iload_n hx hb dL_law_413 rfl (lv_at hl 0 rfl) ?_
  refine lv_iconst (v := 1) hx hb dL_law_414 (by decide) ?_
  refine lv_iadd hx hb dL_law_415 ?_
  refine r_topi (y := nI (i + 1)) (nI_add _ _) ?_
  refine va_sld (i := nI (i + 1)) hx hb hX hbl hbA hs.2.2 (vp_in_nI (by omega) (by omega)) dL_law_416 ?_
  refine r_topi (y := xs (i + 1)) (by rw [nI_clamp (by omega)]) ?_
  have hrm := rm_j (s := s0) (hw := hw) (jd := jd) (RR := RR) (SL := SL) (x := (xs (i + 1))) h6.1 h8 hhw hRR hSL hOk.2.2.1 hOk.2.2.2.1
  refine r_callVi (ci := 7) (As := [.int (xs (i + 1))]) hx hb hml hown hts hK hA hs (0) (by omega) hW.1 rfl rfl (c_X7_rests l G hW (xs (i + 1))) (cwV 1 hts (tbV w_ml_RL_62 w_im_yX7_rests w_se_yX7_rests w_ini_RX7 w_cd_yX7_rests) rfl rfl rfl (by decide +kernel) ⟨Nat.le_of_ble_eq_true rfl, Nat.le_of_ble_eq_true rfl⟩) rfl hl.1 rfl (Nat.le_of_ble_eq_true rfl) dL_law_417 ⟨by show C + (fJC jd RR SL s0.2 (xs (i + 1))) ≤ 600000; omega, by show D + (fJS jd RR SL s0.2 (xs (i + 1))) ≤ 7302250; omega⟩ (fun r_4 ad_1 en_2 H locs hp_3 hs => ?_)
  obtain ⟨hr1, ⟨jd1, RR1, SL1, SN1, sf1, fl1, hw1, dv1, SG1, fuel1, hW1, hc1, hd1⟩, hF1⟩ := hp_3
  have hM1 := Md_kp hM (ad1 := ad_1) (en1 := en_2) (fun k a b => hF1.1 k (by omega) (by unfold psA; omega)) (fun k a b => hF1.2 k (by omega) (by unfold psS; omega))
  rw [hr1]
  have hl : lv_has ls 4 [(3, .int (nI i)), (0, .ref (b)), (1, .ref (ad_1 0)), (2, .ref (ad_1 22))] := by rw [hF1.1 0 (by omega) (by unfold psA; omega), hF1.1 22 (by omega) (by unfold psA; omega)]; exact hl
  refine lv_aload_n hx hb dL_law_420 rfl (lv_at hl 3 rfl) ?_
  refine lv_aload_n hx hb dL_law_421 rfl (lv_at hl 1 rfl) ?_
  refine lv_iload_n hx hb dL_law_422 rfl (lv_at hl 0 rfl) ?_
  refine lv_iconst (v := 1) hx hb dL_law_423 (by decide) ?_
  refine lv_iadd hx hb dL_law_424 ?_
  refine r_topi (y := nI (i + 1)) (nI_add _ _) ?_
  refine va_sld (i := nI (i + 1)) hx hb hX hbl hbA hs.2.2 (vp_in_nI (by omega) (by omega)) dL_law_425 ?_
  refine r_topi (y := xs (i + 1)) (by rw [nI_clamp (by omega)]) ?_
  refine r_callVi (ci := 8) (As := [.int (xs (i + 1))]) hx hb hml hown hts hK hA hs (22) (by omega) (md22 hM1) rfl rfl (c_X8_rests l G hM1 (xs (i + 1))) (cwV 1 hts (tbV w_ml_RL_65 w_im_yX8_rests w_se_yX8_rests w_ini_RX8 w_cd_yX8_rests) rfl rfl rfl (by decide +kernel) ⟨Nat.le_of_ble_eq_true rfl, Nat.le_of_ble_eq_true rfl⟩) rfl hl.1 rfl (Nat.le_of_ble_eq_true rfl) dL_law_426 ⟨by show C + (fJC jd RR SL s0.2 (xs (i + 1))) + 0 ≤ 600000; omega, by show D + (fJS jd RR SL s0.2 (xs (i + 1))) + 0 ≤ 7302250; omega⟩ (fun r_8 ad_5 en_6 H locs hp_7 hs => ?_)
  obtain ⟨⟨hA2, hF2⟩, hr2, c2, hM2⟩ := hp_7
  subst hA2
  have hW2 := Ps_kp hW1 hF2
  rw [hr2]
  refine lv_icmp_eq (tgt := 523) hx hb dL_law_429 (by decide) (fun _ => ?_) (fun c429 => absurd (rfl) c429)
  refine lv_iinc (v := nI (i + 6)) (lv' := [(3, .int (nI (i + 6))), (0, .ref (b)), (1, .ref (ad_1 0)), (2, .ref (ad_1 22))]) hx hb dL_law_523 hl (k := 0) rfl (nI_add i 6) (by decide) rfl (fun ls hl => ?_)
  refine lv_goto (tgt := 18) hx hb dL_law_526 (by decide) ?_
  exact IH _ _ _ _ _ _ _ _ _ _ _ _ _ _ _ _ _ _ _ _ _ _ _ hW2 hM2 (by omega) (by omega) hs (lv_sub hl [0, 1, 2, 3] rfl)
set_option maxHeartbeats 600000 in
set_option maxRecDepth 100000 in
theorem law_c12 (l : Launch) {pP : Program} {eE : Env} {sS : State} {mM : MethodId} {bB : List Frame} {tT : Method} {cC : Code} {b L : Nat} {xs : Nat → Int32} {G : rG} (hL : L ≤ 3072) (C0 : lw_At pP sS mM tT cC b L xs) (hK : rK G (lwA sS) sS) {i : Nat} (hi : i + 6 ≤ L) (IH : LawI pP l eE sS mM bB tT cC b G (i + 6)) {s0 : NSt} {jd RR SL : Nat} {SN : Nat → Nat → Bool} {sf : Nat → Int32} {fl : Bool} {hw : Nat} {dv : Nat → Int32} {SG : Nat → Nat → Bool} {fuel sp : Nat} {c : Nat → Nat → Int32} {ov dp cl : Int32} {C D : Nat} {ad : Nat → Nat} {en : Nat → va_E} {H : Heap} {locs : List Loc} {ls : Array Slot} (hW : PsW G 48 ad en s0 jd RR SL SN sf fl hw dv SG fuel sp) (hM : MdW G 48 ad en s0.1 s0.2 c (nI sp) ov dp cl) (hC : C ≤ 48 + pC7 s0 hw RR SL) (hD : D ≤ 126756 + pS7 s0 hw RR SL) (hs : rS G (lwA sS) sS.heap 48 ad en H locs) (hl : lv_has ls 4 [(3, .int (nI i)), (0, .ref b), (1, .ref (ad 0)), (2, .ref (ad 22))]) : W pP l eE room_1 sS mM #[Value.ref b] bB tT cC H locs C D (lw_Z bB #[Value.ref b] sS) (F0 mM 434 ls []) := by
  obtain ⟨hx, hb, hr, hml, hown, hts0, hX, hbl, hlocks, hgv⟩ := C0
  have hts : ∀ w ∈ TB, w.before #[Value.ref b] sS = true := fun w h => hts0 w (List.mem_filter.mp h).1
  have hown : sS.vm.findClass RL = some mM.cls := hown
  have hA : ∀ q : Nat, sS.heap.size ≤ q → lwA sS q := fun _ h => h
  have hbA : ¬ lwA sS b := Nat.not_le.mpr hbl
  obtain ⟨he0, hPm, hSc, hRR, hSL⟩ := id hW
  obtain ⟨hSt, hNd, hOk, -, he21⟩ := id hPm
  have h6 := hSt.2.2.2.2.2
  have h8 := hOk.1.1
  have hhw : hw ≤ 3000 := hSc.2.2.1.2.1
  have hp7 := p7_le (s := s0) h6.1 h8 hhw hRR hSL
  refine lv_aload_n hx hb dL_law_434 rfl (lv_at hl 2 rfl) ?_
  refine lv_aload_n hx hb dL_law_435 rfl (lv_at hl 1 rfl) ?_
  refine lv_iload_n hx hb dL_law_436 rfl (lv_at hl 0 rfl) ?_
  refine lv_iconst (v := 1) hx hb dL_law_437 (by decide) ?_
  refine lv_iadd hx hb dL_law_438 ?_
  refine r_topi (y := nI (i + 1)) (nI_add _ _) ?_
  refine va_sld (i := nI (i + 1)) hx hb hX hbl hbA hs.2.2 (vp_in_nI (by omega) (by omega)) dL_law_439 ?_
  refine r_topi (y := xs (i + 1)) (by rw [nI_clamp (by omega)]) ?_
  refine lv_aload_n hx hb dL_law_440 rfl (lv_at hl 1 rfl) ?_
  refine lv_iload_n hx hb dL_law_441 rfl (lv_at hl 0 rfl) ?_
  refine lv_iconst (v := 2) hx hb dL_law_442 (by decide) ?_
  refine lv_iadd hx hb dL_law_443 ?_
  refine r_topi (y := nI (i + 2)) (nI_add _ _) ?_
  refine va_sld (i := nI (i + 2)) hx hb hX hbl hbA hs.2.2 (vp_in_nI (by omega) (by omega)) dL_law_444 ?_
  refine r_topi (y := xs (i + 2)) (by rw [nI_clamp (by omega)]) ?_
  have hrm := rm_j (s := s0) (hw := hw) (jd := jd) (RR := RR) (SL := SL) (x := (xs (i + 1))) h6.1 h8 hhw hRR hSL hOk.2.2.1 hOk.2.2.2.1
  refine r_callVi (ci := 7) (As := [.int (xs (i + 1)), .int (xs (i + 2))]) hx hb hml hown hts hK hA hs (0) (by omega) hW.1 rfl rfl (c_X7_restsOn l G hW (xs (i + 1)) (xs (i + 2))) (cwV 2 hts (tbV w_ml_RL_66 w_im_yX7_restsOn w_se_yX7_restsOn w_ini_RX7 w_cd_yX7_restsOn) rfl rfl rfl (by decide +kernel) ⟨Nat.le_of_ble_eq_true rfl, Nat.le_of_ble_eq_true rfl⟩) rfl hl.1 rfl (Nat.le_of_ble_eq_true rfl) dL_law_445 ⟨by show C + (fJC jd RR SL s0.2 (xs (i + 1))) ≤ 600000; omega, by show D + (fJS jd RR SL s0.2 (xs (i + 1))) ≤ 7302250; omega⟩ (fun r_4 ad_1 en_2 H locs hp_3 hs => ?_)
  obtain ⟨hr1, ⟨jd1, RR1, SL1, SN1, sf1, fl1, hw1, dv1, SG1, fuel1, hW1, hc1, hd1⟩, hF1⟩ := hp_3
  have hM1 := Md_kp hM (ad1 := ad_1) (en1 := en_2) (fun k a b => hF1.1 k (by omega) (by unfold psA; omega)) (fun k a b => hF1.2 k (by omega) (by unfold psS; omega))
  rw [hr1]
  have hl : lv_has ls 4 [(3, .int (nI i)), (0, .ref (b)), (1, .ref (ad_1 0)), (2, .ref (ad_1 22))] := by rw [hF1.1 0 (by omega) (by unfold psA; omega), hF1.1 22 (by omega) (by unfold psA; omega)]; exact hl
  refine lv_aload_n hx hb dL_law_448 rfl (lv_at hl 3 rfl) ?_
  refine lv_aload_n hx hb dL_law_449 rfl (lv_at hl 1 rfl) ?_
  refine lv_iload_n hx hb dL_law_450 rfl (lv_at hl 0 rfl) ?_
  refine lv_iconst (v := 1) hx hb dL_law_451 (by decide) ?_
  refine lv_iadd hx hb dL_law_452 ?_
  refine r_topi (y := nI (i + 1)) (nI_add _ _) ?_
  refine va_sld (i := nI (i + 1)) hx hb hX hbl hbA hs.2.2 (vp_in_nI (by omega) (by omega)) dL_law_453 ?_
  refine r_topi (y := xs (i + 1)) (by rw [nI_clamp (by omega)]) ?_
  refine lv_aload_n hx hb dL_law_454 rfl (lv_at hl 1 rfl) ?_
  refine lv_iload_n hx hb dL_law_455 rfl (lv_at hl 0 rfl) ?_
  refine lv_iconst (v := 2) hx hb dL_law_456 (by decide) ?_
  refine lv_iadd hx hb dL_law_457 ?_
  refine r_topi (y := nI (i + 2)) (nI_add _ _) ?_
  refine va_sld (i := nI (i + 2)) hx hb hX hbl hbA hs.2.2 (vp_in_nI (by omega) (by omega)) dL_law_458 ?_
  refine r_topi (y := xs (i + 2)) (by rw [nI_clamp (by omega)]) ?_
  refine r_callVi (ci := 8) (As := [.int (xs (i + 1)), .int (xs (i + 2))]) hx hb hml hown hts hK hA hs (22) (by omega) (md22 hM1) rfl rfl (c_X8_restsOn l G hM1 (xs (i + 1)) (xs (i + 2))) (cwV 2 hts (tbV w_ml_RL_69 w_im_yX8_restsOn w_se_yX8_restsOn w_ini_RX8 w_cd_yX8_restsOn) rfl rfl rfl (by decide +kernel) ⟨Nat.le_of_ble_eq_true rfl, Nat.le_of_ble_eq_true rfl⟩) rfl hl.1 rfl (Nat.le_of_ble_eq_true rfl) dL_law_459 ⟨by show C + (fJC jd RR SL s0.2 (xs (i + 1))) + 0 ≤ 600000; omega, by show D + (fJS jd RR SL s0.2 (xs (i + 1))) + 0 ≤ 7302250; omega⟩ (fun r_8 ad_5 en_6 H locs hp_7 hs => ?_)
  obtain ⟨⟨hA2, hF2⟩, hr2, c2, hM2⟩ := hp_7
  subst hA2
  have hW2 := Ps_kp hW1 hF2
  rw [hr2]
  refine lv_icmp_eq (tgt := 523) hx hb dL_law_462 (by decide) (fun _ => ?_) (fun c462 => absurd (rfl) c462)
  refine lv_iinc (v := nI (i + 6)) (lv' := [(3, .int (nI (i + 6))), (0, .ref (b)), (1, .ref (ad_1 0)), (2, .ref (ad_1 22))]) hx hb dL_law_523 hl (k := 0) rfl (nI_add i 6) (by decide) rfl (fun ls hl => ?_)
  refine lv_goto (tgt := 18) hx hb dL_law_526 (by decide) ?_
  exact IH _ _ _ _ _ _ _ _ _ _ _ _ _ _ _ _ _ _ _ _ _ _ _ hW2 hM2 (by omega) (by omega) hs (lv_sub hl [0, 1, 2, 3] rfl)
set_option maxHeartbeats 600000 in
set_option maxRecDepth 100000 in
theorem law_c13 (l : Launch) {pP : Program} {eE : Env} {sS : State} {mM : MethodId} {bB : List Frame} {tT : Method} {cC : Code} {b L : Nat} {xs : Nat → Int32} {G : rG} (hL : L ≤ 3072) (C0 : lw_At pP sS mM tT cC b L xs) (hK : rK G (lwA sS) sS) {i : Nat} (hi : i + 6 ≤ L) (IH : LawI pP l eE sS mM bB tT cC b G (i + 6)) {s0 : NSt} {jd RR SL : Nat} {SN : Nat → Nat → Bool} {sf : Nat → Int32} {fl : Bool} {hw : Nat} {dv : Nat → Int32} {SG : Nat → Nat → Bool} {fuel sp : Nat} {c : Nat → Nat → Int32} {ov dp cl : Int32} {C D : Nat} {ad : Nat → Nat} {en : Nat → va_E} {H : Heap} {locs : List Loc} {ls : Array Slot} (hW : PsW G 48 ad en s0 jd RR SL SN sf fl hw dv SG fuel sp) (hM : MdW G 48 ad en s0.1 s0.2 c (nI sp) ov dp cl) (hC : C ≤ 48 + pC7 s0 hw RR SL) (hD : D ≤ 126756 + pS7 s0 hw RR SL) (hs : rS G (lwA sS) sS.heap 48 ad en H locs) (hl : lv_has ls 4 [(3, .int (nI i)), (0, .ref b), (1, .ref (ad 0)), (2, .ref (ad 22))]) : W pP l eE room_1 sS mM #[Value.ref b] bB tT cC H locs C D (lw_Z bB #[Value.ref b] sS) (F0 mM 467 ls []) := by
  obtain ⟨hx, hb, hr, hml, hown, hts0, hX, hbl, hlocks, hgv⟩ := C0
  have hts : ∀ w ∈ TB, w.before #[Value.ref b] sS = true := fun w h => hts0 w (List.mem_filter.mp h).1
  have hown : sS.vm.findClass RL = some mM.cls := hown
  have hA : ∀ q : Nat, sS.heap.size ≤ q → lwA sS q := fun _ h => h
  have hbA : ¬ lwA sS b := Nat.not_le.mpr hbl
  obtain ⟨he0, hPm, hSc, hRR, hSL⟩ := id hW
  obtain ⟨hSt, hNd, hOk, -, he21⟩ := id hPm
  have h6 := hSt.2.2.2.2.2
  have h8 := hOk.1.1
  have hhw : hw ≤ 3000 := hSc.2.2.1.2.1
  have hp7 := p7_le (s := s0) h6.1 h8 hhw hRR hSL
  refine lv_aload_n hx hb dL_law_467 rfl (lv_at hl 2 rfl) ?_
  refine lv_aload_n hx hb dL_law_468 rfl (lv_at hl 1 rfl) ?_
  refine lv_iload_n hx hb dL_law_469 rfl (lv_at hl 0 rfl) ?_
  refine lv_iconst (v := 1) hx hb dL_law_470 (by decide) ?_
  refine lv_iadd hx hb dL_law_471 ?_
  refine r_topi (y := nI (i + 1)) (nI_add _ _) ?_
  refine va_sld (i := nI (i + 1)) hx hb hX hbl hbA hs.2.2 (vp_in_nI (by omega) (by omega)) dL_law_472 ?_
  refine r_topi (y := xs (i + 1)) (by rw [nI_clamp (by omega)]) ?_
  have hrm := rm_j (s := s0) (hw := hw) (jd := jd) (RR := RR) (SL := SL) (x := (xs (i + 1))) h6.1 h8 hhw hRR hSL hOk.2.2.1 hOk.2.2.2.1
  refine r_callVi (ci := 7) (As := [.int (xs (i + 1))]) hx hb hml hown hts hK hA hs (0) (by omega) hW.1 rfl rfl (c_X7_proves l G hW (xs (i + 1))) (cwV 1 hts (tbV w_ml_RL_70 w_im_yX7_proves w_se_yX7_proves w_ini_RX7 w_cd_yX7_proves) rfl rfl rfl (by decide +kernel) ⟨Nat.le_of_ble_eq_true rfl, Nat.le_of_ble_eq_true rfl⟩) rfl hl.1 rfl (Nat.le_of_ble_eq_true rfl) dL_law_473 ⟨by show C + (fJC jd RR SL s0.2 (xs (i + 1))) ≤ 600000; omega, by show D + (fJS jd RR SL s0.2 (xs (i + 1))) ≤ 7302250; omega⟩ (fun r_4 ad_1 en_2 H locs hp_3 hs => ?_)
  obtain ⟨hr1, ⟨jd1, RR1, SL1, SN1, sf1, fl1, hw1, dv1, SG1, fuel1, hW1, hc1, hd1⟩, hF1⟩ := hp_3
  have hM1 := Md_kp hM (ad1 := ad_1) (en1 := en_2) (fun k a b => hF1.1 k (by omega) (by unfold psA; omega)) (fun k a b => hF1.2 k (by omega) (by unfold psS; omega))
  rw [hr1]
  have hl : lv_has ls 4 [(3, .int (nI i)), (0, .ref (b)), (1, .ref (ad_1 0)), (2, .ref (ad_1 22))] := by rw [hF1.1 0 (by omega) (by unfold psA; omega), hF1.1 22 (by omega) (by unfold psA; omega)]; exact hl
  refine lv_aload_n hx hb dL_law_476 rfl (lv_at hl 3 rfl) ?_
  refine lv_aload_n hx hb dL_law_477 rfl (lv_at hl 1 rfl) ?_
  refine lv_iload_n hx hb dL_law_478 rfl (lv_at hl 0 rfl) ?_
  refine lv_iconst (v := 1) hx hb dL_law_479 (by decide) ?_
  refine lv_iadd hx hb dL_law_480 ?_
  refine r_topi (y := nI (i + 1)) (nI_add _ _) ?_
  refine va_sld (i := nI (i + 1)) hx hb hX hbl hbA hs.2.2 (vp_in_nI (by omega) (by omega)) dL_law_481 ?_
  refine r_topi (y := xs (i + 1)) (by rw [nI_clamp (by omega)]) ?_
  refine r_callVi (ci := 8) (As := [.int (xs (i + 1))]) hx hb hml hown hts hK hA hs (22) (by omega) (md22 hM1) rfl rfl (c_X8_proves l G hM1 (xs (i + 1))) (cwV 1 hts (tbV w_ml_RL_73 w_im_yX8_proves w_se_yX8_proves w_ini_RX8 w_cd_yX8_proves) rfl rfl rfl (by decide +kernel) ⟨Nat.le_of_ble_eq_true rfl, Nat.le_of_ble_eq_true rfl⟩) rfl hl.1 rfl (Nat.le_of_ble_eq_true rfl) dL_law_482 ⟨by show C + (fJC jd RR SL s0.2 (xs (i + 1))) + 0 ≤ 600000; omega, by show D + (fJS jd RR SL s0.2 (xs (i + 1))) + 0 ≤ 7302250; omega⟩ (fun r_8 ad_5 en_6 H locs hp_7 hs => ?_)
  obtain ⟨⟨hA2, hF2⟩, hr2, c2, hM2⟩ := hp_7
  subst hA2
  have hW2 := Ps_kp hW1 hF2
  rw [hr2]
  refine lv_icmp_eq (tgt := 523) hx hb dL_law_485 (by decide) (fun _ => ?_) (fun c485 => absurd (rfl) c485)
  refine lv_iinc (v := nI (i + 6)) (lv' := [(3, .int (nI (i + 6))), (0, .ref (b)), (1, .ref (ad_1 0)), (2, .ref (ad_1 22))]) hx hb dL_law_523 hl (k := 0) rfl (nI_add i 6) (by decide) rfl (fun ls hl => ?_)
  refine lv_goto (tgt := 18) hx hb dL_law_526 (by decide) ?_
  exact IH _ _ _ _ _ _ _ _ _ _ _ _ _ _ _ _ _ _ _ _ _ _ _ hW2 hM2 (by omega) (by omega) hs (lv_sub hl [0, 1, 2, 3] rfl)
set_option maxHeartbeats 600000 in
set_option maxRecDepth 100000 in
theorem law_c14 (l : Launch) {pP : Program} {eE : Env} {sS : State} {mM : MethodId} {bB : List Frame} {tT : Method} {cC : Code} {b L : Nat} {xs : Nat → Int32} {G : rG} (hL : L ≤ 3072) (C0 : lw_At pP sS mM tT cC b L xs) (hK : rK G (lwA sS) sS) {i : Nat} (hi : i + 6 ≤ L) (IH : LawI pP l eE sS mM bB tT cC b G (i + 6)) {s0 : NSt} {jd RR SL : Nat} {SN : Nat → Nat → Bool} {sf : Nat → Int32} {fl : Bool} {hw : Nat} {dv : Nat → Int32} {SG : Nat → Nat → Bool} {fuel sp : Nat} {c : Nat → Nat → Int32} {ov dp cl : Int32} {C D : Nat} {ad : Nat → Nat} {en : Nat → va_E} {H : Heap} {locs : List Loc} {ls : Array Slot} (hW : PsW G 48 ad en s0 jd RR SL SN sf fl hw dv SG fuel sp) (hM : MdW G 48 ad en s0.1 s0.2 c (nI sp) ov dp cl) (hC : C ≤ 48 + pC7 s0 hw RR SL) (hD : D ≤ 126756 + pS7 s0 hw RR SL) (hs : rS G (lwA sS) sS.heap 48 ad en H locs) (hl : lv_has ls 4 [(3, .int (nI i)), (0, .ref b), (1, .ref (ad 0)), (2, .ref (ad 22))]) : W pP l eE room_1 sS mM #[Value.ref b] bB tT cC H locs C D (lw_Z bB #[Value.ref b] sS) (F0 mM 490 ls []) := by
  obtain ⟨hx, hb, hr, hml, hown, hts0, hX, hbl, hlocks, hgv⟩ := C0
  have hts : ∀ w ∈ TB, w.before #[Value.ref b] sS = true := fun w h => hts0 w (List.mem_filter.mp h).1
  have hown : sS.vm.findClass RL = some mM.cls := hown
  have hA : ∀ q : Nat, sS.heap.size ≤ q → lwA sS q := fun _ h => h
  have hbA : ¬ lwA sS b := Nat.not_le.mpr hbl
  obtain ⟨he0, hPm, hSc, hRR, hSL⟩ := id hW
  obtain ⟨hSt, hNd, hOk, -, he21⟩ := id hPm
  have h6 := hSt.2.2.2.2.2
  have h8 := hOk.1.1
  have hhw : hw ≤ 3000 := hSc.2.2.1.2.1
  have hp7 := p7_le (s := s0) h6.1 h8 hhw hRR hSL
  refine lv_aload_n hx hb dL_law_490 rfl (lv_at hl 2 rfl) ?_
  refine lv_aload_n hx hb dL_law_491 rfl (lv_at hl 1 rfl) ?_
  refine lv_iload_n hx hb dL_law_492 rfl (lv_at hl 0 rfl) ?_
  refine lv_iconst (v := 1) hx hb dL_law_493 (by decide) ?_
  refine lv_iadd hx hb dL_law_494 ?_
  refine r_topi (y := nI (i + 1)) (nI_add _ _) ?_
  refine va_sld (i := nI (i + 1)) hx hb hX hbl hbA hs.2.2 (vp_in_nI (by omega) (by omega)) dL_law_495 ?_
  refine r_topi (y := xs (i + 1)) (by rw [nI_clamp (by omega)]) ?_
  refine lv_aload_n hx hb dL_law_496 rfl (lv_at hl 1 rfl) ?_
  refine lv_iload_n hx hb dL_law_497 rfl (lv_at hl 0 rfl) ?_
  refine lv_iconst (v := 2) hx hb dL_law_498 (by decide) ?_
  refine lv_iadd hx hb dL_law_499 ?_
  refine r_topi (y := nI (i + 2)) (nI_add _ _) ?_
  refine va_sld (i := nI (i + 2)) hx hb hX hbl hbA hs.2.2 (vp_in_nI (by omega) (by omega)) dL_law_500 ?_
  refine r_topi (y := xs (i + 2)) (by rw [nI_clamp (by omega)]) ?_
  refine r_callVi (ci := 7) (As := [.int (xs (i + 1)), .int (xs (i + 2))]) hx hb hml hown hts hK hA hs (0) (by omega) hW.1 rfl rfl (c_X7_isTrue l G hW (xs (i + 1)) (xs (i + 2))) (cwV 2 hts (tbV w_ml_RL_74 w_im_yX7_isTrue w_se_yX7_isTrue w_ini_RX7 w_cd_yX7_isTrue) rfl rfl rfl (by decide +kernel) ⟨Nat.le_of_ble_eq_true rfl, Nat.le_of_ble_eq_true rfl⟩) rfl hl.1 rfl (Nat.le_of_ble_eq_true rfl) dL_law_501 ⟨by show C + (0) ≤ 600000; omega, by show D + (0) ≤ 7302250; omega⟩ (fun r_4 ad_1 en_2 H locs hp_3 hs => ?_)
  obtain ⟨hr1, ⟨jd1, RR1, SL1, SN1, sf1, fl1, hw1, dv1, SG1, fuel1, hW1, hc1, hd1⟩, hF1⟩ := hp_3
  have hM1 := Md_kp hM (ad1 := ad_1) (en1 := en_2) (fun k a b => hF1.1 k (by omega) (by unfold psA; omega)) (fun k a b => hF1.2 k (by omega) (by unfold psS; omega))
  rw [hr1]
  have hl : lv_has ls 4 [(3, .int (nI i)), (0, .ref (b)), (1, .ref (ad_1 0)), (2, .ref (ad_1 22))] := by rw [hF1.1 0 (by omega) (by unfold psA; omega), hF1.1 22 (by omega) (by unfold psA; omega)]; exact hl
  refine lv_aload_n hx hb dL_law_504 rfl (lv_at hl 3 rfl) ?_
  refine lv_aload_n hx hb dL_law_505 rfl (lv_at hl 1 rfl) ?_
  refine lv_iload_n hx hb dL_law_506 rfl (lv_at hl 0 rfl) ?_
  refine lv_iconst (v := 1) hx hb dL_law_507 (by decide) ?_
  refine lv_iadd hx hb dL_law_508 ?_
  refine r_topi (y := nI (i + 1)) (nI_add _ _) ?_
  refine va_sld (i := nI (i + 1)) hx hb hX hbl hbA hs.2.2 (vp_in_nI (by omega) (by omega)) dL_law_509 ?_
  refine r_topi (y := xs (i + 1)) (by rw [nI_clamp (by omega)]) ?_
  refine lv_aload_n hx hb dL_law_510 rfl (lv_at hl 1 rfl) ?_
  refine lv_iload_n hx hb dL_law_511 rfl (lv_at hl 0 rfl) ?_
  refine lv_iconst (v := 2) hx hb dL_law_512 (by decide) ?_
  refine lv_iadd hx hb dL_law_513 ?_
  refine r_topi (y := nI (i + 2)) (nI_add _ _) ?_
  refine va_sld (i := nI (i + 2)) hx hb hX hbl hbA hs.2.2 (vp_in_nI (by omega) (by omega)) dL_law_514 ?_
  refine r_topi (y := xs (i + 2)) (by rw [nI_clamp (by omega)]) ?_
  refine r_callVi (ci := 8) (As := [.int (xs (i + 1)), .int (xs (i + 2))]) hx hb hml hown hts hK hA hs (22) (by omega) (md22 hM1) rfl rfl (c_X8_isTrue l G hM1 (xs (i + 1)) (xs (i + 2))) (cwV 2 hts (tbV w_ml_RL_77 w_im_yX8_isTrue w_se_yX8_isTrue w_ini_RX8 w_cd_yX8_isTrue) rfl rfl rfl (by decide +kernel) ⟨Nat.le_of_ble_eq_true rfl, Nat.le_of_ble_eq_true rfl⟩) rfl hl.1 rfl (Nat.le_of_ble_eq_true rfl) dL_law_515 ⟨by show C + 0 + 0 ≤ 600000; omega, by show D + 0 + 0 ≤ 7302250; omega⟩ (fun r_8 ad_5 en_6 H locs hp_7 hs => ?_)
  obtain ⟨⟨hA2, hF2⟩, hr2, c2, hM2⟩ := hp_7
  subst hA2
  have hW2 := Ps_kp hW1 hF2
  rw [hr2]
  refine lv_icmp_eq (tgt := 523) hx hb dL_law_518 (by decide) (fun _ => ?_) (fun c518 => absurd (rfl) c518)
  refine lv_iinc (v := nI (i + 6)) (lv' := [(3, .int (nI (i + 6))), (0, .ref (b)), (1, .ref (ad_1 0)), (2, .ref (ad_1 22))]) hx hb dL_law_523 hl (k := 0) rfl (nI_add i 6) (by decide) rfl (fun ls hl => ?_)
  refine lv_goto (tgt := 18) hx hb dL_law_526 (by decide) ?_
  exact IH _ _ _ _ _ _ _ _ _ _ _ _ _ _ _ _ _ _ _ _ _ _ _ hW2 hM2 (by omega) (by omega) hs (lv_sub hl [0, 1, 2, 3] rfl)

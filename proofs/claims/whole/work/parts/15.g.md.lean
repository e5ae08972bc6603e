set_option maxHeartbeats 600000 in
set_option maxRecDepth 100000 in
theorem c_X8_choose (l : Launch) (G : rG) {n : Nat} {ad : Nat → Nat} {en : Nat → va_E} {ss ns : List Row} {c : Nat → Nat → Int32} {us : Int32} {ov : Int32} {cl : Int32} {d : Nat} (hM : MdW G n ad en ss ns c us ov (nI d) cl) {goal s : Nat} (hd : d ≤ 80) (hwa : c 32 d = nI goal) (hst : c 33 d = nI s) (hs3 : s ≤ 3001) (h0 : c 36 s = 0) (hg : 1 ≤ goal ∧ goal ≤ ss.length) {Γ : Nat → Bool} (hR : RowM c d Γ) (hΓ : ∀ y, Γ y = true → 1 ≤ y ∧ y ≤ ss.length) : CV l G yX8_choose uX8_choose (2) (47) (0) (0) [.ref (ad 22)] (n) (n) ad en (chPost G n ad en ss ns c us ov (nI d) cl s (fstW ss Γ goal) goal) := by
  intro sz
  refine rMet (Qc := qV G (n) (chPost G n ad en ss ns c us ov (nI d) cl s (fstW ss Γ goal) goal)) (cc := cX8_choose) (maxL := 5) (ret := none) (by decide) rfl (Nat.le_of_ble_eq_true rfl) ?_
  intro pP eE sS mM aA bB tT cC ls A Q hc hK hsz hA hs hl hQ
  obtain ⟨hx, hb, hr, hts, hown, hlk, hnm, hml⟩ := hc
  have hl : lv_has ls 5 [(0, .ref (ad 22))] := hl
  have fr0 : ∀ k, k < 22 → en k = en k := fun _ _ => rfl
  obtain ⟨hn48, -, -, -, hok, hnk⟩ := id hM
  have h6 := hok.1
  have h8 := hnk.1
  
  refine lv_aload_n hx hb dX8_choose_0 rfl (lv_at hl 0 rfl) ?_
  refine r_get (ci := 8) (v := .ref (ad 32)) (C := RX8) (T := TX8) (N := 31) hx hb hts inlX8 hown hK hs (22) (by omega) (md22 hM) rfl 13 (by decide) (hts _ w_fl_RX8_39) rfl dX8_choose_1 ?_
  refine lv_aload_n hx hb dX8_choose_4 rfl (lv_at hl 0 rfl) ?_
  refine r_get (ci := 8) (v := .int (nI d)) (C := RX8) (T := TX8) (N := 31) hx hb hts inlX8 hown hK hs (22) (by omega) (md22 hM) rfl 17 (by decide) (hts _ w_fl_RX8_109) rfl dX8_choose_5 ?_
  refine r_ialdN (t := d) hx hb hK hs (32) (by omega) (md32 hM) (rfl) (by omega) (by omega) dX8_choose_8 ?_
  refine r_topi (y := nI goal) (hwa) ?_
  refine lv_istore_n (lv' := [(1, .int (nI goal)), (0, .ref (ad 22))]) hx hb dX8_choose_9 rfl hl (by decide) rfl (fun ls hl => ?_)
  refine lv_aload_n hx hb dX8_choose_10 rfl (lv_at hl 1 rfl) ?_
  refine r_get (ci := 8) (v := .ref (ad 33)) (C := RX8) (T := TX8) (N := 31) hx hb hts inlX8 hown hK hs (22) (by omega) (md22 hM) rfl 14 (by decide) (hts _ w_fl_RX8_42) rfl dX8_choose_11 ?_
  refine lv_aload_n hx hb dX8_choose_14 rfl (lv_at hl 1 rfl) ?_
  refine r_get (ci := 8) (v := .int (nI d)) (C := RX8) (T := TX8) (N := 31) hx hb hts inlX8 hown hK hs (22) (by omega) (md22 hM) rfl 17 (by decide) (hts _ w_fl_RX8_109) rfl dX8_choose_15 ?_
  refine r_ialdN (t := d) hx hb hK hs (33) (by omega) (md33 hM) (rfl) (by omega) (by omega) dX8_choose_18 ?_
  refine r_topi (y := nI s) (hst) ?_
  refine lv_istore_n (lv' := [(2, .int (nI s)), (1, .int (nI goal)), (0, .ref (ad 22))]) hx hb dX8_choose_19 rfl hl (by decide) rfl (fun ls hl => ?_)
  refine lv_aload_n hx hb dX8_choose_20 rfl (lv_at hl 2 rfl) ?_
  refine r_get (ci := 8) (v := .ref (ad 37)) (C := RX8) (T := TX8) (N := 31) hx hb hts inlX8 hown hK hs (22) (by omega) (md22 hM) rfl 19 (by decide) (hts _ w_fl_RX8_54) rfl dX8_choose_21 ?_
  refine lv_iload_n hx hb dX8_choose_24 rfl (lv_at hl 0 rfl) ?_
  refine lv_iload_n hx hb dX8_choose_25 rfl (lv_at hl 1 rfl) ?_
  refine r_iastN (t := s) hx hb hK hs (37) (by omega) (md37 hM) (rfl) (by omega) (by omega) dX8_choose_26 (fun H locs en_2 hen_2 hs => ?_)
  obtain ⟨c_4, ec_4⟩ : ∃ z, z = cU c 37 (s) (nI goal) := ⟨_, rfl⟩
  have hM_3 : MdW G n ad en_2 ss ns c_4 us ov (nI d) cl := md_ar (f := upd (c 37) (s) (nI goal)) hM 37 (by decide) (by decide) hen_2 ec_4
  have fr_5 : ∀ k, k < 22 → en_2 k = en k := fun k hk => Eq.trans (by rw [hen_2]; exact va_up_ne _ _ (by omega)) (fr0 k hk)
  have hR_6 : RowM c_4 d Γ := by rw [ec_4]; exact row_cU hR (by decide)
  refine lv_aload_n hx hb dX8_choose_27 rfl (lv_at hl 2 rfl) ?_
  refine lv_aload_n hx hb dX8_choose_28 rfl (lv_at hl 2 rfl) ?_
  refine r_get (ci := 8) (v := .int (nI d)) (C := RX8) (T := TX8) (N := 31) hx hb hts inlX8 hown hK hs (22) (by omega) (md22 hM_3) rfl 17 (by decide) (hts _ w_fl_RX8_109) rfl dX8_choose_29 ?_
  refine lv_iload_n hx hb dX8_choose_32 rfl (lv_at hl 1 rfl) ?_
  refine r_callViR (ci := 8) (As := [.int (nI d), .int (nI goal)]) hx hb hml hown hts hK hA hs (22) (by omega) (md22 hM_3) rfl rfl (c_X8_has l G hM_3 (d := d) (f := goal) (by omega) (by omega) hR_6 hΓ) (cwV 2 hts (tbV w_ml_RX8_118 w_im_yX8_has w_se_yX8_has w_ini_RX8 w_cd_yX8_has) rfl rfl rfl (by decide +kernel) ⟨Nat.le_of_ble_eq_true rfl, Nat.le_of_ble_eq_true rfl⟩) rfl hl.1 rfl (Nat.le_of_ble_eq_true rfl) dX8_choose_33 ⟨Nat.zero_le _, Nat.zero_le _⟩ (fun H locs hs => ?_)
  refine lv_if_eq (tgt := 49) hx hb dX8_choose_36 (by decide) (fun c36 => ?_) (fun c36 => ?_)
  · skip
    refine lv_aload_n hx hb dX8_choose_49 rfl (lv_at hl 2 rfl) ?_
    refine lv_aload_n hx hb dX8_choose_50 rfl (lv_at hl 2 rfl) ?_
    refine r_get (ci := 8) (v := .int (nI d)) (C := RX8) (T := TX8) (N := 31) hx hb hts inlX8 hown hK hs (22) (by omega) (md22 hM_3) rfl 17 (by decide) (hts _ w_fl_RX8_109) rfl dX8_choose_51 ?_
    refine lv_aload_n hx hb dX8_choose_54 rfl (lv_at hl 2 rfl) ?_
    refine r_callViR (ci := 8) (As := []) hx hb hml hown hts hK hA hs (22) (by omega) (md22 hM_3) rfl rfl (c_X8_falseOne l G hM_3) (cwV 0 hts (tbV w_ml_RX8_125 w_im_yX8_falseOne w_se_yX8_falseOne w_ini_RX8 w_cd_yX8_falseOne) rfl rfl rfl (by decide +kernel) ⟨Nat.le_of_ble_eq_true rfl, Nat.le_of_ble_eq_true rfl⟩) rfl hl.1 rfl (Nat.le_of_ble_eq_true rfl) dX8_choose_55 ⟨Nat.zero_le _, Nat.zero_le _⟩ (fun H locs hs => ?_)
    refine r_callViR (ci := 8) (As := [.int (nI d), .int (nI (kFind ss (1, 0, 0, 0, 0)))]) hx hb hml hown hts hK hA hs (22) (by omega) (md22 hM_3) rfl rfl (c_X8_has l G hM_3 (d := d) (f := (kFind ss (1, 0, 0, 0, 0))) (by omega) (by have : kFind ss (1, 0, 0, 0, 0) ≤ ss.length := kFU_le _ _ _; omega) hR_6 hΓ) (cwV 2 hts (tbV w_ml_RX8_118 w_im_yX8_has w_se_yX8_has w_ini_RX8 w_cd_yX8_has) rfl rfl rfl (by decide +kernel) ⟨Nat.le_of_ble_eq_true rfl, Nat.le_of_ble_eq_true rfl⟩) rfl hl.1 rfl (Nat.le_of_ble_eq_true rfl) dX8_choose_58 ⟨Nat.zero_le _, Nat.zero_le _⟩ (fun H locs hs => ?_)
    refine lv_if_eq (tgt := 74) hx hb dX8_choose_61 (by decide) (fun c61 => ?_) (fun c61 => ?_)
    · skip
      refine lv_aload_n hx hb dX8_choose_74 rfl (lv_at hl 2 rfl) ?_
      refine lv_iload_n hx hb dX8_choose_75 rfl (lv_at hl 1 rfl) ?_
      refine lv_iconst (v := 2) hx hb dX8_choose_76 (by decide) ?_
      refine r_callViR (ci := 8) (As := [.int (nI goal), .int (2)]) hx hb hml hown hts hK hA hs (22) (by omega) (md22 hM_3) rfl rfl (c_X8_isA l G hM_3 (f := goal) (so := 2) (by omega) (by decide)) (cwV 2 hts (tbV w_ml_RX8_122 w_im_yX8_isA w_se_yX8_isA w_ini_RX8 w_cd_yX8_isA) rfl rfl rfl (by decide +kernel) ⟨Nat.le_of_ble_eq_true rfl, Nat.le_of_ble_eq_true rfl⟩) rfl hl.1 rfl (Nat.le_of_ble_eq_true rfl) dX8_choose_77 ⟨Nat.zero_le _, Nat.zero_le _⟩ (fun H locs hs => ?_)
      refine lv_if_eq (tgt := 93) hx hb dX8_choose_80 (by decide) (fun c80 => ?_) (fun c80 => ?_)
      · skip
        refine lv_aload_n hx hb dX8_choose_93 rfl (lv_at hl 2 rfl) ?_
        refine lv_iload_n hx hb dX8_choose_94 rfl (lv_at hl 1 rfl) ?_
        refine lv_iconst (v := 4) hx hb dX8_choose_95 (by decide) ?_
        refine r_callViR (ci := 8) (As := [.int (nI goal), .int (4)]) hx hb hml hown hts hK hA hs (22) (by omega) (md22 hM_3) rfl rfl (c_X8_isA l G hM_3 (f := goal) (so := 4) (by omega) (by decide)) (cwV 2 hts (tbV w_ml_RX8_122 w_im_yX8_isA w_se_yX8_isA w_ini_RX8 w_cd_yX8_isA) rfl rfl rfl (by decide +kernel) ⟨Nat.le_of_ble_eq_true rfl, Nat.le_of_ble_eq_true rfl⟩) rfl hl.1 rfl (Nat.le_of_ble_eq_true rfl) dX8_choose_96 ⟨Nat.zero_le _, Nat.zero_le _⟩ (fun H locs hs => ?_)
        refine lv_if_eq (tgt := 109) hx hb dX8_choose_99 (by decide) (fun c99 => ?_) (fun c99 => ?_)
        · skip
          refine lv_iconst (v := 5) hx hb dX8_choose_109 (by decide) ?_
          refine r_topi (y := nI 5) (rfl) ?_
          refine lv_istore_n (lv' := [(3, .int (nI 5)), (2, .int (nI s)), (1, .int (nI goal)), (0, .ref (ad 22))]) hx hb dX8_choose_110 rfl hl (by decide) rfl (fun ls hl => ?_)
          have hl : lv_has ls 5 [(3, .int (nI 5)), (2, .int (nI s)), (1, .int (nI goal)), (0, .ref (ad 22))] := hl
          refine lv_iload_n hx hb dX8_choose_111 rfl (lv_at hl 0 rfl) ?_
          refine lv_bipush (v := 11) hx hb dX8_choose_112 (by decide) ?_
          refine lv_icmp_ge (tgt := 162) hx hb dX8_choose_114 (by decide) (fun c114 => absurd c114 (by decide)) (fun _ => ?_)
          refine lv_aload_n hx hb dX8_choose_117 rfl (lv_at hl 3 rfl) ?_
          refine r_get (ci := 8) (v := .ref (ad 36)) (C := RX8) (T := TX8) (N := 31) hx hb hts inlX8 hown hK hs (22) (by omega) (md22 hM_3) rfl 18 (by decide) (hts _ w_fl_RX8_51) rfl dX8_choose_118 ?_
          refine lv_iload_n hx hb dX8_choose_121 rfl (lv_at hl 1 rfl) ?_
          refine r_ialdN (t := s) hx hb hK hs (36) (by omega) (md36 hM_3) (rfl) (by omega) (by omega) dX8_choose_122 ?_
          refine lv_if_ne (tgt := 162) hx hb dX8_choose_123 (by decide) (fun c123 => absurd (by rw [ec_4, cU_o (by omega)]; exact h0) c123) (fun _ => ?_)
          refine lv_aload_n hx hb dX8_choose_126 rfl (lv_at hl 3 rfl) ?_
          refine lv_iload_n hx hb dX8_choose_127 rfl (lv_at hl 0 rfl) ?_
          refine r_callViR (ci := 8) (As := [.int (nI 5)]) hx hb hml hown hts hK hA hs (22) (by omega) (md22 hM_3) rfl rfl (c_X8_least l G hM_3 (r := 5) (by decide) (by omega) hR_6 hΓ) (cwV 1 hts (tbV w_ml_RX8_129 w_im_yX8_least w_se_yX8_least w_ini_RX8 w_cd_yX8_least) rfl rfl rfl (by decide +kernel) ⟨Nat.le_of_ble_eq_true rfl, Nat.le_of_ble_eq_true rfl⟩) rfl hl.1 rfl (Nat.le_of_ble_eq_true rfl) dX8_choose_128 ⟨Nat.zero_le _, Nat.zero_le _⟩ (fun H locs hs => ?_)
          refine lv_istore (lv' := [(4, .int (nI (lstR ss Γ 5))), (3, .int (nI 5)), (2, .int (nI s)), (1, .int (nI goal)), (0, .ref (ad 22))]) hx hb dX8_choose_131 hl (by decide) rfl (fun ls hl => ?_)
          refine lv_iload hx hb dX8_choose_133 (lv_at hl 0 rfl) ?_
          refine lv_if_ne (tgt := 141) hx hb dX8_choose_135 (by decide) (fun q5 => ?_) (fun q5 => ?_)
          · skip
            have hl5 : lstR ss Γ 5 ≠ 0 := nz_of (by have := lstR_lt ss Γ 5; omega) q5
            refine lv_aload_n hx hb dX8_choose_141 rfl (lv_at hl 4 rfl) ?_
            refine r_get (ci := 8) (v := .ref (ad 36)) (C := RX8) (T := TX8) (N := 31) hx hb hts inlX8 hown hK hs (22) (by omega) (md22 hM_3) rfl 18 (by decide) (hts _ w_fl_RX8_51) rfl dX8_choose_142 ?_
            refine lv_iload_n hx hb dX8_choose_145 rfl (lv_at hl 2 rfl) ?_
            refine lv_iload_n hx hb dX8_choose_146 rfl (lv_at hl 1 rfl) ?_
            refine r_iastN (t := s) hx hb hK hs (36) (by omega) (md36 hM_3) (rfl) (by omega) (by omega) dX8_choose_147 (fun H locs en_8 hen_8 hs => ?_)
            obtain ⟨c_10, ec_10⟩ : ∃ z, z = cU c_4 36 (s) (nI 5) := ⟨_, rfl⟩
            have hM_9 : MdW G n ad en_8 ss ns c_10 us ov (nI d) cl := md_ar (f := upd (c_4 36) (s) (nI 5)) hM_3 36 (by decide) (by decide) hen_8 ec_10
            have fr_11 : ∀ k, k < 22 → en_8 k = en k := fun k hk => Eq.trans (by rw [hen_8]; exact va_up_ne _ _ (by omega)) (fr_5 k hk)
            have hR_12 : RowM c_10 d Γ := by rw [ec_10]; exact row_cU hR_6 (by decide)
            refine lv_aload_n hx hb dX8_choose_148 rfl (lv_at hl 4 rfl) ?_
            refine r_get (ci := 8) (v := .ref (ad 37)) (C := RX8) (T := TX8) (N := 31) hx hb hts inlX8 hown hK hs (22) (by omega) (md22 hM_9) rfl 19 (by decide) (hts _ w_fl_RX8_54) rfl dX8_choose_149 ?_
            refine lv_iload_n hx hb dX8_choose_152 rfl (lv_at hl 2 rfl) ?_
            refine lv_iload hx hb dX8_choose_153 (lv_at hl 0 rfl) ?_
            refine r_iastN (t := s) hx hb hK hs (37) (by omega) (md37 hM_9) (rfl) (by omega) (by omega) dX8_choose_155 (fun H locs en_14 hen_14 hs => ?_)
            obtain ⟨c_16, ec_16⟩ : ∃ z, z = cU c_10 37 (s) (nI (lstR ss Γ 5)) := ⟨_, rfl⟩
            have hM_15 : MdW G n ad en_14 ss ns c_16 us ov (nI d) cl := md_ar (f := upd (c_10 37) (s) (nI (lstR ss Γ 5))) hM_9 37 (by decide) (by decide) hen_14 ec_16
            have fr_17 : ∀ k, k < 22 → en_14 k = en k := fun k hk => Eq.trans (by rw [hen_14]; exact va_up_ne _ _ (by omega)) (fr_11 k hk)
            have hR_18 : RowM c_16 d Γ := by rw [ec_16]; exact row_cU hR_12 (by decide)
            refine lv_iinc (v := nI (5 + 1)) (lv' := [(3, .int (nI (5 + 1))), (4, .int (nI (lstR ss Γ 5))), (2, .int (nI s)), (1, .int (nI goal)), (0, .ref (ad 22))]) hx hb dX8_choose_156 hl (k := 1) rfl (nI_add 5 1) (by decide) rfl (fun ls hl => ?_)
            refine lv_goto (tgt := 111) hx hb dX8_choose_159 (by decide) ?_
            have hl : lv_has ls 5 [(3, .int (nI 6)), (4, .int (nI (lstR ss Γ 5))), (2, .int (nI s)), (1, .int (nI goal)), (0, .ref (ad 22))] := hl
            refine lv_iload_n hx hb dX8_choose_111 rfl (lv_at hl 0 rfl) ?_
            refine lv_bipush (v := 11) hx hb dX8_choose_112 (by decide) ?_
            refine lv_icmp_ge (tgt := 162) hx hb dX8_choose_114 (by decide) (fun c114 => absurd c114 (by decide)) (fun _ => ?_)
            refine lv_aload_n hx hb dX8_choose_117 rfl (lv_at hl 4 rfl) ?_
            refine r_get (ci := 8) (v := .ref (ad 36)) (C := RX8) (T := TX8) (N := 31) hx hb hts inlX8 hown hK hs (22) (by omega) (md22 hM_15) rfl 18 (by decide) (hts _ w_fl_RX8_51) rfl dX8_choose_118 ?_
            refine lv_iload_n hx hb dX8_choose_121 rfl (lv_at hl 2 rfl) ?_
            refine r_ialdN (t := s) hx hb hK hs (36) (by omega) (md36 hM_15) (rfl) (by omega) (by omega) dX8_choose_122 ?_
            refine lv_if_ne (tgt := 162) hx hb dX8_choose_123 (by decide) (fun _ => ?_) (fun c123 => absurd c123 (by rw [ec_16, cU_o (by omega), ec_10, cU_s]; decide))
            refine lv_aload_n hx hb dX8_choose_162 rfl (lv_at hl 4 rfl) ?_
            refine r_get (ci := 8) (v := .ref (ad 36)) (C := RX8) (T := TX8) (N := 31) hx hb hts inlX8 hown hK hs (22) (by omega) (md22 hM_15) rfl 18 (by decide) (hts _ w_fl_RX8_51) rfl dX8_choose_163 ?_
            refine lv_iload_n hx hb dX8_choose_166 rfl (lv_at hl 2 rfl) ?_
            refine r_ialdN (t := s) hx hb hK hs (36) (by omega) (md36 hM_15) (rfl) (by omega) (by omega) dX8_choose_167 ?_
            refine lv_if_ne (tgt := 179) hx hb dX8_choose_168 (by decide) (fun _ => ?_) (fun c168 => absurd c168 (by rw [ec_16, cU_o (by omega), ec_10, cU_s]; decide))
            refine r_vret (mc := 0) (ms := 0) hx hb hr hlk hs (Nat.le_refl _) (Nat.le_refl _) dX8_choose_179 hQ ?_
            have hg0 := ch_34 hok hΓ (b2i_0 c36) (b2i_0 c61)
            have hg1 := hg0.trans ((if_neg (isK_ne (b2i_0 c80) hg.1)).trans (if_neg (isK_ne (b2i_0 c99) hg.1)))
            have hw : fstW ss Γ goal = 16 * lstR ss Γ 5 + 5 := ch_gi hg1 (by rw [giW, if_pos (show lstK ss Γ 2 0 ≠ 0 from hl5)]; rfl) (by omega)
            exact ⟨⟨rfl, fr_17⟩, c_16, hM_15, by rw [ec_16, cU_o (by omega), ec_10, cU_s]; rw [hw, chR_lo (by decide)]; try rfl, by rw [ec_16, cU_s]; rw [hw, chA_hi (by decide)], fun r t h => by rw [ec_16, cU_o (by omega), ec_10, cU_o (by omega), ec_4, cU_o (by omega)]⟩
          · skip
            have hz5 : lstR ss Γ 5 = 0 := z_of (by have := lstR_lt ss Γ 5; omega) q5
            refine lv_goto (tgt := 156) hx hb dX8_choose_138 (by decide) ?_
            refine lv_iinc (v := nI (5 + 1)) (lv' := [(3, .int (nI (5 + 1))), (4, .int (nI (lstR ss Γ 5))), (2, .int (nI s)), (1, .int (nI goal)), (0, .ref (ad 22))]) hx hb dX8_choose_156 hl (k := 1) rfl (nI_add 5 1) (by decide) rfl (fun ls hl => ?_)
            refine lv_goto (tgt := 111) hx hb dX8_choose_159 (by decide) ?_
            have hl : lv_has ls 5 [(3, .int (nI 6)), (4, .int (nI (lstR ss Γ 5))), (2, .int (nI s)), (1, .int (nI goal)), (0, .ref (ad 22))] := hl
            refine lv_iload_n hx hb dX8_choose_111 rfl (lv_at hl 0 rfl) ?_
            refine lv_bipush (v := 11) hx hb dX8_choose_112 (by decide) ?_
            refine lv_icmp_ge (tgt := 162) hx hb dX8_choose_114 (by decide) (fun c114 => absurd c114 (by decide)) (fun _ => ?_)
            refine lv_aload_n hx hb dX8_choose_117 rfl (lv_at hl 4 rfl) ?_
            refine r_get (ci := 8) (v := .ref (ad 36)) (C := RX8) (T := TX8) (N := 31) hx hb hts inlX8 hown hK hs (22) (by omega) (md22 hM_3) rfl 18 (by decide) (hts _ w_fl_RX8_51) rfl dX8_choose_118 ?_
            refine lv_iload_n hx hb dX8_choose_121 rfl (lv_at hl 2 rfl) ?_
            refine r_ialdN (t := s) hx hb hK hs (36) (by omega) (md36 hM_3) (rfl) (by omega) (by omega) dX8_choose_122 ?_
            refine lv_if_ne (tgt := 162) hx hb dX8_choose_123 (by decide) (fun c123 => absurd (by rw [ec_4, cU_o (by omega)]; exact h0) c123) (fun _ => ?_)
            refine lv_aload_n hx hb dX8_choose_126 rfl (lv_at hl 4 rfl) ?_
            refine lv_iload_n hx hb dX8_choose_127 rfl (lv_at hl 0 rfl) ?_
            refine r_callViR (ci := 8) (As := [.int (nI 6)]) hx hb hml hown hts hK hA hs (22) (by omega) (md22 hM_3) rfl rfl (c_X8_least l G hM_3 (r := 6) (by decide) (by omega) hR_6 hΓ) (cwV 1 hts (tbV w_ml_RX8_129 w_im_yX8_least w_se_yX8_least w_ini_RX8 w_cd_yX8_least) rfl rfl rfl (by decide +kernel) ⟨Nat.le_of_ble_eq_true rfl, Nat.le_of_ble_eq_true rfl⟩) rfl hl.1 rfl (Nat.le_of_ble_eq_true rfl) dX8_choose_128 ⟨Nat.zero_le _, Nat.zero_le _⟩ (fun H locs hs => ?_)
            refine lv_istore (lv' := [(4, .int (nI (lstR ss Γ 6))), (3, .int (nI 6)), (2, .int (nI s)), (1, .int (nI goal)), (0, .ref (ad 22))]) hx hb dX8_choose_131 hl (by decide) rfl (fun ls hl => ?_)
            refine lv_iload hx hb dX8_choose_133 (lv_at hl 0 rfl) ?_
            refine lv_if_ne (tgt := 141) hx hb dX8_choose_135 (by decide) (fun q6 => ?_) (fun q6 => ?_)
            · skip
              have hl6 : lstR ss Γ 6 ≠ 0 := nz_of (by have := lstR_lt ss Γ 6; omega) q6
              refine lv_aload_n hx hb dX8_choose_141 rfl (lv_at hl 4 rfl) ?_
              refine r_get (ci := 8) (v := .ref (ad 36)) (C := RX8) (T := TX8) (N := 31) hx hb hts inlX8 hown hK hs (22) (by omega) (md22 hM_3) rfl 18 (by decide) (hts _ w_fl_RX8_51) rfl dX8_choose_142 ?_
              refine lv_iload_n hx hb dX8_choose_145 rfl (lv_at hl 2 rfl) ?_
              refine lv_iload_n hx hb dX8_choose_146 rfl (lv_at hl 1 rfl) ?_
              refine r_iastN (t := s) hx hb hK hs (36) (by omega) (md36 hM_3) (rfl) (by omega) (by omega) dX8_choose_147 (fun H locs en_20 hen_20 hs => ?_)
              obtain ⟨c_22, ec_22⟩ : ∃ z, z = cU c_4 36 (s) (nI 6) := ⟨_, rfl⟩
              have hM_21 : MdW G n ad en_20 ss ns c_22 us ov (nI d) cl := md_ar (f := upd (c_4 36) (s) (nI 6)) hM_3 36 (by decide) (by decide) hen_20 ec_22
              have fr_23 : ∀ k, k < 22 → en_20 k = en k := fun k hk => Eq.trans (by rw [hen_20]; exact va_up_ne _ _ (by omega)) (fr_5 k hk)
              have hR_24 : RowM c_22 d Γ := by rw [ec_22]; exact row_cU hR_6 (by decide)
              refine lv_aload_n hx hb dX8_choose_148 rfl (lv_at hl 4 rfl) ?_
              refine r_get (ci := 8) (v := .ref (ad 37)) (C := RX8) (T := TX8) (N := 31) hx hb hts inlX8 hown hK hs (22) (by omega) (md22 hM_21) rfl 19 (by decide) (hts _ w_fl_RX8_54) rfl dX8_choose_149 ?_
              refine lv_iload_n hx hb dX8_choose_152 rfl (lv_at hl 2 rfl) ?_
              refine lv_iload hx hb dX8_choose_153 (lv_at hl 0 rfl) ?_
              refine r_iastN (t := s) hx hb hK hs (37) (by omega) (md37 hM_21) (rfl) (by omega) (by omega) dX8_choose_155 (fun H locs en_26 hen_26 hs => ?_)
              obtain ⟨c_28, ec_28⟩ : ∃ z, z = cU c_22 37 (s) (nI (lstR ss Γ 6)) := ⟨_, rfl⟩
              have hM_27 : MdW G n ad en_26 ss ns c_28 us ov (nI d) cl := md_ar (f := upd (c_22 37) (s) (nI (lstR ss Γ 6))) hM_21 37 (by decide) (by decide) hen_26 ec_28
              have fr_29 : ∀ k, k < 22 → en_26 k = en k := fun k hk => Eq.trans (by rw [hen_26]; exact va_up_ne _ _ (by omega)) (fr_23 k hk)
              have hR_30 : RowM c_28 d Γ := by rw [ec_28]; exact row_cU hR_24 (by decide)
              refine lv_iinc (v := nI (6 + 1)) (lv' := [(3, .int (nI (6 + 1))), (4, .int (nI (lstR ss Γ 6))), (2, .int (nI s)), (1, .int (nI goal)), (0, .ref (ad 22))]) hx hb dX8_choose_156 hl (k := 1) rfl (nI_add 6 1) (by decide) rfl (fun ls hl => ?_)
              refine lv_goto (tgt := 111) hx hb dX8_choose_159 (by decide) ?_
              have hl : lv_has ls 5 [(3, .int (nI 7)), (4, .int (nI (lstR ss Γ 6))), (2, .int (nI s)), (1, .int (nI goal)), (0, .ref (ad 22))] := hl
              refine lv_iload_n hx hb dX8_choose_111 rfl (lv_at hl 0 rfl) ?_
              refine lv_bipush (v := 11) hx hb dX8_choose_112 (by decide) ?_
              refine lv_icmp_ge (tgt := 162) hx hb dX8_choose_114 (by decide) (fun c114 => absurd c114 (by decide)) (fun _ => ?_)
              refine lv_aload_n hx hb dX8_choose_117 rfl (lv_at hl 4 rfl) ?_
              refine r_get (ci := 8) (v := .ref (ad 36)) (C := RX8) (T := TX8) (N := 31) hx hb hts inlX8 hown hK hs (22) (by omega) (md22 hM_27) rfl 18 (by decide) (hts _ w_fl_RX8_51) rfl dX8_choose_118 ?_
              refine lv_iload_n hx hb dX8_choose_121 rfl (lv_at hl 2 rfl) ?_
              refine r_ialdN (t := s) hx hb hK hs (36) (by omega) (md36 hM_27) (rfl) (by omega) (by omega) dX8_choose_122 ?_
              refine lv_if_ne (tgt := 162) hx hb dX8_choose_123 (by decide) (fun _ => ?_) (fun c123 => absurd c123 (by rw [ec_28, cU_o (by omega), ec_22, cU_s]; decide))
              refine lv_aload_n hx hb dX8_choose_162 rfl (lv_at hl 4 rfl) ?_
              refine r_get (ci := 8) (v := .ref (ad 36)) (C := RX8) (T := TX8) (N := 31) hx hb hts inlX8 hown hK hs (22) (by omega) (md22 hM_27) rfl 18 (by decide) (hts _ w_fl_RX8_51) rfl dX8_choose_163 ?_
              refine lv_iload_n hx hb dX8_choose_166 rfl (lv_at hl 2 rfl) ?_
              refine r_ialdN (t := s) hx hb hK hs (36) (by omega) (md36 hM_27) (rfl) (by omega) (by omega) dX8_choose_167 ?_
              refine lv_if_ne (tgt := 179) hx hb dX8_choose_168 (by decide) (fun _ => ?_) (fun c168 => absurd c168 (by rw [ec_28, cU_o (by omega), ec_22, cU_s]; decide))
              refine r_vret (mc := 0) (ms := 0) hx hb hr hlk hs (Nat.le_refl _) (Nat.le_refl _) dX8_choose_179 hQ ?_
              have hg0 := ch_34 hok hΓ (b2i_0 c36) (b2i_0 c61)
              have hg1 := hg0.trans ((if_neg (isK_ne (b2i_0 c80) hg.1)).trans (if_neg (isK_ne (b2i_0 c99) hg.1)))
              have hw : fstW ss Γ goal = 16 * lstR ss Γ 6 + 6 := ch_gi hg1 (by rw [giW, if_neg (fun q => q (show lstK ss Γ 2 0 = 0 from hz5)), if_pos (show lstK ss Γ 3 0 ≠ 0 from hl6)]; rfl) (by omega)
              exact ⟨⟨rfl, fr_29⟩, c_28, hM_27, by rw [ec_28, cU_o (by omega), ec_22, cU_s]; rw [hw, chR_lo (by decide)]; try rfl, by rw [ec_28, cU_s]; rw [hw, chA_hi (by decide)], fun r t h => by rw [ec_28, cU_o (by omega), ec_22, cU_o (by omega), ec_4, cU_o (by omega)]⟩
            · skip
              have hz6 : lstR ss Γ 6 = 0 := z_of (by have := lstR_lt ss Γ 6; omega) q6
              refine lv_goto (tgt := 156) hx hb dX8_choose_138 (by decide) ?_
              refine lv_iinc (v := nI (6 + 1)) (lv' := [(3, .int (nI (6 + 1))), (4, .int (nI (lstR ss Γ 6))), (2, .int (nI s)), (1, .int (nI goal)), (0, .ref (ad 22))]) hx hb dX8_choose_156 hl (k := 1) rfl (nI_add 6 1) (by decide) rfl (fun ls hl => ?_)
              refine lv_goto (tgt := 111) hx hb dX8_choose_159 (by decide) ?_
              have hl : lv_has ls 5 [(3, .int (nI 7)), (4, .int (nI (lstR ss Γ 6))), (2, .int (nI s)), (1, .int (nI goal)), (0, .ref (ad 22))] := hl
              refine lv_iload_n hx hb dX8_choose_111 rfl (lv_at hl 0 rfl) ?_
              refine lv_bipush (v := 11) hx hb dX8_choose_112 (by decide) ?_
              refine lv_icmp_ge (tgt := 162) hx hb dX8_choose_114 (by decide) (fun c114 => absurd c114 (by decide)) (fun _ => ?_)
              refine lv_aload_n hx hb dX8_choose_117 rfl (lv_at hl 4 rfl) ?_
              refine r_get (ci := 8) (v := .ref (ad 36)) (C := RX8) (T := TX8) (N := 31) hx hb hts inlX8 hown hK hs (22) (by omega) (md22 hM_3) rfl 18 (by decide) (hts _ w_fl_RX8_51) rfl dX8_choose_118 ?_
              refine lv_iload_n hx hb dX8_choose_121 rfl (lv_at hl 2 rfl) ?_
              refine r_ialdN (t := s) hx hb hK hs (36) (by omega) (md36 hM_3) (rfl) (by omega) (by omega) dX8_choose_122 ?_
              refine lv_if_ne (tgt := 162) hx hb dX8_choose_123 (by decide) (fun c123 => absurd (by rw [ec_4, cU_o (by omega)]; exact h0) c123) (fun _ => ?_)
              refine lv_aload_n hx hb dX8_choose_126 rfl (lv_at hl 4 rfl) ?_
              refine lv_iload_n hx hb dX8_choose_127 rfl (lv_at hl 0 rfl) ?_
              refine r_callViR (ci := 8) (As := [.int (nI 7)]) hx hb hml hown hts hK hA hs (22) (by omega) (md22 hM_3) rfl rfl (c_X8_least l G hM_3 (r := 7) (by decide) (by omega) hR_6 hΓ) (cwV 1 hts (tbV w_ml_RX8_129 w_im_yX8_least w_se_yX8_least w_ini_RX8 w_cd_yX8_least) rfl rfl rfl (by decide +kernel) ⟨Nat.le_of_ble_eq_true rfl, Nat.le_of_ble_eq_true rfl⟩) rfl hl.1 rfl (Nat.le_of_ble_eq_true rfl) dX8_choose_128 ⟨Nat.zero_le _, Nat.zero_le _⟩ (fun H locs hs => ?_)
              refine lv_istore (lv' := [(4, .int (nI (lstR ss Γ 7))), (3, .int (nI 7)), (2, .int (nI s)), (1, .int (nI goal)), (0, .ref (ad 22))]) hx hb dX8_choose_131 hl (by decide) rfl (fun ls hl => ?_)
              refine lv_iload hx hb dX8_choose_133 (lv_at hl 0 rfl) ?_
              refine lv_if_ne (tgt := 141) hx hb dX8_choose_135 (by decide) (fun q7 => ?_) (fun q7 => ?_)
              · skip
                have hl7 : lstR ss Γ 7 ≠ 0 := nz_of (by have := lstR_lt ss Γ 7; omega) q7
                refine lv_aload_n hx hb dX8_choose_141 rfl (lv_at hl 4 rfl) ?_
                refine r_get (ci := 8) (v := .ref (ad 36)) (C := RX8) (T := TX8) (N := 31) hx hb hts inlX8 hown hK hs (22) (by omega) (md22 hM_3) rfl 18 (by decide) (hts _ w_fl_RX8_51) rfl dX8_choose_142 ?_
                refine lv_iload_n hx hb dX8_choose_145 rfl (lv_at hl 2 rfl) ?_
                refine lv_iload_n hx hb dX8_choose_146 rfl (lv_at hl 1 rfl) ?_
                refine r_iastN (t := s) hx hb hK hs (36) (by omega) (md36 hM_3) (rfl) (by omega) (by omega) dX8_choose_147 (fun H locs en_32 hen_32 hs => ?_)
                obtain ⟨c_34, ec_34⟩ : ∃ z, z = cU c_4 36 (s) (nI 7) := ⟨_, rfl⟩
                have hM_33 : MdW G n ad en_32 ss ns c_34 us ov (nI d) cl := md_ar (f := upd (c_4 36) (s) (nI 7)) hM_3 36 (by decide) (by decide) hen_32 ec_34
                have fr_35 : ∀ k, k < 22 → en_32 k = en k := fun k hk => Eq.trans (by rw [hen_32]; exact va_up_ne _ _ (by omega)) (fr_5 k hk)
                have hR_36 : RowM c_34 d Γ := by rw [ec_34]; exact row_cU hR_6 (by decide)
                refine lv_aload_n hx hb dX8_choose_148 rfl (lv_at hl 4 rfl) ?_
                refine r_get (ci := 8) (v := .ref (ad 37)) (C := RX8) (T := TX8) (N := 31) hx hb hts inlX8 hown hK hs (22) (by omega) (md22 hM_33) rfl 19 (by decide) (hts _ w_fl_RX8_54) rfl dX8_choose_149 ?_
                refine lv_iload_n hx hb dX8_choose_152 rfl (lv_at hl 2 rfl) ?_
                refine lv_iload hx hb dX8_choose_153 (lv_at hl 0 rfl) ?_
                refine r_iastN (t := s) hx hb hK hs (37) (by omega) (md37 hM_33) (rfl) (by omega) (by omega) dX8_choose_155 (fun H locs en_38 hen_38 hs => ?_)
                obtain ⟨c_40, ec_40⟩ : ∃ z, z = cU c_34 37 (s) (nI (lstR ss Γ 7)) := ⟨_, rfl⟩
                have hM_39 : MdW G n ad en_38 ss ns c_40 us ov (nI d) cl := md_ar (f := upd (c_34 37) (s) (nI (lstR ss Γ 7))) hM_33 37 (by decide) (by decide) hen_38 ec_40
                have fr_41 : ∀ k, k < 22 → en_38 k = en k := fun k hk => Eq.trans (by rw [hen_38]; exact va_up_ne _ _ (by omega)) (fr_35 k hk)
                have hR_42 : RowM c_40 d Γ := by rw [ec_40]; exact row_cU hR_36 (by decide)
                refine lv_iinc (v := nI (7 + 1)) (lv' := [(3, .int (nI (7 + 1))), (4, .int (nI (lstR ss Γ 7))), (2, .int (nI s)), (1, .int (nI goal)), (0, .ref (ad 22))]) hx hb dX8_choose_156 hl (k := 1) rfl (nI_add 7 1) (by decide) rfl (fun ls hl => ?_)
                refine lv_goto (tgt := 111) hx hb dX8_choose_159 (by decide) ?_
                have hl : lv_has ls 5 [(3, .int (nI 8)), (4, .int (nI (lstR ss Γ 7))), (2, .int (nI s)), (1, .int (nI goal)), (0, .ref (ad 22))] := hl
                refine lv_iload_n hx hb dX8_choose_111 rfl (lv_at hl 0 rfl) ?_
                refine lv_bipush (v := 11) hx hb dX8_choose_112 (by decide) ?_
                refine lv_icmp_ge (tgt := 162) hx hb dX8_choose_114 (by decide) (fun c114 => absurd c114 (by decide)) (fun _ => ?_)
                refine lv_aload_n hx hb dX8_choose_117 rfl (lv_at hl 4 rfl) ?_
                refine r_get (ci := 8) (v := .ref (ad 36)) (C := RX8) (T := TX8) (N := 31) hx hb hts inlX8 hown hK hs (22) (by omega) (md22 hM_39) rfl 18 (by decide) (hts _ w_fl_RX8_51) rfl dX8_choose_118 ?_
                refine lv_iload_n hx hb dX8_choose_121 rfl (lv_at hl 2 rfl) ?_
                refine r_ialdN (t := s) hx hb hK hs (36) (by omega) (md36 hM_39) (rfl) (by omega) (by omega) dX8_choose_122 ?_
                refine lv_if_ne (tgt := 162) hx hb dX8_choose_123 (by decide) (fun _ => ?_) (fun c123 => absurd c123 (by rw [ec_40, cU_o (by omega), ec_34, cU_s]; decide))
                refine lv_aload_n hx hb dX8_choose_162 rfl (lv_at hl 4 rfl) ?_
                refine r_get (ci := 8) (v := .ref (ad 36)) (C := RX8) (T := TX8) (N := 31) hx hb hts inlX8 hown hK hs (22) (by omega) (md22 hM_39) rfl 18 (by decide) (hts _ w_fl_RX8_51) rfl dX8_choose_163 ?_
                refine lv_iload_n hx hb dX8_choose_166 rfl (lv_at hl 2 rfl) ?_
                refine r_ialdN (t := s) hx hb hK hs (36) (by omega) (md36 hM_39) (rfl) (by omega) (by omega) dX8_choose_167 ?_
                refine lv_if_ne (tgt := 179) hx hb dX8_choose_168 (by decide) (fun _ => ?_) (fun c168 => absurd c168 (by rw [ec_40, cU_o (by omega), ec_34, cU_s]; decide))
                refine r_vret (mc := 0) (ms := 0) hx hb hr hlk hs (Nat.le_refl _) (Nat.le_refl _) dX8_choose_179 hQ ?_
                have hg0 := ch_34 hok hΓ (b2i_0 c36) (b2i_0 c61)
                have hg1 := hg0.trans ((if_neg (isK_ne (b2i_0 c80) hg.1)).trans (if_neg (isK_ne (b2i_0 c99) hg.1)))
                have hw : fstW ss Γ goal = 16 * lstR ss Γ 7 + 7 := ch_gi hg1 (by rw [giW, if_neg (fun q => q (show lstK ss Γ 2 0 = 0 from hz5)), if_neg (fun q => q (show lstK ss Γ 3 0 = 0 from hz6)), if_pos (show frdK ss Γ ≠ 0 from hl7)]; rfl) (by omega)
                exact ⟨⟨rfl, fr_41⟩, c_40, hM_39, by rw [ec_40, cU_o (by omega), ec_34, cU_s]; rw [hw, chR_lo (by decide)]; try rfl, by rw [ec_40, cU_s]; rw [hw, chA_hi (by decide)], fun r t h => by rw [ec_40, cU_o (by omega), ec_34, cU_o (by omega), ec_4, cU_o (by omega)]⟩
              · skip
                have hz7 : lstR ss Γ 7 = 0 := z_of (by have := lstR_lt ss Γ 7; omega) q7
                refine lv_goto (tgt := 156) hx hb dX8_choose_138 (by decide) ?_
                refine lv_iinc (v := nI (7 + 1)) (lv' := [(3, .int (nI (7 + 1))), (4, .int (nI (lstR ss Γ 7))), (2, .int (nI s)), (1, .int (nI goal)), (0, .ref (ad 22))]) hx hb dX8_choose_156 hl (k := 1) rfl (nI_add 7 1) (by decide) rfl (fun ls hl => ?_)
                refine lv_goto (tgt := 111) hx hb dX8_choose_159 (by decide) ?_
                have hl : lv_has ls 5 [(3, .int (nI 8)), (4, .int (nI (lstR ss Γ 7))), (2, .int (nI s)), (1, .int (nI goal)), (0, .ref (ad 22))] := hl
                refine lv_iload_n hx hb dX8_choose_111 rfl (lv_at hl 0 rfl) ?_
                refine lv_bipush (v := 11) hx hb dX8_choose_112 (by decide) ?_
                refine lv_icmp_ge (tgt := 162) hx hb dX8_choose_114 (by decide) (fun c114 => absurd c114 (by decide)) (fun _ => ?_)
                refine lv_aload_n hx hb dX8_choose_117 rfl (lv_at hl 4 rfl) ?_
                refine r_get (ci := 8) (v := .ref (ad 36)) (C := RX8) (T := TX8) (N := 31) hx hb hts inlX8 hown hK hs (22) (by omega) (md22 hM_3) rfl 18 (by decide) (hts _ w_fl_RX8_51) rfl dX8_choose_118 ?_
                refine lv_iload_n hx hb dX8_choose_121 rfl (lv_at hl 2 rfl) ?_
                refine r_ialdN (t := s) hx hb hK hs (36) (by omega) (md36 hM_3) (rfl) (by omega) (by omega) dX8_choose_122 ?_
                refine lv_if_ne (tgt := 162) hx hb dX8_choose_123 (by decide) (fun c123 => absurd (by rw [ec_4, cU_o (by omega)]; exact h0) c123) (fun _ => ?_)
                refine lv_aload_n hx hb dX8_choose_126 rfl (lv_at hl 4 rfl) ?_
                refine lv_iload_n hx hb dX8_choose_127 rfl (lv_at hl 0 rfl) ?_
                refine r_callViR (ci := 8) (As := [.int (nI 8)]) hx hb hml hown hts hK hA hs (22) (by omega) (md22 hM_3) rfl rfl (c_X8_least l G hM_3 (r := 8) (by decide) (by omega) hR_6 hΓ) (cwV 1 hts (tbV w_ml_RX8_129 w_im_yX8_least w_se_yX8_least w_ini_RX8 w_cd_yX8_least) rfl rfl rfl (by decide +kernel) ⟨Nat.le_of_ble_eq_true rfl, Nat.le_of_ble_eq_true rfl⟩) rfl hl.1 rfl (Nat.le_of_ble_eq_true rfl) dX8_choose_128 ⟨Nat.zero_le _, Nat.zero_le _⟩ (fun H locs hs => ?_)
                refine lv_istore (lv' := [(4, .int (nI (lstR ss Γ 8))), (3, .int (nI 8)), (2, .int (nI s)), (1, .int (nI goal)), (0, .ref (ad 22))]) hx hb dX8_choose_131 hl (by decide) rfl (fun ls hl => ?_)
                refine lv_iload hx hb dX8_choose_133 (lv_at hl 0 rfl) ?_
                refine lv_if_ne (tgt := 141) hx hb dX8_choose_135 (by decide) (fun q8 => ?_) (fun q8 => ?_)
                · skip
                  have hl8 : lstR ss Γ 8 ≠ 0 := nz_of (by have := lstR_lt ss Γ 8; omega) q8
                  refine lv_aload_n hx hb dX8_choose_141 rfl (lv_at hl 4 rfl) ?_
                  refine r_get (ci := 8) (v := .ref (ad 36)) (C := RX8) (T := TX8) (N := 31) hx hb hts inlX8 hown hK hs (22) (by omega) (md22 hM_3) rfl 18 (by decide) (hts _ w_fl_RX8_51) rfl dX8_choose_142 ?_
                  refine lv_iload_n hx hb dX8_choose_145 rfl (lv_at hl 2 rfl) ?_
                  refine lv_iload_n hx hb dX8_choose_146 rfl (lv_at hl 1 rfl) ?_
                  refine r_iastN (t := s) hx hb hK hs (36) (by omega) (md36 hM_3) (rfl) (by omega) (by omega) dX8_choose_147 (fun H locs en_44 hen_44 hs => ?_)
                  obtain ⟨c_46, ec_46⟩ : ∃ z, z = cU c_4 36 (s) (nI 8) := ⟨_, rfl⟩
                  have hM_45 : MdW G n ad en_44 ss ns c_46 us ov (nI d) cl := md_ar (f := upd (c_4 36) (s) (nI 8)) hM_3 36 (by decide) (by decide) hen_44 ec_46
                  have fr_47 : ∀ k, k < 22 → en_44 k = en k := fun k hk => Eq.trans (by rw [hen_44]; exact va_up_ne _ _ (by omega)) (fr_5 k hk)
                  have hR_48 : RowM c_46 d Γ := by rw [ec_46]; exact row_cU hR_6 (by decide)
                  refine lv_aload_n hx hb dX8_choose_148 rfl (lv_at hl 4 rfl) ?_
                  refine r_get (ci := 8) (v := .ref (ad 37)) (C := RX8) (T := TX8) (N := 31) hx hb hts inlX8 hown hK hs (22) (by omega) (md22 hM_45) rfl 19 (by decide) (hts _ w_fl_RX8_54) rfl dX8_choose_149 ?_
                  refine lv_iload_n hx hb dX8_choose_152 rfl (lv_at hl 2 rfl) ?_
                  refine lv_iload hx hb dX8_choose_153 (lv_at hl 0 rfl) ?_
                  refine r_iastN (t := s) hx hb hK hs (37) (by omega) (md37 hM_45) (rfl) (by omega) (by omega) dX8_choose_155 (fun H locs en_50 hen_50 hs => ?_)
                  obtain ⟨c_52, ec_52⟩ : ∃ z, z = cU c_46 37 (s) (nI (lstR ss Γ 8)) := ⟨_, rfl⟩
                  have hM_51 : MdW G n ad en_50 ss ns c_52 us ov (nI d) cl := md_ar (f := upd (c_46 37) (s) (nI (lstR ss Γ 8))) hM_45 37 (by decide) (by decide) hen_50 ec_52
                  have fr_53 : ∀ k, k < 22 → en_50 k = en k := fun k hk => Eq.trans (by rw [hen_50]; exact va_up_ne _ _ (by omega)) (fr_47 k hk)
                  have hR_54 : RowM c_52 d Γ := by rw [ec_52]; exact row_cU hR_48 (by decide)
                  refine lv_iinc (v := nI (8 + 1)) (lv' := [(3, .int (nI (8 + 1))), (4, .int (nI (lstR ss Γ 8))), (2, .int (nI s)), (1, .int (nI goal)), (0, .ref (ad 22))]) hx hb dX8_choose_156 hl (k := 1) rfl (nI_add 8 1) (by decide) rfl (fun ls hl => ?_)
                  refine lv_goto (tgt := 111) hx hb dX8_choose_159 (by decide) ?_
                  have hl : lv_has ls 5 [(3, .int (nI 9)), (4, .int (nI (lstR ss Γ 8))), (2, .int (nI s)), (1, .int (nI goal)), (0, .ref (ad 22))] := hl
                  refine lv_iload_n hx hb dX8_choose_111 rfl (lv_at hl 0 rfl) ?_
                  refine lv_bipush (v := 11) hx hb dX8_choose_112 (by decide) ?_
                  refine lv_icmp_ge (tgt := 162) hx hb dX8_choose_114 (by decide) (fun c114 => absurd c114 (by decide)) (fun _ => ?_)
                  refine lv_aload_n hx hb dX8_choose_117 rfl (lv_at hl 4 rfl) ?_
                  refine r_get (ci := 8) (v := .ref (ad 36)) (C := RX8) (T := TX8) (N := 31) hx hb hts inlX8 hown hK hs (22) (by omega) (md22 hM_51) rfl 18 (by decide) (hts _ w_fl_RX8_51) rfl dX8_choose_118 ?_
                  refine lv_iload_n hx hb dX8_choose_121 rfl (lv_at hl 2 rfl) ?_
                  refine r_ialdN (t := s) hx hb hK hs (36) (by omega) (md36 hM_51) (rfl) (by omega) (by omega) dX8_choose_122 ?_
                  refine lv_if_ne (tgt := 162) hx hb dX8_choose_123 (by decide) (fun _ => ?_) (fun c123 => absurd c123 (by rw [ec_52, cU_o (by omega), ec_46, cU_s]; decide))
                  refine lv_aload_n hx hb dX8_choose_162 rfl (lv_at hl 4 rfl) ?_
                  refine r_get (ci := 8) (v := .ref (ad 36)) (C := RX8) (T := TX8) (N := 31) hx hb hts inlX8 hown hK hs (22) (by omega) (md22 hM_51) rfl 18 (by decide) (hts _ w_fl_RX8_51) rfl dX8_choose_163 ?_
                  refine lv_iload_n hx hb dX8_choose_166 rfl (lv_at hl 2 rfl) ?_
                  refine r_ialdN (t := s) hx hb hK hs (36) (by omega) (md36 hM_51) (rfl) (by omega) (by omega) dX8_choose_167 ?_
                  refine lv_if_ne (tgt := 179) hx hb dX8_choose_168 (by decide) (fun _ => ?_) (fun c168 => absurd c168 (by rw [ec_52, cU_o (by omega), ec_46, cU_s]; decide))
                  refine r_vret (mc := 0) (ms := 0) hx hb hr hlk hs (Nat.le_refl _) (Nat.le_refl _) dX8_choose_179 hQ ?_
                  have hg0 := ch_34 hok hΓ (b2i_0 c36) (b2i_0 c61)
                  have hg1 := hg0.trans ((if_neg (isK_ne (b2i_0 c80) hg.1)).trans (if_neg (isK_ne (b2i_0 c99) hg.1)))
                  have hw : fstW ss Γ goal = 16 * lstR ss Γ 8 + 8 := ch_gi hg1 (by rw [giW, if_neg (fun q => q (show lstK ss Γ 2 0 = 0 from hz5)), if_neg (fun q => q (show lstK ss Γ 3 0 = 0 from hz6)), if_neg (fun q => q (show frdK ss Γ = 0 from hz7)), if_pos (show lstK ss Γ 6 0 ≠ 0 from hl8)]; rfl) (by omega)
                  exact ⟨⟨rfl, fr_53⟩, c_52, hM_51, by rw [ec_52, cU_o (by omega), ec_46, cU_s]; rw [hw, chR_lo (by decide)]; try rfl, by rw [ec_52, cU_s]; rw [hw, chA_hi (by decide)], fun r t h => by rw [ec_52, cU_o (by omega), ec_46, cU_o (by omega), ec_4, cU_o (by omega)]⟩
                · skip
                  have hz8 : lstR ss Γ 8 = 0 := z_of (by have := lstR_lt ss Γ 8; omega) q8
                  refine lv_goto (tgt := 156) hx hb dX8_choose_138 (by decide) ?_
                  refine lv_iinc (v := nI (8 + 1)) (lv' := [(3, .int (nI (8 + 1))), (4, .int (nI (lstR ss Γ 8))), (2, .int (nI s)), (1, .int (nI goal)), (0, .ref (ad 22))]) hx hb dX8_choose_156 hl (k := 1) rfl (nI_add 8 1) (by decide) rfl (fun ls hl => ?_)
                  refine lv_goto (tgt := 111) hx hb dX8_choose_159 (by decide) ?_
                  have hl : lv_has ls 5 [(3, .int (nI 9)), (4, .int (nI (lstR ss Γ 8))), (2, .int (nI s)), (1, .int (nI goal)), (0, .ref (ad 22))] := hl
                  refine lv_iload_n hx hb dX8_choose_111 rfl (lv_at hl 0 rfl) ?_
                  refine lv_bipush (v := 11) hx hb dX8_choose_112 (by decide) ?_
                  refine lv_icmp_ge (tgt := 162) hx hb dX8_choose_114 (by decide) (fun c114 => absurd c114 (by decide)) (fun _ => ?_)
                  refine lv_aload_n hx hb dX8_choose_117 rfl (lv_at hl 4 rfl) ?_
                  refine r_get (ci := 8) (v := .ref (ad 36)) (C := RX8) (T := TX8) (N := 31) hx hb hts inlX8 hown hK hs (22) (by omega) (md22 hM_3) rfl 18 (by decide) (hts _ w_fl_RX8_51) rfl dX8_choose_118 ?_
                  refine lv_iload_n hx hb dX8_choose_121 rfl (lv_at hl 2 rfl) ?_
                  refine r_ialdN (t := s) hx hb hK hs (36) (by omega) (md36 hM_3) (rfl) (by omega) (by omega) dX8_choose_122 ?_
                  refine lv_if_ne (tgt := 162) hx hb dX8_choose_123 (by decide) (fun c123 => absurd (by rw [ec_4, cU_o (by omega)]; exact h0) c123) (fun _ => ?_)
                  refine lv_aload_n hx hb dX8_choose_126 rfl (lv_at hl 4 rfl) ?_
                  refine lv_iload_n hx hb dX8_choose_127 rfl (lv_at hl 0 rfl) ?_
                  refine r_callViR (ci := 8) (As := [.int (nI 9)]) hx hb hml hown hts hK hA hs (22) (by omega) (md22 hM_3) rfl rfl (c_X8_least l G hM_3 (r := 9) (by decide) (by omega) hR_6 hΓ) (cwV 1 hts (tbV w_ml_RX8_129 w_im_yX8_least w_se_yX8_least w_ini_RX8 w_cd_yX8_least) rfl rfl rfl (by decide +kernel) ⟨Nat.le_of_ble_eq_true rfl, Nat.le_of_ble_eq_true rfl⟩) rfl hl.1 rfl (Nat.le_of_ble_eq_true rfl) dX8_choose_128 ⟨Nat.zero_le _, Nat.zero_le _⟩ (fun H locs hs => ?_)
                  refine lv_istore (lv' := [(4, .int (nI (lstR ss Γ 9))), (3, .int (nI 9)), (2, .int (nI s)), (1, .int (nI goal)), (0, .ref (ad 22))]) hx hb dX8_choose_131 hl (by decide) rfl (fun ls hl => ?_)
                  refine lv_iload hx hb dX8_choose_133 (lv_at hl 0 rfl) ?_
                  refine lv_if_ne (tgt := 141) hx hb dX8_choose_135 (by decide) (fun q9 => ?_) (fun q9 => ?_)
                  · skip
                    have hl9 : lstR ss Γ 9 ≠ 0 := nz_of (by have := lstR_lt ss Γ 9; omega) q9
                    refine lv_aload_n hx hb dX8_choose_141 rfl (lv_at hl 4 rfl) ?_
                    refine r_get (ci := 8) (v := .ref (ad 36)) (C := RX8) (T := TX8) (N := 31) hx hb hts inlX8 hown hK hs (22) (by omega) (md22 hM_3) rfl 18 (by decide) (hts _ w_fl_RX8_51) rfl dX8_choose_142 ?_
                    refine lv_iload_n hx hb dX8_choose_145 rfl (lv_at hl 2 rfl) ?_
                    refine lv_iload_n hx hb dX8_choose_146 rfl (lv_at hl 1 rfl) ?_
                    refine r_iastN (t := s) hx hb hK hs (36) (by omega) (md36 hM_3) (rfl) (by omega) (by omega) dX8_choose_147 (fun H locs en_56 hen_56 hs => ?_)
                    obtain ⟨c_58, ec_58⟩ : ∃ z, z = cU c_4 36 (s) (nI 9) := ⟨_, rfl⟩
                    have hM_57 : MdW G n ad en_56 ss ns c_58 us ov (nI d) cl := md_ar (f := upd (c_4 36) (s) (nI 9)) hM_3 36 (by decide) (by decide) hen_56 ec_58
                    have fr_59 : ∀ k, k < 22 → en_56 k = en k := fun k hk => Eq.trans (by rw [hen_56]; exact va_up_ne _ _ (by omega)) (fr_5 k hk)
                    have hR_60 : RowM c_58 d Γ := by rw [ec_58]; exact row_cU hR_6 (by decide)
                    refine lv_aload_n hx hb dX8_choose_148 rfl (lv_at hl 4 rfl) ?_
                    refine r_get (ci := 8) (v := .ref (ad 37)) (C := RX8) (T := TX8) (N := 31) hx hb hts inlX8 hown hK hs (22) (by omega) (md22 hM_57) rfl 19 (by decide) (hts _ w_fl_RX8_54) rfl dX8_choose_149 ?_
                    refine lv_iload_n hx hb dX8_choose_152 rfl (lv_at hl 2 rfl) ?_
                    refine lv_iload hx hb dX8_choose_153 (lv_at hl 0 rfl) ?_
                    refine r_iastN (t := s) hx hb hK hs (37) (by omega) (md37 hM_57) (rfl) (by omega) (by omega) dX8_choose_155 (fun H locs en_62 hen_62 hs => ?_)
                    obtain ⟨c_64, ec_64⟩ : ∃ z, z = cU c_58 37 (s) (nI (lstR ss Γ 9)) := ⟨_, rfl⟩
                    have hM_63 : MdW G n ad en_62 ss ns c_64 us ov (nI d) cl := md_ar (f := upd (c_58 37) (s) (nI (lstR ss Γ 9))) hM_57 37 (by decide) (by decide) hen_62 ec_64
                    have fr_65 : ∀ k, k < 22 → en_62 k = en k := fun k hk => Eq.trans (by rw [hen_62]; exact va_up_ne _ _ (by omega)) (fr_59 k hk)
                    have hR_66 : RowM c_64 d Γ := by rw [ec_64]; exact row_cU hR_60 (by decide)
                    refine lv_iinc (v := nI (9 + 1)) (lv' := [(3, .int (nI (9 + 1))), (4, .int (nI (lstR ss Γ 9))), (2, .int (nI s)), (1, .int (nI goal)), (0, .ref (ad 22))]) hx hb dX8_choose_156 hl (k := 1) rfl (nI_add 9 1) (by decide) rfl (fun ls hl => ?_)
                    refine lv_goto (tgt := 111) hx hb dX8_choose_159 (by decide) ?_
                    have hl : lv_has ls 5 [(3, .int (nI 10)), (4, .int (nI (lstR ss Γ 9))), (2, .int (nI s)), (1, .int (nI goal)), (0, .ref (ad 22))] := hl
                    refine lv_iload_n hx hb dX8_choose_111 rfl (lv_at hl 0 rfl) ?_
                    refine lv_bipush (v := 11) hx hb dX8_choose_112 (by decide) ?_
                    refine lv_icmp_ge (tgt := 162) hx hb dX8_choose_114 (by decide) (fun c114 => absurd c114 (by decide)) (fun _ => ?_)
                    refine lv_aload_n hx hb dX8_choose_117 rfl (lv_at hl 4 rfl) ?_
                    refine r_get (ci := 8) (v := .ref (ad 36)) (C := RX8) (T := TX8) (N := 31) hx hb hts inlX8 hown hK hs (22) (by omega) (md22 hM_63) rfl 18 (by decide) (hts _ w_fl_RX8_51) rfl dX8_choose_118 ?_
                    refine lv_iload_n hx hb dX8_choose_121 rfl (lv_at hl 2 rfl) ?_
                    refine r_ialdN (t := s) hx hb hK hs (36) (by omega) (md36 hM_63) (rfl) (by omega) (by omega) dX8_choose_122 ?_
                    refine lv_if_ne (tgt := 162) hx hb dX8_choose_123 (by decide) (fun _ => ?_) (fun c123 => absurd c123 (by rw [ec_64, cU_o (by omega), ec_58, cU_s]; decide))
                    refine lv_aload_n hx hb dX8_choose_162 rfl (lv_at hl 4 rfl) ?_
                    refine r_get (ci := 8) (v := .ref (ad 36)) (C := RX8) (T := TX8) (N := 31) hx hb hts inlX8 hown hK hs (22) (by omega) (md22 hM_63) rfl 18 (by decide) (hts _ w_fl_RX8_51) rfl dX8_choose_163 ?_
                    refine lv_iload_n hx hb dX8_choose_166 rfl (lv_at hl 2 rfl) ?_
                    refine r_ialdN (t := s) hx hb hK hs (36) (by omega) (md36 hM_63) (rfl) (by omega) (by omega) dX8_choose_167 ?_
                    refine lv_if_ne (tgt := 179) hx hb dX8_choose_168 (by decide) (fun _ => ?_) (fun c168 => absurd c168 (by rw [ec_64, cU_o (by omega), ec_58, cU_s]; decide))
                    refine r_vret (mc := 0) (ms := 0) hx hb hr hlk hs (Nat.le_refl _) (Nat.le_refl _) dX8_choose_179 hQ ?_
                    have hg0 := ch_34 hok hΓ (b2i_0 c36) (b2i_0 c61)
                    have hg1 := hg0.trans ((if_neg (isK_ne (b2i_0 c80) hg.1)).trans (if_neg (isK_ne (b2i_0 c99) hg.1)))
                    have hw : fstW ss Γ goal = 16 * lstR ss Γ 9 + 9 := ch_gi hg1 (by rw [giW, if_neg (fun q => q (show lstK ss Γ 2 0 = 0 from hz5)), if_neg (fun q => q (show lstK ss Γ 3 0 = 0 from hz6)), if_neg (fun q => q (show frdK ss Γ = 0 from hz7)), if_neg (fun q => q (show lstK ss Γ 6 0 = 0 from hz8)), if_pos (show lstK ss Γ 7 0 ≠ 0 from hl9)]; rfl) (by omega)
                    exact ⟨⟨rfl, fr_65⟩, c_64, hM_63, by rw [ec_64, cU_o (by omega), ec_58, cU_s]; rw [hw, chR_lo (by decide)]; try rfl, by rw [ec_64, cU_s]; rw [hw, chA_hi (by decide)], fun r t h => by rw [ec_64, cU_o (by omega), ec_58, cU_o (by omega), ec_4, cU_o (by omega)]⟩
                  · skip
                    have hz9 : lstR ss Γ 9 = 0 := z_of (by have := lstR_lt ss Γ 9; omega) q9
                    refine lv_goto (tgt := 156) hx hb dX8_choose_138 (by decide) ?_
                    refine lv_iinc (v := nI (9 + 1)) (lv' := [(3, .int (nI (9 + 1))), (4, .int (nI (lstR ss Γ 9))), (2, .int (nI s)), (1, .int (nI goal)), (0, .ref (ad 22))]) hx hb dX8_choose_156 hl (k := 1) rfl (nI_add 9 1) (by decide) rfl (fun ls hl => ?_)
                    refine lv_goto (tgt := 111) hx hb dX8_choose_159 (by decide) ?_
                    have hl : lv_has ls 5 [(3, .int (nI 10)), (4, .int (nI (lstR ss Γ 9))), (2, .int (nI s)), (1, .int (nI goal)), (0, .ref (ad 22))] := hl
                    refine lv_iload_n hx hb dX8_choose_111 rfl (lv_at hl 0 rfl) ?_
                    refine lv_bipush (v := 11) hx hb dX8_choose_112 (by decide) ?_
                    refine lv_icmp_ge (tgt := 162) hx hb dX8_choose_114 (by decide) (fun c114 => absurd c114 (by decide)) (fun _ => ?_)
                    refine lv_aload_n hx hb dX8_choose_117 rfl (lv_at hl 4 rfl) ?_
                    refine r_get (ci := 8) (v := .ref (ad 36)) (C := RX8) (T := TX8) (N := 31) hx hb hts inlX8 hown hK hs (22) (by omega) (md22 hM_3) rfl 18 (by decide) (hts _ w_fl_RX8_51) rfl dX8_choose_118 ?_
                    refine lv_iload_n hx hb dX8_choose_121 rfl (lv_at hl 2 rfl) ?_
                    refine r_ialdN (t := s) hx hb hK hs (36) (by omega) (md36 hM_3) (rfl) (by omega) (by omega) dX8_choose_122 ?_
                    refine lv_if_ne (tgt := 162) hx hb dX8_choose_123 (by decide) (fun c123 => absurd (by rw [ec_4, cU_o (by omega)]; exact h0) c123) (fun _ => ?_)
                    refine lv_aload_n hx hb dX8_choose_126 rfl (lv_at hl 4 rfl) ?_
                    refine lv_iload_n hx hb dX8_choose_127 rfl (lv_at hl 0 rfl) ?_
                    refine r_callViR (ci := 8) (As := [.int (nI 10)]) hx hb hml hown hts hK hA hs (22) (by omega) (md22 hM_3) rfl rfl (c_X8_least l G hM_3 (r := 10) (by decide) (by omega) hR_6 hΓ) (cwV 1 hts (tbV w_ml_RX8_129 w_im_yX8_least w_se_yX8_least w_ini_RX8 w_cd_yX8_least) rfl rfl rfl (by decide +kernel) ⟨Nat.le_of_ble_eq_true rfl, Nat.le_of_ble_eq_true rfl⟩) rfl hl.1 rfl (Nat.le_of_ble_eq_true rfl) dX8_choose_128 ⟨Nat.zero_le _, Nat.zero_le _⟩ (fun H locs hs => ?_)
                    refine lv_istore (lv' := [(4, .int (nI (lstR ss Γ 10))), (3, .int (nI 10)), (2, .int (nI s)), (1, .int (nI goal)), (0, .ref (ad 22))]) hx hb dX8_choose_131 hl (by decide) rfl (fun ls hl => ?_)
                    refine lv_iload hx hb dX8_choose_133 (lv_at hl 0 rfl) ?_
                    refine lv_if_ne (tgt := 141) hx hb dX8_choose_135 (by decide) (fun q10 => ?_) (fun q10 => ?_)
                    · skip
                      have hl10 : lstR ss Γ 10 ≠ 0 := nz_of (by have := lstR_lt ss Γ 10; omega) q10
                      refine lv_aload_n hx hb dX8_choose_141 rfl (lv_at hl 4 rfl) ?_
                      refine r_get (ci := 8) (v := .ref (ad 36)) (C := RX8) (T := TX8) (N := 31) hx hb hts inlX8 hown hK hs (22) (by omega) (md22 hM_3) rfl 18 (by decide) (hts _ w_fl_RX8_51) rfl dX8_choose_142 ?_
                      refine lv_iload_n hx hb dX8_choose_145 rfl (lv_at hl 2 rfl) ?_
                      refine lv_iload_n hx hb dX8_choose_146 rfl (lv_at hl 1 rfl) ?_
                      refine r_iastN (t := s) hx hb hK hs (36) (by omega) (md36 hM_3) (rfl) (by omega) (by omega) dX8_choose_147 (fun H locs en_68 hen_68 hs => ?_)
                      obtain ⟨c_70, ec_70⟩ : ∃ z, z = cU c_4 36 (s) (nI 10) := ⟨_, rfl⟩
                      have hM_69 : MdW G n ad en_68 ss ns c_70 us ov (nI d) cl := md_ar (f := upd (c_4 36) (s) (nI 10)) hM_3 36 (by decide) (by decide) hen_68 ec_70
                      have fr_71 : ∀ k, k < 22 → en_68 k = en k := fun k hk => Eq.trans (by rw [hen_68]; exact va_up_ne _ _ (by omega)) (fr_5 k hk)
                      have hR_72 : RowM c_70 d Γ := by rw [ec_70]; exact row_cU hR_6 (by decide)
                      refine lv_aload_n hx hb dX8_choose_148 rfl (lv_at hl 4 rfl) ?_
                      refine r_get (ci := 8) (v := .ref (ad 37)) (C := RX8) (T := TX8) (N := 31) hx hb hts inlX8 hown hK hs (22) (by omega) (md22 hM_69) rfl 19 (by decide) (hts _ w_fl_RX8_54) rfl dX8_choose_149 ?_
                      refine lv_iload_n hx hb dX8_choose_152 rfl (lv_at hl 2 rfl) ?_
                      refine lv_iload hx hb dX8_choose_153 (lv_at hl 0 rfl) ?_
                      refine r_iastN (t := s) hx hb hK hs (37) (by omega) (md37 hM_69) (rfl) (by omega) (by omega) dX8_choose_155 (fun H locs en_74 hen_74 hs => ?_)
                      obtain ⟨c_76, ec_76⟩ : ∃ z, z = cU c_70 37 (s) (nI (lstR ss Γ 10)) := ⟨_, rfl⟩
                      have hM_75 : MdW G n ad en_74 ss ns c_76 us ov (nI d) cl := md_ar (f := upd (c_70 37) (s) (nI (lstR ss Γ 10))) hM_69 37 (by decide) (by decide) hen_74 ec_76
                      have fr_77 : ∀ k, k < 22 → en_74 k = en k := fun k hk => Eq.trans (by rw [hen_74]; exact va_up_ne _ _ (by omega)) (fr_71 k hk)
                      have hR_78 : RowM c_76 d Γ := by rw [ec_76]; exact row_cU hR_72 (by decide)
                      refine lv_iinc (v := nI (10 + 1)) (lv' := [(3, .int (nI (10 + 1))), (4, .int (nI (lstR ss Γ 10))), (2, .int (nI s)), (1, .int (nI goal)), (0, .ref (ad 22))]) hx hb dX8_choose_156 hl (k := 1) rfl (nI_add 10 1) (by decide) rfl (fun ls hl => ?_)
                      refine lv_goto (tgt := 111) hx hb dX8_choose_159 (by decide) ?_
                      have hl : lv_has ls 5 [(3, .int (nI 11)), (4, .int (nI (lstR ss Γ 10))), (2, .int (nI s)), (1, .int (nI goal)), (0, .ref (ad 22))] := hl
                      refine lv_iload_n hx hb dX8_choose_111 rfl (lv_at hl 0 rfl) ?_
                      refine lv_bipush (v := 11) hx hb dX8_choose_112 (by decide) ?_
                      refine lv_icmp_ge (tgt := 162) hx hb dX8_choose_114 (by decide) (fun _ => ?_) (fun c114 => absurd (by decide) c114)
                      refine lv_aload_n hx hb dX8_choose_162 rfl (lv_at hl 4 rfl) ?_
                      refine r_get (ci := 8) (v := .ref (ad 36)) (C := RX8) (T := TX8) (N := 31) hx hb hts inlX8 hown hK hs (22) (by omega) (md22 hM_75) rfl 18 (by decide) (hts _ w_fl_RX8_51) rfl dX8_choose_163 ?_
                      refine lv_iload_n hx hb dX8_choose_166 rfl (lv_at hl 2 rfl) ?_
                      refine r_ialdN (t := s) hx hb hK hs (36) (by omega) (md36 hM_75) (rfl) (by omega) (by omega) dX8_choose_167 ?_
                      refine lv_if_ne (tgt := 179) hx hb dX8_choose_168 (by decide) (fun _ => ?_) (fun c168 => absurd c168 (by rw [ec_76, cU_o (by omega), ec_70, cU_s]; decide))
                      refine r_vret (mc := 0) (ms := 0) hx hb hr hlk hs (Nat.le_refl _) (Nat.le_refl _) dX8_choose_179 hQ ?_
                      have hg0 := ch_34 hok hΓ (b2i_0 c36) (b2i_0 c61)
                      have hg1 := hg0.trans ((if_neg (isK_ne (b2i_0 c80) hg.1)).trans (if_neg (isK_ne (b2i_0 c99) hg.1)))
                      have hw : fstW ss Γ goal = 16 * lstR ss Γ 10 + 10 := ch_gi hg1 (by rw [giW, if_neg (fun q => q (show lstK ss Γ 2 0 = 0 from hz5)), if_neg (fun q => q (show lstK ss Γ 3 0 = 0 from hz6)), if_neg (fun q => q (show frdK ss Γ = 0 from hz7)), if_neg (fun q => q (show lstK ss Γ 6 0 = 0 from hz8)), if_neg (fun q => q (show lstK ss Γ 7 0 = 0 from hz9)), if_pos (show lstK ss Γ 8 0 ≠ 0 from hl10)]; rfl) (by omega)
                      exact ⟨⟨rfl, fr_77⟩, c_76, hM_75, by rw [ec_76, cU_o (by omega), ec_70, cU_s]; rw [hw, chR_lo (by decide)]; try rfl, by rw [ec_76, cU_s]; rw [hw, chA_hi (by decide)], fun r t h => by rw [ec_76, cU_o (by omega), ec_70, cU_o (by omega), ec_4, cU_o (by omega)]⟩
                    · skip
                      have hz10 : lstR ss Γ 10 = 0 := z_of (by have := lstR_lt ss Γ 10; omega) q10
                      refine lv_goto (tgt := 156) hx hb dX8_choose_138 (by decide) ?_
                      refine lv_iinc (v := nI (10 + 1)) (lv' := [(3, .int (nI (10 + 1))), (4, .int (nI (lstR ss Γ 10))), (2, .int (nI s)), (1, .int (nI goal)), (0, .ref (ad 22))]) hx hb dX8_choose_156 hl (k := 1) rfl (nI_add 10 1) (by decide) rfl (fun ls hl => ?_)
                      refine lv_goto (tgt := 111) hx hb dX8_choose_159 (by decide) ?_
                      have hl : lv_has ls 5 [(3, .int (nI 11)), (4, .int (nI (lstR ss Γ 10))), (2, .int (nI s)), (1, .int (nI goal)), (0, .ref (ad 22))] := hl
                      refine lv_iload_n hx hb dX8_choose_111 rfl (lv_at hl 0 rfl) ?_
                      refine lv_bipush (v := 11) hx hb dX8_choose_112 (by decide) ?_
                      refine lv_icmp_ge (tgt := 162) hx hb dX8_choose_114 (by decide) (fun _ => ?_) (fun c114 => absurd (by decide) c114)
                      refine lv_aload_n hx hb dX8_choose_162 rfl (lv_at hl 4 rfl) ?_
                      refine r_get (ci := 8) (v := .ref (ad 36)) (C := RX8) (T := TX8) (N := 31) hx hb hts inlX8 hown hK hs (22) (by omega) (md22 hM_3) rfl 18 (by decide) (hts _ w_fl_RX8_51) rfl dX8_choose_163 ?_
                      refine lv_iload_n hx hb dX8_choose_166 rfl (lv_at hl 2 rfl) ?_
                      refine r_ialdN (t := s) hx hb hK hs (36) (by omega) (md36 hM_3) (rfl) (by omega) (by omega) dX8_choose_167 ?_
                      refine lv_if_ne (tgt := 179) hx hb dX8_choose_168 (by decide) (fun c168 => absurd (by rw [ec_4, cU_o (by omega)]; exact h0) c168) (fun _ => ?_)
                      refine lv_aload_n hx hb dX8_choose_171 rfl (lv_at hl 4 rfl) ?_
                      refine r_get (ci := 8) (v := .ref (ad 36)) (C := RX8) (T := TX8) (N := 31) hx hb hts inlX8 hown hK hs (22) (by omega) (md22 hM_3) rfl 18 (by decide) (hts _ w_fl_RX8_51) rfl dX8_choose_172 ?_
                      refine lv_iload_n hx hb dX8_choose_175 rfl (lv_at hl 2 rfl) ?_
                      refine lv_bipush (v := 11) hx hb dX8_choose_176 (by decide) ?_
                      refine r_iastN (t := s) hx hb hK hs (36) (by omega) (md36 hM_3) (rfl) (by omega) (by omega) dX8_choose_178 (fun H locs en_80 hen_80 hs => ?_)
                      obtain ⟨c_82, ec_82⟩ : ∃ z, z = cU c_4 36 (s) (11) := ⟨_, rfl⟩
                      have hM_81 : MdW G n ad en_80 ss ns c_82 us ov (nI d) cl := md_ar (f := upd (c_4 36) (s) (11)) hM_3 36 (by decide) (by decide) hen_80 ec_82
                      have fr_83 : ∀ k, k < 22 → en_80 k = en k := fun k hk => Eq.trans (by rw [hen_80]; exact va_up_ne _ _ (by omega)) (fr_5 k hk)
                      refine r_vret (mc := 0) (ms := 0) hx hb hr hlk hs (Nat.le_refl _) (Nat.le_refl _) dX8_choose_179 hQ ?_
                      have hg0 := ch_34 hok hΓ (b2i_0 c36) (b2i_0 c61)
                      have hg1 := hg0.trans ((if_neg (isK_ne (b2i_0 c80) hg.1)).trans (if_neg (isK_ne (b2i_0 c99) hg.1)))
                      obtain ⟨-, hc1, hc2⟩ := ch_11 hok hg1 (by rw [giW, if_neg (fun q => q (show lstK ss Γ 2 0 = 0 from hz5)), if_neg (fun q => q (show lstK ss Γ 3 0 = 0 from hz6)), if_neg (fun q => q (show frdK ss Γ = 0 from hz7)), if_neg (fun q => q (show lstK ss Γ 6 0 = 0 from hz8)), if_neg (fun q => q (show lstK ss Γ 7 0 = 0 from hz9)), if_neg (fun q => q (show lstK ss Γ 8 0 = 0 from hz10))])
                      exact ⟨⟨rfl, fr_83⟩, c_82, hM_81, by rw [ec_82, cU_s]; rw [hc1]; try rfl, by rw [ec_82, cU_o (by omega), ec_4, cU_s]; rw [hc2], fun r t h => by rw [ec_82, cU_o (by omega), ec_4, cU_o (by omega)]⟩
        · skip
          refine lv_aload_n hx hb dX8_choose_102 rfl (lv_at hl 2 rfl) ?_
          refine r_get (ci := 8) (v := .ref (ad 36)) (C := RX8) (T := TX8) (N := 31) hx hb hts inlX8 hown hK hs (22) (by omega) (md22 hM_3) rfl 18 (by decide) (hts _ w_fl_RX8_51) rfl dX8_choose_103 ?_
          refine lv_iload_n hx hb dX8_choose_106 rfl (lv_at hl 0 rfl) ?_
          refine lv_iconst (v := 4) hx hb dX8_choose_107 (by decide) ?_
          refine r_iastN (t := s) hx hb hK hs (36) (by omega) (md36 hM_3) (rfl) (by omega) (by omega) dX8_choose_108 (fun H locs en_85 hen_85 hs => ?_)
          obtain ⟨c_87, ec_87⟩ : ∃ z, z = cU c_4 36 (s) (4) := ⟨_, rfl⟩
          have hM_86 : MdW G n ad en_85 ss ns c_87 us ov (nI d) cl := md_ar (f := upd (c_4 36) (s) (4)) hM_3 36 (by decide) (by decide) hen_85 ec_87
          have fr_88 : ∀ k, k < 22 → en_85 k = en k := fun k hk => Eq.trans (by rw [hen_85]; exact va_up_ne _ _ (by omega)) (fr_5 k hk)
          have hR_89 : RowM c_87 d Γ := by rw [ec_87]; exact row_cU hR_6 (by decide)
          refine lv_iconst (v := 5) hx hb dX8_choose_109 (by decide) ?_
          refine r_topi (y := nI 5) (rfl) ?_
          refine lv_istore_n (lv' := [(3, .int (nI 5)), (2, .int (nI s)), (1, .int (nI goal)), (0, .ref (ad 22))]) hx hb dX8_choose_110 rfl hl (by decide) rfl (fun ls hl => ?_)
          have hl : lv_has ls 5 [(3, .int (nI 5)), (2, .int (nI s)), (1, .int (nI goal)), (0, .ref (ad 22))] := hl
          refine lv_iload_n hx hb dX8_choose_111 rfl (lv_at hl 0 rfl) ?_
          refine lv_bipush (v := 11) hx hb dX8_choose_112 (by decide) ?_
          refine lv_icmp_ge (tgt := 162) hx hb dX8_choose_114 (by decide) (fun c114 => absurd c114 (by decide)) (fun _ => ?_)
          refine lv_aload_n hx hb dX8_choose_117 rfl (lv_at hl 3 rfl) ?_
          refine r_get (ci := 8) (v := .ref (ad 36)) (C := RX8) (T := TX8) (N := 31) hx hb hts inlX8 hown hK hs (22) (by omega) (md22 hM_86) rfl 18 (by decide) (hts _ w_fl_RX8_51) rfl dX8_choose_118 ?_
          refine lv_iload_n hx hb dX8_choose_121 rfl (lv_at hl 1 rfl) ?_
          refine r_ialdN (t := s) hx hb hK hs (36) (by omega) (md36 hM_86) (rfl) (by omega) (by omega) dX8_choose_122 ?_
          refine lv_if_ne (tgt := 162) hx hb dX8_choose_123 (by decide) (fun _ => ?_) (fun c123 => absurd c123 (by rw [ec_87, cU_s]; decide))
          refine lv_aload_n hx hb dX8_choose_162 rfl (lv_at hl 3 rfl) ?_
          refine r_get (ci := 8) (v := .ref (ad 36)) (C := RX8) (T := TX8) (N := 31) hx hb hts inlX8 hown hK hs (22) (by omega) (md22 hM_86) rfl 18 (by decide) (hts _ w_fl_RX8_51) rfl dX8_choose_163 ?_
          refine lv_iload_n hx hb dX8_choose_166 rfl (lv_at hl 1 rfl) ?_
          refine r_ialdN (t := s) hx hb hK hs (36) (by omega) (md36 hM_86) (rfl) (by omega) (by omega) dX8_choose_167 ?_
          refine lv_if_ne (tgt := 179) hx hb dX8_choose_168 (by decide) (fun _ => ?_) (fun c168 => absurd c168 (by rw [ec_87, cU_s]; decide))
          refine r_vret (mc := 0) (ms := 0) hx hb hr hlk hs (Nat.le_refl _) (Nat.le_refl _) dX8_choose_179 hQ ?_
          have hg0 := ch_34 hok hΓ (b2i_0 c36) (b2i_0 c61)
          have hw : fstW ss Γ goal = 16 * 0 + 4 := ch_go (hg0.trans ((if_neg (isK_ne (b2i_0 c80) hg.1)).trans (if_pos (of_decide_eq_true (b2i_1 c99)).2))) (by decide)
          exact ⟨⟨rfl, fr_88⟩, c_87, hM_86, by rw [ec_87, cU_s]; rw [hw, chR_lo (by decide)]; try rfl, by rw [ec_87, cU_o (by omega), ec_4, cU_s]; rw [hw, chA_lo (by decide)], fun r t h => by rw [ec_87, cU_o (by omega), ec_4, cU_o (by omega)]⟩
      · skip
        refine lv_aload_n hx hb dX8_choose_83 rfl (lv_at hl 2 rfl) ?_
        refine r_get (ci := 8) (v := .ref (ad 36)) (C := RX8) (T := TX8) (N := 31) hx hb hts inlX8 hown hK hs (22) (by omega) (md22 hM_3) rfl 18 (by decide) (hts _ w_fl_RX8_51) rfl dX8_choose_84 ?_
        refine lv_iload_n hx hb dX8_choose_87 rfl (lv_at hl 0 rfl) ?_
        refine lv_iconst (v := 3) hx hb dX8_choose_88 (by decide) ?_
        refine r_iastN (t := s) hx hb hK hs (36) (by omega) (md36 hM_3) (rfl) (by omega) (by omega) dX8_choose_89 (fun H locs en_91 hen_91 hs => ?_)
        obtain ⟨c_93, ec_93⟩ : ∃ z, z = cU c_4 36 (s) (3) := ⟨_, rfl⟩
        have hM_92 : MdW G n ad en_91 ss ns c_93 us ov (nI d) cl := md_ar (f := upd (c_4 36) (s) (3)) hM_3 36 (by decide) (by decide) hen_91 ec_93
        have fr_94 : ∀ k, k < 22 → en_91 k = en k := fun k hk => Eq.trans (by rw [hen_91]; exact va_up_ne _ _ (by omega)) (fr_5 k hk)
        have hR_95 : RowM c_93 d Γ := by rw [ec_93]; exact row_cU hR_6 (by decide)
        refine lv_goto (tgt := 109) hx hb dX8_choose_90 (by decide) ?_
        refine lv_iconst (v := 5) hx hb dX8_choose_109 (by decide) ?_
        refine r_topi (y := nI 5) (rfl) ?_
        refine lv_istore_n (lv' := [(3, .int (nI 5)), (2, .int (nI s)), (1, .int (nI goal)), (0, .ref (ad 22))]) hx hb dX8_choose_110 rfl hl (by decide) rfl (fun ls hl => ?_)
        have hl : lv_has ls 5 [(3, .int (nI 5)), (2, .int (nI s)), (1, .int (nI goal)), (0, .ref (ad 22))] := hl
        refine lv_iload_n hx hb dX8_choose_111 rfl (lv_at hl 0 rfl) ?_
        refine lv_bipush (v := 11) hx hb dX8_choose_112 (by decide) ?_
        refine lv_icmp_ge (tgt := 162) hx hb dX8_choose_114 (by decide) (fun c114 => absurd c114 (by decide)) (fun _ => ?_)
        refine lv_aload_n hx hb dX8_choose_117 rfl (lv_at hl 3 rfl) ?_
        refine r_get (ci := 8) (v := .ref (ad 36)) (C := RX8) (T := TX8) (N := 31) hx hb hts inlX8 hown hK hs (22) (by omega) (md22 hM_92) rfl 18 (by decide) (hts _ w_fl_RX8_51) rfl dX8_choose_118 ?_
        refine lv_iload_n hx hb dX8_choose_121 rfl (lv_at hl 1 rfl) ?_
        refine r_ialdN (t := s) hx hb hK hs (36) (by omega) (md36 hM_92) (rfl) (by omega) (by omega) dX8_choose_122 ?_
        refine lv_if_ne (tgt := 162) hx hb dX8_choose_123 (by decide) (fun _ => ?_) (fun c123 => absurd c123 (by rw [ec_93, cU_s]; decide))
        refine lv_aload_n hx hb dX8_choose_162 rfl (lv_at hl 3 rfl) ?_
        refine r_get (ci := 8) (v := .ref (ad 36)) (C := RX8) (T := TX8) (N := 31) hx hb hts inlX8 hown hK hs (22) (by omega) (md22 hM_92) rfl 18 (by decide) (hts _ w_fl_RX8_51) rfl dX8_choose_163 ?_
        refine lv_iload_n hx hb dX8_choose_166 rfl (lv_at hl 1 rfl) ?_
        refine r_ialdN (t := s) hx hb hK hs (36) (by omega) (md36 hM_92) (rfl) (by omega) (by omega) dX8_choose_167 ?_
        refine lv_if_ne (tgt := 179) hx hb dX8_choose_168 (by decide) (fun _ => ?_) (fun c168 => absurd c168 (by rw [ec_93, cU_s]; decide))
        refine r_vret (mc := 0) (ms := 0) hx hb hr hlk hs (Nat.le_refl _) (Nat.le_refl _) dX8_choose_179 hQ ?_
        have hg0 := ch_34 hok hΓ (b2i_0 c36) (b2i_0 c61)
        have hw : fstW ss Γ goal = 16 * 0 + 3 := ch_go (hg0.trans (if_pos (of_decide_eq_true (b2i_1 c80)).2)) (by decide)
        exact ⟨⟨rfl, fr_94⟩, c_93, hM_92, by rw [ec_93, cU_s]; rw [hw, chR_lo (by decide)]; try rfl, by rw [ec_93, cU_o (by omega), ec_4, cU_s]; rw [hw, chA_lo (by decide)], fun r t h => by rw [ec_93, cU_o (by omega), ec_4, cU_o (by omega)]⟩
    · skip
      refine lv_aload_n hx hb dX8_choose_64 rfl (lv_at hl 2 rfl) ?_
      refine r_get (ci := 8) (v := .ref (ad 36)) (C := RX8) (T := TX8) (N := 31) hx hb hts inlX8 hown hK hs (22) (by omega) (md22 hM_3) rfl 18 (by decide) (hts _ w_fl_RX8_51) rfl dX8_choose_65 ?_
      refine lv_iload_n hx hb dX8_choose_68 rfl (lv_at hl 0 rfl) ?_
      refine lv_iconst (v := 2) hx hb dX8_choose_69 (by decide) ?_
      refine r_iastN (t := s) hx hb hK hs (36) (by omega) (md36 hM_3) (rfl) (by omega) (by omega) dX8_choose_70 (fun H locs en_97 hen_97 hs => ?_)
      obtain ⟨c_99, ec_99⟩ : ∃ z, z = cU c_4 36 (s) (2) := ⟨_, rfl⟩
      have hM_98 : MdW G n ad en_97 ss ns c_99 us ov (nI d) cl := md_ar (f := upd (c_4 36) (s) (2)) hM_3 36 (by decide) (by decide) hen_97 ec_99
      have fr_100 : ∀ k, k < 22 → en_97 k = en k := fun k hk => Eq.trans (by rw [hen_97]; exact va_up_ne _ _ (by omega)) (fr_5 k hk)
      have hR_101 : RowM c_99 d Γ := by rw [ec_99]; exact row_cU hR_6 (by decide)
      refine lv_goto (tgt := 109) hx hb dX8_choose_71 (by decide) ?_
      refine lv_iconst (v := 5) hx hb dX8_choose_109 (by decide) ?_
      refine r_topi (y := nI 5) (rfl) ?_
      refine lv_istore_n (lv' := [(3, .int (nI 5)), (2, .int (nI s)), (1, .int (nI goal)), (0, .ref (ad 22))]) hx hb dX8_choose_110 rfl hl (by decide) rfl (fun ls hl => ?_)
      have hl : lv_has ls 5 [(3, .int (nI 5)), (2, .int (nI s)), (1, .int (nI goal)), (0, .ref (ad 22))] := hl
      refine lv_iload_n hx hb dX8_choose_111 rfl (lv_at hl 0 rfl) ?_
      refine lv_bipush (v := 11) hx hb dX8_choose_112 (by decide) ?_
      refine lv_icmp_ge (tgt := 162) hx hb dX8_choose_114 (by decide) (fun c114 => absurd c114 (by decide)) (fun _ => ?_)
      refine lv_aload_n hx hb dX8_choose_117 rfl (lv_at hl 3 rfl) ?_
      refine r_get (ci := 8) (v := .ref (ad 36)) (C := RX8) (T := TX8) (N := 31) hx hb hts inlX8 hown hK hs (22) (by omega) (md22 hM_98) rfl 18 (by decide) (hts _ w_fl_RX8_51) rfl dX8_choose_118 ?_
      refine lv_iload_n hx hb dX8_choose_121 rfl (lv_at hl 1 rfl) ?_
      refine r_ialdN (t := s) hx hb hK hs (36) (by omega) (md36 hM_98) (rfl) (by omega) (by omega) dX8_choose_122 ?_
      refine lv_if_ne (tgt := 162) hx hb dX8_choose_123 (by decide) (fun _ => ?_) (fun c123 => absurd c123 (by rw [ec_99, cU_s]; decide))
      refine lv_aload_n hx hb dX8_choose_162 rfl (lv_at hl 3 rfl) ?_
      refine r_get (ci := 8) (v := .ref (ad 36)) (C := RX8) (T := TX8) (N := 31) hx hb hts inlX8 hown hK hs (22) (by omega) (md22 hM_98) rfl 18 (by decide) (hts _ w_fl_RX8_51) rfl dX8_choose_163 ?_
      refine lv_iload_n hx hb dX8_choose_166 rfl (lv_at hl 1 rfl) ?_
      refine r_ialdN (t := s) hx hb hK hs (36) (by omega) (md36 hM_98) (rfl) (by omega) (by omega) dX8_choose_167 ?_
      refine lv_if_ne (tgt := 179) hx hb dX8_choose_168 (by decide) (fun _ => ?_) (fun c168 => absurd c168 (by rw [ec_99, cU_s]; decide))
      refine r_vret (mc := 0) (ms := 0) hx hb hr hlk hs (Nat.le_refl _) (Nat.le_refl _) dX8_choose_179 hQ ?_
      have hw := ch_2 hok hΓ (b2i_0 c36) (b2i_1 c61)
      exact ⟨⟨rfl, fr_100⟩, c_99, hM_98, by rw [ec_99, cU_s]; rw [hw, chR_lo (by decide)]; try rfl, by rw [ec_99, cU_o (by omega), ec_4, cU_s]; rw [hw, chA_lo (by decide)], fun r t h => by rw [ec_99, cU_o (by omega), ec_4, cU_o (by omega)]⟩
  · skip
    refine lv_aload_n hx hb dX8_choose_39 rfl (lv_at hl 2 rfl) ?_
    refine r_get (ci := 8) (v := .ref (ad 36)) (C := RX8) (T := TX8) (N := 31) hx hb hts inlX8 hown hK hs (22) (by omega) (md22 hM_3) rfl 18 (by decide) (hts _ w_fl_RX8_51) rfl dX8_choose_40 ?_
    refine lv_iload_n hx hb dX8_choose_43 rfl (lv_at hl 0 rfl) ?_
    refine lv_iconst (v := 1) hx hb dX8_choose_44 (by decide) ?_
    refine r_iastN (t := s) hx hb hK hs (36) (by omega) (md36 hM_3) (rfl) (by omega) (by omega) dX8_choose_45 (fun H locs en_103 hen_103 hs => ?_)
    obtain ⟨c_105, ec_105⟩ : ∃ z, z = cU c_4 36 (s) (1) := ⟨_, rfl⟩
    have hM_104 : MdW G n ad en_103 ss ns c_105 us ov (nI d) cl := md_ar (f := upd (c_4 36) (s) (1)) hM_3 36 (by decide) (by decide) hen_103 ec_105
    have fr_106 : ∀ k, k < 22 → en_103 k = en k := fun k hk => Eq.trans (by rw [hen_103]; exact va_up_ne _ _ (by omega)) (fr_5 k hk)
    have hR_107 : RowM c_105 d Γ := by rw [ec_105]; exact row_cU hR_6 (by decide)
    refine lv_goto (tgt := 109) hx hb dX8_choose_46 (by decide) ?_
    refine lv_iconst (v := 5) hx hb dX8_choose_109 (by decide) ?_
    refine r_topi (y := nI 5) (rfl) ?_
    refine lv_istore_n (lv' := [(3, .int (nI 5)), (2, .int (nI s)), (1, .int (nI goal)), (0, .ref (ad 22))]) hx hb dX8_choose_110 rfl hl (by decide) rfl (fun ls hl => ?_)
    have hl : lv_has ls 5 [(3, .int (nI 5)), (2, .int (nI s)), (1, .int (nI goal)), (0, .ref (ad 22))] := hl
    refine lv_iload_n hx hb dX8_choose_111 rfl (lv_at hl 0 rfl) ?_
    refine lv_bipush (v := 11) hx hb dX8_choose_112 (by decide) ?_
    refine lv_icmp_ge (tgt := 162) hx hb dX8_choose_114 (by decide) (fun c114 => absurd c114 (by decide)) (fun _ => ?_)
    refine lv_aload_n hx hb dX8_choose_117 rfl (lv_at hl 3 rfl) ?_
    refine r_get (ci := 8) (v := .ref (ad 36)) (C := RX8) (T := TX8) (N := 31) hx hb hts inlX8 hown hK hs (22) (by omega) (md22 hM_104) rfl 18 (by decide) (hts _ w_fl_RX8_51) rfl dX8_choose_118 ?_
    refine lv_iload_n hx hb dX8_choose_121 rfl (lv_at hl 1 rfl) ?_
    refine r_ialdN (t := s) hx hb hK hs (36) (by omega) (md36 hM_104) (rfl) (by omega) (by omega) dX8_choose_122 ?_
    refine lv_if_ne (tgt := 162) hx hb dX8_choose_123 (by decide) (fun _ => ?_) (fun c123 => absurd c123 (by rw [ec_105, cU_s]; decide))
    refine lv_aload_n hx hb dX8_choose_162 rfl (lv_at hl 3 rfl) ?_
    refine r_get (ci := 8) (v := .ref (ad 36)) (C := RX8) (T := TX8) (N := 31) hx hb hts inlX8 hown hK hs (22) (by omega) (md22 hM_104) rfl 18 (by decide) (hts _ w_fl_RX8_51) rfl dX8_choose_163 ?_
    refine lv_iload_n hx hb dX8_choose_166 rfl (lv_at hl 1 rfl) ?_
    refine r_ialdN (t := s) hx hb hK hs (36) (by omega) (md36 hM_104) (rfl) (by omega) (by omega) dX8_choose_167 ?_
    refine lv_if_ne (tgt := 179) hx hb dX8_choose_168 (by decide) (fun _ => ?_) (fun c168 => absurd c168 (by rw [ec_105, cU_s]; decide))
    refine r_vret (mc := 0) (ms := 0) hx hb hr hlk hs (Nat.le_refl _) (Nat.le_refl _) dX8_choose_179 hQ ?_
    have hw : fstW ss Γ goal = 16 * 0 + 1 := ch_1 (b2i_1 c36)
    exact ⟨⟨rfl, fr_106⟩, c_105, hM_104, by rw [ec_105, cU_s]; rw [hw, chR_lo (by decide)]; try rfl, by rw [ec_105, cU_o (by omega), ec_4, cU_s]; rw [hw, chA_lo (by decide)], fun r t h => by rw [ec_105, cU_o (by omega), ec_4, cU_o (by omega)]⟩

set_option maxHeartbeats 4000000 in
set_option maxRecDepth 100000 in
theorem c_X2_goalFits (l : Launch) (G : rG) {n : Nat} {ad : Nat → Nat} {en : Nat → va_E} {ss ns : List Row} {jd RR SL : Nat} {S : Nat → Nat → Bool} {sf : Nat → Int32} (h : StAt G n ad en ss) (hd : NdAt G n ad en ns jd RR SL S sf) (hns : nsOK ss ns) {k : Nat} (hk1 : 1 ≤ k ∧ k ≤ ns.length) : CI l G yX2_goalFits uX2_goalFits (3) (69) (0) (0) [.ref (ad 11), .int (nI k)] (n) (n) ad en (roV ad en (b2i (fitN ss ns k))) := by
  intro sz
  refine rMet (Qc := qI G (n) (roV ad en (b2i (fitN ss ns k)))) (cc := cX2_goalFits) (maxL := 6) (ret := (some .boolean)) (by decide) rfl (Nat.le_of_ble_eq_true rfl) ?_
  intro pP eE sS mM aA bB tT cC ls A Q hc hK hsz hA hs hl hQ
  obtain ⟨hx, hb, hr, hts, hown, hlk, hnm, hml⟩ := hc
  have hl : lv_has ls 6 [(0, .ref (ad 11)), (1, .int (nI k))] := hl
  have hnd := hd
  obtain ⟨hn, he11, hk, hrs, he17, hSL⟩ := hnd
  obtain ⟨fs12, he12⟩ := KeptAt_recv hk
  obtain ⟨fs15, he15⟩ := SetsAt_recv hrs
  have hle8 : ns.length ≤ 8000 := hk.2.1
  have hlen : ns.length < 2 ^ 31 := by omega
  obtain ⟨fst, hest⟩ : ∃ fs, en 3 = .inr (6, fs) := ⟨_, h.2.1⟩
  have hok := h.2.2.2.2.2
  have hle6 := hok.1
  have hG := nG_le hns
  obtain ⟨hT9, hGk, hAk, hBk, hCk⟩ := part_lt hns hk1
  have g1 := hG k
  have g2 := hG (nA ns k)
  have g3 := hG (nB ns k)
  have g4 := hG (nC ns k)
  have p1 := sLR_lt hok (nG ns k)
  have p2 := sLR_lt hok (nG ns (nA ns k))
  refine lv_aload_n hx hb dX2_goalFits_0 rfl (lv_at hl 0 rfl) ?_
  refine lv_iload_n hx hb dX2_goalFits_1 rfl (lv_at hl 1 rfl) ?_
  refine r_callViR (ci := 2) (As := [.int (nI k)]) hx hb hml hown hts hK hA hs (11) (by omega) he11 rfl rfl (c_X2_goalOfN l G hd k (by omega)) (cwV 1 hts (tbV w_ml_RX2_95 w_im_yX2_goalOf w_se_yX2_goalOf w_ini_RX2 w_cd_yX2_goalOf) rfl rfl rfl (by decide +kernel) ⟨Nat.le_of_ble_eq_true rfl, Nat.le_of_ble_eq_true rfl⟩) rfl hl.1 rfl (Nat.le_of_ble_eq_true rfl) dX2_goalFits_2 ⟨Nat.zero_le _, Nat.zero_le _⟩ (fun H locs hs => ?_)
  refine lv_istore_n (lv' := [(2, .int (nI (nG ns k))), (0, .ref (ad 11)), (1, .int (nI k))]) hx hb dX2_goalFits_5 rfl hl (by decide) rfl (fun ls hl => ?_)
  refine lv_aload_n hx hb dX2_goalFits_6 rfl (lv_at hl 1 rfl) ?_
  refine lv_aload_n hx hb dX2_goalFits_7 rfl (lv_at hl 1 rfl) ?_
  refine r_get (ci := 2) (v := .ref (ad 12)) (C := RX2) (T := TX2) (N := 5) hx hb hts inlX2 hown hK hs (11) (by omega) he11 rfl 1 (by decide) (hts _ w_fl_RX2_14) rfl dX2_goalFits_8 ?_
  refine lv_iload_n hx hb dX2_goalFits_11 rfl (lv_at hl 2 rfl) ?_
  refine lv_iconst (v := 2) hx hb dX2_goalFits_12 (by decide) ?_
  refine r_callViR (ci := 1) (As := [.int (nI k), .int (2)]) hx hb hml hown hts hK hA hs (12) (by omega) he12 rfl rfl (c_X1_getN l G hk k 2 (by omega) (by decide) (by omega)) (cwV 2 hts (tbV w_ml_RX2_46 w_im_yX1_get w_se_yX1_get w_ini_RX1 w_cd_yX1_get) rfl rfl rfl (by decide +kernel) ⟨Nat.le_of_ble_eq_true rfl, Nat.le_of_ble_eq_true rfl⟩) rfl hl.1 rfl (Nat.le_of_ble_eq_true rfl) dX2_goalFits_13 ⟨Nat.zero_le _, Nat.zero_le _⟩ (fun H locs hs => ?_)
  refine r_topi (y := nI (nA ns k)) rfl ?_
  refine r_callViR (ci := 2) (As := [.int (nI (nA ns k))]) hx hb hml hown hts hK hA hs (11) (by omega) he11 rfl rfl (c_X2_goalOfN l G hd (nA ns k) (by omega)) (cwV 1 hts (tbV w_ml_RX2_95 w_im_yX2_goalOf w_se_yX2_goalOf w_ini_RX2 w_cd_yX2_goalOf) rfl rfl rfl (by decide +kernel) ⟨Nat.le_of_ble_eq_true rfl, Nat.le_of_ble_eq_true rfl⟩) rfl hl.1 rfl (Nat.le_of_ble_eq_true rfl) dX2_goalFits_16 ⟨Nat.zero_le _, Nat.zero_le _⟩ (fun H locs hs => ?_)
  refine lv_istore_n (lv' := [(3, .int (nI (nG ns (nA ns k)))), (2, .int (nI (nG ns k))), (0, .ref (ad 11)), (1, .int (nI k))]) hx hb dX2_goalFits_19 rfl hl (by decide) rfl (fun ls hl => ?_)
  refine lv_aload_n hx hb dX2_goalFits_20 rfl (lv_at hl 2 rfl) ?_
  refine lv_aload_n hx hb dX2_goalFits_21 rfl (lv_at hl 2 rfl) ?_
  refine r_get (ci := 2) (v := .ref (ad 12)) (C := RX2) (T := TX2) (N := 5) hx hb hts inlX2 hown hK hs (11) (by omega) he11 rfl 1 (by decide) (hts _ w_fl_RX2_14) rfl dX2_goalFits_22 ?_
  refine lv_iload_n hx hb dX2_goalFits_25 rfl (lv_at hl 3 rfl) ?_
  refine lv_iconst (v := 3) hx hb dX2_goalFits_26 (by decide) ?_
  refine r_callViR (ci := 1) (As := [.int (nI k), .int (3)]) hx hb hml hown hts hK hA hs (12) (by omega) he12 rfl rfl (c_X1_getN l G hk k 3 (by omega) (by decide) (by omega)) (cwV 2 hts (tbV w_ml_RX2_46 w_im_yX1_get w_se_yX1_get w_ini_RX1 w_cd_yX1_get) rfl rfl rfl (by decide +kernel) ⟨Nat.le_of_ble_eq_true rfl, Nat.le_of_ble_eq_true rfl⟩) rfl hl.1 rfl (Nat.le_of_ble_eq_true rfl) dX2_goalFits_27 ⟨Nat.zero_le _, Nat.zero_le _⟩ (fun H locs hs => ?_)
  refine r_topi (y := nI (nB ns k)) rfl ?_
  refine r_callViR (ci := 2) (As := [.int (nI (nB ns k))]) hx hb hml hown hts hK hA hs (11) (by omega) he11 rfl rfl (c_X2_goalOfN l G hd (nB ns k) (by omega)) (cwV 1 hts (tbV w_ml_RX2_95 w_im_yX2_goalOf w_se_yX2_goalOf w_ini_RX2 w_cd_yX2_goalOf) rfl rfl rfl (by decide +kernel) ⟨Nat.le_of_ble_eq_true rfl, Nat.le_of_ble_eq_true rfl⟩) rfl hl.1 rfl (Nat.le_of_ble_eq_true rfl) dX2_goalFits_30 ⟨Nat.zero_le _, Nat.zero_le _⟩ (fun H locs hs => ?_)
  refine lv_istore (lv' := [(4, .int (nI (nG ns (nB ns k)))), (3, .int (nI (nG ns (nA ns k)))), (2, .int (nI (nG ns k))), (0, .ref (ad 11)), (1, .int (nI k))]) hx hb dX2_goalFits_33 hl (by decide) rfl (fun ls hl => ?_)
  refine lv_aload_n hx hb dX2_goalFits_35 rfl (lv_at hl 3 rfl) ?_
  refine lv_aload_n hx hb dX2_goalFits_36 rfl (lv_at hl 3 rfl) ?_
  refine r_get (ci := 2) (v := .ref (ad 12)) (C := RX2) (T := TX2) (N := 5) hx hb hts inlX2 hown hK hs (11) (by omega) he11 rfl 1 (by decide) (hts _ w_fl_RX2_14) rfl dX2_goalFits_37 ?_
  refine lv_iload_n hx hb dX2_goalFits_40 rfl (lv_at hl 4 rfl) ?_
  refine lv_iconst (v := 4) hx hb dX2_goalFits_41 (by decide) ?_
  refine r_callViR (ci := 1) (As := [.int (nI k), .int (4)]) hx hb hml hown hts hK hA hs (12) (by omega) he12 rfl rfl (c_X1_getN l G hk k 4 (by omega) (by decide) (by omega)) (cwV 2 hts (tbV w_ml_RX2_46 w_im_yX1_get w_se_yX1_get w_ini_RX1 w_cd_yX1_get) rfl rfl rfl (by decide +kernel) ⟨Nat.le_of_ble_eq_true rfl, Nat.le_of_ble_eq_true rfl⟩) rfl hl.1 rfl (Nat.le_of_ble_eq_true rfl) dX2_goalFits_42 ⟨Nat.zero_le _, Nat.zero_le _⟩ (fun H locs hs => ?_)
  refine r_topi (y := nI (nC ns k)) rfl ?_
  refine r_callViR (ci := 2) (As := [.int (nI (nC ns k))]) hx hb hml hown hts hK hA hs (11) (by omega) he11 rfl rfl (c_X2_goalOfN l G hd (nC ns k) (by omega)) (cwV 1 hts (tbV w_ml_RX2_95 w_im_yX2_goalOf w_se_yX2_goalOf w_ini_RX2 w_cd_yX2_goalOf) rfl rfl rfl (by decide +kernel) ⟨Nat.le_of_ble_eq_true rfl, Nat.le_of_ble_eq_true rfl⟩) rfl hl.1 rfl (Nat.le_of_ble_eq_true rfl) dX2_goalFits_45 ⟨Nat.zero_le _, Nat.zero_le _⟩ (fun H locs hs => ?_)
  refine lv_istore (lv' := [(5, .int (nI (nG ns (nC ns k)))), (4, .int (nI (nG ns (nB ns k)))), (3, .int (nI (nG ns (nA ns k)))), (2, .int (nI (nG ns k))), (0, .ref (ad 11)), (1, .int (nI k))]) hx hb dX2_goalFits_48 hl (by decide) rfl (fun ls hl => ?_)
  refine lv_aload_n hx hb dX2_goalFits_50 rfl (lv_at hl 4 rfl) ?_
  refine r_get (ci := 2) (v := .ref (ad 12)) (C := RX2) (T := TX2) (N := 5) hx hb hts inlX2 hown hK hs (11) (by omega) he11 rfl 1 (by decide) (hts _ w_fl_RX2_14) rfl dX2_goalFits_51 ?_
  refine lv_iload_n hx hb dX2_goalFits_54 rfl (lv_at hl 5 rfl) ?_
  refine lv_iconst (v := 0) hx hb dX2_goalFits_55 (by decide) ?_
  refine r_callViR (ci := 1) (As := [.int (nI k), .int (0)]) hx hb hml hown hts hK hA hs (12) (by omega) he12 rfl rfl (c_X1_getN l G hk k 0 (by omega) (by decide) (by omega)) (cwV 2 hts (tbV w_ml_RX2_46 w_im_yX1_get w_se_yX1_get w_ini_RX1 w_cd_yX1_get) rfl rfl rfl (by decide +kernel) ⟨Nat.le_of_ble_eq_true rfl, Nat.le_of_ble_eq_true rfl⟩) rfl hl.1 rfl (Nat.le_of_ble_eq_true rfl) dX2_goalFits_56 ⟨Nat.zero_le _, Nat.zero_le _⟩ (fun H locs hs => ?_)
  refine r_topi (y := nI (nT ns k)) rfl ?_
  by_cases k59_0 : nI (nT ns k) = 0
  · skip
    refine lv_tableIn (off := 53) (tgt := 112) hx hb dX2_goalFits_59 (by rw [k59_0]; decide) (by rw [k59_0]; decide) (by rw [k59_0]; decide) (by decide) ?_
    refine lv_iconst (v := 1) hx hb dX2_goalFits_112 (by decide) ?_
    refine r_zret (v := 1) (mc := 0) (ms := 0) hx hb hr hlk hs (Nat.le_refl _) (Nat.le_refl _) dX2_goalFits_113 ?_ hQ ?_
    · first | exact Or.inl rfl | exact Or.inr rfl | exact b2i_z _
    exact roV.rf (by rw [fitN, if_pos (nq (by omega) k59_0)]; rfl)
  by_cases k59_1 : nI (nT ns k) = 1
  · skip
    refine lv_tableIn (off := 55) (tgt := 114) hx hb dX2_goalFits_59 (by rw [k59_1]; decide) (by rw [k59_1]; decide) (by rw [k59_1]; decide) (by decide) ?_
    refine lv_aload_n hx hb dX2_goalFits_114 rfl (lv_at hl 4 rfl) ?_
    refine lv_iconst (v := 4) hx hb dX2_goalFits_115 (by decide) ?_
    refine lv_iload_n hx hb dX2_goalFits_116 rfl (lv_at hl 3 rfl) ?_
    refine lv_aload_n hx hb dX2_goalFits_117 rfl (lv_at hl 4 rfl) ?_
    refine r_get (ci := 2) (v := .ref (ad 3)) (C := RX2) (T := TX2) (N := 5) hx hb hts inlX2 hown hK hs (11) (by omega) he11 rfl 0 (by decide) (hts _ w_fl_RX2_35) rfl dX2_goalFits_118 ?_
    refine lv_iload_n hx hb dX2_goalFits_121 rfl (lv_at hl 3 rfl) ?_
    refine r_callViR (ci := 6) (As := [.int (nI (nG ns k))]) hx hb hml hown hts hK hA hs (3) (by omega) hest rfl rfl (c_X6_leftOfN l G h (nG ns k) (by omega)) (cwV 1 hts (tbV w_ml_RX2_98 w_im_yX6_leftOf w_se_yX6_leftOf w_ini_RX6 w_cd_yX6_leftOf) rfl rfl rfl (by decide +kernel) ⟨Nat.le_of_ble_eq_true rfl, Nat.le_of_ble_eq_true rfl⟩) rfl hl.1 rfl (Nat.le_of_ble_eq_true rfl) dX2_goalFits_122 ⟨Nat.zero_le _, Nat.zero_le _⟩ (fun H locs hs => ?_)
    refine lv_iload_n hx hb dX2_goalFits_125 rfl (lv_at hl 2 rfl) ?_
    refine r_callViR (ci := 2) (As := [.int (4), .int (nI (nG ns k)), .int (nI (sL ss (nG ns k))), .int (nI (nG ns (nA ns k)))]) hx hb hml hown hts hK hA hs (11) (by omega) he11 rfl rfl (c_X2_isWhole l G h hd (4) ((nG ns k)) ((sL ss (nG ns k))) ((nG ns (nA ns k))) ⟨by decide, by omega, by omega, by omega⟩) (cwV 4 hts (tbV w_ml_RX2_103 w_im_yX2_isWhole w_se_yX2_isWhole w_ini_RX2 w_cd_yX2_isWhole) rfl rfl rfl (by decide +kernel) ⟨Nat.le_of_ble_eq_true rfl, Nat.le_of_ble_eq_true rfl⟩) rfl hl.1 rfl (Nat.le_of_ble_eq_true rfl) dX2_goalFits_126 ⟨Nat.zero_le _, Nat.zero_le _⟩ (fun H locs hs => ?_)
    refine r_zret (v := b2i (sWh ss (4) ((nG ns k)) ((sL ss (nG ns k))) ((nG ns (nA ns k))))) (mc := 0) (ms := 0) hx hb hr hlk hs (Nat.le_refl _) (Nat.le_refl _) dX2_goalFits_129 ?_ hQ ?_
    · first | exact Or.inl rfl | exact Or.inr rfl | exact b2i_z _
    exact roV.rf (by rw [fitN, if_neg (nz k59_0), if_pos (nq (by omega) k59_1)])
  by_cases k59_2 : nI (nT ns k) = 2
  · skip
    refine lv_tableIn (off := 71) (tgt := 130) hx hb dX2_goalFits_59 (by rw [k59_2]; decide) (by rw [k59_2]; decide) (by rw [k59_2]; decide) (by decide) ?_
    refine lv_aload_n hx hb dX2_goalFits_130 rfl (lv_at hl 4 rfl) ?_
    refine lv_iconst (v := 4) hx hb dX2_goalFits_131 (by decide) ?_
    refine lv_iload_n hx hb dX2_goalFits_132 rfl (lv_at hl 2 rfl) ?_
    refine lv_iload hx hb dX2_goalFits_133 (lv_at hl 1 rfl) ?_
    refine lv_iload_n hx hb dX2_goalFits_135 rfl (lv_at hl 3 rfl) ?_
    refine r_callViR (ci := 2) (As := [.int (4), .int (nI (nG ns (nA ns k))), .int (nI (nG ns (nB ns k))), .int (nI (nG ns k))]) hx hb hml hown hts hK hA hs (11) (by omega) he11 rfl rfl (c_X2_isWhole l G h hd (4) ((nG ns (nA ns k))) ((nG ns (nB ns k))) ((nG ns k)) ⟨by decide, by omega, by omega, by omega⟩) (cwV 4 hts (tbV w_ml_RX2_103 w_im_yX2_isWhole w_se_yX2_isWhole w_ini_RX2 w_cd_yX2_isWhole) rfl rfl rfl (by decide +kernel) ⟨Nat.le_of_ble_eq_true rfl, Nat.le_of_ble_eq_true rfl⟩) rfl hl.1 rfl (Nat.le_of_ble_eq_true rfl) dX2_goalFits_136 ⟨Nat.zero_le _, Nat.zero_le _⟩ (fun H locs hs => ?_)
    refine r_zret (v := b2i (sWh ss (4) ((nG ns (nA ns k))) ((nG ns (nB ns k))) ((nG ns k)))) (mc := 0) (ms := 0) hx hb hr hlk hs (Nat.le_refl _) (Nat.le_refl _) dX2_goalFits_139 ?_ hQ ?_
    · first | exact Or.inl rfl | exact Or.inr rfl | exact b2i_z _
    exact roV.rf (by rw [fitN, if_neg (nz k59_0), if_neg (nz k59_1), if_pos (nq (by omega) k59_2)])
  by_cases k59_3 : nI (nT ns k) = 3
  · skip
    refine lv_tableIn (off := 81) (tgt := 140) hx hb dX2_goalFits_59 (by rw [k59_3]; decide) (by rw [k59_3]; decide) (by rw [k59_3]; decide) (by decide) ?_
    refine lv_aload_n hx hb dX2_goalFits_140 rfl (lv_at hl 4 rfl) ?_
    refine lv_iconst (v := 2) hx hb dX2_goalFits_141 (by decide) ?_
    refine lv_iload_n hx hb dX2_goalFits_142 rfl (lv_at hl 3 rfl) ?_
    refine lv_iload_n hx hb dX2_goalFits_143 rfl (lv_at hl 2 rfl) ?_
    refine lv_iload hx hb dX2_goalFits_144 (lv_at hl 1 rfl) ?_
    refine r_callViR (ci := 2) (As := [.int (2), .int (nI (nG ns k)), .int (nI (nG ns (nA ns k))), .int (nI (nG ns (nB ns k)))]) hx hb hml hown hts hK hA hs (11) (by omega) he11 rfl rfl (c_X2_isWhole l G h hd (2) ((nG ns k)) ((nG ns (nA ns k))) ((nG ns (nB ns k))) ⟨by decide, by omega, by omega, by omega⟩) (cwV 4 hts (tbV w_ml_RX2_103 w_im_yX2_isWhole w_se_yX2_isWhole w_ini_RX2 w_cd_yX2_isWhole) rfl rfl rfl (by decide +kernel) ⟨Nat.le_of_ble_eq_true rfl, Nat.le_of_ble_eq_true rfl⟩) rfl hl.1 rfl (Nat.le_of_ble_eq_true rfl) dX2_goalFits_146 ⟨Nat.zero_le _, Nat.zero_le _⟩ (fun H locs hs => ?_)
    refine r_zret (v := b2i (sWh ss (2) ((nG ns k)) ((nG ns (nA ns k))) ((nG ns (nB ns k))))) (mc := 0) (ms := 0) hx hb hr hlk hs (Nat.le_refl _) (Nat.le_refl _) dX2_goalFits_149 ?_ hQ ?_
    · first | exact Or.inl rfl | exact Or.inr rfl | exact b2i_z _
    exact roV.rf (by rw [fitN, if_neg (nz k59_0), if_neg (nz k59_1), if_neg (nz k59_2), if_pos (nq (by omega) k59_3)])
  by_cases k59_4 : nI (nT ns k) = 4
  · skip
    refine lv_tableIn (off := 91) (tgt := 150) hx hb dX2_goalFits_59 (by rw [k59_4]; decide) (by rw [k59_4]; decide) (by rw [k59_4]; decide) (by decide) ?_
    refine lv_aload_n hx hb dX2_goalFits_150 rfl (lv_at hl 4 rfl) ?_
    refine lv_iconst (v := 2) hx hb dX2_goalFits_151 (by decide) ?_
    refine lv_iload_n hx hb dX2_goalFits_152 rfl (lv_at hl 2 rfl) ?_
    refine lv_iload_n hx hb dX2_goalFits_153 rfl (lv_at hl 3 rfl) ?_
    refine lv_aload_n hx hb dX2_goalFits_154 rfl (lv_at hl 4 rfl) ?_
    refine r_get (ci := 2) (v := .ref (ad 3)) (C := RX2) (T := TX2) (N := 5) hx hb hts inlX2 hown hK hs (11) (by omega) he11 rfl 0 (by decide) (hts _ w_fl_RX2_35) rfl dX2_goalFits_155 ?_
    refine lv_iload_n hx hb dX2_goalFits_158 rfl (lv_at hl 2 rfl) ?_
    refine r_callViR (ci := 6) (As := [.int (nI (nG ns (nA ns k)))]) hx hb hml hown hts hK hA hs (3) (by omega) hest rfl rfl (c_X6_rightOfN l G h (nG ns (nA ns k)) (by omega)) (cwV 1 hts (tbV w_ml_RX2_107 w_im_yX6_rightOf w_se_yX6_rightOf w_ini_RX6 w_cd_yX6_rightOf) rfl rfl rfl (by decide +kernel) ⟨Nat.le_of_ble_eq_true rfl, Nat.le_of_ble_eq_true rfl⟩) rfl hl.1 rfl (Nat.le_of_ble_eq_true rfl) dX2_goalFits_159 ⟨Nat.zero_le _, Nat.zero_le _⟩ (fun H locs hs => ?_)
    refine r_callViR (ci := 2) (As := [.int (2), .int (nI (nG ns (nA ns k))), .int (nI (nG ns k)), .int (nI (sR ss (nG ns (nA ns k))))]) hx hb hml hown hts hK hA hs (11) (by omega) he11 rfl rfl (c_X2_isWhole l G h hd (2) ((nG ns (nA ns k))) ((nG ns k)) ((sR ss (nG ns (nA ns k)))) ⟨by decide, by omega, by omega, by omega⟩) (cwV 4 hts (tbV w_ml_RX2_103 w_im_yX2_isWhole w_se_yX2_isWhole w_ini_RX2 w_cd_yX2_isWhole) rfl rfl rfl (by decide +kernel) ⟨Nat.le_of_ble_eq_true rfl, Nat.le_of_ble_eq_true rfl⟩) rfl hl.1 rfl (Nat.le_of_ble_eq_true rfl) dX2_goalFits_162 ⟨Nat.zero_le _, Nat.zero_le _⟩ (fun H locs hs => ?_)
    refine r_zret (v := b2i (sWh ss (2) ((nG ns (nA ns k))) ((nG ns k)) ((sR ss (nG ns (nA ns k)))))) (mc := 0) (ms := 0) hx hb hr hlk hs (Nat.le_refl _) (Nat.le_refl _) dX2_goalFits_165 ?_ hQ ?_
    · first | exact Or.inl rfl | exact Or.inr rfl | exact b2i_z _
    exact roV.rf (by rw [fitN, if_neg (nz k59_0), if_neg (nz k59_1), if_neg (nz k59_2), if_neg (nz k59_3), if_pos (nq (by omega) k59_4)])
  by_cases k59_5 : nI (nT ns k) = 5
  · skip
    refine lv_tableIn (off := 107) (tgt := 166) hx hb dX2_goalFits_59 (by rw [k59_5]; decide) (by rw [k59_5]; decide) (by rw [k59_5]; decide) (by decide) ?_
    refine lv_aload_n hx hb dX2_goalFits_166 rfl (lv_at hl 4 rfl) ?_
    refine lv_iconst (v := 2) hx hb dX2_goalFits_167 (by decide) ?_
    refine lv_iload_n hx hb dX2_goalFits_168 rfl (lv_at hl 2 rfl) ?_
    refine lv_aload_n hx hb dX2_goalFits_169 rfl (lv_at hl 4 rfl) ?_
    refine r_get (ci := 2) (v := .ref (ad 3)) (C := RX2) (T := TX2) (N := 5) hx hb hts inlX2 hown hK hs (11) (by omega) he11 rfl 0 (by decide) (hts _ w_fl_RX2_35) rfl dX2_goalFits_170 ?_
    refine lv_iload_n hx hb dX2_goalFits_173 rfl (lv_at hl 2 rfl) ?_
    refine r_callViR (ci := 6) (As := [.int (nI (nG ns (nA ns k)))]) hx hb hml hown hts hK hA hs (3) (by omega) hest rfl rfl (c_X6_leftOfN l G h (nG ns (nA ns k)) (by omega)) (cwV 1 hts (tbV w_ml_RX2_98 w_im_yX6_leftOf w_se_yX6_leftOf w_ini_RX6 w_cd_yX6_leftOf) rfl rfl rfl (by decide +kernel) ⟨Nat.le_of_ble_eq_true rfl, Nat.le_of_ble_eq_true rfl⟩) rfl hl.1 rfl (Nat.le_of_ble_eq_true rfl) dX2_goalFits_174 ⟨Nat.zero_le _, Nat.zero_le _⟩ (fun H locs hs => ?_)
    refine lv_iload_n hx hb dX2_goalFits_177 rfl (lv_at hl 3 rfl) ?_
    refine r_callViR (ci := 2) (As := [.int (2), .int (nI (nG ns (nA ns k))), .int (nI (sL ss (nG ns (nA ns k)))), .int (nI (nG ns k))]) hx hb hml hown hts hK hA hs (11) (by omega) he11 rfl rfl (c_X2_isWhole l G h hd (2) ((nG ns (nA ns k))) ((sL ss (nG ns (nA ns k)))) ((nG ns k)) ⟨by decide, by omega, by omega, by omega⟩) (cwV 4 hts (tbV w_ml_RX2_103 w_im_yX2_isWhole w_se_yX2_isWhole w_ini_RX2 w_cd_yX2_isWhole) rfl rfl rfl (by decide +kernel) ⟨Nat.le_of_ble_eq_true rfl, Nat.le_of_ble_eq_true rfl⟩) rfl hl.1 rfl (Nat.le_of_ble_eq_true rfl) dX2_goalFits_178 ⟨Nat.zero_le _, Nat.zero_le _⟩ (fun H locs hs => ?_)
    refine r_zret (v := b2i (sWh ss (2) ((nG ns (nA ns k))) ((sL ss (nG ns (nA ns k)))) ((nG ns k)))) (mc := 0) (ms := 0) hx hb hr hlk hs (Nat.le_refl _) (Nat.le_refl _) dX2_goalFits_181 ?_ hQ ?_
    · first | exact Or.inl rfl | exact Or.inr rfl | exact b2i_z _
    exact roV.rf (by rw [fitN, if_neg (nz k59_0), if_neg (nz k59_1), if_neg (nz k59_2), if_neg (nz k59_3), if_neg (nz k59_4), if_pos (nq (by omega) k59_5)])
  by_cases k59_6 : nI (nT ns k) = 6
  · skip
    refine lv_tableIn (off := 123) (tgt := 182) hx hb dX2_goalFits_59 (by rw [k59_6]; decide) (by rw [k59_6]; decide) (by rw [k59_6]; decide) (by decide) ?_
    refine lv_aload_n hx hb dX2_goalFits_182 rfl (lv_at hl 4 rfl) ?_
    refine lv_iconst (v := 3) hx hb dX2_goalFits_183 (by decide) ?_
    refine lv_iload_n hx hb dX2_goalFits_184 rfl (lv_at hl 3 rfl) ?_
    refine lv_iload_n hx hb dX2_goalFits_185 rfl (lv_at hl 2 rfl) ?_
    refine lv_aload_n hx hb dX2_goalFits_186 rfl (lv_at hl 4 rfl) ?_
    refine r_get (ci := 2) (v := .ref (ad 3)) (C := RX2) (T := TX2) (N := 5) hx hb hts inlX2 hown hK hs (11) (by omega) he11 rfl 0 (by decide) (hts _ w_fl_RX2_35) rfl dX2_goalFits_187 ?_
    refine lv_iload_n hx hb dX2_goalFits_190 rfl (lv_at hl 3 rfl) ?_
    refine r_callViR (ci := 6) (As := [.int (nI (nG ns k))]) hx hb hml hown hts hK hA hs (3) (by omega) hest rfl rfl (c_X6_rightOfN l G h (nG ns k) (by omega)) (cwV 1 hts (tbV w_ml_RX2_107 w_im_yX6_rightOf w_se_yX6_rightOf w_ini_RX6 w_cd_yX6_rightOf) rfl rfl rfl (by decide +kernel) ⟨Nat.le_of_ble_eq_true rfl, Nat.le_of_ble_eq_true rfl⟩) rfl hl.1 rfl (Nat.le_of_ble_eq_true rfl) dX2_goalFits_191 ⟨Nat.zero_le _, Nat.zero_le _⟩ (fun H locs hs => ?_)
    refine r_callViR (ci := 2) (As := [.int (3), .int (nI (nG ns k)), .int (nI (nG ns (nA ns k))), .int (nI (sR ss (nG ns k)))]) hx hb hml hown hts hK hA hs (11) (by omega) he11 rfl rfl (c_X2_isWhole l G h hd (3) ((nG ns k)) ((nG ns (nA ns k))) ((sR ss (nG ns k))) ⟨by decide, by omega, by omega, by omega⟩) (cwV 4 hts (tbV w_ml_RX2_103 w_im_yX2_isWhole w_se_yX2_isWhole w_ini_RX2 w_cd_yX2_isWhole) rfl rfl rfl (by decide +kernel) ⟨Nat.le_of_ble_eq_true rfl, Nat.le_of_ble_eq_true rfl⟩) rfl hl.1 rfl (Nat.le_of_ble_eq_true rfl) dX2_goalFits_194 ⟨Nat.zero_le _, Nat.zero_le _⟩ (fun H locs hs => ?_)
    refine r_zret (v := b2i (sWh ss (3) ((nG ns k)) ((nG ns (nA ns k))) ((sR ss (nG ns k))))) (mc := 0) (ms := 0) hx hb hr hlk hs (Nat.le_refl _) (Nat.le_refl _) dX2_goalFits_197 ?_ hQ ?_
    · first | exact Or.inl rfl | exact Or.inr rfl | exact b2i_z _
    exact roV.rf (by rw [fitN, if_neg (nz k59_0), if_neg (nz k59_1), if_neg (nz k59_2), if_neg (nz k59_3), if_neg (nz k59_4), if_neg (nz k59_5), if_pos (nq (by omega) k59_6)])
  by_cases k59_7 : nI (nT ns k) = 7
  · skip
    refine lv_tableIn (off := 139) (tgt := 198) hx hb dX2_goalFits_59 (by rw [k59_7]; decide) (by rw [k59_7]; decide) (by rw [k59_7]; decide) (by decide) ?_
    refine lv_aload_n hx hb dX2_goalFits_198 rfl (lv_at hl 4 rfl) ?_
    refine lv_iconst (v := 3) hx hb dX2_goalFits_199 (by decide) ?_
    refine lv_iload_n hx hb dX2_goalFits_200 rfl (lv_at hl 3 rfl) ?_
    refine lv_aload_n hx hb dX2_goalFits_201 rfl (lv_at hl 4 rfl) ?_
    refine r_get (ci := 2) (v := .ref (ad 3)) (C := RX2) (T := TX2) (N := 5) hx hb hts inlX2 hown hK hs (11) (by omega) he11 rfl 0 (by decide) (hts _ w_fl_RX2_35) rfl dX2_goalFits_202 ?_
    refine lv_iload_n hx hb dX2_goalFits_205 rfl (lv_at hl 3 rfl) ?_
    refine r_callViR (ci := 6) (As := [.int (nI (nG ns k))]) hx hb hml hown hts hK hA hs (3) (by omega) hest rfl rfl (c_X6_leftOfN l G h (nG ns k) (by omega)) (cwV 1 hts (tbV w_ml_RX2_98 w_im_yX6_leftOf w_se_yX6_leftOf w_ini_RX6 w_cd_yX6_leftOf) rfl rfl rfl (by decide +kernel) ⟨Nat.le_of_ble_eq_true rfl, Nat.le_of_ble_eq_true rfl⟩) rfl hl.1 rfl (Nat.le_of_ble_eq_true rfl) dX2_goalFits_206 ⟨Nat.zero_le _, Nat.zero_le _⟩ (fun H locs hs => ?_)
    refine lv_iload_n hx hb dX2_goalFits_209 rfl (lv_at hl 2 rfl) ?_
    refine r_callViR (ci := 2) (As := [.int (3), .int (nI (nG ns k)), .int (nI (sL ss (nG ns k))), .int (nI (nG ns (nA ns k)))]) hx hb hml hown hts hK hA hs (11) (by omega) he11 rfl rfl (c_X2_isWhole l G h hd (3) ((nG ns k)) ((sL ss (nG ns k))) ((nG ns (nA ns k))) ⟨by decide, by omega, by omega, by omega⟩) (cwV 4 hts (tbV w_ml_RX2_103 w_im_yX2_isWhole w_se_yX2_isWhole w_ini_RX2 w_cd_yX2_isWhole) rfl rfl rfl (by decide +kernel) ⟨Nat.le_of_ble_eq_true rfl, Nat.le_of_ble_eq_true rfl⟩) rfl hl.1 rfl (Nat.le_of_ble_eq_true rfl) dX2_goalFits_210 ⟨Nat.zero_le _, Nat.zero_le _⟩ (fun H locs hs => ?_)
    refine r_zret (v := b2i (sWh ss (3) ((nG ns k)) ((sL ss (nG ns k))) ((nG ns (nA ns k))))) (mc := 0) (ms := 0) hx hb hr hlk hs (Nat.le_refl _) (Nat.le_refl _) dX2_goalFits_213 ?_ hQ ?_
    · first | exact Or.inl rfl | exact Or.inr rfl | exact b2i_z _
    exact roV.rf (by rw [fitN, if_neg (nz k59_0), if_neg (nz k59_1), if_neg (nz k59_2), if_neg (nz k59_3), if_neg (nz k59_4), if_neg (nz k59_5), if_neg (nz k59_6), if_pos (nq (by omega) k59_7)])
  by_cases k59_8 : nI (nT ns k) = 8
  · skip
    refine lv_tableIn (off := 155) (tgt := 214) hx hb dX2_goalFits_59 (by rw [k59_8]; decide) (by rw [k59_8]; decide) (by rw [k59_8]; decide) (by decide) ?_
    refine lv_aload_n hx hb dX2_goalFits_214 rfl (lv_at hl 4 rfl) ?_
    refine r_get (ci := 2) (v := .ref (ad 3)) (C := RX2) (T := TX2) (N := 5) hx hb hts inlX2 hown hK hs (11) (by omega) he11 rfl 0 (by decide) (hts _ w_fl_RX2_35) rfl dX2_goalFits_215 ?_
    refine lv_iconst (v := 3) hx hb dX2_goalFits_218 (by decide) ?_
    refine lv_iload_n hx hb dX2_goalFits_219 rfl (lv_at hl 2 rfl) ?_
    refine r_callViR (ci := 6) (As := [.int (3), .int (nI (nG ns (nA ns k)))]) hx hb hml hown hts hK hA hs (3) (by omega) hest rfl rfl (c_X6_isOfN l G h 3 (nG ns (nA ns k)) (by decide) (by omega)) (cwV 2 hts (tbV w_ml_RX2_110 w_im_yX6_isOf w_se_yX6_isOf w_ini_RX6 w_cd_yX6_isOf) rfl rfl rfl (by decide +kernel) ⟨Nat.le_of_ble_eq_true rfl, Nat.le_of_ble_eq_true rfl⟩) rfl hl.1 rfl (Nat.le_of_ble_eq_true rfl) dX2_goalFits_220 ⟨Nat.zero_le _, Nat.zero_le _⟩ (fun H locs hs => ?_)
    refine lv_if_eq (tgt := 242) hx hb dX2_goalFits_223 (by decide) (fun c223 => ?_) (fun c223 => ?_)
    · skip
      refine lv_iconst (v := 0) hx hb dX2_goalFits_242 (by decide) ?_
      refine r_zret (v := 0) (mc := 0) (ms := 0) hx hb hr hlk hs (Nat.le_refl _) (Nat.le_refl _) dX2_goalFits_243 ?_ hQ ?_
      · first | exact Or.inl rfl | exact Or.inr rfl | exact b2i_z _
      exact roV.rf (by rw [fitN, if_neg (nz k59_0), if_neg (nz k59_1), if_neg (nz k59_2), if_neg (nz k59_3), if_neg (nz k59_4), if_neg (nz k59_5), if_neg (nz k59_6), if_neg (nz k59_7), if_pos (nq (by omega) k59_8), b2i_0 c223]; rfl)
    · skip
      refine lv_iload hx hb dX2_goalFits_226 (lv_at hl 1 rfl) ?_
      refine lv_iload_n hx hb dX2_goalFits_228 rfl (lv_at hl 3 rfl) ?_
      refine lv_icmp_ne (tgt := 242) hx hb dX2_goalFits_229 (by decide) (fun c229 => ?_) (fun c229 => ?_)
      · skip
        have c229 : ¬ nG ns (nB ns k) = nG ns k := fun q => c229 (by rw [q])
        refine lv_iconst (v := 0) hx hb dX2_goalFits_242 (by decide) ?_
        refine r_zret (v := 0) (mc := 0) (ms := 0) hx hb hr hlk hs (Nat.le_refl _) (Nat.le_refl _) dX2_goalFits_243 ?_ hQ ?_
        · first | exact Or.inl rfl | exact Or.inr rfl | exact b2i_z _
        exact roV.rf (by rw [fitN, if_neg (nz k59_0), if_neg (nz k59_1), if_neg (nz k59_2), if_neg (nz k59_3), if_neg (nz k59_4), if_neg (nz k59_5), if_neg (nz k59_6), if_neg (nz k59_7), if_pos (nq (by omega) k59_8), b2i_1 c223, df c229]; rfl)
      · skip
        have c229 : nG ns (nB ns k) = nG ns k := (nI_eq (by omega) (by omega)).mp c229
        refine lv_iload hx hb dX2_goalFits_232 (lv_at hl 0 rfl) ?_
        refine lv_iload_n hx hb dX2_goalFits_234 rfl (lv_at hl 3 rfl) ?_
        refine lv_icmp_ne (tgt := 242) hx hb dX2_goalFits_235 (by decide) (fun c235 => ?_) (fun c235 => ?_)
        · skip
          have c235 : ¬ nG ns (nC ns k) = nG ns k := fun q => c235 (by rw [q])
          refine lv_iconst (v := 0) hx hb dX2_goalFits_242 (by decide) ?_
          refine r_zret (v := 0) (mc := 0) (ms := 0) hx hb hr hlk hs (Nat.le_refl _) (Nat.le_refl _) dX2_goalFits_243 ?_ hQ ?_
          · first | exact Or.inl rfl | exact Or.inr rfl | exact b2i_z _
          exact roV.rf (by rw [fitN, if_neg (nz k59_0), if_neg (nz k59_1), if_neg (nz k59_2), if_neg (nz k59_3), if_neg (nz k59_4), if_neg (nz k59_5), if_neg (nz k59_6), if_neg (nz k59_7), if_pos (nq (by omega) k59_8), b2i_1 c223, dt c229, df c235]; rfl)
        · skip
          have c235 : nG ns (nC ns k) = nG ns k := (nI_eq (by omega) (by omega)).mp c235
          refine lv_iconst (v := 1) hx hb dX2_goalFits_238 (by decide) ?_
          refine lv_goto (tgt := 243) hx hb dX2_goalFits_239 (by decide) ?_
          refine r_zret (v := 1) (mc := 0) (ms := 0) hx hb hr hlk hs (Nat.le_refl _) (Nat.le_refl _) dX2_goalFits_243 ?_ hQ ?_
          · first | exact Or.inl rfl | exact Or.inr rfl | exact b2i_z _
          exact roV.rf (by rw [fitN, if_neg (nz k59_0), if_neg (nz k59_1), if_neg (nz k59_2), if_neg (nz k59_3), if_neg (nz k59_4), if_neg (nz k59_5), if_neg (nz k59_6), if_neg (nz k59_7), if_pos (nq (by omega) k59_8), b2i_1 c223, dt c229, dt c235]; rfl)
  by_cases k59_9 : nI (nT ns k) = 9
  · skip
    refine lv_tableIn (off := 185) (tgt := 244) hx hb dX2_goalFits_59 (by rw [k59_9]; decide) (by rw [k59_9]; decide) (by rw [k59_9]; decide) (by decide) ?_
    refine lv_aload_n hx hb dX2_goalFits_244 rfl (lv_at hl 4 rfl) ?_
    refine r_get (ci := 2) (v := .ref (ad 3)) (C := RX2) (T := TX2) (N := 5) hx hb hts inlX2 hown hK hs (11) (by omega) he11 rfl 0 (by decide) (hts _ w_fl_RX2_35) rfl dX2_goalFits_245 ?_
    refine lv_iconst (v := 1) hx hb dX2_goalFits_248 (by decide) ?_
    refine lv_iload_n hx hb dX2_goalFits_249 rfl (lv_at hl 2 rfl) ?_
    refine r_callViR (ci := 6) (As := [.int (1), .int (nI (nG ns (nA ns k)))]) hx hb hml hown hts hK hA hs (3) (by omega) hest rfl rfl (c_X6_isOfN l G h 1 (nG ns (nA ns k)) (by decide) (by omega)) (cwV 2 hts (tbV w_ml_RX2_110 w_im_yX6_isOf w_se_yX6_isOf w_ini_RX6 w_cd_yX6_isOf) rfl rfl rfl (by decide +kernel) ⟨Nat.le_of_ble_eq_true rfl, Nat.le_of_ble_eq_true rfl⟩) rfl hl.1 rfl (Nat.le_of_ble_eq_true rfl) dX2_goalFits_250 ⟨Nat.zero_le _, Nat.zero_le _⟩ (fun H locs hs => ?_)
    refine r_zret (v := b2i (sIs ss 1 (nG ns (nA ns k)))) (mc := 0) (ms := 0) hx hb hr hlk hs (Nat.le_refl _) (Nat.le_refl _) dX2_goalFits_253 ?_ hQ ?_
    · first | exact Or.inl rfl | exact Or.inr rfl | exact b2i_z _
    exact roV.rf (by rw [fitN, if_neg (nz k59_0), if_neg (nz k59_1), if_neg (nz k59_2), if_neg (nz k59_3), if_neg (nz k59_4), if_neg (nz k59_5), if_neg (nz k59_6), if_neg (nz k59_7), if_neg (nz k59_8), if_pos (nq (by omega) k59_9)])
  exact absurd hT9 (not9 k59_0 k59_1 k59_2 k59_3 k59_4 k59_5 k59_6 k59_7 k59_8 k59_9)

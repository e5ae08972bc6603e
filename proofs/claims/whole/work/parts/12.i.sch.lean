set_option maxHeartbeats 600000 in
set_option maxRecDepth 100000 in
theorem c_X4_bringParts (l : Launch) (G : rG) {n : Nat} {ad : Nat → Nat} {en : Nat → va_E} {ss : List Row} {hw : Nat} {dv : Nat → Int32} {S : Nat → Nat → Bool} {fuel sp : Nat} (hW : SchW G n ad en ss hw dv S fuel sp) {r k w d1 : Nat} (hr14 : r < 14) (hk3 : k < 3) (hd1 : d1 < 82) (hw1 : w ≤ ss.length) (hbp : (gLf r k = true → sL ss w ≤ 600) ∧ (gRf r k = true → sR ss w ≤ 600)) : CV l G yX4_bringParts uX4_bringParts (2) (44) (0) (0) [.ref (ad 18), .int (nI r), .int (nI k), .int (nI w), .int (nI d1)] (n) (n) ad en (fun ad1 en1 => (∃ S1, SchW G n ad1 en1 ss hw dv S1 fuel sp ∧ (∀ e, e ≠ d1 → ∀ y, S1 e y = S e y) ∧ S1 d1 = gPar ss r k w (S d1)) ∧ Fr n scS scA ad en ad1 en1) := by
  intro sz
  refine rMet (Qc := qV G (n) (fun ad1 en1 => (∃ S1, SchW G n ad1 en1 ss hw dv S1 fuel sp ∧ (∀ e, e ≠ d1 → ∀ y, S1 e y = S e y) ∧ S1 d1 = gPar ss r k w (S d1)) ∧ Fr n scS scA ad en ad1 en1)) (cc := cX4_bringParts) (maxL := 7) (ret := none) (by decide) rfl (Nat.le_of_ble_eq_true rfl) ?_
  intro pP eE sS mM aA bB tT cC ls A Q hc hK hsz hA hs hl hQ
  obtain ⟨hx, hb, hr, hts, hown, hlk, hnm, hml⟩ := hc
  have hl : lv_has ls 7 [(0, .ref (ad 18)), (1, .int (nI r)), (2, .int (nI k)), (3, .int (nI w)), (4, .int (nI d1))] := hl
  obtain ⟨hn0, hSt0, hDe0, hGi0, he180⟩ := id hW
  have he30 := hSt0.2.1
  obtain ⟨fs70, he70⟩ := SetsAt_recv hSt0.2.2.2.1
  obtain ⟨fs190, he190⟩ := SetsAt_recv hGi0
  obtain ⟨fs10, he10⟩ := DerAt_recv hDe0
  have hok0 := hSt0.2.2.2.2.2
  have h60 := hok0.1
  
  have JOIN68 : ∀ ls : Array Slot, lv_has ls 7 [(0, .ref (ad 18)), (1, .int (nI r)), (2, .int (nI k)), (3, .int (nI w)), (4, .int (nI d1)), (5, .int (b2i (gLf r k))), (6, .int (b2i (gRf r k)))] → W pP l eE (rRm (2) (44) (0) (0)) sS mM aA bB tT cC sS.heap [] (0) (0) Q (F0 mM 68 ls []) := by
    intro ls hl
    refine lv_iload hx hb dX4_bringParts_68 (lv_at hl 5 rfl) ?_
    refine lv_if_eq (tgt := 90) hx hb dX4_bringParts_70 (by decide) (fun c70 => ?_) (fun c70 => ?_)
    · skip
      refine lv_iload hx hb dX4_bringParts_90 (lv_at hl 6 rfl) ?_
      refine lv_if_eq (tgt := 112) hx hb dX4_bringParts_92 (by decide) (fun c92 => ?_) (fun c92 => ?_)
      · skip
        refine r_vret (mc := 0) (ms := 0) hx hb hr hlk hs (Nat.le_refl _) (Nat.le_refl _) dX4_bringParts_112 hQ ?_
        refine ⟨⟨S, hW, fun e he y => rfl, ?_⟩, Fr_rf⟩
        unfold gPar gIf
        rw [b2i_0 c70, b2i_0 c92]
        rfl
      · skip
        refine lv_aload_n hx hb dX4_bringParts_95 rfl (lv_at hl 0 rfl) ?_
        refine r_get (ci := 4) (v := .ref (ad 19)) (C := RX4) (T := TX4) (N := 5) hx hb hts inlX4 hown hK hs (18) (by omega) he180 rfl 2 (by decide) (hts _ w_fl_RX4_14) rfl dX4_bringParts_96 ?_
        refine lv_iload hx hb dX4_bringParts_99 (lv_at hl 4 rfl) ?_
        refine lv_aload_n hx hb dX4_bringParts_101 rfl (lv_at hl 0 rfl) ?_
        refine r_get (ci := 4) (v := .ref (ad 3)) (C := RX4) (T := TX4) (N := 5) hx hb hts inlX4 hown hK hs (18) (by omega) he180 rfl 0 (by decide) (hts _ w_fl_RX4_27) rfl dX4_bringParts_102 ?_
        refine lv_iload_n hx hb dX4_bringParts_105 rfl (lv_at hl 3 rfl) ?_
        refine r_callViR (ci := 6) (As := [.int (nI w)]) hx hb hml hown hts hK hA hs (3) (by omega) he30 rfl rfl (c_X6_rightOfN l G hSt0 w (by omega)) (cwV 1 hts (tbV w_ml_RX4_134 w_im_yX6_rightOf w_se_yX6_rightOf w_ini_RX6 w_cd_yX6_rightOf) rfl rfl rfl (by decide +kernel) ⟨Nat.le_of_ble_eq_true rfl, Nat.le_of_ble_eq_true rfl⟩) rfl hl.1 rfl (Nat.le_of_ble_eq_true rfl) dX4_bringParts_106 ⟨Nat.zero_le _, Nat.zero_le _⟩ (fun H locs hs => ?_)
        refine r_callVv (ci := 5) (As := [.int (nI d1), .int (nI (sR ss w))]) hx hb hml hown hts hK hA hs (19) (by omega) he190 rfl rfl (c_X5_add l G hGi0 (row := d1) (by omega) (nI (sR ss w))) (cwV 2 hts (tbV w_ml_RX4_140 w_im_yX5_add w_se_yX5_add w_ini_RX5 w_cd_yX5_add) rfl rfl rfl (by decide +kernel) ⟨Nat.le_of_ble_eq_true rfl, Nat.le_of_ble_eq_true rfl⟩) rfl hl.1 rfl (Nat.le_of_ble_eq_true rfl) dX4_bringParts_109 ⟨Nat.le_refl _, Nat.le_refl _⟩ (fun ad_1 en_2 H locs hp_3 hs => ?_)
        obtain ⟨hsSr, hfSr⟩ := hp_3
        obtain ⟨Sr, eSr⟩ : ∃ z, z = sAddI S d1 (nI (sR ss w)) := ⟨_, rfl⟩
        rw [← eSr] at hsSr
        obtain ⟨hWSr, hFSr⟩ := SchW_gi hW hsSr hfSr
        obtain ⟨hnw_4, hStw_4, hDew_4, hGiw_4, he18w_4⟩ := id hWSr
        have he3w_4 := hStw_4.2.1
        obtain ⟨fs7w_4, he7w_4⟩ := SetsAt_recv hStw_4.2.2.2.1
        obtain ⟨fs19w_4, he19w_4⟩ := SetsAt_recv hGiw_4
        obtain ⟨fs1w_4, he1w_4⟩ := DerAt_recv hDew_4
        have hokw_4 := hStw_4.2.2.2.2.2
        have h6w_4 := hokw_4.1
        have frw_4 := Fr_tr Fr_rf hFSr
        have hl : lv_has ls 7 [(0, .ref (ad_1 18)), (1, .int (nI r)), (2, .int (nI k)), (3, .int (nI w)), (4, .int (nI d1)), (5, .int (b2i (gLf r k))), (6, .int (b2i (gRf r k)))] := by rw [hFSr.1 18 (by omega) (by unfold scA; omega)]; exact hl
        refine r_vret (mc := 0) (ms := 0) hx hb hr hlk hs (Nat.le_refl _) (Nat.le_refl _) dX4_bringParts_112 hQ ?_
        refine ⟨⟨Sr, hWSr, fun e he y => by rw [eSr, sAddI_ne he], ?_⟩, frw_4⟩
        unfold gPar gIf
        rw [b2i_0 c70, b2i_1 c92]
        rw [eSr, gadd_eq _ _ (hbp.2 (b2i_1 c92))]
        try rfl
    · skip
      refine lv_aload_n hx hb dX4_bringParts_73 rfl (lv_at hl 0 rfl) ?_
      refine r_get (ci := 4) (v := .ref (ad 19)) (C := RX4) (T := TX4) (N := 5) hx hb hts inlX4 hown hK hs (18) (by omega) he180 rfl 2 (by decide) (hts _ w_fl_RX4_14) rfl dX4_bringParts_74 ?_
      refine lv_iload hx hb dX4_bringParts_77 (lv_at hl 4 rfl) ?_
      refine lv_aload_n hx hb dX4_bringParts_79 rfl (lv_at hl 0 rfl) ?_
      refine r_get (ci := 4) (v := .ref (ad 3)) (C := RX4) (T := TX4) (N := 5) hx hb hts inlX4 hown hK hs (18) (by omega) he180 rfl 0 (by decide) (hts _ w_fl_RX4_27) rfl dX4_bringParts_80 ?_
      refine lv_iload_n hx hb dX4_bringParts_83 rfl (lv_at hl 3 rfl) ?_
      refine r_callViR (ci := 6) (As := [.int (nI w)]) hx hb hml hown hts hK hA hs (3) (by omega) he30 rfl rfl (c_X6_leftOfN l G hSt0 w (by omega)) (cwV 1 hts (tbV w_ml_RX4_131 w_im_yX6_leftOf w_se_yX6_leftOf w_ini_RX6 w_cd_yX6_leftOf) rfl rfl rfl (by decide +kernel) ⟨Nat.le_of_ble_eq_true rfl, Nat.le_of_ble_eq_true rfl⟩) rfl hl.1 rfl (Nat.le_of_ble_eq_true rfl) dX4_bringParts_84 ⟨Nat.zero_le _, Nat.zero_le _⟩ (fun H locs hs => ?_)
      refine r_callVv (ci := 5) (As := [.int (nI d1), .int (nI (sL ss w))]) hx hb hml hown hts hK hA hs (19) (by omega) he190 rfl rfl (c_X5_add l G hGi0 (row := d1) (by omega) (nI (sL ss w))) (cwV 2 hts (tbV w_ml_RX4_140 w_im_yX5_add w_se_yX5_add w_ini_RX5 w_cd_yX5_add) rfl rfl rfl (by decide +kernel) ⟨Nat.le_of_ble_eq_true rfl, Nat.le_of_ble_eq_true rfl⟩) rfl hl.1 rfl (Nat.le_of_ble_eq_true rfl) dX4_bringParts_87 ⟨Nat.le_refl _, Nat.le_refl _⟩ (fun ad_5 en_6 H locs hp_7 hs => ?_)
      obtain ⟨hsSl, hfSl⟩ := hp_7
      obtain ⟨Sl, eSl⟩ : ∃ z, z = sAddI S d1 (nI (sL ss w)) := ⟨_, rfl⟩
      rw [← eSl] at hsSl
      obtain ⟨hWSl, hFSl⟩ := SchW_gi hW hsSl hfSl
      obtain ⟨hnw_8, hStw_8, hDew_8, hGiw_8, he18w_8⟩ := id hWSl
      have he3w_8 := hStw_8.2.1
      obtain ⟨fs7w_8, he7w_8⟩ := SetsAt_recv hStw_8.2.2.2.1
      obtain ⟨fs19w_8, he19w_8⟩ := SetsAt_recv hGiw_8
      obtain ⟨fs1w_8, he1w_8⟩ := DerAt_recv hDew_8
      have hokw_8 := hStw_8.2.2.2.2.2
      have h6w_8 := hokw_8.1
      have frw_8 := Fr_tr Fr_rf hFSl
      have hl : lv_has ls 7 [(0, .ref (ad_5 18)), (1, .int (nI r)), (2, .int (nI k)), (3, .int (nI w)), (4, .int (nI d1)), (5, .int (b2i (gLf r k))), (6, .int (b2i (gRf r k)))] := by rw [hFSl.1 18 (by omega) (by unfold scA; omega)]; exact hl
      refine lv_iload hx hb dX4_bringParts_90 (lv_at hl 6 rfl) ?_
      refine lv_if_eq (tgt := 112) hx hb dX4_bringParts_92 (by decide) (fun c92 => ?_) (fun c92 => ?_)
      · skip
        refine r_vret (mc := 0) (ms := 0) hx hb hr hlk hs (Nat.le_refl _) (Nat.le_refl _) dX4_bringParts_112 hQ ?_
        refine ⟨⟨Sl, hWSl, fun e he y => by rw [eSl, sAddI_ne he], ?_⟩, frw_8⟩
        unfold gPar gIf
        rw [b2i_1 c70, b2i_0 c92]
        rw [eSl, gadd_eq _ _ (hbp.1 (b2i_1 c70))]
        try rfl
      · skip
        refine lv_aload_n hx hb dX4_bringParts_95 rfl (lv_at hl 0 rfl) ?_
        refine r_get (ci := 4) (v := .ref (ad_5 19)) (C := RX4) (T := TX4) (N := 5) hx hb hts inlX4 hown hK hs (18) (by omega) he18w_8 rfl 2 (by decide) (hts _ w_fl_RX4_14) rfl dX4_bringParts_96 ?_
        refine lv_iload hx hb dX4_bringParts_99 (lv_at hl 4 rfl) ?_
        refine lv_aload_n hx hb dX4_bringParts_101 rfl (lv_at hl 0 rfl) ?_
        refine r_get (ci := 4) (v := .ref (ad_5 3)) (C := RX4) (T := TX4) (N := 5) hx hb hts inlX4 hown hK hs (18) (by omega) he18w_8 rfl 0 (by decide) (hts _ w_fl_RX4_27) rfl dX4_bringParts_102 ?_
        refine lv_iload_n hx hb dX4_bringParts_105 rfl (lv_at hl 3 rfl) ?_
        refine r_callViR (ci := 6) (As := [.int (nI w)]) hx hb hml hown hts hK hA hs (3) (by omega) he3w_8 rfl rfl (c_X6_rightOfN l G hStw_8 w (by omega)) (cwV 1 hts (tbV w_ml_RX4_134 w_im_yX6_rightOf w_se_yX6_rightOf w_ini_RX6 w_cd_yX6_rightOf) rfl rfl rfl (by decide +kernel) ⟨Nat.le_of_ble_eq_true rfl, Nat.le_of_ble_eq_true rfl⟩) rfl hl.1 rfl (Nat.le_of_ble_eq_true rfl) dX4_bringParts_106 ⟨Nat.zero_le _, Nat.zero_le _⟩ (fun H locs hs => ?_)
        refine r_callVv (ci := 5) (As := [.int (nI d1), .int (nI (sR ss w))]) hx hb hml hown hts hK hA hs (19) (by omega) he19w_8 rfl rfl (c_X5_add l G hGiw_8 (row := d1) (by omega) (nI (sR ss w))) (cwV 2 hts (tbV w_ml_RX4_140 w_im_yX5_add w_se_yX5_add w_ini_RX5 w_cd_yX5_add) rfl rfl rfl (by decide +kernel) ⟨Nat.le_of_ble_eq_true rfl, Nat.le_of_ble_eq_true rfl⟩) rfl hl.1 rfl (Nat.le_of_ble_eq_true rfl) dX4_bringParts_109 ⟨Nat.le_refl _, Nat.le_refl _⟩ (fun ad_9 en_10 H locs hp_11 hs => ?_)
        obtain ⟨hsSr, hfSr⟩ := hp_11
        obtain ⟨Sr, eSr⟩ : ∃ z, z = sAddI Sl d1 (nI (sR ss w)) := ⟨_, rfl⟩
        rw [← eSr] at hsSr
        obtain ⟨hWSr, hFSr⟩ := SchW_gi hWSl hsSr hfSr
        obtain ⟨hnw_12, hStw_12, hDew_12, hGiw_12, he18w_12⟩ := id hWSr
        have he3w_12 := hStw_12.2.1
        obtain ⟨fs7w_12, he7w_12⟩ := SetsAt_recv hStw_12.2.2.2.1
        obtain ⟨fs19w_12, he19w_12⟩ := SetsAt_recv hGiw_12
        obtain ⟨fs1w_12, he1w_12⟩ := DerAt_recv hDew_12
        have hokw_12 := hStw_12.2.2.2.2.2
        have h6w_12 := hokw_12.1
        have frw_12 := Fr_tr frw_8 hFSr
        have hl : lv_has ls 7 [(0, .ref (ad_9 18)), (1, .int (nI r)), (2, .int (nI k)), (3, .int (nI w)), (4, .int (nI d1)), (5, .int (b2i (gLf r k))), (6, .int (b2i (gRf r k)))] := by rw [hFSr.1 18 (by omega) (by unfold scA; omega)]; exact hl
        refine r_vret (mc := 0) (ms := 0) hx hb hr hlk hs (Nat.le_refl _) (Nat.le_refl _) dX4_bringParts_112 hQ ?_
        refine ⟨⟨Sr, hWSr, fun e he y => by rw [eSr, sAddI_ne he, eSl, sAddI_ne he], ?_⟩, frw_12⟩
        unfold gPar gIf
        rw [b2i_1 c70, b2i_1 c92]
        rw [eSr, gadd_eq _ _ (hbp.2 (b2i_1 c92))]
        rw [eSl, gadd_eq _ _ (hbp.1 (b2i_1 c70))]
        try rfl
  have JOIN28 : ∀ ls : Array Slot, lv_has ls 7 [(0, .ref (ad 18)), (1, .int (nI r)), (2, .int (nI k)), (3, .int (nI w)), (4, .int (nI d1)), (5, .int (b2i (gLf r k)))] → W pP l eE (rRm (2) (44) (0) (0)) sS mM aA bB tT cC sS.heap [] (0) (0) Q (F0 mM 28 ls []) := by
    intro ls hl
    refine lv_iload_n hx hb dX4_bringParts_28 rfl (lv_at hl 1 rfl) ?_
    refine lv_iconst (v := 5) hx hb dX4_bringParts_29 (by decide) ?_
    refine lv_icmp_eq (tgt := 61) hx hb dX4_bringParts_30 (by decide) (fun c30 => ?_) (fun c30 => ?_)
    · skip
      refine lv_iconst (v := 1) hx hb dX4_bringParts_61 (by decide) ?_
      refine lv_goto (tgt := 66) hx hb dX4_bringParts_62 (by decide) ?_
      refine r_topi (y := b2i (gRf r k)) (gr_t hr14 hk3 (by first | exact Or.inl c30 | exact Or.inr (Or.inl c36) | exact Or.inr (Or.inr (Or.inl ⟨c42, c47⟩)) | exact Or.inr (Or.inr (Or.inr ⟨c53, c58⟩)))) ?_
      refine lv_istore (lv' := [(6, .int (b2i (gRf r k))), (0, .ref (ad 18)), (1, .int (nI r)), (2, .int (nI k)), (3, .int (nI w)), (4, .int (nI d1)), (5, .int (b2i (gLf r k)))]) hx hb dX4_bringParts_66 hl (by decide) rfl (fun ls hl => ?_)
      exact JOIN68 _ (lv_sub hl [1, 2, 3, 4, 5, 6, 0] rfl)
    · skip
      refine lv_iload_n hx hb dX4_bringParts_33 rfl (lv_at hl 1 rfl) ?_
      refine lv_bipush (v := 7) hx hb dX4_bringParts_34 (by decide) ?_
      refine lv_icmp_eq (tgt := 61) hx hb dX4_bringParts_36 (by decide) (fun c36 => ?_) (fun c36 => ?_)
      · skip
        refine lv_iconst (v := 1) hx hb dX4_bringParts_61 (by decide) ?_
        refine lv_goto (tgt := 66) hx hb dX4_bringParts_62 (by decide) ?_
        refine r_topi (y := b2i (gRf r k)) (gr_t hr14 hk3 (by first | exact Or.inl c30 | exact Or.inr (Or.inl c36) | exact Or.inr (Or.inr (Or.inl ⟨c42, c47⟩)) | exact Or.inr (Or.inr (Or.inr ⟨c53, c58⟩)))) ?_
        refine lv_istore (lv' := [(6, .int (b2i (gRf r k))), (0, .ref (ad 18)), (1, .int (nI r)), (2, .int (nI k)), (3, .int (nI w)), (4, .int (nI d1)), (5, .int (b2i (gLf r k)))]) hx hb dX4_bringParts_66 hl (by decide) rfl (fun ls hl => ?_)
        exact JOIN68 _ (lv_sub hl [1, 2, 3, 4, 5, 6, 0] rfl)
      · skip
        refine lv_iload_n hx hb dX4_bringParts_39 rfl (lv_at hl 1 rfl) ?_
        refine lv_bipush (v := 6) hx hb dX4_bringParts_40 (by decide) ?_
        refine lv_icmp_ne (tgt := 50) hx hb dX4_bringParts_42 (by decide) (fun c42 => ?_) (fun c42 => ?_)
        · skip
          refine lv_iload_n hx hb dX4_bringParts_50 rfl (lv_at hl 1 rfl) ?_
          refine lv_bipush (v := 13) hx hb dX4_bringParts_51 (by decide) ?_
          refine lv_icmp_ne (tgt := 65) hx hb dX4_bringParts_53 (by decide) (fun c53 => ?_) (fun c53 => ?_)
          · skip
            refine lv_iconst (v := 0) hx hb dX4_bringParts_65 (by decide) ?_
            refine r_topi (y := b2i (gRf r k)) (gr_f c30 c36 (by first | exact Or.inl c42 | exact Or.inr c47) (by first | exact Or.inl c53 | exact Or.inr c58)) ?_
            refine lv_istore (lv' := [(6, .int (b2i (gRf r k))), (0, .ref (ad 18)), (1, .int (nI r)), (2, .int (nI k)), (3, .int (nI w)), (4, .int (nI d1)), (5, .int (b2i (gLf r k)))]) hx hb dX4_bringParts_66 hl (by decide) rfl (fun ls hl => ?_)
            exact JOIN68 _ (lv_sub hl [1, 2, 3, 4, 5, 6, 0] rfl)
          · skip
            refine lv_iload_n hx hb dX4_bringParts_56 rfl (lv_at hl 2 rfl) ?_
            refine lv_iconst (v := 2) hx hb dX4_bringParts_57 (by decide) ?_
            refine lv_icmp_ne (tgt := 65) hx hb dX4_bringParts_58 (by decide) (fun c58 => ?_) (fun c58 => ?_)
            · skip
              refine lv_iconst (v := 0) hx hb dX4_bringParts_65 (by decide) ?_
              refine r_topi (y := b2i (gRf r k)) (gr_f c30 c36 (by first | exact Or.inl c42 | exact Or.inr c47) (by first | exact Or.inl c53 | exact Or.inr c58)) ?_
              refine lv_istore (lv' := [(6, .int (b2i (gRf r k))), (0, .ref (ad 18)), (1, .int (nI r)), (2, .int (nI k)), (3, .int (nI w)), (4, .int (nI d1)), (5, .int (b2i (gLf r k)))]) hx hb dX4_bringParts_66 hl (by decide) rfl (fun ls hl => ?_)
              exact JOIN68 _ (lv_sub hl [1, 2, 3, 4, 5, 6, 0] rfl)
            · skip
              refine lv_iconst (v := 1) hx hb dX4_bringParts_61 (by decide) ?_
              refine lv_goto (tgt := 66) hx hb dX4_bringParts_62 (by decide) ?_
              refine r_topi (y := b2i (gRf r k)) (gr_t hr14 hk3 (by first | exact Or.inl c30 | exact Or.inr (Or.inl c36) | exact Or.inr (Or.inr (Or.inl ⟨c42, c47⟩)) | exact Or.inr (Or.inr (Or.inr ⟨c53, c58⟩)))) ?_
              refine lv_istore (lv' := [(6, .int (b2i (gRf r k))), (0, .ref (ad 18)), (1, .int (nI r)), (2, .int (nI k)), (3, .int (nI w)), (4, .int (nI d1)), (5, .int (b2i (gLf r k)))]) hx hb dX4_bringParts_66 hl (by decide) rfl (fun ls hl => ?_)
              exact JOIN68 _ (lv_sub hl [1, 2, 3, 4, 5, 6, 0] rfl)
        · skip
          refine lv_iload_n hx hb dX4_bringParts_45 rfl (lv_at hl 2 rfl) ?_
          refine lv_iconst (v := 2) hx hb dX4_bringParts_46 (by decide) ?_
          refine lv_icmp_eq (tgt := 61) hx hb dX4_bringParts_47 (by decide) (fun c47 => ?_) (fun c47 => ?_)
          · skip
            refine lv_iconst (v := 1) hx hb dX4_bringParts_61 (by decide) ?_
            refine lv_goto (tgt := 66) hx hb dX4_bringParts_62 (by decide) ?_
            refine r_topi (y := b2i (gRf r k)) (gr_t hr14 hk3 (by first | exact Or.inl c30 | exact Or.inr (Or.inl c36) | exact Or.inr (Or.inr (Or.inl ⟨c42, c47⟩)) | exact Or.inr (Or.inr (Or.inr ⟨c53, c58⟩)))) ?_
            refine lv_istore (lv' := [(6, .int (b2i (gRf r k))), (0, .ref (ad 18)), (1, .int (nI r)), (2, .int (nI k)), (3, .int (nI w)), (4, .int (nI d1)), (5, .int (b2i (gLf r k)))]) hx hb dX4_bringParts_66 hl (by decide) rfl (fun ls hl => ?_)
            exact JOIN68 _ (lv_sub hl [1, 2, 3, 4, 5, 6, 0] rfl)
          · skip
            refine lv_iload_n hx hb dX4_bringParts_50 rfl (lv_at hl 1 rfl) ?_
            refine lv_bipush (v := 13) hx hb dX4_bringParts_51 (by decide) ?_
            refine lv_icmp_ne (tgt := 65) hx hb dX4_bringParts_53 (by decide) (fun c53 => ?_) (fun c53 => ?_)
            · skip
              refine lv_iconst (v := 0) hx hb dX4_bringParts_65 (by decide) ?_
              refine r_topi (y := b2i (gRf r k)) (gr_f c30 c36 (by first | exact Or.inl c42 | exact Or.inr c47) (by first | exact Or.inl c53 | exact Or.inr c58)) ?_
              refine lv_istore (lv' := [(6, .int (b2i (gRf r k))), (0, .ref (ad 18)), (1, .int (nI r)), (2, .int (nI k)), (3, .int (nI w)), (4, .int (nI d1)), (5, .int (b2i (gLf r k)))]) hx hb dX4_bringParts_66 hl (by decide) rfl (fun ls hl => ?_)
              exact JOIN68 _ (lv_sub hl [1, 2, 3, 4, 5, 6, 0] rfl)
            · skip
              refine lv_iload_n hx hb dX4_bringParts_56 rfl (lv_at hl 2 rfl) ?_
              refine lv_iconst (v := 2) hx hb dX4_bringParts_57 (by decide) ?_
              refine lv_icmp_ne (tgt := 65) hx hb dX4_bringParts_58 (by decide) (fun c58 => ?_) (fun c58 => ?_)
              · skip
                refine lv_iconst (v := 0) hx hb dX4_bringParts_65 (by decide) ?_
                refine r_topi (y := b2i (gRf r k)) (gr_f c30 c36 (by first | exact Or.inl c42 | exact Or.inr c47) (by first | exact Or.inl c53 | exact Or.inr c58)) ?_
                refine lv_istore (lv' := [(6, .int (b2i (gRf r k))), (0, .ref (ad 18)), (1, .int (nI r)), (2, .int (nI k)), (3, .int (nI w)), (4, .int (nI d1)), (5, .int (b2i (gLf r k)))]) hx hb dX4_bringParts_66 hl (by decide) rfl (fun ls hl => ?_)
                exact JOIN68 _ (lv_sub hl [1, 2, 3, 4, 5, 6, 0] rfl)
              · skip
                refine lv_iconst (v := 1) hx hb dX4_bringParts_61 (by decide) ?_
                refine lv_goto (tgt := 66) hx hb dX4_bringParts_62 (by decide) ?_
                refine r_topi (y := b2i (gRf r k)) (gr_t hr14 hk3 (by first | exact Or.inl c30 | exact Or.inr (Or.inl c36) | exact Or.inr (Or.inr (Or.inl ⟨c42, c47⟩)) | exact Or.inr (Or.inr (Or.inr ⟨c53, c58⟩)))) ?_
                refine lv_istore (lv' := [(6, .int (b2i (gRf r k))), (0, .ref (ad 18)), (1, .int (nI r)), (2, .int (nI k)), (3, .int (nI w)), (4, .int (nI d1)), (5, .int (b2i (gLf r k)))]) hx hb dX4_bringParts_66 hl (by decide) rfl (fun ls hl => ?_)
                exact JOIN68 _ (lv_sub hl [1, 2, 3, 4, 5, 6, 0] rfl)
  refine lv_iload_n hx hb dX4_bringParts_0 rfl (lv_at hl 1 rfl) ?_
  refine lv_iconst (v := 4) hx hb dX4_bringParts_1 (by decide) ?_
  refine lv_icmp_eq (tgt := 21) hx hb dX4_bringParts_2 (by decide) (fun c2 => ?_) (fun c2 => ?_)
  · skip
    refine lv_iconst (v := 1) hx hb dX4_bringParts_21 (by decide) ?_
    refine lv_goto (tgt := 26) hx hb dX4_bringParts_22 (by decide) ?_
    refine r_topi (y := b2i (gLf r k)) (gl_t hr14 hk3 (by first | exact Or.inl c2 | exact Or.inr (Or.inl c7) | exact Or.inr (Or.inr ⟨c13, c18⟩))) ?_
    refine lv_istore (lv' := [(5, .int (b2i (gLf r k))), (0, .ref (ad 18)), (1, .int (nI r)), (2, .int (nI k)), (3, .int (nI w)), (4, .int (nI d1))]) hx hb dX4_bringParts_26 hl (by decide) rfl (fun ls hl => ?_)
    exact JOIN28 _ (lv_sub hl [1, 2, 3, 4, 5, 0] rfl)
  · skip
    refine lv_iload_n hx hb dX4_bringParts_5 rfl (lv_at hl 1 rfl) ?_
    refine lv_iconst (v := 5) hx hb dX4_bringParts_6 (by decide) ?_
    refine lv_icmp_eq (tgt := 21) hx hb dX4_bringParts_7 (by decide) (fun c7 => ?_) (fun c7 => ?_)
    · skip
      refine lv_iconst (v := 1) hx hb dX4_bringParts_21 (by decide) ?_
      refine lv_goto (tgt := 26) hx hb dX4_bringParts_22 (by decide) ?_
      refine r_topi (y := b2i (gLf r k)) (gl_t hr14 hk3 (by first | exact Or.inl c2 | exact Or.inr (Or.inl c7) | exact Or.inr (Or.inr ⟨c13, c18⟩))) ?_
      refine lv_istore (lv' := [(5, .int (b2i (gLf r k))), (0, .ref (ad 18)), (1, .int (nI r)), (2, .int (nI k)), (3, .int (nI w)), (4, .int (nI d1))]) hx hb dX4_bringParts_26 hl (by decide) rfl (fun ls hl => ?_)
      exact JOIN28 _ (lv_sub hl [1, 2, 3, 4, 5, 0] rfl)
    · skip
      refine lv_iload_n hx hb dX4_bringParts_10 rfl (lv_at hl 1 rfl) ?_
      refine lv_bipush (v := 6) hx hb dX4_bringParts_11 (by decide) ?_
      refine lv_icmp_ne (tgt := 25) hx hb dX4_bringParts_13 (by decide) (fun c13 => ?_) (fun c13 => ?_)
      · skip
        refine lv_iconst (v := 0) hx hb dX4_bringParts_25 (by decide) ?_
        refine r_topi (y := b2i (gLf r k)) (gl_f c2 c7 (by first | exact Or.inl c13 | exact Or.inr c18)) ?_
        refine lv_istore (lv' := [(5, .int (b2i (gLf r k))), (0, .ref (ad 18)), (1, .int (nI r)), (2, .int (nI k)), (3, .int (nI w)), (4, .int (nI d1))]) hx hb dX4_bringParts_26 hl (by decide) rfl (fun ls hl => ?_)
        exact JOIN28 _ (lv_sub hl [1, 2, 3, 4, 5, 0] rfl)
      · skip
        refine lv_iload_n hx hb dX4_bringParts_16 rfl (lv_at hl 2 rfl) ?_
        refine lv_iconst (v := 1) hx hb dX4_bringParts_17 (by decide) ?_
        refine lv_icmp_ne (tgt := 25) hx hb dX4_bringParts_18 (by decide) (fun c18 => ?_) (fun c18 => ?_)
        · skip
          refine lv_iconst (v := 0) hx hb dX4_bringParts_25 (by decide) ?_
          refine r_topi (y := b2i (gLf r k)) (gl_f c2 c7 (by first | exact Or.inl c13 | exact Or.inr c18)) ?_
          refine lv_istore (lv' := [(5, .int (b2i (gLf r k))), (0, .ref (ad 18)), (1, .int (nI r)), (2, .int (nI k)), (3, .int (nI w)), (4, .int (nI d1))]) hx hb dX4_bringParts_26 hl (by decide) rfl (fun ls hl => ?_)
          exact JOIN28 _ (lv_sub hl [1, 2, 3, 4, 5, 0] rfl)
        · skip
          refine lv_iconst (v := 1) hx hb dX4_bringParts_21 (by decide) ?_
          refine lv_goto (tgt := 26) hx hb dX4_bringParts_22 (by decide) ?_
          refine r_topi (y := b2i (gLf r k)) (gl_t hr14 hk3 (by first | exact Or.inl c2 | exact Or.inr (Or.inl c7) | exact Or.inr (Or.inr ⟨c13, c18⟩))) ?_
          refine lv_istore (lv' := [(5, .int (b2i (gLf r k))), (0, .ref (ad 18)), (1, .int (nI r)), (2, .int (nI k)), (3, .int (nI w)), (4, .int (nI d1))]) hx hb dX4_bringParts_26 hl (by decide) rfl (fun ls hl => ?_)
          exact JOIN28 _ (lv_sub hl [1, 2, 3, 4, 5, 0] rfl)

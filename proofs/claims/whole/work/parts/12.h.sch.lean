set_option maxHeartbeats 600000 in
set_option maxRecDepth 100000 in
theorem c_X4_bringNew (l : Launch) (G : rG) {n : Nat} {ad : Nat → Nat} {en : Nat → va_E} {ss : List Row} {hw : Nat} {dv : Nat → Int32} {S : Nat → Nat → Bool} {fuel sp : Nat} (hW : SchW G n ad en ss hw dv S fuel sp) {r k f d1 goal : Nat} {Γ : Nat → Bool} (hr14 : r < 14) (hk3 : k < 3) (hd1 : d1 < 82) (hΓ : ∀ y, Γ y = true → 1 ≤ y ∧ y ≤ ss.length) (hwy : wyOK ss Γ goal r f) : CI l G yX4_bringNew uX4_bringNew (4) (134) (bC ss (brg ss r k f).2) (bS ss (brg ss r k f).2) [.ref (ad 18), .int (nI r), .int (nI k), .int (nI f), .int (nI d1)] (n) (n) ad en (bnPost G n ss hw dv S fuel sp d1 ad en (brg ss r k f)) := by
  intro sz
  refine rMet (Qc := qI G (n) (bnPost G n ss hw dv S fuel sp d1 ad en (brg ss r k f))) (cc := cX4_bringNew) (maxL := 12) (ret := (some .boolean)) (by decide) rfl (Nat.le_of_ble_eq_true rfl) ?_
  intro pP eE sS mM aA bB tT cC ls A Q hc hK hsz hA hs hl hQ
  obtain ⟨hx, hb, hr, hts, hown, hlk, hnm, hml⟩ := hc
  have hl : lv_has ls 12 [(0, .ref (ad 18)), (1, .int (nI r)), (2, .int (nI k)), (3, .int (nI f)), (4, .int (nI d1))] := hl
  obtain ⟨hn0, hSt0, hDe0, hGi0, he180⟩ := id hW
  have he30 := hSt0.2.1
  obtain ⟨fs70, he70⟩ := SetsAt_recv hSt0.2.2.2.1
  obtain ⟨fs190, he190⟩ := SetsAt_recv hGi0
  obtain ⟨fs10, he10⟩ := DerAt_recv hDe0
  have hok0 := hSt0.2.2.2.2.2
  have h60 := hok0.1
  have hfl := wy_f hΓ hwy
  obtain ⟨cI, hhC⟩ : ∃ z, z = sL ss (sL ss f) := ⟨_, rfl⟩
  obtain ⟨dI, hhD⟩ : ∃ z, z = sR ss (sL ss f) := ⟨_, rfl⟩
  obtain ⟨eI, hhE⟩ : ∃ z, z = sR ss f := ⟨_, rfl⟩
  have hbl : ss.length ≤ (brg ss r k f).2.length := by
    obtain ⟨y, e⟩ := (brg_ok (k := k) hok0 hΓ hwy (o := (brg ss r k f).1) (ss1 := (brg ss r k f).2) rfl).1
    rw [e]; simp
  obtain ⟨hbC, hbS⟩ := bC_eq hbl
  have hpar : (r = 9 ∨ r = 10 ∨ r = 13) → (1 ≤ cI ∧ cI ≤ ss.length) ∧ (1 ≤ dI ∧ dI ≤ ss.length) ∧ (1 ≤ eI ∧ eI ≤ ss.length) := by
    intro q
    have hs : sSort ss f = 4 ∧ 2 ≤ sSort ss (sL ss f) := by unfold wyOK at hwy; omega
    obtain ⟨pl, pr⟩ := parts_of hok0 (hΓ f (wy_G hwy (by omega))) (by omega)
    obtain ⟨pc, pd⟩ := parts_of hok0 pl hs.2
    rw [hhC, hhD, hhE]
    exact ⟨pc, pd, pr⟩
  refine lv_aload_n hx hb dX4_bringNew_0 rfl (lv_at hl 0 rfl) ?_
  refine r_get (ci := 4) (v := .ref (ad 3)) (C := RX4) (T := TX4) (N := 5) hx hb hts inlX4 hown hK hs (18) (by omega) he180 rfl 0 (by decide) (hts _ w_fl_RX4_27) rfl dX4_bringNew_1 ?_
  refine lv_iload_n hx hb dX4_bringNew_4 rfl (lv_at hl 3 rfl) ?_
  refine r_callViR (ci := 6) (As := [.int (nI f)]) hx hb hml hown hts hK hA hs (3) (by omega) he30 rfl rfl (c_X6_leftOfN l G hSt0 f (by omega)) (cwV 1 hts (tbV w_ml_RX4_131 w_im_yX6_leftOf w_se_yX6_leftOf w_ini_RX6 w_cd_yX6_leftOf) rfl rfl rfl (by decide +kernel) ⟨Nat.le_of_ble_eq_true rfl, Nat.le_of_ble_eq_true rfl⟩) rfl hl.1 rfl (Nat.le_of_ble_eq_true rfl) dX4_bringNew_5 ⟨Nat.zero_le _, Nat.zero_le _⟩ (fun H locs hs => ?_)
  refine lv_istore (lv' := [(5, .int (nI (sL ss f))), (0, .ref (ad 18)), (1, .int (nI r)), (2, .int (nI k)), (3, .int (nI f)), (4, .int (nI d1))]) hx hb dX4_bringNew_8 hl (by decide) rfl (fun ls hl => ?_)
  refine lv_aload_n hx hb dX4_bringNew_10 rfl (lv_at hl 1 rfl) ?_
  refine r_get (ci := 4) (v := .ref (ad 3)) (C := RX4) (T := TX4) (N := 5) hx hb hts inlX4 hown hK hs (18) (by omega) he180 rfl 0 (by decide) (hts _ w_fl_RX4_27) rfl dX4_bringNew_11 ?_
  refine lv_iload hx hb dX4_bringNew_14 (lv_at hl 0 rfl) ?_
  refine r_callViR (ci := 6) (As := [.int (nI (sL ss f))]) hx hb hml hown hts hK hA hs (3) (by omega) he30 rfl rfl (c_X6_leftOfN l G hSt0 (sL ss f) ((sLR_lt2 hok0 _).1)) (cwV 1 hts (tbV w_ml_RX4_131 w_im_yX6_leftOf w_se_yX6_leftOf w_ini_RX6 w_cd_yX6_leftOf) rfl rfl rfl (by decide +kernel) ⟨Nat.le_of_ble_eq_true rfl, Nat.le_of_ble_eq_true rfl⟩) rfl hl.1 rfl (Nat.le_of_ble_eq_true rfl) dX4_bringNew_16 ⟨Nat.zero_le _, Nat.zero_le _⟩ (fun H locs hs => ?_)
  refine r_topi (y := nI cI) (by rw [hhC]) ?_
  refine lv_istore (lv' := [(6, .int (nI cI)), (5, .int (nI (sL ss f))), (0, .ref (ad 18)), (1, .int (nI r)), (2, .int (nI k)), (3, .int (nI f)), (4, .int (nI d1))]) hx hb dX4_bringNew_19 hl (by decide) rfl (fun ls hl => ?_)
  refine lv_aload_n hx hb dX4_bringNew_21 rfl (lv_at hl 2 rfl) ?_
  refine r_get (ci := 4) (v := .ref (ad 3)) (C := RX4) (T := TX4) (N := 5) hx hb hts inlX4 hown hK hs (18) (by omega) he180 rfl 0 (by decide) (hts _ w_fl_RX4_27) rfl dX4_bringNew_22 ?_
  refine lv_iload hx hb dX4_bringNew_25 (lv_at hl 1 rfl) ?_
  refine r_callViR (ci := 6) (As := [.int (nI (sL ss f))]) hx hb hml hown hts hK hA hs (3) (by omega) he30 rfl rfl (c_X6_rightOfN l G hSt0 (sL ss f) ((sLR_lt2 hok0 _).1)) (cwV 1 hts (tbV w_ml_RX4_134 w_im_yX6_rightOf w_se_yX6_rightOf w_ini_RX6 w_cd_yX6_rightOf) rfl rfl rfl (by decide +kernel) ⟨Nat.le_of_ble_eq_true rfl, Nat.le_of_ble_eq_true rfl⟩) rfl hl.1 rfl (Nat.le_of_ble_eq_true rfl) dX4_bringNew_27 ⟨Nat.zero_le _, Nat.zero_le _⟩ (fun H locs hs => ?_)
  refine r_topi (y := nI dI) (by rw [hhD]) ?_
  refine lv_istore (lv' := [(7, .int (nI dI)), (6, .int (nI cI)), (5, .int (nI (sL ss f))), (0, .ref (ad 18)), (1, .int (nI r)), (2, .int (nI k)), (3, .int (nI f)), (4, .int (nI d1))]) hx hb dX4_bringNew_30 hl (by decide) rfl (fun ls hl => ?_)
  refine lv_aload_n hx hb dX4_bringNew_32 rfl (lv_at hl 3 rfl) ?_
  refine r_get (ci := 4) (v := .ref (ad 3)) (C := RX4) (T := TX4) (N := 5) hx hb hts inlX4 hown hK hs (18) (by omega) he180 rfl 0 (by decide) (hts _ w_fl_RX4_27) rfl dX4_bringNew_33 ?_
  refine lv_iload_n hx hb dX4_bringNew_36 rfl (lv_at hl 6 rfl) ?_
  refine r_callViR (ci := 6) (As := [.int (nI f)]) hx hb hml hown hts hK hA hs (3) (by omega) he30 rfl rfl (c_X6_rightOfN l G hSt0 f (by omega)) (cwV 1 hts (tbV w_ml_RX4_134 w_im_yX6_rightOf w_se_yX6_rightOf w_ini_RX6 w_cd_yX6_rightOf) rfl rfl rfl (by decide +kernel) ⟨Nat.le_of_ble_eq_true rfl, Nat.le_of_ble_eq_true rfl⟩) rfl hl.1 rfl (Nat.le_of_ble_eq_true rfl) dX4_bringNew_37 ⟨Nat.zero_le _, Nat.zero_le _⟩ (fun H locs hs => ?_)
  refine r_topi (y := nI eI) (by rw [hhE]) ?_
  refine lv_istore (lv' := [(8, .int (nI eI)), (7, .int (nI dI)), (6, .int (nI cI)), (5, .int (nI (sL ss f))), (0, .ref (ad 18)), (1, .int (nI r)), (2, .int (nI k)), (3, .int (nI f)), (4, .int (nI d1))]) hx hb dX4_bringNew_40 hl (by decide) rfl (fun ls hl => ?_)
  refine lv_iconst (v := 0) hx hb dX4_bringNew_42 (by decide) ?_
  refine lv_istore (lv' := [(9, .int (0)), (8, .int (nI eI)), (7, .int (nI dI)), (6, .int (nI cI)), (5, .int (nI (sL ss f))), (0, .ref (ad 18)), (1, .int (nI r)), (2, .int (nI k)), (3, .int (nI f)), (4, .int (nI d1))]) hx hb dX4_bringNew_43 hl (by decide) rfl (fun ls hl => ?_)
  refine lv_iconst (v := 0) hx hb dX4_bringNew_45 (by decide) ?_
  refine lv_istore (lv' := [(10, .int (0)), (9, .int (0)), (8, .int (nI eI)), (7, .int (nI dI)), (6, .int (nI cI)), (5, .int (nI (sL ss f))), (0, .ref (ad 18)), (1, .int (nI r)), (2, .int (nI k)), (3, .int (nI f)), (4, .int (nI d1))]) hx hb dX4_bringNew_46 hl (by decide) rfl (fun ls hl => ?_)
  refine lv_iload_n hx hb dX4_bringNew_48 rfl (lv_at hl 7 rfl) ?_
  refine lv_bipush (v := 9) hx hb dX4_bringNew_49 (by decide) ?_
  refine lv_icmp_ne (tgt := 97) hx hb dX4_bringNew_51 (by decide) (fun c51 => ?_) (fun c51 => ?_)
  · skip
    have h9 : ¬ r = 9 := fun q => c51 (by rw [q]; rfl)
    refine lv_iload_n hx hb dX4_bringNew_97 rfl (lv_at hl 7 rfl) ?_
    refine lv_bipush (v := 10) hx hb dX4_bringNew_98 (by decide) ?_
    refine lv_icmp_ne (tgt := 146) hx hb dX4_bringNew_100 (by decide) (fun c100 => ?_) (fun c100 => ?_)
    · skip
      have h10 : ¬ r = 10 := fun q => c100 (by rw [q]; rfl)
      refine lv_iload_n hx hb dX4_bringNew_146 rfl (lv_at hl 7 rfl) ?_
      refine lv_bipush (v := 13) hx hb dX4_bringNew_147 (by decide) ?_
      refine lv_icmp_ne (tgt := 171) hx hb dX4_bringNew_149 (by decide) (fun c149 => ?_) (fun c149 => ?_)
      · skip
        have h13 : ¬ (r = 13 ∧ k = 1) := fun q => c149 (by rw [q.1]; rfl)
        refine lv_aload_n hx hb dX4_bringNew_171 rfl (lv_at hl 6 rfl) ?_
        refine r_get (ci := 4) (v := .ref (ad 19)) (C := RX4) (T := TX4) (N := 5) hx hb hts inlX4 hown hK hs (18) (by omega) he180 rfl 2 (by decide) (hts _ w_fl_RX4_14) rfl dX4_bringNew_172 ?_
        refine lv_iload hx hb dX4_bringNew_175 (lv_at hl 10 rfl) ?_
        refine lv_iload hx hb dX4_bringNew_177 (lv_at hl 1 rfl) ?_
        refine r_callVv (ci := 5) (As := [.int (nI d1), .int (0)]) hx hb hml hown hts hK hA hs (19) (by omega) he190 rfl rfl (c_X5_add l G hGi0 (row := d1) (by omega) (0)) (cwV 2 hts (tbV w_ml_RX4_140 w_im_yX5_add w_se_yX5_add w_ini_RX5 w_cd_yX5_add) rfl rfl rfl (by decide +kernel) ⟨Nat.le_of_ble_eq_true rfl, Nat.le_of_ble_eq_true rfl⟩) rfl hl.1 rfl (Nat.le_of_ble_eq_true rfl) dX4_bringNew_179 ⟨by show _ ≤ bC ss (brg ss r k f).2; omega, by show _ ≤ bS ss (brg ss r k f).2; omega⟩ (fun ad_1 en_2 H locs hp_3 hs => ?_)
        obtain ⟨hsSa, hfSa⟩ := hp_3
        obtain ⟨Sa, eSa⟩ : ∃ z, z = sAddI S d1 (0) := ⟨_, rfl⟩
        rw [← eSa] at hsSa
        obtain ⟨hWSa, hFSa⟩ := SchW_gi hW hsSa hfSa
        obtain ⟨hnw_4, hStw_4, hDew_4, hGiw_4, he18w_4⟩ := id hWSa
        have he3w_4 := hStw_4.2.1
        obtain ⟨fs7w_4, he7w_4⟩ := SetsAt_recv hStw_4.2.2.2.1
        obtain ⟨fs19w_4, he19w_4⟩ := SetsAt_recv hGiw_4
        obtain ⟨fs1w_4, he1w_4⟩ := DerAt_recv hDew_4
        have hokw_4 := hStw_4.2.2.2.2.2
        have h6w_4 := hokw_4.1
        have frw_4 := Fr_tr Fr_rf hFSa
        have hl : lv_has ls 12 [(10, .int (0)), (9, .int (0)), (8, .int (nI eI)), (7, .int (nI dI)), (6, .int (nI cI)), (5, .int (nI (sL ss f))), (0, .ref (ad_1 18)), (1, .int (nI r)), (2, .int (nI k)), (3, .int (nI f)), (4, .int (nI d1))] := by rw [hFSa.1 18 (by omega) (by unfold scA; omega)]; exact hl
        refine lv_aload_n hx hb dX4_bringNew_182 rfl (lv_at hl 6 rfl) ?_
        refine r_get (ci := 4) (v := .ref (ad_1 19)) (C := RX4) (T := TX4) (N := 5) hx hb hts inlX4 hown hK hs (18) (by omega) he18w_4 rfl 2 (by decide) (hts _ w_fl_RX4_14) rfl dX4_bringNew_183 ?_
        refine lv_iload hx hb dX4_bringNew_186 (lv_at hl 10 rfl) ?_
        refine lv_iload hx hb dX4_bringNew_188 (lv_at hl 0 rfl) ?_
        refine r_callVv (ci := 5) (As := [.int (nI d1), .int (0)]) hx hb hml hown hts hK hA hs (19) (by omega) he19w_4 rfl rfl (c_X5_add l G hGiw_4 (row := d1) (by omega) (0)) (cwV 2 hts (tbV w_ml_RX4_140 w_im_yX5_add w_se_yX5_add w_ini_RX5 w_cd_yX5_add) rfl rfl rfl (by decide +kernel) ⟨Nat.le_of_ble_eq_true rfl, Nat.le_of_ble_eq_true rfl⟩) rfl hl.1 rfl (Nat.le_of_ble_eq_true rfl) dX4_bringNew_190 ⟨by show _ ≤ bC ss (brg ss r k f).2; omega, by show _ ≤ bS ss (brg ss r k f).2; omega⟩ (fun ad_5 en_6 H locs hp_7 hs => ?_)
        obtain ⟨hsSb, hfSb⟩ := hp_7
        obtain ⟨Sb, eSb⟩ : ∃ z, z = sAddI Sa d1 (0) := ⟨_, rfl⟩
        rw [← eSb] at hsSb
        obtain ⟨hWSb, hFSb⟩ := SchW_gi hWSa hsSb hfSb
        obtain ⟨hnw_8, hStw_8, hDew_8, hGiw_8, he18w_8⟩ := id hWSb
        have he3w_8 := hStw_8.2.1
        obtain ⟨fs7w_8, he7w_8⟩ := SetsAt_recv hStw_8.2.2.2.1
        obtain ⟨fs19w_8, he19w_8⟩ := SetsAt_recv hGiw_8
        obtain ⟨fs1w_8, he1w_8⟩ := DerAt_recv hDew_8
        have hokw_8 := hStw_8.2.2.2.2.2
        have h6w_8 := hokw_8.1
        have frw_8 := Fr_tr frw_4 hFSb
        have hl : lv_has ls 12 [(10, .int (0)), (9, .int (0)), (8, .int (nI eI)), (7, .int (nI dI)), (6, .int (nI cI)), (5, .int (nI (sL ss f))), (0, .ref (ad_5 18)), (1, .int (nI r)), (2, .int (nI k)), (3, .int (nI f)), (4, .int (nI d1))] := by rw [hFSb.1 18 (by omega) (by unfold scA; omega)]; exact hl
        refine lv_iload hx hb dX4_bringNew_193 (lv_at hl 1 rfl) ?_
        refine lv_bipush (v := (-3)) hx hb dX4_bringNew_195 (by decide) ?_
        refine lv_icmp_eq (tgt := 211) hx hb dX4_bringNew_197 (by decide) (fun c197 => absurd c197 (by decide)) (fun _ => ?_)
        refine lv_iload hx hb dX4_bringNew_200 (lv_at hl 0 rfl) ?_
        refine lv_bipush (v := (-3)) hx hb dX4_bringNew_202 (by decide) ?_
        refine lv_icmp_eq (tgt := 211) hx hb dX4_bringNew_204 (by decide) (fun c204 => absurd c204 (by decide)) (fun _ => ?_)
        refine lv_iconst (v := 1) hx hb dX4_bringNew_207 (by decide) ?_
        refine lv_goto (tgt := 212) hx hb dX4_bringNew_208 (by decide) ?_
        refine r_zret (v := 1) (mc := bC ss (brg ss r k f).2) (ms := bS ss (brg ss r k f).2) hx hb hr hlk hs (by omega) (by omega) dX4_bringNew_212 ?_ hQ ?_
        · first | exact Or.inl rfl | exact Or.inr rfl | exact b2i_z _
        have hB := brgx (ss := ss) (f := f) (k := k) h9 h10 h13
        have hbk := brg_ok hok0 hΓ hwy (k := k) hB
        have hb6 := hbk.2.1.1
        have hb7 := hbk.2.2 _ rfl
        exact bn_so (ss := ss) hB ⟨Nat.le_trans hb7.1 hb6, Nat.le_trans hb7.2.1 hb6⟩ hWSb eSa eSb rfl rfl frw_8
      · skip
        refine lv_iload_n hx hb dX4_bringNew_152 rfl (lv_at hl 8 rfl) ?_
        refine lv_iconst (v := 1) hx hb dX4_bringNew_153 (by decide) ?_
        refine lv_icmp_ne (tgt := 171) hx hb dX4_bringNew_154 (by decide) (fun c154 => ?_) (fun c154 => ?_)
        · skip
          have h13 : ¬ (r = 13 ∧ k = 1) := fun q => c154 (by rw [q.2]; rfl)
          refine lv_aload_n hx hb dX4_bringNew_171 rfl (lv_at hl 6 rfl) ?_
          refine r_get (ci := 4) (v := .ref (ad 19)) (C := RX4) (T := TX4) (N := 5) hx hb hts inlX4 hown hK hs (18) (by omega) he180 rfl 2 (by decide) (hts _ w_fl_RX4_14) rfl dX4_bringNew_172 ?_
          refine lv_iload hx hb dX4_bringNew_175 (lv_at hl 10 rfl) ?_
          refine lv_iload hx hb dX4_bringNew_177 (lv_at hl 1 rfl) ?_
          refine r_callVv (ci := 5) (As := [.int (nI d1), .int (0)]) hx hb hml hown hts hK hA hs (19) (by omega) he190 rfl rfl (c_X5_add l G hGi0 (row := d1) (by omega) (0)) (cwV 2 hts (tbV w_ml_RX4_140 w_im_yX5_add w_se_yX5_add w_ini_RX5 w_cd_yX5_add) rfl rfl rfl (by decide +kernel) ⟨Nat.le_of_ble_eq_true rfl, Nat.le_of_ble_eq_true rfl⟩) rfl hl.1 rfl (Nat.le_of_ble_eq_true rfl) dX4_bringNew_179 ⟨by show _ ≤ bC ss (brg ss r k f).2; omega, by show _ ≤ bS ss (brg ss r k f).2; omega⟩ (fun ad_9 en_10 H locs hp_11 hs => ?_)
          obtain ⟨hsSa, hfSa⟩ := hp_11
          obtain ⟨Sa, eSa⟩ : ∃ z, z = sAddI S d1 (0) := ⟨_, rfl⟩
          rw [← eSa] at hsSa
          obtain ⟨hWSa, hFSa⟩ := SchW_gi hW hsSa hfSa
          obtain ⟨hnw_12, hStw_12, hDew_12, hGiw_12, he18w_12⟩ := id hWSa
          have he3w_12 := hStw_12.2.1
          obtain ⟨fs7w_12, he7w_12⟩ := SetsAt_recv hStw_12.2.2.2.1
          obtain ⟨fs19w_12, he19w_12⟩ := SetsAt_recv hGiw_12
          obtain ⟨fs1w_12, he1w_12⟩ := DerAt_recv hDew_12
          have hokw_12 := hStw_12.2.2.2.2.2
          have h6w_12 := hokw_12.1
          have frw_12 := Fr_tr Fr_rf hFSa
          have hl : lv_has ls 12 [(10, .int (0)), (9, .int (0)), (8, .int (nI eI)), (7, .int (nI dI)), (6, .int (nI cI)), (5, .int (nI (sL ss f))), (0, .ref (ad_9 18)), (1, .int (nI r)), (2, .int (nI k)), (3, .int (nI f)), (4, .int (nI d1))] := by rw [hFSa.1 18 (by omega) (by unfold scA; omega)]; exact hl
          refine lv_aload_n hx hb dX4_bringNew_182 rfl (lv_at hl 6 rfl) ?_
          refine r_get (ci := 4) (v := .ref (ad_9 19)) (C := RX4) (T := TX4) (N := 5) hx hb hts inlX4 hown hK hs (18) (by omega) he18w_12 rfl 2 (by decide) (hts _ w_fl_RX4_14) rfl dX4_bringNew_183 ?_
          refine lv_iload hx hb dX4_bringNew_186 (lv_at hl 10 rfl) ?_
          refine lv_iload hx hb dX4_bringNew_188 (lv_at hl 0 rfl) ?_
          refine r_callVv (ci := 5) (As := [.int (nI d1), .int (0)]) hx hb hml hown hts hK hA hs (19) (by omega) he19w_12 rfl rfl (c_X5_add l G hGiw_12 (row := d1) (by omega) (0)) (cwV 2 hts (tbV w_ml_RX4_140 w_im_yX5_add w_se_yX5_add w_ini_RX5 w_cd_yX5_add) rfl rfl rfl (by decide +kernel) ⟨Nat.le_of_ble_eq_true rfl, Nat.le_of_ble_eq_true rfl⟩) rfl hl.1 rfl (Nat.le_of_ble_eq_true rfl) dX4_bringNew_190 ⟨by show _ ≤ bC ss (brg ss r k f).2; omega, by show _ ≤ bS ss (brg ss r k f).2; omega⟩ (fun ad_13 en_14 H locs hp_15 hs => ?_)
          obtain ⟨hsSb, hfSb⟩ := hp_15
          obtain ⟨Sb, eSb⟩ : ∃ z, z = sAddI Sa d1 (0) := ⟨_, rfl⟩
          rw [← eSb] at hsSb
          obtain ⟨hWSb, hFSb⟩ := SchW_gi hWSa hsSb hfSb
          obtain ⟨hnw_16, hStw_16, hDew_16, hGiw_16, he18w_16⟩ := id hWSb
          have he3w_16 := hStw_16.2.1
          obtain ⟨fs7w_16, he7w_16⟩ := SetsAt_recv hStw_16.2.2.2.1
          obtain ⟨fs19w_16, he19w_16⟩ := SetsAt_recv hGiw_16
          obtain ⟨fs1w_16, he1w_16⟩ := DerAt_recv hDew_16
          have hokw_16 := hStw_16.2.2.2.2.2
          have h6w_16 := hokw_16.1
          have frw_16 := Fr_tr frw_12 hFSb
          have hl : lv_has ls 12 [(10, .int (0)), (9, .int (0)), (8, .int (nI eI)), (7, .int (nI dI)), (6, .int (nI cI)), (5, .int (nI (sL ss f))), (0, .ref (ad_13 18)), (1, .int (nI r)), (2, .int (nI k)), (3, .int (nI f)), (4, .int (nI d1))] := by rw [hFSb.1 18 (by omega) (by unfold scA; omega)]; exact hl
          refine lv_iload hx hb dX4_bringNew_193 (lv_at hl 1 rfl) ?_
          refine lv_bipush (v := (-3)) hx hb dX4_bringNew_195 (by decide) ?_
          refine lv_icmp_eq (tgt := 211) hx hb dX4_bringNew_197 (by decide) (fun c197 => absurd c197 (by decide)) (fun _ => ?_)
          refine lv_iload hx hb dX4_bringNew_200 (lv_at hl 0 rfl) ?_
          refine lv_bipush (v := (-3)) hx hb dX4_bringNew_202 (by decide) ?_
          refine lv_icmp_eq (tgt := 211) hx hb dX4_bringNew_204 (by decide) (fun c204 => absurd c204 (by decide)) (fun _ => ?_)
          refine lv_iconst (v := 1) hx hb dX4_bringNew_207 (by decide) ?_
          refine lv_goto (tgt := 212) hx hb dX4_bringNew_208 (by decide) ?_
          refine r_zret (v := 1) (mc := bC ss (brg ss r k f).2) (ms := bS ss (brg ss r k f).2) hx hb hr hlk hs (by omega) (by omega) dX4_bringNew_212 ?_ hQ ?_
          · first | exact Or.inl rfl | exact Or.inr rfl | exact b2i_z _
          have hB := brgx (ss := ss) (f := f) (k := k) h9 h10 h13
          have hbk := brg_ok hok0 hΓ hwy (k := k) hB
          have hb6 := hbk.2.1.1
          have hb7 := hbk.2.2 _ rfl
          exact bn_so (ss := ss) hB ⟨Nat.le_trans hb7.1 hb6, Nat.le_trans hb7.2.1 hb6⟩ hWSb eSa eSb rfl rfl frw_16
        · skip
          have h13 : r = 13 ∧ k = 1 := ⟨sw_nI c149 rfl (by omega) (by decide), sw_nI c154 rfl (by omega) (by decide)⟩
          refine lv_aload_n hx hb dX4_bringNew_157 rfl (lv_at hl 6 rfl) ?_
          refine r_get (ci := 4) (v := .ref (ad 3)) (C := RX4) (T := TX4) (N := 5) hx hb hts inlX4 hown hK hs (18) (by omega) he180 rfl 0 (by decide) (hts _ w_fl_RX4_27) rfl dX4_bringNew_158 ?_
          refine lv_iconst (v := 4) hx hb dX4_bringNew_161 (by decide) ?_
          refine lv_iload hx hb dX4_bringNew_162 (lv_at hl 3 rfl) ?_
          refine lv_iload hx hb dX4_bringNew_164 (lv_at hl 2 rfl) ?_
          obtain ⟨he1, hg1, hn1⟩ := mC_eq ss dI eI
          have hm1 := brg13_le (k := k) hhC hhD hhE h13
          have hm2 := kC_mono hm1
          have hm3 := kS_mono hm1
          refine r_callVi (ci := 6) (As := [.int (4), .int (nI dI), .int (nI eI)]) hx hb hml hown hts hK hA hs (3) (by omega) he30 rfl rfl (c_X6_make l G hSt0 (s1 := 4) (l1 := dI) (r1 := eI) (by have := hpar (by omega); exact ⟨rfl, Or.inr (Or.inr ⟨(by decide : 2 ≤ 4), (by decide : 4 ≤ 4), by show 1 ≤ dI; omega, by show dI < _; omega, by show 1 ≤ eI; omega, by show eI < _; omega⟩)⟩)) (cwV 3 hts (tbV w_ml_RX4_137 w_im_yX6_make w_se_yX6_make w_ini_RX6 w_cd_yX6_make) rfl rfl rfl (by decide +kernel) ⟨Nat.le_of_ble_eq_true rfl, Nat.le_of_ble_eq_true rfl⟩) rfl hl.1 rfl (Nat.le_of_ble_eq_true rfl) dX4_bringNew_166 ⟨by show _ ≤ bC ss (brg ss r k f).2; omega, by show _ ≤ bS ss (brg ss r k f).2; omega⟩ (fun r_20 ad_17 en_18 H locs hp_19 hs => ?_)
          obtain ⟨hr1, hs1, hf1⟩ := hp_19
          obtain ⟨hW1, hF1⟩ := SchW_st hW hs1 hf1
          have hW1 : SchW G n ad_17 en_18 (impT ss dI eI) hw dv S fuel sp := hW1
          obtain ⟨o1, hq1⟩ : ∃ o, impS ss dI eI = o := ⟨_, rfl⟩
          have hl1 := impS_lt (a := dI) (b := eI) h60
          rw [hq1] at hl1
          rw [show r_20 = aR o1 from hr1.trans ((impS_r _ _ _).trans (by rw [hq1]))]
          obtain ⟨hnw_21, hStw_21, hDew_21, hGiw_21, he18w_21⟩ := id hW1
          have he3w_21 := hStw_21.2.1
          obtain ⟨fs7w_21, he7w_21⟩ := SetsAt_recv hStw_21.2.2.2.1
          obtain ⟨fs19w_21, he19w_21⟩ := SetsAt_recv hGiw_21
          obtain ⟨fs1w_21, he1w_21⟩ := DerAt_recv hDew_21
          have hokw_21 := hStw_21.2.2.2.2.2
          have h6w_21 := hokw_21.1
          have frw_21 := Fr_tr Fr_rf hF1
          have hl : lv_has ls 12 [(10, .int (0)), (9, .int (0)), (8, .int (nI eI)), (7, .int (nI dI)), (6, .int (nI cI)), (5, .int (nI (sL ss f))), (0, .ref (ad_17 18)), (1, .int (nI r)), (2, .int (nI k)), (3, .int (nI f)), (4, .int (nI d1))] := by rw [hF1.1 18 (by omega) (by unfold scA; omega)]; exact hl
          refine lv_istore (lv' := [(9, .int (aR o1)), (10, .int (0)), (8, .int (nI eI)), (7, .int (nI dI)), (6, .int (nI cI)), (5, .int (nI (sL ss f))), (0, .ref (ad_17 18)), (1, .int (nI r)), (2, .int (nI k)), (3, .int (nI f)), (4, .int (nI d1))]) hx hb dX4_bringNew_169 hl (by decide) rfl (fun ls hl => ?_)
          refine lv_aload_n hx hb dX4_bringNew_171 rfl (lv_at hl 6 rfl) ?_
          refine r_get (ci := 4) (v := .ref (ad_17 19)) (C := RX4) (T := TX4) (N := 5) hx hb hts inlX4 hown hK hs (18) (by omega) he18w_21 rfl 2 (by decide) (hts _ w_fl_RX4_14) rfl dX4_bringNew_172 ?_
          refine lv_iload hx hb dX4_bringNew_175 (lv_at hl 10 rfl) ?_
          refine lv_iload hx hb dX4_bringNew_177 (lv_at hl 0 rfl) ?_
          refine r_callVv (ci := 5) (As := [.int (nI d1), .int (aR o1)]) hx hb hml hown hts hK hA hs (19) (by omega) he19w_21 rfl rfl (c_X5_add l G hGiw_21 (row := d1) (by omega) (aR o1)) (cwV 2 hts (tbV w_ml_RX4_140 w_im_yX5_add w_se_yX5_add w_ini_RX5 w_cd_yX5_add) rfl rfl rfl (by decide +kernel) ⟨Nat.le_of_ble_eq_true rfl, Nat.le_of_ble_eq_true rfl⟩) rfl hl.1 rfl (Nat.le_of_ble_eq_true rfl) dX4_bringNew_179 ⟨by show _ ≤ bC ss (brg ss r k f).2; omega, by show _ ≤ bS ss (brg ss r k f).2; omega⟩ (fun ad_22 en_23 H locs hp_24 hs => ?_)
          obtain ⟨hsSa, hfSa⟩ := hp_24
          obtain ⟨Sa, eSa⟩ : ∃ z, z = sAddI S d1 (aR o1) := ⟨_, rfl⟩
          rw [← eSa] at hsSa
          obtain ⟨hWSa, hFSa⟩ := SchW_gi hW1 hsSa hfSa
          obtain ⟨hnw_25, hStw_25, hDew_25, hGiw_25, he18w_25⟩ := id hWSa
          have he3w_25 := hStw_25.2.1
          obtain ⟨fs7w_25, he7w_25⟩ := SetsAt_recv hStw_25.2.2.2.1
          obtain ⟨fs19w_25, he19w_25⟩ := SetsAt_recv hGiw_25
          obtain ⟨fs1w_25, he1w_25⟩ := DerAt_recv hDew_25
          have hokw_25 := hStw_25.2.2.2.2.2
          have h6w_25 := hokw_25.1
          have frw_25 := Fr_tr frw_21 hFSa
          have hl : lv_has ls 12 [(9, .int (aR o1)), (10, .int (0)), (8, .int (nI eI)), (7, .int (nI dI)), (6, .int (nI cI)), (5, .int (nI (sL ss f))), (0, .ref (ad_22 18)), (1, .int (nI r)), (2, .int (nI k)), (3, .int (nI f)), (4, .int (nI d1))] := by rw [hFSa.1 18 (by omega) (by unfold scA; omega)]; exact hl
          refine lv_aload_n hx hb dX4_bringNew_182 rfl (lv_at hl 6 rfl) ?_
          refine r_get (ci := 4) (v := .ref (ad_22 19)) (C := RX4) (T := TX4) (N := 5) hx hb hts inlX4 hown hK hs (18) (by omega) he18w_25 rfl 2 (by decide) (hts _ w_fl_RX4_14) rfl dX4_bringNew_183 ?_
          refine lv_iload hx hb dX4_bringNew_186 (lv_at hl 10 rfl) ?_
          refine lv_iload hx hb dX4_bringNew_188 (lv_at hl 1 rfl) ?_
          refine r_callVv (ci := 5) (As := [.int (nI d1), .int (0)]) hx hb hml hown hts hK hA hs (19) (by omega) he19w_25 rfl rfl (c_X5_add l G hGiw_25 (row := d1) (by omega) (0)) (cwV 2 hts (tbV w_ml_RX4_140 w_im_yX5_add w_se_yX5_add w_ini_RX5 w_cd_yX5_add) rfl rfl rfl (by decide +kernel) ⟨Nat.le_of_ble_eq_true rfl, Nat.le_of_ble_eq_true rfl⟩) rfl hl.1 rfl (Nat.le_of_ble_eq_true rfl) dX4_bringNew_190 ⟨by show _ ≤ bC ss (brg ss r k f).2; omega, by show _ ≤ bS ss (brg ss r k f).2; omega⟩ (fun ad_26 en_27 H locs hp_28 hs => ?_)
          obtain ⟨hsSb, hfSb⟩ := hp_28
          obtain ⟨Sb, eSb⟩ : ∃ z, z = sAddI Sa d1 (0) := ⟨_, rfl⟩
          rw [← eSb] at hsSb
          obtain ⟨hWSb, hFSb⟩ := SchW_gi hWSa hsSb hfSb
          obtain ⟨hnw_29, hStw_29, hDew_29, hGiw_29, he18w_29⟩ := id hWSb
          have he3w_29 := hStw_29.2.1
          obtain ⟨fs7w_29, he7w_29⟩ := SetsAt_recv hStw_29.2.2.2.1
          obtain ⟨fs19w_29, he19w_29⟩ := SetsAt_recv hGiw_29
          obtain ⟨fs1w_29, he1w_29⟩ := DerAt_recv hDew_29
          have hokw_29 := hStw_29.2.2.2.2.2
          have h6w_29 := hokw_29.1
          have frw_29 := Fr_tr frw_25 hFSb
          have hl : lv_has ls 12 [(9, .int (aR o1)), (10, .int (0)), (8, .int (nI eI)), (7, .int (nI dI)), (6, .int (nI cI)), (5, .int (nI (sL ss f))), (0, .ref (ad_26 18)), (1, .int (nI r)), (2, .int (nI k)), (3, .int (nI f)), (4, .int (nI d1))] := by rw [hFSb.1 18 (by omega) (by unfold scA; omega)]; exact hl
          refine lv_iload hx hb dX4_bringNew_193 (lv_at hl 0 rfl) ?_
          refine lv_bipush (v := (-3)) hx hb dX4_bringNew_195 (by decide) ?_
          refine lv_icmp_eq (tgt := 211) hx hb dX4_bringNew_197 (by decide) (fun c197 => ?_) (fun c197 => ?_)
          · skip
            have hnn : o1 = none := aR_no hl1 c197
            refine lv_iconst (v := 0) hx hb dX4_bringNew_211 (by decide) ?_
            refine r_zret (v := 0) (mc := bC ss (brg ss r k f).2) (ms := bS ss (brg ss r k f).2) hx hb hr hlk hs (by omega) (by omega) dX4_bringNew_212 ?_ hQ ?_
            · first | exact Or.inl rfl | exact Or.inr rfl | exact b2i_z _
            exact bn_no (ss := ss) (brg13n hhC hhD hhE h13 (hq1.trans hnn)) hWSb eSa eSb frw_29
          · skip
            obtain ⟨gg, hgg, hag⟩ := aR_so c197
            refine lv_iload hx hb dX4_bringNew_200 (lv_at hl 1 rfl) ?_
            refine lv_bipush (v := (-3)) hx hb dX4_bringNew_202 (by decide) ?_
            refine lv_icmp_eq (tgt := 211) hx hb dX4_bringNew_204 (by decide) (fun c204 => absurd c204 (by decide)) (fun _ => ?_)
            refine lv_iconst (v := 1) hx hb dX4_bringNew_207 (by decide) ?_
            refine lv_goto (tgt := 212) hx hb dX4_bringNew_208 (by decide) ?_
            refine r_zret (v := 1) (mc := bC ss (brg ss r k f).2) (ms := bS ss (brg ss r k f).2) hx hb hr hlk hs (by omega) (by omega) dX4_bringNew_212 ?_ hQ ?_
            · first | exact Or.inl rfl | exact Or.inr rfl | exact b2i_z _
            have hB := brg13t (k := k) hhC hhD hhE h13 (hq1.trans hgg)
            have hbk := brg_ok hok0 hΓ hwy (k := k) hB
            have hb6 := hbk.2.1.1
            have hb7 := hbk.2.2 _ rfl
            exact bn_so (ss := ss) hB ⟨Nat.le_trans hb7.1 hb6, Nat.le_trans hb7.2.1 hb6⟩ hWSb eSa eSb hag rfl frw_29
    · skip
      have h10 : r = 10 := sw_nI c100 rfl (by omega) (by decide)
      refine lv_aload_n hx hb dX4_bringNew_103 rfl (lv_at hl 6 rfl) ?_
      refine r_get (ci := 4) (v := .ref (ad 3)) (C := RX4) (T := TX4) (N := 5) hx hb hts inlX4 hown hK hs (18) (by omega) he180 rfl 0 (by decide) (hts _ w_fl_RX4_27) rfl dX4_bringNew_104 ?_
      refine lv_iconst (v := 4) hx hb dX4_bringNew_107 (by decide) ?_
      refine lv_iload hx hb dX4_bringNew_108 (lv_at hl 4 rfl) ?_
      refine lv_iload hx hb dX4_bringNew_110 (lv_at hl 2 rfl) ?_
      obtain ⟨he1, hg1, hn1⟩ := mC_eq ss cI eI
      have hm1 := brg10_le (k := k) hhC hhD hhE h10
      have hm2 := kC_mono hm1
      have hm3 := kS_mono hm1
      refine r_callVi (ci := 6) (As := [.int (4), .int (nI cI), .int (nI eI)]) hx hb hml hown hts hK hA hs (3) (by omega) he30 rfl rfl (c_X6_make l G hSt0 (s1 := 4) (l1 := cI) (r1 := eI) (by have := hpar (by omega); exact ⟨rfl, Or.inr (Or.inr ⟨(by decide : 2 ≤ 4), (by decide : 4 ≤ 4), by show 1 ≤ cI; omega, by show cI < _; omega, by show 1 ≤ eI; omega, by show eI < _; omega⟩)⟩)) (cwV 3 hts (tbV w_ml_RX4_137 w_im_yX6_make w_se_yX6_make w_ini_RX6 w_cd_yX6_make) rfl rfl rfl (by decide +kernel) ⟨Nat.le_of_ble_eq_true rfl, Nat.le_of_ble_eq_true rfl⟩) rfl hl.1 rfl (Nat.le_of_ble_eq_true rfl) dX4_bringNew_112 ⟨by show _ ≤ bC ss (brg ss r k f).2; omega, by show _ ≤ bS ss (brg ss r k f).2; omega⟩ (fun r_33 ad_30 en_31 H locs hp_32 hs => ?_)
      obtain ⟨hr1, hs1, hf1⟩ := hp_32
      obtain ⟨hW1, hF1⟩ := SchW_st hW hs1 hf1
      have hW1 : SchW G n ad_30 en_31 (impT ss cI eI) hw dv S fuel sp := hW1
      obtain ⟨o1, hq1⟩ : ∃ o, impS ss cI eI = o := ⟨_, rfl⟩
      have hl1 := impS_lt (a := cI) (b := eI) h60
      rw [hq1] at hl1
      rw [show r_33 = aR o1 from hr1.trans ((impS_r _ _ _).trans (by rw [hq1]))]
      obtain ⟨hnw_34, hStw_34, hDew_34, hGiw_34, he18w_34⟩ := id hW1
      have he3w_34 := hStw_34.2.1
      obtain ⟨fs7w_34, he7w_34⟩ := SetsAt_recv hStw_34.2.2.2.1
      obtain ⟨fs19w_34, he19w_34⟩ := SetsAt_recv hGiw_34
      obtain ⟨fs1w_34, he1w_34⟩ := DerAt_recv hDew_34
      have hokw_34 := hStw_34.2.2.2.2.2
      have h6w_34 := hokw_34.1
      have frw_34 := Fr_tr Fr_rf hF1
      have hl : lv_has ls 12 [(10, .int (0)), (9, .int (0)), (8, .int (nI eI)), (7, .int (nI dI)), (6, .int (nI cI)), (5, .int (nI (sL ss f))), (0, .ref (ad_30 18)), (1, .int (nI r)), (2, .int (nI k)), (3, .int (nI f)), (4, .int (nI d1))] := by rw [hF1.1 18 (by omega) (by unfold scA; omega)]; exact hl
      refine lv_istore (lv' := [(9, .int (aR o1)), (10, .int (0)), (8, .int (nI eI)), (7, .int (nI dI)), (6, .int (nI cI)), (5, .int (nI (sL ss f))), (0, .ref (ad_30 18)), (1, .int (nI r)), (2, .int (nI k)), (3, .int (nI f)), (4, .int (nI d1))]) hx hb dX4_bringNew_115 hl (by decide) rfl (fun ls hl => ?_)
      refine lv_iload hx hb dX4_bringNew_117 (lv_at hl 0 rfl) ?_
      refine lv_bipush (v := (-3)) hx hb dX4_bringNew_119 (by decide) ?_
      refine lv_icmp_ne (tgt := 129) hx hb dX4_bringNew_121 (by decide) (fun c121 => ?_) (fun c121 => ?_)
      · skip
        obtain ⟨i1, hi1, ha1⟩ := aR_so c121
        refine lv_aload_n hx hb dX4_bringNew_129 rfl (lv_at hl 6 rfl) ?_
        refine r_get (ci := 4) (v := .ref (ad_30 3)) (C := RX4) (T := TX4) (N := 5) hx hb hts inlX4 hown hK hs (18) (by omega) he18w_34 rfl 0 (by decide) (hts _ w_fl_RX4_27) rfl dX4_bringNew_130 ?_
        refine lv_iconst (v := 4) hx hb dX4_bringNew_133 (by decide) ?_
        refine lv_iload hx hb dX4_bringNew_134 (lv_at hl 3 rfl) ?_
        refine lv_iload hx hb dX4_bringNew_136 (lv_at hl 2 rfl) ?_
        obtain ⟨he2, hg2, hn2⟩ := mC_eq (impT ss cI eI) dI eI
        have hfin := brg10_2 (k := k) hhC hhD hhE h10 (hq1.trans hi1)
        have hm1 : kC (brg ss r k f).2.length = kC (impT (impT ss cI eI) dI eI).length := by rw [hfin]
        have hm2 : kS (brg ss r k f).2.length = kS (impT (impT ss cI eI) dI eI).length := by rw [hfin]
        refine r_callVi (ci := 6) (As := [.int (4), .int (nI dI), .int (nI eI)]) hx hb hml hown hts hK hA hs (3) (by omega) he3w_34 rfl rfl (c_X6_make l G hStw_34 (s1 := 4) (l1 := dI) (r1 := eI) (by have := hpar (by omega); exact ⟨rfl, Or.inr (Or.inr ⟨(by decide : 2 ≤ 4), (by decide : 4 ≤ 4), by show 1 ≤ dI; omega, by show dI < _; omega, by show 1 ≤ eI; omega, by show eI < _; omega⟩)⟩)) (cwV 3 hts (tbV w_ml_RX4_137 w_im_yX6_make w_se_yX6_make w_ini_RX6 w_cd_yX6_make) rfl rfl rfl (by decide +kernel) ⟨Nat.le_of_ble_eq_true rfl, Nat.le_of_ble_eq_true rfl⟩) rfl hl.1 rfl (Nat.le_of_ble_eq_true rfl) dX4_bringNew_138 ⟨by show _ ≤ bC ss (brg ss r k f).2; omega, by show _ ≤ bS ss (brg ss r k f).2; omega⟩ (fun r_38 ad_35 en_36 H locs hp_37 hs => ?_)
        obtain ⟨hr2, hs2, hf2⟩ := hp_37
        obtain ⟨hW2, hF2⟩ := SchW_st hW1 hs2 hf2
        have hW2 : SchW G n ad_35 en_36 (impT (impT ss cI eI) dI eI) hw dv S fuel sp := hW2
        obtain ⟨o2, hq2⟩ : ∃ o, impS (impT ss cI eI) dI eI = o := ⟨_, rfl⟩
        have hl2 := impS_lt (a := dI) (b := eI) h6w_34
        rw [hq2] at hl2
        rw [show r_38 = aR o2 from hr2.trans ((impS_r _ _ _).trans (by rw [hq2]))]
        obtain ⟨hnw_39, hStw_39, hDew_39, hGiw_39, he18w_39⟩ := id hW2
        have he3w_39 := hStw_39.2.1
        obtain ⟨fs7w_39, he7w_39⟩ := SetsAt_recv hStw_39.2.2.2.1
        obtain ⟨fs19w_39, he19w_39⟩ := SetsAt_recv hGiw_39
        obtain ⟨fs1w_39, he1w_39⟩ := DerAt_recv hDew_39
        have hokw_39 := hStw_39.2.2.2.2.2
        have h6w_39 := hokw_39.1
        have frw_39 := Fr_tr frw_34 hF2
        have hl : lv_has ls 12 [(9, .int (aR o1)), (10, .int (0)), (8, .int (nI eI)), (7, .int (nI dI)), (6, .int (nI cI)), (5, .int (nI (sL ss f))), (0, .ref (ad_35 18)), (1, .int (nI r)), (2, .int (nI k)), (3, .int (nI f)), (4, .int (nI d1))] := by rw [hF2.1 18 (by omega) (by unfold scA; omega)]; exact hl
        refine lv_istore (lv' := [(10, .int (aR o2)), (9, .int (aR o1)), (8, .int (nI eI)), (7, .int (nI dI)), (6, .int (nI cI)), (5, .int (nI (sL ss f))), (0, .ref (ad_35 18)), (1, .int (nI r)), (2, .int (nI k)), (3, .int (nI f)), (4, .int (nI d1))]) hx hb dX4_bringNew_141 hl (by decide) rfl (fun ls hl => ?_)
        refine lv_goto (tgt := 171) hx hb dX4_bringNew_143 (by decide) ?_
        refine lv_aload_n hx hb dX4_bringNew_171 rfl (lv_at hl 6 rfl) ?_
        refine r_get (ci := 4) (v := .ref (ad_35 19)) (C := RX4) (T := TX4) (N := 5) hx hb hts inlX4 hown hK hs (18) (by omega) he18w_39 rfl 2 (by decide) (hts _ w_fl_RX4_14) rfl dX4_bringNew_172 ?_
        refine lv_iload hx hb dX4_bringNew_175 (lv_at hl 10 rfl) ?_
        refine lv_iload hx hb dX4_bringNew_177 (lv_at hl 1 rfl) ?_
        refine r_callVv (ci := 5) (As := [.int (nI d1), .int (aR o1)]) hx hb hml hown hts hK hA hs (19) (by omega) he19w_39 rfl rfl (c_X5_add l G hGiw_39 (row := d1) (by omega) (aR o1)) (cwV 2 hts (tbV w_ml_RX4_140 w_im_yX5_add w_se_yX5_add w_ini_RX5 w_cd_yX5_add) rfl rfl rfl (by decide +kernel) ⟨Nat.le_of_ble_eq_true rfl, Nat.le_of_ble_eq_true rfl⟩) rfl hl.1 rfl (Nat.le_of_ble_eq_true rfl) dX4_bringNew_179 ⟨by show _ ≤ bC ss (brg ss r k f).2; omega, by show _ ≤ bS ss (brg ss r k f).2; omega⟩ (fun ad_40 en_41 H locs hp_42 hs => ?_)
        obtain ⟨hsSa, hfSa⟩ := hp_42
        obtain ⟨Sa, eSa⟩ : ∃ z, z = sAddI S d1 (aR o1) := ⟨_, rfl⟩
        rw [← eSa] at hsSa
        obtain ⟨hWSa, hFSa⟩ := SchW_gi hW2 hsSa hfSa
        obtain ⟨hnw_43, hStw_43, hDew_43, hGiw_43, he18w_43⟩ := id hWSa
        have he3w_43 := hStw_43.2.1
        obtain ⟨fs7w_43, he7w_43⟩ := SetsAt_recv hStw_43.2.2.2.1
        obtain ⟨fs19w_43, he19w_43⟩ := SetsAt_recv hGiw_43
        obtain ⟨fs1w_43, he1w_43⟩ := DerAt_recv hDew_43
        have hokw_43 := hStw_43.2.2.2.2.2
        have h6w_43 := hokw_43.1
        have frw_43 := Fr_tr frw_39 hFSa
        have hl : lv_has ls 12 [(10, .int (aR o2)), (9, .int (aR o1)), (8, .int (nI eI)), (7, .int (nI dI)), (6, .int (nI cI)), (5, .int (nI (sL ss f))), (0, .ref (ad_40 18)), (1, .int (nI r)), (2, .int (nI k)), (3, .int (nI f)), (4, .int (nI d1))] := by rw [hFSa.1 18 (by omega) (by unfold scA; omega)]; exact hl
        refine lv_aload_n hx hb dX4_bringNew_182 rfl (lv_at hl 6 rfl) ?_
        refine r_get (ci := 4) (v := .ref (ad_40 19)) (C := RX4) (T := TX4) (N := 5) hx hb hts inlX4 hown hK hs (18) (by omega) he18w_43 rfl 2 (by decide) (hts _ w_fl_RX4_14) rfl dX4_bringNew_183 ?_
        refine lv_iload hx hb dX4_bringNew_186 (lv_at hl 10 rfl) ?_
        refine lv_iload hx hb dX4_bringNew_188 (lv_at hl 0 rfl) ?_
        refine r_callVv (ci := 5) (As := [.int (nI d1), .int (aR o2)]) hx hb hml hown hts hK hA hs (19) (by omega) he19w_43 rfl rfl (c_X5_add l G hGiw_43 (row := d1) (by omega) (aR o2)) (cwV 2 hts (tbV w_ml_RX4_140 w_im_yX5_add w_se_yX5_add w_ini_RX5 w_cd_yX5_add) rfl rfl rfl (by decide +kernel) ⟨Nat.le_of_ble_eq_true rfl, Nat.le_of_ble_eq_true rfl⟩) rfl hl.1 rfl (Nat.le_of_ble_eq_true rfl) dX4_bringNew_190 ⟨by show _ ≤ bC ss (brg ss r k f).2; omega, by show _ ≤ bS ss (brg ss r k f).2; omega⟩ (fun ad_44 en_45 H locs hp_46 hs => ?_)
        obtain ⟨hsSb, hfSb⟩ := hp_46
        obtain ⟨Sb, eSb⟩ : ∃ z, z = sAddI Sa d1 (aR o2) := ⟨_, rfl⟩
        rw [← eSb] at hsSb
        obtain ⟨hWSb, hFSb⟩ := SchW_gi hWSa hsSb hfSb
        obtain ⟨hnw_47, hStw_47, hDew_47, hGiw_47, he18w_47⟩ := id hWSb
        have he3w_47 := hStw_47.2.1
        obtain ⟨fs7w_47, he7w_47⟩ := SetsAt_recv hStw_47.2.2.2.1
        obtain ⟨fs19w_47, he19w_47⟩ := SetsAt_recv hGiw_47
        obtain ⟨fs1w_47, he1w_47⟩ := DerAt_recv hDew_47
        have hokw_47 := hStw_47.2.2.2.2.2
        have h6w_47 := hokw_47.1
        have frw_47 := Fr_tr frw_43 hFSb
        have hl : lv_has ls 12 [(10, .int (aR o2)), (9, .int (aR o1)), (8, .int (nI eI)), (7, .int (nI dI)), (6, .int (nI cI)), (5, .int (nI (sL ss f))), (0, .ref (ad_44 18)), (1, .int (nI r)), (2, .int (nI k)), (3, .int (nI f)), (4, .int (nI d1))] := by rw [hFSb.1 18 (by omega) (by unfold scA; omega)]; exact hl
        refine lv_iload hx hb dX4_bringNew_193 (lv_at hl 1 rfl) ?_
        refine lv_bipush (v := (-3)) hx hb dX4_bringNew_195 (by decide) ?_
        refine lv_icmp_eq (tgt := 211) hx hb dX4_bringNew_197 (by decide) (fun c197 => absurd c197 (c121)) (fun _ => ?_)
        refine lv_iload hx hb dX4_bringNew_200 (lv_at hl 0 rfl) ?_
        refine lv_bipush (v := (-3)) hx hb dX4_bringNew_202 (by decide) ?_
        refine lv_icmp_eq (tgt := 211) hx hb dX4_bringNew_204 (by decide) (fun c204 => ?_) (fun c204 => ?_)
        · skip
          have hnn : o2 = none := aR_no hl2 c204
          refine lv_iconst (v := 0) hx hb dX4_bringNew_211 (by decide) ?_
          refine r_zret (v := 0) (mc := bC ss (brg ss r k f).2) (ms := bS ss (brg ss r k f).2) hx hb hr hlk hs (by omega) (by omega) dX4_bringNew_212 ?_ hQ ?_
          · first | exact Or.inl rfl | exact Or.inr rfl | exact b2i_z _
          exact bn_no (ss := ss) (brg10s hhC hhD hhE h10 (hq1.trans hi1) (hq2.trans hnn)) hWSb eSa eSb frw_47
        · skip
          obtain ⟨gg, hgg, hag⟩ := aR_so c204
          refine lv_iconst (v := 1) hx hb dX4_bringNew_207 (by decide) ?_
          refine lv_goto (tgt := 212) hx hb dX4_bringNew_208 (by decide) ?_
          refine r_zret (v := 1) (mc := bC ss (brg ss r k f).2) (ms := bS ss (brg ss r k f).2) hx hb hr hlk hs (by omega) (by omega) dX4_bringNew_212 ?_ hQ ?_
          · first | exact Or.inl rfl | exact Or.inr rfl | exact b2i_z _
          have hB := brg10t (k := k) hhC hhD hhE h10 (hq1.trans hi1) (hq2.trans hgg)
          have hbk := brg_ok hok0 hΓ hwy (k := k) hB
          have hb6 := hbk.2.1.1
          have hb7 := hbk.2.2 _ rfl
          exact bn_so (ss := ss) hB ⟨Nat.le_trans hb7.1 hb6, Nat.le_trans hb7.2.1 hb6⟩ hWSb eSa eSb ha1 hag frw_47
      · skip
        have h1n : o1 = none := aR_no hl1 c121
        have hfin : (brg ss r k f).2 = impT ss cI eI := by rw [brg10n hhC hhD hhE h10 (hq1.trans h1n)]
        refine lv_bipush (v := (-3)) hx hb dX4_bringNew_124 (by decide) ?_
        refine lv_goto (tgt := 141) hx hb dX4_bringNew_126 (by decide) ?_
        refine lv_istore (lv' := [(10, .int ((-3))), (9, .int (aR o1)), (8, .int (nI eI)), (7, .int (nI dI)), (6, .int (nI cI)), (5, .int (nI (sL ss f))), (0, .ref (ad_30 18)), (1, .int (nI r)), (2, .int (nI k)), (3, .int (nI f)), (4, .int (nI d1))]) hx hb dX4_bringNew_141 hl (by decide) rfl (fun ls hl => ?_)
        refine lv_goto (tgt := 171) hx hb dX4_bringNew_143 (by decide) ?_
        refine lv_aload_n hx hb dX4_bringNew_171 rfl (lv_at hl 6 rfl) ?_
        refine r_get (ci := 4) (v := .ref (ad_30 19)) (C := RX4) (T := TX4) (N := 5) hx hb hts inlX4 hown hK hs (18) (by omega) he18w_34 rfl 2 (by decide) (hts _ w_fl_RX4_14) rfl dX4_bringNew_172 ?_
        refine lv_iload hx hb dX4_bringNew_175 (lv_at hl 10 rfl) ?_
        refine lv_iload hx hb dX4_bringNew_177 (lv_at hl 1 rfl) ?_
        refine r_callVv (ci := 5) (As := [.int (nI d1), .int (aR o1)]) hx hb hml hown hts hK hA hs (19) (by omega) he19w_34 rfl rfl (c_X5_add l G hGiw_34 (row := d1) (by omega) (aR o1)) (cwV 2 hts (tbV w_ml_RX4_140 w_im_yX5_add w_se_yX5_add w_ini_RX5 w_cd_yX5_add) rfl rfl rfl (by decide +kernel) ⟨Nat.le_of_ble_eq_true rfl, Nat.le_of_ble_eq_true rfl⟩) rfl hl.1 rfl (Nat.le_of_ble_eq_true rfl) dX4_bringNew_179 ⟨by show _ ≤ bC ss (brg ss r k f).2; omega, by show _ ≤ bS ss (brg ss r k f).2; omega⟩ (fun ad_48 en_49 H locs hp_50 hs => ?_)
        obtain ⟨hsSa, hfSa⟩ := hp_50
        obtain ⟨Sa, eSa⟩ : ∃ z, z = sAddI S d1 (aR o1) := ⟨_, rfl⟩
        rw [← eSa] at hsSa
        obtain ⟨hWSa, hFSa⟩ := SchW_gi hW1 hsSa hfSa
        obtain ⟨hnw_51, hStw_51, hDew_51, hGiw_51, he18w_51⟩ := id hWSa
        have he3w_51 := hStw_51.2.1
        obtain ⟨fs7w_51, he7w_51⟩ := SetsAt_recv hStw_51.2.2.2.1
        obtain ⟨fs19w_51, he19w_51⟩ := SetsAt_recv hGiw_51
        obtain ⟨fs1w_51, he1w_51⟩ := DerAt_recv hDew_51
        have hokw_51 := hStw_51.2.2.2.2.2
        have h6w_51 := hokw_51.1
        have frw_51 := Fr_tr frw_34 hFSa
        have hl : lv_has ls 12 [(10, .int ((-3))), (9, .int (aR o1)), (8, .int (nI eI)), (7, .int (nI dI)), (6, .int (nI cI)), (5, .int (nI (sL ss f))), (0, .ref (ad_48 18)), (1, .int (nI r)), (2, .int (nI k)), (3, .int (nI f)), (4, .int (nI d1))] := by rw [hFSa.1 18 (by omega) (by unfold scA; omega)]; exact hl
        refine lv_aload_n hx hb dX4_bringNew_182 rfl (lv_at hl 6 rfl) ?_
        refine r_get (ci := 4) (v := .ref (ad_48 19)) (C := RX4) (T := TX4) (N := 5) hx hb hts inlX4 hown hK hs (18) (by omega) he18w_51 rfl 2 (by decide) (hts _ w_fl_RX4_14) rfl dX4_bringNew_183 ?_
        refine lv_iload hx hb dX4_bringNew_186 (lv_at hl 10 rfl) ?_
        refine lv_iload hx hb dX4_bringNew_188 (lv_at hl 0 rfl) ?_
        refine r_callVv (ci := 5) (As := [.int (nI d1), .int ((-3))]) hx hb hml hown hts hK hA hs (19) (by omega) he19w_51 rfl rfl (c_X5_add l G hGiw_51 (row := d1) (by omega) ((-3))) (cwV 2 hts (tbV w_ml_RX4_140 w_im_yX5_add w_se_yX5_add w_ini_RX5 w_cd_yX5_add) rfl rfl rfl (by decide +kernel) ⟨Nat.le_of_ble_eq_true rfl, Nat.le_of_ble_eq_true rfl⟩) rfl hl.1 rfl (Nat.le_of_ble_eq_true rfl) dX4_bringNew_190 ⟨by show _ ≤ bC ss (brg ss r k f).2; omega, by show _ ≤ bS ss (brg ss r k f).2; omega⟩ (fun ad_52 en_53 H locs hp_54 hs => ?_)
        obtain ⟨hsSb, hfSb⟩ := hp_54
        obtain ⟨Sb, eSb⟩ : ∃ z, z = sAddI Sa d1 ((-3)) := ⟨_, rfl⟩
        rw [← eSb] at hsSb
        obtain ⟨hWSb, hFSb⟩ := SchW_gi hWSa hsSb hfSb
        obtain ⟨hnw_55, hStw_55, hDew_55, hGiw_55, he18w_55⟩ := id hWSb
        have he3w_55 := hStw_55.2.1
        obtain ⟨fs7w_55, he7w_55⟩ := SetsAt_recv hStw_55.2.2.2.1
        obtain ⟨fs19w_55, he19w_55⟩ := SetsAt_recv hGiw_55
        obtain ⟨fs1w_55, he1w_55⟩ := DerAt_recv hDew_55
        have hokw_55 := hStw_55.2.2.2.2.2
        have h6w_55 := hokw_55.1
        have frw_55 := Fr_tr frw_51 hFSb
        have hl : lv_has ls 12 [(10, .int ((-3))), (9, .int (aR o1)), (8, .int (nI eI)), (7, .int (nI dI)), (6, .int (nI cI)), (5, .int (nI (sL ss f))), (0, .ref (ad_52 18)), (1, .int (nI r)), (2, .int (nI k)), (3, .int (nI f)), (4, .int (nI d1))] := by rw [hFSb.1 18 (by omega) (by unfold scA; omega)]; exact hl
        refine lv_iload hx hb dX4_bringNew_193 (lv_at hl 1 rfl) ?_
        refine lv_bipush (v := (-3)) hx hb dX4_bringNew_195 (by decide) ?_
        refine lv_icmp_eq (tgt := 211) hx hb dX4_bringNew_197 (by decide) (fun _ => ?_) (fun c197 => absurd (c121) c197)
        refine lv_iconst (v := 0) hx hb dX4_bringNew_211 (by decide) ?_
        refine r_zret (v := 0) (mc := bC ss (brg ss r k f).2) (ms := bS ss (brg ss r k f).2) hx hb hr hlk hs (by omega) (by omega) dX4_bringNew_212 ?_ hQ ?_
        · first | exact Or.inl rfl | exact Or.inr rfl | exact b2i_z _
        exact bn_no (ss := ss) (brg10n hhC hhD hhE h10 (hq1.trans h1n)) hWSb eSa eSb frw_55
  · skip
    have h9 : r = 9 := sw_nI c51 rfl (by omega) (by decide)
    refine lv_aload_n hx hb dX4_bringNew_54 rfl (lv_at hl 6 rfl) ?_
    refine r_get (ci := 4) (v := .ref (ad 3)) (C := RX4) (T := TX4) (N := 5) hx hb hts inlX4 hown hK hs (18) (by omega) he180 rfl 0 (by decide) (hts _ w_fl_RX4_27) rfl dX4_bringNew_55 ?_
    refine lv_iconst (v := 4) hx hb dX4_bringNew_58 (by decide) ?_
    refine lv_iload hx hb dX4_bringNew_59 (lv_at hl 3 rfl) ?_
    refine lv_iload hx hb dX4_bringNew_61 (lv_at hl 2 rfl) ?_
    obtain ⟨he1, hg1, hn1⟩ := mC_eq ss dI eI
    have hm1 := brg9_le (k := k) hhC hhD hhE h9
    have hm2 := kC_mono hm1
    have hm3 := kS_mono hm1
    refine r_callVi (ci := 6) (As := [.int (4), .int (nI dI), .int (nI eI)]) hx hb hml hown hts hK hA hs (3) (by omega) he30 rfl rfl (c_X6_make l G hSt0 (s1 := 4) (l1 := dI) (r1 := eI) (by have := hpar (by omega); exact ⟨rfl, Or.inr (Or.inr ⟨(by decide : 2 ≤ 4), (by decide : 4 ≤ 4), by show 1 ≤ dI; omega, by show dI < _; omega, by show 1 ≤ eI; omega, by show eI < _; omega⟩)⟩)) (cwV 3 hts (tbV w_ml_RX4_137 w_im_yX6_make w_se_yX6_make w_ini_RX6 w_cd_yX6_make) rfl rfl rfl (by decide +kernel) ⟨Nat.le_of_ble_eq_true rfl, Nat.le_of_ble_eq_true rfl⟩) rfl hl.1 rfl (Nat.le_of_ble_eq_true rfl) dX4_bringNew_63 ⟨by show _ ≤ bC ss (brg ss r k f).2; omega, by show _ ≤ bS ss (brg ss r k f).2; omega⟩ (fun r_59 ad_56 en_57 H locs hp_58 hs => ?_)
    obtain ⟨hr1, hs1, hf1⟩ := hp_58
    obtain ⟨hW1, hF1⟩ := SchW_st hW hs1 hf1
    have hW1 : SchW G n ad_56 en_57 (impT ss dI eI) hw dv S fuel sp := hW1
    obtain ⟨o1, hq1⟩ : ∃ o, impS ss dI eI = o := ⟨_, rfl⟩
    have hl1 := impS_lt (a := dI) (b := eI) h60
    rw [hq1] at hl1
    rw [show r_59 = aR o1 from hr1.trans ((impS_r _ _ _).trans (by rw [hq1]))]
    obtain ⟨hnw_60, hStw_60, hDew_60, hGiw_60, he18w_60⟩ := id hW1
    have he3w_60 := hStw_60.2.1
    obtain ⟨fs7w_60, he7w_60⟩ := SetsAt_recv hStw_60.2.2.2.1
    obtain ⟨fs19w_60, he19w_60⟩ := SetsAt_recv hGiw_60
    obtain ⟨fs1w_60, he1w_60⟩ := DerAt_recv hDew_60
    have hokw_60 := hStw_60.2.2.2.2.2
    have h6w_60 := hokw_60.1
    have frw_60 := Fr_tr Fr_rf hF1
    have hl : lv_has ls 12 [(10, .int (0)), (9, .int (0)), (8, .int (nI eI)), (7, .int (nI dI)), (6, .int (nI cI)), (5, .int (nI (sL ss f))), (0, .ref (ad_56 18)), (1, .int (nI r)), (2, .int (nI k)), (3, .int (nI f)), (4, .int (nI d1))] := by rw [hF1.1 18 (by omega) (by unfold scA; omega)]; exact hl
    refine lv_istore (lv' := [(11, .int (aR o1)), (10, .int (0)), (9, .int (0)), (8, .int (nI eI)), (7, .int (nI dI)), (6, .int (nI cI)), (5, .int (nI (sL ss f))), (0, .ref (ad_56 18)), (1, .int (nI r)), (2, .int (nI k)), (3, .int (nI f)), (4, .int (nI d1))]) hx hb dX4_bringNew_66 hl (by decide) rfl (fun ls hl => ?_)
    refine lv_iload hx hb dX4_bringNew_68 (lv_at hl 0 rfl) ?_
    refine lv_bipush (v := (-3)) hx hb dX4_bringNew_70 (by decide) ?_
    refine lv_icmp_ne (tgt := 80) hx hb dX4_bringNew_72 (by decide) (fun c72 => ?_) (fun c72 => ?_)
    · skip
      obtain ⟨i1, hi1, ha1⟩ := aR_so c72
      have hrow1 := (imp_ok hok0 (a := dI) (b := eI) (by have := hpar (by omega); omega) (by have := hpar (by omega); omega)).2.2 i1 (hq1.trans hi1)
      refine lv_aload_n hx hb dX4_bringNew_80 rfl (lv_at hl 7 rfl) ?_
      refine r_get (ci := 4) (v := .ref (ad_56 3)) (C := RX4) (T := TX4) (N := 5) hx hb hts inlX4 hown hK hs (18) (by omega) he18w_60 rfl 0 (by decide) (hts _ w_fl_RX4_27) rfl dX4_bringNew_81 ?_
      refine lv_iconst (v := 4) hx hb dX4_bringNew_84 (by decide) ?_
      refine lv_iload hx hb dX4_bringNew_85 (lv_at hl 5 rfl) ?_
      refine lv_iload hx hb dX4_bringNew_87 (lv_at hl 0 rfl) ?_
      refine r_topi (y := nI i1) (ha1) ?_
      obtain ⟨he2, hg2, hn2⟩ := mC_eq (impT ss dI eI) cI i1
      have hfin := brg9_2 (k := k) hhC hhD hhE h9 (hq1.trans hi1)
      have hm1 : kC (brg ss r k f).2.length = kC (impT (impT ss dI eI) cI i1).length := by rw [hfin]
      have hm2 : kS (brg ss r k f).2.length = kS (impT (impT ss dI eI) cI i1).length := by rw [hfin]
      refine r_callVi (ci := 6) (As := [.int (4), .int (nI cI), .int (nI i1)]) hx hb hml hown hts hK hA hs (3) (by omega) he3w_60 rfl rfl (c_X6_make l G hStw_60 (s1 := 4) (l1 := cI) (r1 := i1) (by have := hpar (by omega); have := hrow1.1; have := hrow1.2.1; exact ⟨rfl, Or.inr (Or.inr ⟨(by decide : 2 ≤ 4), (by decide : 4 ≤ 4), by show 1 ≤ cI; omega, by show cI < _; omega, hrow1.1, by show i1 < _; omega⟩)⟩)) (cwV 3 hts (tbV w_ml_RX4_137 w_im_yX6_make w_se_yX6_make w_ini_RX6 w_cd_yX6_make) rfl rfl rfl (by decide +kernel) ⟨Nat.le_of_ble_eq_true rfl, Nat.le_of_ble_eq_true rfl⟩) rfl hl.1 rfl (Nat.le_of_ble_eq_true rfl) dX4_bringNew_89 ⟨by show _ ≤ bC ss (brg ss r k f).2; omega, by show _ ≤ bS ss (brg ss r k f).2; omega⟩ (fun r_64 ad_61 en_62 H locs hp_63 hs => ?_)
      obtain ⟨hr2, hs2, hf2⟩ := hp_63
      obtain ⟨hW2, hF2⟩ := SchW_st hW1 hs2 hf2
      have hW2 : SchW G n ad_61 en_62 (impT (impT ss dI eI) cI i1) hw dv S fuel sp := hW2
      obtain ⟨o2, hq2⟩ : ∃ o, impS (impT ss dI eI) cI i1 = o := ⟨_, rfl⟩
      have hl2 := impS_lt (a := cI) (b := i1) h6w_60
      rw [hq2] at hl2
      rw [show r_64 = aR o2 from hr2.trans ((impS_r _ _ _).trans (by rw [hq2]))]
      obtain ⟨hnw_65, hStw_65, hDew_65, hGiw_65, he18w_65⟩ := id hW2
      have he3w_65 := hStw_65.2.1
      obtain ⟨fs7w_65, he7w_65⟩ := SetsAt_recv hStw_65.2.2.2.1
      obtain ⟨fs19w_65, he19w_65⟩ := SetsAt_recv hGiw_65
      obtain ⟨fs1w_65, he1w_65⟩ := DerAt_recv hDew_65
      have hokw_65 := hStw_65.2.2.2.2.2
      have h6w_65 := hokw_65.1
      have frw_65 := Fr_tr frw_60 hF2
      have hl : lv_has ls 12 [(11, .int (aR o1)), (10, .int (0)), (9, .int (0)), (8, .int (nI eI)), (7, .int (nI dI)), (6, .int (nI cI)), (5, .int (nI (sL ss f))), (0, .ref (ad_61 18)), (1, .int (nI r)), (2, .int (nI k)), (3, .int (nI f)), (4, .int (nI d1))] := by rw [hF2.1 18 (by omega) (by unfold scA; omega)]; exact hl
      refine lv_istore (lv' := [(9, .int (aR o2)), (11, .int (aR o1)), (10, .int (0)), (8, .int (nI eI)), (7, .int (nI dI)), (6, .int (nI cI)), (5, .int (nI (sL ss f))), (0, .ref (ad_61 18)), (1, .int (nI r)), (2, .int (nI k)), (3, .int (nI f)), (4, .int (nI d1))]) hx hb dX4_bringNew_92 hl (by decide) rfl (fun ls hl => ?_)
      refine lv_goto (tgt := 171) hx hb dX4_bringNew_94 (by decide) ?_
      refine lv_aload_n hx hb dX4_bringNew_171 rfl (lv_at hl 7 rfl) ?_
      refine r_get (ci := 4) (v := .ref (ad_61 19)) (C := RX4) (T := TX4) (N := 5) hx hb hts inlX4 hown hK hs (18) (by omega) he18w_65 rfl 2 (by decide) (hts _ w_fl_RX4_14) rfl dX4_bringNew_172 ?_
      refine lv_iload hx hb dX4_bringNew_175 (lv_at hl 11 rfl) ?_
      refine lv_iload hx hb dX4_bringNew_177 (lv_at hl 0 rfl) ?_
      refine r_callVv (ci := 5) (As := [.int (nI d1), .int (aR o2)]) hx hb hml hown hts hK hA hs (19) (by omega) he19w_65 rfl rfl (c_X5_add l G hGiw_65 (row := d1) (by omega) (aR o2)) (cwV 2 hts (tbV w_ml_RX4_140 w_im_yX5_add w_se_yX5_add w_ini_RX5 w_cd_yX5_add) rfl rfl rfl (by decide +kernel) ⟨Nat.le_of_ble_eq_true rfl, Nat.le_of_ble_eq_true rfl⟩) rfl hl.1 rfl (Nat.le_of_ble_eq_true rfl) dX4_bringNew_179 ⟨by show _ ≤ bC ss (brg ss r k f).2; omega, by show _ ≤ bS ss (brg ss r k f).2; omega⟩ (fun ad_66 en_67 H locs hp_68 hs => ?_)
      obtain ⟨hsSa, hfSa⟩ := hp_68
      obtain ⟨Sa, eSa⟩ : ∃ z, z = sAddI S d1 (aR o2) := ⟨_, rfl⟩
      rw [← eSa] at hsSa
      obtain ⟨hWSa, hFSa⟩ := SchW_gi hW2 hsSa hfSa
      obtain ⟨hnw_69, hStw_69, hDew_69, hGiw_69, he18w_69⟩ := id hWSa
      have he3w_69 := hStw_69.2.1
      obtain ⟨fs7w_69, he7w_69⟩ := SetsAt_recv hStw_69.2.2.2.1
      obtain ⟨fs19w_69, he19w_69⟩ := SetsAt_recv hGiw_69
      obtain ⟨fs1w_69, he1w_69⟩ := DerAt_recv hDew_69
      have hokw_69 := hStw_69.2.2.2.2.2
      have h6w_69 := hokw_69.1
      have frw_69 := Fr_tr frw_65 hFSa
      have hl : lv_has ls 12 [(9, .int (aR o2)), (11, .int (aR o1)), (10, .int (0)), (8, .int (nI eI)), (7, .int (nI dI)), (6, .int (nI cI)), (5, .int (nI (sL ss f))), (0, .ref (ad_66 18)), (1, .int (nI r)), (2, .int (nI k)), (3, .int (nI f)), (4, .int (nI d1))] := by rw [hFSa.1 18 (by omega) (by unfold scA; omega)]; exact hl
      refine lv_aload_n hx hb dX4_bringNew_182 rfl (lv_at hl 7 rfl) ?_
      refine r_get (ci := 4) (v := .ref (ad_66 19)) (C := RX4) (T := TX4) (N := 5) hx hb hts inlX4 hown hK hs (18) (by omega) he18w_69 rfl 2 (by decide) (hts _ w_fl_RX4_14) rfl dX4_bringNew_183 ?_
      refine lv_iload hx hb dX4_bringNew_186 (lv_at hl 11 rfl) ?_
      refine lv_iload hx hb dX4_bringNew_188 (lv_at hl 2 rfl) ?_
      refine r_callVv (ci := 5) (As := [.int (nI d1), .int (0)]) hx hb hml hown hts hK hA hs (19) (by omega) he19w_69 rfl rfl (c_X5_add l G hGiw_69 (row := d1) (by omega) (0)) (cwV 2 hts (tbV w_ml_RX4_140 w_im_yX5_add w_se_yX5_add w_ini_RX5 w_cd_yX5_add) rfl rfl rfl (by decide +kernel) ⟨Nat.le_of_ble_eq_true rfl, Nat.le_of_ble_eq_true rfl⟩) rfl hl.1 rfl (Nat.le_of_ble_eq_true rfl) dX4_bringNew_190 ⟨by show _ ≤ bC ss (brg ss r k f).2; omega, by show _ ≤ bS ss (brg ss r k f).2; omega⟩ (fun ad_70 en_71 H locs hp_72 hs => ?_)
      obtain ⟨hsSb, hfSb⟩ := hp_72
      obtain ⟨Sb, eSb⟩ : ∃ z, z = sAddI Sa d1 (0) := ⟨_, rfl⟩
      rw [← eSb] at hsSb
      obtain ⟨hWSb, hFSb⟩ := SchW_gi hWSa hsSb hfSb
      obtain ⟨hnw_73, hStw_73, hDew_73, hGiw_73, he18w_73⟩ := id hWSb
      have he3w_73 := hStw_73.2.1
      obtain ⟨fs7w_73, he7w_73⟩ := SetsAt_recv hStw_73.2.2.2.1
      obtain ⟨fs19w_73, he19w_73⟩ := SetsAt_recv hGiw_73
      obtain ⟨fs1w_73, he1w_73⟩ := DerAt_recv hDew_73
      have hokw_73 := hStw_73.2.2.2.2.2
      have h6w_73 := hokw_73.1
      have frw_73 := Fr_tr frw_69 hFSb
      have hl : lv_has ls 12 [(9, .int (aR o2)), (11, .int (aR o1)), (10, .int (0)), (8, .int (nI eI)), (7, .int (nI dI)), (6, .int (nI cI)), (5, .int (nI (sL ss f))), (0, .ref (ad_70 18)), (1, .int (nI r)), (2, .int (nI k)), (3, .int (nI f)), (4, .int (nI d1))] := by rw [hFSb.1 18 (by omega) (by unfold scA; omega)]; exact hl
      refine lv_iload hx hb dX4_bringNew_193 (lv_at hl 0 rfl) ?_
      refine lv_bipush (v := (-3)) hx hb dX4_bringNew_195 (by decide) ?_
      refine lv_icmp_eq (tgt := 211) hx hb dX4_bringNew_197 (by decide) (fun c197 => ?_) (fun c197 => ?_)
      · skip
        have hnn : o2 = none := aR_no hl2 c197
        refine lv_iconst (v := 0) hx hb dX4_bringNew_211 (by decide) ?_
        refine r_zret (v := 0) (mc := bC ss (brg ss r k f).2) (ms := bS ss (brg ss r k f).2) hx hb hr hlk hs (by omega) (by omega) dX4_bringNew_212 ?_ hQ ?_
        · first | exact Or.inl rfl | exact Or.inr rfl | exact b2i_z _
        exact bn_no (ss := ss) (brg9s hhC hhD hhE h9 (hq1.trans hi1) (hq2.trans hnn)) hWSb eSa eSb frw_73
      · skip
        obtain ⟨gg, hgg, hag⟩ := aR_so c197
        refine lv_iload hx hb dX4_bringNew_200 (lv_at hl 2 rfl) ?_
        refine lv_bipush (v := (-3)) hx hb dX4_bringNew_202 (by decide) ?_
        refine lv_icmp_eq (tgt := 211) hx hb dX4_bringNew_204 (by decide) (fun c204 => absurd c204 (by decide)) (fun _ => ?_)
        refine lv_iconst (v := 1) hx hb dX4_bringNew_207 (by decide) ?_
        refine lv_goto (tgt := 212) hx hb dX4_bringNew_208 (by decide) ?_
        refine r_zret (v := 1) (mc := bC ss (brg ss r k f).2) (ms := bS ss (brg ss r k f).2) hx hb hr hlk hs (by omega) (by omega) dX4_bringNew_212 ?_ hQ ?_
        · first | exact Or.inl rfl | exact Or.inr rfl | exact b2i_z _
        have hB := brg9t (k := k) hhC hhD hhE h9 (hq1.trans hi1) (hq2.trans hgg)
        have hbk := brg_ok hok0 hΓ hwy (k := k) hB
        have hb6 := hbk.2.1.1
        have hb7 := hbk.2.2 _ rfl
        exact bn_so (ss := ss) hB ⟨Nat.le_trans hb7.1 hb6, Nat.le_trans hb7.2.1 hb6⟩ hWSb eSa eSb hag rfl frw_73
    · skip
      have h1n : o1 = none := aR_no hl1 c72
      have hfin : (brg ss r k f).2 = impT ss dI eI := by rw [brg9n hhC hhD hhE h9 (hq1.trans h1n)]
      refine lv_bipush (v := (-3)) hx hb dX4_bringNew_75 (by decide) ?_
      refine lv_goto (tgt := 92) hx hb dX4_bringNew_77 (by decide) ?_
      refine lv_istore (lv' := [(9, .int ((-3))), (11, .int (aR o1)), (10, .int (0)), (8, .int (nI eI)), (7, .int (nI dI)), (6, .int (nI cI)), (5, .int (nI (sL ss f))), (0, .ref (ad_56 18)), (1, .int (nI r)), (2, .int (nI k)), (3, .int (nI f)), (4, .int (nI d1))]) hx hb dX4_bringNew_92 hl (by decide) rfl (fun ls hl => ?_)
      refine lv_goto (tgt := 171) hx hb dX4_bringNew_94 (by decide) ?_
      refine lv_aload_n hx hb dX4_bringNew_171 rfl (lv_at hl 7 rfl) ?_
      refine r_get (ci := 4) (v := .ref (ad_56 19)) (C := RX4) (T := TX4) (N := 5) hx hb hts inlX4 hown hK hs (18) (by omega) he18w_60 rfl 2 (by decide) (hts _ w_fl_RX4_14) rfl dX4_bringNew_172 ?_
      refine lv_iload hx hb dX4_bringNew_175 (lv_at hl 11 rfl) ?_
      refine lv_iload hx hb dX4_bringNew_177 (lv_at hl 0 rfl) ?_
      refine r_callVv (ci := 5) (As := [.int (nI d1), .int ((-3))]) hx hb hml hown hts hK hA hs (19) (by omega) he19w_60 rfl rfl (c_X5_add l G hGiw_60 (row := d1) (by omega) ((-3))) (cwV 2 hts (tbV w_ml_RX4_140 w_im_yX5_add w_se_yX5_add w_ini_RX5 w_cd_yX5_add) rfl rfl rfl (by decide +kernel) ⟨Nat.le_of_ble_eq_true rfl, Nat.le_of_ble_eq_true rfl⟩) rfl hl.1 rfl (Nat.le_of_ble_eq_true rfl) dX4_bringNew_179 ⟨by show _ ≤ bC ss (brg ss r k f).2; omega, by show _ ≤ bS ss (brg ss r k f).2; omega⟩ (fun ad_74 en_75 H locs hp_76 hs => ?_)
      obtain ⟨hsSa, hfSa⟩ := hp_76
      obtain ⟨Sa, eSa⟩ : ∃ z, z = sAddI S d1 ((-3)) := ⟨_, rfl⟩
      rw [← eSa] at hsSa
      obtain ⟨hWSa, hFSa⟩ := SchW_gi hW1 hsSa hfSa
      obtain ⟨hnw_77, hStw_77, hDew_77, hGiw_77, he18w_77⟩ := id hWSa
      have he3w_77 := hStw_77.2.1
      obtain ⟨fs7w_77, he7w_77⟩ := SetsAt_recv hStw_77.2.2.2.1
      obtain ⟨fs19w_77, he19w_77⟩ := SetsAt_recv hGiw_77
      obtain ⟨fs1w_77, he1w_77⟩ := DerAt_recv hDew_77
      have hokw_77 := hStw_77.2.2.2.2.2
      have h6w_77 := hokw_77.1
      have frw_77 := Fr_tr frw_60 hFSa
      have hl : lv_has ls 12 [(9, .int ((-3))), (11, .int (aR o1)), (10, .int (0)), (8, .int (nI eI)), (7, .int (nI dI)), (6, .int (nI cI)), (5, .int (nI (sL ss f))), (0, .ref (ad_74 18)), (1, .int (nI r)), (2, .int (nI k)), (3, .int (nI f)), (4, .int (nI d1))] := by rw [hFSa.1 18 (by omega) (by unfold scA; omega)]; exact hl
      refine lv_aload_n hx hb dX4_bringNew_182 rfl (lv_at hl 7 rfl) ?_
      refine r_get (ci := 4) (v := .ref (ad_74 19)) (C := RX4) (T := TX4) (N := 5) hx hb hts inlX4 hown hK hs (18) (by omega) he18w_77 rfl 2 (by decide) (hts _ w_fl_RX4_14) rfl dX4_bringNew_183 ?_
      refine lv_iload hx hb dX4_bringNew_186 (lv_at hl 11 rfl) ?_
      refine lv_iload hx hb dX4_bringNew_188 (lv_at hl 2 rfl) ?_
      refine r_callVv (ci := 5) (As := [.int (nI d1), .int (0)]) hx hb hml hown hts hK hA hs (19) (by omega) he19w_77 rfl rfl (c_X5_add l G hGiw_77 (row := d1) (by omega) (0)) (cwV 2 hts (tbV w_ml_RX4_140 w_im_yX5_add w_se_yX5_add w_ini_RX5 w_cd_yX5_add) rfl rfl rfl (by decide +kernel) ⟨Nat.le_of_ble_eq_true rfl, Nat.le_of_ble_eq_true rfl⟩) rfl hl.1 rfl (Nat.le_of_ble_eq_true rfl) dX4_bringNew_190 ⟨by show _ ≤ bC ss (brg ss r k f).2; omega, by show _ ≤ bS ss (brg ss r k f).2; omega⟩ (fun ad_78 en_79 H locs hp_80 hs => ?_)
      obtain ⟨hsSb, hfSb⟩ := hp_80
      obtain ⟨Sb, eSb⟩ : ∃ z, z = sAddI Sa d1 (0) := ⟨_, rfl⟩
      rw [← eSb] at hsSb
      obtain ⟨hWSb, hFSb⟩ := SchW_gi hWSa hsSb hfSb
      obtain ⟨hnw_81, hStw_81, hDew_81, hGiw_81, he18w_81⟩ := id hWSb
      have he3w_81 := hStw_81.2.1
      obtain ⟨fs7w_81, he7w_81⟩ := SetsAt_recv hStw_81.2.2.2.1
      obtain ⟨fs19w_81, he19w_81⟩ := SetsAt_recv hGiw_81
      obtain ⟨fs1w_81, he1w_81⟩ := DerAt_recv hDew_81
      have hokw_81 := hStw_81.2.2.2.2.2
      have h6w_81 := hokw_81.1
      have frw_81 := Fr_tr frw_77 hFSb
      have hl : lv_has ls 12 [(9, .int ((-3))), (11, .int (aR o1)), (10, .int (0)), (8, .int (nI eI)), (7, .int (nI dI)), (6, .int (nI cI)), (5, .int (nI (sL ss f))), (0, .ref (ad_78 18)), (1, .int (nI r)), (2, .int (nI k)), (3, .int (nI f)), (4, .int (nI d1))] := by rw [hFSb.1 18 (by omega) (by unfold scA; omega)]; exact hl
      refine lv_iload hx hb dX4_bringNew_193 (lv_at hl 0 rfl) ?_
      refine lv_bipush (v := (-3)) hx hb dX4_bringNew_195 (by decide) ?_
      refine lv_icmp_eq (tgt := 211) hx hb dX4_bringNew_197 (by decide) (fun _ => ?_) (fun c197 => absurd (by decide) c197)
      refine lv_iconst (v := 0) hx hb dX4_bringNew_211 (by decide) ?_
      refine r_zret (v := 0) (mc := bC ss (brg ss r k f).2) (ms := bS ss (brg ss r k f).2) hx hb hr hlk hs (by omega) (by omega) dX4_bringNew_212 ?_ hQ ?_
      · first | exact Or.inl rfl | exact Or.inr rfl | exact b2i_z _
      exact bn_no (ss := ss) (brg9n hhC hhD hhE h9 (hq1.trans h1n)) hWSb eSa eSb frw_81

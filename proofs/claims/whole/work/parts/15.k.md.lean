set_option maxHeartbeats 600000 in
set_option maxRecDepth 100000 in
theorem c_X8_choices_y1 (l : Launch) (G : rG) {n : Nat} {ad : Nat → Nat} {en : Nat → va_E} {ss ns : List Row} {c : Nat → Nat → Int32} {d u cv : Nat} (hM : MdW G n ad en ss ns c (nI u) 0 (nI d) (nI cv)) {goal s fu : Nat} (hd : 1 ≤ d ∧ d ≤ 80) (hu : u ≤ fu ∧ fu ≤ 3000) (hwa : c 32 d = nI goal) (hst : c 33 d = nI s) (hs3 : s ≤ 3000) (hg : 1 ≤ goal ∧ goal ≤ ss.length) (hcv : 1 ≤ cv ∧ cv ≤ 3000) (hxv : c 35 d = (-1)) : CV l G yX8_choices uX8_choices (3) (71) (0) (0) [.ref (ad 22), .int (nI s), .int (nI 1), .int (nI fu)] (n) (n) ad en (fun ad1 en1 => mFr ad en ad1 en1 ∧ ∃ c1, MdW G n ad en1 ss ns c1 (nI u) 0 (nI (d - 1)) (nI s) ∧ c1 37 s = (-1) ∧ c1 39 s = nI cv ∧ ∀ r t, ¬ ((r = 37 ∨ r = 39) ∧ t = s) → c1 r t = c r t) := by
  intro sz
  refine rMet (Qc := qV G (n) (fun ad1 en1 => mFr ad en ad1 en1 ∧ ∃ c1, MdW G n ad en1 ss ns c1 (nI u) 0 (nI (d - 1)) (nI s) ∧ c1 37 s = (-1) ∧ c1 39 s = nI cv ∧ ∀ r t, ¬ ((r = 37 ∨ r = 39) ∧ t = s) → c1 r t = c r t)) (cc := cX8_choices) (maxL := 8) (ret := none) (by decide) rfl (Nat.le_of_ble_eq_true rfl) ?_
  intro pP eE sS mM aA bB tT cC ls A Q hc hK hsz hA hs hl hQ
  obtain ⟨hx, hb, hr, hts, hown, hlk, hnm, hml⟩ := hc
  have hl : lv_has ls 8 [(0, .ref (ad 22)), (1, .int (nI s)), (2, .int (nI 1)), (3, .int (nI fu))] := hl
  have fr0 : ∀ k, k < 22 → en k = en k := fun _ _ => rfl
  obtain ⟨hn48, -, -, -, hok, hnk⟩ := id hM
  have h6 := hok.1
  have h8 := hnk.1
  
  refine lv_iload_n hx hb dX8_choices_0 rfl (lv_at hl 2 rfl) ?_
  refine lv_if_le (tgt := 173) hx hb dX8_choices_1 (by decide) (fun c1 => absurd c1 (by decide)) (fun _ => ?_)
  refine lv_aload_n hx hb dX8_choices_4 rfl (lv_at hl 0 rfl) ?_
  refine r_get (ci := 8) (v := .int (nI cv)) (C := RX8) (T := TX8) (N := 31) hx hb hts inlX8 hown hK hs (22) (by omega) (md22 hM) rfl 23 (by decide) (hts _ w_fl_RX8_115) rfl dX8_choices_5 ?_
  refine lv_if_eq (tgt := 173) hx hb dX8_choices_8 (by decide) (fun c8 => absurd c8 (fun q => by have := z_of (by omega) q; omega)) (fun _ => ?_)
  refine lv_iload_n hx hb dX8_choices_11 rfl (lv_at hl 2 rfl) ?_
  refine lv_iconst (v := 2) hx hb dX8_choices_12 (by decide) ?_
  refine lv_icmp_ne (tgt := 20) hx hb dX8_choices_13 (by decide) (fun _ => ?_) (fun c13 => absurd c13 (by decide))
  refine lv_iconst (v := 0) hx hb dX8_choices_20 (by decide) ?_
  refine lv_istore (lv' := [(4, .int (0)), (0, .ref (ad 22)), (1, .int (nI s)), (2, .int (nI 1)), (3, .int (nI fu))]) hx hb dX8_choices_21 hl (by decide) rfl (fun ls hl => ?_)
  refine lv_aload_n hx hb dX8_choices_23 rfl (lv_at hl 1 rfl) ?_
  refine r_get (ci := 8) (v := .ref (ad 35)) (C := RX8) (T := TX8) (N := 31) hx hb hts inlX8 hown hK hs (22) (by omega) (md22 hM) rfl 16 (by decide) (hts _ w_fl_RX8_48) rfl dX8_choices_24 ?_
  refine lv_aload_n hx hb dX8_choices_27 rfl (lv_at hl 1 rfl) ?_
  refine r_get (ci := 8) (v := .int (nI d)) (C := RX8) (T := TX8) (N := 31) hx hb hts inlX8 hown hK hs (22) (by omega) (md22 hM) rfl 17 (by decide) (hts _ w_fl_RX8_109) rfl dX8_choices_28 ?_
  refine r_ialdN (t := d) hx hb hK hs (35) (by omega) (md35 hM) (rfl) (by omega) (by omega) dX8_choices_31 ?_
  refine r_topi (y := (-1)) (hxv) ?_
  refine lv_if_lt (tgt := 40) hx hb dX8_choices_32 (by decide) (fun _ => ?_) (fun c32 => absurd (by decide) c32)
  refine lv_aload_n hx hb dX8_choices_40 rfl (lv_at hl 1 rfl) ?_
  refine r_get (ci := 8) (v := .ref (ad 37)) (C := RX8) (T := TX8) (N := 31) hx hb hts inlX8 hown hK hs (22) (by omega) (md22 hM) rfl 19 (by decide) (hts _ w_fl_RX8_54) rfl dX8_choices_41 ?_
  refine lv_iload_n hx hb dX8_choices_44 rfl (lv_at hl 2 rfl) ?_
  refine lv_aload_n hx hb dX8_choices_45 rfl (lv_at hl 1 rfl) ?_
  refine r_get (ci := 8) (v := .ref (ad 35)) (C := RX8) (T := TX8) (N := 31) hx hb hts inlX8 hown hK hs (22) (by omega) (md22 hM) rfl 16 (by decide) (hts _ w_fl_RX8_48) rfl dX8_choices_46 ?_
  refine lv_aload_n hx hb dX8_choices_49 rfl (lv_at hl 1 rfl) ?_
  refine r_get (ci := 8) (v := .int (nI d)) (C := RX8) (T := TX8) (N := 31) hx hb hts inlX8 hown hK hs (22) (by omega) (md22 hM) rfl 17 (by decide) (hts _ w_fl_RX8_109) rfl dX8_choices_50 ?_
  refine r_ialdN (t := d) hx hb hK hs (35) (by omega) (md35 hM) (rfl) (by omega) (by omega) dX8_choices_53 ?_
  refine r_topi (y := (-1)) (hxv) ?_
  refine r_iastN (t := s) hx hb hK hs (37) (by omega) (md37 hM) (rfl) (by omega) (by omega) dX8_choices_54 (fun H locs en_2 hen_2 hs => ?_)
  obtain ⟨c_4, ec_4⟩ : ∃ z, z = cU c 37 (s) ((-1)) := ⟨_, rfl⟩
  have hM_3 : MdW G n ad en_2 ss ns c_4 (nI u) 0 (nI d) (nI cv) := md_ar (f := upd (c 37) (s) ((-1))) hM 37 (by decide) (by decide) hen_2 ec_4
  have fr_5 : ∀ k, k < 22 → en_2 k = en k := fun k hk => Eq.trans (by rw [hen_2]; exact va_up_ne _ _ (by omega)) (fr0 k hk)
  refine lv_iload hx hb dX8_choices_55 (lv_at hl 0 rfl) ?_
  refine lv_if_eq (tgt := 73) hx hb dX8_choices_57 (by decide) (fun _ => ?_) (fun c57 => absurd (by decide) c57)
  refine lv_aload_n hx hb dX8_choices_73 rfl (lv_at hl 1 rfl) ?_
  refine r_get (ci := 8) (v := .ref (ad 39)) (C := RX8) (T := TX8) (N := 31) hx hb hts inlX8 hown hK hs (22) (by omega) (md22 hM_3) rfl 21 (by decide) (hts _ w_fl_RX8_60) rfl dX8_choices_74 ?_
  refine lv_iload_n hx hb dX8_choices_77 rfl (lv_at hl 2 rfl) ?_
  refine lv_aload_n hx hb dX8_choices_78 rfl (lv_at hl 1 rfl) ?_
  refine r_get (ci := 8) (v := .int (nI cv)) (C := RX8) (T := TX8) (N := 31) hx hb hts inlX8 hown hK hs (22) (by omega) (md22 hM_3) rfl 23 (by decide) (hts _ w_fl_RX8_115) rfl dX8_choices_79 ?_
  refine r_iastN (t := s) hx hb hK hs (39) (by omega) (md39 hM_3) (rfl) (by omega) (by omega) dX8_choices_82 (fun H locs en_7 hen_7 hs => ?_)
  obtain ⟨c_9, ec_9⟩ : ∃ z, z = cU c_4 39 (s) (nI cv) := ⟨_, rfl⟩
  have hM_8 : MdW G n ad en_7 ss ns c_9 (nI u) 0 (nI d) (nI cv) := md_ar (f := upd (c_4 39) (s) (nI cv)) hM_3 39 (by decide) (by decide) hen_7 ec_9
  have fr_10 : ∀ k, k < 22 → en_7 k = en k := fun k hk => Eq.trans (by rw [hen_7]; exact va_up_ne _ _ (by omega)) (fr_5 k hk)
  refine lv_aload_n hx hb dX8_choices_83 rfl (lv_at hl 1 rfl) ?_
  refine lv_iconst (v := 1) hx hb dX8_choices_84 (by decide) ?_
  obtain ⟨d0, hd0⟩ : ∃ d0, d = d0 + 1 := ⟨d - 1, by omega⟩
  subst hd0
  refine r_callVv (ci := 8) (As := [.int (1)]) hx hb hml hown hts hK hA hs (22) (by omega) (md22 hM_8) rfl rfl (c_X8_close l G hM_8 (d := d0) true (by omega)) (cwV 1 hts (tbV w_ml_RX8_151 w_im_yX8_close w_se_yX8_close w_ini_RX8 w_cd_yX8_close) rfl rfl rfl (by decide +kernel) ⟨Nat.le_of_ble_eq_true rfl, Nat.le_of_ble_eq_true rfl⟩) rfl hl.1 rfl (Nat.le_of_ble_eq_true rfl) dX8_choices_85 ⟨Nat.le_refl _, Nat.le_refl _⟩ (fun ad_11 en_12 H locs hp_13 hs => ?_)
  obtain ⟨⟨hAm_14, hFm_14⟩, hMm_14⟩ := hp_13
  subst hAm_14
  have fr_15 : ∀ k, k < 22 → en_12 k = en k := fun k hk => Eq.trans (hFm_14 k hk) (fr_10 k hk)
  refine r_vret (mc := 0) (ms := 0) hx hb hr hlk hs (Nat.le_refl _) (Nat.le_refl _) dX8_choices_88 hQ ?_
  have hcl1 : c_9 33 (d0 + 1) = nI s := by rw [ec_9, cU_o (by omega), ec_4, cU_o (by omega)]; exact hst
  have hMe : MdW G n ad en_12 ss ns c_9 (nI u) 0 (nI d0) (nI s) := by have q := hMm_14; rw [if_pos rfl, hcl1] at q; exact q
  exact ⟨⟨rfl, fr_15⟩, c_9, hMe, by rw [ec_9, cU_o (by omega), ec_4, cU_s], by rw [ec_9, cU_s], fun r t h => by rw [ec_9, cU_o (by omega), ec_4, cU_o (by omega)]⟩

set_option maxHeartbeats 600000 in
set_option maxRecDepth 100000 in
theorem c_X8_choices_y1b (l : Launch) (G : rG) {n : Nat} {ad : Nat → Nat} {en : Nat → va_E} {ss ns : List Row} {c : Nat → Nat → Int32} {d u cv : Nat} (hM : MdW G n ad en ss ns c (nI u) 0 (nI d) (nI cv)) {goal s fu : Nat} (hd : 1 ≤ d ∧ d ≤ 80) (hu : u ≤ fu ∧ fu ≤ 3000) (hwa : c 32 d = nI goal) (hst : c 33 d = nI s) (hs3 : s ≤ 3000) (hg : 1 ≤ goal ∧ goal ≤ ss.length) (hcv : 1 ≤ cv ∧ cv ≤ 3000) (hxv : c 35 d = (-2)) : CV l G yX8_choices uX8_choices (3) (71) (0) (0) [.ref (ad 22), .int (nI s), .int (nI 1), .int (nI fu)] (n) (n) ad en (fun ad1 en1 => mFr ad en ad1 en1 ∧ ∃ c1, MdW G n ad en1 ss ns c1 (nI u) 0 (nI (d - 1)) (nI s) ∧ c1 37 s = (-2) ∧ c1 39 s = nI cv ∧ ∀ r t, ¬ ((r = 37 ∨ r = 39) ∧ t = s) → c1 r t = c r t) := by
  intro sz
  refine rMet (Qc := qV G (n) (fun ad1 en1 => mFr ad en ad1 en1 ∧ ∃ c1, MdW G n ad en1 ss ns c1 (nI u) 0 (nI (d - 1)) (nI s) ∧ c1 37 s = (-2) ∧ c1 39 s = nI cv ∧ ∀ r t, ¬ ((r = 37 ∨ r = 39) ∧ t = s) → c1 r t = c r t)) (cc := cX8_choices) (maxL := 8) (ret := none) (by decide) rfl (Nat.le_of_ble_eq_true rfl) ?_
  intro pP eE sS mM aA bB tT cC ls A Q hc hK hsz hA hs hl hQ
  obtain ⟨hx, hb, hr, hts, hown, hlk, hnm, hml⟩ := hc
  have hl : lv_has ls 8 [(0, .ref (ad 22)), (1, .int (nI s)), (2, .int (nI 1)), (3, .int (nI fu))] := hl
  have fr0 : ∀ k, k < 22 → en k = en k := fun _ _ => rfl
  obtain ⟨hn48, -, -, -, hok, hnk⟩ := id hM
  have h6 := hok.1
  have h8 := hnk.1
  
  refine lv_iload_n hx hb dX8_choices_0 rfl (lv_at hl 2 rfl) ?_
  refine lv_if_le (tgt := 173) hx hb dX8_choices_1 (by decide) (fun c1 => absurd c1 (by decide)) (fun _ => ?_)
  refine lv_aload_n hx hb dX8_choices_4 rfl (lv_at hl 0 rfl) ?_
  refine r_get (ci := 8) (v := .int (nI cv)) (C := RX8) (T := TX8) (N := 31) hx hb hts inlX8 hown hK hs (22) (by omega) (md22 hM) rfl 23 (by decide) (hts _ w_fl_RX8_115) rfl dX8_choices_5 ?_
  refine lv_if_eq (tgt := 173) hx hb dX8_choices_8 (by decide) (fun c8 => absurd c8 (fun q => by have := z_of (by omega) q; omega)) (fun _ => ?_)
  refine lv_iload_n hx hb dX8_choices_11 rfl (lv_at hl 2 rfl) ?_
  refine lv_iconst (v := 2) hx hb dX8_choices_12 (by decide) ?_
  refine lv_icmp_ne (tgt := 20) hx hb dX8_choices_13 (by decide) (fun _ => ?_) (fun c13 => absurd c13 (by decide))
  refine lv_iconst (v := 0) hx hb dX8_choices_20 (by decide) ?_
  refine lv_istore (lv' := [(4, .int (0)), (0, .ref (ad 22)), (1, .int (nI s)), (2, .int (nI 1)), (3, .int (nI fu))]) hx hb dX8_choices_21 hl (by decide) rfl (fun ls hl => ?_)
  refine lv_aload_n hx hb dX8_choices_23 rfl (lv_at hl 1 rfl) ?_
  refine r_get (ci := 8) (v := .ref (ad 35)) (C := RX8) (T := TX8) (N := 31) hx hb hts inlX8 hown hK hs (22) (by omega) (md22 hM) rfl 16 (by decide) (hts _ w_fl_RX8_48) rfl dX8_choices_24 ?_
  refine lv_aload_n hx hb dX8_choices_27 rfl (lv_at hl 1 rfl) ?_
  refine r_get (ci := 8) (v := .int (nI d)) (C := RX8) (T := TX8) (N := 31) hx hb hts inlX8 hown hK hs (22) (by omega) (md22 hM) rfl 17 (by decide) (hts _ w_fl_RX8_109) rfl dX8_choices_28 ?_
  refine r_ialdN (t := d) hx hb hK hs (35) (by omega) (md35 hM) (rfl) (by omega) (by omega) dX8_choices_31 ?_
  refine r_topi (y := (-2)) (hxv) ?_
  refine lv_if_lt (tgt := 40) hx hb dX8_choices_32 (by decide) (fun _ => ?_) (fun c32 => absurd (by decide) c32)
  refine lv_aload_n hx hb dX8_choices_40 rfl (lv_at hl 1 rfl) ?_
  refine r_get (ci := 8) (v := .ref (ad 37)) (C := RX8) (T := TX8) (N := 31) hx hb hts inlX8 hown hK hs (22) (by omega) (md22 hM) rfl 19 (by decide) (hts _ w_fl_RX8_54) rfl dX8_choices_41 ?_
  refine lv_iload_n hx hb dX8_choices_44 rfl (lv_at hl 2 rfl) ?_
  refine lv_aload_n hx hb dX8_choices_45 rfl (lv_at hl 1 rfl) ?_
  refine r_get (ci := 8) (v := .ref (ad 35)) (C := RX8) (T := TX8) (N := 31) hx hb hts inlX8 hown hK hs (22) (by omega) (md22 hM) rfl 16 (by decide) (hts _ w_fl_RX8_48) rfl dX8_choices_46 ?_
  refine lv_aload_n hx hb dX8_choices_49 rfl (lv_at hl 1 rfl) ?_
  refine r_get (ci := 8) (v := .int (nI d)) (C := RX8) (T := TX8) (N := 31) hx hb hts inlX8 hown hK hs (22) (by omega) (md22 hM) rfl 17 (by decide) (hts _ w_fl_RX8_109) rfl dX8_choices_50 ?_
  refine r_ialdN (t := d) hx hb hK hs (35) (by omega) (md35 hM) (rfl) (by omega) (by omega) dX8_choices_53 ?_
  refine r_topi (y := (-2)) (hxv) ?_
  refine r_iastN (t := s) hx hb hK hs (37) (by omega) (md37 hM) (rfl) (by omega) (by omega) dX8_choices_54 (fun H locs en_2 hen_2 hs => ?_)
  obtain ⟨c_4, ec_4⟩ : ∃ z, z = cU c 37 (s) ((-2)) := ⟨_, rfl⟩
  have hM_3 : MdW G n ad en_2 ss ns c_4 (nI u) 0 (nI d) (nI cv) := md_ar (f := upd (c 37) (s) ((-2))) hM 37 (by decide) (by decide) hen_2 ec_4
  have fr_5 : ∀ k, k < 22 → en_2 k = en k := fun k hk => Eq.trans (by rw [hen_2]; exact va_up_ne _ _ (by omega)) (fr0 k hk)
  refine lv_iload hx hb dX8_choices_55 (lv_at hl 0 rfl) ?_
  refine lv_if_eq (tgt := 73) hx hb dX8_choices_57 (by decide) (fun _ => ?_) (fun c57 => absurd (by decide) c57)
  refine lv_aload_n hx hb dX8_choices_73 rfl (lv_at hl 1 rfl) ?_
  refine r_get (ci := 8) (v := .ref (ad 39)) (C := RX8) (T := TX8) (N := 31) hx hb hts inlX8 hown hK hs (22) (by omega) (md22 hM_3) rfl 21 (by decide) (hts _ w_fl_RX8_60) rfl dX8_choices_74 ?_
  refine lv_iload_n hx hb dX8_choices_77 rfl (lv_at hl 2 rfl) ?_
  refine lv_aload_n hx hb dX8_choices_78 rfl (lv_at hl 1 rfl) ?_
  refine r_get (ci := 8) (v := .int (nI cv)) (C := RX8) (T := TX8) (N := 31) hx hb hts inlX8 hown hK hs (22) (by omega) (md22 hM_3) rfl 23 (by decide) (hts _ w_fl_RX8_115) rfl dX8_choices_79 ?_
  refine r_iastN (t := s) hx hb hK hs (39) (by omega) (md39 hM_3) (rfl) (by omega) (by omega) dX8_choices_82 (fun H locs en_7 hen_7 hs => ?_)
  obtain ⟨c_9, ec_9⟩ : ∃ z, z = cU c_4 39 (s) (nI cv) := ⟨_, rfl⟩
  have hM_8 : MdW G n ad en_7 ss ns c_9 (nI u) 0 (nI d) (nI cv) := md_ar (f := upd (c_4 39) (s) (nI cv)) hM_3 39 (by decide) (by decide) hen_7 ec_9
  have fr_10 : ∀ k, k < 22 → en_7 k = en k := fun k hk => Eq.trans (by rw [hen_7]; exact va_up_ne _ _ (by omega)) (fr_5 k hk)
  refine lv_aload_n hx hb dX8_choices_83 rfl (lv_at hl 1 rfl) ?_
  refine lv_iconst (v := 1) hx hb dX8_choices_84 (by decide) ?_
  obtain ⟨d0, hd0⟩ : ∃ d0, d = d0 + 1 := ⟨d - 1, by omega⟩
  subst hd0
  refine r_callVv (ci := 8) (As := [.int (1)]) hx hb hml hown hts hK hA hs (22) (by omega) (md22 hM_8) rfl rfl (c_X8_close l G hM_8 (d := d0) true (by omega)) (cwV 1 hts (tbV w_ml_RX8_151 w_im_yX8_close w_se_yX8_close w_ini_RX8 w_cd_yX8_close) rfl rfl rfl (by decide +kernel) ⟨Nat.le_of_ble_eq_true rfl, Nat.le_of_ble_eq_true rfl⟩) rfl hl.1 rfl (Nat.le_of_ble_eq_true rfl) dX8_choices_85 ⟨Nat.le_refl _, Nat.le_refl _⟩ (fun ad_11 en_12 H locs hp_13 hs => ?_)
  obtain ⟨⟨hAm_14, hFm_14⟩, hMm_14⟩ := hp_13
  subst hAm_14
  have fr_15 : ∀ k, k < 22 → en_12 k = en k := fun k hk => Eq.trans (hFm_14 k hk) (fr_10 k hk)
  refine r_vret (mc := 0) (ms := 0) hx hb hr hlk hs (Nat.le_refl _) (Nat.le_refl _) dX8_choices_88 hQ ?_
  have hcl1 : c_9 33 (d0 + 1) = nI s := by rw [ec_9, cU_o (by omega), ec_4, cU_o (by omega)]; exact hst
  have hMe : MdW G n ad en_12 ss ns c_9 (nI u) 0 (nI d0) (nI s) := by have q := hMm_14; rw [if_pos rfl, hcl1] at q; exact q
  exact ⟨⟨rfl, fr_15⟩, c_9, hMe, by rw [ec_9, cU_o (by omega), ec_4, cU_s], by rw [ec_9, cU_s], fun r t h => by rw [ec_9, cU_o (by omega), ec_4, cU_o (by omega)]⟩

set_option maxHeartbeats 600000 in
set_option maxRecDepth 100000 in
theorem c_X8_choices_y2 (l : Launch) (G : rG) {n : Nat} {ad : Nat → Nat} {en : Nat → va_E} {ss ns : List Row} {c : Nat → Nat → Int32} {d u cv : Nat} (hM : MdW G n ad en ss ns c (nI u) 0 (nI d) (nI cv)) {goal s fu : Nat} (hd : 1 ≤ d ∧ d ≤ 80) (hu : u ≤ fu ∧ fu ≤ 3000) (hwa : c 32 d = nI goal) (hst : c 33 d = nI s) (hs3 : s ≤ 3000) (hg : 1 ≤ goal ∧ goal ≤ ss.length) (hcv : 1 ≤ cv ∧ cv ≤ 3000) {f0 : Nat} (hf0 : 1 ≤ f0 ∧ f0 ≤ 600) (hxv : c 35 d = nI f0) : CV l G yX8_choices uX8_choices (3) (71) (0) (0) [.ref (ad 22), .int (nI s), .int (nI 2), .int (nI fu)] (n) (n) ad en (fun ad1 en1 => mFr ad en ad1 en1 ∧ ∃ c1, MdW G n ad en1 ss ns c1 (nI u) 0 (nI (d - 1)) (nI s) ∧ c1 37 s = nI f0 ∧ c1 40 s = nI cv ∧ ∀ r t, ¬ ((r = 37 ∨ r = 40) ∧ t = s) → c1 r t = c r t) := by
  intro sz
  refine rMet (Qc := qV G (n) (fun ad1 en1 => mFr ad en ad1 en1 ∧ ∃ c1, MdW G n ad en1 ss ns c1 (nI u) 0 (nI (d - 1)) (nI s) ∧ c1 37 s = nI f0 ∧ c1 40 s = nI cv ∧ ∀ r t, ¬ ((r = 37 ∨ r = 40) ∧ t = s) → c1 r t = c r t)) (cc := cX8_choices) (maxL := 8) (ret := none) (by decide) rfl (Nat.le_of_ble_eq_true rfl) ?_
  intro pP eE sS mM aA bB tT cC ls A Q hc hK hsz hA hs hl hQ
  obtain ⟨hx, hb, hr, hts, hown, hlk, hnm, hml⟩ := hc
  have hl : lv_has ls 8 [(0, .ref (ad 22)), (1, .int (nI s)), (2, .int (nI 2)), (3, .int (nI fu))] := hl
  have fr0 : ∀ k, k < 22 → en k = en k := fun _ _ => rfl
  obtain ⟨hn48, -, -, -, hok, hnk⟩ := id hM
  have h6 := hok.1
  have h8 := hnk.1
  
  refine lv_iload_n hx hb dX8_choices_0 rfl (lv_at hl 2 rfl) ?_
  refine lv_if_le (tgt := 173) hx hb dX8_choices_1 (by decide) (fun c1 => absurd c1 (by decide)) (fun _ => ?_)
  refine lv_aload_n hx hb dX8_choices_4 rfl (lv_at hl 0 rfl) ?_
  refine r_get (ci := 8) (v := .int (nI cv)) (C := RX8) (T := TX8) (N := 31) hx hb hts inlX8 hown hK hs (22) (by omega) (md22 hM) rfl 23 (by decide) (hts _ w_fl_RX8_115) rfl dX8_choices_5 ?_
  refine lv_if_eq (tgt := 173) hx hb dX8_choices_8 (by decide) (fun c8 => absurd c8 (fun q => by have := z_of (by omega) q; omega)) (fun _ => ?_)
  refine lv_iload_n hx hb dX8_choices_11 rfl (lv_at hl 2 rfl) ?_
  refine lv_iconst (v := 2) hx hb dX8_choices_12 (by decide) ?_
  refine lv_icmp_ne (tgt := 20) hx hb dX8_choices_13 (by decide) (fun c13 => absurd (by decide) c13) (fun _ => ?_)
  refine lv_iconst (v := 1) hx hb dX8_choices_16 (by decide) ?_
  refine lv_goto (tgt := 21) hx hb dX8_choices_17 (by decide) ?_
  refine lv_istore (lv' := [(4, .int (1)), (0, .ref (ad 22)), (1, .int (nI s)), (2, .int (nI 2)), (3, .int (nI fu))]) hx hb dX8_choices_21 hl (by decide) rfl (fun ls hl => ?_)
  refine lv_aload_n hx hb dX8_choices_23 rfl (lv_at hl 1 rfl) ?_
  refine r_get (ci := 8) (v := .ref (ad 35)) (C := RX8) (T := TX8) (N := 31) hx hb hts inlX8 hown hK hs (22) (by omega) (md22 hM) rfl 16 (by decide) (hts _ w_fl_RX8_48) rfl dX8_choices_24 ?_
  refine lv_aload_n hx hb dX8_choices_27 rfl (lv_at hl 1 rfl) ?_
  refine r_get (ci := 8) (v := .int (nI d)) (C := RX8) (T := TX8) (N := 31) hx hb hts inlX8 hown hK hs (22) (by omega) (md22 hM) rfl 17 (by decide) (hts _ w_fl_RX8_109) rfl dX8_choices_28 ?_
  refine r_ialdN (t := d) hx hb hK hs (35) (by omega) (md35 hM) (rfl) (by omega) (by omega) dX8_choices_31 ?_
  refine r_topi (y := nI f0) (hxv) ?_
  refine lv_if_lt (tgt := 40) hx hb dX8_choices_32 (by decide) (fun c32 => absurd c32 (nI_pos (by omega))) (fun _ => ?_)
  refine lv_iload hx hb dX8_choices_35 (lv_at hl 0 rfl) ?_
  refine lv_if_eq (tgt := 89) hx hb dX8_choices_37 (by decide) (fun c37 => absurd c37 (by decide)) (fun _ => ?_)
  refine lv_aload_n hx hb dX8_choices_40 rfl (lv_at hl 1 rfl) ?_
  refine r_get (ci := 8) (v := .ref (ad 37)) (C := RX8) (T := TX8) (N := 31) hx hb hts inlX8 hown hK hs (22) (by omega) (md22 hM) rfl 19 (by decide) (hts _ w_fl_RX8_54) rfl dX8_choices_41 ?_
  refine lv_iload_n hx hb dX8_choices_44 rfl (lv_at hl 2 rfl) ?_
  refine lv_aload_n hx hb dX8_choices_45 rfl (lv_at hl 1 rfl) ?_
  refine r_get (ci := 8) (v := .ref (ad 35)) (C := RX8) (T := TX8) (N := 31) hx hb hts inlX8 hown hK hs (22) (by omega) (md22 hM) rfl 16 (by decide) (hts _ w_fl_RX8_48) rfl dX8_choices_46 ?_
  refine lv_aload_n hx hb dX8_choices_49 rfl (lv_at hl 1 rfl) ?_
  refine r_get (ci := 8) (v := .int (nI d)) (C := RX8) (T := TX8) (N := 31) hx hb hts inlX8 hown hK hs (22) (by omega) (md22 hM) rfl 17 (by decide) (hts _ w_fl_RX8_109) rfl dX8_choices_50 ?_
  refine r_ialdN (t := d) hx hb hK hs (35) (by omega) (md35 hM) (rfl) (by omega) (by omega) dX8_choices_53 ?_
  refine r_topi (y := nI f0) (hxv) ?_
  refine r_iastN (t := s) hx hb hK hs (37) (by omega) (md37 hM) (rfl) (by omega) (by omega) dX8_choices_54 (fun H locs en_2 hen_2 hs => ?_)
  obtain ⟨c_4, ec_4⟩ : ∃ z, z = cU c 37 (s) (nI f0) := ⟨_, rfl⟩
  have hM_3 : MdW G n ad en_2 ss ns c_4 (nI u) 0 (nI d) (nI cv) := md_ar (f := upd (c 37) (s) (nI f0)) hM 37 (by decide) (by decide) hen_2 ec_4
  have fr_5 : ∀ k, k < 22 → en_2 k = en k := fun k hk => Eq.trans (by rw [hen_2]; exact va_up_ne _ _ (by omega)) (fr0 k hk)
  refine lv_iload hx hb dX8_choices_55 (lv_at hl 0 rfl) ?_
  refine lv_if_eq (tgt := 73) hx hb dX8_choices_57 (by decide) (fun c57 => absurd c57 (by decide)) (fun _ => ?_)
  refine lv_aload_n hx hb dX8_choices_60 rfl (lv_at hl 1 rfl) ?_
  refine r_get (ci := 8) (v := .ref (ad 40)) (C := RX8) (T := TX8) (N := 31) hx hb hts inlX8 hown hK hs (22) (by omega) (md22 hM_3) rfl 22 (by decide) (hts _ w_fl_RX8_63) rfl dX8_choices_61 ?_
  refine lv_iload_n hx hb dX8_choices_64 rfl (lv_at hl 2 rfl) ?_
  refine lv_aload_n hx hb dX8_choices_65 rfl (lv_at hl 1 rfl) ?_
  refine r_get (ci := 8) (v := .int (nI cv)) (C := RX8) (T := TX8) (N := 31) hx hb hts inlX8 hown hK hs (22) (by omega) (md22 hM_3) rfl 23 (by decide) (hts _ w_fl_RX8_115) rfl dX8_choices_66 ?_
  refine r_iastN (t := s) hx hb hK hs (40) (by omega) (md40 hM_3) (rfl) (by omega) (by omega) dX8_choices_69 (fun H locs en_7 hen_7 hs => ?_)
  obtain ⟨c_9, ec_9⟩ : ∃ z, z = cU c_4 40 (s) (nI cv) := ⟨_, rfl⟩
  have hM_8 : MdW G n ad en_7 ss ns c_9 (nI u) 0 (nI d) (nI cv) := md_ar (f := upd (c_4 40) (s) (nI cv)) hM_3 40 (by decide) (by decide) hen_7 ec_9
  have fr_10 : ∀ k, k < 22 → en_7 k = en k := fun k hk => Eq.trans (by rw [hen_7]; exact va_up_ne _ _ (by omega)) (fr_5 k hk)
  refine lv_goto (tgt := 83) hx hb dX8_choices_70 (by decide) ?_
  refine lv_aload_n hx hb dX8_choices_83 rfl (lv_at hl 1 rfl) ?_
  refine lv_iconst (v := 1) hx hb dX8_choices_84 (by decide) ?_
  obtain ⟨d0, hd0⟩ : ∃ d0, d = d0 + 1 := ⟨d - 1, by omega⟩
  subst hd0
  refine r_callVv (ci := 8) (As := [.int (1)]) hx hb hml hown hts hK hA hs (22) (by omega) (md22 hM_8) rfl rfl (c_X8_close l G hM_8 (d := d0) true (by omega)) (cwV 1 hts (tbV w_ml_RX8_151 w_im_yX8_close w_se_yX8_close w_ini_RX8 w_cd_yX8_close) rfl rfl rfl (by decide +kernel) ⟨Nat.le_of_ble_eq_true rfl, Nat.le_of_ble_eq_true rfl⟩) rfl hl.1 rfl (Nat.le_of_ble_eq_true rfl) dX8_choices_85 ⟨Nat.le_refl _, Nat.le_refl _⟩ (fun ad_11 en_12 H locs hp_13 hs => ?_)
  obtain ⟨⟨hAm_14, hFm_14⟩, hMm_14⟩ := hp_13
  subst hAm_14
  have fr_15 : ∀ k, k < 22 → en_12 k = en k := fun k hk => Eq.trans (hFm_14 k hk) (fr_10 k hk)
  refine r_vret (mc := 0) (ms := 0) hx hb hr hlk hs (Nat.le_refl _) (Nat.le_refl _) dX8_choices_88 hQ ?_
  have hcl1 : c_9 33 (d0 + 1) = nI s := by rw [ec_9, cU_o (by omega), ec_4, cU_o (by omega)]; exact hst
  have hMe : MdW G n ad en_12 ss ns c_9 (nI u) 0 (nI d0) (nI s) := by have q := hMm_14; rw [if_pos rfl, hcl1] at q; exact q
  exact ⟨⟨rfl, fr_15⟩, c_9, hMe, by rw [ec_9, cU_o (by omega), ec_4, cU_s], by rw [ec_9, cU_s], fun r t h => by rw [ec_9, cU_o (by omega), ec_4, cU_o (by omega)]⟩

set_option maxHeartbeats 600000 in
set_option maxRecDepth 100000 in
theorem c_X8_choices_y3 (l : Launch) (G : rG) {n : Nat} {ad : Nat → Nat} {en : Nat → va_E} {ss ns : List Row} {c : Nat → Nat → Int32} {d u cv : Nat} (hM : MdW G n ad en ss ns c (nI u) 0 (nI d) (nI cv)) {goal s fu : Nat} (hd : 1 ≤ d ∧ d ≤ 80) (hu : u ≤ fu ∧ fu ≤ 3000) (hwa : c 32 d = nI goal) (hst : c 33 d = nI s) (hs3 : s ≤ 3000) (hg : 1 ≤ goal ∧ goal ≤ ss.length) (hcv : 1 ≤ cv ∧ cv ≤ 3000) {Γ : Nat → Bool} (hR : RowM c d Γ) (hΓ : ∀ y, Γ y = true → 1 ≤ y ∧ y ≤ ss.length) {f0 : Nat} (hf0 : 1 ≤ f0 ∧ f0 ≤ ss.length) (hxv : c 35 d = nI f0) : CV l G yX8_choices uX8_choices (3) (71) (0) (0) [.ref (ad 22), .int (nI s), .int (nI 1), .int (nI fu)] (n) (n) ad en (fun ad1 en1 => mFr ad en ad1 en1 ∧ ∃ c2 : Nat → Nat → Int32, c2 39 s = nI cv ∧ c2 34 d = 2 ∧ (∀ r t, ¬ (r = 39 ∧ t = s) → ¬ (r = 34 ∧ t = d) → c2 r t = c r t) ∧ ChP G n ad en1 ns c2 u d fu (nI cv) ss 13 2 f0 Γ goal) := by
  intro sz
  refine rMet (Qc := qV G (n) (fun ad1 en1 => mFr ad en ad1 en1 ∧ ∃ c2 : Nat → Nat → Int32, c2 39 s = nI cv ∧ c2 34 d = 2 ∧ (∀ r t, ¬ (r = 39 ∧ t = s) → ¬ (r = 34 ∧ t = d) → c2 r t = c r t) ∧ ChP G n ad en1 ns c2 u d fu (nI cv) ss 13 2 f0 Γ goal)) (cc := cX8_choices) (maxL := 8) (ret := none) (by decide) rfl (Nat.le_of_ble_eq_true rfl) ?_
  intro pP eE sS mM aA bB tT cC ls A Q hc hK hsz hA hs hl hQ
  obtain ⟨hx, hb, hr, hts, hown, hlk, hnm, hml⟩ := hc
  have hl : lv_has ls 8 [(0, .ref (ad 22)), (1, .int (nI s)), (2, .int (nI 1)), (3, .int (nI fu))] := hl
  have fr0 : ∀ k, k < 22 → en k = en k := fun _ _ => rfl
  obtain ⟨hn48, -, -, -, hok, hnk⟩ := id hM
  have h6 := hok.1
  have h8 := hnk.1
  have hBx : brg ss 13 2 f0 = (some (0, 0), ss) := brgx (by decide) (by decide) (by decide)
  have hLf := sLR_lt hok f0
  refine lv_iload_n hx hb dX8_choices_0 rfl (lv_at hl 2 rfl) ?_
  refine lv_if_le (tgt := 173) hx hb dX8_choices_1 (by decide) (fun c1 => absurd c1 (by decide)) (fun _ => ?_)
  refine lv_aload_n hx hb dX8_choices_4 rfl (lv_at hl 0 rfl) ?_
  refine r_get (ci := 8) (v := .int (nI cv)) (C := RX8) (T := TX8) (N := 31) hx hb hts inlX8 hown hK hs (22) (by omega) (md22 hM) rfl 23 (by decide) (hts _ w_fl_RX8_115) rfl dX8_choices_5 ?_
  refine lv_if_eq (tgt := 173) hx hb dX8_choices_8 (by decide) (fun c8 => absurd c8 (fun q => by have := z_of (by omega) q; omega)) (fun _ => ?_)
  refine lv_iload_n hx hb dX8_choices_11 rfl (lv_at hl 2 rfl) ?_
  refine lv_iconst (v := 2) hx hb dX8_choices_12 (by decide) ?_
  refine lv_icmp_ne (tgt := 20) hx hb dX8_choices_13 (by decide) (fun _ => ?_) (fun c13 => absurd c13 (by decide))
  refine lv_iconst (v := 0) hx hb dX8_choices_20 (by decide) ?_
  refine lv_istore (lv' := [(4, .int (0)), (0, .ref (ad 22)), (1, .int (nI s)), (2, .int (nI 1)), (3, .int (nI fu))]) hx hb dX8_choices_21 hl (by decide) rfl (fun ls hl => ?_)
  refine lv_aload_n hx hb dX8_choices_23 rfl (lv_at hl 1 rfl) ?_
  refine r_get (ci := 8) (v := .ref (ad 35)) (C := RX8) (T := TX8) (N := 31) hx hb hts inlX8 hown hK hs (22) (by omega) (md22 hM) rfl 16 (by decide) (hts _ w_fl_RX8_48) rfl dX8_choices_24 ?_
  refine lv_aload_n hx hb dX8_choices_27 rfl (lv_at hl 1 rfl) ?_
  refine r_get (ci := 8) (v := .int (nI d)) (C := RX8) (T := TX8) (N := 31) hx hb hts inlX8 hown hK hs (22) (by omega) (md22 hM) rfl 17 (by decide) (hts _ w_fl_RX8_109) rfl dX8_choices_28 ?_
  refine r_ialdN (t := d) hx hb hK hs (35) (by omega) (md35 hM) (rfl) (by omega) (by omega) dX8_choices_31 ?_
  refine r_topi (y := nI f0) (hxv) ?_
  refine lv_if_lt (tgt := 40) hx hb dX8_choices_32 (by decide) (fun c32 => absurd c32 (nI_pos (by omega))) (fun _ => ?_)
  refine lv_iload hx hb dX8_choices_35 (lv_at hl 0 rfl) ?_
  refine lv_if_eq (tgt := 89) hx hb dX8_choices_37 (by decide) (fun _ => ?_) (fun c37 => absurd (by decide) c37)
  refine lv_aload_n hx hb dX8_choices_89 rfl (lv_at hl 1 rfl) ?_
  refine r_get (ci := 8) (v := .ref (ad 39)) (C := RX8) (T := TX8) (N := 31) hx hb hts inlX8 hown hK hs (22) (by omega) (md22 hM) rfl 21 (by decide) (hts _ w_fl_RX8_60) rfl dX8_choices_90 ?_
  refine lv_iload_n hx hb dX8_choices_93 rfl (lv_at hl 2 rfl) ?_
  refine lv_aload_n hx hb dX8_choices_94 rfl (lv_at hl 1 rfl) ?_
  refine r_get (ci := 8) (v := .int (nI cv)) (C := RX8) (T := TX8) (N := 31) hx hb hts inlX8 hown hK hs (22) (by omega) (md22 hM) rfl 23 (by decide) (hts _ w_fl_RX8_115) rfl dX8_choices_95 ?_
  refine r_iastN (t := s) hx hb hK hs (39) (by omega) (md39 hM) (rfl) (by omega) (by omega) dX8_choices_98 (fun H locs en_2 hen_2 hs => ?_)
  obtain ⟨c_4, ec_4⟩ : ∃ z, z = cU c 39 (s) (nI cv) := ⟨_, rfl⟩
  have hM_3 : MdW G n ad en_2 ss ns c_4 (nI u) 0 (nI d) (nI cv) := md_ar (f := upd (c 39) (s) (nI cv)) hM 39 (by decide) (by decide) hen_2 ec_4
  have fr_5 : ∀ k, k < 22 → en_2 k = en k := fun k hk => Eq.trans (by rw [hen_2]; exact va_up_ne _ _ (by omega)) (fr0 k hk)
  have hR_6 : RowM c_4 d Γ := by rw [ec_4]; exact row_cU hR (by decide)
  refine lv_aload_n hx hb dX8_choices_99 rfl (lv_at hl 1 rfl) ?_
  refine r_get (ci := 8) (v := .ref (ad 34)) (C := RX8) (T := TX8) (N := 31) hx hb hts inlX8 hown hK hs (22) (by omega) (md22 hM_3) rfl 15 (by decide) (hts _ w_fl_RX8_45) rfl dX8_choices_100 ?_
  refine lv_aload_n hx hb dX8_choices_103 rfl (lv_at hl 1 rfl) ?_
  refine r_get (ci := 8) (v := .int (nI d)) (C := RX8) (T := TX8) (N := 31) hx hb hts inlX8 hown hK hs (22) (by omega) (md22 hM_3) rfl 17 (by decide) (hts _ w_fl_RX8_109) rfl dX8_choices_104 ?_
  refine lv_iconst (v := 2) hx hb dX8_choices_107 (by decide) ?_
  refine r_iastN (t := d) hx hb hK hs (34) (by omega) (md34 hM_3) (rfl) (by omega) (by omega) dX8_choices_108 (fun H locs en_8 hen_8 hs => ?_)
  obtain ⟨c_10, ec_10⟩ : ∃ z, z = cU c_4 34 (d) (2) := ⟨_, rfl⟩
  have hM_9 : MdW G n ad en_8 ss ns c_10 (nI u) 0 (nI d) (nI cv) := md_ar (f := upd (c_4 34) (d) (2)) hM_3 34 (by decide) (by decide) hen_8 ec_10
  have fr_11 : ∀ k, k < 22 → en_8 k = en k := fun k hk => Eq.trans (by rw [hen_8]; exact va_up_ne _ _ (by omega)) (fr_5 k hk)
  have hR_12 : RowM c_10 d Γ := by rw [ec_10]; exact row_cU hR_6 (by decide)
  refine lv_aload_n hx hb dX8_choices_109 rfl (lv_at hl 1 rfl) ?_
  refine lv_aload_n hx hb dX8_choices_110 rfl (lv_at hl 1 rfl) ?_
  refine r_get (ci := 8) (v := .ref (ad 32)) (C := RX8) (T := TX8) (N := 31) hx hb hts inlX8 hown hK hs (22) (by omega) (md22 hM_9) rfl 13 (by decide) (hts _ w_fl_RX8_39) rfl dX8_choices_111 ?_
  refine lv_aload_n hx hb dX8_choices_114 rfl (lv_at hl 1 rfl) ?_
  refine r_get (ci := 8) (v := .int (nI d)) (C := RX8) (T := TX8) (N := 31) hx hb hts inlX8 hown hK hs (22) (by omega) (md22 hM_9) rfl 17 (by decide) (hts _ w_fl_RX8_109) rfl dX8_choices_115 ?_
  refine r_ialdN (t := d) hx hb hK hs (32) (by omega) (md32 hM_9) (rfl) (by omega) (by omega) dX8_choices_118 ?_
  refine r_topi (y := nI goal) (by rw [ec_10, cU_o (by omega), ec_4, cU_o (by omega)]; exact hwa) ?_
  refine r_callVv (ci := 8) (As := [.int (nI goal)]) hx hb hml hown hts hK hA hs (22) (by omega) (md22 hM_9) rfl rfl (c_X8_open l G hM_9 (gl := goal) (by omega) hR_12) (cwV 1 hts (tbV w_ml_RX8_133 w_im_yX8_open w_se_yX8_open w_ini_RX8 w_cd_yX8_open) rfl rfl rfl (by decide +kernel) ⟨Nat.le_of_ble_eq_true rfl, Nat.le_of_ble_eq_true rfl⟩) rfl hl.1 rfl (Nat.le_of_ble_eq_true rfl) dX8_choices_119 ⟨Nat.le_refl _, Nat.le_refl _⟩ (fun ad_14 en_15 H locs hp_16 hs => ?_)
  obtain ⟨c_13, ec_13⟩ : ∃ z, z = cOpn c_10 d (nI goal) := ⟨_, rfl⟩
  rw [← ec_13] at hp_16
  obtain ⟨⟨hAm_17, hFm_17⟩, hMm_17⟩ := hp_16
  subst hAm_17
  have fr_18 : ∀ k, k < 22 → en_15 k = en k := fun k hk => Eq.trans (hFm_17 k hk) (fr_11 k hk)
  have hRn_c_13 : RowM c_13 (d + 1) Γ := by rw [ec_13]; exact opn_row hR_12
  refine lv_aload_n hx hb dX8_choices_122 rfl (lv_at hl 1 rfl) ?_
  refine lv_aload_n hx hb dX8_choices_123 rfl (lv_at hl 1 rfl) ?_
  refine r_get (ci := 8) (v := .int (nI d)) (C := RX8) (T := TX8) (N := 31) hx hb hts inlX8 hown hK hs (22) (by omega) (md22 hMm_17) rfl 17 (by decide) (hts _ w_fl_RX8_109) rfl dX8_choices_124 ?_
  refine lv_iconst (v := 1) hx hb dX8_choices_127 (by decide) ?_
  refine lv_iadd hx hb dX8_choices_128 ?_
  refine r_topi (y := nI (d + 1)) (nI_add _ _) ?_
  refine lv_aload_n hx hb dX8_choices_129 rfl (lv_at hl 1 rfl) ?_
  refine r_get (ci := 8) (v := .ref (ad 35)) (C := RX8) (T := TX8) (N := 31) hx hb hts inlX8 hown hK hs (22) (by omega) (md22 hMm_17) rfl 16 (by decide) (hts _ w_fl_RX8_48) rfl dX8_choices_130 ?_
  refine lv_aload_n hx hb dX8_choices_133 rfl (lv_at hl 1 rfl) ?_
  refine r_get (ci := 8) (v := .int (nI d)) (C := RX8) (T := TX8) (N := 31) hx hb hts inlX8 hown hK hs (22) (by omega) (md22 hMm_17) rfl 17 (by decide) (hts _ w_fl_RX8_109) rfl dX8_choices_134 ?_
  refine r_ialdN (t := d) hx hb hK hs (35) (by omega) (md35 hMm_17) (rfl) (by omega) (by omega) dX8_choices_137 ?_
  refine r_topi (y := nI f0) (by rw [ec_13, opn_o (by omega), ec_10, cU_o (by omega), ec_4, cU_o (by omega)]; exact hxv) ?_
  refine lv_iconst (v := 0) hx hb dX8_choices_138 (by decide) ?_
  refine r_callVv (ci := 8) (As := [.int (nI (d + 1)), .int (nI f0), .int (0)]) hx hb hml hown hts hK hA hs (22) (by omega) (md22 hMm_17) rfl rfl (c_X8_set l G hMm_17 (d := (d + 1)) (f := f0) (by omega) (by omega) false) (cwV 3 hts (tbV w_ml_RX8_137 w_im_yX8_set w_se_yX8_set w_ini_RX8 w_cd_yX8_set) rfl rfl rfl (by decide +kernel) ⟨Nat.le_of_ble_eq_true rfl, Nat.le_of_ble_eq_true rfl⟩) rfl hl.1 rfl (Nat.le_of_ble_eq_true rfl) dX8_choices_139 ⟨Nat.le_refl _, Nat.le_refl _⟩ (fun ad_20 en_21 H locs hp_22 hs => ?_)
  obtain ⟨c_19, ec_19⟩ : ∃ z, z = cSet c_13 (d + 1) f0 false := ⟨_, rfl⟩
  rw [← ec_19] at hp_22
  obtain ⟨⟨hAm_23, hFm_23⟩, hMm_23⟩ := hp_22
  subst hAm_23
  have fr_24 : ∀ k, k < 22 → en_21 k = en k := fun k hk => Eq.trans (hFm_23 k hk) (fr_18 k hk)
  have hRn_c_19 : RowM c_19 (d + 1) (gDel Γ f0) := by rw [ec_19]; exact row_del hRn_c_13 (by omega)
  refine lv_aload_n hx hb dX8_choices_142 rfl (lv_at hl 1 rfl) ?_
  refine lv_aload_n hx hb dX8_choices_143 rfl (lv_at hl 1 rfl) ?_
  refine r_get (ci := 8) (v := .int (nI d)) (C := RX8) (T := TX8) (N := 31) hx hb hts inlX8 hown hK hs (22) (by omega) (md22 hMm_23) rfl 17 (by decide) (hts _ w_fl_RX8_109) rfl dX8_choices_144 ?_
  refine lv_iconst (v := 1) hx hb dX8_choices_147 (by decide) ?_
  refine lv_iadd hx hb dX8_choices_148 ?_
  refine r_topi (y := nI (d + 1)) (nI_add _ _) ?_
  refine lv_aload_n hx hb dX8_choices_149 rfl (lv_at hl 1 rfl) ?_
  refine r_get (ci := 8) (v := .ref (ad 25)) (C := RX8) (T := TX8) (N := 31) hx hb hts inlX8 hown hK hs (22) (by omega) (md22 hMm_23) rfl 2 (by decide) (hts _ w_fl_RX8_16) rfl dX8_choices_150 ?_
  refine lv_aload_n hx hb dX8_choices_153 rfl (lv_at hl 1 rfl) ?_
  refine r_get (ci := 8) (v := .ref (ad 35)) (C := RX8) (T := TX8) (N := 31) hx hb hts inlX8 hown hK hs (22) (by omega) (md22 hMm_23) rfl 16 (by decide) (hts _ w_fl_RX8_48) rfl dX8_choices_154 ?_
  refine lv_aload_n hx hb dX8_choices_157 rfl (lv_at hl 1 rfl) ?_
  refine r_get (ci := 8) (v := .int (nI d)) (C := RX8) (T := TX8) (N := 31) hx hb hts inlX8 hown hK hs (22) (by omega) (md22 hMm_23) rfl 17 (by decide) (hts _ w_fl_RX8_109) rfl dX8_choices_158 ?_
  refine r_ialdN (t := d) hx hb hK hs (35) (by omega) (md35 hMm_23) (rfl) (by omega) (by omega) dX8_choices_161 ?_
  refine r_topi (y := nI f0) (by rw [ec_19, cSet_o (by omega), ec_13, opn_o (by omega), ec_10, cU_o (by omega), ec_4, cU_o (by omega)]; exact hxv) ?_
  refine r_ialdN (t := f0) hx hb hK hs (25) (by omega) (md25 hMm_23) (rfl) (by omega) (by omega) dX8_choices_162 ?_
  refine r_topi (y := nI (sR ss (f0))) rfl ?_
  refine lv_iconst (v := 1) hx hb dX8_choices_163 (by decide) ?_
  refine r_callVv (ci := 8) (As := [.int (nI (d + 1)), .int (nI (sR ss (f0))), .int (1)]) hx hb hml hown hts hK hA hs (22) (by omega) (md22 hMm_23) rfl rfl (c_X8_set l G hMm_23 (d := (d + 1)) (f := (sR ss (f0))) (by omega) (by omega) true) (cwV 3 hts (tbV w_ml_RX8_137 w_im_yX8_set w_se_yX8_set w_ini_RX8 w_cd_yX8_set) rfl rfl rfl (by decide +kernel) ⟨Nat.le_of_ble_eq_true rfl, Nat.le_of_ble_eq_true rfl⟩) rfl hl.1 rfl (Nat.le_of_ble_eq_true rfl) dX8_choices_164 ⟨Nat.le_refl _, Nat.le_refl _⟩ (fun ad_26 en_27 H locs hp_28 hs => ?_)
  obtain ⟨c_25, ec_25⟩ : ∃ z, z = cSet c_19 (d + 1) (sR ss (f0)) true := ⟨_, rfl⟩
  rw [← ec_25] at hp_28
  obtain ⟨⟨hAm_29, hFm_29⟩, hMm_29⟩ := hp_28
  subst hAm_29
  have fr_30 : ∀ k, k < 22 → en_27 k = en k := fun k hk => Eq.trans (hFm_29 k hk) (fr_24 k hk)
  have hRn_c_25 : RowM c_25 (d + 1) (gAdd (gDel Γ f0) (sR ss (f0))) := by rw [ec_25]; exact row_add hRn_c_19 (by omega)
  refine lv_aload_n hx hb dX8_choices_167 rfl (lv_at hl 1 rfl) ?_
  refine lv_iload_n hx hb dX8_choices_168 rfl (lv_at hl 4 rfl) ?_
  by_cases hout : d = 80 ∨ u = fu
  · skip
    refine r_callVv (ci := 8) (As := [.int (nI fu)]) hx hb hml hown hts hK hA hs (22) (by omega) (md22 hMm_29) rfl rfl (c_X8_enter_o l G hMm_29 (d := d) (u := u) (fu := fu) (by omega) (by omega) hout) (cwV 1 hts (tbV w_ml_RX8_158 w_im_yX8_enter w_se_yX8_enter w_ini_RX8 w_cd_yX8_enter) rfl rfl rfl (by decide +kernel) ⟨Nat.le_of_ble_eq_true rfl, Nat.le_of_ble_eq_true rfl⟩) rfl hl.1 rfl (Nat.le_of_ble_eq_true rfl) dX8_choices_169 ⟨Nat.le_refl _, Nat.le_refl _⟩ (fun ad_31 en_32 H locs hp_33 hs => ?_)
    obtain ⟨⟨hAm_34, hFm_34⟩, hMm_34⟩ := hp_33
    subst hAm_34
    have fr_35 : ∀ k, k < 22 → en_32 k = en k := fun k hk => Eq.trans (hFm_34 k hk) (fr_30 k hk)
    refine r_vret (mc := 0) (ms := 0) hx hb hr hlk hs (Nat.le_refl _) (Nat.le_refl _) dX8_choices_172 hQ ?_
    exact ⟨⟨rfl, fr_35⟩, c_10, by rw [ec_10, cU_o (by omega), ec_4, cU_s], by rw [ec_10, cU_s], fun r t h1 h2 => by rw [ec_10, cU_o (by omega), ec_4, cU_o (by omega)], chp_o hBx hout hMm_34⟩
  · skip
    refine r_callVv (ci := 8) (As := [.int (nI fu)]) hx hb hml hown hts hK hA hs (22) (by omega) (md22 hMm_29) rfl rfl (c_X8_enter_y l G hMm_29 (d := d) (u := u) (fu := fu) (by omega) (by omega)) (cwV 1 hts (tbV w_ml_RX8_158 w_im_yX8_enter w_se_yX8_enter w_ini_RX8 w_cd_yX8_enter) rfl rfl rfl (by decide +kernel) ⟨Nat.le_of_ble_eq_true rfl, Nat.le_of_ble_eq_true rfl⟩) rfl hl.1 rfl (Nat.le_of_ble_eq_true rfl) dX8_choices_169 ⟨Nat.le_refl _, Nat.le_refl _⟩ (fun ad_37 en_38 H locs hp_39 hs => ?_)
    obtain ⟨c_36, ec_36⟩ : ∃ z, z = cEnt c_25 d u := ⟨_, rfl⟩
    rw [← ec_36] at hp_39
    obtain ⟨⟨hAm_40, hFm_40⟩, hMm_40⟩ := hp_39
    subst hAm_40
    have fr_41 : ∀ k, k < 22 → en_38 k = en k := fun k hk => Eq.trans (hFm_40 k hk) (fr_30 k hk)
    refine r_vret (mc := 0) (ms := 0) hx hb hr hlk hs (Nat.le_refl _) (Nat.le_refl _) dX8_choices_172 hQ ?_
    exact ⟨⟨rfl, fr_41⟩, c_10, by rw [ec_10, cU_o (by omega), ec_4, cU_s], by rw [ec_10, cU_s], fun r t h1 h2 => by rw [ec_10, cU_o (by omega), ec_4, cU_o (by omega)], chp_y hBx hout (by rw [← ec_36]; exact hMm_40) (fun r t h1 h2 => by rw [ec_25, cSet_o (by omega), ec_19, cSet_o (by omega), ec_13, opn_o (by omega)]) hRn_c_25 (by show _ = gAdd (gAdd (gAdd (gDel Γ f0) 0) 0) (sR ss f0); rw [gAdd_0, gAdd_0]) (by rw [ec_25, cSet_o (Or.inl (by decide)), ec_19, cSet_o (Or.inl (by decide)), ec_13, opn_w]; rfl)⟩

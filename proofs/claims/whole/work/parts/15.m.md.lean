set_option maxHeartbeats 600000 in
set_option maxRecDepth 100000 in
theorem c_X8_turn_B0 (l : Launch) (G : rG) {n : Nat} {ad : Nat → Nat} {en : Nat → va_E} {ss ns : List Row} {c : Nat → Nat → Int32} {d u : Nat} (hM : MdW G n ad en ss ns c (nI u) 0 (nI d) 0) {goal s fu : Nat} (hd : 1 ≤ d ∧ d ≤ 80) (hu : u ≤ fu ∧ fu ≤ 3000) (hwa : c 32 d = nI goal) (hst : c 33 d = nI s) (hs3 : s ≤ 3000) (hg : 1 ≤ goal ∧ goal ≤ ss.length) {r p : Nat} (hr3 : 3 ≤ r ∧ r ≤ 10) (hp12 : p = 1 ∨ p = 2) (hph : c 34 d = nI p) (h36 : c 36 s = nI r)  : CV l G yX8_turn uX8_turn (4) (99) (0) (0) [.ref (ad 22), .int (nI fu)] (n) (n) ad en (fun ad1 en1 => mFr ad en ad1 en1 ∧ MdW G n ad en1 ss ns c (nI u) 0 (nI (d - 1)) 0) := by
  intro sz
  refine rMet (Qc := qV G (n) (fun ad1 en1 => mFr ad en ad1 en1 ∧ MdW G n ad en1 ss ns c (nI u) 0 (nI (d - 1)) 0)) (cc := cX8_turn) (maxL := 6) (ret := none) (by decide) rfl (Nat.le_of_ble_eq_true rfl) ?_
  intro pP eE sS mM aA bB tT cC ls A Q hc hK hsz hA hs hl hQ
  obtain ⟨hx, hb, hr, hts, hown, hlk, hnm, hml⟩ := hc
  have hl : lv_has ls 6 [(0, .ref (ad 22)), (1, .int (nI fu))] := hl
  have fr0 : ∀ k, k < 22 → en k = en k := fun _ _ => rfl
  obtain ⟨hn48, -, -, -, hok, hnk⟩ := id hM
  have h6 := hok.1
  have h8 := hnk.1
  
  refine lv_aload_n hx hb dX8_turn_0 rfl (lv_at hl 0 rfl) ?_
  refine r_get (ci := 8) (v := .ref (ad 33)) (C := RX8) (T := TX8) (N := 31) hx hb hts inlX8 hown hK hs (22) (by omega) (md22 hM) rfl 14 (by decide) (hts _ w_fl_RX8_42) rfl dX8_turn_1 ?_
  refine lv_aload_n hx hb dX8_turn_4 rfl (lv_at hl 0 rfl) ?_
  refine r_get (ci := 8) (v := .int (nI d)) (C := RX8) (T := TX8) (N := 31) hx hb hts inlX8 hown hK hs (22) (by omega) (md22 hM) rfl 17 (by decide) (hts _ w_fl_RX8_109) rfl dX8_turn_5 ?_
  refine r_ialdN (t := d) hx hb hK hs (33) (by omega) (md33 hM) (rfl) (by omega) (by omega) dX8_turn_8 ?_
  refine r_topi (y := nI s) (hst) ?_
  refine lv_istore_n (lv' := [(2, .int (nI s)), (0, .ref (ad 22)), (1, .int (nI fu))]) hx hb dX8_turn_9 rfl hl (by decide) rfl (fun ls hl => ?_)
  refine lv_aload_n hx hb dX8_turn_10 rfl (lv_at hl 1 rfl) ?_
  refine r_get (ci := 8) (v := .ref (ad 34)) (C := RX8) (T := TX8) (N := 31) hx hb hts inlX8 hown hK hs (22) (by omega) (md22 hM) rfl 15 (by decide) (hts _ w_fl_RX8_45) rfl dX8_turn_11 ?_
  refine lv_aload_n hx hb dX8_turn_14 rfl (lv_at hl 1 rfl) ?_
  refine r_get (ci := 8) (v := .int (nI d)) (C := RX8) (T := TX8) (N := 31) hx hb hts inlX8 hown hK hs (22) (by omega) (md22 hM) rfl 17 (by decide) (hts _ w_fl_RX8_109) rfl dX8_turn_15 ?_
  refine r_ialdN (t := d) hx hb hK hs (34) (by omega) (md34 hM) (rfl) (by omega) (by omega) dX8_turn_18 ?_
  refine r_topi (y := nI p) (hph) ?_
  refine lv_istore_n (lv' := [(3, .int (nI p)), (2, .int (nI s)), (0, .ref (ad 22)), (1, .int (nI fu))]) hx hb dX8_turn_19 rfl hl (by decide) rfl (fun ls hl => ?_)
  refine lv_iload_n hx hb dX8_turn_20 rfl (lv_at hl 0 rfl) ?_
  refine lv_if_ne (tgt := 28) hx hb dX8_turn_21 (by decide) (fun _ => ?_) (fun c21 => absurd c21 (fun q => by have := z_of (by omega) q; omega))
  refine lv_aload_n hx hb dX8_turn_28 rfl (lv_at hl 2 rfl) ?_
  refine r_get (ci := 8) (v := .ref (ad 36)) (C := RX8) (T := TX8) (N := 31) hx hb hts inlX8 hown hK hs (22) (by omega) (md22 hM) rfl 18 (by decide) (hts _ w_fl_RX8_51) rfl dX8_turn_29 ?_
  refine lv_iload_n hx hb dX8_turn_32 rfl (lv_at hl 1 rfl) ?_
  refine r_ialdN (t := s) hx hb hK hs (36) (by omega) (md36 hM) (rfl) (by omega) (by omega) dX8_turn_33 ?_
  refine r_topi (y := nI r) (h36) ?_
  refine lv_istore (lv' := [(4, .int (nI r)), (3, .int (nI p)), (2, .int (nI s)), (0, .ref (ad 22)), (1, .int (nI fu))]) hx hb dX8_turn_34 hl (by decide) rfl (fun ls hl => ?_)
  refine lv_iload hx hb dX8_turn_36 (lv_at hl 0 rfl) ?_
  refine lv_bipush (v := 11) hx hb dX8_turn_38 (by decide) ?_
  refine lv_icmp_ne (tgt := 51) hx hb dX8_turn_40 (by decide) (fun _ => ?_) (fun c40 => absurd c40 (fun q => by have := sw_nI (v := 11) q rfl (by omega) (by decide); omega))
  refine lv_iload_n hx hb dX8_turn_51 rfl (lv_at hl 1 rfl) ?_
  refine lv_if_le (tgt := 62) hx hb dX8_turn_52 (by decide) (fun c52 => absurd c52 (fun q => by have := nI_le0 (by omega) q; omega)) (fun _ => ?_)
  refine lv_aload_n hx hb dX8_turn_55 rfl (lv_at hl 3 rfl) ?_
  refine r_get (ci := 8) (v := .int (0)) (C := RX8) (T := TX8) (N := 31) hx hb hts inlX8 hown hK hs (22) (by omega) (md22 hM) rfl 23 (by decide) (hts _ w_fl_RX8_115) rfl dX8_turn_56 ?_
  refine lv_if_eq (tgt := 68) hx hb dX8_turn_59 (by decide) (fun _ => ?_) (fun c59 => absurd (rfl) c59)
  refine lv_aload_n hx hb dX8_turn_68 rfl (lv_at hl 3 rfl) ?_
  refine lv_iload hx hb dX8_turn_69 (lv_at hl 0 rfl) ?_
  refine lv_iconst (v := 3) hx hb dX8_turn_71 (by decide) ?_
  refine lv_icmp_ge (tgt := 79) hx hb dX8_turn_72 (by decide) (fun _ => ?_) (fun c72 => absurd ((nI_leI (a := 3) (by decide) (by omega)).mpr (by omega)) c72)
  refine lv_iconst (v := 0) hx hb dX8_turn_79 (by decide) ?_
  obtain ⟨d0, hd0⟩ : ∃ d0, d = d0 + 1 := ⟨d - 1, by omega⟩
  subst hd0
  refine r_callVv (ci := 8) (As := [.int (0)]) hx hb hml hown hts hK hA hs (22) (by omega) (md22 hM) rfl rfl (c_X8_close l G hM (d := d0) false (by omega)) (cwV 1 hts (tbV w_ml_RX8_151 w_im_yX8_close w_se_yX8_close w_ini_RX8 w_cd_yX8_close) rfl rfl rfl (by decide +kernel) ⟨Nat.le_of_ble_eq_true rfl, Nat.le_of_ble_eq_true rfl⟩) rfl hl.1 rfl (Nat.le_of_ble_eq_true rfl) dX8_turn_80 ⟨Nat.le_refl _, Nat.le_refl _⟩ (fun ad_1 en_2 H locs hp_3 hs => ?_)
  obtain ⟨⟨hAm_4, hFm_4⟩, hMm_4⟩ := hp_3
  subst hAm_4
  have fr_5 : ∀ k, k < 22 → en_2 k = en k := fun k hk => Eq.trans (hFm_4 k hk) (fr0 k hk)
  refine r_vret (mc := 0) (ms := 0) hx hb hr hlk hs (Nat.le_refl _) (Nat.le_refl _) dX8_turn_83 hQ ?_
  exact ⟨⟨rfl, fr_5⟩, hMm_4⟩

set_option maxHeartbeats 600000 in
set_option maxRecDepth 100000 in
theorem c_X8_turn_B1_1 (l : Launch) (G : rG) {n : Nat} {ad : Nat → Nat} {en : Nat → va_E} {ss ns : List Row} {c : Nat → Nat → Int32} {d u cv : Nat} (hM : MdW G n ad en ss ns c (nI u) 0 (nI d) (nI cv)) {goal s fu : Nat} (hd : 1 ≤ d ∧ d ≤ 80) (hu : u ≤ fu ∧ fu ≤ 3000) (hwa : c 32 d = nI goal) (hst : c 33 d = nI s) (hs3 : s ≤ 3000) (hg : 1 ≤ goal ∧ goal ≤ ss.length) {r : Nat} (hr3 : 3 ≤ r ∧ r ≤ 10) (hph : c 34 d = nI 1) (h36 : c 36 s = nI r) (hmn : rPremL.getD r 0 = 1) (hcv : 1 ≤ cv ∧ cv ≤ 3000)  : CV l G yX8_turn uX8_turn (4) (99) (0) (0) [.ref (ad 22), .int (nI fu)] (n) (n) ad en (fun ad1 en1 => mFr ad en ad1 en1 ∧ ∃ c1, MdW G n ad en1 ss ns c1 (nI u) 0 (nI (d - 1)) (nI s) ∧ c1 39 s = nI cv ∧ ∀ r t, ¬ (r = 39 ∧ t = s) → c1 r t = c r t) := by
  intro sz
  refine rMet (Qc := qV G (n) (fun ad1 en1 => mFr ad en ad1 en1 ∧ ∃ c1, MdW G n ad en1 ss ns c1 (nI u) 0 (nI (d - 1)) (nI s) ∧ c1 39 s = nI cv ∧ ∀ r t, ¬ (r = 39 ∧ t = s) → c1 r t = c r t)) (cc := cX8_turn) (maxL := 6) (ret := none) (by decide) rfl (Nat.le_of_ble_eq_true rfl) ?_
  intro pP eE sS mM aA bB tT cC ls A Q hc hK hsz hA hs hl hQ
  obtain ⟨hx, hb, hr, hts, hown, hlk, hnm, hml⟩ := hc
  have hl : lv_has ls 6 [(0, .ref (ad 22)), (1, .int (nI fu))] := hl
  have fr0 : ∀ k, k < 22 → en k = en k := fun _ _ => rfl
  obtain ⟨hn48, -, -, -, hok, hnk⟩ := id hM
  have h6 := hok.1
  have h8 := hnk.1
  
  refine lv_aload_n hx hb dX8_turn_0 rfl (lv_at hl 0 rfl) ?_
  refine r_get (ci := 8) (v := .ref (ad 33)) (C := RX8) (T := TX8) (N := 31) hx hb hts inlX8 hown hK hs (22) (by omega) (md22 hM) rfl 14 (by decide) (hts _ w_fl_RX8_42) rfl dX8_turn_1 ?_
  refine lv_aload_n hx hb dX8_turn_4 rfl (lv_at hl 0 rfl) ?_
  refine r_get (ci := 8) (v := .int (nI d)) (C := RX8) (T := TX8) (N := 31) hx hb hts inlX8 hown hK hs (22) (by omega) (md22 hM) rfl 17 (by decide) (hts _ w_fl_RX8_109) rfl dX8_turn_5 ?_
  refine r_ialdN (t := d) hx hb hK hs (33) (by omega) (md33 hM) (rfl) (by omega) (by omega) dX8_turn_8 ?_
  refine r_topi (y := nI s) (hst) ?_
  refine lv_istore_n (lv' := [(2, .int (nI s)), (0, .ref (ad 22)), (1, .int (nI fu))]) hx hb dX8_turn_9 rfl hl (by decide) rfl (fun ls hl => ?_)
  refine lv_aload_n hx hb dX8_turn_10 rfl (lv_at hl 1 rfl) ?_
  refine r_get (ci := 8) (v := .ref (ad 34)) (C := RX8) (T := TX8) (N := 31) hx hb hts inlX8 hown hK hs (22) (by omega) (md22 hM) rfl 15 (by decide) (hts _ w_fl_RX8_45) rfl dX8_turn_11 ?_
  refine lv_aload_n hx hb dX8_turn_14 rfl (lv_at hl 1 rfl) ?_
  refine r_get (ci := 8) (v := .int (nI d)) (C := RX8) (T := TX8) (N := 31) hx hb hts inlX8 hown hK hs (22) (by omega) (md22 hM) rfl 17 (by decide) (hts _ w_fl_RX8_109) rfl dX8_turn_15 ?_
  refine r_ialdN (t := d) hx hb hK hs (34) (by omega) (md34 hM) (rfl) (by omega) (by omega) dX8_turn_18 ?_
  refine r_topi (y := nI 1) (hph) ?_
  refine lv_istore_n (lv' := [(3, .int (nI 1)), (2, .int (nI s)), (0, .ref (ad 22)), (1, .int (nI fu))]) hx hb dX8_turn_19 rfl hl (by decide) rfl (fun ls hl => ?_)
  refine lv_iload_n hx hb dX8_turn_20 rfl (lv_at hl 0 rfl) ?_
  refine lv_if_ne (tgt := 28) hx hb dX8_turn_21 (by decide) (fun _ => ?_) (fun c21 => absurd c21 (by decide))
  refine lv_aload_n hx hb dX8_turn_28 rfl (lv_at hl 2 rfl) ?_
  refine r_get (ci := 8) (v := .ref (ad 36)) (C := RX8) (T := TX8) (N := 31) hx hb hts inlX8 hown hK hs (22) (by omega) (md22 hM) rfl 18 (by decide) (hts _ w_fl_RX8_51) rfl dX8_turn_29 ?_
  refine lv_iload_n hx hb dX8_turn_32 rfl (lv_at hl 1 rfl) ?_
  refine r_ialdN (t := s) hx hb hK hs (36) (by omega) (md36 hM) (rfl) (by omega) (by omega) dX8_turn_33 ?_
  refine r_topi (y := nI r) (h36) ?_
  refine lv_istore (lv' := [(4, .int (nI r)), (3, .int (nI 1)), (2, .int (nI s)), (0, .ref (ad 22)), (1, .int (nI fu))]) hx hb dX8_turn_34 hl (by decide) rfl (fun ls hl => ?_)
  refine lv_iload hx hb dX8_turn_36 (lv_at hl 0 rfl) ?_
  refine lv_bipush (v := 11) hx hb dX8_turn_38 (by decide) ?_
  refine lv_icmp_ne (tgt := 51) hx hb dX8_turn_40 (by decide) (fun _ => ?_) (fun c40 => absurd c40 (fun q => by have := sw_nI (v := 11) q rfl (by omega) (by decide); omega))
  refine lv_iload_n hx hb dX8_turn_51 rfl (lv_at hl 1 rfl) ?_
  refine lv_if_le (tgt := 62) hx hb dX8_turn_52 (by decide) (fun c52 => absurd c52 (by decide)) (fun _ => ?_)
  refine lv_aload_n hx hb dX8_turn_55 rfl (lv_at hl 3 rfl) ?_
  refine r_get (ci := 8) (v := .int (nI cv)) (C := RX8) (T := TX8) (N := 31) hx hb hts inlX8 hown hK hs (22) (by omega) (md22 hM) rfl 23 (by decide) (hts _ w_fl_RX8_115) rfl dX8_turn_56 ?_
  refine lv_if_eq (tgt := 68) hx hb dX8_turn_59 (by decide) (fun c59 => absurd c59 (fun q => by have := z_of (by omega) q; omega)) (fun _ => ?_)
  refine lv_iload hx hb dX8_turn_62 (lv_at hl 0 rfl) ?_
  refine lv_iconst (v := 3) hx hb dX8_turn_64 (by decide) ?_
  refine lv_icmp_ge (tgt := 84) hx hb dX8_turn_65 (by decide) (fun _ => ?_) (fun c65 => absurd ((nI_leI (a := 3) (by decide) (by omega)).mpr (by omega)) c65)
  refine lv_iload_n hx hb dX8_turn_84 rfl (lv_at hl 1 rfl) ?_
  refine lv_iconst (v := 1) hx hb dX8_turn_85 (by decide) ?_
  refine lv_icmp_ne (tgt := 99) hx hb dX8_turn_86 (by decide) (fun c86 => absurd (by decide) c86) (fun _ => ?_)
  refine lv_aload_n hx hb dX8_turn_89 rfl (lv_at hl 3 rfl) ?_
  refine r_get (ci := 8) (v := .ref (ad 39)) (C := RX8) (T := TX8) (N := 31) hx hb hts inlX8 hown hK hs (22) (by omega) (md22 hM) rfl 21 (by decide) (hts _ w_fl_RX8_60) rfl dX8_turn_90 ?_
  refine lv_iload_n hx hb dX8_turn_93 rfl (lv_at hl 2 rfl) ?_
  refine lv_aload_n hx hb dX8_turn_94 rfl (lv_at hl 3 rfl) ?_
  refine r_get (ci := 8) (v := .int (nI cv)) (C := RX8) (T := TX8) (N := 31) hx hb hts inlX8 hown hK hs (22) (by omega) (md22 hM) rfl 23 (by decide) (hts _ w_fl_RX8_115) rfl dX8_turn_95 ?_
  refine r_iastN (t := s) hx hb hK hs (39) (by omega) (md39 hM) (rfl) (by omega) (by omega) dX8_turn_98 (fun H locs en_2 hen_2 hs => ?_)
  obtain ⟨c_4, ec_4⟩ : ∃ z, z = cU c 39 (s) (nI cv) := ⟨_, rfl⟩
  have hM_3 : MdW G n ad en_2 ss ns c_4 (nI u) 0 (nI d) (nI cv) := md_ar (f := upd (c 39) (s) (nI cv)) hM 39 (by decide) (by decide) hen_2 ec_4
  have fr_5 : ∀ k, k < 22 → en_2 k = en k := fun k hk => Eq.trans (by rw [hen_2]; exact va_up_ne _ _ (by omega)) (fr0 k hk)
  refine lv_iload_n hx hb dX8_turn_99 rfl (lv_at hl 1 rfl) ?_
  refine lv_iconst (v := 2) hx hb dX8_turn_100 (by decide) ?_
  refine lv_icmp_ne (tgt := 114) hx hb dX8_turn_101 (by decide) (fun _ => ?_) (fun c101 => absurd c101 (by decide))
  have JOIN134 : ∀ ls : Array Slot, lv_has ls 6 [(0, .ref (ad 22)), (1, .int (nI fu)), (2, .int (nI s)), (3, .int (nI 1)), (4, .int (nI r)), (5, .int (nI (rPremL.getD r 0)))] → W pP l eE (rRm (4) (99) (0) (0)) sS mM aA bB tT cC H locs (0) (0) Q (F0 mM 134 ls []) := by
    intro ls hl
    refine lv_iload_n hx hb dX8_turn_134 rfl (lv_at hl 3 rfl) ?_
    refine lv_iload hx hb dX8_turn_135 (lv_at hl 5 rfl) ?_
    refine lv_icmp_ne (tgt := 146) hx hb dX8_turn_137 (by decide) (fun c137 => absurd (by rw [hmn]) c137) (fun _ => ?_)
    refine lv_aload_n hx hb dX8_turn_140 rfl (lv_at hl 0 rfl) ?_
    refine lv_iconst (v := 1) hx hb dX8_turn_141 (by decide) ?_
    obtain ⟨d0, hd0⟩ : ∃ d0, d = d0 + 1 := ⟨d - 1, by omega⟩
    subst hd0
    refine r_callVv (ci := 8) (As := [.int (1)]) hx hb hml hown hts hK hA hs (22) (by omega) (md22 hM_3) rfl rfl (c_X8_close l G hM_3 (d := d0) true (by omega)) (cwV 1 hts (tbV w_ml_RX8_151 w_im_yX8_close w_se_yX8_close w_ini_RX8 w_cd_yX8_close) rfl rfl rfl (by decide +kernel) ⟨Nat.le_of_ble_eq_true rfl, Nat.le_of_ble_eq_true rfl⟩) rfl hl.1 rfl (Nat.le_of_ble_eq_true rfl) dX8_turn_142 ⟨Nat.le_refl _, Nat.le_refl _⟩ (fun ad_6 en_7 H locs hp_8 hs => ?_)
    obtain ⟨⟨hAm_9, hFm_9⟩, hMm_9⟩ := hp_8
    subst hAm_9
    have fr_10 : ∀ k, k < 22 → en_7 k = en k := fun k hk => Eq.trans (hFm_9 k hk) (fr_5 k hk)
    refine r_vret (mc := 0) (ms := 0) hx hb hr hlk hs (Nat.le_refl _) (Nat.le_refl _) dX8_turn_145 hQ ?_
    have hcl1 : c_4 33 (d0 + 1) = nI s := by rw [ec_4, cU_o (by omega)]; exact hst
    have hMe : MdW G n ad en_7 ss ns c_4 (nI u) 0 (nI d0) (nI s) := by have q := hMm_9; rw [if_pos rfl, hcl1] at q; exact q
    exact ⟨⟨rfl, fr_10⟩, c_4, hMe, by rw [ec_4, cU_s], fun r t h => by rw [ec_4, cU_o (by omega)]⟩
  refine lv_iload hx hb dX8_turn_114 (lv_at hl 0 rfl) ?_
  refine lv_iconst (v := 3) hx hb dX8_turn_116 (by decide) ?_
  refine lv_icmp_eq (tgt := 127) hx hb dX8_turn_117 (by decide) (fun c117 => ?_) (fun c117 => ?_)
  · skip
    refine lv_iconst (v := 2) hx hb dX8_turn_127 (by decide) ?_
    refine lv_goto (tgt := 132) hx hb dX8_turn_128 (by decide) ?_
    refine r_topi (y := nI (rPremL.getD r 0)) (by have e : r = 3 ∨ r = 6 := by { first | exact Or.inl (sw_nI c117 rfl (by omega) (by decide)) | exact Or.inr (sw_nI c124 rfl (by omega) (by decide)) }; rcases e with rfl | rfl <;> rfl) ?_
    refine lv_istore (lv' := [(5, .int (nI (rPremL.getD r 0))), (4, .int (nI r)), (3, .int (nI 1)), (2, .int (nI s)), (0, .ref (ad 22)), (1, .int (nI fu))]) hx hb dX8_turn_132 hl (by decide) rfl (fun ls hl => ?_)
    exact JOIN134 _ (lv_sub hl [4, 5, 3, 2, 1, 0] rfl)
  · skip
    refine lv_iload hx hb dX8_turn_120 (lv_at hl 0 rfl) ?_
    refine lv_bipush (v := 6) hx hb dX8_turn_122 (by decide) ?_
    refine lv_icmp_ne (tgt := 131) hx hb dX8_turn_124 (by decide) (fun c124 => ?_) (fun c124 => ?_)
    · skip
      refine lv_iconst (v := 1) hx hb dX8_turn_131 (by decide) ?_
      refine r_topi (y := nI (rPremL.getD r 0)) (by have e : r = 4 ∨ r = 5 ∨ r = 7 ∨ r = 8 ∨ r = 9 ∨ r = 10 := by { have : ¬ r = 3 := fun q => c117 (by rw [q]; rfl); have : ¬ r = 6 := fun q => c124 (by rw [q]; rfl); omega }; rcases e with rfl | rfl | rfl | rfl | rfl | rfl <;> rfl) ?_
      refine lv_istore (lv' := [(5, .int (nI (rPremL.getD r 0))), (4, .int (nI r)), (3, .int (nI 1)), (2, .int (nI s)), (0, .ref (ad 22)), (1, .int (nI fu))]) hx hb dX8_turn_132 hl (by decide) rfl (fun ls hl => ?_)
      exact JOIN134 _ (lv_sub hl [4, 5, 3, 2, 1, 0] rfl)
    · skip
      refine lv_iconst (v := 2) hx hb dX8_turn_127 (by decide) ?_
      refine lv_goto (tgt := 132) hx hb dX8_turn_128 (by decide) ?_
      refine r_topi (y := nI (rPremL.getD r 0)) (by have e : r = 3 ∨ r = 6 := by { first | exact Or.inl (sw_nI c117 rfl (by omega) (by decide)) | exact Or.inr (sw_nI c124 rfl (by omega) (by decide)) }; rcases e with rfl | rfl <;> rfl) ?_
      refine lv_istore (lv' := [(5, .int (nI (rPremL.getD r 0))), (4, .int (nI r)), (3, .int (nI 1)), (2, .int (nI s)), (0, .ref (ad 22)), (1, .int (nI fu))]) hx hb dX8_turn_132 hl (by decide) rfl (fun ls hl => ?_)
      exact JOIN134 _ (lv_sub hl [4, 5, 3, 2, 1, 0] rfl)

set_option maxHeartbeats 600000 in
set_option maxRecDepth 100000 in
theorem c_X8_turn_B1_2 (l : Launch) (G : rG) {n : Nat} {ad : Nat → Nat} {en : Nat → va_E} {ss ns : List Row} {c : Nat → Nat → Int32} {d u cv : Nat} (hM : MdW G n ad en ss ns c (nI u) 0 (nI d) (nI cv)) {goal s fu : Nat} (hd : 1 ≤ d ∧ d ≤ 80) (hu : u ≤ fu ∧ fu ≤ 3000) (hwa : c 32 d = nI goal) (hst : c 33 d = nI s) (hs3 : s ≤ 3000) (hg : 1 ≤ goal ∧ goal ≤ ss.length) {r : Nat} (hr3 : 3 ≤ r ∧ r ≤ 10) (hph : c 34 d = nI 2) (h36 : c 36 s = nI r) (hmn : rPremL.getD r 0 = 2) (hcv : 1 ≤ cv ∧ cv ≤ 3000)  : CV l G yX8_turn uX8_turn (4) (99) (0) (0) [.ref (ad 22), .int (nI fu)] (n) (n) ad en (fun ad1 en1 => mFr ad en ad1 en1 ∧ ∃ c1, MdW G n ad en1 ss ns c1 (nI u) 0 (nI (d - 1)) (nI s) ∧ c1 40 s = nI cv ∧ ∀ r t, ¬ (r = 40 ∧ t = s) → c1 r t = c r t) := by
  intro sz
  refine rMet (Qc := qV G (n) (fun ad1 en1 => mFr ad en ad1 en1 ∧ ∃ c1, MdW G n ad en1 ss ns c1 (nI u) 0 (nI (d - 1)) (nI s) ∧ c1 40 s = nI cv ∧ ∀ r t, ¬ (r = 40 ∧ t = s) → c1 r t = c r t)) (cc := cX8_turn) (maxL := 6) (ret := none) (by decide) rfl (Nat.le_of_ble_eq_true rfl) ?_
  intro pP eE sS mM aA bB tT cC ls A Q hc hK hsz hA hs hl hQ
  obtain ⟨hx, hb, hr, hts, hown, hlk, hnm, hml⟩ := hc
  have hl : lv_has ls 6 [(0, .ref (ad 22)), (1, .int (nI fu))] := hl
  have fr0 : ∀ k, k < 22 → en k = en k := fun _ _ => rfl
  obtain ⟨hn48, -, -, -, hok, hnk⟩ := id hM
  have h6 := hok.1
  have h8 := hnk.1
  
  refine lv_aload_n hx hb dX8_turn_0 rfl (lv_at hl 0 rfl) ?_
  refine r_get (ci := 8) (v := .ref (ad 33)) (C := RX8) (T := TX8) (N := 31) hx hb hts inlX8 hown hK hs (22) (by omega) (md22 hM) rfl 14 (by decide) (hts _ w_fl_RX8_42) rfl dX8_turn_1 ?_
  refine lv_aload_n hx hb dX8_turn_4 rfl (lv_at hl 0 rfl) ?_
  refine r_get (ci := 8) (v := .int (nI d)) (C := RX8) (T := TX8) (N := 31) hx hb hts inlX8 hown hK hs (22) (by omega) (md22 hM) rfl 17 (by decide) (hts _ w_fl_RX8_109) rfl dX8_turn_5 ?_
  refine r_ialdN (t := d) hx hb hK hs (33) (by omega) (md33 hM) (rfl) (by omega) (by omega) dX8_turn_8 ?_
  refine r_topi (y := nI s) (hst) ?_
  refine lv_istore_n (lv' := [(2, .int (nI s)), (0, .ref (ad 22)), (1, .int (nI fu))]) hx hb dX8_turn_9 rfl hl (by decide) rfl (fun ls hl => ?_)
  refine lv_aload_n hx hb dX8_turn_10 rfl (lv_at hl 1 rfl) ?_
  refine r_get (ci := 8) (v := .ref (ad 34)) (C := RX8) (T := TX8) (N := 31) hx hb hts inlX8 hown hK hs (22) (by omega) (md22 hM) rfl 15 (by decide) (hts _ w_fl_RX8_45) rfl dX8_turn_11 ?_
  refine lv_aload_n hx hb dX8_turn_14 rfl (lv_at hl 1 rfl) ?_
  refine r_get (ci := 8) (v := .int (nI d)) (C := RX8) (T := TX8) (N := 31) hx hb hts inlX8 hown hK hs (22) (by omega) (md22 hM) rfl 17 (by decide) (hts _ w_fl_RX8_109) rfl dX8_turn_15 ?_
  refine r_ialdN (t := d) hx hb hK hs (34) (by omega) (md34 hM) (rfl) (by omega) (by omega) dX8_turn_18 ?_
  refine r_topi (y := nI 2) (hph) ?_
  refine lv_istore_n (lv' := [(3, .int (nI 2)), (2, .int (nI s)), (0, .ref (ad 22)), (1, .int (nI fu))]) hx hb dX8_turn_19 rfl hl (by decide) rfl (fun ls hl => ?_)
  refine lv_iload_n hx hb dX8_turn_20 rfl (lv_at hl 0 rfl) ?_
  refine lv_if_ne (tgt := 28) hx hb dX8_turn_21 (by decide) (fun _ => ?_) (fun c21 => absurd c21 (by decide))
  refine lv_aload_n hx hb dX8_turn_28 rfl (lv_at hl 2 rfl) ?_
  refine r_get (ci := 8) (v := .ref (ad 36)) (C := RX8) (T := TX8) (N := 31) hx hb hts inlX8 hown hK hs (22) (by omega) (md22 hM) rfl 18 (by decide) (hts _ w_fl_RX8_51) rfl dX8_turn_29 ?_
  refine lv_iload_n hx hb dX8_turn_32 rfl (lv_at hl 1 rfl) ?_
  refine r_ialdN (t := s) hx hb hK hs (36) (by omega) (md36 hM) (rfl) (by omega) (by omega) dX8_turn_33 ?_
  refine r_topi (y := nI r) (h36) ?_
  refine lv_istore (lv' := [(4, .int (nI r)), (3, .int (nI 2)), (2, .int (nI s)), (0, .ref (ad 22)), (1, .int (nI fu))]) hx hb dX8_turn_34 hl (by decide) rfl (fun ls hl => ?_)
  refine lv_iload hx hb dX8_turn_36 (lv_at hl 0 rfl) ?_
  refine lv_bipush (v := 11) hx hb dX8_turn_38 (by decide) ?_
  refine lv_icmp_ne (tgt := 51) hx hb dX8_turn_40 (by decide) (fun _ => ?_) (fun c40 => absurd c40 (fun q => by have := sw_nI (v := 11) q rfl (by omega) (by decide); omega))
  refine lv_iload_n hx hb dX8_turn_51 rfl (lv_at hl 1 rfl) ?_
  refine lv_if_le (tgt := 62) hx hb dX8_turn_52 (by decide) (fun c52 => absurd c52 (by decide)) (fun _ => ?_)
  refine lv_aload_n hx hb dX8_turn_55 rfl (lv_at hl 3 rfl) ?_
  refine r_get (ci := 8) (v := .int (nI cv)) (C := RX8) (T := TX8) (N := 31) hx hb hts inlX8 hown hK hs (22) (by omega) (md22 hM) rfl 23 (by decide) (hts _ w_fl_RX8_115) rfl dX8_turn_56 ?_
  refine lv_if_eq (tgt := 68) hx hb dX8_turn_59 (by decide) (fun c59 => absurd c59 (fun q => by have := z_of (by omega) q; omega)) (fun _ => ?_)
  refine lv_iload hx hb dX8_turn_62 (lv_at hl 0 rfl) ?_
  refine lv_iconst (v := 3) hx hb dX8_turn_64 (by decide) ?_
  refine lv_icmp_ge (tgt := 84) hx hb dX8_turn_65 (by decide) (fun _ => ?_) (fun c65 => absurd ((nI_leI (a := 3) (by decide) (by omega)).mpr (by omega)) c65)
  refine lv_iload_n hx hb dX8_turn_84 rfl (lv_at hl 1 rfl) ?_
  refine lv_iconst (v := 1) hx hb dX8_turn_85 (by decide) ?_
  refine lv_icmp_ne (tgt := 99) hx hb dX8_turn_86 (by decide) (fun _ => ?_) (fun c86 => absurd c86 (by decide))
  refine lv_iload_n hx hb dX8_turn_99 rfl (lv_at hl 1 rfl) ?_
  refine lv_iconst (v := 2) hx hb dX8_turn_100 (by decide) ?_
  refine lv_icmp_ne (tgt := 114) hx hb dX8_turn_101 (by decide) (fun c101 => absurd (by decide) c101) (fun _ => ?_)
  refine lv_aload_n hx hb dX8_turn_104 rfl (lv_at hl 3 rfl) ?_
  refine r_get (ci := 8) (v := .ref (ad 40)) (C := RX8) (T := TX8) (N := 31) hx hb hts inlX8 hown hK hs (22) (by omega) (md22 hM) rfl 22 (by decide) (hts _ w_fl_RX8_63) rfl dX8_turn_105 ?_
  refine lv_iload_n hx hb dX8_turn_108 rfl (lv_at hl 2 rfl) ?_
  refine lv_aload_n hx hb dX8_turn_109 rfl (lv_at hl 3 rfl) ?_
  refine r_get (ci := 8) (v := .int (nI cv)) (C := RX8) (T := TX8) (N := 31) hx hb hts inlX8 hown hK hs (22) (by omega) (md22 hM) rfl 23 (by decide) (hts _ w_fl_RX8_115) rfl dX8_turn_110 ?_
  refine r_iastN (t := s) hx hb hK hs (40) (by omega) (md40 hM) (rfl) (by omega) (by omega) dX8_turn_113 (fun H locs en_2 hen_2 hs => ?_)
  obtain ⟨c_4, ec_4⟩ : ∃ z, z = cU c 40 (s) (nI cv) := ⟨_, rfl⟩
  have hM_3 : MdW G n ad en_2 ss ns c_4 (nI u) 0 (nI d) (nI cv) := md_ar (f := upd (c 40) (s) (nI cv)) hM 40 (by decide) (by decide) hen_2 ec_4
  have fr_5 : ∀ k, k < 22 → en_2 k = en k := fun k hk => Eq.trans (by rw [hen_2]; exact va_up_ne _ _ (by omega)) (fr0 k hk)
  have JOIN134 : ∀ ls : Array Slot, lv_has ls 6 [(0, .ref (ad 22)), (1, .int (nI fu)), (2, .int (nI s)), (3, .int (nI 2)), (4, .int (nI r)), (5, .int (nI (rPremL.getD r 0)))] → W pP l eE (rRm (4) (99) (0) (0)) sS mM aA bB tT cC H locs (0) (0) Q (F0 mM 134 ls []) := by
    intro ls hl
    refine lv_iload_n hx hb dX8_turn_134 rfl (lv_at hl 3 rfl) ?_
    refine lv_iload hx hb dX8_turn_135 (lv_at hl 5 rfl) ?_
    refine lv_icmp_ne (tgt := 146) hx hb dX8_turn_137 (by decide) (fun c137 => absurd (by rw [hmn]) c137) (fun _ => ?_)
    refine lv_aload_n hx hb dX8_turn_140 rfl (lv_at hl 0 rfl) ?_
    refine lv_iconst (v := 1) hx hb dX8_turn_141 (by decide) ?_
    obtain ⟨d0, hd0⟩ : ∃ d0, d = d0 + 1 := ⟨d - 1, by omega⟩
    subst hd0
    refine r_callVv (ci := 8) (As := [.int (1)]) hx hb hml hown hts hK hA hs (22) (by omega) (md22 hM_3) rfl rfl (c_X8_close l G hM_3 (d := d0) true (by omega)) (cwV 1 hts (tbV w_ml_RX8_151 w_im_yX8_close w_se_yX8_close w_ini_RX8 w_cd_yX8_close) rfl rfl rfl (by decide +kernel) ⟨Nat.le_of_ble_eq_true rfl, Nat.le_of_ble_eq_true rfl⟩) rfl hl.1 rfl (Nat.le_of_ble_eq_true rfl) dX8_turn_142 ⟨Nat.le_refl _, Nat.le_refl _⟩ (fun ad_6 en_7 H locs hp_8 hs => ?_)
    obtain ⟨⟨hAm_9, hFm_9⟩, hMm_9⟩ := hp_8
    subst hAm_9
    have fr_10 : ∀ k, k < 22 → en_7 k = en k := fun k hk => Eq.trans (hFm_9 k hk) (fr_5 k hk)
    refine r_vret (mc := 0) (ms := 0) hx hb hr hlk hs (Nat.le_refl _) (Nat.le_refl _) dX8_turn_145 hQ ?_
    have hcl1 : c_4 33 (d0 + 1) = nI s := by rw [ec_4, cU_o (by omega)]; exact hst
    have hMe : MdW G n ad en_7 ss ns c_4 (nI u) 0 (nI d0) (nI s) := by have q := hMm_9; rw [if_pos rfl, hcl1] at q; exact q
    exact ⟨⟨rfl, fr_10⟩, c_4, hMe, by rw [ec_4, cU_s], fun r t h => by rw [ec_4, cU_o (by omega)]⟩
  refine lv_iload hx hb dX8_turn_114 (lv_at hl 0 rfl) ?_
  refine lv_iconst (v := 3) hx hb dX8_turn_116 (by decide) ?_
  refine lv_icmp_eq (tgt := 127) hx hb dX8_turn_117 (by decide) (fun c117 => ?_) (fun c117 => ?_)
  · skip
    refine lv_iconst (v := 2) hx hb dX8_turn_127 (by decide) ?_
    refine lv_goto (tgt := 132) hx hb dX8_turn_128 (by decide) ?_
    refine r_topi (y := nI (rPremL.getD r 0)) (by have e : r = 3 ∨ r = 6 := by { first | exact Or.inl (sw_nI c117 rfl (by omega) (by decide)) | exact Or.inr (sw_nI c124 rfl (by omega) (by decide)) }; rcases e with rfl | rfl <;> rfl) ?_
    refine lv_istore (lv' := [(5, .int (nI (rPremL.getD r 0))), (4, .int (nI r)), (3, .int (nI 2)), (2, .int (nI s)), (0, .ref (ad 22)), (1, .int (nI fu))]) hx hb dX8_turn_132 hl (by decide) rfl (fun ls hl => ?_)
    exact JOIN134 _ (lv_sub hl [4, 5, 3, 2, 1, 0] rfl)
  · skip
    refine lv_iload hx hb dX8_turn_120 (lv_at hl 0 rfl) ?_
    refine lv_bipush (v := 6) hx hb dX8_turn_122 (by decide) ?_
    refine lv_icmp_ne (tgt := 131) hx hb dX8_turn_124 (by decide) (fun c124 => ?_) (fun c124 => ?_)
    · skip
      refine lv_iconst (v := 1) hx hb dX8_turn_131 (by decide) ?_
      refine r_topi (y := nI (rPremL.getD r 0)) (by have e : r = 4 ∨ r = 5 ∨ r = 7 ∨ r = 8 ∨ r = 9 ∨ r = 10 := by { have : ¬ r = 3 := fun q => c117 (by rw [q]; rfl); have : ¬ r = 6 := fun q => c124 (by rw [q]; rfl); omega }; rcases e with rfl | rfl | rfl | rfl | rfl | rfl <;> rfl) ?_
      refine lv_istore (lv' := [(5, .int (nI (rPremL.getD r 0))), (4, .int (nI r)), (3, .int (nI 2)), (2, .int (nI s)), (0, .ref (ad 22)), (1, .int (nI fu))]) hx hb dX8_turn_132 hl (by decide) rfl (fun ls hl => ?_)
      exact JOIN134 _ (lv_sub hl [4, 5, 3, 2, 1, 0] rfl)
    · skip
      refine lv_iconst (v := 2) hx hb dX8_turn_127 (by decide) ?_
      refine lv_goto (tgt := 132) hx hb dX8_turn_128 (by decide) ?_
      refine r_topi (y := nI (rPremL.getD r 0)) (by have e : r = 3 ∨ r = 6 := by { first | exact Or.inl (sw_nI c117 rfl (by omega) (by decide)) | exact Or.inr (sw_nI c124 rfl (by omega) (by decide)) }; rcases e with rfl | rfl <;> rfl) ?_
      refine lv_istore (lv' := [(5, .int (nI (rPremL.getD r 0))), (4, .int (nI r)), (3, .int (nI 2)), (2, .int (nI s)), (0, .ref (ad 22)), (1, .int (nI fu))]) hx hb dX8_turn_132 hl (by decide) rfl (fun ls hl => ?_)
      exact JOIN134 _ (lv_sub hl [4, 5, 3, 2, 1, 0] rfl)

set_option maxHeartbeats 600000 in
set_option maxRecDepth 100000 in
theorem c_X8_turn_B2 (l : Launch) (G : rG) {n : Nat} {ad : Nat → Nat} {en : Nat → va_E} {ss ns : List Row} {c : Nat → Nat → Int32} {d u cv : Nat} (hM : MdW G n ad en ss ns c (nI u) 0 (nI d) (nI cv)) {goal s fu : Nat} (hd : 1 ≤ d ∧ d ≤ 80) (hu : u ≤ fu ∧ fu ≤ 3000) (hwa : c 32 d = nI goal) (hst : c 33 d = nI s) (hs3 : s ≤ 3000) (hg : 1 ≤ goal ∧ goal ≤ ss.length) {Γ : Nat → Bool} (hR : RowM c d Γ) (hΓ : ∀ y, Γ y = true → 1 ≤ y ∧ y ≤ ss.length) {r f : Nat} (hr3 : r = 3 ∨ r = 6) (hph : c 34 d = nI 1) (h36 : c 36 s = nI r) (h37 : c 37 s = nI (if 5 ≤ r then f else goal)) (hwy : wyOK ss Γ goal r f) (hcv : 1 ≤ cv ∧ cv ≤ 3000)  : CV l G yX8_turn uX8_turn (4) (99) (0) (0) [.ref (ad 22), .int (nI fu)] (n) (n) ad en (fun ad1 en1 => mFr ad en ad1 en1 ∧ ∃ c2 : Nat → Nat → Int32, c2 39 s = nI cv ∧ c2 34 d = nI 2 ∧ (∀ r t, ¬ (r = 39 ∧ t = s) → ¬ (r = 34 ∧ t = d) → c2 r t = c r t) ∧ ChP G n ad en1 ns c2 u d fu (nI cv) ss r 2 f Γ goal) := by
  intro sz
  refine rMet (Qc := qV G (n) (fun ad1 en1 => mFr ad en ad1 en1 ∧ ∃ c2 : Nat → Nat → Int32, c2 39 s = nI cv ∧ c2 34 d = nI 2 ∧ (∀ r t, ¬ (r = 39 ∧ t = s) → ¬ (r = 34 ∧ t = d) → c2 r t = c r t) ∧ ChP G n ad en1 ns c2 u d fu (nI cv) ss r 2 f Γ goal)) (cc := cX8_turn) (maxL := 6) (ret := none) (by decide) rfl (Nat.le_of_ble_eq_true rfl) ?_
  intro pP eE sS mM aA bB tT cC ls A Q hc hK hsz hA hs hl hQ
  obtain ⟨hx, hb, hr, hts, hown, hlk, hnm, hml⟩ := hc
  have hl : lv_has ls 6 [(0, .ref (ad 22)), (1, .int (nI fu))] := hl
  have fr0 : ∀ k, k < 22 → en k = en k := fun _ _ => rfl
  obtain ⟨hn48, -, -, -, hok, hnk⟩ := id hM
  have h6 := hok.1
  have h8 := hnk.1
  
  refine lv_aload_n hx hb dX8_turn_0 rfl (lv_at hl 0 rfl) ?_
  refine r_get (ci := 8) (v := .ref (ad 33)) (C := RX8) (T := TX8) (N := 31) hx hb hts inlX8 hown hK hs (22) (by omega) (md22 hM) rfl 14 (by decide) (hts _ w_fl_RX8_42) rfl dX8_turn_1 ?_
  refine lv_aload_n hx hb dX8_turn_4 rfl (lv_at hl 0 rfl) ?_
  refine r_get (ci := 8) (v := .int (nI d)) (C := RX8) (T := TX8) (N := 31) hx hb hts inlX8 hown hK hs (22) (by omega) (md22 hM) rfl 17 (by decide) (hts _ w_fl_RX8_109) rfl dX8_turn_5 ?_
  refine r_ialdN (t := d) hx hb hK hs (33) (by omega) (md33 hM) (rfl) (by omega) (by omega) dX8_turn_8 ?_
  refine r_topi (y := nI s) (hst) ?_
  refine lv_istore_n (lv' := [(2, .int (nI s)), (0, .ref (ad 22)), (1, .int (nI fu))]) hx hb dX8_turn_9 rfl hl (by decide) rfl (fun ls hl => ?_)
  refine lv_aload_n hx hb dX8_turn_10 rfl (lv_at hl 1 rfl) ?_
  refine r_get (ci := 8) (v := .ref (ad 34)) (C := RX8) (T := TX8) (N := 31) hx hb hts inlX8 hown hK hs (22) (by omega) (md22 hM) rfl 15 (by decide) (hts _ w_fl_RX8_45) rfl dX8_turn_11 ?_
  refine lv_aload_n hx hb dX8_turn_14 rfl (lv_at hl 1 rfl) ?_
  refine r_get (ci := 8) (v := .int (nI d)) (C := RX8) (T := TX8) (N := 31) hx hb hts inlX8 hown hK hs (22) (by omega) (md22 hM) rfl 17 (by decide) (hts _ w_fl_RX8_109) rfl dX8_turn_15 ?_
  refine r_ialdN (t := d) hx hb hK hs (34) (by omega) (md34 hM) (rfl) (by omega) (by omega) dX8_turn_18 ?_
  refine r_topi (y := nI 1) (hph) ?_
  refine lv_istore_n (lv' := [(3, .int (nI 1)), (2, .int (nI s)), (0, .ref (ad 22)), (1, .int (nI fu))]) hx hb dX8_turn_19 rfl hl (by decide) rfl (fun ls hl => ?_)
  refine lv_iload_n hx hb dX8_turn_20 rfl (lv_at hl 0 rfl) ?_
  refine lv_if_ne (tgt := 28) hx hb dX8_turn_21 (by decide) (fun _ => ?_) (fun c21 => absurd c21 (by decide))
  refine lv_aload_n hx hb dX8_turn_28 rfl (lv_at hl 2 rfl) ?_
  refine r_get (ci := 8) (v := .ref (ad 36)) (C := RX8) (T := TX8) (N := 31) hx hb hts inlX8 hown hK hs (22) (by omega) (md22 hM) rfl 18 (by decide) (hts _ w_fl_RX8_51) rfl dX8_turn_29 ?_
  refine lv_iload_n hx hb dX8_turn_32 rfl (lv_at hl 1 rfl) ?_
  refine r_ialdN (t := s) hx hb hK hs (36) (by omega) (md36 hM) (rfl) (by omega) (by omega) dX8_turn_33 ?_
  refine r_topi (y := nI r) (h36) ?_
  refine lv_istore (lv' := [(4, .int (nI r)), (3, .int (nI 1)), (2, .int (nI s)), (0, .ref (ad 22)), (1, .int (nI fu))]) hx hb dX8_turn_34 hl (by decide) rfl (fun ls hl => ?_)
  refine lv_iload hx hb dX8_turn_36 (lv_at hl 0 rfl) ?_
  refine lv_bipush (v := 11) hx hb dX8_turn_38 (by decide) ?_
  refine lv_icmp_ne (tgt := 51) hx hb dX8_turn_40 (by decide) (fun _ => ?_) (fun c40 => absurd c40 (fun q => by have := sw_nI (v := 11) q rfl (by omega) (by decide); omega))
  refine lv_iload_n hx hb dX8_turn_51 rfl (lv_at hl 1 rfl) ?_
  refine lv_if_le (tgt := 62) hx hb dX8_turn_52 (by decide) (fun c52 => absurd c52 (by decide)) (fun _ => ?_)
  refine lv_aload_n hx hb dX8_turn_55 rfl (lv_at hl 3 rfl) ?_
  refine r_get (ci := 8) (v := .int (nI cv)) (C := RX8) (T := TX8) (N := 31) hx hb hts inlX8 hown hK hs (22) (by omega) (md22 hM) rfl 23 (by decide) (hts _ w_fl_RX8_115) rfl dX8_turn_56 ?_
  refine lv_if_eq (tgt := 68) hx hb dX8_turn_59 (by decide) (fun c59 => absurd c59 (fun q => by have := z_of (by omega) q; omega)) (fun _ => ?_)
  refine lv_iload hx hb dX8_turn_62 (lv_at hl 0 rfl) ?_
  refine lv_iconst (v := 3) hx hb dX8_turn_64 (by decide) ?_
  refine lv_icmp_ge (tgt := 84) hx hb dX8_turn_65 (by decide) (fun _ => ?_) (fun c65 => absurd ((nI_leI (a := 3) (by decide) (by omega)).mpr (by omega)) c65)
  refine lv_iload_n hx hb dX8_turn_84 rfl (lv_at hl 1 rfl) ?_
  refine lv_iconst (v := 1) hx hb dX8_turn_85 (by decide) ?_
  refine lv_icmp_ne (tgt := 99) hx hb dX8_turn_86 (by decide) (fun c86 => absurd (rfl) c86) (fun _ => ?_)
  refine lv_aload_n hx hb dX8_turn_89 rfl (lv_at hl 3 rfl) ?_
  refine r_get (ci := 8) (v := .ref (ad 39)) (C := RX8) (T := TX8) (N := 31) hx hb hts inlX8 hown hK hs (22) (by omega) (md22 hM) rfl 21 (by decide) (hts _ w_fl_RX8_60) rfl dX8_turn_90 ?_
  refine lv_iload_n hx hb dX8_turn_93 rfl (lv_at hl 2 rfl) ?_
  refine lv_aload_n hx hb dX8_turn_94 rfl (lv_at hl 3 rfl) ?_
  refine r_get (ci := 8) (v := .int (nI cv)) (C := RX8) (T := TX8) (N := 31) hx hb hts inlX8 hown hK hs (22) (by omega) (md22 hM) rfl 23 (by decide) (hts _ w_fl_RX8_115) rfl dX8_turn_95 ?_
  refine r_iastN (t := s) hx hb hK hs (39) (by omega) (md39 hM) (rfl) (by omega) (by omega) dX8_turn_98 (fun H locs en_2 hen_2 hs => ?_)
  obtain ⟨c_4, ec_4⟩ : ∃ z, z = cU c 39 (s) (nI cv) := ⟨_, rfl⟩
  have hM_3 : MdW G n ad en_2 ss ns c_4 (nI u) 0 (nI d) (nI cv) := md_ar (f := upd (c 39) (s) (nI cv)) hM 39 (by decide) (by decide) hen_2 ec_4
  have fr_5 : ∀ k, k < 22 → en_2 k = en k := fun k hk => Eq.trans (by rw [hen_2]; exact va_up_ne _ _ (by omega)) (fr0 k hk)
  have hR_6 : RowM c_4 d Γ := by rw [ec_4]; exact row_cU hR (by decide)
  refine lv_iload_n hx hb dX8_turn_99 rfl (lv_at hl 1 rfl) ?_
  refine lv_iconst (v := 2) hx hb dX8_turn_100 (by decide) ?_
  refine lv_icmp_ne (tgt := 114) hx hb dX8_turn_101 (by decide) (fun _ => ?_) (fun c101 => absurd c101 (by decide))
  have JOIN134 : ∀ ls : Array Slot, lv_has ls 6 [(0, .ref (ad 22)), (1, .int (nI fu)), (2, .int (nI s)), (3, .int (nI 1)), (4, .int (nI r)), (5, .int (nI (rPremL.getD r 0)))] → W pP l eE (rRm (4) (99) (0) (0)) sS mM aA bB tT cC H locs (0) (0) Q (F0 mM 134 ls []) := by
    intro ls hl
    refine lv_iload_n hx hb dX8_turn_134 rfl (lv_at hl 3 rfl) ?_
    refine lv_iload hx hb dX8_turn_135 (lv_at hl 5 rfl) ?_
    refine lv_icmp_ne (tgt := 146) hx hb dX8_turn_137 (by decide) (fun _ => ?_) (fun c137 => absurd c137 (by rcases hr3 with rfl | rfl <;> decide))
    refine lv_aload_n hx hb dX8_turn_146 rfl (lv_at hl 0 rfl) ?_
    refine r_get (ci := 8) (v := .ref (ad 34)) (C := RX8) (T := TX8) (N := 31) hx hb hts inlX8 hown hK hs (22) (by omega) (md22 hM_3) rfl 15 (by decide) (hts _ w_fl_RX8_45) rfl dX8_turn_147 ?_
    refine lv_aload_n hx hb dX8_turn_150 rfl (lv_at hl 0 rfl) ?_
    refine r_get (ci := 8) (v := .int (nI d)) (C := RX8) (T := TX8) (N := 31) hx hb hts inlX8 hown hK hs (22) (by omega) (md22 hM_3) rfl 17 (by decide) (hts _ w_fl_RX8_109) rfl dX8_turn_151 ?_
    refine lv_dup2_11 hx hb dX8_turn_154 rfl rfl ?_
    refine r_ialdN (t := d) hx hb hK hs (34) (by omega) (md34 hM_3) (rfl) (by omega) (by omega) dX8_turn_155 ?_
    refine r_topi (y := nI 1) (by rw [ec_4, cU_o (by omega)]; exact hph) ?_
    refine lv_iconst (v := 1) hx hb dX8_turn_156 (by decide) ?_
    refine lv_iadd hx hb dX8_turn_157 ?_
    refine r_topi (y := nI 2) (by decide) ?_
    refine r_iastN (t := d) hx hb hK hs (34) (by omega) (md34 hM_3) (rfl) (by omega) (by omega) dX8_turn_158 (fun H locs en_8 hen_8 hs => ?_)
    obtain ⟨c_10, ec_10⟩ : ∃ z, z = cU c_4 34 (d) (nI 2) := ⟨_, rfl⟩
    have hM_9 : MdW G n ad en_8 ss ns c_10 (nI u) 0 (nI d) (nI cv) := md_ar (f := upd (c_4 34) (d) (nI 2)) hM_3 34 (by decide) (by decide) hen_8 ec_10
    have fr_11 : ∀ k, k < 22 → en_8 k = en k := fun k hk => Eq.trans (by rw [hen_8]; exact va_up_ne _ _ (by omega)) (fr_5 k hk)
    have hR_12 : RowM c_10 d Γ := by rw [ec_10]; exact row_cU hR_6 (by decide)
    refine lv_aload_n hx hb dX8_turn_159 rfl (lv_at hl 0 rfl) ?_
    refine lv_iload hx hb dX8_turn_160 (lv_at hl 4 rfl) ?_
    refine lv_aload_n hx hb dX8_turn_162 rfl (lv_at hl 0 rfl) ?_
    refine r_get (ci := 8) (v := .ref (ad 37)) (C := RX8) (T := TX8) (N := 31) hx hb hts inlX8 hown hK hs (22) (by omega) (md22 hM_9) rfl 19 (by decide) (hts _ w_fl_RX8_54) rfl dX8_turn_163 ?_
    refine lv_iload_n hx hb dX8_turn_166 rfl (lv_at hl 2 rfl) ?_
    refine r_ialdN (t := s) hx hb hK hs (37) (by omega) (md37 hM_9) (rfl) (by omega) (by omega) dX8_turn_167 ?_
    refine r_topi (y := nI (if 5 ≤ r then f else goal)) (by rw [ec_10, cU_o (by omega), ec_4, cU_o (by omega)]; exact h37) ?_
    refine lv_iload_n hx hb dX8_turn_168 rfl (lv_at hl 3 rfl) ?_
    obtain ⟨ob, ss1, hB⟩ : ∃ o z, brg ss r (1 + 1) f = (o, z) := ⟨_, _, rfl⟩
    refine r_callVv (ci := 8) (As := [.int (nI r), .int (nI (if 5 ≤ r then f else goal)), .int (nI 1)]) hx hb hml hown hts hK hA hs (22) (by omega) (md22 hM_9) rfl rfl (c_X8_premise l G hM_9 (goal := goal) (r := r) (f := f) (k := 1) (aa := (if 5 ≤ r then f else goal)) (by omega) (by rw [ec_10, cU_o (by omega), ec_4, cU_o (by omega)]; exact hwa) (by omega) rfl hg hR_12 hΓ hwy) (cwV 3 hts (tbV w_ml_RX8_155 w_im_yX8_premise w_se_yX8_premise w_ini_RX8 w_cd_yX8_premise) rfl rfl rfl (by decide +kernel) ⟨Nat.le_of_ble_eq_true rfl, Nat.le_of_ble_eq_true rfl⟩) rfl hl.1 rfl (Nat.le_of_ble_eq_true rfl) dX8_turn_169 ⟨Nat.le_refl _, Nat.le_refl _⟩ (fun ad_13 en_14 H locs hp_15 hs => ?_)
    obtain ⟨⟨hA3, hF3⟩, c3, hM3, hk3, hq3⟩ := hp_15
    subst hA3
    rw [hB] at hM3 hq3
    have fr_16 : ∀ k, k < 22 → en_14 k = en k := fun k hk => Eq.trans (hF3 k hk) (fr_11 k hk)
    refine lv_aload_n hx hb dX8_turn_172 rfl (lv_at hl 0 rfl) ?_
    refine lv_iload_n hx hb dX8_turn_173 rfl (lv_at hl 1 rfl) ?_
    rcases ob with _ | qb
    · skip
      have hM3n : MdW G n ad en_14 ss1 ns c3 (nI u) ((-3)) (nI d) (nI cv) := hM3
      refine r_callVvR (ci := 8) (As := [.int (nI fu)]) hx hb hml hown hts hK hA hs (22) (by omega) (md22 hM3n) rfl rfl (c_X8_enter_x l G hM3n (nI fu) (by decide)) (cwV 1 hts (tbV w_ml_RX8_158 w_im_yX8_enter w_se_yX8_enter w_ini_RX8 w_cd_yX8_enter) rfl rfl rfl (by decide +kernel) ⟨Nat.le_of_ble_eq_true rfl, Nat.le_of_ble_eq_true rfl⟩) rfl hl.1 rfl (Nat.le_of_ble_eq_true rfl) dX8_turn_174 ⟨Nat.zero_le _, Nat.zero_le _⟩ (fun H locs hs => ?_)
      refine r_vret (mc := 0) (ms := 0) hx hb hr hlk hs (Nat.le_refl _) (Nat.le_refl _) dX8_turn_177 hQ ?_
      exact ⟨⟨rfl, fr_16⟩, c_10, by rw [ec_10, cU_o (by omega), ec_4, cU_s], by rw [ec_10, cU_s], fun r t h1 h2 => by rw [ec_10, cU_o (by omega), ec_4, cU_o (by omega)], chp_x hB hM3n⟩
    · skip
      have hM3s : MdW G n ad en_14 ss1 ns c3 (nI u) 0 (nI d) (nI cv) := hM3
      obtain ⟨hRq, hwq⟩ := hq3 qb rfl
      by_cases hout : d = 80 ∨ u = fu
      · skip
        refine r_callVv (ci := 8) (As := [.int (nI fu)]) hx hb hml hown hts hK hA hs (22) (by omega) (md22 hM3s) rfl rfl (c_X8_enter_o l G hM3s (d := d) (u := u) (fu := fu) (by omega) (by omega) hout) (cwV 1 hts (tbV w_ml_RX8_158 w_im_yX8_enter w_se_yX8_enter w_ini_RX8 w_cd_yX8_enter) rfl rfl rfl (by decide +kernel) ⟨Nat.le_of_ble_eq_true rfl, Nat.le_of_ble_eq_true rfl⟩) rfl hl.1 rfl (Nat.le_of_ble_eq_true rfl) dX8_turn_174 ⟨Nat.le_refl _, Nat.le_refl _⟩ (fun ad_17 en_18 H locs hp_19 hs => ?_)
        obtain ⟨⟨hAm_20, hFm_20⟩, hMm_20⟩ := hp_19
        subst hAm_20
        have fr_21 : ∀ k, k < 22 → en_18 k = en k := fun k hk => Eq.trans (hFm_20 k hk) (fr_16 k hk)
        refine r_vret (mc := 0) (ms := 0) hx hb hr hlk hs (Nat.le_refl _) (Nat.le_refl _) dX8_turn_177 hQ ?_
        exact ⟨⟨rfl, fr_21⟩, c_10, by rw [ec_10, cU_o (by omega), ec_4, cU_s], by rw [ec_10, cU_s], fun r t h1 h2 => by rw [ec_10, cU_o (by omega), ec_4, cU_o (by omega)], chp_o hB hout hMm_20⟩
      · skip
        refine r_callVv (ci := 8) (As := [.int (nI fu)]) hx hb hml hown hts hK hA hs (22) (by omega) (md22 hM3s) rfl rfl (c_X8_enter_y l G hM3s (d := d) (u := u) (fu := fu) (by omega) (by omega)) (cwV 1 hts (tbV w_ml_RX8_158 w_im_yX8_enter w_se_yX8_enter w_ini_RX8 w_cd_yX8_enter) rfl rfl rfl (by decide +kernel) ⟨Nat.le_of_ble_eq_true rfl, Nat.le_of_ble_eq_true rfl⟩) rfl hl.1 rfl (Nat.le_of_ble_eq_true rfl) dX8_turn_174 ⟨Nat.le_refl _, Nat.le_refl _⟩ (fun ad_23 en_24 H locs hp_25 hs => ?_)
        obtain ⟨c_22, ec_22⟩ : ∃ z, z = cEnt c3 d u := ⟨_, rfl⟩
        rw [← ec_22] at hp_25
        obtain ⟨⟨hAm_26, hFm_26⟩, hMm_26⟩ := hp_25
        subst hAm_26
        have fr_27 : ∀ k, k < 22 → en_24 k = en k := fun k hk => Eq.trans (hFm_26 k hk) (fr_16 k hk)
        refine r_vret (mc := 0) (ms := 0) hx hb hr hlk hs (Nat.le_refl _) (Nat.le_refl _) dX8_turn_177 hQ ?_
        exact ⟨⟨rfl, fr_27⟩, c_10, by rw [ec_10, cU_o (by omega), ec_4, cU_s], by rw [ec_10, cU_s], fun r t h1 h2 => by rw [ec_10, cU_o (by omega), ec_4, cU_o (by omega)], chp_y hB hout (by rw [← ec_22]; exact hMm_26) hk3 hRq rfl hwq⟩
  refine lv_iload hx hb dX8_turn_114 (lv_at hl 0 rfl) ?_
  refine lv_iconst (v := 3) hx hb dX8_turn_116 (by decide) ?_
  refine lv_icmp_eq (tgt := 127) hx hb dX8_turn_117 (by decide) (fun c117 => ?_) (fun c117 => ?_)
  · skip
    refine lv_iconst (v := 2) hx hb dX8_turn_127 (by decide) ?_
    refine lv_goto (tgt := 132) hx hb dX8_turn_128 (by decide) ?_
    refine r_topi (y := nI (rPremL.getD r 0)) (by have e : r = 3 ∨ r = 6 := by { first | exact Or.inl (sw_nI c117 rfl (by omega) (by decide)) | exact Or.inr (sw_nI c124 rfl (by omega) (by decide)) }; rcases e with rfl | rfl <;> rfl) ?_
    refine lv_istore (lv' := [(5, .int (nI (rPremL.getD r 0))), (4, .int (nI r)), (3, .int (nI 1)), (2, .int (nI s)), (0, .ref (ad 22)), (1, .int (nI fu))]) hx hb dX8_turn_132 hl (by decide) rfl (fun ls hl => ?_)
    exact JOIN134 _ (lv_sub hl [4, 5, 3, 2, 1, 0] rfl)
  · skip
    refine lv_iload hx hb dX8_turn_120 (lv_at hl 0 rfl) ?_
    refine lv_bipush (v := 6) hx hb dX8_turn_122 (by decide) ?_
    refine lv_icmp_ne (tgt := 131) hx hb dX8_turn_124 (by decide) (fun c124 => ?_) (fun c124 => ?_)
    · skip
      refine lv_iconst (v := 1) hx hb dX8_turn_131 (by decide) ?_
      refine r_topi (y := nI (rPremL.getD r 0)) (by have e : r = 4 ∨ r = 5 ∨ r = 7 ∨ r = 8 ∨ r = 9 ∨ r = 10 := by { have : ¬ r = 3 := fun q => c117 (by rw [q]; rfl); have : ¬ r = 6 := fun q => c124 (by rw [q]; rfl); omega }; rcases e with rfl | rfl | rfl | rfl | rfl | rfl <;> rfl) ?_
      refine lv_istore (lv' := [(5, .int (nI (rPremL.getD r 0))), (4, .int (nI r)), (3, .int (nI 1)), (2, .int (nI s)), (0, .ref (ad 22)), (1, .int (nI fu))]) hx hb dX8_turn_132 hl (by decide) rfl (fun ls hl => ?_)
      exact JOIN134 _ (lv_sub hl [4, 5, 3, 2, 1, 0] rfl)
    · skip
      refine lv_iconst (v := 2) hx hb dX8_turn_127 (by decide) ?_
      refine lv_goto (tgt := 132) hx hb dX8_turn_128 (by decide) ?_
      refine r_topi (y := nI (rPremL.getD r 0)) (by have e : r = 3 ∨ r = 6 := by { first | exact Or.inl (sw_nI c117 rfl (by omega) (by decide)) | exact Or.inr (sw_nI c124 rfl (by omega) (by decide)) }; rcases e with rfl | rfl <;> rfl) ?_
      refine lv_istore (lv' := [(5, .int (nI (rPremL.getD r 0))), (4, .int (nI r)), (3, .int (nI 1)), (2, .int (nI s)), (0, .ref (ad 22)), (1, .int (nI fu))]) hx hb dX8_turn_132 hl (by decide) rfl (fun ls hl => ?_)
      exact JOIN134 _ (lv_sub hl [4, 5, 3, 2, 1, 0] rfl)

set_option maxHeartbeats 600000 in
set_option maxRecDepth 100000 in
theorem c_X8_turn_C0 (l : Launch) (G : rG) {n : Nat} {ad : Nat → Nat} {en : Nat → va_E} {ss ns : List Row} {c : Nat → Nat → Int32} {d u : Nat} (hM : MdW G n ad en ss ns c (nI u) 0 (nI d) 0) {w1 p : Nat} {goal s fu : Nat} (hd : 1 ≤ d ∧ d ≤ 80) (hu : u ≤ fu ∧ fu ≤ 3000) (hwa : c 32 d = nI goal) (hst : c 33 d = nI s) (hs3 : s ≤ 3000) (hg : 1 ≤ goal ∧ goal ≤ ss.length) (h36 : c 36 s = nI 11) (hp12 : p = 1 ∨ p = 2) (hph : c 34 d = nI p) {Γ : Nat → Bool} (hR : RowM c d Γ) (hΓ : ∀ y, Γ y = true → 1 ≤ y ∧ y ≤ ss.length) (hxx : (c 35 d = 0 ∧ sSort ss goal = 3 ∧ w1 = 11) ∨ (c 35 d = 0 ∧ ¬ sSort ss goal = 3 ∧ w1 = nsW ss Γ 0) ∨ (c 35 d = (-1) ∧ sSort ss goal = 3 ∧ w1 = 12) ∨ (c 35 d = (-2) ∧ sSort ss goal = 3 ∧ w1 = nsW ss Γ 0) ∨ (∃ f0, (1 ≤ f0 ∧ f0 ≤ 600) ∧ c 35 d = nI f0 ∧ w1 = nsW ss Γ f0)) : CV l G yX8_turn uX8_turn (4) (99) (0) (0) [.ref (ad 22), .int (nI fu)] (n) (n) ad en (fun ad1 en1 => mFr ad en ad1 en1 ∧ (w1 = 0 → ∃ c1, MdW G n ad en1 ss ns c1 (nI u) 0 (nI (d - 1)) 0 ∧ ∀ r t, ¬ (r = 34 ∧ t = d) → c1 r t = c r t) ∧ (w1 ≠ 0 → ∃ c2, c2 34 d = 1 ∧ c2 35 d = tW w1 ∧ (∀ r t, ¬ ((r = 34 ∨ r = 35) ∧ t = d) → c2 r t = c r t) ∧ ChP G n ad en1 ns c2 u d fu 0 ss (w1 % 16) 1 (w1 / 16) Γ goal)) := by
  intro sz
  refine rMet (Qc := qV G (n) (fun ad1 en1 => mFr ad en ad1 en1 ∧ (w1 = 0 → ∃ c1, MdW G n ad en1 ss ns c1 (nI u) 0 (nI (d - 1)) 0 ∧ ∀ r t, ¬ (r = 34 ∧ t = d) → c1 r t = c r t) ∧ (w1 ≠ 0 → ∃ c2, c2 34 d = 1 ∧ c2 35 d = tW w1 ∧ (∀ r t, ¬ ((r = 34 ∨ r = 35) ∧ t = d) → c2 r t = c r t) ∧ ChP G n ad en1 ns c2 u d fu 0 ss (w1 % 16) 1 (w1 / 16) Γ goal))) (cc := cX8_turn) (maxL := 6) (ret := none) (by decide) rfl (Nat.le_of_ble_eq_true rfl) ?_
  intro pP eE sS mM aA bB tT cC ls A Q hc hK hsz hA hs hl hQ
  obtain ⟨hx, hb, hr, hts, hown, hlk, hnm, hml⟩ := hc
  have hl : lv_has ls 6 [(0, .ref (ad 22)), (1, .int (nI fu))] := hl
  have fr0 : ∀ k, k < 22 → en k = en k := fun _ _ => rfl
  obtain ⟨hn48, -, -, -, hok, hnk⟩ := id hM
  have h6 := hok.1
  have h8 := hnk.1
  
  refine lv_aload_n hx hb dX8_turn_0 rfl (lv_at hl 0 rfl) ?_
  refine r_get (ci := 8) (v := .ref (ad 33)) (C := RX8) (T := TX8) (N := 31) hx hb hts inlX8 hown hK hs (22) (by omega) (md22 hM) rfl 14 (by decide) (hts _ w_fl_RX8_42) rfl dX8_turn_1 ?_
  refine lv_aload_n hx hb dX8_turn_4 rfl (lv_at hl 0 rfl) ?_
  refine r_get (ci := 8) (v := .int (nI d)) (C := RX8) (T := TX8) (N := 31) hx hb hts inlX8 hown hK hs (22) (by omega) (md22 hM) rfl 17 (by decide) (hts _ w_fl_RX8_109) rfl dX8_turn_5 ?_
  refine r_ialdN (t := d) hx hb hK hs (33) (by omega) (md33 hM) (rfl) (by omega) (by omega) dX8_turn_8 ?_
  refine r_topi (y := nI s) (hst) ?_
  refine lv_istore_n (lv' := [(2, .int (nI s)), (0, .ref (ad 22)), (1, .int (nI fu))]) hx hb dX8_turn_9 rfl hl (by decide) rfl (fun ls hl => ?_)
  refine lv_aload_n hx hb dX8_turn_10 rfl (lv_at hl 1 rfl) ?_
  refine r_get (ci := 8) (v := .ref (ad 34)) (C := RX8) (T := TX8) (N := 31) hx hb hts inlX8 hown hK hs (22) (by omega) (md22 hM) rfl 15 (by decide) (hts _ w_fl_RX8_45) rfl dX8_turn_11 ?_
  refine lv_aload_n hx hb dX8_turn_14 rfl (lv_at hl 1 rfl) ?_
  refine r_get (ci := 8) (v := .int (nI d)) (C := RX8) (T := TX8) (N := 31) hx hb hts inlX8 hown hK hs (22) (by omega) (md22 hM) rfl 17 (by decide) (hts _ w_fl_RX8_109) rfl dX8_turn_15 ?_
  refine r_ialdN (t := d) hx hb hK hs (34) (by omega) (md34 hM) (rfl) (by omega) (by omega) dX8_turn_18 ?_
  refine r_topi (y := nI p) (hph) ?_
  refine lv_istore_n (lv' := [(3, .int (nI p)), (2, .int (nI s)), (0, .ref (ad 22)), (1, .int (nI fu))]) hx hb dX8_turn_19 rfl hl (by decide) rfl (fun ls hl => ?_)
  refine lv_iload_n hx hb dX8_turn_20 rfl (lv_at hl 0 rfl) ?_
  refine lv_if_ne (tgt := 28) hx hb dX8_turn_21 (by decide) (fun _ => ?_) (fun c21 => absurd c21 (fun q => by have := z_of (by omega) q; omega))
  refine lv_aload_n hx hb dX8_turn_28 rfl (lv_at hl 2 rfl) ?_
  refine r_get (ci := 8) (v := .ref (ad 36)) (C := RX8) (T := TX8) (N := 31) hx hb hts inlX8 hown hK hs (22) (by omega) (md22 hM) rfl 18 (by decide) (hts _ w_fl_RX8_51) rfl dX8_turn_29 ?_
  refine lv_iload_n hx hb dX8_turn_32 rfl (lv_at hl 1 rfl) ?_
  refine r_ialdN (t := s) hx hb hK hs (36) (by omega) (md36 hM) (rfl) (by omega) (by omega) dX8_turn_33 ?_
  refine r_topi (y := nI 11) (h36) ?_
  refine lv_istore (lv' := [(4, .int (nI 11)), (3, .int (nI p)), (2, .int (nI s)), (0, .ref (ad 22)), (1, .int (nI fu))]) hx hb dX8_turn_34 hl (by decide) rfl (fun ls hl => ?_)
  refine lv_iload hx hb dX8_turn_36 (lv_at hl 0 rfl) ?_
  refine lv_bipush (v := 11) hx hb dX8_turn_38 (by decide) ?_
  refine lv_icmp_ne (tgt := 51) hx hb dX8_turn_40 (by decide) (fun c40 => absurd (rfl) c40) (fun _ => ?_)
  refine lv_aload_n hx hb dX8_turn_43 rfl (lv_at hl 3 rfl) ?_
  refine lv_iload_n hx hb dX8_turn_44 rfl (lv_at hl 2 rfl) ?_
  refine lv_iload_n hx hb dX8_turn_45 rfl (lv_at hl 1 rfl) ?_
  refine lv_iload_n hx hb dX8_turn_46 rfl (lv_at hl 4 rfl) ?_
  refine r_callVv (ci := 8) (As := [.int (nI s), .int (nI p), .int (nI fu)]) hx hb hml hown hts hK hA hs (22) (by omega) (md22 hM) rfl rfl (c_X8_choices_n l G hM (p := p) (w1 := w1) hd hu hwa hst hs3 hg (by omega) (Or.inr rfl) hR hΓ hxx) (cwV 3 hts (tbV w_ml_RX8_148 w_im_yX8_choices w_se_yX8_choices w_ini_RX8 w_cd_yX8_choices) rfl rfl rfl (by decide +kernel) ⟨Nat.le_of_ble_eq_true rfl, Nat.le_of_ble_eq_true rfl⟩) rfl hl.1 rfl (Nat.le_of_ble_eq_true rfl) dX8_turn_47 ⟨Nat.le_refl _, Nat.le_refl _⟩ (fun ad_1 en_2 H locs hp_3 hs => ?_)
  have hfin := hp_3
  refine r_vret (mc := 0) (ms := 0) hx hb hr hlk hs (Nat.le_refl _) (Nat.le_refl _) dX8_turn_50 hQ ?_
  exact hfin

set_option maxHeartbeats 600000 in
set_option maxRecDepth 100000 in
theorem c_X8_turn_C1 (l : Launch) (G : rG) {n : Nat} {ad : Nat → Nat} {en : Nat → va_E} {ss ns : List Row} {c : Nat → Nat → Int32} {d u cv : Nat} (hM : MdW G n ad en ss ns c (nI u) 0 (nI d) (nI cv)) {goal s fu : Nat} (hd : 1 ≤ d ∧ d ≤ 80) (hu : u ≤ fu ∧ fu ≤ 3000) (hwa : c 32 d = nI goal) (hst : c 33 d = nI s) (hs3 : s ≤ 3000) (hg : 1 ≤ goal ∧ goal ≤ ss.length) (h36 : c 36 s = nI 11) (hph : c 34 d = nI 1) (hcv : 1 ≤ cv ∧ cv ≤ 3000) (hxv : c 35 d = (-1)) : CV l G yX8_turn uX8_turn (4) (99) (0) (0) [.ref (ad 22), .int (nI fu)] (n) (n) ad en (fun ad1 en1 => mFr ad en ad1 en1 ∧ ∃ c1, MdW G n ad en1 ss ns c1 (nI u) 0 (nI (d - 1)) (nI s) ∧ c1 37 s = (-1) ∧ c1 39 s = nI cv ∧ ∀ r t, ¬ ((r = 37 ∨ r = 39) ∧ t = s) → c1 r t = c r t) := by
  intro sz
  refine rMet (Qc := qV G (n) (fun ad1 en1 => mFr ad en ad1 en1 ∧ ∃ c1, MdW G n ad en1 ss ns c1 (nI u) 0 (nI (d - 1)) (nI s) ∧ c1 37 s = (-1) ∧ c1 39 s = nI cv ∧ ∀ r t, ¬ ((r = 37 ∨ r = 39) ∧ t = s) → c1 r t = c r t)) (cc := cX8_turn) (maxL := 6) (ret := none) (by decide) rfl (Nat.le_of_ble_eq_true rfl) ?_
  intro pP eE sS mM aA bB tT cC ls A Q hc hK hsz hA hs hl hQ
  obtain ⟨hx, hb, hr, hts, hown, hlk, hnm, hml⟩ := hc
  have hl : lv_has ls 6 [(0, .ref (ad 22)), (1, .int (nI fu))] := hl
  have fr0 : ∀ k, k < 22 → en k = en k := fun _ _ => rfl
  obtain ⟨hn48, -, -, -, hok, hnk⟩ := id hM
  have h6 := hok.1
  have h8 := hnk.1
  
  refine lv_aload_n hx hb dX8_turn_0 rfl (lv_at hl 0 rfl) ?_
  refine r_get (ci := 8) (v := .ref (ad 33)) (C := RX8) (T := TX8) (N := 31) hx hb hts inlX8 hown hK hs (22) (by omega) (md22 hM) rfl 14 (by decide) (hts _ w_fl_RX8_42) rfl dX8_turn_1 ?_
  refine lv_aload_n hx hb dX8_turn_4 rfl (lv_at hl 0 rfl) ?_
  refine r_get (ci := 8) (v := .int (nI d)) (C := RX8) (T := TX8) (N := 31) hx hb hts inlX8 hown hK hs (22) (by omega) (md22 hM) rfl 17 (by decide) (hts _ w_fl_RX8_109) rfl dX8_turn_5 ?_
  refine r_ialdN (t := d) hx hb hK hs (33) (by omega) (md33 hM) (rfl) (by omega) (by omega) dX8_turn_8 ?_
  refine r_topi (y := nI s) (hst) ?_
  refine lv_istore_n (lv' := [(2, .int (nI s)), (0, .ref (ad 22)), (1, .int (nI fu))]) hx hb dX8_turn_9 rfl hl (by decide) rfl (fun ls hl => ?_)
  refine lv_aload_n hx hb dX8_turn_10 rfl (lv_at hl 1 rfl) ?_
  refine r_get (ci := 8) (v := .ref (ad 34)) (C := RX8) (T := TX8) (N := 31) hx hb hts inlX8 hown hK hs (22) (by omega) (md22 hM) rfl 15 (by decide) (hts _ w_fl_RX8_45) rfl dX8_turn_11 ?_
  refine lv_aload_n hx hb dX8_turn_14 rfl (lv_at hl 1 rfl) ?_
  refine r_get (ci := 8) (v := .int (nI d)) (C := RX8) (T := TX8) (N := 31) hx hb hts inlX8 hown hK hs (22) (by omega) (md22 hM) rfl 17 (by decide) (hts _ w_fl_RX8_109) rfl dX8_turn_15 ?_
  refine r_ialdN (t := d) hx hb hK hs (34) (by omega) (md34 hM) (rfl) (by omega) (by omega) dX8_turn_18 ?_
  refine r_topi (y := nI 1) (hph) ?_
  refine lv_istore_n (lv' := [(3, .int (nI 1)), (2, .int (nI s)), (0, .ref (ad 22)), (1, .int (nI fu))]) hx hb dX8_turn_19 rfl hl (by decide) rfl (fun ls hl => ?_)
  refine lv_iload_n hx hb dX8_turn_20 rfl (lv_at hl 0 rfl) ?_
  refine lv_if_ne (tgt := 28) hx hb dX8_turn_21 (by decide) (fun _ => ?_) (fun c21 => absurd c21 (by decide))
  refine lv_aload_n hx hb dX8_turn_28 rfl (lv_at hl 2 rfl) ?_
  refine r_get (ci := 8) (v := .ref (ad 36)) (C := RX8) (T := TX8) (N := 31) hx hb hts inlX8 hown hK hs (22) (by omega) (md22 hM) rfl 18 (by decide) (hts _ w_fl_RX8_51) rfl dX8_turn_29 ?_
  refine lv_iload_n hx hb dX8_turn_32 rfl (lv_at hl 1 rfl) ?_
  refine r_ialdN (t := s) hx hb hK hs (36) (by omega) (md36 hM) (rfl) (by omega) (by omega) dX8_turn_33 ?_
  refine r_topi (y := nI 11) (h36) ?_
  refine lv_istore (lv' := [(4, .int (nI 11)), (3, .int (nI 1)), (2, .int (nI s)), (0, .ref (ad 22)), (1, .int (nI fu))]) hx hb dX8_turn_34 hl (by decide) rfl (fun ls hl => ?_)
  refine lv_iload hx hb dX8_turn_36 (lv_at hl 0 rfl) ?_
  refine lv_bipush (v := 11) hx hb dX8_turn_38 (by decide) ?_
  refine lv_icmp_ne (tgt := 51) hx hb dX8_turn_40 (by decide) (fun c40 => absurd (rfl) c40) (fun _ => ?_)
  refine lv_aload_n hx hb dX8_turn_43 rfl (lv_at hl 3 rfl) ?_
  refine lv_iload_n hx hb dX8_turn_44 rfl (lv_at hl 2 rfl) ?_
  refine lv_iload_n hx hb dX8_turn_45 rfl (lv_at hl 1 rfl) ?_
  refine lv_iload_n hx hb dX8_turn_46 rfl (lv_at hl 4 rfl) ?_
  refine r_callVv (ci := 8) (As := [.int (nI s), .int (nI 1), .int (nI fu)]) hx hb hml hown hts hK hA hs (22) (by omega) (md22 hM) rfl rfl (c_X8_choices_y1 l G hM hd hu hwa hst hs3 hg hcv hxv) (cwV 3 hts (tbV w_ml_RX8_148 w_im_yX8_choices w_se_yX8_choices w_ini_RX8 w_cd_yX8_choices) rfl rfl rfl (by decide +kernel) ⟨Nat.le_of_ble_eq_true rfl, Nat.le_of_ble_eq_true rfl⟩) rfl hl.1 rfl (Nat.le_of_ble_eq_true rfl) dX8_turn_47 ⟨Nat.le_refl _, Nat.le_refl _⟩ (fun ad_1 en_2 H locs hp_3 hs => ?_)
  have hfin := hp_3
  refine r_vret (mc := 0) (ms := 0) hx hb hr hlk hs (Nat.le_refl _) (Nat.le_refl _) dX8_turn_50 hQ ?_
  exact hfin

set_option maxHeartbeats 600000 in
set_option maxRecDepth 100000 in
theorem c_X8_turn_C2 (l : Launch) (G : rG) {n : Nat} {ad : Nat → Nat} {en : Nat → va_E} {ss ns : List Row} {c : Nat → Nat → Int32} {d u cv : Nat} (hM : MdW G n ad en ss ns c (nI u) 0 (nI d) (nI cv)) {goal s fu : Nat} (hd : 1 ≤ d ∧ d ≤ 80) (hu : u ≤ fu ∧ fu ≤ 3000) (hwa : c 32 d = nI goal) (hst : c 33 d = nI s) (hs3 : s ≤ 3000) (hg : 1 ≤ goal ∧ goal ≤ ss.length) (h36 : c 36 s = nI 11) (hph : c 34 d = nI 1) (hcv : 1 ≤ cv ∧ cv ≤ 3000) (hxv : c 35 d = (-2)) : CV l G yX8_turn uX8_turn (4) (99) (0) (0) [.ref (ad 22), .int (nI fu)] (n) (n) ad en (fun ad1 en1 => mFr ad en ad1 en1 ∧ ∃ c1, MdW G n ad en1 ss ns c1 (nI u) 0 (nI (d - 1)) (nI s) ∧ c1 37 s = (-2) ∧ c1 39 s = nI cv ∧ ∀ r t, ¬ ((r = 37 ∨ r = 39) ∧ t = s) → c1 r t = c r t) := by
  intro sz
  refine rMet (Qc := qV G (n) (fun ad1 en1 => mFr ad en ad1 en1 ∧ ∃ c1, MdW G n ad en1 ss ns c1 (nI u) 0 (nI (d - 1)) (nI s) ∧ c1 37 s = (-2) ∧ c1 39 s = nI cv ∧ ∀ r t, ¬ ((r = 37 ∨ r = 39) ∧ t = s) → c1 r t = c r t)) (cc := cX8_turn) (maxL := 6) (ret := none) (by decide) rfl (Nat.le_of_ble_eq_true rfl) ?_
  intro pP eE sS mM aA bB tT cC ls A Q hc hK hsz hA hs hl hQ
  obtain ⟨hx, hb, hr, hts, hown, hlk, hnm, hml⟩ := hc
  have hl : lv_has ls 6 [(0, .ref (ad 22)), (1, .int (nI fu))] := hl
  have fr0 : ∀ k, k < 22 → en k = en k := fun _ _ => rfl
  obtain ⟨hn48, -, -, -, hok, hnk⟩ := id hM
  have h6 := hok.1
  have h8 := hnk.1
  
  refine lv_aload_n hx hb dX8_turn_0 rfl (lv_at hl 0 rfl) ?_
  refine r_get (ci := 8) (v := .ref (ad 33)) (C := RX8) (T := TX8) (N := 31) hx hb hts inlX8 hown hK hs (22) (by omega) (md22 hM) rfl 14 (by decide) (hts _ w_fl_RX8_42) rfl dX8_turn_1 ?_
  refine lv_aload_n hx hb dX8_turn_4 rfl (lv_at hl 0 rfl) ?_
  refine r_get (ci := 8) (v := .int (nI d)) (C := RX8) (T := TX8) (N := 31) hx hb hts inlX8 hown hK hs (22) (by omega) (md22 hM) rfl 17 (by decide) (hts _ w_fl_RX8_109) rfl dX8_turn_5 ?_
  refine r_ialdN (t := d) hx hb hK hs (33) (by omega) (md33 hM) (rfl) (by omega) (by omega) dX8_turn_8 ?_
  refine r_topi (y := nI s) (hst) ?_
  refine lv_istore_n (lv' := [(2, .int (nI s)), (0, .ref (ad 22)), (1, .int (nI fu))]) hx hb dX8_turn_9 rfl hl (by decide) rfl (fun ls hl => ?_)
  refine lv_aload_n hx hb dX8_turn_10 rfl (lv_at hl 1 rfl) ?_
  refine r_get (ci := 8) (v := .ref (ad 34)) (C := RX8) (T := TX8) (N := 31) hx hb hts inlX8 hown hK hs (22) (by omega) (md22 hM) rfl 15 (by decide) (hts _ w_fl_RX8_45) rfl dX8_turn_11 ?_
  refine lv_aload_n hx hb dX8_turn_14 rfl (lv_at hl 1 rfl) ?_
  refine r_get (ci := 8) (v := .int (nI d)) (C := RX8) (T := TX8) (N := 31) hx hb hts inlX8 hown hK hs (22) (by omega) (md22 hM) rfl 17 (by decide) (hts _ w_fl_RX8_109) rfl dX8_turn_15 ?_
  refine r_ialdN (t := d) hx hb hK hs (34) (by omega) (md34 hM) (rfl) (by omega) (by omega) dX8_turn_18 ?_
  refine r_topi (y := nI 1) (hph) ?_
  refine lv_istore_n (lv' := [(3, .int (nI 1)), (2, .int (nI s)), (0, .ref (ad 22)), (1, .int (nI fu))]) hx hb dX8_turn_19 rfl hl (by decide) rfl (fun ls hl => ?_)
  refine lv_iload_n hx hb dX8_turn_20 rfl (lv_at hl 0 rfl) ?_
  refine lv_if_ne (tgt := 28) hx hb dX8_turn_21 (by decide) (fun _ => ?_) (fun c21 => absurd c21 (by decide))
  refine lv_aload_n hx hb dX8_turn_28 rfl (lv_at hl 2 rfl) ?_
  refine r_get (ci := 8) (v := .ref (ad 36)) (C := RX8) (T := TX8) (N := 31) hx hb hts inlX8 hown hK hs (22) (by omega) (md22 hM) rfl 18 (by decide) (hts _ w_fl_RX8_51) rfl dX8_turn_29 ?_
  refine lv_iload_n hx hb dX8_turn_32 rfl (lv_at hl 1 rfl) ?_
  refine r_ialdN (t := s) hx hb hK hs (36) (by omega) (md36 hM) (rfl) (by omega) (by omega) dX8_turn_33 ?_
  refine r_topi (y := nI 11) (h36) ?_
  refine lv_istore (lv' := [(4, .int (nI 11)), (3, .int (nI 1)), (2, .int (nI s)), (0, .ref (ad 22)), (1, .int (nI fu))]) hx hb dX8_turn_34 hl (by decide) rfl (fun ls hl => ?_)
  refine lv_iload hx hb dX8_turn_36 (lv_at hl 0 rfl) ?_
  refine lv_bipush (v := 11) hx hb dX8_turn_38 (by decide) ?_
  refine lv_icmp_ne (tgt := 51) hx hb dX8_turn_40 (by decide) (fun c40 => absurd (rfl) c40) (fun _ => ?_)
  refine lv_aload_n hx hb dX8_turn_43 rfl (lv_at hl 3 rfl) ?_
  refine lv_iload_n hx hb dX8_turn_44 rfl (lv_at hl 2 rfl) ?_
  refine lv_iload_n hx hb dX8_turn_45 rfl (lv_at hl 1 rfl) ?_
  refine lv_iload_n hx hb dX8_turn_46 rfl (lv_at hl 4 rfl) ?_
  refine r_callVv (ci := 8) (As := [.int (nI s), .int (nI 1), .int (nI fu)]) hx hb hml hown hts hK hA hs (22) (by omega) (md22 hM) rfl rfl (c_X8_choices_y1b l G hM hd hu hwa hst hs3 hg hcv hxv) (cwV 3 hts (tbV w_ml_RX8_148 w_im_yX8_choices w_se_yX8_choices w_ini_RX8 w_cd_yX8_choices) rfl rfl rfl (by decide +kernel) ⟨Nat.le_of_ble_eq_true rfl, Nat.le_of_ble_eq_true rfl⟩) rfl hl.1 rfl (Nat.le_of_ble_eq_true rfl) dX8_turn_47 ⟨Nat.le_refl _, Nat.le_refl _⟩ (fun ad_1 en_2 H locs hp_3 hs => ?_)
  have hfin := hp_3
  refine r_vret (mc := 0) (ms := 0) hx hb hr hlk hs (Nat.le_refl _) (Nat.le_refl _) dX8_turn_50 hQ ?_
  exact hfin

set_option maxHeartbeats 600000 in
set_option maxRecDepth 100000 in
theorem c_X8_turn_C3 (l : Launch) (G : rG) {n : Nat} {ad : Nat → Nat} {en : Nat → va_E} {ss ns : List Row} {c : Nat → Nat → Int32} {d u cv : Nat} (hM : MdW G n ad en ss ns c (nI u) 0 (nI d) (nI cv)) {goal s fu : Nat} (hd : 1 ≤ d ∧ d ≤ 80) (hu : u ≤ fu ∧ fu ≤ 3000) (hwa : c 32 d = nI goal) (hst : c 33 d = nI s) (hs3 : s ≤ 3000) (hg : 1 ≤ goal ∧ goal ≤ ss.length) (h36 : c 36 s = nI 11) (hph : c 34 d = nI 2) (hcv : 1 ≤ cv ∧ cv ≤ 3000) {f0 : Nat} (hf0 : 1 ≤ f0 ∧ f0 ≤ 600) (hxv : c 35 d = nI f0) : CV l G yX8_turn uX8_turn (4) (99) (0) (0) [.ref (ad 22), .int (nI fu)] (n) (n) ad en (fun ad1 en1 => mFr ad en ad1 en1 ∧ ∃ c1, MdW G n ad en1 ss ns c1 (nI u) 0 (nI (d - 1)) (nI s) ∧ c1 37 s = nI f0 ∧ c1 40 s = nI cv ∧ ∀ r t, ¬ ((r = 37 ∨ r = 40) ∧ t = s) → c1 r t = c r t) := by
  intro sz
  refine rMet (Qc := qV G (n) (fun ad1 en1 => mFr ad en ad1 en1 ∧ ∃ c1, MdW G n ad en1 ss ns c1 (nI u) 0 (nI (d - 1)) (nI s) ∧ c1 37 s = nI f0 ∧ c1 40 s = nI cv ∧ ∀ r t, ¬ ((r = 37 ∨ r = 40) ∧ t = s) → c1 r t = c r t)) (cc := cX8_turn) (maxL := 6) (ret := none) (by decide) rfl (Nat.le_of_ble_eq_true rfl) ?_
  intro pP eE sS mM aA bB tT cC ls A Q hc hK hsz hA hs hl hQ
  obtain ⟨hx, hb, hr, hts, hown, hlk, hnm, hml⟩ := hc
  have hl : lv_has ls 6 [(0, .ref (ad 22)), (1, .int (nI fu))] := hl
  have fr0 : ∀ k, k < 22 → en k = en k := fun _ _ => rfl
  obtain ⟨hn48, -, -, -, hok, hnk⟩ := id hM
  have h6 := hok.1
  have h8 := hnk.1
  
  refine lv_aload_n hx hb dX8_turn_0 rfl (lv_at hl 0 rfl) ?_
  refine r_get (ci := 8) (v := .ref (ad 33)) (C := RX8) (T := TX8) (N := 31) hx hb hts inlX8 hown hK hs (22) (by omega) (md22 hM) rfl 14 (by decide) (hts _ w_fl_RX8_42) rfl dX8_turn_1 ?_
  refine lv_aload_n hx hb dX8_turn_4 rfl (lv_at hl 0 rfl) ?_
  refine r_get (ci := 8) (v := .int (nI d)) (C := RX8) (T := TX8) (N := 31) hx hb hts inlX8 hown hK hs (22) (by omega) (md22 hM) rfl 17 (by decide) (hts _ w_fl_RX8_109) rfl dX8_turn_5 ?_
  refine r_ialdN (t := d) hx hb hK hs (33) (by omega) (md33 hM) (rfl) (by omega) (by omega) dX8_turn_8 ?_
  refine r_topi (y := nI s) (hst) ?_
  refine lv_istore_n (lv' := [(2, .int (nI s)), (0, .ref (ad 22)), (1, .int (nI fu))]) hx hb dX8_turn_9 rfl hl (by decide) rfl (fun ls hl => ?_)
  refine lv_aload_n hx hb dX8_turn_10 rfl (lv_at hl 1 rfl) ?_
  refine r_get (ci := 8) (v := .ref (ad 34)) (C := RX8) (T := TX8) (N := 31) hx hb hts inlX8 hown hK hs (22) (by omega) (md22 hM) rfl 15 (by decide) (hts _ w_fl_RX8_45) rfl dX8_turn_11 ?_
  refine lv_aload_n hx hb dX8_turn_14 rfl (lv_at hl 1 rfl) ?_
  refine r_get (ci := 8) (v := .int (nI d)) (C := RX8) (T := TX8) (N := 31) hx hb hts inlX8 hown hK hs (22) (by omega) (md22 hM) rfl 17 (by decide) (hts _ w_fl_RX8_109) rfl dX8_turn_15 ?_
  refine r_ialdN (t := d) hx hb hK hs (34) (by omega) (md34 hM) (rfl) (by omega) (by omega) dX8_turn_18 ?_
  refine r_topi (y := nI 2) (hph) ?_
  refine lv_istore_n (lv' := [(3, .int (nI 2)), (2, .int (nI s)), (0, .ref (ad 22)), (1, .int (nI fu))]) hx hb dX8_turn_19 rfl hl (by decide) rfl (fun ls hl => ?_)
  refine lv_iload_n hx hb dX8_turn_20 rfl (lv_at hl 0 rfl) ?_
  refine lv_if_ne (tgt := 28) hx hb dX8_turn_21 (by decide) (fun _ => ?_) (fun c21 => absurd c21 (by decide))
  refine lv_aload_n hx hb dX8_turn_28 rfl (lv_at hl 2 rfl) ?_
  refine r_get (ci := 8) (v := .ref (ad 36)) (C := RX8) (T := TX8) (N := 31) hx hb hts inlX8 hown hK hs (22) (by omega) (md22 hM) rfl 18 (by decide) (hts _ w_fl_RX8_51) rfl dX8_turn_29 ?_
  refine lv_iload_n hx hb dX8_turn_32 rfl (lv_at hl 1 rfl) ?_
  refine r_ialdN (t := s) hx hb hK hs (36) (by omega) (md36 hM) (rfl) (by omega) (by omega) dX8_turn_33 ?_
  refine r_topi (y := nI 11) (h36) ?_
  refine lv_istore (lv' := [(4, .int (nI 11)), (3, .int (nI 2)), (2, .int (nI s)), (0, .ref (ad 22)), (1, .int (nI fu))]) hx hb dX8_turn_34 hl (by decide) rfl (fun ls hl => ?_)
  refine lv_iload hx hb dX8_turn_36 (lv_at hl 0 rfl) ?_
  refine lv_bipush (v := 11) hx hb dX8_turn_38 (by decide) ?_
  refine lv_icmp_ne (tgt := 51) hx hb dX8_turn_40 (by decide) (fun c40 => absurd (rfl) c40) (fun _ => ?_)
  refine lv_aload_n hx hb dX8_turn_43 rfl (lv_at hl 3 rfl) ?_
  refine lv_iload_n hx hb dX8_turn_44 rfl (lv_at hl 2 rfl) ?_
  refine lv_iload_n hx hb dX8_turn_45 rfl (lv_at hl 1 rfl) ?_
  refine lv_iload_n hx hb dX8_turn_46 rfl (lv_at hl 4 rfl) ?_
  refine r_callVv (ci := 8) (As := [.int (nI s), .int (nI 2), .int (nI fu)]) hx hb hml hown hts hK hA hs (22) (by omega) (md22 hM) rfl rfl (c_X8_choices_y2 l G hM hd hu hwa hst hs3 hg hcv hf0 hxv) (cwV 3 hts (tbV w_ml_RX8_148 w_im_yX8_choices w_se_yX8_choices w_ini_RX8 w_cd_yX8_choices) rfl rfl rfl (by decide +kernel) ⟨Nat.le_of_ble_eq_true rfl, Nat.le_of_ble_eq_true rfl⟩) rfl hl.1 rfl (Nat.le_of_ble_eq_true rfl) dX8_turn_47 ⟨Nat.le_refl _, Nat.le_refl _⟩ (fun ad_1 en_2 H locs hp_3 hs => ?_)
  have hfin := hp_3
  refine r_vret (mc := 0) (ms := 0) hx hb hr hlk hs (Nat.le_refl _) (Nat.le_refl _) dX8_turn_50 hQ ?_
  exact hfin

set_option maxHeartbeats 600000 in
set_option maxRecDepth 100000 in
theorem c_X8_turn_C4 (l : Launch) (G : rG) {n : Nat} {ad : Nat → Nat} {en : Nat → va_E} {ss ns : List Row} {c : Nat → Nat → Int32} {d u cv : Nat} (hM : MdW G n ad en ss ns c (nI u) 0 (nI d) (nI cv)) {goal s fu : Nat} (hd : 1 ≤ d ∧ d ≤ 80) (hu : u ≤ fu ∧ fu ≤ 3000) (hwa : c 32 d = nI goal) (hst : c 33 d = nI s) (hs3 : s ≤ 3000) (hg : 1 ≤ goal ∧ goal ≤ ss.length) (h36 : c 36 s = nI 11) (hph : c 34 d = nI 1) (hcv : 1 ≤ cv ∧ cv ≤ 3000) {Γ : Nat → Bool} (hR : RowM c d Γ) (hΓ : ∀ y, Γ y = true → 1 ≤ y ∧ y ≤ ss.length) {f0 : Nat} (hf0 : 1 ≤ f0 ∧ f0 ≤ ss.length) (hxv : c 35 d = nI f0) : CV l G yX8_turn uX8_turn (4) (99) (0) (0) [.ref (ad 22), .int (nI fu)] (n) (n) ad en (fun ad1 en1 => mFr ad en ad1 en1 ∧ ∃ c2 : Nat → Nat → Int32, c2 39 s = nI cv ∧ c2 34 d = 2 ∧ (∀ r t, ¬ (r = 39 ∧ t = s) → ¬ (r = 34 ∧ t = d) → c2 r t = c r t) ∧ ChP G n ad en1 ns c2 u d fu (nI cv) ss 13 2 f0 Γ goal) := by
  intro sz
  refine rMet (Qc := qV G (n) (fun ad1 en1 => mFr ad en ad1 en1 ∧ ∃ c2 : Nat → Nat → Int32, c2 39 s = nI cv ∧ c2 34 d = 2 ∧ (∀ r t, ¬ (r = 39 ∧ t = s) → ¬ (r = 34 ∧ t = d) → c2 r t = c r t) ∧ ChP G n ad en1 ns c2 u d fu (nI cv) ss 13 2 f0 Γ goal)) (cc := cX8_turn) (maxL := 6) (ret := none) (by decide) rfl (Nat.le_of_ble_eq_true rfl) ?_
  intro pP eE sS mM aA bB tT cC ls A Q hc hK hsz hA hs hl hQ
  obtain ⟨hx, hb, hr, hts, hown, hlk, hnm, hml⟩ := hc
  have hl : lv_has ls 6 [(0, .ref (ad 22)), (1, .int (nI fu))] := hl
  have fr0 : ∀ k, k < 22 → en k = en k := fun _ _ => rfl
  obtain ⟨hn48, -, -, -, hok, hnk⟩ := id hM
  have h6 := hok.1
  have h8 := hnk.1
  
  refine lv_aload_n hx hb dX8_turn_0 rfl (lv_at hl 0 rfl) ?_
  refine r_get (ci := 8) (v := .ref (ad 33)) (C := RX8) (T := TX8) (N := 31) hx hb hts inlX8 hown hK hs (22) (by omega) (md22 hM) rfl 14 (by decide) (hts _ w_fl_RX8_42) rfl dX8_turn_1 ?_
  refine lv_aload_n hx hb dX8_turn_4 rfl (lv_at hl 0 rfl) ?_
  refine r_get (ci := 8) (v := .int (nI d)) (C := RX8) (T := TX8) (N := 31) hx hb hts inlX8 hown hK hs (22) (by omega) (md22 hM) rfl 17 (by decide) (hts _ w_fl_RX8_109) rfl dX8_turn_5 ?_
  refine r_ialdN (t := d) hx hb hK hs (33) (by omega) (md33 hM) (rfl) (by omega) (by omega) dX8_turn_8 ?_
  refine r_topi (y := nI s) (hst) ?_
  refine lv_istore_n (lv' := [(2, .int (nI s)), (0, .ref (ad 22)), (1, .int (nI fu))]) hx hb dX8_turn_9 rfl hl (by decide) rfl (fun ls hl => ?_)
  refine lv_aload_n hx hb dX8_turn_10 rfl (lv_at hl 1 rfl) ?_
  refine r_get (ci := 8) (v := .ref (ad 34)) (C := RX8) (T := TX8) (N := 31) hx hb hts inlX8 hown hK hs (22) (by omega) (md22 hM) rfl 15 (by decide) (hts _ w_fl_RX8_45) rfl dX8_turn_11 ?_
  refine lv_aload_n hx hb dX8_turn_14 rfl (lv_at hl 1 rfl) ?_
  refine r_get (ci := 8) (v := .int (nI d)) (C := RX8) (T := TX8) (N := 31) hx hb hts inlX8 hown hK hs (22) (by omega) (md22 hM) rfl 17 (by decide) (hts _ w_fl_RX8_109) rfl dX8_turn_15 ?_
  refine r_ialdN (t := d) hx hb hK hs (34) (by omega) (md34 hM) (rfl) (by omega) (by omega) dX8_turn_18 ?_
  refine r_topi (y := nI 1) (hph) ?_
  refine lv_istore_n (lv' := [(3, .int (nI 1)), (2, .int (nI s)), (0, .ref (ad 22)), (1, .int (nI fu))]) hx hb dX8_turn_19 rfl hl (by decide) rfl (fun ls hl => ?_)
  refine lv_iload_n hx hb dX8_turn_20 rfl (lv_at hl 0 rfl) ?_
  refine lv_if_ne (tgt := 28) hx hb dX8_turn_21 (by decide) (fun _ => ?_) (fun c21 => absurd c21 (by decide))
  refine lv_aload_n hx hb dX8_turn_28 rfl (lv_at hl 2 rfl) ?_
  refine r_get (ci := 8) (v := .ref (ad 36)) (C := RX8) (T := TX8) (N := 31) hx hb hts inlX8 hown hK hs (22) (by omega) (md22 hM) rfl 18 (by decide) (hts _ w_fl_RX8_51) rfl dX8_turn_29 ?_
  refine lv_iload_n hx hb dX8_turn_32 rfl (lv_at hl 1 rfl) ?_
  refine r_ialdN (t := s) hx hb hK hs (36) (by omega) (md36 hM) (rfl) (by omega) (by omega) dX8_turn_33 ?_
  refine r_topi (y := nI 11) (h36) ?_
  refine lv_istore (lv' := [(4, .int (nI 11)), (3, .int (nI 1)), (2, .int (nI s)), (0, .ref (ad 22)), (1, .int (nI fu))]) hx hb dX8_turn_34 hl (by decide) rfl (fun ls hl => ?_)
  refine lv_iload hx hb dX8_turn_36 (lv_at hl 0 rfl) ?_
  refine lv_bipush (v := 11) hx hb dX8_turn_38 (by decide) ?_
  refine lv_icmp_ne (tgt := 51) hx hb dX8_turn_40 (by decide) (fun c40 => absurd (rfl) c40) (fun _ => ?_)
  refine lv_aload_n hx hb dX8_turn_43 rfl (lv_at hl 3 rfl) ?_
  refine lv_iload_n hx hb dX8_turn_44 rfl (lv_at hl 2 rfl) ?_
  refine lv_iload_n hx hb dX8_turn_45 rfl (lv_at hl 1 rfl) ?_
  refine lv_iload_n hx hb dX8_turn_46 rfl (lv_at hl 4 rfl) ?_
  refine r_callVv (ci := 8) (As := [.int (nI s), .int (nI 1), .int (nI fu)]) hx hb hml hown hts hK hA hs (22) (by omega) (md22 hM) rfl rfl (c_X8_choices_y3 l G hM hd hu hwa hst hs3 hg hcv hR hΓ hf0 hxv) (cwV 3 hts (tbV w_ml_RX8_148 w_im_yX8_choices w_se_yX8_choices w_ini_RX8 w_cd_yX8_choices) rfl rfl rfl (by decide +kernel) ⟨Nat.le_of_ble_eq_true rfl, Nat.le_of_ble_eq_true rfl⟩) rfl hl.1 rfl (Nat.le_of_ble_eq_true rfl) dX8_turn_47 ⟨Nat.le_refl _, Nat.le_refl _⟩ (fun ad_1 en_2 H locs hp_3 hs => ?_)
  have hfin := hp_3
  refine r_vret (mc := 0) (ms := 0) hx hb hr hlk hs (Nat.le_refl _) (Nat.le_refl _) dX8_turn_50 hQ ?_
  exact hfin

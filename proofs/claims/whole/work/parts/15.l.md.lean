theorem ch11 {ss : List Row} (hk : ssOK ss) {Γ : Nat → Bool} {goal : Nat} (h : chR (fstW ss Γ goal) = 11) : (sSort ss goal = 3 ∧ fstW ss Γ goal = 11) ∨ (¬ sSort ss goal = 3 ∧ fstW ss Γ goal = nsW ss Γ 0) := by
  have key : ∀ w, w % 16 ≠ 0 → w % 16 ≤ 10 → chR w ≠ 11 := fun w a b q => by unfold chR at q; rw [if_neg (by omega)] at q; omega
  by_cases c1 : goW ss Γ goal ≠ 0
  · have e : fstW ss Γ goal = goW ss Γ goal := by rw [fstW, if_pos c1]
    rw [e] at h
    exfalso
    refine key _ ?_ ?_ h
    · unfold goW at c1 ⊢
      split
      · decide
      split
      · omega
      split
      · decide
      split
      · decide
      · exfalso; rename_i a b c d; rw [if_neg a, if_neg b, if_neg c, if_neg d] at c1; exact c1 rfl
    · unfold goW
      split
      · decide
      split
      · omega
      split
      · decide
      split
      · decide
      · decide
  · by_cases c2 : giW ss Γ ≠ 0
    · have e : fstW ss Γ goal = giW ss Γ := by rw [fstW, if_neg c1, if_pos c2]
      rw [e] at h
      exfalso
      rcases giW_ok hk Γ goal with q | ⟨r, f, q1, q2, q3⟩
      · exact c2 q
      · have hr := wy_r q3
        have hr10 : r ≤ 10 := by
          have : giW ss Γ % 16 ≤ 10 := by
            unfold giW
            split
            · omega
            split
            · omega
            split
            · omega
            split
            · omega
            split
            · omega
            split
            · omega
            · decide
          omega
        exact key _ (by omega) (by omega) h
    · have e : fstW ss Γ goal = (if sSort ss goal = 3 then 11 else nsW ss Γ 0) := by rw [fstW, if_neg c1, if_neg c2]
      by_cases c : sSort ss goal = 3
      · exact Or.inl ⟨c, by rw [e, if_pos c]⟩
      · exact Or.inr ⟨c, by rw [e, if_neg c]⟩
set_option maxHeartbeats 600000 in
set_option maxRecDepth 100000 in
theorem c_X8_turn_A1 (l : Launch) (G : rG) {n : Nat} {ad : Nat → Nat} {en : Nat → va_E} {ss ns : List Row} {c : Nat → Nat → Int32} {cl : Int32} {d u : Nat} (hM : MdW G n ad en ss ns c (nI u) 0 (nI d) cl) {goal s fu : Nat} (hd : 1 ≤ d ∧ d ≤ 80) (hu : u ≤ fu ∧ fu ≤ 3000) (hwa : c 32 d = nI goal) (hst : c 33 d = nI s) (hs3 : s ≤ 3000) (hg : 1 ≤ goal ∧ goal ≤ ss.length) {Γ : Nat → Bool} (hR : RowM c d Γ) (hΓ : ∀ y, Γ y = true → 1 ≤ y ∧ y ≤ ss.length) (hph : c 34 d = 0) (h0 : c 36 s = 0) {r : Nat} (hr2 : r = 1 ∨ r = 2) (hch : chR (fstW ss Γ goal) = r) : CV l G yX8_turn uX8_turn (4) (99) (0) (0) [.ref (ad 22), .int (nI fu)] (n) (n) ad en (fun ad1 en1 => mFr ad en ad1 en1 ∧ ∃ c1, MdW G n ad en1 ss ns c1 (nI u) 0 (nI (d - 1)) (nI s) ∧ c1 36 s = nI r ∧ c1 37 s = nI (chA (fstW ss Γ goal) goal) ∧ ∀ r t, ¬ ((r = 36 ∨ r = 37) ∧ t = s) → c1 r t = c r t) := by
  intro sz
  refine rMet (Qc := qV G (n) (fun ad1 en1 => mFr ad en ad1 en1 ∧ ∃ c1, MdW G n ad en1 ss ns c1 (nI u) 0 (nI (d - 1)) (nI s) ∧ c1 36 s = nI r ∧ c1 37 s = nI (chA (fstW ss Γ goal) goal) ∧ ∀ r t, ¬ ((r = 36 ∨ r = 37) ∧ t = s) → c1 r t = c r t)) (cc := cX8_turn) (maxL := 6) (ret := none) (by decide) rfl (Nat.le_of_ble_eq_true rfl) ?_
  intro pP eE sS mM aA bB tT cC ls A Q hc hK hsz hA hs hl hQ
  obtain ⟨hx, hb, hr, hts, hown, hlk, hnm, hml⟩ := hc
  have hl : lv_has ls 6 [(0, .ref (ad 22)), (1, .int (nI fu))] := hl
  have fr0 : ∀ k, k < 22 → en k = en k := fun _ _ => rfl
  obtain ⟨hn48, -, -, -, hok, hnk⟩ := id hM
  have h6 := hok.1
  have h8 := hnk.1
  
  refine lv_aload_n hx hb dX8_turn_0 rfl (lv_at hl 0 rfl) ?_
  refine r_get (ci := 8) (v := .ref (ad 33)) (C := RX8) (T := TX8) (N := 31) hx hb hts inlX8 hown hK hs (22) (by omega) (md22 hM) rfl 14 (by decide) (hts _ w_fl_RX8_42) rfl dX8_turn_1 ?_
  refine lv_aload_n hx hb dX8_turn_4 rfl (lv_at hl 0 rfl) ?_
  refine r_get (ci := 8) (v := .int (nI d)) (C := RX8) (T := TX8) (N := 31) hx hb hts inlX8 hown hK hs (22) (by omega) (md22 hM) rfl 17 (by decide) (hts _ w_fl_RX8_109) rfl dX8_turn_5 ?_
  refine r_ialdN (t := d) hx hb hK hs (33) (by omega) (md33 hM) (rfl) (by omega) (by omega) dX8_turn_8 ?_
  refine r_topi (y := nI s) (hst) ?_
  refine lv_istore_n (lv' := [(2, .int (nI s)), (0, .ref (ad 22)), (1, .int (nI fu))]) hx hb dX8_turn_9 rfl hl (by decide) rfl (fun ls hl => ?_)
  refine lv_aload_n hx hb dX8_turn_10 rfl (lv_at hl 1 rfl) ?_
  refine r_get (ci := 8) (v := .ref (ad 34)) (C := RX8) (T := TX8) (N := 31) hx hb hts inlX8 hown hK hs (22) (by omega) (md22 hM) rfl 15 (by decide) (hts _ w_fl_RX8_45) rfl dX8_turn_11 ?_
  refine lv_aload_n hx hb dX8_turn_14 rfl (lv_at hl 1 rfl) ?_
  refine r_get (ci := 8) (v := .int (nI d)) (C := RX8) (T := TX8) (N := 31) hx hb hts inlX8 hown hK hs (22) (by omega) (md22 hM) rfl 17 (by decide) (hts _ w_fl_RX8_109) rfl dX8_turn_15 ?_
  refine r_ialdN (t := d) hx hb hK hs (34) (by omega) (md34 hM) (rfl) (by omega) (by omega) dX8_turn_18 ?_
  refine r_topi (y := 0) (hph) ?_
  refine lv_istore_n (lv' := [(3, .int (0)), (2, .int (nI s)), (0, .ref (ad 22)), (1, .int (nI fu))]) hx hb dX8_turn_19 rfl hl (by decide) rfl (fun ls hl => ?_)
  refine lv_iload_n hx hb dX8_turn_20 rfl (lv_at hl 0 rfl) ?_
  refine lv_if_ne (tgt := 28) hx hb dX8_turn_21 (by decide) (fun c21 => absurd (by decide) c21) (fun _ => ?_)
  refine lv_aload_n hx hb dX8_turn_24 rfl (lv_at hl 2 rfl) ?_
  refine r_callVv (ci := 8) (As := []) hx hb hml hown hts hK hA hs (22) (by omega) (md22 hM) rfl rfl (c_X8_choose l G hM (goal := goal) (s := s) (by omega) hwa hst (by omega) h0 hg hR hΓ) (cwV 0 hts (tbV w_ml_RX8_145 w_im_yX8_choose w_se_yX8_choose w_ini_RX8 w_cd_yX8_choose) rfl rfl rfl (by decide +kernel) ⟨Nat.le_of_ble_eq_true rfl, Nat.le_of_ble_eq_true rfl⟩) rfl hl.1 rfl (Nat.le_of_ble_eq_true rfl) dX8_turn_25 ⟨Nat.le_refl _, Nat.le_refl _⟩ (fun ad_1 en_2 H locs hp_3 hs => ?_)
  obtain ⟨⟨hA1, hF1⟩, c1, hM1, h36, h37, hoth⟩ := hp_3
  subst hA1
  have fr_4 : ∀ k, k < 22 → en_2 k = en k := fun k hk => Eq.trans (hF1 k hk) (fr0 k hk)
  have hR1 : RowM c1 d Γ := fun g hg => (hoth 31 _ (by omega)).trans (hR g hg)
  refine lv_aload_n hx hb dX8_turn_28 rfl (lv_at hl 2 rfl) ?_
  refine r_get (ci := 8) (v := .ref (ad 36)) (C := RX8) (T := TX8) (N := 31) hx hb hts inlX8 hown hK hs (22) (by omega) (md22 hM1) rfl 18 (by decide) (hts _ w_fl_RX8_51) rfl dX8_turn_29 ?_
  refine lv_iload_n hx hb dX8_turn_32 rfl (lv_at hl 1 rfl) ?_
  refine r_ialdN (t := s) hx hb hK hs (36) (by omega) (md36 hM1) (rfl) (by omega) (by omega) dX8_turn_33 ?_
  refine r_topi (y := nI r) (by rw [h36, hch]) ?_
  refine lv_istore (lv' := [(4, .int (nI r)), (3, .int (0)), (2, .int (nI s)), (0, .ref (ad 22)), (1, .int (nI fu))]) hx hb dX8_turn_34 hl (by decide) rfl (fun ls hl => ?_)
  refine lv_iload hx hb dX8_turn_36 (lv_at hl 0 rfl) ?_
  refine lv_bipush (v := 11) hx hb dX8_turn_38 (by decide) ?_
  refine lv_icmp_ne (tgt := 51) hx hb dX8_turn_40 (by decide) (fun _ => ?_) (fun c40 => absurd c40 (fun q => by have := sw_nI (v := 11) q rfl (by omega) (by decide); omega))
  refine lv_iload_n hx hb dX8_turn_51 rfl (lv_at hl 1 rfl) ?_
  refine lv_if_le (tgt := 62) hx hb dX8_turn_52 (by decide) (fun _ => ?_) (fun c52 => absurd (by decide) c52)
  refine lv_iload hx hb dX8_turn_62 (lv_at hl 0 rfl) ?_
  refine lv_iconst (v := 3) hx hb dX8_turn_64 (by decide) ?_
  refine lv_icmp_ge (tgt := 84) hx hb dX8_turn_65 (by decide) (fun c65 => absurd c65 (fun q => by have := (nI_leI (a := 3) (by decide) (by omega)).mp q; omega)) (fun _ => ?_)
  refine lv_aload_n hx hb dX8_turn_68 rfl (lv_at hl 3 rfl) ?_
  refine lv_iload hx hb dX8_turn_69 (lv_at hl 0 rfl) ?_
  refine lv_iconst (v := 3) hx hb dX8_turn_71 (by decide) ?_
  refine lv_icmp_ge (tgt := 79) hx hb dX8_turn_72 (by decide) (fun c72 => absurd c72 (fun q => by have := (nI_leI (a := 3) (by decide) (by omega)).mp q; omega)) (fun _ => ?_)
  refine lv_iconst (v := 1) hx hb dX8_turn_75 (by decide) ?_
  refine lv_goto (tgt := 80) hx hb dX8_turn_76 (by decide) ?_
  obtain ⟨d0, hd0⟩ : ∃ d0, d = d0 + 1 := ⟨d - 1, by omega⟩
  subst hd0
  refine r_callVv (ci := 8) (As := [.int (1)]) hx hb hml hown hts hK hA hs (22) (by omega) (md22 hM1) rfl rfl (c_X8_close l G hM1 (d := d0) true (by omega)) (cwV 1 hts (tbV w_ml_RX8_151 w_im_yX8_close w_se_yX8_close w_ini_RX8 w_cd_yX8_close) rfl rfl rfl (by decide +kernel) ⟨Nat.le_of_ble_eq_true rfl, Nat.le_of_ble_eq_true rfl⟩) rfl hl.1 rfl (Nat.le_of_ble_eq_true rfl) dX8_turn_80 ⟨Nat.le_refl _, Nat.le_refl _⟩ (fun ad_5 en_6 H locs hp_7 hs => ?_)
  obtain ⟨⟨hAm_8, hFm_8⟩, hMm_8⟩ := hp_7
  subst hAm_8
  have fr_9 : ∀ k, k < 22 → en_6 k = en k := fun k hk => Eq.trans (hFm_8 k hk) (fr_4 k hk)
  refine r_vret (mc := 0) (ms := 0) hx hb hr hlk hs (Nat.le_refl _) (Nat.le_refl _) dX8_turn_83 hQ ?_
  have hcl1 : c1 33 (d0 + 1) = nI s := by rw [hoth _ _ (by omega)]; exact hst
  have hMe : MdW G n ad en_6 ss ns c1 (nI u) 0 (nI d0) (nI s) := by have q := hMm_8; rw [if_pos rfl, hcl1] at q; exact q
  exact ⟨⟨rfl, fr_9⟩, c1, hMe, by rw [h36, hch], h37, hoth⟩

set_option maxHeartbeats 600000 in
set_option maxRecDepth 100000 in
theorem c_X8_turn_A2 (l : Launch) (G : rG) {n : Nat} {ad : Nat → Nat} {en : Nat → va_E} {ss ns : List Row} {c : Nat → Nat → Int32} {cl : Int32} {d u : Nat} (hM : MdW G n ad en ss ns c (nI u) 0 (nI d) cl) {goal s fu : Nat} (hd : 1 ≤ d ∧ d ≤ 80) (hu : u ≤ fu ∧ fu ≤ 3000) (hwa : c 32 d = nI goal) (hst : c 33 d = nI s) (hs3 : s ≤ 3000) (hg : 1 ≤ goal ∧ goal ≤ ss.length) {Γ : Nat → Bool} (hR : RowM c d Γ) (hΓ : ∀ y, Γ y = true → 1 ≤ y ∧ y ≤ ss.length) (hph : c 34 d = 0) (h0 : c 36 s = 0) {r f : Nat} (hr3 : 3 ≤ r ∧ r ≤ 10) (hw : fstW ss Γ goal = 16 * f + r) (hwy : wyOK ss Γ goal r f) : CV l G yX8_turn uX8_turn (4) (99) (0) (0) [.ref (ad 22), .int (nI fu)] (n) (n) ad en (fun ad1 en1 => mFr ad en ad1 en1 ∧ ∃ c2 : Nat → Nat → Int32, c2 36 s = nI r ∧ c2 37 s = nI (if 5 ≤ r then f else goal) ∧ c2 34 d = 1 ∧ (∀ r t, ¬ ((r = 36 ∨ r = 37) ∧ t = s) → ¬ (r = 34 ∧ t = d) → c2 r t = c r t) ∧ ChP G n ad en1 ns c2 u d fu cl ss r 1 f Γ goal) := by
  intro sz
  refine rMet (Qc := qV G (n) (fun ad1 en1 => mFr ad en ad1 en1 ∧ ∃ c2 : Nat → Nat → Int32, c2 36 s = nI r ∧ c2 37 s = nI (if 5 ≤ r then f else goal) ∧ c2 34 d = 1 ∧ (∀ r t, ¬ ((r = 36 ∨ r = 37) ∧ t = s) → ¬ (r = 34 ∧ t = d) → c2 r t = c r t) ∧ ChP G n ad en1 ns c2 u d fu cl ss r 1 f Γ goal)) (cc := cX8_turn) (maxL := 6) (ret := none) (by decide) rfl (Nat.le_of_ble_eq_true rfl) ?_
  intro pP eE sS mM aA bB tT cC ls A Q hc hK hsz hA hs hl hQ
  obtain ⟨hx, hb, hr, hts, hown, hlk, hnm, hml⟩ := hc
  have hl : lv_has ls 6 [(0, .ref (ad 22)), (1, .int (nI fu))] := hl
  have fr0 : ∀ k, k < 22 → en k = en k := fun _ _ => rfl
  obtain ⟨hn48, -, -, -, hok, hnk⟩ := id hM
  have h6 := hok.1
  have h8 := hnk.1
  have hch : chR (fstW ss Γ goal) = r := by rw [hw]; exact chR_lo (by omega)
  have hca : chA (fstW ss Γ goal) goal = (if 5 ≤ r then f else goal) := by
    rw [hw]
    by_cases q : 5 ≤ r
    · rw [if_pos q]; exact chA_hi (by omega)
    · rw [if_neg q]; exact chA_lo (by omega)
  have hP12 : rPremL.getD r 0 = 1 ∨ rPremL.getD r 0 = 2 := by
    have : ∀ r, r < 11 → 3 ≤ r → rPremL.getD r 0 = 1 ∨ rPremL.getD r 0 = 2 := by decide
    exact this r (by omega) (by omega)
  refine lv_aload_n hx hb dX8_turn_0 rfl (lv_at hl 0 rfl) ?_
  refine r_get (ci := 8) (v := .ref (ad 33)) (C := RX8) (T := TX8) (N := 31) hx hb hts inlX8 hown hK hs (22) (by omega) (md22 hM) rfl 14 (by decide) (hts _ w_fl_RX8_42) rfl dX8_turn_1 ?_
  refine lv_aload_n hx hb dX8_turn_4 rfl (lv_at hl 0 rfl) ?_
  refine r_get (ci := 8) (v := .int (nI d)) (C := RX8) (T := TX8) (N := 31) hx hb hts inlX8 hown hK hs (22) (by omega) (md22 hM) rfl 17 (by decide) (hts _ w_fl_RX8_109) rfl dX8_turn_5 ?_
  refine r_ialdN (t := d) hx hb hK hs (33) (by omega) (md33 hM) (rfl) (by omega) (by omega) dX8_turn_8 ?_
  refine r_topi (y := nI s) (hst) ?_
  refine lv_istore_n (lv' := [(2, .int (nI s)), (0, .ref (ad 22)), (1, .int (nI fu))]) hx hb dX8_turn_9 rfl hl (by decide) rfl (fun ls hl => ?_)
  refine lv_aload_n hx hb dX8_turn_10 rfl (lv_at hl 1 rfl) ?_
  refine r_get (ci := 8) (v := .ref (ad 34)) (C := RX8) (T := TX8) (N := 31) hx hb hts inlX8 hown hK hs (22) (by omega) (md22 hM) rfl 15 (by decide) (hts _ w_fl_RX8_45) rfl dX8_turn_11 ?_
  refine lv_aload_n hx hb dX8_turn_14 rfl (lv_at hl 1 rfl) ?_
  refine r_get (ci := 8) (v := .int (nI d)) (C := RX8) (T := TX8) (N := 31) hx hb hts inlX8 hown hK hs (22) (by omega) (md22 hM) rfl 17 (by decide) (hts _ w_fl_RX8_109) rfl dX8_turn_15 ?_
  refine r_ialdN (t := d) hx hb hK hs (34) (by omega) (md34 hM) (rfl) (by omega) (by omega) dX8_turn_18 ?_
  refine r_topi (y := 0) (hph) ?_
  refine lv_istore_n (lv' := [(3, .int (0)), (2, .int (nI s)), (0, .ref (ad 22)), (1, .int (nI fu))]) hx hb dX8_turn_19 rfl hl (by decide) rfl (fun ls hl => ?_)
  refine lv_iload_n hx hb dX8_turn_20 rfl (lv_at hl 0 rfl) ?_
  refine lv_if_ne (tgt := 28) hx hb dX8_turn_21 (by decide) (fun c21 => absurd (by decide) c21) (fun _ => ?_)
  refine lv_aload_n hx hb dX8_turn_24 rfl (lv_at hl 2 rfl) ?_
  refine r_callVv (ci := 8) (As := []) hx hb hml hown hts hK hA hs (22) (by omega) (md22 hM) rfl rfl (c_X8_choose l G hM (goal := goal) (s := s) (by omega) hwa hst (by omega) h0 hg hR hΓ) (cwV 0 hts (tbV w_ml_RX8_145 w_im_yX8_choose w_se_yX8_choose w_ini_RX8 w_cd_yX8_choose) rfl rfl rfl (by decide +kernel) ⟨Nat.le_of_ble_eq_true rfl, Nat.le_of_ble_eq_true rfl⟩) rfl hl.1 rfl (Nat.le_of_ble_eq_true rfl) dX8_turn_25 ⟨Nat.le_refl _, Nat.le_refl _⟩ (fun ad_1 en_2 H locs hp_3 hs => ?_)
  obtain ⟨⟨hA1, hF1⟩, c1, hM1, h36, h37, hoth⟩ := hp_3
  subst hA1
  have fr_4 : ∀ k, k < 22 → en_2 k = en k := fun k hk => Eq.trans (hF1 k hk) (fr0 k hk)
  have hR1 : RowM c1 d Γ := fun g hg => (hoth 31 _ (by omega)).trans (hR g hg)
  refine lv_aload_n hx hb dX8_turn_28 rfl (lv_at hl 2 rfl) ?_
  refine r_get (ci := 8) (v := .ref (ad 36)) (C := RX8) (T := TX8) (N := 31) hx hb hts inlX8 hown hK hs (22) (by omega) (md22 hM1) rfl 18 (by decide) (hts _ w_fl_RX8_51) rfl dX8_turn_29 ?_
  refine lv_iload_n hx hb dX8_turn_32 rfl (lv_at hl 1 rfl) ?_
  refine r_ialdN (t := s) hx hb hK hs (36) (by omega) (md36 hM1) (rfl) (by omega) (by omega) dX8_turn_33 ?_
  refine r_topi (y := nI r) (by rw [h36, hch]) ?_
  refine lv_istore (lv' := [(4, .int (nI r)), (3, .int (0)), (2, .int (nI s)), (0, .ref (ad 22)), (1, .int (nI fu))]) hx hb dX8_turn_34 hl (by decide) rfl (fun ls hl => ?_)
  refine lv_iload hx hb dX8_turn_36 (lv_at hl 0 rfl) ?_
  refine lv_bipush (v := 11) hx hb dX8_turn_38 (by decide) ?_
  refine lv_icmp_ne (tgt := 51) hx hb dX8_turn_40 (by decide) (fun _ => ?_) (fun c40 => absurd c40 (fun q => by have := sw_nI (v := 11) q rfl (by omega) (by decide); omega))
  refine lv_iload_n hx hb dX8_turn_51 rfl (lv_at hl 1 rfl) ?_
  refine lv_if_le (tgt := 62) hx hb dX8_turn_52 (by decide) (fun _ => ?_) (fun c52 => absurd (by decide) c52)
  refine lv_iload hx hb dX8_turn_62 (lv_at hl 0 rfl) ?_
  refine lv_iconst (v := 3) hx hb dX8_turn_64 (by decide) ?_
  refine lv_icmp_ge (tgt := 84) hx hb dX8_turn_65 (by decide) (fun _ => ?_) (fun c65 => absurd ((nI_leI (a := 3) (by decide) (by omega)).mpr (by omega)) c65)
  refine lv_iload_n hx hb dX8_turn_84 rfl (lv_at hl 1 rfl) ?_
  refine lv_iconst (v := 1) hx hb dX8_turn_85 (by decide) ?_
  refine lv_icmp_ne (tgt := 99) hx hb dX8_turn_86 (by decide) (fun _ => ?_) (fun c86 => absurd c86 (by decide))
  refine lv_iload_n hx hb dX8_turn_99 rfl (lv_at hl 1 rfl) ?_
  refine lv_iconst (v := 2) hx hb dX8_turn_100 (by decide) ?_
  refine lv_icmp_ne (tgt := 114) hx hb dX8_turn_101 (by decide) (fun _ => ?_) (fun c101 => absurd c101 (by decide))
  have JOIN134 : ∀ ls : Array Slot, lv_has ls 6 [(0, .ref (ad 22)), (1, .int (nI fu)), (2, .int (nI s)), (3, .int (0)), (4, .int (nI r)), (5, .int (nI (rPremL.getD r 0)))] → W pP l eE (rRm (4) (99) (0) (0)) sS mM aA bB tT cC H locs (0) (0) Q (F0 mM 134 ls []) := by
    intro ls hl
    refine lv_iload_n hx hb dX8_turn_134 rfl (lv_at hl 3 rfl) ?_
    refine lv_iload hx hb dX8_turn_135 (lv_at hl 5 rfl) ?_
    refine lv_icmp_ne (tgt := 146) hx hb dX8_turn_137 (by decide) (fun _ => ?_) (fun c137 => absurd c137 (fun q => by have := sw_nI (v := 0) q.symm rfl (by omega) (by decide); omega))
    refine lv_aload_n hx hb dX8_turn_146 rfl (lv_at hl 0 rfl) ?_
    refine r_get (ci := 8) (v := .ref (ad 34)) (C := RX8) (T := TX8) (N := 31) hx hb hts inlX8 hown hK hs (22) (by omega) (md22 hM1) rfl 15 (by decide) (hts _ w_fl_RX8_45) rfl dX8_turn_147 ?_
    refine lv_aload_n hx hb dX8_turn_150 rfl (lv_at hl 0 rfl) ?_
    refine r_get (ci := 8) (v := .int (nI d)) (C := RX8) (T := TX8) (N := 31) hx hb hts inlX8 hown hK hs (22) (by omega) (md22 hM1) rfl 17 (by decide) (hts _ w_fl_RX8_109) rfl dX8_turn_151 ?_
    refine lv_dup2_11 hx hb dX8_turn_154 rfl rfl ?_
    refine r_ialdN (t := d) hx hb hK hs (34) (by omega) (md34 hM1) (rfl) (by omega) (by omega) dX8_turn_155 ?_
    refine r_topi (y := 0) (by rw [hoth _ _ (by omega)]; exact hph) ?_
    refine lv_iconst (v := 1) hx hb dX8_turn_156 (by decide) ?_
    refine lv_iadd hx hb dX8_turn_157 ?_
    refine r_topi (y := 1) (by decide) ?_
    refine r_iastN (t := d) hx hb hK hs (34) (by omega) (md34 hM1) (rfl) (by omega) (by omega) dX8_turn_158 (fun H locs en_6 hen_6 hs => ?_)
    obtain ⟨c_8, ec_8⟩ : ∃ z, z = cU c1 34 (d) (1) := ⟨_, rfl⟩
    have hM_7 : MdW G n ad en_6 ss ns c_8 (nI u) 0 (nI d) cl := md_ar (f := upd (c1 34) (d) (1)) hM1 34 (by decide) (by decide) hen_6 ec_8
    have fr_9 : ∀ k, k < 22 → en_6 k = en k := fun k hk => Eq.trans (by rw [hen_6]; exact va_up_ne _ _ (by omega)) (fr_4 k hk)
    have hR_10 : RowM c_8 d Γ := by rw [ec_8]; exact row_cU hR1 (by decide)
    refine lv_aload_n hx hb dX8_turn_159 rfl (lv_at hl 0 rfl) ?_
    refine lv_iload hx hb dX8_turn_160 (lv_at hl 4 rfl) ?_
    refine lv_aload_n hx hb dX8_turn_162 rfl (lv_at hl 0 rfl) ?_
    refine r_get (ci := 8) (v := .ref (ad 37)) (C := RX8) (T := TX8) (N := 31) hx hb hts inlX8 hown hK hs (22) (by omega) (md22 hM_7) rfl 19 (by decide) (hts _ w_fl_RX8_54) rfl dX8_turn_163 ?_
    refine lv_iload_n hx hb dX8_turn_166 rfl (lv_at hl 2 rfl) ?_
    refine r_ialdN (t := s) hx hb hK hs (37) (by omega) (md37 hM_7) (rfl) (by omega) (by omega) dX8_turn_167 ?_
    refine r_topi (y := nI (if 5 ≤ r then f else goal)) (Eq.trans (by rw [ec_8, cU_o (by omega), h37]) (by rw [hca])) ?_
    refine lv_iload_n hx hb dX8_turn_168 rfl (lv_at hl 3 rfl) ?_
    refine r_topi (y := nI 0) (rfl) ?_
    obtain ⟨ob, ss1, hB⟩ : ∃ o z, brg ss r (0 + 1) f = (o, z) := ⟨_, _, rfl⟩
    refine r_callVv (ci := 8) (As := [.int (nI r), .int (nI (if 5 ≤ r then f else goal)), .int (nI 0)]) hx hb hml hown hts hK hA hs (22) (by omega) (md22 hM_7) rfl rfl (c_X8_premise l G hM_7 (goal := goal) (r := r) (f := f) (k := 0) (aa := (if 5 ≤ r then f else goal)) (by omega) (by rw [ec_8, cU_o (by omega), hoth _ _ (by omega)]; exact hwa) (by omega) rfl hg hR_10 hΓ hwy) (cwV 3 hts (tbV w_ml_RX8_155 w_im_yX8_premise w_se_yX8_premise w_ini_RX8 w_cd_yX8_premise) rfl rfl rfl (by decide +kernel) ⟨Nat.le_of_ble_eq_true rfl, Nat.le_of_ble_eq_true rfl⟩) rfl hl.1 rfl (Nat.le_of_ble_eq_true rfl) dX8_turn_169 ⟨Nat.le_refl _, Nat.le_refl _⟩ (fun ad_11 en_12 H locs hp_13 hs => ?_)
    obtain ⟨⟨hA3, hF3⟩, c3, hM3, hk3, hq3⟩ := hp_13
    subst hA3
    rw [hB] at hM3 hq3
    have fr_14 : ∀ k, k < 22 → en_12 k = en k := fun k hk => Eq.trans (hF3 k hk) (fr_9 k hk)
    refine lv_aload_n hx hb dX8_turn_172 rfl (lv_at hl 0 rfl) ?_
    refine lv_iload_n hx hb dX8_turn_173 rfl (lv_at hl 1 rfl) ?_
    rcases ob with _ | qb
    · skip
      have hM3n : MdW G n ad en_12 ss1 ns c3 (nI u) ((-3)) (nI d) cl := hM3
      refine r_callVvR (ci := 8) (As := [.int (nI fu)]) hx hb hml hown hts hK hA hs (22) (by omega) (md22 hM3n) rfl rfl (c_X8_enter_x l G hM3n (nI fu) (by decide)) (cwV 1 hts (tbV w_ml_RX8_158 w_im_yX8_enter w_se_yX8_enter w_ini_RX8 w_cd_yX8_enter) rfl rfl rfl (by decide +kernel) ⟨Nat.le_of_ble_eq_true rfl, Nat.le_of_ble_eq_true rfl⟩) rfl hl.1 rfl (Nat.le_of_ble_eq_true rfl) dX8_turn_174 ⟨Nat.zero_le _, Nat.zero_le _⟩ (fun H locs hs => ?_)
      refine r_vret (mc := 0) (ms := 0) hx hb hr hlk hs (Nat.le_refl _) (Nat.le_refl _) dX8_turn_177 hQ ?_
      exact ⟨⟨rfl, fr_14⟩, c_8, Eq.trans (by rw [ec_8, cU_o (by omega), h36]) (by rw [hch]), Eq.trans (by rw [ec_8, cU_o (by omega), h37]) (by rw [hca]), by rw [ec_8, cU_s], fun r t h1 h2 => by rw [ec_8, cU_o (by omega), hoth _ _ (by omega)], chp_x hB hM3n⟩
    · skip
      have hM3s : MdW G n ad en_12 ss1 ns c3 (nI u) 0 (nI d) cl := hM3
      obtain ⟨hRq, hwq⟩ := hq3 qb rfl
      by_cases hout : d = 80 ∨ u = fu
      · skip
        refine r_callVv (ci := 8) (As := [.int (nI fu)]) hx hb hml hown hts hK hA hs (22) (by omega) (md22 hM3s) rfl rfl (c_X8_enter_o l G hM3s (d := d) (u := u) (fu := fu) (by omega) (by omega) hout) (cwV 1 hts (tbV w_ml_RX8_158 w_im_yX8_enter w_se_yX8_enter w_ini_RX8 w_cd_yX8_enter) rfl rfl rfl (by decide +kernel) ⟨Nat.le_of_ble_eq_true rfl, Nat.le_of_ble_eq_true rfl⟩) rfl hl.1 rfl (Nat.le_of_ble_eq_true rfl) dX8_turn_174 ⟨Nat.le_refl _, Nat.le_refl _⟩ (fun ad_15 en_16 H locs hp_17 hs => ?_)
        obtain ⟨⟨hAm_18, hFm_18⟩, hMm_18⟩ := hp_17
        subst hAm_18
        have fr_19 : ∀ k, k < 22 → en_16 k = en k := fun k hk => Eq.trans (hFm_18 k hk) (fr_14 k hk)
        refine r_vret (mc := 0) (ms := 0) hx hb hr hlk hs (Nat.le_refl _) (Nat.le_refl _) dX8_turn_177 hQ ?_
        exact ⟨⟨rfl, fr_19⟩, c_8, Eq.trans (by rw [ec_8, cU_o (by omega), h36]) (by rw [hch]), Eq.trans (by rw [ec_8, cU_o (by omega), h37]) (by rw [hca]), by rw [ec_8, cU_s], fun r t h1 h2 => by rw [ec_8, cU_o (by omega), hoth _ _ (by omega)], chp_o hB hout hMm_18⟩
      · skip
        refine r_callVv (ci := 8) (As := [.int (nI fu)]) hx hb hml hown hts hK hA hs (22) (by omega) (md22 hM3s) rfl rfl (c_X8_enter_y l G hM3s (d := d) (u := u) (fu := fu) (by omega) (by omega)) (cwV 1 hts (tbV w_ml_RX8_158 w_im_yX8_enter w_se_yX8_enter w_ini_RX8 w_cd_yX8_enter) rfl rfl rfl (by decide +kernel) ⟨Nat.le_of_ble_eq_true rfl, Nat.le_of_ble_eq_true rfl⟩) rfl hl.1 rfl (Nat.le_of_ble_eq_true rfl) dX8_turn_174 ⟨Nat.le_refl _, Nat.le_refl _⟩ (fun ad_21 en_22 H locs hp_23 hs => ?_)
        obtain ⟨c_20, ec_20⟩ : ∃ z, z = cEnt c3 d u := ⟨_, rfl⟩
        rw [← ec_20] at hp_23
        obtain ⟨⟨hAm_24, hFm_24⟩, hMm_24⟩ := hp_23
        subst hAm_24
        have fr_25 : ∀ k, k < 22 → en_22 k = en k := fun k hk => Eq.trans (hFm_24 k hk) (fr_14 k hk)
        refine r_vret (mc := 0) (ms := 0) hx hb hr hlk hs (Nat.le_refl _) (Nat.le_refl _) dX8_turn_177 hQ ?_
        exact ⟨⟨rfl, fr_25⟩, c_8, Eq.trans (by rw [ec_8, cU_o (by omega), h36]) (by rw [hch]), Eq.trans (by rw [ec_8, cU_o (by omega), h37]) (by rw [hca]), by rw [ec_8, cU_s], fun r t h1 h2 => by rw [ec_8, cU_o (by omega), hoth _ _ (by omega)], chp_y hB hout (by rw [← ec_20]; exact hMm_24) hk3 hRq rfl hwq⟩
  refine lv_iload hx hb dX8_turn_114 (lv_at hl 0 rfl) ?_
  refine lv_iconst (v := 3) hx hb dX8_turn_116 (by decide) ?_
  refine lv_icmp_eq (tgt := 127) hx hb dX8_turn_117 (by decide) (fun c117 => ?_) (fun c117 => ?_)
  · skip
    refine lv_iconst (v := 2) hx hb dX8_turn_127 (by decide) ?_
    refine lv_goto (tgt := 132) hx hb dX8_turn_128 (by decide) ?_
    refine r_topi (y := nI (rPremL.getD r 0)) (by have e : r = 3 ∨ r = 6 := by { first | exact Or.inl (sw_nI c117 rfl (by omega) (by decide)) | exact Or.inr (sw_nI c124 rfl (by omega) (by decide)) }; rcases e with rfl | rfl <;> rfl) ?_
    refine lv_istore (lv' := [(5, .int (nI (rPremL.getD r 0))), (4, .int (nI r)), (3, .int (0)), (2, .int (nI s)), (0, .ref (ad 22)), (1, .int (nI fu))]) hx hb dX8_turn_132 hl (by decide) rfl (fun ls hl => ?_)
    exact JOIN134 _ (lv_sub hl [4, 5, 3, 2, 1, 0] rfl)
  · skip
    refine lv_iload hx hb dX8_turn_120 (lv_at hl 0 rfl) ?_
    refine lv_bipush (v := 6) hx hb dX8_turn_122 (by decide) ?_
    refine lv_icmp_ne (tgt := 131) hx hb dX8_turn_124 (by decide) (fun c124 => ?_) (fun c124 => ?_)
    · skip
      refine lv_iconst (v := 1) hx hb dX8_turn_131 (by decide) ?_
      refine r_topi (y := nI (rPremL.getD r 0)) (by have e : r = 4 ∨ r = 5 ∨ r = 7 ∨ r = 8 ∨ r = 9 ∨ r = 10 := by { have : ¬ r = 3 := fun q => c117 (by rw [q]; rfl); have : ¬ r = 6 := fun q => c124 (by rw [q]; rfl); omega }; rcases e with rfl | rfl | rfl | rfl | rfl | rfl <;> rfl) ?_
      refine lv_istore (lv' := [(5, .int (nI (rPremL.getD r 0))), (4, .int (nI r)), (3, .int (0)), (2, .int (nI s)), (0, .ref (ad 22)), (1, .int (nI fu))]) hx hb dX8_turn_132 hl (by decide) rfl (fun ls hl => ?_)
      exact JOIN134 _ (lv_sub hl [4, 5, 3, 2, 1, 0] rfl)
    · skip
      refine lv_iconst (v := 2) hx hb dX8_turn_127 (by decide) ?_
      refine lv_goto (tgt := 132) hx hb dX8_turn_128 (by decide) ?_
      refine r_topi (y := nI (rPremL.getD r 0)) (by have e : r = 3 ∨ r = 6 := by { first | exact Or.inl (sw_nI c117 rfl (by omega) (by decide)) | exact Or.inr (sw_nI c124 rfl (by omega) (by decide)) }; rcases e with rfl | rfl <;> rfl) ?_
      refine lv_istore (lv' := [(5, .int (nI (rPremL.getD r 0))), (4, .int (nI r)), (3, .int (0)), (2, .int (nI s)), (0, .ref (ad 22)), (1, .int (nI fu))]) hx hb dX8_turn_132 hl (by decide) rfl (fun ls hl => ?_)
      exact JOIN134 _ (lv_sub hl [4, 5, 3, 2, 1, 0] rfl)

set_option maxHeartbeats 600000 in
set_option maxRecDepth 100000 in
theorem c_X8_turn_A3 (l : Launch) (G : rG) {n : Nat} {ad : Nat → Nat} {en : Nat → va_E} {ss ns : List Row} {c : Nat → Nat → Int32} {cl : Int32} {d u : Nat} (hM : MdW G n ad en ss ns c (nI u) 0 (nI d) cl) {goal s fu : Nat} (hd : 1 ≤ d ∧ d ≤ 80) (hu : u ≤ fu ∧ fu ≤ 3000) (hwa : c 32 d = nI goal) (hst : c 33 d = nI s) (hs3 : s ≤ 3000) (hg : 1 ≤ goal ∧ goal ≤ ss.length) {Γ : Nat → Bool} (hR : RowM c d Γ) (hΓ : ∀ y, Γ y = true → 1 ≤ y ∧ y ≤ ss.length) (hph : c 34 d = 0) (h0 : c 36 s = 0) (htr : c 35 d = 0) (hch : chR (fstW ss Γ goal) = 11) : CV l G yX8_turn uX8_turn (4) (99) (0) (0) [.ref (ad 22), .int (nI fu)] (n) (n) ad en (fun ad1 en1 => mFr ad en ad1 en1 ∧ ((fstW ss Γ goal) = 0 → ∃ c1, MdW G n ad en1 ss ns c1 (nI u) 0 (nI (d - 1)) 0 ∧ ∀ r t, ¬ (r = 34 ∧ t = d) → ¬ ((r = 36 ∨ r = 37) ∧ t = s) → c1 r t = c r t) ∧ ((fstW ss Γ goal) ≠ 0 → ∃ c2, c2 34 d = 1 ∧ c2 35 d = tW (fstW ss Γ goal) ∧ c2 36 s = nI 11 ∧ (∀ r t, ¬ ((r = 34 ∨ r = 35) ∧ t = d) → ¬ ((r = 36 ∨ r = 37) ∧ t = s) → c2 r t = c r t) ∧ ChP G n ad en1 ns c2 u d fu cl ss ((fstW ss Γ goal) % 16) 1 ((fstW ss Γ goal) / 16) Γ goal)) := by
  intro sz
  refine rMet (Qc := qV G (n) (fun ad1 en1 => mFr ad en ad1 en1 ∧ ((fstW ss Γ goal) = 0 → ∃ c1, MdW G n ad en1 ss ns c1 (nI u) 0 (nI (d - 1)) 0 ∧ ∀ r t, ¬ (r = 34 ∧ t = d) → ¬ ((r = 36 ∨ r = 37) ∧ t = s) → c1 r t = c r t) ∧ ((fstW ss Γ goal) ≠ 0 → ∃ c2, c2 34 d = 1 ∧ c2 35 d = tW (fstW ss Γ goal) ∧ c2 36 s = nI 11 ∧ (∀ r t, ¬ ((r = 34 ∨ r = 35) ∧ t = d) → ¬ ((r = 36 ∨ r = 37) ∧ t = s) → c2 r t = c r t) ∧ ChP G n ad en1 ns c2 u d fu cl ss ((fstW ss Γ goal) % 16) 1 ((fstW ss Γ goal) / 16) Γ goal))) (cc := cX8_turn) (maxL := 6) (ret := none) (by decide) rfl (Nat.le_of_ble_eq_true rfl) ?_
  intro pP eE sS mM aA bB tT cC ls A Q hc hK hsz hA hs hl hQ
  obtain ⟨hx, hb, hr, hts, hown, hlk, hnm, hml⟩ := hc
  have hl : lv_has ls 6 [(0, .ref (ad 22)), (1, .int (nI fu))] := hl
  have fr0 : ∀ k, k < 22 → en k = en k := fun _ _ => rfl
  obtain ⟨hn48, -, -, -, hok, hnk⟩ := id hM
  have h6 := hok.1
  have h8 := hnk.1
  have h11 := ch11 hok hch
  refine lv_aload_n hx hb dX8_turn_0 rfl (lv_at hl 0 rfl) ?_
  refine r_get (ci := 8) (v := .ref (ad 33)) (C := RX8) (T := TX8) (N := 31) hx hb hts inlX8 hown hK hs (22) (by omega) (md22 hM) rfl 14 (by decide) (hts _ w_fl_RX8_42) rfl dX8_turn_1 ?_
  refine lv_aload_n hx hb dX8_turn_4 rfl (lv_at hl 0 rfl) ?_
  refine r_get (ci := 8) (v := .int (nI d)) (C := RX8) (T := TX8) (N := 31) hx hb hts inlX8 hown hK hs (22) (by omega) (md22 hM) rfl 17 (by decide) (hts _ w_fl_RX8_109) rfl dX8_turn_5 ?_
  refine r_ialdN (t := d) hx hb hK hs (33) (by omega) (md33 hM) (rfl) (by omega) (by omega) dX8_turn_8 ?_
  refine r_topi (y := nI s) (hst) ?_
  refine lv_istore_n (lv' := [(2, .int (nI s)), (0, .ref (ad 22)), (1, .int (nI fu))]) hx hb dX8_turn_9 rfl hl (by decide) rfl (fun ls hl => ?_)
  refine lv_aload_n hx hb dX8_turn_10 rfl (lv_at hl 1 rfl) ?_
  refine r_get (ci := 8) (v := .ref (ad 34)) (C := RX8) (T := TX8) (N := 31) hx hb hts inlX8 hown hK hs (22) (by omega) (md22 hM) rfl 15 (by decide) (hts _ w_fl_RX8_45) rfl dX8_turn_11 ?_
  refine lv_aload_n hx hb dX8_turn_14 rfl (lv_at hl 1 rfl) ?_
  refine r_get (ci := 8) (v := .int (nI d)) (C := RX8) (T := TX8) (N := 31) hx hb hts inlX8 hown hK hs (22) (by omega) (md22 hM) rfl 17 (by decide) (hts _ w_fl_RX8_109) rfl dX8_turn_15 ?_
  refine r_ialdN (t := d) hx hb hK hs (34) (by omega) (md34 hM) (rfl) (by omega) (by omega) dX8_turn_18 ?_
  refine r_topi (y := 0) (hph) ?_
  refine lv_istore_n (lv' := [(3, .int (0)), (2, .int (nI s)), (0, .ref (ad 22)), (1, .int (nI fu))]) hx hb dX8_turn_19 rfl hl (by decide) rfl (fun ls hl => ?_)
  refine lv_iload_n hx hb dX8_turn_20 rfl (lv_at hl 0 rfl) ?_
  refine lv_if_ne (tgt := 28) hx hb dX8_turn_21 (by decide) (fun c21 => absurd (by decide) c21) (fun _ => ?_)
  refine lv_aload_n hx hb dX8_turn_24 rfl (lv_at hl 2 rfl) ?_
  refine r_callVv (ci := 8) (As := []) hx hb hml hown hts hK hA hs (22) (by omega) (md22 hM) rfl rfl (c_X8_choose l G hM (goal := goal) (s := s) (by omega) hwa hst (by omega) h0 hg hR hΓ) (cwV 0 hts (tbV w_ml_RX8_145 w_im_yX8_choose w_se_yX8_choose w_ini_RX8 w_cd_yX8_choose) rfl rfl rfl (by decide +kernel) ⟨Nat.le_of_ble_eq_true rfl, Nat.le_of_ble_eq_true rfl⟩) rfl hl.1 rfl (Nat.le_of_ble_eq_true rfl) dX8_turn_25 ⟨Nat.le_refl _, Nat.le_refl _⟩ (fun ad_1 en_2 H locs hp_3 hs => ?_)
  obtain ⟨⟨hA1, hF1⟩, c1, hM1, h36, h37, hoth⟩ := hp_3
  subst hA1
  have fr_4 : ∀ k, k < 22 → en_2 k = en k := fun k hk => Eq.trans (hF1 k hk) (fr0 k hk)
  have hR1 : RowM c1 d Γ := fun g hg => (hoth 31 _ (by omega)).trans (hR g hg)
  refine lv_aload_n hx hb dX8_turn_28 rfl (lv_at hl 2 rfl) ?_
  refine r_get (ci := 8) (v := .ref (ad 36)) (C := RX8) (T := TX8) (N := 31) hx hb hts inlX8 hown hK hs (22) (by omega) (md22 hM1) rfl 18 (by decide) (hts _ w_fl_RX8_51) rfl dX8_turn_29 ?_
  refine lv_iload_n hx hb dX8_turn_32 rfl (lv_at hl 1 rfl) ?_
  refine r_ialdN (t := s) hx hb hK hs (36) (by omega) (md36 hM1) (rfl) (by omega) (by omega) dX8_turn_33 ?_
  refine r_topi (y := nI 11) (by rw [h36, hch]) ?_
  refine lv_istore (lv' := [(4, .int (nI 11)), (3, .int (0)), (2, .int (nI s)), (0, .ref (ad 22)), (1, .int (nI fu))]) hx hb dX8_turn_34 hl (by decide) rfl (fun ls hl => ?_)
  refine lv_iload hx hb dX8_turn_36 (lv_at hl 0 rfl) ?_
  refine lv_bipush (v := 11) hx hb dX8_turn_38 (by decide) ?_
  refine lv_icmp_ne (tgt := 51) hx hb dX8_turn_40 (by decide) (fun c40 => absurd (rfl) c40) (fun _ => ?_)
  refine lv_aload_n hx hb dX8_turn_43 rfl (lv_at hl 3 rfl) ?_
  refine lv_iload_n hx hb dX8_turn_44 rfl (lv_at hl 2 rfl) ?_
  refine lv_iload_n hx hb dX8_turn_45 rfl (lv_at hl 1 rfl) ?_
  refine lv_iload_n hx hb dX8_turn_46 rfl (lv_at hl 4 rfl) ?_
  refine r_callVv (ci := 8) (As := [.int (nI s), .int (0), .int (nI fu)]) hx hb hml hown hts hK hA hs (22) (by omega) (md22 hM1) rfl rfl (c_X8_choices_n l G hM1 (goal := goal) (s := s) (fu := fu) (p := 0) (w1 := fstW ss Γ goal) hd hu (by rw [hoth _ _ (by omega)]; exact hwa) (by rw [hoth _ _ (by omega)]; exact hst) hs3 hg (by decide) (Or.inl rfl) hR1 hΓ (h11.elim (fun q => Or.inl ⟨by rw [hoth _ _ (by omega)]; exact htr, q.1, q.2⟩) (fun q => Or.inr (Or.inl ⟨by rw [hoth _ _ (by omega)]; exact htr, q.1, q.2⟩)))) (cwV 3 hts (tbV w_ml_RX8_148 w_im_yX8_choices w_se_yX8_choices w_ini_RX8 w_cd_yX8_choices) rfl rfl rfl (by decide +kernel) ⟨Nat.le_of_ble_eq_true rfl, Nat.le_of_ble_eq_true rfl⟩) rfl hl.1 rfl (Nat.le_of_ble_eq_true rfl) dX8_turn_47 ⟨Nat.le_refl _, Nat.le_refl _⟩ (fun ad_5 en_6 H locs hp_7 hs => ?_)
  obtain ⟨⟨hA4, hF4⟩, hz4, hy4⟩ := hp_7
  subst hA4
  have fr_8 : ∀ k, k < 22 → en_6 k = en k := fun k hk => Eq.trans (hF4 k hk) (fr_4 k hk)
  refine r_vret (mc := 0) (ms := 0) hx hb hr hlk hs (Nat.le_refl _) (Nat.le_refl _) dX8_turn_50 hQ ?_
  exact ⟨⟨rfl, fr_8⟩, fun q => (hz4 q).elim (fun c5 h5 => ⟨c5, h5.1, fun r t a b => (h5.2 r t a).trans (hoth r t b)⟩), fun q => (hy4 q).elim (fun c5 h5 => ⟨c5, h5.1, h5.2.1, (h5.2.2.1 36 s (by omega)).trans (by rw [h36, hch]), fun r t a b => (h5.2.2.1 r t a).trans (hoth r t b), h5.2.2.2⟩)⟩

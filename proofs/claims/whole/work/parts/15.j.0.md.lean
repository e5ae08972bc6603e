set_option maxHeartbeats 600000 in
set_option maxRecDepth 100000 in
theorem c_X8_choices_n_z3 (l : Launch) (G : rG) {n : Nat} {ad : Nat → Nat} {en : Nat → va_E} {ss ns : List Row} {c : Nat → Nat → Int32} {cl : Int32} {d u : Nat} (hM : MdW G n ad en ss ns c (nI u) 0 (nI d) cl) {goal s fu p w1 : Nat} (hd : 1 ≤ d ∧ d ≤ 80) (hu : u ≤ fu ∧ fu ≤ 3000) (hwa : c 32 d = nI goal) (hst : c 33 d = nI s) (hs3 : s ≤ 3000) (hg : 1 ≤ goal ∧ goal ≤ ss.length) (hp : p < 2 ^ 31) (hcl : p = 0 ∨ cl = 0) {Γ : Nat → Bool} (hR : RowM c d Γ) (hΓ : ∀ y, Γ y = true → 1 ≤ y ∧ y ≤ ss.length) (hxv : c 35 d = 0) (hs3g : sSort ss goal = 3) (hw1 : w1 = 11) : CV l G yX8_choices uX8_choices (3) (71) (0) (0) [.ref (ad 22), .int (nI s), .int (nI p), .int (nI fu)] (n) (n) ad en (fun ad1 en1 => mFr ad en ad1 en1 ∧ (w1 = 0 → ∃ c1, MdW G n ad en1 ss ns c1 (nI u) 0 (nI (d - 1)) 0 ∧ ∀ r t, ¬ (r = 34 ∧ t = d) → c1 r t = c r t) ∧ (w1 ≠ 0 → ∃ c2, c2 34 d = 1 ∧ c2 35 d = tW w1 ∧ (∀ r t, ¬ ((r = 34 ∨ r = 35) ∧ t = d) → c2 r t = c r t) ∧ ChP G n ad en1 ns c2 u d fu cl ss (w1 % 16) 1 (w1 / 16) Γ goal)) := by
  intro sz
  refine rMet (Qc := qV G (n) (fun ad1 en1 => mFr ad en ad1 en1 ∧ (w1 = 0 → ∃ c1, MdW G n ad en1 ss ns c1 (nI u) 0 (nI (d - 1)) 0 ∧ ∀ r t, ¬ (r = 34 ∧ t = d) → c1 r t = c r t) ∧ (w1 ≠ 0 → ∃ c2, c2 34 d = 1 ∧ c2 35 d = tW w1 ∧ (∀ r t, ¬ ((r = 34 ∨ r = 35) ∧ t = d) → c2 r t = c r t) ∧ ChP G n ad en1 ns c2 u d fu cl ss (w1 % 16) 1 (w1 / 16) Γ goal))) (cc := cX8_choices) (maxL := 8) (ret := none) (by decide) rfl (Nat.le_of_ble_eq_true rfl) ?_
  intro pP eE sS mM aA bB tT cC ls A Q hc hK hsz hA hs hl hQ
  obtain ⟨hx, hb, hr, hts, hown, hlk, hnm, hml⟩ := hc
  have hl : lv_has ls 8 [(0, .ref (ad 22)), (1, .int (nI s)), (2, .int (nI p)), (3, .int (nI fu))] := hl
  have fr0 : ∀ k, k < 22 → en k = en k := fun _ _ => rfl
  obtain ⟨hn48, -, -, -, hok, hnk⟩ := id hM
  have h6 := hok.1
  have h8 := hnk.1
  
  have JOIN173 : ∀ ls : Array Slot, lv_has ls 8 [(0, .ref (ad 22)), (1, .int (nI s)), (2, .int (nI p)), (3, .int (nI fu))] → W pP l eE (rRm (3) (71) (0) (0)) sS mM aA bB tT cC sS.heap [] (0) (0) Q (F0 mM 173 ls []) := by
    intro ls hl
    refine lv_aload_n hx hb dX8_choices_173 rfl (lv_at hl 0 rfl) ?_
    refine r_get (ci := 8) (v := .ref (ad 34)) (C := RX8) (T := TX8) (N := 31) hx hb hts inlX8 hown hK hs (22) (by omega) (md22 hM) rfl 15 (by decide) (hts _ w_fl_RX8_45) rfl dX8_choices_174 ?_
    refine lv_aload_n hx hb dX8_choices_177 rfl (lv_at hl 0 rfl) ?_
    refine r_get (ci := 8) (v := .int (nI d)) (C := RX8) (T := TX8) (N := 31) hx hb hts inlX8 hown hK hs (22) (by omega) (md22 hM) rfl 17 (by decide) (hts _ w_fl_RX8_109) rfl dX8_choices_178 ?_
    refine lv_iconst (v := 1) hx hb dX8_choices_181 (by decide) ?_
    refine r_iastN (t := d) hx hb hK hs (34) (by omega) (md34 hM) (rfl) (by omega) (by omega) dX8_choices_182 (fun H locs en_2 hen_2 hs => ?_)
    obtain ⟨c_4, ec_4⟩ : ∃ z, z = cU c 34 (d) (1) := ⟨_, rfl⟩
    have hM_3 : MdW G n ad en_2 ss ns c_4 (nI u) 0 (nI d) cl := md_ar (f := upd (c 34) (d) (1)) hM 34 (by decide) (by decide) hen_2 ec_4
    have fr_5 : ∀ k, k < 22 → en_2 k = en k := fun k hk => Eq.trans (by rw [hen_2]; exact va_up_ne _ _ (by omega)) (fr0 k hk)
    have hR_6 : RowM c_4 d Γ := by rw [ec_4]; exact row_cU hR (by decide)
    refine lv_aload_n hx hb dX8_choices_183 rfl (lv_at hl 0 rfl) ?_
    refine lv_aload_n hx hb dX8_choices_184 rfl (lv_at hl 0 rfl) ?_
    refine r_get (ci := 8) (v := .ref (ad 32)) (C := RX8) (T := TX8) (N := 31) hx hb hts inlX8 hown hK hs (22) (by omega) (md22 hM_3) rfl 13 (by decide) (hts _ w_fl_RX8_39) rfl dX8_choices_185 ?_
    refine lv_aload_n hx hb dX8_choices_188 rfl (lv_at hl 0 rfl) ?_
    refine r_get (ci := 8) (v := .int (nI d)) (C := RX8) (T := TX8) (N := 31) hx hb hts inlX8 hown hK hs (22) (by omega) (md22 hM_3) rfl 17 (by decide) (hts _ w_fl_RX8_109) rfl dX8_choices_189 ?_
    refine r_ialdN (t := d) hx hb hK hs (32) (by omega) (md32 hM_3) (rfl) (by omega) (by omega) dX8_choices_192 ?_
    refine r_topi (y := nI goal) (by rw [ec_4, cU_o (by omega)]; exact hwa) ?_
    refine lv_iconst (v := 3) hx hb dX8_choices_193 (by decide) ?_
    refine r_callViR (ci := 8) (As := [.int (nI goal), .int (3)]) hx hb hml hown hts hK hA hs (22) (by omega) (md22 hM_3) rfl rfl (c_X8_isA l G hM_3 (f := goal) (so := 3) (by omega) (by decide)) (cwV 2 hts (tbV w_ml_RX8_122 w_im_yX8_isA w_se_yX8_isA w_ini_RX8 w_cd_yX8_isA) rfl rfl rfl (by decide +kernel) ⟨Nat.le_of_ble_eq_true rfl, Nat.le_of_ble_eq_true rfl⟩) rfl hl.1 rfl (Nat.le_of_ble_eq_true rfl) dX8_choices_194 ⟨Nat.zero_le _, Nat.zero_le _⟩ (fun H locs hs => ?_)
    refine lv_istore (lv' := [(4, .int (b2i (isK ss goal 3))), (0, .ref (ad 22)), (1, .int (nI s)), (2, .int (nI p)), (3, .int (nI fu))]) hx hb dX8_choices_197 hl (by decide) rfl (fun ls hl => ?_)
    refine lv_iload hx hb dX8_choices_199 (lv_at hl 0 rfl) ?_
    refine lv_if_eq (tgt := 297) hx hb dX8_choices_201 (by decide) (fun c201 => absurd c201 (by rw [show isK ss goal 3 = true from decide_eq_true ⟨hg.1, hs3g⟩]; decide)) (fun _ => ?_)
    refine lv_aload_n hx hb dX8_choices_204 rfl (lv_at hl 1 rfl) ?_
    refine r_get (ci := 8) (v := .ref (ad 35)) (C := RX8) (T := TX8) (N := 31) hx hb hts inlX8 hown hK hs (22) (by omega) (md22 hM_3) rfl 16 (by decide) (hts _ w_fl_RX8_48) rfl dX8_choices_205 ?_
    refine lv_aload_n hx hb dX8_choices_208 rfl (lv_at hl 1 rfl) ?_
    refine r_get (ci := 8) (v := .int (nI d)) (C := RX8) (T := TX8) (N := 31) hx hb hts inlX8 hown hK hs (22) (by omega) (md22 hM_3) rfl 17 (by decide) (hts _ w_fl_RX8_109) rfl dX8_choices_209 ?_
    refine r_ialdN (t := d) hx hb hK hs (35) (by omega) (md35 hM_3) (rfl) (by omega) (by omega) dX8_choices_212 ?_
    refine r_topi (y := 0) (by rw [ec_4, cU_o (by omega)]; exact hxv) ?_
    refine lv_bipush (v := (-2)) hx hb dX8_choices_213 (by decide) ?_
    refine lv_icmp_le (tgt := 297) hx hb dX8_choices_215 (by decide) (fun c215 => absurd c215 (by decide)) (fun _ => ?_)
    refine lv_aload_n hx hb dX8_choices_218 rfl (lv_at hl 1 rfl) ?_
    refine r_get (ci := 8) (v := .ref (ad 35)) (C := RX8) (T := TX8) (N := 31) hx hb hts inlX8 hown hK hs (22) (by omega) (md22 hM_3) rfl 16 (by decide) (hts _ w_fl_RX8_48) rfl dX8_choices_219 ?_
    refine lv_aload_n hx hb dX8_choices_222 rfl (lv_at hl 1 rfl) ?_
    refine r_get (ci := 8) (v := .int (nI d)) (C := RX8) (T := TX8) (N := 31) hx hb hts inlX8 hown hK hs (22) (by omega) (md22 hM_3) rfl 17 (by decide) (hts _ w_fl_RX8_109) rfl dX8_choices_223 ?_
    refine r_ialdN (t := d) hx hb hK hs (35) (by omega) (md35 hM_3) (rfl) (by omega) (by omega) dX8_choices_226 ?_
    refine r_topi (y := 0) (by rw [ec_4, cU_o (by omega)]; exact hxv) ?_
    refine lv_if_gt (tgt := 297) hx hb dX8_choices_227 (by decide) (fun c227 => absurd c227 (by decide)) (fun _ => ?_)
    refine lv_aload_n hx hb dX8_choices_230 rfl (lv_at hl 1 rfl) ?_
    refine r_get (ci := 8) (v := .ref (ad 35)) (C := RX8) (T := TX8) (N := 31) hx hb hts inlX8 hown hK hs (22) (by omega) (md22 hM_3) rfl 16 (by decide) (hts _ w_fl_RX8_48) rfl dX8_choices_231 ?_
    refine lv_aload_n hx hb dX8_choices_234 rfl (lv_at hl 1 rfl) ?_
    refine r_get (ci := 8) (v := .int (nI d)) (C := RX8) (T := TX8) (N := 31) hx hb hts inlX8 hown hK hs (22) (by omega) (md22 hM_3) rfl 17 (by decide) (hts _ w_fl_RX8_109) rfl dX8_choices_235 ?_
    refine lv_dup2_11 hx hb dX8_choices_238 rfl rfl ?_
    refine r_ialdN (t := d) hx hb hK hs (35) (by omega) (md35 hM_3) (rfl) (by omega) (by omega) dX8_choices_239 ?_
    refine r_topi (y := 0) (by rw [ec_4, cU_o (by omega)]; exact hxv) ?_
    refine lv_iconst (v := 1) hx hb dX8_choices_240 (by decide) ?_
    refine lv_isub hx hb dX8_choices_241 ?_
    refine r_topi (y := (-1)) (by decide) ?_
    refine r_iastN (t := d) hx hb hK hs (35) (by omega) (md35 hM_3) (rfl) (by omega) (by omega) dX8_choices_242 (fun H locs en_8 hen_8 hs => ?_)
    obtain ⟨c_10, ec_10⟩ : ∃ z, z = cU c_4 35 (d) ((-1)) := ⟨_, rfl⟩
    have hM_9 : MdW G n ad en_8 ss ns c_10 (nI u) 0 (nI d) cl := md_ar (f := upd (c_4 35) (d) ((-1))) hM_3 35 (by decide) (by decide) hen_8 ec_10
    have fr_11 : ∀ k, k < 22 → en_8 k = en k := fun k hk => Eq.trans (by rw [hen_8]; exact va_up_ne _ _ (by omega)) (fr_5 k hk)
    have hR_12 : RowM c_10 d Γ := by rw [ec_10]; exact row_cU hR_6 (by decide)
    refine lv_aload_n hx hb dX8_choices_243 rfl (lv_at hl 1 rfl) ?_
    refine lv_aload_n hx hb dX8_choices_244 rfl (lv_at hl 1 rfl) ?_
    refine r_get (ci := 8) (v := .ref (ad 35)) (C := RX8) (T := TX8) (N := 31) hx hb hts inlX8 hown hK hs (22) (by omega) (md22 hM_9) rfl 16 (by decide) (hts _ w_fl_RX8_48) rfl dX8_choices_245 ?_
    refine lv_aload_n hx hb dX8_choices_248 rfl (lv_at hl 1 rfl) ?_
    refine r_get (ci := 8) (v := .int (nI d)) (C := RX8) (T := TX8) (N := 31) hx hb hts inlX8 hown hK hs (22) (by omega) (md22 hM_9) rfl 17 (by decide) (hts _ w_fl_RX8_109) rfl dX8_choices_249 ?_
    refine r_ialdN (t := d) hx hb hK hs (35) (by omega) (md35 hM_9) (rfl) (by omega) (by omega) dX8_choices_252 ?_
    refine r_topi (y := (-1)) (by rw [ec_10, cU_s]) ?_
    refine lv_iconst (v := (-1)) hx hb dX8_choices_253 (by decide) ?_
    refine lv_icmp_ne (tgt := 274) hx hb dX8_choices_254 (by decide) (fun c254 => absurd (by decide) c254) (fun _ => ?_)
    refine lv_aload_n hx hb dX8_choices_257 rfl (lv_at hl 1 rfl) ?_
    refine r_get (ci := 8) (v := .ref (ad 24)) (C := RX8) (T := TX8) (N := 31) hx hb hts inlX8 hown hK hs (22) (by omega) (md22 hM_9) rfl 1 (by decide) (hts _ w_fl_RX8_13) rfl dX8_choices_258 ?_
    refine lv_aload_n hx hb dX8_choices_261 rfl (lv_at hl 1 rfl) ?_
    refine r_get (ci := 8) (v := .ref (ad 32)) (C := RX8) (T := TX8) (N := 31) hx hb hts inlX8 hown hK hs (22) (by omega) (md22 hM_9) rfl 13 (by decide) (hts _ w_fl_RX8_39) rfl dX8_choices_262 ?_
    refine lv_aload_n hx hb dX8_choices_265 rfl (lv_at hl 1 rfl) ?_
    refine r_get (ci := 8) (v := .int (nI d)) (C := RX8) (T := TX8) (N := 31) hx hb hts inlX8 hown hK hs (22) (by omega) (md22 hM_9) rfl 17 (by decide) (hts _ w_fl_RX8_109) rfl dX8_choices_266 ?_
    refine r_ialdN (t := d) hx hb hK hs (32) (by omega) (md32 hM_9) (rfl) (by omega) (by omega) dX8_choices_269 ?_
    refine r_topi (y := nI goal) (by rw [ec_10, cU_o (by omega), ec_4, cU_o (by omega)]; exact hwa) ?_
    refine r_ialdN (t := goal) hx hb hK hs (24) (by omega) (md24 hM_9) (rfl) (by omega) (by omega) dX8_choices_270 ?_
    refine r_topi (y := nI (sL ss (goal))) rfl ?_
    refine lv_goto (tgt := 288) hx hb dX8_choices_271 (by decide) ?_
    refine r_callVv (ci := 8) (As := [.int (nI (sL ss (goal)))]) hx hb hml hown hts hK hA hs (22) (by omega) (md22 hM_9) rfl rfl (c_X8_open l G hM_9 (gl := (sL ss (goal))) (by omega) hR_12) (cwV 1 hts (tbV w_ml_RX8_133 w_im_yX8_open w_se_yX8_open w_ini_RX8 w_cd_yX8_open) rfl rfl rfl (by decide +kernel) ⟨Nat.le_of_ble_eq_true rfl, Nat.le_of_ble_eq_true rfl⟩) rfl hl.1 rfl (Nat.le_of_ble_eq_true rfl) dX8_choices_288 ⟨Nat.le_refl _, Nat.le_refl _⟩ (fun ad_14 en_15 H locs hp_16 hs => ?_)
    obtain ⟨c_13, ec_13⟩ : ∃ z, z = cOpn c_10 d (nI (sL ss (goal))) := ⟨_, rfl⟩
    rw [← ec_13] at hp_16
    obtain ⟨⟨hAm_17, hFm_17⟩, hMm_17⟩ := hp_16
    subst hAm_17
    have fr_18 : ∀ k, k < 22 → en_15 k = en k := fun k hk => Eq.trans (hFm_17 k hk) (fr_11 k hk)
    have hRn_c_13 : RowM c_13 (d + 1) Γ := by rw [ec_13]; exact opn_row hR_12
    have hBx : brg ss 11 1 0 = (some (0, 0), ss) := brgx (by decide) (by decide) (by decide)
    refine lv_aload_n hx hb dX8_choices_291 rfl (lv_at hl 1 rfl) ?_
    refine lv_iload_n hx hb dX8_choices_292 rfl (lv_at hl 4 rfl) ?_
    by_cases hout : d = 80 ∨ u = fu
    · skip
      refine r_callVv (ci := 8) (As := [.int (nI fu)]) hx hb hml hown hts hK hA hs (22) (by omega) (md22 hMm_17) rfl rfl (c_X8_enter_o l G hMm_17 (d := d) (u := u) (fu := fu) (by omega) (by omega) hout) (cwV 1 hts (tbV w_ml_RX8_158 w_im_yX8_enter w_se_yX8_enter w_ini_RX8 w_cd_yX8_enter) rfl rfl rfl (by decide +kernel) ⟨Nat.le_of_ble_eq_true rfl, Nat.le_of_ble_eq_true rfl⟩) rfl hl.1 rfl (Nat.le_of_ble_eq_true rfl) dX8_choices_293 ⟨Nat.le_refl _, Nat.le_refl _⟩ (fun ad_19 en_20 H locs hp_21 hs => ?_)
      obtain ⟨⟨hAm_22, hFm_22⟩, hMm_22⟩ := hp_21
      subst hAm_22
      have fr_23 : ∀ k, k < 22 → en_20 k = en k := fun k hk => Eq.trans (hFm_22 k hk) (fr_18 k hk)
      refine r_vret (mc := 0) (ms := 0) hx hb hr hlk hs (Nat.le_refl _) (Nat.le_refl _) dX8_choices_296 hQ ?_
      have hwe : w1 % 16 = 11 ∧ w1 / 16 = 0 := by rw [hw1]; omega
      refine ⟨⟨rfl, fr_23⟩, fun q => absurd q (by rw [hw1]; omega), fun _ => ⟨c_10, by rw [ec_10, cU_o (by omega), ec_4, cU_s], Eq.trans (by rw [ec_10, cU_s]) (by rw [tW, hwe.1]; rfl), fun r t h => by rw [ec_10, cU_o (by omega), ec_4, cU_o (by omega)], ?_⟩⟩
      rw [hwe.1, hwe.2]
      exact chp_o hBx hout hMm_22
    · skip
      refine r_callVv (ci := 8) (As := [.int (nI fu)]) hx hb hml hown hts hK hA hs (22) (by omega) (md22 hMm_17) rfl rfl (c_X8_enter_y l G hMm_17 (d := d) (u := u) (fu := fu) (by omega) (by omega)) (cwV 1 hts (tbV w_ml_RX8_158 w_im_yX8_enter w_se_yX8_enter w_ini_RX8 w_cd_yX8_enter) rfl rfl rfl (by decide +kernel) ⟨Nat.le_of_ble_eq_true rfl, Nat.le_of_ble_eq_true rfl⟩) rfl hl.1 rfl (Nat.le_of_ble_eq_true rfl) dX8_choices_293 ⟨Nat.le_refl _, Nat.le_refl _⟩ (fun ad_25 en_26 H locs hp_27 hs => ?_)
      obtain ⟨c_24, ec_24⟩ : ∃ z, z = cEnt c_13 d u := ⟨_, rfl⟩
      rw [← ec_24] at hp_27
      obtain ⟨⟨hAm_28, hFm_28⟩, hMm_28⟩ := hp_27
      subst hAm_28
      have fr_29 : ∀ k, k < 22 → en_26 k = en k := fun k hk => Eq.trans (hFm_28 k hk) (fr_18 k hk)
      refine r_vret (mc := 0) (ms := 0) hx hb hr hlk hs (Nat.le_refl _) (Nat.le_refl _) dX8_choices_296 hQ ?_
      have hwe : w1 % 16 = 11 ∧ w1 / 16 = 0 := by rw [hw1]; omega
      refine ⟨⟨rfl, fr_29⟩, fun q => absurd q (by rw [hw1]; omega), fun _ => ⟨c_10, by rw [ec_10, cU_o (by omega), ec_4, cU_s], Eq.trans (by rw [ec_10, cU_s]) (by rw [tW, hwe.1]; rfl), fun r t h => by rw [ec_10, cU_o (by omega), ec_4, cU_o (by omega)], ?_⟩⟩
      rw [hwe.1, hwe.2]
      exact chp_y hBx hout (by rw [← ec_24]; exact hMm_28) (fun r t h1 h2 => by rw [ec_13, opn_o (by omega)]) hRn_c_13 (by show _ = gAdd (gAdd (gDel Γ 0) 0) 0; rw [gAdd_0, gAdd_0, gDel_0]) (by rw [ec_13, opn_w]; rfl)
  refine lv_iload_n hx hb dX8_choices_0 rfl (lv_at hl 2 rfl) ?_
  refine lv_if_le (tgt := 173) hx hb dX8_choices_1 (by decide) (fun c1 => ?_) (fun c1 => ?_)
  · skip
    skip
    exact JOIN173 _ (lv_sub hl [0, 1, 2, 3] rfl)
  · skip
    have hp0 : cl = 0 := hcl.resolve_left (fun q => c1 (by rw [q]; decide))
    refine lv_aload_n hx hb dX8_choices_4 rfl (lv_at hl 0 rfl) ?_
    refine r_get (ci := 8) (v := .int (cl)) (C := RX8) (T := TX8) (N := 31) hx hb hts inlX8 hown hK hs (22) (by omega) (md22 hM) rfl 23 (by decide) (hts _ w_fl_RX8_115) rfl dX8_choices_5 ?_
    refine lv_if_eq (tgt := 173) hx hb dX8_choices_8 (by decide) (fun _ => ?_) (fun c8 => absurd (hp0) c8)
    exact JOIN173 _ (lv_sub hl [0, 1, 2, 3] rfl)

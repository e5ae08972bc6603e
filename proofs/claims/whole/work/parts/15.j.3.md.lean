set_option maxHeartbeats 600000 in
set_option maxRecDepth 100000 in
theorem c_X8_choices_n_m2 (l : Launch) (G : rG) {n : Nat} {ad : Nat → Nat} {en : Nat → va_E} {ss ns : List Row} {c : Nat → Nat → Int32} {cl : Int32} {d u : Nat} (hM : MdW G n ad en ss ns c (nI u) 0 (nI d) cl) {goal s fu p w1 : Nat} (hd : 1 ≤ d ∧ d ≤ 80) (hu : u ≤ fu ∧ fu ≤ 3000) (hwa : c 32 d = nI goal) (hst : c 33 d = nI s) (hs3 : s ≤ 3000) (hg : 1 ≤ goal ∧ goal ≤ ss.length) (hp : p < 2 ^ 31) (hcl : p = 0 ∨ cl = 0) {Γ : Nat → Bool} (hR : RowM c d Γ) (hΓ : ∀ y, Γ y = true → 1 ≤ y ∧ y ≤ ss.length) (hxv : c 35 d = (-2)) (hs3g : sSort ss goal = 3) (hw1 : w1 = nsW ss Γ 0) : CV l G yX8_choices uX8_choices (3) (71) (0) (0) [.ref (ad 22), .int (nI s), .int (nI p), .int (nI fu)] (n) (n) ad en (fun ad1 en1 => mFr ad en ad1 en1 ∧ (w1 = 0 → ∃ c1, MdW G n ad en1 ss ns c1 (nI u) 0 (nI (d - 1)) 0 ∧ ∀ r t, ¬ (r = 34 ∧ t = d) → c1 r t = c r t) ∧ (w1 ≠ 0 → ∃ c2, c2 34 d = 1 ∧ c2 35 d = tW w1 ∧ (∀ r t, ¬ ((r = 34 ∨ r = 35) ∧ t = d) → c2 r t = c r t) ∧ ChP G n ad en1 ns c2 u d fu cl ss (w1 % 16) 1 (w1 / 16) Γ goal)) := by
  intro sz
  refine rMet (Qc := qV G (n) (fun ad1 en1 => mFr ad en ad1 en1 ∧ (w1 = 0 → ∃ c1, MdW G n ad en1 ss ns c1 (nI u) 0 (nI (d - 1)) 0 ∧ ∀ r t, ¬ (r = 34 ∧ t = d) → c1 r t = c r t) ∧ (w1 ≠ 0 → ∃ c2, c2 34 d = 1 ∧ c2 35 d = tW w1 ∧ (∀ r t, ¬ ((r = 34 ∨ r = 35) ∧ t = d) → c2 r t = c r t) ∧ ChP G n ad en1 ns c2 u d fu cl ss (w1 % 16) 1 (w1 / 16) Γ goal))) (cc := cX8_choices) (maxL := 8) (ret := none) (by decide) rfl (Nat.le_of_ble_eq_true rfl) ?_
  intro pP eE sS mM aA bB tT cC ls A Q hc hK hsz hA hs hl hQ
  obtain ⟨hx, hb, hr, hts, hown, hlk, hnm, hml⟩ := hc
  have hl : lv_has ls 8 [(0, .ref (ad 22)), (1, .int (nI s)), (2, .int (nI p)), (3, .int (nI fu))] := hl
  have fr0 : ∀ k, k < 22 → en k = en k := fun _ _ => rfl
  obtain ⟨hn48, -, -, -, hok, hnk⟩ := id hM
  have h6 := hok.1
  have h8 := hnk.1
  
  have JOIN173 : ∀ ls : Array Slot, lv_has ls 8 [(0, .ref (ad 22)), (1, .int (nI s)), (2, .int (nI p)), (3, .int (nI fu))] → W pP l eE (rRm (3) (71) (0) (0)) sS mM aA bB tT cC sS.heap [] (0) (0) Q (F0 mM 173 ls []) := by
    intro ls hl
    refine lv_aload_n hx hb dX8_choices_173 rfl (lv_at hl 0 rfl) ?_
    refine r_get (ci := 8) (v := .ref (ad 34)) (C := RX8) (T := TX8) (N := 31) hx hb hts inlX8 hown hK hs (22) (by omega) (md22 hM) rfl 15 (by decide) (hts _ w_fl_RX8_45) rfl dX8_choices_174 ?_
    refine lv_aload_n hx hb dX8_choices_177 rfl (lv_at hl 0 rfl) ?_
    refine r_get (ci := 8) (v := .int (nI d)) (C := RX8) (T := TX8) (N := 31) hx hb hts inlX8 hown hK hs (22) (by omega) (md22 hM) rfl 17 (by decide) (hts _ w_fl_RX8_109) rfl dX8_choices_178 ?_
    refine lv_iconst (v := 1) hx hb dX8_choices_181 (by decide) ?_
    refine r_iastN (t := d) hx hb hK hs (34) (by omega) (md34 hM) (rfl) (by omega) (by omega) dX8_choices_182 (fun H locs en_2 hen_2 hs => ?_)
    obtain ⟨c_4, ec_4⟩ : ∃ z, z = cU c 34 (d) (1) := ⟨_, rfl⟩
    have hM_3 : MdW G n ad en_2 ss ns c_4 (nI u) 0 (nI d) cl := md_ar (f := upd (c 34) (d) (1)) hM 34 (by decide) (by decide) hen_2 ec_4
    have fr_5 : ∀ k, k < 22 → en_2 k = en k := fun k hk => Eq.trans (by rw [hen_2]; exact va_up_ne _ _ (by omega)) (fr0 k hk)
    have hR_6 : RowM c_4 d Γ := by rw [ec_4]; exact row_cU hR (by decide)
    refine lv_aload_n hx hb dX8_choices_183 rfl (lv_at hl 0 rfl) ?_
    refine lv_aload_n hx hb dX8_choices_184 rfl (lv_at hl 0 rfl) ?_
    refine r_get (ci := 8) (v := .ref (ad 32)) (C := RX8) (T := TX8) (N := 31) hx hb hts inlX8 hown hK hs (22) (by omega) (md22 hM_3) rfl 13 (by decide) (hts _ w_fl_RX8_39) rfl dX8_choices_185 ?_
    refine lv_aload_n hx hb dX8_choices_188 rfl (lv_at hl 0 rfl) ?_
    refine r_get (ci := 8) (v := .int (nI d)) (C := RX8) (T := TX8) (N := 31) hx hb hts inlX8 hown hK hs (22) (by omega) (md22 hM_3) rfl 17 (by decide) (hts _ w_fl_RX8_109) rfl dX8_choices_189 ?_
    refine r_ialdN (t := d) hx hb hK hs (32) (by omega) (md32 hM_3) (rfl) (by omega) (by omega) dX8_choices_192 ?_
    refine r_topi (y := nI goal) (by rw [ec_4, cU_o (by omega)]; exact hwa) ?_
    refine lv_iconst (v := 3) hx hb dX8_choices_193 (by decide) ?_
    refine r_callViR (ci := 8) (As := [.int (nI goal), .int (3)]) hx hb hml hown hts hK hA hs (22) (by omega) (md22 hM_3) rfl rfl (c_X8_isA l G hM_3 (f := goal) (so := 3) (by omega) (by decide)) (cwV 2 hts (tbV w_ml_RX8_122 w_im_yX8_isA w_se_yX8_isA w_ini_RX8 w_cd_yX8_isA) rfl rfl rfl (by decide +kernel) ⟨Nat.le_of_ble_eq_true rfl, Nat.le_of_ble_eq_true rfl⟩) rfl hl.1 rfl (Nat.le_of_ble_eq_true rfl) dX8_choices_194 ⟨Nat.zero_le _, Nat.zero_le _⟩ (fun H locs hs => ?_)
    refine lv_istore (lv' := [(4, .int (b2i (isK ss goal 3))), (0, .ref (ad 22)), (1, .int (nI s)), (2, .int (nI p)), (3, .int (nI fu))]) hx hb dX8_choices_197 hl (by decide) rfl (fun ls hl => ?_)
    refine lv_iload hx hb dX8_choices_199 (lv_at hl 0 rfl) ?_
    refine lv_if_eq (tgt := 297) hx hb dX8_choices_201 (by decide) (fun c201 => absurd c201 (by rw [show isK ss goal 3 = true from decide_eq_true ⟨hg.1, hs3g⟩]; decide)) (fun _ => ?_)
    refine lv_aload_n hx hb dX8_choices_204 rfl (lv_at hl 1 rfl) ?_
    refine r_get (ci := 8) (v := .ref (ad 35)) (C := RX8) (T := TX8) (N := 31) hx hb hts inlX8 hown hK hs (22) (by omega) (md22 hM_3) rfl 16 (by decide) (hts _ w_fl_RX8_48) rfl dX8_choices_205 ?_
    refine lv_aload_n hx hb dX8_choices_208 rfl (lv_at hl 1 rfl) ?_
    refine r_get (ci := 8) (v := .int (nI d)) (C := RX8) (T := TX8) (N := 31) hx hb hts inlX8 hown hK hs (22) (by omega) (md22 hM_3) rfl 17 (by decide) (hts _ w_fl_RX8_109) rfl dX8_choices_209 ?_
    refine r_ialdN (t := d) hx hb hK hs (35) (by omega) (md35 hM_3) (rfl) (by omega) (by omega) dX8_choices_212 ?_
    refine r_topi (y := (-2)) (by rw [ec_4, cU_o (by omega)]; exact hxv) ?_
    refine lv_bipush (v := (-2)) hx hb dX8_choices_213 (by decide) ?_
    refine lv_icmp_le (tgt := 297) hx hb dX8_choices_215 (by decide) (fun _ => ?_) (fun c215 => absurd (by decide) c215)
    refine lv_aload_n hx hb dX8_choices_297 rfl (lv_at hl 1 rfl) ?_
    refine r_get (ci := 8) (v := .ref (ad 35)) (C := RX8) (T := TX8) (N := 31) hx hb hts inlX8 hown hK hs (22) (by omega) (md22 hM_3) rfl 16 (by decide) (hts _ w_fl_RX8_48) rfl dX8_choices_298 ?_
    refine lv_aload_n hx hb dX8_choices_301 rfl (lv_at hl 1 rfl) ?_
    refine r_get (ci := 8) (v := .int (nI d)) (C := RX8) (T := TX8) (N := 31) hx hb hts inlX8 hown hK hs (22) (by omega) (md22 hM_3) rfl 17 (by decide) (hts _ w_fl_RX8_109) rfl dX8_choices_302 ?_
    refine r_ialdN (t := d) hx hb hK hs (35) (by omega) (md35 hM_3) (rfl) (by omega) (by omega) dX8_choices_305 ?_
    refine r_topi (y := (-2)) (by rw [ec_4, cU_o (by omega)]; exact hxv) ?_
    refine lv_if_ge (tgt := 313) hx hb dX8_choices_306 (by decide) (fun c306 => absurd c306 (by decide)) (fun _ => ?_)
    refine lv_iconst (v := 1) hx hb dX8_choices_309 (by decide) ?_
    refine lv_goto (tgt := 324) hx hb dX8_choices_310 (by decide) ?_
    refine r_topi (y := nI (0 + 1)) (by decide) ?_
    refine lv_istore (lv' := [(5, .int (nI (0 + 1))), (4, .int (b2i (isK ss goal 3))), (0, .ref (ad 22)), (1, .int (nI s)), (2, .int (nI p)), (3, .int (nI fu))]) hx hb dX8_choices_324 hl (by decide) rfl (fun ls hl => ?_)
    suffices LOOP326 : ∀ (fu326 : Nat) (f : Nat) (H : Heap) (locs : List Loc) (ls : Array Slot), (0 < f ∧ f ≤ 601) → (∀ y, 0 < y → y < f → (Γ y && kindS ss 9 y) = false) → 602 - f < fu326 → rS G A sS.heap (n) ad en_2 H locs → lv_has ls 8 [(0, .ref (ad 22)), (1, .int (nI s)), (2, .int (nI p)), (3, .int (nI fu)), (5, .int (nI f))] → W pP l eE (rRm (3) (71) (0) (0)) sS mM aA bB tT cC H locs (0) (0) Q (F0 mM 326 ls []) from LOOP326 _ (0 + 1) _ _ _ (by omega) (fun y p q => by omega) (Nat.lt_succ_self _) hs (lv_sub hl [2, 3, 4, 5, 0] rfl)
    intro fu326
    induction fu326 with
    | zero => intro f H locs ls hf hno hfu; exact absurd hfu (Nat.not_lt_zero _)
    | succ fu326 ih326 => ?_
    intro f H locs ls hf hno hfu326 hs hl
    refine lv_iload hx hb dX8_choices_326 (lv_at hl 4 rfl) ?_
    refine lv_aload_n hx hb dX8_choices_328 rfl (lv_at hl 0 rfl) ?_
    refine r_get (ci := 8) (v := .int (nI ss.length)) (C := RX8) (T := TX8) (N := 31) hx hb hts inlX8 hown hK hs (22) (by omega) (md22 hM_3) rfl 3 (by decide) (hts _ w_fl_RX8_88) rfl dX8_choices_329 ?_
    refine lv_icmp_gt (tgt := 380) hx hb dX8_choices_332 (by decide) (fun c332 => ?_) (fun c332 => ?_)
    · skip
      have hfl : ¬ f ≤ ss.length := by have := (nI_ltI (by omega) (by omega)).mp c332; omega
      have hln : lstK ss Γ 9 0 = 0 := lst_noneA (by omega) (fun y hy => if q : y < f then hno y hy q else by
        cases z : Γ y with
        | false => rfl
        | true => have := hΓ y z; omega)
      have hwz : w1 = 0 := by rw [hw1, nsW, hln, if_neg (fun q => q rfl)]
      refine lv_iload hx hb dX8_choices_380 (lv_at hl 4 rfl) ?_
      refine lv_aload_n hx hb dX8_choices_382 rfl (lv_at hl 0 rfl) ?_
      refine r_get (ci := 8) (v := .int (nI ss.length)) (C := RX8) (T := TX8) (N := 31) hx hb hts inlX8 hown hK hs (22) (by omega) (md22 hM_3) rfl 3 (by decide) (hts _ w_fl_RX8_88) rfl dX8_choices_383 ?_
      refine lv_icmp_le (tgt := 395) hx hb dX8_choices_386 (by decide) (fun c386 => absurd c386 (fun q => by have := (nI_leI (by omega) (by omega)).mp q; omega)) (fun _ => ?_)
      refine lv_aload_n hx hb dX8_choices_389 rfl (lv_at hl 0 rfl) ?_
      refine lv_iconst (v := 0) hx hb dX8_choices_390 (by decide) ?_
      obtain ⟨d0, hd0⟩ : ∃ d0, d = d0 + 1 := ⟨d - 1, by omega⟩
      subst hd0
      refine r_callVv (ci := 8) (As := [.int (0)]) hx hb hml hown hts hK hA hs (22) (by omega) (md22 hM_3) rfl rfl (c_X8_close l G hM_3 (d := d0) false (by omega)) (cwV 1 hts (tbV w_ml_RX8_151 w_im_yX8_close w_se_yX8_close w_ini_RX8 w_cd_yX8_close) rfl rfl rfl (by decide +kernel) ⟨Nat.le_of_ble_eq_true rfl, Nat.le_of_ble_eq_true rfl⟩) rfl hl.1 rfl (Nat.le_of_ble_eq_true rfl) dX8_choices_391 ⟨Nat.le_refl _, Nat.le_refl _⟩ (fun ad_7 en_8 H locs hp_9 hs => ?_)
      obtain ⟨⟨hAm_10, hFm_10⟩, hMm_10⟩ := hp_9
      subst hAm_10
      have fr_11 : ∀ k, k < 22 → en_8 k = en k := fun k hk => Eq.trans (hFm_10 k hk) (fr_5 k hk)
      refine r_vret (mc := 0) (ms := 0) hx hb hr hlk hs (Nat.le_refl _) (Nat.le_refl _) dX8_choices_394 hQ ?_
      exact ⟨⟨rfl, fr_11⟩, fun _ => ⟨c_4, hMm_10, fun r t h => by rw [ec_4, cU_o (by omega)]⟩, fun q => absurd hwz q⟩
    · skip
      have hfl : f ≤ ss.length := Nat.le_of_not_lt (fun q => c332 ((nI_ltI (by omega) (by omega)).mpr q))
      have hLf := sLR_lt hok f
      refine lv_aload_n hx hb dX8_choices_335 rfl (lv_at hl 0 rfl) ?_
      refine lv_aload_n hx hb dX8_choices_336 rfl (lv_at hl 0 rfl) ?_
      refine r_get (ci := 8) (v := .int (nI d)) (C := RX8) (T := TX8) (N := 31) hx hb hts inlX8 hown hK hs (22) (by omega) (md22 hM_3) rfl 17 (by decide) (hts _ w_fl_RX8_109) rfl dX8_choices_337 ?_
      refine lv_iload hx hb dX8_choices_340 (lv_at hl 4 rfl) ?_
      refine r_callViR (ci := 8) (As := [.int (nI d), .int (nI f)]) hx hb hml hown hts hK hA hs (22) (by omega) (md22 hM_3) rfl rfl (c_X8_has l G hM_3 (d := d) (f := f) (by omega) (by omega) hR_6 hΓ) (cwV 2 hts (tbV w_ml_RX8_118 w_im_yX8_has w_se_yX8_has w_ini_RX8 w_cd_yX8_has) rfl rfl rfl (by decide +kernel) ⟨Nat.le_of_ble_eq_true rfl, Nat.le_of_ble_eq_true rfl⟩) rfl hl.1 rfl (Nat.le_of_ble_eq_true rfl) dX8_choices_342 ⟨Nat.zero_le _, Nat.zero_le _⟩ (fun H locs hs => ?_)
      refine lv_if_eq (tgt := 374) hx hb dX8_choices_345 (by decide) (fun c345 => ?_) (fun c345 => ?_)
      · skip
        refine lv_iinc (v := nI (f + 1)) (lv' := [(5, .int (nI (f + 1))), (0, .ref (ad 22)), (1, .int (nI s)), (2, .int (nI p)), (3, .int (nI fu))]) hx hb dX8_choices_374 hl (k := 4) rfl (nI_add f 1) (by decide) rfl (fun ls hl => ?_)
        refine lv_goto (tgt := 326) hx hb dX8_choices_377 (by decide) ?_
        exact ih326 (f + 1) _ _ _ (by omega) (nst_next hno ((nst_v hok ⟨by omega, hfl⟩).trans (by rw [b2i_0 c345]; rfl))) (by omega) hs (lv_sub hl [1, 2, 3, 4, 0] rfl)
      · skip
        refine lv_aload_n hx hb dX8_choices_348 rfl (lv_at hl 0 rfl) ?_
        refine r_get (ci := 8) (v := .ref (ad 23)) (C := RX8) (T := TX8) (N := 31) hx hb hts inlX8 hown hK hs (22) (by omega) (md22 hM_3) rfl 0 (by decide) (hts _ w_fl_RX8_7) rfl dX8_choices_349 ?_
        refine lv_iload hx hb dX8_choices_352 (lv_at hl 4 rfl) ?_
        refine r_ialdN (t := f) hx hb hK hs (23) (by omega) (md23 hM_3) (rfl) (by omega) (by omega) dX8_choices_354 ?_
        refine r_topi (y := nI (sSort ss (f))) rfl ?_
        refine lv_iconst (v := 4) hx hb dX8_choices_355 (by decide) ?_
        refine lv_icmp_ne (tgt := 374) hx hb dX8_choices_356 (by decide) (fun c356 => ?_) (fun c356 => ?_)
        · skip
          refine lv_iinc (v := nI (f + 1)) (lv' := [(5, .int (nI (f + 1))), (0, .ref (ad 22)), (1, .int (nI s)), (2, .int (nI p)), (3, .int (nI fu))]) hx hb dX8_choices_374 hl (k := 4) rfl (nI_add f 1) (by decide) rfl (fun ls hl => ?_)
          refine lv_goto (tgt := 326) hx hb dX8_choices_377 (by decide) ?_
          exact ih326 (f + 1) _ _ _ (by omega) (nst_next hno ((nst_v hok ⟨by omega, hfl⟩).trans (by rw [decide_eq_false (fun q => c356 (by rw [q]; rfl)), Bool.false_and, Bool.and_false]))) (by omega) hs (lv_sub hl [1, 2, 3, 4, 0] rfl)
        · skip
          refine lv_aload_n hx hb dX8_choices_359 rfl (lv_at hl 0 rfl) ?_
          refine lv_aload_n hx hb dX8_choices_360 rfl (lv_at hl 0 rfl) ?_
          refine r_get (ci := 8) (v := .ref (ad 24)) (C := RX8) (T := TX8) (N := 31) hx hb hts inlX8 hown hK hs (22) (by omega) (md22 hM_3) rfl 1 (by decide) (hts _ w_fl_RX8_13) rfl dX8_choices_361 ?_
          refine lv_iload hx hb dX8_choices_364 (lv_at hl 4 rfl) ?_
          refine r_ialdN (t := f) hx hb hK hs (24) (by omega) (md24 hM_3) (rfl) (by omega) (by omega) dX8_choices_366 ?_
          refine r_topi (y := nI (sL ss (f))) rfl ?_
          refine lv_iconst (v := 4) hx hb dX8_choices_367 (by decide) ?_
          refine r_callViR (ci := 8) (As := [.int (nI (sL ss (f))), .int (4)]) hx hb hml hown hts hK hA hs (22) (by omega) (md22 hM_3) rfl rfl (c_X8_isA l G hM_3 (f := (sL ss (f))) (so := 4) (by omega) (by decide)) (cwV 2 hts (tbV w_ml_RX8_122 w_im_yX8_isA w_se_yX8_isA w_ini_RX8 w_cd_yX8_isA) rfl rfl rfl (by decide +kernel) ⟨Nat.le_of_ble_eq_true rfl, Nat.le_of_ble_eq_true rfl⟩) rfl hl.1 rfl (Nat.le_of_ble_eq_true rfl) dX8_choices_368 ⟨Nat.zero_le _, Nat.zero_le _⟩ (fun H locs hs => ?_)
          refine lv_if_ne (tgt := 380) hx hb dX8_choices_371 (by decide) (fun c371 => ?_) (fun c371 => ?_)
          · skip
            have hcase : True ∧ f ≤ ss.length ∧ (Γ f && kindS ss 9 f) = true := ⟨trivial, hfl, (nst_v hok ⟨by omega, hfl⟩).trans (by rw [b2i_1 c345, decide_eq_true (sq hok c356), b2i_1 c371]; rfl)⟩
            refine lv_iload hx hb dX8_choices_380 (lv_at hl 4 rfl) ?_
            refine lv_aload_n hx hb dX8_choices_382 rfl (lv_at hl 0 rfl) ?_
            refine r_get (ci := 8) (v := .int (nI ss.length)) (C := RX8) (T := TX8) (N := 31) hx hb hts inlX8 hown hK hs (22) (by omega) (md22 hM_3) rfl 3 (by decide) (hts _ w_fl_RX8_88) rfl dX8_choices_383 ?_
            refine lv_icmp_le (tgt := 395) hx hb dX8_choices_386 (by decide) (fun _ => ?_) (fun c386 => absurd (nI_le hfl (by omega)) c386)
            obtain ⟨g9, g7, g8⟩ := hcase
            have hfl : f ≤ ss.length := g7
            have hfr : 1 ≤ f ∧ f ≤ ss.length := ⟨by omega, hfl⟩
            have hln : lstK ss Γ 9 0 = f := lst_hitA hf.1 (by omega) g8 hno
            have hwn : w1 = 16 * f + 13 := by rw [hw1, nsW, hln, if_pos (by omega)]
            have hwy : wyOK ss Γ goal 13 f := by
              have q := nsW_ok hok Γ goal (a := 0) (by omega)
              rw [← hw1, hwn] at q
              rcases q with q | ⟨r, f2, e1, e2, e3⟩
              · omega
              · have e4 := wy_r e3
                have e5 : r = 13 := by omega
                subst e5
                have e6 : f2 = f := by omega
                subst e6
                exact e3
            have hs4 : sSort ss f = 4 ∧ sSort ss (sL ss f) = 4 := by unfold wyOK at hwy; omega
            obtain ⟨hpl, hpr⟩ := parts_of hok hfr (by omega)
            obtain ⟨hpc, hpd⟩ := parts_of hok hpl (by omega)
            refine lv_aload_n hx hb dX8_choices_395 rfl (lv_at hl 0 rfl) ?_
            refine r_get (ci := 8) (v := .ref (ad 35)) (C := RX8) (T := TX8) (N := 31) hx hb hts inlX8 hown hK hs (22) (by omega) (md22 hM_3) rfl 16 (by decide) (hts _ w_fl_RX8_48) rfl dX8_choices_396 ?_
            refine lv_aload_n hx hb dX8_choices_399 rfl (lv_at hl 0 rfl) ?_
            refine r_get (ci := 8) (v := .int (nI d)) (C := RX8) (T := TX8) (N := 31) hx hb hts inlX8 hown hK hs (22) (by omega) (md22 hM_3) rfl 17 (by decide) (hts _ w_fl_RX8_109) rfl dX8_choices_400 ?_
            refine lv_iload hx hb dX8_choices_403 (lv_at hl 4 rfl) ?_
            refine r_iastN (t := d) hx hb hK hs (35) (by omega) (md35 hM_3) (rfl) (by omega) (by omega) dX8_choices_405 (fun H locs en_13 hen_13 hs => ?_)
            obtain ⟨c_15, ec_15⟩ : ∃ z, z = cU c_4 35 (d) (nI f) := ⟨_, rfl⟩
            have hM_14 : MdW G n ad en_13 ss ns c_15 (nI u) 0 (nI d) cl := md_ar (f := upd (c_4 35) (d) (nI f)) hM_3 35 (by decide) (by decide) hen_13 ec_15
            have fr_16 : ∀ k, k < 22 → en_13 k = en k := fun k hk => Eq.trans (by rw [hen_13]; exact va_up_ne _ _ (by omega)) (fr_5 k hk)
            have hR_17 : RowM c_15 d Γ := by rw [ec_15]; exact row_cU hR_6 (by decide)
            refine lv_aload_n hx hb dX8_choices_406 rfl (lv_at hl 0 rfl) ?_
            refine r_get (ci := 8) (v := .ref (ad 24)) (C := RX8) (T := TX8) (N := 31) hx hb hts inlX8 hown hK hs (22) (by omega) (md22 hM_14) rfl 1 (by decide) (hts _ w_fl_RX8_13) rfl dX8_choices_407 ?_
            refine lv_iload hx hb dX8_choices_410 (lv_at hl 4 rfl) ?_
            refine r_ialdN (t := f) hx hb hK hs (24) (by omega) (md24 hM_14) (rfl) (by omega) (by omega) dX8_choices_412 ?_
            refine r_topi (y := nI (sL ss (f))) rfl ?_
            refine lv_istore (lv' := [(6, .int (nI (sL ss (f)))), (0, .ref (ad 22)), (1, .int (nI s)), (2, .int (nI p)), (3, .int (nI fu)), (5, .int (nI f))]) hx hb dX8_choices_413 hl (by decide) rfl (fun ls hl => ?_)
            refine lv_aload_n hx hb dX8_choices_415 rfl (lv_at hl 1 rfl) ?_
            refine lv_aload_n hx hb dX8_choices_416 rfl (lv_at hl 1 rfl) ?_
            refine r_get (ci := 8) (v := .ref (ad 25)) (C := RX8) (T := TX8) (N := 31) hx hb hts inlX8 hown hK hs (22) (by omega) (md22 hM_14) rfl 2 (by decide) (hts _ w_fl_RX8_16) rfl dX8_choices_417 ?_
            refine lv_iload hx hb dX8_choices_420 (lv_at hl 0 rfl) ?_
            refine r_ialdN (t := sL ss (f)) hx hb hK hs (25) (by omega) (md25 hM_14) (rfl) (by omega) (by omega) dX8_choices_422 ?_
            refine r_topi (y := nI (sR ss (sL ss (f)))) rfl ?_
            refine lv_aload_n hx hb dX8_choices_423 rfl (lv_at hl 1 rfl) ?_
            refine r_get (ci := 8) (v := .ref (ad 25)) (C := RX8) (T := TX8) (N := 31) hx hb hts inlX8 hown hK hs (22) (by omega) (md22 hM_14) rfl 2 (by decide) (hts _ w_fl_RX8_16) rfl dX8_choices_424 ?_
            refine lv_iload hx hb dX8_choices_427 (lv_at hl 5 rfl) ?_
            refine r_ialdN (t := f) hx hb hK hs (25) (by omega) (md25 hM_14) (rfl) (by omega) (by omega) dX8_choices_429 ?_
            refine r_topi (y := nI (sR ss (f))) rfl ?_
            refine r_callVi (ci := 8) (As := [.int (nI (sR ss (sL ss (f)))), .int (nI (sR ss (f)))]) hx hb hml hown hts hK hA hs (22) (by omega) (md22 hM_14) rfl rfl (c_X8_implication l G hM_14 (a := (sR ss (sL ss f))) (b := (sR ss f)) (hpd) (hpr)) (cwV 2 hts (tbV w_ml_RX8_141 w_im_yX8_implication w_se_yX8_implication w_ini_RX8 w_cd_yX8_implication) rfl rfl rfl (by decide +kernel) ⟨Nat.le_of_ble_eq_true rfl, Nat.le_of_ble_eq_true rfl⟩) rfl hl.1 rfl (Nat.le_of_ble_eq_true rfl) dX8_choices_430 ⟨Nat.le_refl _, Nat.le_refl _⟩ (fun r_21 ad_18 en_19 H locs hp_20 hs => ?_)
            obtain ⟨⟨hAm_22, hFm_22⟩, hrm_22, hMm_22⟩ := hp_20
            subst hAm_22
            rw [hrm_22]
            have fr_23 : ∀ k, k < 22 → en_19 k = en k := fun k hk => Eq.trans (hFm_22 k hk) (fr_16 k hk)
            obtain ⟨⟨y1, ey1⟩, hokb, hvv⟩ := imp_ok hok (a := (sR ss (sL ss f))) (b := (sR ss f)) hpd hpr
            have h6b := hokb.1
            have hle1 : ss.length ≤ (impT ss (sR ss (sL ss f)) (sR ss f)).length := by rw [ey1]; simp
            have hB1 := ey1
            rcases hq1 : impS ss (sR ss (sL ss f)) (sR ss f) with _ | i1
            · skip
              have hMm_22n : MdW G n ad en_19 ((impT ss (sR ss (sL ss f)) (sR ss f))) ns c_15 (nI u) ((-3)) (nI d) cl := by have q := hMm_22; rw [hq1] at q; exact q
              refine r_topi (y := nI 0) rfl ?_
              have hBn : brg ss 13 1 f = (none, impT ss (sR ss (sL ss f)) (sR ss f)) := brg13n rfl rfl rfl ⟨rfl, rfl⟩ hq1
              refine lv_istore (lv' := [(7, .int (nI 0)), (6, .int (nI (sL ss (f)))), (0, .ref (ad 22)), (1, .int (nI s)), (2, .int (nI p)), (3, .int (nI fu)), (5, .int (nI f))]) hx hb dX8_choices_433 hl (by decide) rfl (fun ls hl => ?_)
              refine lv_aload_n hx hb dX8_choices_435 rfl (lv_at hl 2 rfl) ?_
              refine lv_iload hx hb dX8_choices_436 (lv_at hl 1 rfl) ?_
              refine r_callVv (ci := 8) (As := [.int (nI (sL ss (f)))]) hx hb hml hown hts hK hA hs (22) (by omega) (md22 hMm_22n) rfl rfl (c_X8_open l G hMm_22n (gl := (sL ss (f))) (by omega) hR_17) (cwV 1 hts (tbV w_ml_RX8_133 w_im_yX8_open w_se_yX8_open w_ini_RX8 w_cd_yX8_open) rfl rfl rfl (by decide +kernel) ⟨Nat.le_of_ble_eq_true rfl, Nat.le_of_ble_eq_true rfl⟩) rfl hl.1 rfl (Nat.le_of_ble_eq_true rfl) dX8_choices_438 ⟨Nat.le_refl _, Nat.le_refl _⟩ (fun ad_25 en_26 H locs hp_27 hs => ?_)
              obtain ⟨c_24, ec_24⟩ : ∃ z, z = cOpn c_15 d (nI (sL ss (f))) := ⟨_, rfl⟩
              rw [← ec_24] at hp_27
              obtain ⟨⟨hAm_28, hFm_28⟩, hMm_28⟩ := hp_27
              subst hAm_28
              have fr_29 : ∀ k, k < 22 → en_26 k = en k := fun k hk => Eq.trans (hFm_28 k hk) (fr_23 k hk)
              have hRn_c_24 : RowM c_24 (d + 1) Γ := by rw [ec_24]; exact opn_row hR_17
              refine lv_aload_n hx hb dX8_choices_441 rfl (lv_at hl 2 rfl) ?_
              refine lv_aload_n hx hb dX8_choices_442 rfl (lv_at hl 2 rfl) ?_
              refine r_get (ci := 8) (v := .int (nI d)) (C := RX8) (T := TX8) (N := 31) hx hb hts inlX8 hown hK hs (22) (by omega) (md22 hMm_28) rfl 17 (by decide) (hts _ w_fl_RX8_109) rfl dX8_choices_443 ?_
              refine lv_iconst (v := 1) hx hb dX8_choices_446 (by decide) ?_
              refine lv_iadd hx hb dX8_choices_447 ?_
              refine r_topi (y := nI (d + 1)) (nI_add _ _) ?_
              refine lv_iload hx hb dX8_choices_448 (lv_at hl 6 rfl) ?_
              refine lv_iconst (v := 0) hx hb dX8_choices_450 (by decide) ?_
              refine r_callVv (ci := 8) (As := [.int (nI (d + 1)), .int (nI f), .int (0)]) hx hb hml hown hts hK hA hs (22) (by omega) (md22 hMm_28) rfl rfl (c_X8_set l G hMm_28 (d := (d + 1)) (f := f) (by omega) (by omega) false) (cwV 3 hts (tbV w_ml_RX8_137 w_im_yX8_set w_se_yX8_set w_ini_RX8 w_cd_yX8_set) rfl rfl rfl (by decide +kernel) ⟨Nat.le_of_ble_eq_true rfl, Nat.le_of_ble_eq_true rfl⟩) rfl hl.1 rfl (Nat.le_of_ble_eq_true rfl) dX8_choices_451 ⟨Nat.le_refl _, Nat.le_refl _⟩ (fun ad_31 en_32 H locs hp_33 hs => ?_)
              obtain ⟨c_30, ec_30⟩ : ∃ z, z = cSet c_24 (d + 1) f false := ⟨_, rfl⟩
              rw [← ec_30] at hp_33
              obtain ⟨⟨hAm_34, hFm_34⟩, hMm_34⟩ := hp_33
              subst hAm_34
              have fr_35 : ∀ k, k < 22 → en_32 k = en k := fun k hk => Eq.trans (hFm_34 k hk) (fr_29 k hk)
              have hRn_c_30 : RowM c_30 (d + 1) (gDel Γ f) := by rw [ec_30]; exact row_del hRn_c_24 (by omega)
              refine lv_aload_n hx hb dX8_choices_454 rfl (lv_at hl 2 rfl) ?_
              refine lv_aload_n hx hb dX8_choices_455 rfl (lv_at hl 2 rfl) ?_
              refine r_get (ci := 8) (v := .int (nI d)) (C := RX8) (T := TX8) (N := 31) hx hb hts inlX8 hown hK hs (22) (by omega) (md22 hMm_34) rfl 17 (by decide) (hts _ w_fl_RX8_109) rfl dX8_choices_456 ?_
              refine lv_iconst (v := 1) hx hb dX8_choices_459 (by decide) ?_
              refine lv_iadd hx hb dX8_choices_460 ?_
              refine r_topi (y := nI (d + 1)) (nI_add _ _) ?_
              refine lv_iload hx hb dX8_choices_461 (lv_at hl 0 rfl) ?_
              refine lv_iconst (v := 1) hx hb dX8_choices_463 (by decide) ?_
              refine r_callVv (ci := 8) (As := [.int (nI (d + 1)), .int (nI 0), .int (1)]) hx hb hml hown hts hK hA hs (22) (by omega) (md22 hMm_34) rfl rfl (c_X8_set l G hMm_34 (d := (d + 1)) (f := 0) (by omega) (by omega) true) (cwV 3 hts (tbV w_ml_RX8_137 w_im_yX8_set w_se_yX8_set w_ini_RX8 w_cd_yX8_set) rfl rfl rfl (by decide +kernel) ⟨Nat.le_of_ble_eq_true rfl, Nat.le_of_ble_eq_true rfl⟩) rfl hl.1 rfl (Nat.le_of_ble_eq_true rfl) dX8_choices_464 ⟨Nat.le_refl _, Nat.le_refl _⟩ (fun ad_37 en_38 H locs hp_39 hs => ?_)
              obtain ⟨c_36, ec_36⟩ : ∃ z, z = cSet c_30 (d + 1) 0 true := ⟨_, rfl⟩
              rw [← ec_36] at hp_39
              obtain ⟨⟨hAm_40, hFm_40⟩, hMm_40⟩ := hp_39
              subst hAm_40
              have fr_41 : ∀ k, k < 22 → en_38 k = en k := fun k hk => Eq.trans (hFm_40 k hk) (fr_35 k hk)
              have hRn_c_36 : RowM c_36 (d + 1) (gAdd (gDel Γ f) 0) := by rw [ec_36]; exact row_add hRn_c_30 (by omega)
              refine lv_aload_n hx hb dX8_choices_467 rfl (lv_at hl 2 rfl) ?_
              refine lv_iload_n hx hb dX8_choices_468 rfl (lv_at hl 5 rfl) ?_
              refine r_callVvR (ci := 8) (As := [.int (nI fu)]) hx hb hml hown hts hK hA hs (22) (by omega) (md22 hMm_40) rfl rfl (c_X8_enter_x l G hMm_40 (nI fu) (by decide)) (cwV 1 hts (tbV w_ml_RX8_158 w_im_yX8_enter w_se_yX8_enter w_ini_RX8 w_cd_yX8_enter) rfl rfl rfl (by decide +kernel) ⟨Nat.le_of_ble_eq_true rfl, Nat.le_of_ble_eq_true rfl⟩) rfl hl.1 rfl (Nat.le_of_ble_eq_true rfl) dX8_choices_469 ⟨Nat.zero_le _, Nat.zero_le _⟩ (fun H locs hs => ?_)
              refine r_vret (mc := 0) (ms := 0) hx hb hr hlk hs (Nat.le_refl _) (Nat.le_refl _) dX8_choices_472 hQ ?_
              have hwe : w1 % 16 = 13 ∧ w1 / 16 = f := by rw [hwn]; omega
              refine ⟨⟨rfl, fr_41⟩, fun q => absurd q (by rw [hwn]; omega), fun _ => ⟨c_15, by rw [ec_15, cU_o (by omega), ec_4, cU_s], Eq.trans (by rw [ec_15, cU_s]) (by rw [tW, hwe.1, hwe.2]; rfl), fun r t h => by rw [ec_15, cU_o (by omega), ec_4, cU_o (by omega)], ?_⟩⟩
              rw [hwe.1, hwe.2]
              exact chp_x hBn hMm_40
            · skip
              have hMm_22s : MdW G n ad en_19 ((impT ss (sR ss (sL ss f)) (sR ss f))) ns c_15 (nI u) 0 (nI d) cl := by have q := hMm_22; rw [hq1] at q; exact q
              refine r_topi (y := nI i1) rfl ?_
              have hBs : brg ss 13 1 f = (some (i1, 0), impT ss (sR ss (sL ss f)) (sR ss f)) := brg13t rfl rfl rfl ⟨rfl, rfl⟩ hq1
              have hv1 := hvv i1 hq1
              have hvl1 := hv1.2.1
              refine lv_istore (lv' := [(7, .int (nI i1)), (6, .int (nI (sL ss (f)))), (0, .ref (ad 22)), (1, .int (nI s)), (2, .int (nI p)), (3, .int (nI fu)), (5, .int (nI f))]) hx hb dX8_choices_433 hl (by decide) rfl (fun ls hl => ?_)
              refine lv_aload_n hx hb dX8_choices_435 rfl (lv_at hl 2 rfl) ?_
              refine lv_iload hx hb dX8_choices_436 (lv_at hl 1 rfl) ?_
              refine r_callVv (ci := 8) (As := [.int (nI (sL ss (f)))]) hx hb hml hown hts hK hA hs (22) (by omega) (md22 hMm_22s) rfl rfl (c_X8_open l G hMm_22s (gl := (sL ss (f))) (by omega) hR_17) (cwV 1 hts (tbV w_ml_RX8_133 w_im_yX8_open w_se_yX8_open w_ini_RX8 w_cd_yX8_open) rfl rfl rfl (by decide +kernel) ⟨Nat.le_of_ble_eq_true rfl, Nat.le_of_ble_eq_true rfl⟩) rfl hl.1 rfl (Nat.le_of_ble_eq_true rfl) dX8_choices_438 ⟨Nat.le_refl _, Nat.le_refl _⟩ (fun ad_43 en_44 H locs hp_45 hs => ?_)
              obtain ⟨c_42, ec_42⟩ : ∃ z, z = cOpn c_15 d (nI (sL ss (f))) := ⟨_, rfl⟩
              rw [← ec_42] at hp_45
              obtain ⟨⟨hAm_46, hFm_46⟩, hMm_46⟩ := hp_45
              subst hAm_46
              have fr_47 : ∀ k, k < 22 → en_44 k = en k := fun k hk => Eq.trans (hFm_46 k hk) (fr_23 k hk)
              have hRn_c_42 : RowM c_42 (d + 1) Γ := by rw [ec_42]; exact opn_row hR_17
              refine lv_aload_n hx hb dX8_choices_441 rfl (lv_at hl 2 rfl) ?_
              refine lv_aload_n hx hb dX8_choices_442 rfl (lv_at hl 2 rfl) ?_
              refine r_get (ci := 8) (v := .int (nI d)) (C := RX8) (T := TX8) (N := 31) hx hb hts inlX8 hown hK hs (22) (by omega) (md22 hMm_46) rfl 17 (by decide) (hts _ w_fl_RX8_109) rfl dX8_choices_443 ?_
              refine lv_iconst (v := 1) hx hb dX8_choices_446 (by decide) ?_
              refine lv_iadd hx hb dX8_choices_447 ?_
              refine r_topi (y := nI (d + 1)) (nI_add _ _) ?_
              refine lv_iload hx hb dX8_choices_448 (lv_at hl 6 rfl) ?_
              refine lv_iconst (v := 0) hx hb dX8_choices_450 (by decide) ?_
              refine r_callVv (ci := 8) (As := [.int (nI (d + 1)), .int (nI f), .int (0)]) hx hb hml hown hts hK hA hs (22) (by omega) (md22 hMm_46) rfl rfl (c_X8_set l G hMm_46 (d := (d + 1)) (f := f) (by omega) (by omega) false) (cwV 3 hts (tbV w_ml_RX8_137 w_im_yX8_set w_se_yX8_set w_ini_RX8 w_cd_yX8_set) rfl rfl rfl (by decide +kernel) ⟨Nat.le_of_ble_eq_true rfl, Nat.le_of_ble_eq_true rfl⟩) rfl hl.1 rfl (Nat.le_of_ble_eq_true rfl) dX8_choices_451 ⟨Nat.le_refl _, Nat.le_refl _⟩ (fun ad_49 en_50 H locs hp_51 hs => ?_)
              obtain ⟨c_48, ec_48⟩ : ∃ z, z = cSet c_42 (d + 1) f false := ⟨_, rfl⟩
              rw [← ec_48] at hp_51
              obtain ⟨⟨hAm_52, hFm_52⟩, hMm_52⟩ := hp_51
              subst hAm_52
              have fr_53 : ∀ k, k < 22 → en_50 k = en k := fun k hk => Eq.trans (hFm_52 k hk) (fr_47 k hk)
              have hRn_c_48 : RowM c_48 (d + 1) (gDel Γ f) := by rw [ec_48]; exact row_del hRn_c_42 (by omega)
              refine lv_aload_n hx hb dX8_choices_454 rfl (lv_at hl 2 rfl) ?_
              refine lv_aload_n hx hb dX8_choices_455 rfl (lv_at hl 2 rfl) ?_
              refine r_get (ci := 8) (v := .int (nI d)) (C := RX8) (T := TX8) (N := 31) hx hb hts inlX8 hown hK hs (22) (by omega) (md22 hMm_52) rfl 17 (by decide) (hts _ w_fl_RX8_109) rfl dX8_choices_456 ?_
              refine lv_iconst (v := 1) hx hb dX8_choices_459 (by decide) ?_
              refine lv_iadd hx hb dX8_choices_460 ?_
              refine r_topi (y := nI (d + 1)) (nI_add _ _) ?_
              refine lv_iload hx hb dX8_choices_461 (lv_at hl 0 rfl) ?_
              refine lv_iconst (v := 1) hx hb dX8_choices_463 (by decide) ?_
              refine r_callVv (ci := 8) (As := [.int (nI (d + 1)), .int (nI i1), .int (1)]) hx hb hml hown hts hK hA hs (22) (by omega) (md22 hMm_52) rfl rfl (c_X8_set l G hMm_52 (d := (d + 1)) (f := i1) (by omega) (by omega) true) (cwV 3 hts (tbV w_ml_RX8_137 w_im_yX8_set w_se_yX8_set w_ini_RX8 w_cd_yX8_set) rfl rfl rfl (by decide +kernel) ⟨Nat.le_of_ble_eq_true rfl, Nat.le_of_ble_eq_true rfl⟩) rfl hl.1 rfl (Nat.le_of_ble_eq_true rfl) dX8_choices_464 ⟨Nat.le_refl _, Nat.le_refl _⟩ (fun ad_55 en_56 H locs hp_57 hs => ?_)
              obtain ⟨c_54, ec_54⟩ : ∃ z, z = cSet c_48 (d + 1) i1 true := ⟨_, rfl⟩
              rw [← ec_54] at hp_57
              obtain ⟨⟨hAm_58, hFm_58⟩, hMm_58⟩ := hp_57
              subst hAm_58
              have fr_59 : ∀ k, k < 22 → en_56 k = en k := fun k hk => Eq.trans (hFm_58 k hk) (fr_53 k hk)
              have hRn_c_54 : RowM c_54 (d + 1) (gAdd (gDel Γ f) i1) := by rw [ec_54]; exact row_add hRn_c_48 (by omega)
              refine lv_aload_n hx hb dX8_choices_467 rfl (lv_at hl 2 rfl) ?_
              refine lv_iload_n hx hb dX8_choices_468 rfl (lv_at hl 5 rfl) ?_
              by_cases hout : d = 80 ∨ u = fu
              · skip
                refine r_callVv (ci := 8) (As := [.int (nI fu)]) hx hb hml hown hts hK hA hs (22) (by omega) (md22 hMm_58) rfl rfl (c_X8_enter_o l G hMm_58 (d := d) (u := u) (fu := fu) (by omega) (by omega) hout) (cwV 1 hts (tbV w_ml_RX8_158 w_im_yX8_enter w_se_yX8_enter w_ini_RX8 w_cd_yX8_enter) rfl rfl rfl (by decide +kernel) ⟨Nat.le_of_ble_eq_true rfl, Nat.le_of_ble_eq_true rfl⟩) rfl hl.1 rfl (Nat.le_of_ble_eq_true rfl) dX8_choices_469 ⟨Nat.le_refl _, Nat.le_refl _⟩ (fun ad_60 en_61 H locs hp_62 hs => ?_)
                obtain ⟨⟨hAm_63, hFm_63⟩, hMm_63⟩ := hp_62
                subst hAm_63
                have fr_64 : ∀ k, k < 22 → en_61 k = en k := fun k hk => Eq.trans (hFm_63 k hk) (fr_59 k hk)
                refine r_vret (mc := 0) (ms := 0) hx hb hr hlk hs (Nat.le_refl _) (Nat.le_refl _) dX8_choices_472 hQ ?_
                have hwe : w1 % 16 = 13 ∧ w1 / 16 = f := by rw [hwn]; omega
                refine ⟨⟨rfl, fr_64⟩, fun q => absurd q (by rw [hwn]; omega), fun _ => ⟨c_15, by rw [ec_15, cU_o (by omega), ec_4, cU_s], Eq.trans (by rw [ec_15, cU_s]) (by rw [tW, hwe.1, hwe.2]; rfl), fun r t h => by rw [ec_15, cU_o (by omega), ec_4, cU_o (by omega)], ?_⟩⟩
                rw [hwe.1, hwe.2]
                exact chp_o hBs hout hMm_63
              · skip
                refine r_callVv (ci := 8) (As := [.int (nI fu)]) hx hb hml hown hts hK hA hs (22) (by omega) (md22 hMm_58) rfl rfl (c_X8_enter_y l G hMm_58 (d := d) (u := u) (fu := fu) (by omega) (by omega)) (cwV 1 hts (tbV w_ml_RX8_158 w_im_yX8_enter w_se_yX8_enter w_ini_RX8 w_cd_yX8_enter) rfl rfl rfl (by decide +kernel) ⟨Nat.le_of_ble_eq_true rfl, Nat.le_of_ble_eq_true rfl⟩) rfl hl.1 rfl (Nat.le_of_ble_eq_true rfl) dX8_choices_469 ⟨Nat.le_refl _, Nat.le_refl _⟩ (fun ad_66 en_67 H locs hp_68 hs => ?_)
                obtain ⟨c_65, ec_65⟩ : ∃ z, z = cEnt c_54 d u := ⟨_, rfl⟩
                rw [← ec_65] at hp_68
                obtain ⟨⟨hAm_69, hFm_69⟩, hMm_69⟩ := hp_68
                subst hAm_69
                have fr_70 : ∀ k, k < 22 → en_67 k = en k := fun k hk => Eq.trans (hFm_69 k hk) (fr_59 k hk)
                refine r_vret (mc := 0) (ms := 0) hx hb hr hlk hs (Nat.le_refl _) (Nat.le_refl _) dX8_choices_472 hQ ?_
                have hwe : w1 % 16 = 13 ∧ w1 / 16 = f := by rw [hwn]; omega
                refine ⟨⟨rfl, fr_70⟩, fun q => absurd q (by rw [hwn]; omega), fun _ => ⟨c_15, by rw [ec_15, cU_o (by omega), ec_4, cU_s], Eq.trans (by rw [ec_15, cU_s]) (by rw [tW, hwe.1, hwe.2]; rfl), fun r t h => by rw [ec_15, cU_o (by omega), ec_4, cU_o (by omega)], ?_⟩⟩
                rw [hwe.1, hwe.2]
                exact chp_y hBs hout (by rw [← ec_65]; exact hMm_69) (fun r t h1 h2 => by rw [ec_54, cSet_o (by omega), ec_48, cSet_o (by omega), ec_42, opn_o (by omega)]) hRn_c_54 (by show _ = gAdd (gAdd (gDel Γ f) i1) 0; rw [gAdd_0]) (by rw [ec_54, cSet_o (Or.inl (by decide)), ec_48, cSet_o (Or.inl (by decide)), ec_42, opn_w]; exact congrArg nI (pn_l hok hB1 hfr.2).symm)
          · skip
            refine lv_iinc (v := nI (f + 1)) (lv' := [(5, .int (nI (f + 1))), (0, .ref (ad 22)), (1, .int (nI s)), (2, .int (nI p)), (3, .int (nI fu))]) hx hb dX8_choices_374 hl (k := 4) rfl (nI_add f 1) (by decide) rfl (fun ls hl => ?_)
            refine lv_goto (tgt := 326) hx hb dX8_choices_377 (by decide) ?_
            exact ih326 (f + 1) _ _ _ (by omega) (nst_next hno ((nst_v hok ⟨by omega, hfl⟩).trans (by rw [b2i_0 c371, Bool.and_false, Bool.and_false]))) (by omega) hs (lv_sub hl [1, 2, 3, 4, 0] rfl)
  refine lv_iload_n hx hb dX8_choices_0 rfl (lv_at hl 2 rfl) ?_
  refine lv_if_le (tgt := 173) hx hb dX8_choices_1 (by decide) (fun c1 => ?_) (fun c1 => ?_)
  · skip
    skip
    exact JOIN173 _ (lv_sub hl [0, 1, 2, 3] rfl)
  · skip
    have hp0 : cl = 0 := hcl.resolve_left (fun q => c1 (by rw [q]; decide))
    refine lv_aload_n hx hb dX8_choices_4 rfl (lv_at hl 0 rfl) ?_
    refine r_get (ci := 8) (v := .int (cl)) (C := RX8) (T := TX8) (N := 31) hx hb hts inlX8 hown hK hs (22) (by omega) (md22 hM) rfl 23 (by decide) (hts _ w_fl_RX8_115) rfl dX8_choices_5 ?_
    refine lv_if_eq (tgt := 173) hx hb dX8_choices_8 (by decide) (fun _ => ?_) (fun c8 => absurd (hp0) c8)
    exact JOIN173 _ (lv_sub hl [0, 1, 2, 3] rfl)

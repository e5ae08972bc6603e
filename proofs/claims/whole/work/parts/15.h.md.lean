theorem gAdd_0 (Γ : Nat → Bool) : gAdd Γ 0 = Γ := by funext y; unfold gAdd; rw [if_neg (by omega)]
theorem gDel_0 (Γ : Nat → Bool) : gDel Γ 0 = Γ := by funext y; unfold gDel; rw [if_neg (by omega)]
def prPost (G : rG) (n : Nat) (ad : Nat → Nat) (en : Nat → va_E) (ns : List Row) (c : Nat → Nat → Int32) (us : Int32) (d : Nat) (cl : Int32) (P : Option (Nat × Nat) × List Row) (Γ1 : Nat × Nat → Nat → Bool) (gl : Nat) : (Nat → Nat) → (Nat → va_E) → Prop := fun ad1 en1 =>
  mFr ad en ad1 en1 ∧ ∃ c1, MdW G n ad en1 P.2 ns c1 us (if P.1.isNone then (-3) else 0) (nI d) cl ∧ (∀ r t, ¬ (r = 31 ∧ 600 * (d + 1) ≤ t) → ¬ (r = 32 ∧ t = d + 1) → c1 r t = c r t) ∧ ∀ q, P.1 = some q → RowM c1 (d + 1) (Γ1 q) ∧ c1 32 (d + 1) = nI gl
theorem pr_no {G : rG} {n : Nat} {ad : Nat → Nat} {en en1 : Nat → va_E} {ns ss1 : List Row} {c c1 : Nat → Nat → Int32} {us : Int32} {d : Nat} {cl : Int32} {P : Option (Nat × Nat) × List Row} {Γ1 : Nat × Nat → Nat → Bool} {gl : Nat} (hB : P = (none, ss1)) (hF : ∀ k, k < 22 → en1 k = en k) (hM : MdW G n ad en1 ss1 ns c1 us (-3) (nI d) cl) (hk : ∀ r t, ¬ (r = 31 ∧ 600 * (d + 1) ≤ t) → ¬ (r = 32 ∧ t = d + 1) → c1 r t = c r t) : prPost G n ad en ns c us d cl P Γ1 gl ad en1 := by
  subst hB
  exact ⟨⟨rfl, hF⟩, c1, hM, hk, fun q z => by cases z⟩
theorem pr_so {G : rG} {n : Nat} {ad : Nat → Nat} {en en1 : Nat → va_E} {ns ss1 : List Row} {c c1 : Nat → Nat → Int32} {us : Int32} {d : Nat} {cl : Int32} {P : Option (Nat × Nat) × List Row} {q : Nat × Nat} {Γ1 : Nat × Nat → Nat → Bool} {Γ2 : Nat → Bool} {gl : Nat} (hB : P = (some q, ss1)) (hF : ∀ k, k < 22 → en1 k = en k) (hM : MdW G n ad en1 ss1 ns c1 us 0 (nI d) cl) (hk : ∀ r t, ¬ (r = 31 ∧ 600 * (d + 1) ≤ t) → ¬ (r = 32 ∧ t = d + 1) → c1 r t = c r t) (hR : RowM c1 (d + 1) Γ2) (hG : Γ2 = Γ1 q) (hw : c1 32 (d + 1) = nI gl) : prPost G n ad en ns c us d cl P Γ1 gl ad en1 := by
  subst hB hG
  exact ⟨⟨rfl, hF⟩, c1, hM, hk, fun q2 z => by injection z with z; subst z; exact ⟨hR, hw⟩⟩
set_option maxHeartbeats 600000 in
set_option maxRecDepth 100000 in
theorem c_X8_premise (l : Launch) (G : rG) {n : Nat} {ad : Nat → Nat} {en : Nat → va_E} {ss ns : List Row} {c : Nat → Nat → Int32} {us : Int32} {cl : Int32} {d : Nat} (hM : MdW G n ad en ss ns c us 0 (nI d) cl) {goal r f k aa : Nat} (hd : d ≤ 80) (hwa : c 32 d = nI goal) (hrk : (r = 3 ∧ k = 0) ∨ (r = 3 ∧ k = 1) ∨ (r = 4 ∧ k = 0) ∨ (r = 5 ∧ k = 0) ∨ (r = 6 ∧ k = 0) ∨ (r = 6 ∧ k = 1) ∨ (r = 7 ∧ k = 0) ∨ (r = 8 ∧ k = 0) ∨ (r = 9 ∧ k = 0) ∨ (r = 10 ∧ k = 0)) (ha : aa = if 5 ≤ r then f else goal) (hg : 1 ≤ goal ∧ goal ≤ ss.length) {Γ : Nat → Bool} (hR : RowM c d Γ) (hΓ : ∀ y, Γ y = true → 1 ≤ y ∧ y ≤ ss.length) (hwy : wyOK ss Γ goal r f) : CV l G yX8_premise uX8_premise (3) (71) (0) (0) [.ref (ad 22), .int (nI r), .int (nI aa), .int (nI k)] (n) (n) ad en (prPost G n ad en ns c us d cl (brg ss r (k + 1) f) (fun q => gPar (brg ss r (k + 1) f).2 r (k + 1) (if r = 4 then goal else f) (gAdd (gAdd (gDel Γ f) q.1) q.2)) (pG (brg ss r (k + 1) f).2 r (k + 1) f goal)) := by
  intro sz
  refine rMet (Qc := qV G (n) (prPost G n ad en ns c us d cl (brg ss r (k + 1) f) (fun q => gPar (brg ss r (k + 1) f).2 r (k + 1) (if r = 4 then goal else f) (gAdd (gAdd (gDel Γ f) q.1) q.2)) (pG (brg ss r (k + 1) f).2 r (k + 1) f goal))) (cc := cX8_premise) (maxL := 9) (ret := none) (by decide) rfl (Nat.le_of_ble_eq_true rfl) ?_
  intro pP eE sS mM aA bB tT cC ls A Q hc hK hsz hA hs hl hQ
  obtain ⟨hx, hb, hr, hts, hown, hlk, hnm, hml⟩ := hc
  have hl : lv_has ls 9 [(0, .ref (ad 22)), (1, .int (nI r)), (2, .int (nI aa)), (3, .int (nI k))] := hl
  have fr0 : ∀ k, k < 22 → en k = en k := fun _ _ => rfl
  obtain ⟨hn48, -, -, -, hok, hnk⟩ := id hM
  have h6 := hok.1
  have h8 := hnk.1
  
  rcases hrk with ⟨rfl, rfl⟩ | ⟨rfl, rfl⟩ | ⟨rfl, rfl⟩ | ⟨rfl, rfl⟩ | ⟨rfl, rfl⟩ | ⟨rfl, rfl⟩ | ⟨rfl, rfl⟩ | ⟨rfl, rfl⟩ | ⟨rfl, rfl⟩ | ⟨rfl, rfl⟩
  · have ha : aa = goal := ha
    subst ha
    have hB : brg ss 3 (0 + 1) f = (some (0, 0), ss) := brgx (by decide) (by decide) (by decide)
    have hLg := sLR_lt hok aa
    refine lv_aload_n hx hb dX8_premise_0 rfl (lv_at hl 0 rfl) ?_
    refine r_get (ci := 8) (v := .ref (ad 32)) (C := RX8) (T := TX8) (N := 31) hx hb hts inlX8 hown hK hs (22) (by omega) (md22 hM) rfl 13 (by decide) (hts _ w_fl_RX8_39) rfl dX8_premise_1 ?_
    refine lv_aload_n hx hb dX8_premise_4 rfl (lv_at hl 0 rfl) ?_
    refine r_get (ci := 8) (v := .int (nI d)) (C := RX8) (T := TX8) (N := 31) hx hb hts inlX8 hown hK hs (22) (by omega) (md22 hM) rfl 17 (by decide) (hts _ w_fl_RX8_109) rfl dX8_premise_5 ?_
    refine r_ialdN (t := d) hx hb hK hs (32) (by omega) (md32 hM) (rfl) (by omega) (by omega) dX8_premise_8 ?_
    refine r_topi (y := nI aa) (hwa) ?_
    refine lv_istore (lv' := [(4, .int (nI aa)), (0, .ref (ad 22)), (1, .int (nI 3)), (2, .int (nI aa)), (3, .int (nI 0))]) hx hb dX8_premise_9 hl (by decide) rfl (fun ls hl => ?_)
    refine lv_aload_n hx hb dX8_premise_11 rfl (lv_at hl 1 rfl) ?_
    refine r_get (ci := 8) (v := .ref (ad 24)) (C := RX8) (T := TX8) (N := 31) hx hb hts inlX8 hown hK hs (22) (by omega) (md22 hM) rfl 1 (by decide) (hts _ w_fl_RX8_13) rfl dX8_premise_12 ?_
    refine lv_iload_n hx hb dX8_premise_15 rfl (lv_at hl 3 rfl) ?_
    refine r_ialdN (t := aa) hx hb hK hs (24) (by omega) (md24 hM) (rfl) (by omega) (by omega) dX8_premise_16 ?_
    refine r_topi (y := nI (sL ss (aa))) rfl ?_
    refine lv_istore (lv' := [(5, .int (nI (sL ss (aa)))), (4, .int (nI aa)), (0, .ref (ad 22)), (1, .int (nI 3)), (2, .int (nI aa)), (3, .int (nI 0))]) hx hb dX8_premise_17 hl (by decide) rfl (fun ls hl => ?_)
    refine lv_aload_n hx hb dX8_premise_19 rfl (lv_at hl 2 rfl) ?_
    refine r_get (ci := 8) (v := .ref (ad 25)) (C := RX8) (T := TX8) (N := 31) hx hb hts inlX8 hown hK hs (22) (by omega) (md22 hM) rfl 2 (by decide) (hts _ w_fl_RX8_16) rfl dX8_premise_20 ?_
    refine lv_iload_n hx hb dX8_premise_23 rfl (lv_at hl 4 rfl) ?_
    refine r_ialdN (t := aa) hx hb hK hs (25) (by omega) (md25 hM) (rfl) (by omega) (by omega) dX8_premise_24 ?_
    refine r_topi (y := nI (sR ss (aa))) rfl ?_
    refine lv_istore (lv' := [(6, .int (nI (sR ss (aa)))), (5, .int (nI (sL ss (aa)))), (4, .int (nI aa)), (0, .ref (ad 22)), (1, .int (nI 3)), (2, .int (nI aa)), (3, .int (nI 0))]) hx hb dX8_premise_25 hl (by decide) rfl (fun ls hl => ?_)
    refine lv_aload_n hx hb dX8_premise_27 rfl (lv_at hl 3 rfl) ?_
    refine r_get (ci := 8) (v := .int (nI d)) (C := RX8) (T := TX8) (N := 31) hx hb hts inlX8 hown hK hs (22) (by omega) (md22 hM) rfl 17 (by decide) (hts _ w_fl_RX8_109) rfl dX8_premise_28 ?_
    refine lv_iconst (v := 1) hx hb dX8_premise_31 (by decide) ?_
    refine lv_iadd hx hb dX8_premise_32 ?_
    refine r_topi (y := nI (d + 1)) (nI_add _ _) ?_
    refine lv_istore (lv' := [(7, .int (nI (d + 1))), (6, .int (nI (sR ss (aa)))), (5, .int (nI (sL ss (aa)))), (4, .int (nI aa)), (0, .ref (ad 22)), (1, .int (nI 3)), (2, .int (nI aa)), (3, .int (nI 0))]) hx hb dX8_premise_33 hl (by decide) rfl (fun ls hl => ?_)
    refine lv_aload_n hx hb dX8_premise_35 rfl (lv_at hl 4 rfl) ?_
    refine lv_iload_n hx hb dX8_premise_36 rfl (lv_at hl 5 rfl) ?_
    refine lv_iconst (v := 3) hx hb dX8_premise_37 (by decide) ?_
    refine lv_icmp_ne (tgt := 65) hx hb dX8_premise_38 (by decide) (fun c38 => absurd (by decide) c38) (fun _ => ?_)
    refine lv_iload_n hx hb dX8_premise_41 rfl (lv_at hl 7 rfl) ?_
    refine lv_if_ne (tgt := 55) hx hb dX8_premise_42 (by decide) (fun c42 => absurd (by decide) c42) (fun _ => ?_)
    refine lv_aload_n hx hb dX8_premise_45 rfl (lv_at hl 4 rfl) ?_
    refine r_get (ci := 8) (v := .ref (ad 24)) (C := RX8) (T := TX8) (N := 31) hx hb hts inlX8 hown hK hs (22) (by omega) (md22 hM) rfl 1 (by decide) (hts _ w_fl_RX8_13) rfl dX8_premise_46 ?_
    refine lv_iload hx hb dX8_premise_49 (lv_at hl 3 rfl) ?_
    refine r_ialdN (t := aa) hx hb hK hs (24) (by omega) (md24 hM) (rfl) (by omega) (by omega) dX8_premise_51 ?_
    refine r_topi (y := nI (sL ss (aa))) rfl ?_
    refine lv_goto (tgt := 82) hx hb dX8_premise_52 (by decide) ?_
    refine r_callVv (ci := 8) (As := [.int (nI (sL ss (aa)))]) hx hb hml hown hts hK hA hs (22) (by omega) (md22 hM) rfl rfl (c_X8_open l G hM (gl := (sL ss (aa))) (by omega) hR) (cwV 1 hts (tbV w_ml_RX8_133 w_im_yX8_open w_se_yX8_open w_ini_RX8 w_cd_yX8_open) rfl rfl rfl (by decide +kernel) ⟨Nat.le_of_ble_eq_true rfl, Nat.le_of_ble_eq_true rfl⟩) rfl hl.1 rfl (Nat.le_of_ble_eq_true rfl) dX8_premise_82 ⟨Nat.le_refl _, Nat.le_refl _⟩ (fun ad_2 en_3 H locs hp_4 hs => ?_)
    obtain ⟨c_1, ec_1⟩ : ∃ z, z = cOpn c d (nI (sL ss (aa))) := ⟨_, rfl⟩
    rw [← ec_1] at hp_4
    obtain ⟨⟨hAm_5, hFm_5⟩, hMm_5⟩ := hp_4
    subst hAm_5
    have fr_6 : ∀ k, k < 22 → en_3 k = en k := fun k hk => Eq.trans (hFm_5 k hk) (fr0 k hk)
    have hRn_c_1 : RowM c_1 (d + 1) Γ := by rw [ec_1]; exact opn_row hR
    refine lv_iload_n hx hb dX8_premise_85 rfl (lv_at hl 5 rfl) ?_
    refine lv_iconst (v := 4) hx hb dX8_premise_86 (by decide) ?_
    refine lv_icmp_ne (tgt := 104) hx hb dX8_premise_87 (by decide) (fun _ => ?_) (fun c87 => absurd c87 (by decide))
    refine lv_iload_n hx hb dX8_premise_104 rfl (lv_at hl 5 rfl) ?_
    refine lv_iconst (v := 4) hx hb dX8_premise_105 (by decide) ?_
    refine lv_icmp_le (tgt := 117) hx hb dX8_premise_106 (by decide) (fun _ => ?_) (fun c106 => absurd (by decide) c106)
    refine lv_iload_n hx hb dX8_premise_117 rfl (lv_at hl 5 rfl) ?_
    refine lv_iconst (v := 5) hx hb dX8_premise_118 (by decide) ?_
    refine lv_icmp_ne (tgt := 143) hx hb dX8_premise_119 (by decide) (fun _ => ?_) (fun c119 => absurd c119 (by decide))
    refine lv_iload_n hx hb dX8_premise_143 rfl (lv_at hl 5 rfl) ?_
    refine lv_bipush (v := 6) hx hb dX8_premise_144 (by decide) ?_
    refine lv_icmp_ne (tgt := 170) hx hb dX8_premise_146 (by decide) (fun _ => ?_) (fun c146 => absurd c146 (by decide))
    refine lv_iload_n hx hb dX8_premise_170 rfl (lv_at hl 5 rfl) ?_
    refine lv_bipush (v := 7) hx hb dX8_premise_171 (by decide) ?_
    refine lv_icmp_ne (tgt := 188) hx hb dX8_premise_173 (by decide) (fun _ => ?_) (fun c173 => absurd c173 (by decide))
    refine lv_iload_n hx hb dX8_premise_188 rfl (lv_at hl 5 rfl) ?_
    refine lv_bipush (v := 9) hx hb dX8_premise_189 (by decide) ?_
    refine lv_icmp_ne (tgt := 232) hx hb dX8_premise_191 (by decide) (fun _ => ?_) (fun c191 => absurd c191 (by decide))
    refine lv_iload_n hx hb dX8_premise_232 rfl (lv_at hl 5 rfl) ?_
    refine lv_bipush (v := 10) hx hb dX8_premise_233 (by decide) ?_
    refine lv_icmp_ne (tgt := 278) hx hb dX8_premise_235 (by decide) (fun _ => ?_) (fun c235 => absurd c235 (by decide))
    refine r_vret (mc := 0) (ms := 0) hx hb hr hlk hs (Nat.le_refl _) (Nat.le_refl _) dX8_premise_278 hQ ?_
    exact pr_so hB fr_6 hMm_5 (fun r t h1 h2 => by rw [ec_1, opn_o (by omega)]) hRn_c_1 (by rw [show (brg ss 3 (0 + 1) f).2 = ss from congrArg Prod.snd hB]; show _ = gPar ss 3 (0 + 1) _ (gAdd (gAdd (gDel Γ f) 0) 0); rw [gAdd_0, gAdd_0, wy_0 hwy (by decide), gDel_0]; rfl) (by rw [ec_1, opn_w]; exact congrArg nI (by rw [hB]; rfl))
  · have ha : aa = goal := ha
    subst ha
    have hB : brg ss 3 (1 + 1) f = (some (0, 0), ss) := brgx (by decide) (by decide) (by decide)
    have hLg := sLR_lt hok aa
    refine lv_aload_n hx hb dX8_premise_0 rfl (lv_at hl 0 rfl) ?_
    refine r_get (ci := 8) (v := .ref (ad 32)) (C := RX8) (T := TX8) (N := 31) hx hb hts inlX8 hown hK hs (22) (by omega) (md22 hM) rfl 13 (by decide) (hts _ w_fl_RX8_39) rfl dX8_premise_1 ?_
    refine lv_aload_n hx hb dX8_premise_4 rfl (lv_at hl 0 rfl) ?_
    refine r_get (ci := 8) (v := .int (nI d)) (C := RX8) (T := TX8) (N := 31) hx hb hts inlX8 hown hK hs (22) (by omega) (md22 hM) rfl 17 (by decide) (hts _ w_fl_RX8_109) rfl dX8_premise_5 ?_
    refine r_ialdN (t := d) hx hb hK hs (32) (by omega) (md32 hM) (rfl) (by omega) (by omega) dX8_premise_8 ?_
    refine r_topi (y := nI aa) (hwa) ?_
    refine lv_istore (lv' := [(4, .int (nI aa)), (0, .ref (ad 22)), (1, .int (nI 3)), (2, .int (nI aa)), (3, .int (nI 1))]) hx hb dX8_premise_9 hl (by decide) rfl (fun ls hl => ?_)
    refine lv_aload_n hx hb dX8_premise_11 rfl (lv_at hl 1 rfl) ?_
    refine r_get (ci := 8) (v := .ref (ad 24)) (C := RX8) (T := TX8) (N := 31) hx hb hts inlX8 hown hK hs (22) (by omega) (md22 hM) rfl 1 (by decide) (hts _ w_fl_RX8_13) rfl dX8_premise_12 ?_
    refine lv_iload_n hx hb dX8_premise_15 rfl (lv_at hl 3 rfl) ?_
    refine r_ialdN (t := aa) hx hb hK hs (24) (by omega) (md24 hM) (rfl) (by omega) (by omega) dX8_premise_16 ?_
    refine r_topi (y := nI (sL ss (aa))) rfl ?_
    refine lv_istore (lv' := [(5, .int (nI (sL ss (aa)))), (4, .int (nI aa)), (0, .ref (ad 22)), (1, .int (nI 3)), (2, .int (nI aa)), (3, .int (nI 1))]) hx hb dX8_premise_17 hl (by decide) rfl (fun ls hl => ?_)
    refine lv_aload_n hx hb dX8_premise_19 rfl (lv_at hl 2 rfl) ?_
    refine r_get (ci := 8) (v := .ref (ad 25)) (C := RX8) (T := TX8) (N := 31) hx hb hts inlX8 hown hK hs (22) (by omega) (md22 hM) rfl 2 (by decide) (hts _ w_fl_RX8_16) rfl dX8_premise_20 ?_
    refine lv_iload_n hx hb dX8_premise_23 rfl (lv_at hl 4 rfl) ?_
    refine r_ialdN (t := aa) hx hb hK hs (25) (by omega) (md25 hM) (rfl) (by omega) (by omega) dX8_premise_24 ?_
    refine r_topi (y := nI (sR ss (aa))) rfl ?_
    refine lv_istore (lv' := [(6, .int (nI (sR ss (aa)))), (5, .int (nI (sL ss (aa)))), (4, .int (nI aa)), (0, .ref (ad 22)), (1, .int (nI 3)), (2, .int (nI aa)), (3, .int (nI 1))]) hx hb dX8_premise_25 hl (by decide) rfl (fun ls hl => ?_)
    refine lv_aload_n hx hb dX8_premise_27 rfl (lv_at hl 3 rfl) ?_
    refine r_get (ci := 8) (v := .int (nI d)) (C := RX8) (T := TX8) (N := 31) hx hb hts inlX8 hown hK hs (22) (by omega) (md22 hM) rfl 17 (by decide) (hts _ w_fl_RX8_109) rfl dX8_premise_28 ?_
    refine lv_iconst (v := 1) hx hb dX8_premise_31 (by decide) ?_
    refine lv_iadd hx hb dX8_premise_32 ?_
    refine r_topi (y := nI (d + 1)) (nI_add _ _) ?_
    refine lv_istore (lv' := [(7, .int (nI (d + 1))), (6, .int (nI (sR ss (aa)))), (5, .int (nI (sL ss (aa)))), (4, .int (nI aa)), (0, .ref (ad 22)), (1, .int (nI 3)), (2, .int (nI aa)), (3, .int (nI 1))]) hx hb dX8_premise_33 hl (by decide) rfl (fun ls hl => ?_)
    refine lv_aload_n hx hb dX8_premise_35 rfl (lv_at hl 4 rfl) ?_
    refine lv_iload_n hx hb dX8_premise_36 rfl (lv_at hl 5 rfl) ?_
    refine lv_iconst (v := 3) hx hb dX8_premise_37 (by decide) ?_
    refine lv_icmp_ne (tgt := 65) hx hb dX8_premise_38 (by decide) (fun c38 => absurd (by decide) c38) (fun _ => ?_)
    refine lv_iload_n hx hb dX8_premise_41 rfl (lv_at hl 7 rfl) ?_
    refine lv_if_ne (tgt := 55) hx hb dX8_premise_42 (by decide) (fun _ => ?_) (fun c42 => absurd c42 (by decide))
    refine lv_aload_n hx hb dX8_premise_55 rfl (lv_at hl 4 rfl) ?_
    refine r_get (ci := 8) (v := .ref (ad 25)) (C := RX8) (T := TX8) (N := 31) hx hb hts inlX8 hown hK hs (22) (by omega) (md22 hM) rfl 2 (by decide) (hts _ w_fl_RX8_16) rfl dX8_premise_56 ?_
    refine lv_iload hx hb dX8_premise_59 (lv_at hl 3 rfl) ?_
    refine r_ialdN (t := aa) hx hb hK hs (25) (by omega) (md25 hM) (rfl) (by omega) (by omega) dX8_premise_61 ?_
    refine r_topi (y := nI (sR ss (aa))) rfl ?_
    refine lv_goto (tgt := 82) hx hb dX8_premise_62 (by decide) ?_
    refine r_callVv (ci := 8) (As := [.int (nI (sR ss (aa)))]) hx hb hml hown hts hK hA hs (22) (by omega) (md22 hM) rfl rfl (c_X8_open l G hM (gl := (sR ss (aa))) (by omega) hR) (cwV 1 hts (tbV w_ml_RX8_133 w_im_yX8_open w_se_yX8_open w_ini_RX8 w_cd_yX8_open) rfl rfl rfl (by decide +kernel) ⟨Nat.le_of_ble_eq_true rfl, Nat.le_of_ble_eq_true rfl⟩) rfl hl.1 rfl (Nat.le_of_ble_eq_true rfl) dX8_premise_82 ⟨Nat.le_refl _, Nat.le_refl _⟩ (fun ad_8 en_9 H locs hp_10 hs => ?_)
    obtain ⟨c_7, ec_7⟩ : ∃ z, z = cOpn c d (nI (sR ss (aa))) := ⟨_, rfl⟩
    rw [← ec_7] at hp_10
    obtain ⟨⟨hAm_11, hFm_11⟩, hMm_11⟩ := hp_10
    subst hAm_11
    have fr_12 : ∀ k, k < 22 → en_9 k = en k := fun k hk => Eq.trans (hFm_11 k hk) (fr0 k hk)
    have hRn_c_7 : RowM c_7 (d + 1) Γ := by rw [ec_7]; exact opn_row hR
    refine lv_iload_n hx hb dX8_premise_85 rfl (lv_at hl 5 rfl) ?_
    refine lv_iconst (v := 4) hx hb dX8_premise_86 (by decide) ?_
    refine lv_icmp_ne (tgt := 104) hx hb dX8_premise_87 (by decide) (fun _ => ?_) (fun c87 => absurd c87 (by decide))
    refine lv_iload_n hx hb dX8_premise_104 rfl (lv_at hl 5 rfl) ?_
    refine lv_iconst (v := 4) hx hb dX8_premise_105 (by decide) ?_
    refine lv_icmp_le (tgt := 117) hx hb dX8_premise_106 (by decide) (fun _ => ?_) (fun c106 => absurd (by decide) c106)
    refine lv_iload_n hx hb dX8_premise_117 rfl (lv_at hl 5 rfl) ?_
    refine lv_iconst (v := 5) hx hb dX8_premise_118 (by decide) ?_
    refine lv_icmp_ne (tgt := 143) hx hb dX8_premise_119 (by decide) (fun _ => ?_) (fun c119 => absurd c119 (by decide))
    refine lv_iload_n hx hb dX8_premise_143 rfl (lv_at hl 5 rfl) ?_
    refine lv_bipush (v := 6) hx hb dX8_premise_144 (by decide) ?_
    refine lv_icmp_ne (tgt := 170) hx hb dX8_premise_146 (by decide) (fun _ => ?_) (fun c146 => absurd c146 (by decide))
    refine lv_iload_n hx hb dX8_premise_170 rfl (lv_at hl 5 rfl) ?_
    refine lv_bipush (v := 7) hx hb dX8_premise_171 (by decide) ?_
    refine lv_icmp_ne (tgt := 188) hx hb dX8_premise_173 (by decide) (fun _ => ?_) (fun c173 => absurd c173 (by decide))
    refine lv_iload_n hx hb dX8_premise_188 rfl (lv_at hl 5 rfl) ?_
    refine lv_bipush (v := 9) hx hb dX8_premise_189 (by decide) ?_
    refine lv_icmp_ne (tgt := 232) hx hb dX8_premise_191 (by decide) (fun _ => ?_) (fun c191 => absurd c191 (by decide))
    refine lv_iload_n hx hb dX8_premise_232 rfl (lv_at hl 5 rfl) ?_
    refine lv_bipush (v := 10) hx hb dX8_premise_233 (by decide) ?_
    refine lv_icmp_ne (tgt := 278) hx hb dX8_premise_235 (by decide) (fun _ => ?_) (fun c235 => absurd c235 (by decide))
    refine r_vret (mc := 0) (ms := 0) hx hb hr hlk hs (Nat.le_refl _) (Nat.le_refl _) dX8_premise_278 hQ ?_
    exact pr_so hB fr_12 hMm_11 (fun r t h1 h2 => by rw [ec_7, opn_o (by omega)]) hRn_c_7 (by rw [show (brg ss 3 (1 + 1) f).2 = ss from congrArg Prod.snd hB]; show _ = gPar ss 3 (1 + 1) _ (gAdd (gAdd (gDel Γ f) 0) 0); rw [gAdd_0, gAdd_0, wy_0 hwy (by decide), gDel_0]; rfl) (by rw [ec_7, opn_w]; exact congrArg nI (by rw [hB]; rfl))
  · have ha : aa = goal := ha
    subst ha
    have hB : brg ss 4 (0 + 1) f = (some (0, 0), ss) := brgx (by decide) (by decide) (by decide)
    have hLg := sLR_lt hok aa
    refine lv_aload_n hx hb dX8_premise_0 rfl (lv_at hl 0 rfl) ?_
    refine r_get (ci := 8) (v := .ref (ad 32)) (C := RX8) (T := TX8) (N := 31) hx hb hts inlX8 hown hK hs (22) (by omega) (md22 hM) rfl 13 (by decide) (hts _ w_fl_RX8_39) rfl dX8_premise_1 ?_
    refine lv_aload_n hx hb dX8_premise_4 rfl (lv_at hl 0 rfl) ?_
    refine r_get (ci := 8) (v := .int (nI d)) (C := RX8) (T := TX8) (N := 31) hx hb hts inlX8 hown hK hs (22) (by omega) (md22 hM) rfl 17 (by decide) (hts _ w_fl_RX8_109) rfl dX8_premise_5 ?_
    refine r_ialdN (t := d) hx hb hK hs (32) (by omega) (md32 hM) (rfl) (by omega) (by omega) dX8_premise_8 ?_
    refine r_topi (y := nI aa) (hwa) ?_
    refine lv_istore (lv' := [(4, .int (nI aa)), (0, .ref (ad 22)), (1, .int (nI 4)), (2, .int (nI aa)), (3, .int (nI 0))]) hx hb dX8_premise_9 hl (by decide) rfl (fun ls hl => ?_)
    refine lv_aload_n hx hb dX8_premise_11 rfl (lv_at hl 1 rfl) ?_
    refine r_get (ci := 8) (v := .ref (ad 24)) (C := RX8) (T := TX8) (N := 31) hx hb hts inlX8 hown hK hs (22) (by omega) (md22 hM) rfl 1 (by decide) (hts _ w_fl_RX8_13) rfl dX8_premise_12 ?_
    refine lv_iload_n hx hb dX8_premise_15 rfl (lv_at hl 3 rfl) ?_
    refine r_ialdN (t := aa) hx hb hK hs (24) (by omega) (md24 hM) (rfl) (by omega) (by omega) dX8_premise_16 ?_
    refine r_topi (y := nI (sL ss (aa))) rfl ?_
    refine lv_istore (lv' := [(5, .int (nI (sL ss (aa)))), (4, .int (nI aa)), (0, .ref (ad 22)), (1, .int (nI 4)), (2, .int (nI aa)), (3, .int (nI 0))]) hx hb dX8_premise_17 hl (by decide) rfl (fun ls hl => ?_)
    refine lv_aload_n hx hb dX8_premise_19 rfl (lv_at hl 2 rfl) ?_
    refine r_get (ci := 8) (v := .ref (ad 25)) (C := RX8) (T := TX8) (N := 31) hx hb hts inlX8 hown hK hs (22) (by omega) (md22 hM) rfl 2 (by decide) (hts _ w_fl_RX8_16) rfl dX8_premise_20 ?_
    refine lv_iload_n hx hb dX8_premise_23 rfl (lv_at hl 4 rfl) ?_
    refine r_ialdN (t := aa) hx hb hK hs (25) (by omega) (md25 hM) (rfl) (by omega) (by omega) dX8_premise_24 ?_
    refine r_topi (y := nI (sR ss (aa))) rfl ?_
    refine lv_istore (lv' := [(6, .int (nI (sR ss (aa)))), (5, .int (nI (sL ss (aa)))), (4, .int (nI aa)), (0, .ref (ad 22)), (1, .int (nI 4)), (2, .int (nI aa)), (3, .int (nI 0))]) hx hb dX8_premise_25 hl (by decide) rfl (fun ls hl => ?_)
    refine lv_aload_n hx hb dX8_premise_27 rfl (lv_at hl 3 rfl) ?_
    refine r_get (ci := 8) (v := .int (nI d)) (C := RX8) (T := TX8) (N := 31) hx hb hts inlX8 hown hK hs (22) (by omega) (md22 hM) rfl 17 (by decide) (hts _ w_fl_RX8_109) rfl dX8_premise_28 ?_
    refine lv_iconst (v := 1) hx hb dX8_premise_31 (by decide) ?_
    refine lv_iadd hx hb dX8_premise_32 ?_
    refine r_topi (y := nI (d + 1)) (nI_add _ _) ?_
    refine lv_istore (lv' := [(7, .int (nI (d + 1))), (6, .int (nI (sR ss (aa)))), (5, .int (nI (sL ss (aa)))), (4, .int (nI aa)), (0, .ref (ad 22)), (1, .int (nI 4)), (2, .int (nI aa)), (3, .int (nI 0))]) hx hb dX8_premise_33 hl (by decide) rfl (fun ls hl => ?_)
    refine lv_aload_n hx hb dX8_premise_35 rfl (lv_at hl 4 rfl) ?_
    refine lv_iload_n hx hb dX8_premise_36 rfl (lv_at hl 5 rfl) ?_
    refine lv_iconst (v := 3) hx hb dX8_premise_37 (by decide) ?_
    refine lv_icmp_ne (tgt := 65) hx hb dX8_premise_38 (by decide) (fun _ => ?_) (fun c38 => absurd c38 (by decide))
    refine lv_iload_n hx hb dX8_premise_65 rfl (lv_at hl 5 rfl) ?_
    refine lv_iconst (v := 4) hx hb dX8_premise_66 (by decide) ?_
    refine lv_icmp_ne (tgt := 80) hx hb dX8_premise_67 (by decide) (fun c67 => absurd (by decide) c67) (fun _ => ?_)
    refine lv_aload_n hx hb dX8_premise_70 rfl (lv_at hl 4 rfl) ?_
    refine r_get (ci := 8) (v := .ref (ad 25)) (C := RX8) (T := TX8) (N := 31) hx hb hts inlX8 hown hK hs (22) (by omega) (md22 hM) rfl 2 (by decide) (hts _ w_fl_RX8_16) rfl dX8_premise_71 ?_
    refine lv_iload hx hb dX8_premise_74 (lv_at hl 3 rfl) ?_
    refine r_ialdN (t := aa) hx hb hK hs (25) (by omega) (md25 hM) (rfl) (by omega) (by omega) dX8_premise_76 ?_
    refine r_topi (y := nI (sR ss (aa))) rfl ?_
    refine lv_goto (tgt := 82) hx hb dX8_premise_77 (by decide) ?_
    refine r_callVv (ci := 8) (As := [.int (nI (sR ss (aa)))]) hx hb hml hown hts hK hA hs (22) (by omega) (md22 hM) rfl rfl (c_X8_open l G hM (gl := (sR ss (aa))) (by omega) hR) (cwV 1 hts (tbV w_ml_RX8_133 w_im_yX8_open w_se_yX8_open w_ini_RX8 w_cd_yX8_open) rfl rfl rfl (by decide +kernel) ⟨Nat.le_of_ble_eq_true rfl, Nat.le_of_ble_eq_true rfl⟩) rfl hl.1 rfl (Nat.le_of_ble_eq_true rfl) dX8_premise_82 ⟨Nat.le_refl _, Nat.le_refl _⟩ (fun ad_14 en_15 H locs hp_16 hs => ?_)
    obtain ⟨c_13, ec_13⟩ : ∃ z, z = cOpn c d (nI (sR ss (aa))) := ⟨_, rfl⟩
    rw [← ec_13] at hp_16
    obtain ⟨⟨hAm_17, hFm_17⟩, hMm_17⟩ := hp_16
    subst hAm_17
    have fr_18 : ∀ k, k < 22 → en_15 k = en k := fun k hk => Eq.trans (hFm_17 k hk) (fr0 k hk)
    have hRn_c_13 : RowM c_13 (d + 1) Γ := by rw [ec_13]; exact opn_row hR
    refine lv_iload_n hx hb dX8_premise_85 rfl (lv_at hl 5 rfl) ?_
    refine lv_iconst (v := 4) hx hb dX8_premise_86 (by decide) ?_
    refine lv_icmp_ne (tgt := 104) hx hb dX8_premise_87 (by decide) (fun c87 => absurd (by decide) c87) (fun _ => ?_)
    refine lv_aload_n hx hb dX8_premise_90 rfl (lv_at hl 4 rfl) ?_
    refine lv_iload hx hb dX8_premise_91 (lv_at hl 0 rfl) ?_
    refine lv_aload_n hx hb dX8_premise_93 rfl (lv_at hl 4 rfl) ?_
    refine r_get (ci := 8) (v := .ref (ad 24)) (C := RX8) (T := TX8) (N := 31) hx hb hts inlX8 hown hK hs (22) (by omega) (md22 hMm_17) rfl 1 (by decide) (hts _ w_fl_RX8_13) rfl dX8_premise_94 ?_
    refine lv_iload hx hb dX8_premise_97 (lv_at hl 3 rfl) ?_
    refine r_ialdN (t := aa) hx hb hK hs (24) (by omega) (md24 hMm_17) (rfl) (by omega) (by omega) dX8_premise_99 ?_
    refine r_topi (y := nI (sL ss (aa))) rfl ?_
    refine lv_iconst (v := 1) hx hb dX8_premise_100 (by decide) ?_
    refine r_callVv (ci := 8) (As := [.int (nI (d + 1)), .int (nI (sL ss (aa))), .int (1)]) hx hb hml hown hts hK hA hs (22) (by omega) (md22 hMm_17) rfl rfl (c_X8_set l G hMm_17 (d := (d + 1)) (f := (sL ss (aa))) (by omega) (by omega) true) (cwV 3 hts (tbV w_ml_RX8_137 w_im_yX8_set w_se_yX8_set w_ini_RX8 w_cd_yX8_set) rfl rfl rfl (by decide +kernel) ⟨Nat.le_of_ble_eq_true rfl, Nat.le_of_ble_eq_true rfl⟩) rfl hl.1 rfl (Nat.le_of_ble_eq_true rfl) dX8_premise_101 ⟨Nat.le_refl _, Nat.le_refl _⟩ (fun ad_20 en_21 H locs hp_22 hs => ?_)
    obtain ⟨c_19, ec_19⟩ : ∃ z, z = cSet c_13 (d + 1) (sL ss (aa)) true := ⟨_, rfl⟩
    rw [← ec_19] at hp_22
    obtain ⟨⟨hAm_23, hFm_23⟩, hMm_23⟩ := hp_22
    subst hAm_23
    have fr_24 : ∀ k, k < 22 → en_21 k = en k := fun k hk => Eq.trans (hFm_23 k hk) (fr_18 k hk)
    have hRn_c_19 : RowM c_19 (d + 1) (gAdd Γ (sL ss (aa))) := by rw [ec_19]; exact row_add hRn_c_13 (by omega)
    refine lv_iload_n hx hb dX8_premise_104 rfl (lv_at hl 5 rfl) ?_
    refine lv_iconst (v := 4) hx hb dX8_premise_105 (by decide) ?_
    refine lv_icmp_le (tgt := 117) hx hb dX8_premise_106 (by decide) (fun _ => ?_) (fun c106 => absurd (by decide) c106)
    refine lv_iload_n hx hb dX8_premise_117 rfl (lv_at hl 5 rfl) ?_
    refine lv_iconst (v := 5) hx hb dX8_premise_118 (by decide) ?_
    refine lv_icmp_ne (tgt := 143) hx hb dX8_premise_119 (by decide) (fun _ => ?_) (fun c119 => absurd c119 (by decide))
    refine lv_iload_n hx hb dX8_premise_143 rfl (lv_at hl 5 rfl) ?_
    refine lv_bipush (v := 6) hx hb dX8_premise_144 (by decide) ?_
    refine lv_icmp_ne (tgt := 170) hx hb dX8_premise_146 (by decide) (fun _ => ?_) (fun c146 => absurd c146 (by decide))
    refine lv_iload_n hx hb dX8_premise_170 rfl (lv_at hl 5 rfl) ?_
    refine lv_bipush (v := 7) hx hb dX8_premise_171 (by decide) ?_
    refine lv_icmp_ne (tgt := 188) hx hb dX8_premise_173 (by decide) (fun _ => ?_) (fun c173 => absurd c173 (by decide))
    refine lv_iload_n hx hb dX8_premise_188 rfl (lv_at hl 5 rfl) ?_
    refine lv_bipush (v := 9) hx hb dX8_premise_189 (by decide) ?_
    refine lv_icmp_ne (tgt := 232) hx hb dX8_premise_191 (by decide) (fun _ => ?_) (fun c191 => absurd c191 (by decide))
    refine lv_iload_n hx hb dX8_premise_232 rfl (lv_at hl 5 rfl) ?_
    refine lv_bipush (v := 10) hx hb dX8_premise_233 (by decide) ?_
    refine lv_icmp_ne (tgt := 278) hx hb dX8_premise_235 (by decide) (fun _ => ?_) (fun c235 => absurd c235 (by decide))
    refine r_vret (mc := 0) (ms := 0) hx hb hr hlk hs (Nat.le_refl _) (Nat.le_refl _) dX8_premise_278 hQ ?_
    exact pr_so hB fr_24 hMm_23 (fun r t h1 h2 => by rw [ec_19, cSet_o (by omega), ec_13, opn_o (by omega)]) hRn_c_19 (by rw [show (brg ss 4 (0 + 1) f).2 = ss from congrArg Prod.snd hB]; show _ = gPar ss 4 (0 + 1) _ (gAdd (gAdd (gDel Γ f) 0) 0); rw [gAdd_0, gAdd_0, wy_0 hwy (by decide), gDel_0]; rfl) (by rw [ec_19, cSet_o (Or.inl (by decide)), ec_13, opn_w]; exact congrArg nI (by rw [hB]; rfl))
  · have ha : aa = f := ha
    subst ha
    have hfr := hΓ aa (wy_G hwy (by decide))
    have hfl : aa ≤ 600 := by omega
    have hB : brg ss 5 (0 + 1) aa = (some (0, 0), ss) := brgx (by decide) (by decide) (by decide)
    have hLa := sLR_lt hok aa
    have hLg := sLR_lt hok goal
    refine lv_aload_n hx hb dX8_premise_0 rfl (lv_at hl 0 rfl) ?_
    refine r_get (ci := 8) (v := .ref (ad 32)) (C := RX8) (T := TX8) (N := 31) hx hb hts inlX8 hown hK hs (22) (by omega) (md22 hM) rfl 13 (by decide) (hts _ w_fl_RX8_39) rfl dX8_premise_1 ?_
    refine lv_aload_n hx hb dX8_premise_4 rfl (lv_at hl 0 rfl) ?_
    refine r_get (ci := 8) (v := .int (nI d)) (C := RX8) (T := TX8) (N := 31) hx hb hts inlX8 hown hK hs (22) (by omega) (md22 hM) rfl 17 (by decide) (hts _ w_fl_RX8_109) rfl dX8_premise_5 ?_
    refine r_ialdN (t := d) hx hb hK hs (32) (by omega) (md32 hM) (rfl) (by omega) (by omega) dX8_premise_8 ?_
    refine r_topi (y := nI goal) (hwa) ?_
    refine lv_istore (lv' := [(4, .int (nI goal)), (0, .ref (ad 22)), (1, .int (nI 5)), (2, .int (nI aa)), (3, .int (nI 0))]) hx hb dX8_premise_9 hl (by decide) rfl (fun ls hl => ?_)
    refine lv_aload_n hx hb dX8_premise_11 rfl (lv_at hl 1 rfl) ?_
    refine r_get (ci := 8) (v := .ref (ad 24)) (C := RX8) (T := TX8) (N := 31) hx hb hts inlX8 hown hK hs (22) (by omega) (md22 hM) rfl 1 (by decide) (hts _ w_fl_RX8_13) rfl dX8_premise_12 ?_
    refine lv_iload_n hx hb dX8_premise_15 rfl (lv_at hl 3 rfl) ?_
    refine r_ialdN (t := aa) hx hb hK hs (24) (by omega) (md24 hM) (rfl) (by omega) (by omega) dX8_premise_16 ?_
    refine r_topi (y := nI (sL ss (aa))) rfl ?_
    refine lv_istore (lv' := [(5, .int (nI (sL ss (aa)))), (4, .int (nI goal)), (0, .ref (ad 22)), (1, .int (nI 5)), (2, .int (nI aa)), (3, .int (nI 0))]) hx hb dX8_premise_17 hl (by decide) rfl (fun ls hl => ?_)
    refine lv_aload_n hx hb dX8_premise_19 rfl (lv_at hl 2 rfl) ?_
    refine r_get (ci := 8) (v := .ref (ad 25)) (C := RX8) (T := TX8) (N := 31) hx hb hts inlX8 hown hK hs (22) (by omega) (md22 hM) rfl 2 (by decide) (hts _ w_fl_RX8_16) rfl dX8_premise_20 ?_
    refine lv_iload_n hx hb dX8_premise_23 rfl (lv_at hl 4 rfl) ?_
    refine r_ialdN (t := aa) hx hb hK hs (25) (by omega) (md25 hM) (rfl) (by omega) (by omega) dX8_premise_24 ?_
    refine r_topi (y := nI (sR ss (aa))) rfl ?_
    refine lv_istore (lv' := [(6, .int (nI (sR ss (aa)))), (5, .int (nI (sL ss (aa)))), (4, .int (nI goal)), (0, .ref (ad 22)), (1, .int (nI 5)), (2, .int (nI aa)), (3, .int (nI 0))]) hx hb dX8_premise_25 hl (by decide) rfl (fun ls hl => ?_)
    refine lv_aload_n hx hb dX8_premise_27 rfl (lv_at hl 3 rfl) ?_
    refine r_get (ci := 8) (v := .int (nI d)) (C := RX8) (T := TX8) (N := 31) hx hb hts inlX8 hown hK hs (22) (by omega) (md22 hM) rfl 17 (by decide) (hts _ w_fl_RX8_109) rfl dX8_premise_28 ?_
    refine lv_iconst (v := 1) hx hb dX8_premise_31 (by decide) ?_
    refine lv_iadd hx hb dX8_premise_32 ?_
    refine r_topi (y := nI (d + 1)) (nI_add _ _) ?_
    refine lv_istore (lv' := [(7, .int (nI (d + 1))), (6, .int (nI (sR ss (aa)))), (5, .int (nI (sL ss (aa)))), (4, .int (nI goal)), (0, .ref (ad 22)), (1, .int (nI 5)), (2, .int (nI aa)), (3, .int (nI 0))]) hx hb dX8_premise_33 hl (by decide) rfl (fun ls hl => ?_)
    refine lv_aload_n hx hb dX8_premise_35 rfl (lv_at hl 4 rfl) ?_
    refine lv_iload_n hx hb dX8_premise_36 rfl (lv_at hl 5 rfl) ?_
    refine lv_iconst (v := 3) hx hb dX8_premise_37 (by decide) ?_
    refine lv_icmp_ne (tgt := 65) hx hb dX8_premise_38 (by decide) (fun _ => ?_) (fun c38 => absurd c38 (by decide))
    refine lv_iload_n hx hb dX8_premise_65 rfl (lv_at hl 5 rfl) ?_
    refine lv_iconst (v := 4) hx hb dX8_premise_66 (by decide) ?_
    refine lv_icmp_ne (tgt := 80) hx hb dX8_premise_67 (by decide) (fun _ => ?_) (fun c67 => absurd c67 (by decide))
    refine lv_iload hx hb dX8_premise_80 (lv_at hl 3 rfl) ?_
    refine r_callVv (ci := 8) (As := [.int (nI goal)]) hx hb hml hown hts hK hA hs (22) (by omega) (md22 hM) rfl rfl (c_X8_open l G hM (gl := goal) (by omega) hR) (cwV 1 hts (tbV w_ml_RX8_133 w_im_yX8_open w_se_yX8_open w_ini_RX8 w_cd_yX8_open) rfl rfl rfl (by decide +kernel) ⟨Nat.le_of_ble_eq_true rfl, Nat.le_of_ble_eq_true rfl⟩) rfl hl.1 rfl (Nat.le_of_ble_eq_true rfl) dX8_premise_82 ⟨Nat.le_refl _, Nat.le_refl _⟩ (fun ad_26 en_27 H locs hp_28 hs => ?_)
    obtain ⟨c_25, ec_25⟩ : ∃ z, z = cOpn c d (nI goal) := ⟨_, rfl⟩
    rw [← ec_25] at hp_28
    obtain ⟨⟨hAm_29, hFm_29⟩, hMm_29⟩ := hp_28
    subst hAm_29
    have fr_30 : ∀ k, k < 22 → en_27 k = en k := fun k hk => Eq.trans (hFm_29 k hk) (fr0 k hk)
    have hRn_c_25 : RowM c_25 (d + 1) Γ := by rw [ec_25]; exact opn_row hR
    refine lv_iload_n hx hb dX8_premise_85 rfl (lv_at hl 5 rfl) ?_
    refine lv_iconst (v := 4) hx hb dX8_premise_86 (by decide) ?_
    refine lv_icmp_ne (tgt := 104) hx hb dX8_premise_87 (by decide) (fun _ => ?_) (fun c87 => absurd c87 (by decide))
    refine lv_iload_n hx hb dX8_premise_104 rfl (lv_at hl 5 rfl) ?_
    refine lv_iconst (v := 4) hx hb dX8_premise_105 (by decide) ?_
    refine lv_icmp_le (tgt := 117) hx hb dX8_premise_106 (by decide) (fun c106 => absurd c106 (by decide)) (fun _ => ?_)
    refine lv_aload_n hx hb dX8_premise_109 rfl (lv_at hl 4 rfl) ?_
    refine lv_iload hx hb dX8_premise_110 (lv_at hl 0 rfl) ?_
    refine lv_iload_n hx hb dX8_premise_112 rfl (lv_at hl 6 rfl) ?_
    refine lv_iconst (v := 0) hx hb dX8_premise_113 (by decide) ?_
    refine r_callVv (ci := 8) (As := [.int (nI (d + 1)), .int (nI aa), .int (0)]) hx hb hml hown hts hK hA hs (22) (by omega) (md22 hMm_29) rfl rfl (c_X8_set l G hMm_29 (d := (d + 1)) (f := aa) (by omega) (by omega) false) (cwV 3 hts (tbV w_ml_RX8_137 w_im_yX8_set w_se_yX8_set w_ini_RX8 w_cd_yX8_set) rfl rfl rfl (by decide +kernel) ⟨Nat.le_of_ble_eq_true rfl, Nat.le_of_ble_eq_true rfl⟩) rfl hl.1 rfl (Nat.le_of_ble_eq_true rfl) dX8_premise_114 ⟨Nat.le_refl _, Nat.le_refl _⟩ (fun ad_32 en_33 H locs hp_34 hs => ?_)
    obtain ⟨c_31, ec_31⟩ : ∃ z, z = cSet c_25 (d + 1) aa false := ⟨_, rfl⟩
    rw [← ec_31] at hp_34
    obtain ⟨⟨hAm_35, hFm_35⟩, hMm_35⟩ := hp_34
    subst hAm_35
    have fr_36 : ∀ k, k < 22 → en_33 k = en k := fun k hk => Eq.trans (hFm_35 k hk) (fr_30 k hk)
    have hRn_c_31 : RowM c_31 (d + 1) (gDel Γ aa) := by rw [ec_31]; exact row_del hRn_c_25 (by omega)
    refine lv_iload_n hx hb dX8_premise_117 rfl (lv_at hl 5 rfl) ?_
    refine lv_iconst (v := 5) hx hb dX8_premise_118 (by decide) ?_
    refine lv_icmp_ne (tgt := 143) hx hb dX8_premise_119 (by decide) (fun c119 => absurd (by decide) c119) (fun _ => ?_)
    refine lv_aload_n hx hb dX8_premise_122 rfl (lv_at hl 4 rfl) ?_
    refine lv_iload hx hb dX8_premise_123 (lv_at hl 0 rfl) ?_
    refine lv_iload hx hb dX8_premise_125 (lv_at hl 2 rfl) ?_
    refine lv_iconst (v := 1) hx hb dX8_premise_127 (by decide) ?_
    refine r_callVv (ci := 8) (As := [.int (nI (d + 1)), .int (nI (sL ss (aa))), .int (1)]) hx hb hml hown hts hK hA hs (22) (by omega) (md22 hMm_35) rfl rfl (c_X8_set l G hMm_35 (d := (d + 1)) (f := (sL ss (aa))) (by omega) (by omega) true) (cwV 3 hts (tbV w_ml_RX8_137 w_im_yX8_set w_se_yX8_set w_ini_RX8 w_cd_yX8_set) rfl rfl rfl (by decide +kernel) ⟨Nat.le_of_ble_eq_true rfl, Nat.le_of_ble_eq_true rfl⟩) rfl hl.1 rfl (Nat.le_of_ble_eq_true rfl) dX8_premise_128 ⟨Nat.le_refl _, Nat.le_refl _⟩ (fun ad_38 en_39 H locs hp_40 hs => ?_)
    obtain ⟨c_37, ec_37⟩ : ∃ z, z = cSet c_31 (d + 1) (sL ss (aa)) true := ⟨_, rfl⟩
    rw [← ec_37] at hp_40
    obtain ⟨⟨hAm_41, hFm_41⟩, hMm_41⟩ := hp_40
    subst hAm_41
    have fr_42 : ∀ k, k < 22 → en_39 k = en k := fun k hk => Eq.trans (hFm_41 k hk) (fr_36 k hk)
    have hRn_c_37 : RowM c_37 (d + 1) (gAdd (gDel Γ aa) (sL ss (aa))) := by rw [ec_37]; exact row_add hRn_c_31 (by omega)
    refine lv_aload_n hx hb dX8_premise_131 rfl (lv_at hl 4 rfl) ?_
    refine lv_iload hx hb dX8_premise_132 (lv_at hl 0 rfl) ?_
    refine lv_iload hx hb dX8_premise_134 (lv_at hl 1 rfl) ?_
    refine lv_iconst (v := 1) hx hb dX8_premise_136 (by decide) ?_
    refine r_callVv (ci := 8) (As := [.int (nI (d + 1)), .int (nI (sR ss (aa))), .int (1)]) hx hb hml hown hts hK hA hs (22) (by omega) (md22 hMm_41) rfl rfl (c_X8_set l G hMm_41 (d := (d + 1)) (f := (sR ss (aa))) (by omega) (by omega) true) (cwV 3 hts (tbV w_ml_RX8_137 w_im_yX8_set w_se_yX8_set w_ini_RX8 w_cd_yX8_set) rfl rfl rfl (by decide +kernel) ⟨Nat.le_of_ble_eq_true rfl, Nat.le_of_ble_eq_true rfl⟩) rfl hl.1 rfl (Nat.le_of_ble_eq_true rfl) dX8_premise_137 ⟨Nat.le_refl _, Nat.le_refl _⟩ (fun ad_44 en_45 H locs hp_46 hs => ?_)
    obtain ⟨c_43, ec_43⟩ : ∃ z, z = cSet c_37 (d + 1) (sR ss (aa)) true := ⟨_, rfl⟩
    rw [← ec_43] at hp_46
    obtain ⟨⟨hAm_47, hFm_47⟩, hMm_47⟩ := hp_46
    subst hAm_47
    have fr_48 : ∀ k, k < 22 → en_45 k = en k := fun k hk => Eq.trans (hFm_47 k hk) (fr_42 k hk)
    have hRn_c_43 : RowM c_43 (d + 1) (gAdd (gAdd (gDel Γ aa) (sL ss (aa))) (sR ss (aa))) := by rw [ec_43]; exact row_add hRn_c_37 (by omega)
    refine lv_goto (tgt := 278) hx hb dX8_premise_140 (by decide) ?_
    refine r_vret (mc := 0) (ms := 0) hx hb hr hlk hs (Nat.le_refl _) (Nat.le_refl _) dX8_premise_278 hQ ?_
    exact pr_so hB fr_48 hMm_47 (fun r t h1 h2 => by rw [ec_43, cSet_o (by omega), ec_37, cSet_o (by omega), ec_31, cSet_o (by omega), ec_25, opn_o (by omega)]) hRn_c_43 (by rw [show (brg ss 5 (0 + 1) aa).2 = ss from congrArg Prod.snd hB]; show _ = gPar ss 5 (0 + 1) _ (gAdd (gAdd (gDel Γ aa) 0) 0); rw [gAdd_0, gAdd_0]; rfl) (by rw [ec_43, cSet_o (Or.inl (by decide)), ec_37, cSet_o (Or.inl (by decide)), ec_31, cSet_o (Or.inl (by decide)), ec_25, opn_w]; exact congrArg nI (by rw [hB]; rfl))
  · have ha : aa = f := ha
    subst ha
    have hfr := hΓ aa (wy_G hwy (by decide))
    have hfl : aa ≤ 600 := by omega
    have hB : brg ss 6 (0 + 1) aa = (some (0, 0), ss) := brgx (by decide) (by decide) (by decide)
    have hLa := sLR_lt hok aa
    have hLg := sLR_lt hok goal
    refine lv_aload_n hx hb dX8_premise_0 rfl (lv_at hl 0 rfl) ?_
    refine r_get (ci := 8) (v := .ref (ad 32)) (C := RX8) (T := TX8) (N := 31) hx hb hts inlX8 hown hK hs (22) (by omega) (md22 hM) rfl 13 (by decide) (hts _ w_fl_RX8_39) rfl dX8_premise_1 ?_
    refine lv_aload_n hx hb dX8_premise_4 rfl (lv_at hl 0 rfl) ?_
    refine r_get (ci := 8) (v := .int (nI d)) (C := RX8) (T := TX8) (N := 31) hx hb hts inlX8 hown hK hs (22) (by omega) (md22 hM) rfl 17 (by decide) (hts _ w_fl_RX8_109) rfl dX8_premise_5 ?_
    refine r_ialdN (t := d) hx hb hK hs (32) (by omega) (md32 hM) (rfl) (by omega) (by omega) dX8_premise_8 ?_
    refine r_topi (y := nI goal) (hwa) ?_
    refine lv_istore (lv' := [(4, .int (nI goal)), (0, .ref (ad 22)), (1, .int (nI 6)), (2, .int (nI aa)), (3, .int (nI 0))]) hx hb dX8_premise_9 hl (by decide) rfl (fun ls hl => ?_)
    refine lv_aload_n hx hb dX8_premise_11 rfl (lv_at hl 1 rfl) ?_
    refine r_get (ci := 8) (v := .ref (ad 24)) (C := RX8) (T := TX8) (N := 31) hx hb hts inlX8 hown hK hs (22) (by omega) (md22 hM) rfl 1 (by decide) (hts _ w_fl_RX8_13) rfl dX8_premise_12 ?_
    refine lv_iload_n hx hb dX8_premise_15 rfl (lv_at hl 3 rfl) ?_
    refine r_ialdN (t := aa) hx hb hK hs (24) (by omega) (md24 hM) (rfl) (by omega) (by omega) dX8_premise_16 ?_
    refine r_topi (y := nI (sL ss (aa))) rfl ?_
    refine lv_istore (lv' := [(5, .int (nI (sL ss (aa)))), (4, .int (nI goal)), (0, .ref (ad 22)), (1, .int (nI 6)), (2, .int (nI aa)), (3, .int (nI 0))]) hx hb dX8_premise_17 hl (by decide) rfl (fun ls hl => ?_)
    refine lv_aload_n hx hb dX8_premise_19 rfl (lv_at hl 2 rfl) ?_
    refine r_get (ci := 8) (v := .ref (ad 25)) (C := RX8) (T := TX8) (N := 31) hx hb hts inlX8 hown hK hs (22) (by omega) (md22 hM) rfl 2 (by decide) (hts _ w_fl_RX8_16) rfl dX8_premise_20 ?_
    refine lv_iload_n hx hb dX8_premise_23 rfl (lv_at hl 4 rfl) ?_
    refine r_ialdN (t := aa) hx hb hK hs (25) (by omega) (md25 hM) (rfl) (by omega) (by omega) dX8_premise_24 ?_
    refine r_topi (y := nI (sR ss (aa))) rfl ?_
    refine lv_istore (lv' := [(6, .int (nI (sR ss (aa)))), (5, .int (nI (sL ss (aa)))), (4, .int (nI goal)), (0, .ref (ad 22)), (1, .int (nI 6)), (2, .int (nI aa)), (3, .int (nI 0))]) hx hb dX8_premise_25 hl (by decide) rfl (fun ls hl => ?_)
    refine lv_aload_n hx hb dX8_premise_27 rfl (lv_at hl 3 rfl) ?_
    refine r_get (ci := 8) (v := .int (nI d)) (C := RX8) (T := TX8) (N := 31) hx hb hts inlX8 hown hK hs (22) (by omega) (md22 hM) rfl 17 (by decide) (hts _ w_fl_RX8_109) rfl dX8_premise_28 ?_
    refine lv_iconst (v := 1) hx hb dX8_premise_31 (by decide) ?_
    refine lv_iadd hx hb dX8_premise_32 ?_
    refine r_topi (y := nI (d + 1)) (nI_add _ _) ?_
    refine lv_istore (lv' := [(7, .int (nI (d + 1))), (6, .int (nI (sR ss (aa)))), (5, .int (nI (sL ss (aa)))), (4, .int (nI goal)), (0, .ref (ad 22)), (1, .int (nI 6)), (2, .int (nI aa)), (3, .int (nI 0))]) hx hb dX8_premise_33 hl (by decide) rfl (fun ls hl => ?_)
    refine lv_aload_n hx hb dX8_premise_35 rfl (lv_at hl 4 rfl) ?_
    refine lv_iload_n hx hb dX8_premise_36 rfl (lv_at hl 5 rfl) ?_
    refine lv_iconst (v := 3) hx hb dX8_premise_37 (by decide) ?_
    refine lv_icmp_ne (tgt := 65) hx hb dX8_premise_38 (by decide) (fun _ => ?_) (fun c38 => absurd c38 (by decide))
    refine lv_iload_n hx hb dX8_premise_65 rfl (lv_at hl 5 rfl) ?_
    refine lv_iconst (v := 4) hx hb dX8_premise_66 (by decide) ?_
    refine lv_icmp_ne (tgt := 80) hx hb dX8_premise_67 (by decide) (fun _ => ?_) (fun c67 => absurd c67 (by decide))
    refine lv_iload hx hb dX8_premise_80 (lv_at hl 3 rfl) ?_
    refine r_callVv (ci := 8) (As := [.int (nI goal)]) hx hb hml hown hts hK hA hs (22) (by omega) (md22 hM) rfl rfl (c_X8_open l G hM (gl := goal) (by omega) hR) (cwV 1 hts (tbV w_ml_RX8_133 w_im_yX8_open w_se_yX8_open w_ini_RX8 w_cd_yX8_open) rfl rfl rfl (by decide +kernel) ⟨Nat.le_of_ble_eq_true rfl, Nat.le_of_ble_eq_true rfl⟩) rfl hl.1 rfl (Nat.le_of_ble_eq_true rfl) dX8_premise_82 ⟨Nat.le_refl _, Nat.le_refl _⟩ (fun ad_50 en_51 H locs hp_52 hs => ?_)
    obtain ⟨c_49, ec_49⟩ : ∃ z, z = cOpn c d (nI goal) := ⟨_, rfl⟩
    rw [← ec_49] at hp_52
    obtain ⟨⟨hAm_53, hFm_53⟩, hMm_53⟩ := hp_52
    subst hAm_53
    have fr_54 : ∀ k, k < 22 → en_51 k = en k := fun k hk => Eq.trans (hFm_53 k hk) (fr0 k hk)
    have hRn_c_49 : RowM c_49 (d + 1) Γ := by rw [ec_49]; exact opn_row hR
    refine lv_iload_n hx hb dX8_premise_85 rfl (lv_at hl 5 rfl) ?_
    refine lv_iconst (v := 4) hx hb dX8_premise_86 (by decide) ?_
    refine lv_icmp_ne (tgt := 104) hx hb dX8_premise_87 (by decide) (fun _ => ?_) (fun c87 => absurd c87 (by decide))
    refine lv_iload_n hx hb dX8_premise_104 rfl (lv_at hl 5 rfl) ?_
    refine lv_iconst (v := 4) hx hb dX8_premise_105 (by decide) ?_
    refine lv_icmp_le (tgt := 117) hx hb dX8_premise_106 (by decide) (fun c106 => absurd c106 (by decide)) (fun _ => ?_)
    refine lv_aload_n hx hb dX8_premise_109 rfl (lv_at hl 4 rfl) ?_
    refine lv_iload hx hb dX8_premise_110 (lv_at hl 0 rfl) ?_
    refine lv_iload_n hx hb dX8_premise_112 rfl (lv_at hl 6 rfl) ?_
    refine lv_iconst (v := 0) hx hb dX8_premise_113 (by decide) ?_
    refine r_callVv (ci := 8) (As := [.int (nI (d + 1)), .int (nI aa), .int (0)]) hx hb hml hown hts hK hA hs (22) (by omega) (md22 hMm_53) rfl rfl (c_X8_set l G hMm_53 (d := (d + 1)) (f := aa) (by omega) (by omega) false) (cwV 3 hts (tbV w_ml_RX8_137 w_im_yX8_set w_se_yX8_set w_ini_RX8 w_cd_yX8_set) rfl rfl rfl (by decide +kernel) ⟨Nat.le_of_ble_eq_true rfl, Nat.le_of_ble_eq_true rfl⟩) rfl hl.1 rfl (Nat.le_of_ble_eq_true rfl) dX8_premise_114 ⟨Nat.le_refl _, Nat.le_refl _⟩ (fun ad_56 en_57 H locs hp_58 hs => ?_)
    obtain ⟨c_55, ec_55⟩ : ∃ z, z = cSet c_49 (d + 1) aa false := ⟨_, rfl⟩
    rw [← ec_55] at hp_58
    obtain ⟨⟨hAm_59, hFm_59⟩, hMm_59⟩ := hp_58
    subst hAm_59
    have fr_60 : ∀ k, k < 22 → en_57 k = en k := fun k hk => Eq.trans (hFm_59 k hk) (fr_54 k hk)
    have hRn_c_55 : RowM c_55 (d + 1) (gDel Γ aa) := by rw [ec_55]; exact row_del hRn_c_49 (by omega)
    refine lv_iload_n hx hb dX8_premise_117 rfl (lv_at hl 5 rfl) ?_
    refine lv_iconst (v := 5) hx hb dX8_premise_118 (by decide) ?_
    refine lv_icmp_ne (tgt := 143) hx hb dX8_premise_119 (by decide) (fun _ => ?_) (fun c119 => absurd c119 (by decide))
    refine lv_iload_n hx hb dX8_premise_143 rfl (lv_at hl 5 rfl) ?_
    refine lv_bipush (v := 6) hx hb dX8_premise_144 (by decide) ?_
    refine lv_icmp_ne (tgt := 170) hx hb dX8_premise_146 (by decide) (fun c146 => absurd (by decide) c146) (fun _ => ?_)
    refine lv_aload_n hx hb dX8_premise_149 rfl (lv_at hl 4 rfl) ?_
    refine lv_iload hx hb dX8_premise_150 (lv_at hl 0 rfl) ?_
    refine lv_iload_n hx hb dX8_premise_152 rfl (lv_at hl 7 rfl) ?_
    refine lv_if_ne (tgt := 161) hx hb dX8_premise_153 (by decide) (fun c153 => absurd (by decide) c153) (fun _ => ?_)
    refine lv_iload hx hb dX8_premise_156 (lv_at hl 2 rfl) ?_
    refine lv_goto (tgt := 163) hx hb dX8_premise_158 (by decide) ?_
    refine lv_iconst (v := 1) hx hb dX8_premise_163 (by decide) ?_
    refine r_callVv (ci := 8) (As := [.int (nI (d + 1)), .int (nI (sL ss (aa))), .int (1)]) hx hb hml hown hts hK hA hs (22) (by omega) (md22 hMm_59) rfl rfl (c_X8_set l G hMm_59 (d := (d + 1)) (f := (sL ss (aa))) (by omega) (by omega) true) (cwV 3 hts (tbV w_ml_RX8_137 w_im_yX8_set w_se_yX8_set w_ini_RX8 w_cd_yX8_set) rfl rfl rfl (by decide +kernel) ⟨Nat.le_of_ble_eq_true rfl, Nat.le_of_ble_eq_true rfl⟩) rfl hl.1 rfl (Nat.le_of_ble_eq_true rfl) dX8_premise_164 ⟨Nat.le_refl _, Nat.le_refl _⟩ (fun ad_62 en_63 H locs hp_64 hs => ?_)
    obtain ⟨c_61, ec_61⟩ : ∃ z, z = cSet c_55 (d + 1) (sL ss (aa)) true := ⟨_, rfl⟩
    rw [← ec_61] at hp_64
    obtain ⟨⟨hAm_65, hFm_65⟩, hMm_65⟩ := hp_64
    subst hAm_65
    have fr_66 : ∀ k, k < 22 → en_63 k = en k := fun k hk => Eq.trans (hFm_65 k hk) (fr_60 k hk)
    have hRn_c_61 : RowM c_61 (d + 1) (gAdd (gDel Γ aa) (sL ss (aa))) := by rw [ec_61]; exact row_add hRn_c_55 (by omega)
    refine lv_goto (tgt := 278) hx hb dX8_premise_167 (by decide) ?_
    refine r_vret (mc := 0) (ms := 0) hx hb hr hlk hs (Nat.le_refl _) (Nat.le_refl _) dX8_premise_278 hQ ?_
    exact pr_so hB fr_66 hMm_65 (fun r t h1 h2 => by rw [ec_61, cSet_o (by omega), ec_55, cSet_o (by omega), ec_49, opn_o (by omega)]) hRn_c_61 (by rw [show (brg ss 6 (0 + 1) aa).2 = ss from congrArg Prod.snd hB]; show _ = gPar ss 6 (0 + 1) _ (gAdd (gAdd (gDel Γ aa) 0) 0); rw [gAdd_0, gAdd_0]; rfl) (by rw [ec_61, cSet_o (Or.inl (by decide)), ec_55, cSet_o (Or.inl (by decide)), ec_49, opn_w]; exact congrArg nI (by rw [hB]; rfl))
  · have ha : aa = f := ha
    subst ha
    have hfr := hΓ aa (wy_G hwy (by decide))
    have hfl : aa ≤ 600 := by omega
    have hB : brg ss 6 (1 + 1) aa = (some (0, 0), ss) := brgx (by decide) (by decide) (by decide)
    have hLa := sLR_lt hok aa
    have hLg := sLR_lt hok goal
    refine lv_aload_n hx hb dX8_premise_0 rfl (lv_at hl 0 rfl) ?_
    refine r_get (ci := 8) (v := .ref (ad 32)) (C := RX8) (T := TX8) (N := 31) hx hb hts inlX8 hown hK hs (22) (by omega) (md22 hM) rfl 13 (by decide) (hts _ w_fl_RX8_39) rfl dX8_premise_1 ?_
    refine lv_aload_n hx hb dX8_premise_4 rfl (lv_at hl 0 rfl) ?_
    refine r_get (ci := 8) (v := .int (nI d)) (C := RX8) (T := TX8) (N := 31) hx hb hts inlX8 hown hK hs (22) (by omega) (md22 hM) rfl 17 (by decide) (hts _ w_fl_RX8_109) rfl dX8_premise_5 ?_
    refine r_ialdN (t := d) hx hb hK hs (32) (by omega) (md32 hM) (rfl) (by omega) (by omega) dX8_premise_8 ?_
    refine r_topi (y := nI goal) (hwa) ?_
    refine lv_istore (lv' := [(4, .int (nI goal)), (0, .ref (ad 22)), (1, .int (nI 6)), (2, .int (nI aa)), (3, .int (nI 1))]) hx hb dX8_premise_9 hl (by decide) rfl (fun ls hl => ?_)
    refine lv_aload_n hx hb dX8_premise_11 rfl (lv_at hl 1 rfl) ?_
    refine r_get (ci := 8) (v := .ref (ad 24)) (C := RX8) (T := TX8) (N := 31) hx hb hts inlX8 hown hK hs (22) (by omega) (md22 hM) rfl 1 (by decide) (hts _ w_fl_RX8_13) rfl dX8_premise_12 ?_
    refine lv_iload_n hx hb dX8_premise_15 rfl (lv_at hl 3 rfl) ?_
    refine r_ialdN (t := aa) hx hb hK hs (24) (by omega) (md24 hM) (rfl) (by omega) (by omega) dX8_premise_16 ?_
    refine r_topi (y := nI (sL ss (aa))) rfl ?_
    refine lv_istore (lv' := [(5, .int (nI (sL ss (aa)))), (4, .int (nI goal)), (0, .ref (ad 22)), (1, .int (nI 6)), (2, .int (nI aa)), (3, .int (nI 1))]) hx hb dX8_premise_17 hl (by decide) rfl (fun ls hl => ?_)
    refine lv_aload_n hx hb dX8_premise_19 rfl (lv_at hl 2 rfl) ?_
    refine r_get (ci := 8) (v := .ref (ad 25)) (C := RX8) (T := TX8) (N := 31) hx hb hts inlX8 hown hK hs (22) (by omega) (md22 hM) rfl 2 (by decide) (hts _ w_fl_RX8_16) rfl dX8_premise_20 ?_
    refine lv_iload_n hx hb dX8_premise_23 rfl (lv_at hl 4 rfl) ?_
    refine r_ialdN (t := aa) hx hb hK hs (25) (by omega) (md25 hM) (rfl) (by omega) (by omega) dX8_premise_24 ?_
    refine r_topi (y := nI (sR ss (aa))) rfl ?_
    refine lv_istore (lv' := [(6, .int (nI (sR ss (aa)))), (5, .int (nI (sL ss (aa)))), (4, .int (nI goal)), (0, .ref (ad 22)), (1, .int (nI 6)), (2, .int (nI aa)), (3, .int (nI 1))]) hx hb dX8_premise_25 hl (by decide) rfl (fun ls hl => ?_)
    refine lv_aload_n hx hb dX8_premise_27 rfl (lv_at hl 3 rfl) ?_
    refine r_get (ci := 8) (v := .int (nI d)) (C := RX8) (T := TX8) (N := 31) hx hb hts inlX8 hown hK hs (22) (by omega) (md22 hM) rfl 17 (by decide) (hts _ w_fl_RX8_109) rfl dX8_premise_28 ?_
    refine lv_iconst (v := 1) hx hb dX8_premise_31 (by decide) ?_
    refine lv_iadd hx hb dX8_premise_32 ?_
    refine r_topi (y := nI (d + 1)) (nI_add _ _) ?_
    refine lv_istore (lv' := [(7, .int (nI (d + 1))), (6, .int (nI (sR ss (aa)))), (5, .int (nI (sL ss (aa)))), (4, .int (nI goal)), (0, .ref (ad 22)), (1, .int (nI 6)), (2, .int (nI aa)), (3, .int (nI 1))]) hx hb dX8_premise_33 hl (by decide) rfl (fun ls hl => ?_)
    refine lv_aload_n hx hb dX8_premise_35 rfl (lv_at hl 4 rfl) ?_
    refine lv_iload_n hx hb dX8_premise_36 rfl (lv_at hl 5 rfl) ?_
    refine lv_iconst (v := 3) hx hb dX8_premise_37 (by decide) ?_
    refine lv_icmp_ne (tgt := 65) hx hb dX8_premise_38 (by decide) (fun _ => ?_) (fun c38 => absurd c38 (by decide))
    refine lv_iload_n hx hb dX8_premise_65 rfl (lv_at hl 5 rfl) ?_
    refine lv_iconst (v := 4) hx hb dX8_premise_66 (by decide) ?_
    refine lv_icmp_ne (tgt := 80) hx hb dX8_premise_67 (by decide) (fun _ => ?_) (fun c67 => absurd c67 (by decide))
    refine lv_iload hx hb dX8_premise_80 (lv_at hl 3 rfl) ?_
    refine r_callVv (ci := 8) (As := [.int (nI goal)]) hx hb hml hown hts hK hA hs (22) (by omega) (md22 hM) rfl rfl (c_X8_open l G hM (gl := goal) (by omega) hR) (cwV 1 hts (tbV w_ml_RX8_133 w_im_yX8_open w_se_yX8_open w_ini_RX8 w_cd_yX8_open) rfl rfl rfl (by decide +kernel) ⟨Nat.le_of_ble_eq_true rfl, Nat.le_of_ble_eq_true rfl⟩) rfl hl.1 rfl (Nat.le_of_ble_eq_true rfl) dX8_premise_82 ⟨Nat.le_refl _, Nat.le_refl _⟩ (fun ad_68 en_69 H locs hp_70 hs => ?_)
    obtain ⟨c_67, ec_67⟩ : ∃ z, z = cOpn c d (nI goal) := ⟨_, rfl⟩
    rw [← ec_67] at hp_70
    obtain ⟨⟨hAm_71, hFm_71⟩, hMm_71⟩ := hp_70
    subst hAm_71
    have fr_72 : ∀ k, k < 22 → en_69 k = en k := fun k hk => Eq.trans (hFm_71 k hk) (fr0 k hk)
    have hRn_c_67 : RowM c_67 (d + 1) Γ := by rw [ec_67]; exact opn_row hR
    refine lv_iload_n hx hb dX8_premise_85 rfl (lv_at hl 5 rfl) ?_
    refine lv_iconst (v := 4) hx hb dX8_premise_86 (by decide) ?_
    refine lv_icmp_ne (tgt := 104) hx hb dX8_premise_87 (by decide) (fun _ => ?_) (fun c87 => absurd c87 (by decide))
    refine lv_iload_n hx hb dX8_premise_104 rfl (lv_at hl 5 rfl) ?_
    refine lv_iconst (v := 4) hx hb dX8_premise_105 (by decide) ?_
    refine lv_icmp_le (tgt := 117) hx hb dX8_premise_106 (by decide) (fun c106 => absurd c106 (by decide)) (fun _ => ?_)
    refine lv_aload_n hx hb dX8_premise_109 rfl (lv_at hl 4 rfl) ?_
    refine lv_iload hx hb dX8_premise_110 (lv_at hl 0 rfl) ?_
    refine lv_iload_n hx hb dX8_premise_112 rfl (lv_at hl 6 rfl) ?_
    refine lv_iconst (v := 0) hx hb dX8_premise_113 (by decide) ?_
    refine r_callVv (ci := 8) (As := [.int (nI (d + 1)), .int (nI aa), .int (0)]) hx hb hml hown hts hK hA hs (22) (by omega) (md22 hMm_71) rfl rfl (c_X8_set l G hMm_71 (d := (d + 1)) (f := aa) (by omega) (by omega) false) (cwV 3 hts (tbV w_ml_RX8_137 w_im_yX8_set w_se_yX8_set w_ini_RX8 w_cd_yX8_set) rfl rfl rfl (by decide +kernel) ⟨Nat.le_of_ble_eq_true rfl, Nat.le_of_ble_eq_true rfl⟩) rfl hl.1 rfl (Nat.le_of_ble_eq_true rfl) dX8_premise_114 ⟨Nat.le_refl _, Nat.le_refl _⟩ (fun ad_74 en_75 H locs hp_76 hs => ?_)
    obtain ⟨c_73, ec_73⟩ : ∃ z, z = cSet c_67 (d + 1) aa false := ⟨_, rfl⟩
    rw [← ec_73] at hp_76
    obtain ⟨⟨hAm_77, hFm_77⟩, hMm_77⟩ := hp_76
    subst hAm_77
    have fr_78 : ∀ k, k < 22 → en_75 k = en k := fun k hk => Eq.trans (hFm_77 k hk) (fr_72 k hk)
    have hRn_c_73 : RowM c_73 (d + 1) (gDel Γ aa) := by rw [ec_73]; exact row_del hRn_c_67 (by omega)
    refine lv_iload_n hx hb dX8_premise_117 rfl (lv_at hl 5 rfl) ?_
    refine lv_iconst (v := 5) hx hb dX8_premise_118 (by decide) ?_
    refine lv_icmp_ne (tgt := 143) hx hb dX8_premise_119 (by decide) (fun _ => ?_) (fun c119 => absurd c119 (by decide))
    refine lv_iload_n hx hb dX8_premise_143 rfl (lv_at hl 5 rfl) ?_
    refine lv_bipush (v := 6) hx hb dX8_premise_144 (by decide) ?_
    refine lv_icmp_ne (tgt := 170) hx hb dX8_premise_146 (by decide) (fun c146 => absurd (by decide) c146) (fun _ => ?_)
    refine lv_aload_n hx hb dX8_premise_149 rfl (lv_at hl 4 rfl) ?_
    refine lv_iload hx hb dX8_premise_150 (lv_at hl 0 rfl) ?_
    refine lv_iload_n hx hb dX8_premise_152 rfl (lv_at hl 7 rfl) ?_
    refine lv_if_ne (tgt := 161) hx hb dX8_premise_153 (by decide) (fun _ => ?_) (fun c153 => absurd c153 (by decide))
    refine lv_iload hx hb dX8_premise_161 (lv_at hl 1 rfl) ?_
    refine lv_iconst (v := 1) hx hb dX8_premise_163 (by decide) ?_
    refine r_callVv (ci := 8) (As := [.int (nI (d + 1)), .int (nI (sR ss (aa))), .int (1)]) hx hb hml hown hts hK hA hs (22) (by omega) (md22 hMm_77) rfl rfl (c_X8_set l G hMm_77 (d := (d + 1)) (f := (sR ss (aa))) (by omega) (by omega) true) (cwV 3 hts (tbV w_ml_RX8_137 w_im_yX8_set w_se_yX8_set w_ini_RX8 w_cd_yX8_set) rfl rfl rfl (by decide +kernel) ⟨Nat.le_of_ble_eq_true rfl, Nat.le_of_ble_eq_true rfl⟩) rfl hl.1 rfl (Nat.le_of_ble_eq_true rfl) dX8_premise_164 ⟨Nat.le_refl _, Nat.le_refl _⟩ (fun ad_80 en_81 H locs hp_82 hs => ?_)
    obtain ⟨c_79, ec_79⟩ : ∃ z, z = cSet c_73 (d + 1) (sR ss (aa)) true := ⟨_, rfl⟩
    rw [← ec_79] at hp_82
    obtain ⟨⟨hAm_83, hFm_83⟩, hMm_83⟩ := hp_82
    subst hAm_83
    have fr_84 : ∀ k, k < 22 → en_81 k = en k := fun k hk => Eq.trans (hFm_83 k hk) (fr_78 k hk)
    have hRn_c_79 : RowM c_79 (d + 1) (gAdd (gDel Γ aa) (sR ss (aa))) := by rw [ec_79]; exact row_add hRn_c_73 (by omega)
    refine lv_goto (tgt := 278) hx hb dX8_premise_167 (by decide) ?_
    refine r_vret (mc := 0) (ms := 0) hx hb hr hlk hs (Nat.le_refl _) (Nat.le_refl _) dX8_premise_278 hQ ?_
    exact pr_so hB fr_84 hMm_83 (fun r t h1 h2 => by rw [ec_79, cSet_o (by omega), ec_73, cSet_o (by omega), ec_67, opn_o (by omega)]) hRn_c_79 (by rw [show (brg ss 6 (1 + 1) aa).2 = ss from congrArg Prod.snd hB]; show _ = gPar ss 6 (1 + 1) _ (gAdd (gAdd (gDel Γ aa) 0) 0); rw [gAdd_0, gAdd_0]; rfl) (by rw [ec_79, cSet_o (Or.inl (by decide)), ec_73, cSet_o (Or.inl (by decide)), ec_67, opn_w]; exact congrArg nI (by rw [hB]; rfl))
  · have ha : aa = f := ha
    subst ha
    have hfr := hΓ aa (wy_G hwy (by decide))
    have hfl : aa ≤ 600 := by omega
    have hB : brg ss 7 (0 + 1) aa = (some (0, 0), ss) := brgx (by decide) (by decide) (by decide)
    have hLa := sLR_lt hok aa
    have hLg := sLR_lt hok goal
    refine lv_aload_n hx hb dX8_premise_0 rfl (lv_at hl 0 rfl) ?_
    refine r_get (ci := 8) (v := .ref (ad 32)) (C := RX8) (T := TX8) (N := 31) hx hb hts inlX8 hown hK hs (22) (by omega) (md22 hM) rfl 13 (by decide) (hts _ w_fl_RX8_39) rfl dX8_premise_1 ?_
    refine lv_aload_n hx hb dX8_premise_4 rfl (lv_at hl 0 rfl) ?_
    refine r_get (ci := 8) (v := .int (nI d)) (C := RX8) (T := TX8) (N := 31) hx hb hts inlX8 hown hK hs (22) (by omega) (md22 hM) rfl 17 (by decide) (hts _ w_fl_RX8_109) rfl dX8_premise_5 ?_
    refine r_ialdN (t := d) hx hb hK hs (32) (by omega) (md32 hM) (rfl) (by omega) (by omega) dX8_premise_8 ?_
    refine r_topi (y := nI goal) (hwa) ?_
    refine lv_istore (lv' := [(4, .int (nI goal)), (0, .ref (ad 22)), (1, .int (nI 7)), (2, .int (nI aa)), (3, .int (nI 0))]) hx hb dX8_premise_9 hl (by decide) rfl (fun ls hl => ?_)
    refine lv_aload_n hx hb dX8_premise_11 rfl (lv_at hl 1 rfl) ?_
    refine r_get (ci := 8) (v := .ref (ad 24)) (C := RX8) (T := TX8) (N := 31) hx hb hts inlX8 hown hK hs (22) (by omega) (md22 hM) rfl 1 (by decide) (hts _ w_fl_RX8_13) rfl dX8_premise_12 ?_
    refine lv_iload_n hx hb dX8_premise_15 rfl (lv_at hl 3 rfl) ?_
    refine r_ialdN (t := aa) hx hb hK hs (24) (by omega) (md24 hM) (rfl) (by omega) (by omega) dX8_premise_16 ?_
    refine r_topi (y := nI (sL ss (aa))) rfl ?_
    refine lv_istore (lv' := [(5, .int (nI (sL ss (aa)))), (4, .int (nI goal)), (0, .ref (ad 22)), (1, .int (nI 7)), (2, .int (nI aa)), (3, .int (nI 0))]) hx hb dX8_premise_17 hl (by decide) rfl (fun ls hl => ?_)
    refine lv_aload_n hx hb dX8_premise_19 rfl (lv_at hl 2 rfl) ?_
    refine r_get (ci := 8) (v := .ref (ad 25)) (C := RX8) (T := TX8) (N := 31) hx hb hts inlX8 hown hK hs (22) (by omega) (md22 hM) rfl 2 (by decide) (hts _ w_fl_RX8_16) rfl dX8_premise_20 ?_
    refine lv_iload_n hx hb dX8_premise_23 rfl (lv_at hl 4 rfl) ?_
    refine r_ialdN (t := aa) hx hb hK hs (25) (by omega) (md25 hM) (rfl) (by omega) (by omega) dX8_premise_24 ?_
    refine r_topi (y := nI (sR ss (aa))) rfl ?_
    refine lv_istore (lv' := [(6, .int (nI (sR ss (aa)))), (5, .int (nI (sL ss (aa)))), (4, .int (nI goal)), (0, .ref (ad 22)), (1, .int (nI 7)), (2, .int (nI aa)), (3, .int (nI 0))]) hx hb dX8_premise_25 hl (by decide) rfl (fun ls hl => ?_)
    refine lv_aload_n hx hb dX8_premise_27 rfl (lv_at hl 3 rfl) ?_
    refine r_get (ci := 8) (v := .int (nI d)) (C := RX8) (T := TX8) (N := 31) hx hb hts inlX8 hown hK hs (22) (by omega) (md22 hM) rfl 17 (by decide) (hts _ w_fl_RX8_109) rfl dX8_premise_28 ?_
    refine lv_iconst (v := 1) hx hb dX8_premise_31 (by decide) ?_
    refine lv_iadd hx hb dX8_premise_32 ?_
    refine r_topi (y := nI (d + 1)) (nI_add _ _) ?_
    refine lv_istore (lv' := [(7, .int (nI (d + 1))), (6, .int (nI (sR ss (aa)))), (5, .int (nI (sL ss (aa)))), (4, .int (nI goal)), (0, .ref (ad 22)), (1, .int (nI 7)), (2, .int (nI aa)), (3, .int (nI 0))]) hx hb dX8_premise_33 hl (by decide) rfl (fun ls hl => ?_)
    refine lv_aload_n hx hb dX8_premise_35 rfl (lv_at hl 4 rfl) ?_
    refine lv_iload_n hx hb dX8_premise_36 rfl (lv_at hl 5 rfl) ?_
    refine lv_iconst (v := 3) hx hb dX8_premise_37 (by decide) ?_
    refine lv_icmp_ne (tgt := 65) hx hb dX8_premise_38 (by decide) (fun _ => ?_) (fun c38 => absurd c38 (by decide))
    refine lv_iload_n hx hb dX8_premise_65 rfl (lv_at hl 5 rfl) ?_
    refine lv_iconst (v := 4) hx hb dX8_premise_66 (by decide) ?_
    refine lv_icmp_ne (tgt := 80) hx hb dX8_premise_67 (by decide) (fun _ => ?_) (fun c67 => absurd c67 (by decide))
    refine lv_iload hx hb dX8_premise_80 (lv_at hl 3 rfl) ?_
    refine r_callVv (ci := 8) (As := [.int (nI goal)]) hx hb hml hown hts hK hA hs (22) (by omega) (md22 hM) rfl rfl (c_X8_open l G hM (gl := goal) (by omega) hR) (cwV 1 hts (tbV w_ml_RX8_133 w_im_yX8_open w_se_yX8_open w_ini_RX8 w_cd_yX8_open) rfl rfl rfl (by decide +kernel) ⟨Nat.le_of_ble_eq_true rfl, Nat.le_of_ble_eq_true rfl⟩) rfl hl.1 rfl (Nat.le_of_ble_eq_true rfl) dX8_premise_82 ⟨Nat.le_refl _, Nat.le_refl _⟩ (fun ad_86 en_87 H locs hp_88 hs => ?_)
    obtain ⟨c_85, ec_85⟩ : ∃ z, z = cOpn c d (nI goal) := ⟨_, rfl⟩
    rw [← ec_85] at hp_88
    obtain ⟨⟨hAm_89, hFm_89⟩, hMm_89⟩ := hp_88
    subst hAm_89
    have fr_90 : ∀ k, k < 22 → en_87 k = en k := fun k hk => Eq.trans (hFm_89 k hk) (fr0 k hk)
    have hRn_c_85 : RowM c_85 (d + 1) Γ := by rw [ec_85]; exact opn_row hR
    refine lv_iload_n hx hb dX8_premise_85 rfl (lv_at hl 5 rfl) ?_
    refine lv_iconst (v := 4) hx hb dX8_premise_86 (by decide) ?_
    refine lv_icmp_ne (tgt := 104) hx hb dX8_premise_87 (by decide) (fun _ => ?_) (fun c87 => absurd c87 (by decide))
    refine lv_iload_n hx hb dX8_premise_104 rfl (lv_at hl 5 rfl) ?_
    refine lv_iconst (v := 4) hx hb dX8_premise_105 (by decide) ?_
    refine lv_icmp_le (tgt := 117) hx hb dX8_premise_106 (by decide) (fun c106 => absurd c106 (by decide)) (fun _ => ?_)
    refine lv_aload_n hx hb dX8_premise_109 rfl (lv_at hl 4 rfl) ?_
    refine lv_iload hx hb dX8_premise_110 (lv_at hl 0 rfl) ?_
    refine lv_iload_n hx hb dX8_premise_112 rfl (lv_at hl 6 rfl) ?_
    refine lv_iconst (v := 0) hx hb dX8_premise_113 (by decide) ?_
    refine r_callVv (ci := 8) (As := [.int (nI (d + 1)), .int (nI aa), .int (0)]) hx hb hml hown hts hK hA hs (22) (by omega) (md22 hMm_89) rfl rfl (c_X8_set l G hMm_89 (d := (d + 1)) (f := aa) (by omega) (by omega) false) (cwV 3 hts (tbV w_ml_RX8_137 w_im_yX8_set w_se_yX8_set w_ini_RX8 w_cd_yX8_set) rfl rfl rfl (by decide +kernel) ⟨Nat.le_of_ble_eq_true rfl, Nat.le_of_ble_eq_true rfl⟩) rfl hl.1 rfl (Nat.le_of_ble_eq_true rfl) dX8_premise_114 ⟨Nat.le_refl _, Nat.le_refl _⟩ (fun ad_92 en_93 H locs hp_94 hs => ?_)
    obtain ⟨c_91, ec_91⟩ : ∃ z, z = cSet c_85 (d + 1) aa false := ⟨_, rfl⟩
    rw [← ec_91] at hp_94
    obtain ⟨⟨hAm_95, hFm_95⟩, hMm_95⟩ := hp_94
    subst hAm_95
    have fr_96 : ∀ k, k < 22 → en_93 k = en k := fun k hk => Eq.trans (hFm_95 k hk) (fr_90 k hk)
    have hRn_c_91 : RowM c_91 (d + 1) (gDel Γ aa) := by rw [ec_91]; exact row_del hRn_c_85 (by omega)
    refine lv_iload_n hx hb dX8_premise_117 rfl (lv_at hl 5 rfl) ?_
    refine lv_iconst (v := 5) hx hb dX8_premise_118 (by decide) ?_
    refine lv_icmp_ne (tgt := 143) hx hb dX8_premise_119 (by decide) (fun _ => ?_) (fun c119 => absurd c119 (by decide))
    refine lv_iload_n hx hb dX8_premise_143 rfl (lv_at hl 5 rfl) ?_
    refine lv_bipush (v := 6) hx hb dX8_premise_144 (by decide) ?_
    refine lv_icmp_ne (tgt := 170) hx hb dX8_premise_146 (by decide) (fun _ => ?_) (fun c146 => absurd c146 (by decide))
    refine lv_iload_n hx hb dX8_premise_170 rfl (lv_at hl 5 rfl) ?_
    refine lv_bipush (v := 7) hx hb dX8_premise_171 (by decide) ?_
    refine lv_icmp_ne (tgt := 188) hx hb dX8_premise_173 (by decide) (fun c173 => absurd (by decide) c173) (fun _ => ?_)
    refine lv_aload_n hx hb dX8_premise_176 rfl (lv_at hl 4 rfl) ?_
    refine lv_iload hx hb dX8_premise_177 (lv_at hl 0 rfl) ?_
    refine lv_iload hx hb dX8_premise_179 (lv_at hl 1 rfl) ?_
    refine lv_iconst (v := 1) hx hb dX8_premise_181 (by decide) ?_
    refine r_callVv (ci := 8) (As := [.int (nI (d + 1)), .int (nI (sR ss (aa))), .int (1)]) hx hb hml hown hts hK hA hs (22) (by omega) (md22 hMm_95) rfl rfl (c_X8_set l G hMm_95 (d := (d + 1)) (f := (sR ss (aa))) (by omega) (by omega) true) (cwV 3 hts (tbV w_ml_RX8_137 w_im_yX8_set w_se_yX8_set w_ini_RX8 w_cd_yX8_set) rfl rfl rfl (by decide +kernel) ⟨Nat.le_of_ble_eq_true rfl, Nat.le_of_ble_eq_true rfl⟩) rfl hl.1 rfl (Nat.le_of_ble_eq_true rfl) dX8_premise_182 ⟨Nat.le_refl _, Nat.le_refl _⟩ (fun ad_98 en_99 H locs hp_100 hs => ?_)
    obtain ⟨c_97, ec_97⟩ : ∃ z, z = cSet c_91 (d + 1) (sR ss (aa)) true := ⟨_, rfl⟩
    rw [← ec_97] at hp_100
    obtain ⟨⟨hAm_101, hFm_101⟩, hMm_101⟩ := hp_100
    subst hAm_101
    have fr_102 : ∀ k, k < 22 → en_99 k = en k := fun k hk => Eq.trans (hFm_101 k hk) (fr_96 k hk)
    have hRn_c_97 : RowM c_97 (d + 1) (gAdd (gDel Γ aa) (sR ss (aa))) := by rw [ec_97]; exact row_add hRn_c_91 (by omega)
    refine lv_goto (tgt := 278) hx hb dX8_premise_185 (by decide) ?_
    refine r_vret (mc := 0) (ms := 0) hx hb hr hlk hs (Nat.le_refl _) (Nat.le_refl _) dX8_premise_278 hQ ?_
    exact pr_so hB fr_102 hMm_101 (fun r t h1 h2 => by rw [ec_97, cSet_o (by omega), ec_91, cSet_o (by omega), ec_85, opn_o (by omega)]) hRn_c_97 (by rw [show (brg ss 7 (0 + 1) aa).2 = ss from congrArg Prod.snd hB]; show _ = gPar ss 7 (0 + 1) _ (gAdd (gAdd (gDel Γ aa) 0) 0); rw [gAdd_0, gAdd_0]; rfl) (by rw [ec_97, cSet_o (Or.inl (by decide)), ec_91, cSet_o (Or.inl (by decide)), ec_85, opn_w]; exact congrArg nI (by rw [hB]; rfl))
  · have ha : aa = f := ha
    subst ha
    have hfr := hΓ aa (wy_G hwy (by decide))
    have hfl : aa ≤ 600 := by omega
    have hB : brg ss 8 (0 + 1) aa = (some (0, 0), ss) := brgx (by decide) (by decide) (by decide)
    have hLa := sLR_lt hok aa
    have hLg := sLR_lt hok goal
    refine lv_aload_n hx hb dX8_premise_0 rfl (lv_at hl 0 rfl) ?_
    refine r_get (ci := 8) (v := .ref (ad 32)) (C := RX8) (T := TX8) (N := 31) hx hb hts inlX8 hown hK hs (22) (by omega) (md22 hM) rfl 13 (by decide) (hts _ w_fl_RX8_39) rfl dX8_premise_1 ?_
    refine lv_aload_n hx hb dX8_premise_4 rfl (lv_at hl 0 rfl) ?_
    refine r_get (ci := 8) (v := .int (nI d)) (C := RX8) (T := TX8) (N := 31) hx hb hts inlX8 hown hK hs (22) (by omega) (md22 hM) rfl 17 (by decide) (hts _ w_fl_RX8_109) rfl dX8_premise_5 ?_
    refine r_ialdN (t := d) hx hb hK hs (32) (by omega) (md32 hM) (rfl) (by omega) (by omega) dX8_premise_8 ?_
    refine r_topi (y := nI goal) (hwa) ?_
    refine lv_istore (lv' := [(4, .int (nI goal)), (0, .ref (ad 22)), (1, .int (nI 8)), (2, .int (nI aa)), (3, .int (nI 0))]) hx hb dX8_premise_9 hl (by decide) rfl (fun ls hl => ?_)
    refine lv_aload_n hx hb dX8_premise_11 rfl (lv_at hl 1 rfl) ?_
    refine r_get (ci := 8) (v := .ref (ad 24)) (C := RX8) (T := TX8) (N := 31) hx hb hts inlX8 hown hK hs (22) (by omega) (md22 hM) rfl 1 (by decide) (hts _ w_fl_RX8_13) rfl dX8_premise_12 ?_
    refine lv_iload_n hx hb dX8_premise_15 rfl (lv_at hl 3 rfl) ?_
    refine r_ialdN (t := aa) hx hb hK hs (24) (by omega) (md24 hM) (rfl) (by omega) (by omega) dX8_premise_16 ?_
    refine r_topi (y := nI (sL ss (aa))) rfl ?_
    refine lv_istore (lv' := [(5, .int (nI (sL ss (aa)))), (4, .int (nI goal)), (0, .ref (ad 22)), (1, .int (nI 8)), (2, .int (nI aa)), (3, .int (nI 0))]) hx hb dX8_premise_17 hl (by decide) rfl (fun ls hl => ?_)
    refine lv_aload_n hx hb dX8_premise_19 rfl (lv_at hl 2 rfl) ?_
    refine r_get (ci := 8) (v := .ref (ad 25)) (C := RX8) (T := TX8) (N := 31) hx hb hts inlX8 hown hK hs (22) (by omega) (md22 hM) rfl 2 (by decide) (hts _ w_fl_RX8_16) rfl dX8_premise_20 ?_
    refine lv_iload_n hx hb dX8_premise_23 rfl (lv_at hl 4 rfl) ?_
    refine r_ialdN (t := aa) hx hb hK hs (25) (by omega) (md25 hM) (rfl) (by omega) (by omega) dX8_premise_24 ?_
    refine r_topi (y := nI (sR ss (aa))) rfl ?_
    refine lv_istore (lv' := [(6, .int (nI (sR ss (aa)))), (5, .int (nI (sL ss (aa)))), (4, .int (nI goal)), (0, .ref (ad 22)), (1, .int (nI 8)), (2, .int (nI aa)), (3, .int (nI 0))]) hx hb dX8_premise_25 hl (by decide) rfl (fun ls hl => ?_)
    refine lv_aload_n hx hb dX8_premise_27 rfl (lv_at hl 3 rfl) ?_
    refine r_get (ci := 8) (v := .int (nI d)) (C := RX8) (T := TX8) (N := 31) hx hb hts inlX8 hown hK hs (22) (by omega) (md22 hM) rfl 17 (by decide) (hts _ w_fl_RX8_109) rfl dX8_premise_28 ?_
    refine lv_iconst (v := 1) hx hb dX8_premise_31 (by decide) ?_
    refine lv_iadd hx hb dX8_premise_32 ?_
    refine r_topi (y := nI (d + 1)) (nI_add _ _) ?_
    refine lv_istore (lv' := [(7, .int (nI (d + 1))), (6, .int (nI (sR ss (aa)))), (5, .int (nI (sL ss (aa)))), (4, .int (nI goal)), (0, .ref (ad 22)), (1, .int (nI 8)), (2, .int (nI aa)), (3, .int (nI 0))]) hx hb dX8_premise_33 hl (by decide) rfl (fun ls hl => ?_)
    refine lv_aload_n hx hb dX8_premise_35 rfl (lv_at hl 4 rfl) ?_
    refine lv_iload_n hx hb dX8_premise_36 rfl (lv_at hl 5 rfl) ?_
    refine lv_iconst (v := 3) hx hb dX8_premise_37 (by decide) ?_
    refine lv_icmp_ne (tgt := 65) hx hb dX8_premise_38 (by decide) (fun _ => ?_) (fun c38 => absurd c38 (by decide))
    refine lv_iload_n hx hb dX8_premise_65 rfl (lv_at hl 5 rfl) ?_
    refine lv_iconst (v := 4) hx hb dX8_premise_66 (by decide) ?_
    refine lv_icmp_ne (tgt := 80) hx hb dX8_premise_67 (by decide) (fun _ => ?_) (fun c67 => absurd c67 (by decide))
    refine lv_iload hx hb dX8_premise_80 (lv_at hl 3 rfl) ?_
    refine r_callVv (ci := 8) (As := [.int (nI goal)]) hx hb hml hown hts hK hA hs (22) (by omega) (md22 hM) rfl rfl (c_X8_open l G hM (gl := goal) (by omega) hR) (cwV 1 hts (tbV w_ml_RX8_133 w_im_yX8_open w_se_yX8_open w_ini_RX8 w_cd_yX8_open) rfl rfl rfl (by decide +kernel) ⟨Nat.le_of_ble_eq_true rfl, Nat.le_of_ble_eq_true rfl⟩) rfl hl.1 rfl (Nat.le_of_ble_eq_true rfl) dX8_premise_82 ⟨Nat.le_refl _, Nat.le_refl _⟩ (fun ad_104 en_105 H locs hp_106 hs => ?_)
    obtain ⟨c_103, ec_103⟩ : ∃ z, z = cOpn c d (nI goal) := ⟨_, rfl⟩
    rw [← ec_103] at hp_106
    obtain ⟨⟨hAm_107, hFm_107⟩, hMm_107⟩ := hp_106
    subst hAm_107
    have fr_108 : ∀ k, k < 22 → en_105 k = en k := fun k hk => Eq.trans (hFm_107 k hk) (fr0 k hk)
    have hRn_c_103 : RowM c_103 (d + 1) Γ := by rw [ec_103]; exact opn_row hR
    refine lv_iload_n hx hb dX8_premise_85 rfl (lv_at hl 5 rfl) ?_
    refine lv_iconst (v := 4) hx hb dX8_premise_86 (by decide) ?_
    refine lv_icmp_ne (tgt := 104) hx hb dX8_premise_87 (by decide) (fun _ => ?_) (fun c87 => absurd c87 (by decide))
    refine lv_iload_n hx hb dX8_premise_104 rfl (lv_at hl 5 rfl) ?_
    refine lv_iconst (v := 4) hx hb dX8_premise_105 (by decide) ?_
    refine lv_icmp_le (tgt := 117) hx hb dX8_premise_106 (by decide) (fun c106 => absurd c106 (by decide)) (fun _ => ?_)
    refine lv_aload_n hx hb dX8_premise_109 rfl (lv_at hl 4 rfl) ?_
    refine lv_iload hx hb dX8_premise_110 (lv_at hl 0 rfl) ?_
    refine lv_iload_n hx hb dX8_premise_112 rfl (lv_at hl 6 rfl) ?_
    refine lv_iconst (v := 0) hx hb dX8_premise_113 (by decide) ?_
    refine r_callVv (ci := 8) (As := [.int (nI (d + 1)), .int (nI aa), .int (0)]) hx hb hml hown hts hK hA hs (22) (by omega) (md22 hMm_107) rfl rfl (c_X8_set l G hMm_107 (d := (d + 1)) (f := aa) (by omega) (by omega) false) (cwV 3 hts (tbV w_ml_RX8_137 w_im_yX8_set w_se_yX8_set w_ini_RX8 w_cd_yX8_set) rfl rfl rfl (by decide +kernel) ⟨Nat.le_of_ble_eq_true rfl, Nat.le_of_ble_eq_true rfl⟩) rfl hl.1 rfl (Nat.le_of_ble_eq_true rfl) dX8_premise_114 ⟨Nat.le_refl _, Nat.le_refl _⟩ (fun ad_110 en_111 H locs hp_112 hs => ?_)
    obtain ⟨c_109, ec_109⟩ : ∃ z, z = cSet c_103 (d + 1) aa false := ⟨_, rfl⟩
    rw [← ec_109] at hp_112
    obtain ⟨⟨hAm_113, hFm_113⟩, hMm_113⟩ := hp_112
    subst hAm_113
    have fr_114 : ∀ k, k < 22 → en_111 k = en k := fun k hk => Eq.trans (hFm_113 k hk) (fr_108 k hk)
    have hRn_c_109 : RowM c_109 (d + 1) (gDel Γ aa) := by rw [ec_109]; exact row_del hRn_c_103 (by omega)
    refine lv_iload_n hx hb dX8_premise_117 rfl (lv_at hl 5 rfl) ?_
    refine lv_iconst (v := 5) hx hb dX8_premise_118 (by decide) ?_
    refine lv_icmp_ne (tgt := 143) hx hb dX8_premise_119 (by decide) (fun _ => ?_) (fun c119 => absurd c119 (by decide))
    refine lv_iload_n hx hb dX8_premise_143 rfl (lv_at hl 5 rfl) ?_
    refine lv_bipush (v := 6) hx hb dX8_premise_144 (by decide) ?_
    refine lv_icmp_ne (tgt := 170) hx hb dX8_premise_146 (by decide) (fun _ => ?_) (fun c146 => absurd c146 (by decide))
    refine lv_iload_n hx hb dX8_premise_170 rfl (lv_at hl 5 rfl) ?_
    refine lv_bipush (v := 7) hx hb dX8_premise_171 (by decide) ?_
    refine lv_icmp_ne (tgt := 188) hx hb dX8_premise_173 (by decide) (fun _ => ?_) (fun c173 => absurd c173 (by decide))
    refine lv_iload_n hx hb dX8_premise_188 rfl (lv_at hl 5 rfl) ?_
    refine lv_bipush (v := 9) hx hb dX8_premise_189 (by decide) ?_
    refine lv_icmp_ne (tgt := 232) hx hb dX8_premise_191 (by decide) (fun _ => ?_) (fun c191 => absurd c191 (by decide))
    refine lv_iload_n hx hb dX8_premise_232 rfl (lv_at hl 5 rfl) ?_
    refine lv_bipush (v := 10) hx hb dX8_premise_233 (by decide) ?_
    refine lv_icmp_ne (tgt := 278) hx hb dX8_premise_235 (by decide) (fun _ => ?_) (fun c235 => absurd c235 (by decide))
    refine r_vret (mc := 0) (ms := 0) hx hb hr hlk hs (Nat.le_refl _) (Nat.le_refl _) dX8_premise_278 hQ ?_
    exact pr_so hB fr_114 hMm_113 (fun r t h1 h2 => by rw [ec_109, cSet_o (by omega), ec_103, opn_o (by omega)]) hRn_c_109 (by rw [show (brg ss 8 (0 + 1) aa).2 = ss from congrArg Prod.snd hB]; show _ = gPar ss 8 (0 + 1) _ (gAdd (gAdd (gDel Γ aa) 0) 0); rw [gAdd_0, gAdd_0]; rfl) (by rw [ec_109, cSet_o (Or.inl (by decide)), ec_103, opn_w]; exact congrArg nI (by rw [hB]; rfl))
  · have ha : aa = f := ha
    subst ha
    have hfr := hΓ aa (wy_G hwy (by decide))
    have hfl : aa ≤ 600 := by omega
    have hs4 : sSort ss aa = 4 ∧ sSort ss (sL ss aa) = 2 := by unfold wyOK at hwy; omega
    obtain ⟨hpl, hpr⟩ := parts_of hok hfr (by omega)
    obtain ⟨hpc, hpd⟩ := parts_of hok hpl (by omega)
    have hLa := sLR_lt hok aa
    have hLg := sLR_lt hok goal
    refine lv_aload_n hx hb dX8_premise_0 rfl (lv_at hl 0 rfl) ?_
    refine r_get (ci := 8) (v := .ref (ad 32)) (C := RX8) (T := TX8) (N := 31) hx hb hts inlX8 hown hK hs (22) (by omega) (md22 hM) rfl 13 (by decide) (hts _ w_fl_RX8_39) rfl dX8_premise_1 ?_
    refine lv_aload_n hx hb dX8_premise_4 rfl (lv_at hl 0 rfl) ?_
    refine r_get (ci := 8) (v := .int (nI d)) (C := RX8) (T := TX8) (N := 31) hx hb hts inlX8 hown hK hs (22) (by omega) (md22 hM) rfl 17 (by decide) (hts _ w_fl_RX8_109) rfl dX8_premise_5 ?_
    refine r_ialdN (t := d) hx hb hK hs (32) (by omega) (md32 hM) (rfl) (by omega) (by omega) dX8_premise_8 ?_
    refine r_topi (y := nI goal) (hwa) ?_
    refine lv_istore (lv' := [(4, .int (nI goal)), (0, .ref (ad 22)), (1, .int (nI 9)), (2, .int (nI aa)), (3, .int (nI 0))]) hx hb dX8_premise_9 hl (by decide) rfl (fun ls hl => ?_)
    refine lv_aload_n hx hb dX8_premise_11 rfl (lv_at hl 1 rfl) ?_
    refine r_get (ci := 8) (v := .ref (ad 24)) (C := RX8) (T := TX8) (N := 31) hx hb hts inlX8 hown hK hs (22) (by omega) (md22 hM) rfl 1 (by decide) (hts _ w_fl_RX8_13) rfl dX8_premise_12 ?_
    refine lv_iload_n hx hb dX8_premise_15 rfl (lv_at hl 3 rfl) ?_
    refine r_ialdN (t := aa) hx hb hK hs (24) (by omega) (md24 hM) (rfl) (by omega) (by omega) dX8_premise_16 ?_
    refine r_topi (y := nI (sL ss (aa))) rfl ?_
    refine lv_istore (lv' := [(5, .int (nI (sL ss (aa)))), (4, .int (nI goal)), (0, .ref (ad 22)), (1, .int (nI 9)), (2, .int (nI aa)), (3, .int (nI 0))]) hx hb dX8_premise_17 hl (by decide) rfl (fun ls hl => ?_)
    refine lv_aload_n hx hb dX8_premise_19 rfl (lv_at hl 2 rfl) ?_
    refine r_get (ci := 8) (v := .ref (ad 25)) (C := RX8) (T := TX8) (N := 31) hx hb hts inlX8 hown hK hs (22) (by omega) (md22 hM) rfl 2 (by decide) (hts _ w_fl_RX8_16) rfl dX8_premise_20 ?_
    refine lv_iload_n hx hb dX8_premise_23 rfl (lv_at hl 4 rfl) ?_
    refine r_ialdN (t := aa) hx hb hK hs (25) (by omega) (md25 hM) (rfl) (by omega) (by omega) dX8_premise_24 ?_
    refine r_topi (y := nI (sR ss (aa))) rfl ?_
    refine lv_istore (lv' := [(6, .int (nI (sR ss (aa)))), (5, .int (nI (sL ss (aa)))), (4, .int (nI goal)), (0, .ref (ad 22)), (1, .int (nI 9)), (2, .int (nI aa)), (3, .int (nI 0))]) hx hb dX8_premise_25 hl (by decide) rfl (fun ls hl => ?_)
    refine lv_aload_n hx hb dX8_premise_27 rfl (lv_at hl 3 rfl) ?_
    refine r_get (ci := 8) (v := .int (nI d)) (C := RX8) (T := TX8) (N := 31) hx hb hts inlX8 hown hK hs (22) (by omega) (md22 hM) rfl 17 (by decide) (hts _ w_fl_RX8_109) rfl dX8_premise_28 ?_
    refine lv_iconst (v := 1) hx hb dX8_premise_31 (by decide) ?_
    refine lv_iadd hx hb dX8_premise_32 ?_
    refine r_topi (y := nI (d + 1)) (nI_add _ _) ?_
    refine lv_istore (lv' := [(7, .int (nI (d + 1))), (6, .int (nI (sR ss (aa)))), (5, .int (nI (sL ss (aa)))), (4, .int (nI goal)), (0, .ref (ad 22)), (1, .int (nI 9)), (2, .int (nI aa)), (3, .int (nI 0))]) hx hb dX8_premise_33 hl (by decide) rfl (fun ls hl => ?_)
    refine lv_aload_n hx hb dX8_premise_35 rfl (lv_at hl 4 rfl) ?_
    refine lv_iload_n hx hb dX8_premise_36 rfl (lv_at hl 5 rfl) ?_
    refine lv_iconst (v := 3) hx hb dX8_premise_37 (by decide) ?_
    refine lv_icmp_ne (tgt := 65) hx hb dX8_premise_38 (by decide) (fun _ => ?_) (fun c38 => absurd c38 (by decide))
    refine lv_iload_n hx hb dX8_premise_65 rfl (lv_at hl 5 rfl) ?_
    refine lv_iconst (v := 4) hx hb dX8_premise_66 (by decide) ?_
    refine lv_icmp_ne (tgt := 80) hx hb dX8_premise_67 (by decide) (fun _ => ?_) (fun c67 => absurd c67 (by decide))
    refine lv_iload hx hb dX8_premise_80 (lv_at hl 3 rfl) ?_
    refine r_callVv (ci := 8) (As := [.int (nI goal)]) hx hb hml hown hts hK hA hs (22) (by omega) (md22 hM) rfl rfl (c_X8_open l G hM (gl := goal) (by omega) hR) (cwV 1 hts (tbV w_ml_RX8_133 w_im_yX8_open w_se_yX8_open w_ini_RX8 w_cd_yX8_open) rfl rfl rfl (by decide +kernel) ⟨Nat.le_of_ble_eq_true rfl, Nat.le_of_ble_eq_true rfl⟩) rfl hl.1 rfl (Nat.le_of_ble_eq_true rfl) dX8_premise_82 ⟨Nat.le_refl _, Nat.le_refl _⟩ (fun ad_116 en_117 H locs hp_118 hs => ?_)
    obtain ⟨c_115, ec_115⟩ : ∃ z, z = cOpn c d (nI goal) := ⟨_, rfl⟩
    rw [← ec_115] at hp_118
    obtain ⟨⟨hAm_119, hFm_119⟩, hMm_119⟩ := hp_118
    subst hAm_119
    have fr_120 : ∀ k, k < 22 → en_117 k = en k := fun k hk => Eq.trans (hFm_119 k hk) (fr0 k hk)
    have hRn_c_115 : RowM c_115 (d + 1) Γ := by rw [ec_115]; exact opn_row hR
    refine lv_iload_n hx hb dX8_premise_85 rfl (lv_at hl 5 rfl) ?_
    refine lv_iconst (v := 4) hx hb dX8_premise_86 (by decide) ?_
    refine lv_icmp_ne (tgt := 104) hx hb dX8_premise_87 (by decide) (fun _ => ?_) (fun c87 => absurd c87 (by decide))
    refine lv_iload_n hx hb dX8_premise_104 rfl (lv_at hl 5 rfl) ?_
    refine lv_iconst (v := 4) hx hb dX8_premise_105 (by decide) ?_
    refine lv_icmp_le (tgt := 117) hx hb dX8_premise_106 (by decide) (fun c106 => absurd c106 (by decide)) (fun _ => ?_)
    refine lv_aload_n hx hb dX8_premise_109 rfl (lv_at hl 4 rfl) ?_
    refine lv_iload hx hb dX8_premise_110 (lv_at hl 0 rfl) ?_
    refine lv_iload_n hx hb dX8_premise_112 rfl (lv_at hl 6 rfl) ?_
    refine lv_iconst (v := 0) hx hb dX8_premise_113 (by decide) ?_
    refine r_callVv (ci := 8) (As := [.int (nI (d + 1)), .int (nI aa), .int (0)]) hx hb hml hown hts hK hA hs (22) (by omega) (md22 hMm_119) rfl rfl (c_X8_set l G hMm_119 (d := (d + 1)) (f := aa) (by omega) (by omega) false) (cwV 3 hts (tbV w_ml_RX8_137 w_im_yX8_set w_se_yX8_set w_ini_RX8 w_cd_yX8_set) rfl rfl rfl (by decide +kernel) ⟨Nat.le_of_ble_eq_true rfl, Nat.le_of_ble_eq_true rfl⟩) rfl hl.1 rfl (Nat.le_of_ble_eq_true rfl) dX8_premise_114 ⟨Nat.le_refl _, Nat.le_refl _⟩ (fun ad_122 en_123 H locs hp_124 hs => ?_)
    obtain ⟨c_121, ec_121⟩ : ∃ z, z = cSet c_115 (d + 1) aa false := ⟨_, rfl⟩
    rw [← ec_121] at hp_124
    obtain ⟨⟨hAm_125, hFm_125⟩, hMm_125⟩ := hp_124
    subst hAm_125
    have fr_126 : ∀ k, k < 22 → en_123 k = en k := fun k hk => Eq.trans (hFm_125 k hk) (fr_120 k hk)
    have hRn_c_121 : RowM c_121 (d + 1) (gDel Γ aa) := by rw [ec_121]; exact row_del hRn_c_115 (by omega)
    refine lv_iload_n hx hb dX8_premise_117 rfl (lv_at hl 5 rfl) ?_
    refine lv_iconst (v := 5) hx hb dX8_premise_118 (by decide) ?_
    refine lv_icmp_ne (tgt := 143) hx hb dX8_premise_119 (by decide) (fun _ => ?_) (fun c119 => absurd c119 (by decide))
    refine lv_iload_n hx hb dX8_premise_143 rfl (lv_at hl 5 rfl) ?_
    refine lv_bipush (v := 6) hx hb dX8_premise_144 (by decide) ?_
    refine lv_icmp_ne (tgt := 170) hx hb dX8_premise_146 (by decide) (fun _ => ?_) (fun c146 => absurd c146 (by decide))
    refine lv_iload_n hx hb dX8_premise_170 rfl (lv_at hl 5 rfl) ?_
    refine lv_bipush (v := 7) hx hb dX8_premise_171 (by decide) ?_
    refine lv_icmp_ne (tgt := 188) hx hb dX8_premise_173 (by decide) (fun _ => ?_) (fun c173 => absurd c173 (by decide))
    refine lv_iload_n hx hb dX8_premise_188 rfl (lv_at hl 5 rfl) ?_
    refine lv_bipush (v := 9) hx hb dX8_premise_189 (by decide) ?_
    refine lv_icmp_ne (tgt := 232) hx hb dX8_premise_191 (by decide) (fun c191 => absurd (by decide) c191) (fun _ => ?_)
    refine lv_aload_n hx hb dX8_premise_194 rfl (lv_at hl 4 rfl) ?_
    refine lv_aload_n hx hb dX8_premise_195 rfl (lv_at hl 4 rfl) ?_
    refine r_get (ci := 8) (v := .ref (ad 25)) (C := RX8) (T := TX8) (N := 31) hx hb hts inlX8 hown hK hs (22) (by omega) (md22 hMm_125) rfl 2 (by decide) (hts _ w_fl_RX8_16) rfl dX8_premise_196 ?_
    refine lv_iload hx hb dX8_premise_199 (lv_at hl 2 rfl) ?_
    refine r_ialdN (t := sL ss (aa)) hx hb hK hs (25) (by omega) (md25 hMm_125) (rfl) (by omega) (by omega) dX8_premise_201 ?_
    refine r_topi (y := nI (sR ss (sL ss (aa)))) rfl ?_
    refine lv_iload hx hb dX8_premise_202 (lv_at hl 1 rfl) ?_
    refine r_callVi (ci := 8) (As := [.int (nI (sR ss (sL ss (aa)))), .int (nI (sR ss (aa)))]) hx hb hml hown hts hK hA hs (22) (by omega) (md22 hMm_125) rfl rfl (c_X8_implication l G hMm_125 (a := (sR ss (sL ss aa))) (b := (sR ss aa)) (hpd) (hpr)) (cwV 2 hts (tbV w_ml_RX8_141 w_im_yX8_implication w_se_yX8_implication w_ini_RX8 w_cd_yX8_implication) rfl rfl rfl (by decide +kernel) ⟨Nat.le_of_ble_eq_true rfl, Nat.le_of_ble_eq_true rfl⟩) rfl hl.1 rfl (Nat.le_of_ble_eq_true rfl) dX8_premise_204 ⟨Nat.le_refl _, Nat.le_refl _⟩ (fun r_130 ad_127 en_128 H locs hp_129 hs => ?_)
    obtain ⟨⟨hAm_131, hFm_131⟩, hrm_131, hMm_131⟩ := hp_129
    subst hAm_131
    rw [hrm_131]
    have fr_132 : ∀ k, k < 22 → en_128 k = en k := fun k hk => Eq.trans (hFm_131 k hk) (fr_126 k hk)
    rcases hq1 : impS ss (sR ss (sL ss aa)) (sR ss aa) with _ | i1
    · skip
      have hMm_131n : MdW G n ad en_128 ((impT ss (sR ss (sL ss aa)) (sR ss aa))) ns c_121 us ((-3)) (nI d) cl := by have q := hMm_131; rw [hq1] at q; exact q
      refine r_topi (y := nI 0) rfl ?_
      obtain ⟨⟨y1, ey1⟩, hokb, -⟩ := imp_ok hok (a := (sR ss (sL ss aa))) (b := (sR ss aa)) (by omega) (by omega)
      obtain ⟨p1, p2, p3, p4, -⟩ := par_eq hok ey1 hfr.2 (by omega)
      have hle1 : ss.length ≤ (impT ss (sR ss (sL ss aa)) (sR ss aa)).length := by rw [ey1]; simp
      have h6b := hokb.1
      refine lv_istore (lv' := [(8, .int (nI 0)), (7, .int (nI (d + 1))), (6, .int (nI (sR ss (aa)))), (5, .int (nI (sL ss (aa)))), (4, .int (nI goal)), (0, .ref (ad 22)), (1, .int (nI 9)), (2, .int (nI aa)), (3, .int (nI 0))]) hx hb dX8_premise_207 hl (by decide) rfl (fun ls hl => ?_)
      refine lv_aload_n hx hb dX8_premise_209 rfl (lv_at hl 5 rfl) ?_
      refine lv_iload hx hb dX8_premise_210 (lv_at hl 1 rfl) ?_
      refine lv_aload_n hx hb dX8_premise_212 rfl (lv_at hl 5 rfl) ?_
      refine lv_aload_n hx hb dX8_premise_213 rfl (lv_at hl 5 rfl) ?_
      refine r_get (ci := 8) (v := .ref (ad 24)) (C := RX8) (T := TX8) (N := 31) hx hb hts inlX8 hown hK hs (22) (by omega) (md22 hMm_131n) rfl 1 (by decide) (hts _ w_fl_RX8_13) rfl dX8_premise_214 ?_
      refine lv_iload hx hb dX8_premise_217 (lv_at hl 3 rfl) ?_
      refine r_ialdN (t := sL ss (aa)) hx hb hK hs (24) (by omega) (md24 hMm_131n) (rfl) (by omega) (by omega) dX8_premise_219 ?_
      refine r_topi (y := nI (sL (impT ss (sR ss (sL ss aa)) (sR ss aa)) (sL ss (aa)))) rfl ?_
      refine lv_iload hx hb dX8_premise_220 (lv_at hl 0 rfl) ?_
      refine r_callViR (ci := 8) (As := [.int (nI (sL (impT ss (sR ss (sL ss aa)) (sR ss aa)) (sL ss (aa)))), .int (nI 0)]) hx hb hml hown hts hK hA hs (22) (by omega) (md22 hMm_131n) rfl rfl (c_X8_implication0 l G hMm_131n (nI (sL (impT ss (sR ss (sL ss aa)) (sR ss aa)) (sL ss (aa)))) (nI 0) (by decide)) (cwV 2 hts (tbV w_ml_RX8_141 w_im_yX8_implication w_se_yX8_implication w_ini_RX8 w_cd_yX8_implication) rfl rfl rfl (by decide +kernel) ⟨Nat.le_of_ble_eq_true rfl, Nat.le_of_ble_eq_true rfl⟩) rfl hl.1 rfl (Nat.le_of_ble_eq_true rfl) dX8_premise_222 ⟨Nat.zero_le _, Nat.zero_le _⟩ (fun H locs hs => ?_)
      refine lv_iconst (v := 1) hx hb dX8_premise_225 (by decide) ?_
      refine r_callVv (ci := 8) (As := [.int (nI (d + 1)), .int (0), .int (1)]) hx hb hml hown hts hK hA hs (22) (by omega) (md22 hMm_131n) rfl rfl (c_X8_set l G hMm_131n (d := (d + 1)) (f := 0) (by omega) (by omega) true) (cwV 3 hts (tbV w_ml_RX8_137 w_im_yX8_set w_se_yX8_set w_ini_RX8 w_cd_yX8_set) rfl rfl rfl (by decide +kernel) ⟨Nat.le_of_ble_eq_true rfl, Nat.le_of_ble_eq_true rfl⟩) rfl hl.1 rfl (Nat.le_of_ble_eq_true rfl) dX8_premise_226 ⟨Nat.le_refl _, Nat.le_refl _⟩ (fun ad_134 en_135 H locs hp_136 hs => ?_)
      obtain ⟨c_133, ec_133⟩ : ∃ z, z = cSet c_121 (d + 1) 0 true := ⟨_, rfl⟩
      rw [← ec_133] at hp_136
      obtain ⟨⟨hAm_137, hFm_137⟩, hMm_137⟩ := hp_136
      subst hAm_137
      have fr_138 : ∀ k, k < 22 → en_135 k = en k := fun k hk => Eq.trans (hFm_137 k hk) (fr_132 k hk)
      have hRn_c_133 : RowM c_133 (d + 1) (gAdd (gDel Γ aa) 0) := by rw [ec_133]; exact row_add hRn_c_121 (by omega)
      refine lv_goto (tgt := 278) hx hb dX8_premise_229 (by decide) ?_
      refine r_vret (mc := 0) (ms := 0) hx hb hr hlk hs (Nat.le_refl _) (Nat.le_refl _) dX8_premise_278 hQ ?_
      exact pr_no (brg9n (ss := ss) (f := aa) (k := 0 + 1) rfl rfl rfl rfl hq1) fr_138 hMm_137 (fun r t h1 h2 => by rw [ec_133, cSet_o (by omega), ec_121, cSet_o (by omega), ec_115, opn_o (by omega)])
    · skip
      have hMm_131s : MdW G n ad en_128 ((impT ss (sR ss (sL ss aa)) (sR ss aa))) ns c_121 us 0 (nI d) cl := by have q := hMm_131; rw [hq1] at q; exact q
      refine r_topi (y := nI i1) rfl ?_
      have hv1 := (imp_ok hok (a := (sR ss (sL ss aa))) (b := (sR ss aa)) (by omega) (by omega)).2.2 i1 hq1
      obtain ⟨⟨y1, ey1⟩, hokb, -⟩ := imp_ok hok (a := (sR ss (sL ss aa))) (b := (sR ss aa)) (by omega) (by omega)
      obtain ⟨p1, p2, p3, p4, -⟩ := par_eq hok ey1 hfr.2 (by omega)
      have hle1 : ss.length ≤ (impT ss (sR ss (sL ss aa)) (sR ss aa)).length := by rw [ey1]; simp
      have h6b := hokb.1
      have hvl1 := hv1.2.1
      have hvp1 := hv1.1
      refine lv_istore (lv' := [(8, .int (nI i1)), (7, .int (nI (d + 1))), (6, .int (nI (sR ss (aa)))), (5, .int (nI (sL ss (aa)))), (4, .int (nI goal)), (0, .ref (ad 22)), (1, .int (nI 9)), (2, .int (nI aa)), (3, .int (nI 0))]) hx hb dX8_premise_207 hl (by decide) rfl (fun ls hl => ?_)
      refine lv_aload_n hx hb dX8_premise_209 rfl (lv_at hl 5 rfl) ?_
      refine lv_iload hx hb dX8_premise_210 (lv_at hl 1 rfl) ?_
      refine lv_aload_n hx hb dX8_premise_212 rfl (lv_at hl 5 rfl) ?_
      refine lv_aload_n hx hb dX8_premise_213 rfl (lv_at hl 5 rfl) ?_
      refine r_get (ci := 8) (v := .ref (ad 24)) (C := RX8) (T := TX8) (N := 31) hx hb hts inlX8 hown hK hs (22) (by omega) (md22 hMm_131s) rfl 1 (by decide) (hts _ w_fl_RX8_13) rfl dX8_premise_214 ?_
      refine lv_iload hx hb dX8_premise_217 (lv_at hl 3 rfl) ?_
      refine r_ialdN (t := sL ss (aa)) hx hb hK hs (24) (by omega) (md24 hMm_131s) (rfl) (by omega) (by omega) dX8_premise_219 ?_
      refine r_topi (y := nI (sL (impT ss (sR ss (sL ss aa)) (sR ss aa)) (sL ss (aa)))) rfl ?_
      refine r_topi (y := nI (sL ss (sL ss aa))) (by rw [p3]) ?_
      refine lv_iload hx hb dX8_premise_220 (lv_at hl 0 rfl) ?_
      refine r_callVi (ci := 8) (As := [.int (nI (sL ss (sL ss aa))), .int (nI i1)]) hx hb hml hown hts hK hA hs (22) (by omega) (md22 hMm_131s) rfl rfl (c_X8_implication l G hMm_131s (a := (sL ss (sL ss aa))) (b := i1) (by omega) (by omega)) (cwV 2 hts (tbV w_ml_RX8_141 w_im_yX8_implication w_se_yX8_implication w_ini_RX8 w_cd_yX8_implication) rfl rfl rfl (by decide +kernel) ⟨Nat.le_of_ble_eq_true rfl, Nat.le_of_ble_eq_true rfl⟩) rfl hl.1 rfl (Nat.le_of_ble_eq_true rfl) dX8_premise_222 ⟨Nat.le_refl _, Nat.le_refl _⟩ (fun r_142 ad_139 en_140 H locs hp_141 hs => ?_)
      obtain ⟨⟨hAm_143, hFm_143⟩, hrm_143, hMm_143⟩ := hp_141
      subst hAm_143
      rw [hrm_143]
      have fr_144 : ∀ k, k < 22 → en_140 k = en k := fun k hk => Eq.trans (hFm_143 k hk) (fr_132 k hk)
      rcases hq2 : impS (impT ss (sR ss (sL ss aa)) (sR ss aa)) (sL ss (sL ss aa)) i1 with _ | i2
      · skip
        have hMm_143n : MdW G n ad en_140 ((impT (impT ss (sR ss (sL ss aa)) (sR ss aa)) (sL ss (sL ss aa)) i1)) ns c_121 us ((-3)) (nI d) cl := by have q := hMm_143; rw [hq2] at q; exact q
        refine r_topi (y := nI 0) rfl ?_
        obtain ⟨⟨y2, ey2⟩, hokc, -⟩ := imp_ok hokb (a := (sL ss (sL ss aa))) (b := i1) (by omega) (by omega)
        have h6c := hokc.1
        have hle2 : ((impT ss (sR ss (sL ss aa)) (sR ss aa))).length ≤ (impT (impT ss (sR ss (sL ss aa)) (sR ss aa)) (sL ss (sL ss aa)) i1).length := by rw [ey2]; simp
        refine lv_iconst (v := 1) hx hb dX8_premise_225 (by decide) ?_
        refine r_callVv (ci := 8) (As := [.int (nI (d + 1)), .int (nI 0), .int (1)]) hx hb hml hown hts hK hA hs (22) (by omega) (md22 hMm_143n) rfl rfl (c_X8_set l G hMm_143n (d := (d + 1)) (f := 0) (by omega) (by omega) true) (cwV 3 hts (tbV w_ml_RX8_137 w_im_yX8_set w_se_yX8_set w_ini_RX8 w_cd_yX8_set) rfl rfl rfl (by decide +kernel) ⟨Nat.le_of_ble_eq_true rfl, Nat.le_of_ble_eq_true rfl⟩) rfl hl.1 rfl (Nat.le_of_ble_eq_true rfl) dX8_premise_226 ⟨Nat.le_refl _, Nat.le_refl _⟩ (fun ad_146 en_147 H locs hp_148 hs => ?_)
        obtain ⟨c_145, ec_145⟩ : ∃ z, z = cSet c_121 (d + 1) 0 true := ⟨_, rfl⟩
        rw [← ec_145] at hp_148
        obtain ⟨⟨hAm_149, hFm_149⟩, hMm_149⟩ := hp_148
        subst hAm_149
        have fr_150 : ∀ k, k < 22 → en_147 k = en k := fun k hk => Eq.trans (hFm_149 k hk) (fr_144 k hk)
        have hRn_c_145 : RowM c_145 (d + 1) (gAdd (gDel Γ aa) 0) := by rw [ec_145]; exact row_add hRn_c_121 (by omega)
        refine lv_goto (tgt := 278) hx hb dX8_premise_229 (by decide) ?_
        refine r_vret (mc := 0) (ms := 0) hx hb hr hlk hs (Nat.le_refl _) (Nat.le_refl _) dX8_premise_278 hQ ?_
        exact pr_no (brg9s (ss := ss) (f := aa) (k := 0 + 1) rfl rfl rfl rfl hq1 hq2) fr_150 hMm_149 (fun r t h1 h2 => by rw [ec_145, cSet_o (by omega), ec_121, cSet_o (by omega), ec_115, opn_o (by omega)])
      · skip
        have hMm_143s : MdW G n ad en_140 ((impT (impT ss (sR ss (sL ss aa)) (sR ss aa)) (sL ss (sL ss aa)) i1)) ns c_121 us 0 (nI d) cl := by have q := hMm_143; rw [hq2] at q; exact q
        refine r_topi (y := nI i2) rfl ?_
        have hv2 := (imp_ok hokb (a := (sL ss (sL ss aa))) (b := i1) (by omega) (by omega)).2.2 i2 hq2
        obtain ⟨⟨y2, ey2⟩, hokc, -⟩ := imp_ok hokb (a := (sL ss (sL ss aa))) (b := i1) (by omega) (by omega)
        have h6c := hokc.1
        have hle2 : ((impT ss (sR ss (sL ss aa)) (sR ss aa))).length ≤ (impT (impT ss (sR ss (sL ss aa)) (sR ss aa)) (sL ss (sL ss aa)) i1).length := by rw [ey2]; simp
        have hvl2 := hv2.2.1
        have hvp2 := hv2.1
        refine lv_iconst (v := 1) hx hb dX8_premise_225 (by decide) ?_
        refine r_callVv (ci := 8) (As := [.int (nI (d + 1)), .int (nI i2), .int (1)]) hx hb hml hown hts hK hA hs (22) (by omega) (md22 hMm_143s) rfl rfl (c_X8_set l G hMm_143s (d := (d + 1)) (f := i2) (by omega) (by omega) true) (cwV 3 hts (tbV w_ml_RX8_137 w_im_yX8_set w_se_yX8_set w_ini_RX8 w_cd_yX8_set) rfl rfl rfl (by decide +kernel) ⟨Nat.le_of_ble_eq_true rfl, Nat.le_of_ble_eq_true rfl⟩) rfl hl.1 rfl (Nat.le_of_ble_eq_true rfl) dX8_premise_226 ⟨Nat.le_refl _, Nat.le_refl _⟩ (fun ad_152 en_153 H locs hp_154 hs => ?_)
        obtain ⟨c_151, ec_151⟩ : ∃ z, z = cSet c_121 (d + 1) i2 true := ⟨_, rfl⟩
        rw [← ec_151] at hp_154
        obtain ⟨⟨hAm_155, hFm_155⟩, hMm_155⟩ := hp_154
        subst hAm_155
        have fr_156 : ∀ k, k < 22 → en_153 k = en k := fun k hk => Eq.trans (hFm_155 k hk) (fr_144 k hk)
        have hRn_c_151 : RowM c_151 (d + 1) (gAdd (gDel Γ aa) i2) := by rw [ec_151]; exact row_add hRn_c_121 (by omega)
        refine lv_goto (tgt := 278) hx hb dX8_premise_229 (by decide) ?_
        refine r_vret (mc := 0) (ms := 0) hx hb hr hlk hs (Nat.le_refl _) (Nat.le_refl _) dX8_premise_278 hQ ?_
        exact pr_so (brg9t (ss := ss) (f := aa) (k := 0 + 1) rfl rfl rfl rfl hq1 hq2) fr_156 hMm_155 (fun r t h1 h2 => by rw [ec_151, cSet_o (by omega), ec_121, cSet_o (by omega), ec_115, opn_o (by omega)]) hRn_c_151 (by rw [show (brg ss 9 (0 + 1) aa).2 = _ from congrArg Prod.snd (brg9t (ss := ss) (f := aa) (k := 0 + 1) rfl rfl rfl rfl hq1 hq2)]; show _ = gAdd (gAdd (gDel Γ aa) i2) 0; rw [gAdd_0]) (by rw [ec_151, cSet_o (Or.inl (by decide)), ec_121, cSet_o (Or.inl (by decide)), ec_115, opn_w]; exact congrArg nI (by rw [brg9t (ss := ss) (f := aa) (k := 0 + 1) rfl rfl rfl rfl hq1 hq2]; rfl))
  · have ha : aa = f := ha
    subst ha
    have hfr := hΓ aa (wy_G hwy (by decide))
    have hfl : aa ≤ 600 := by omega
    have hs4 : sSort ss aa = 4 ∧ sSort ss (sL ss aa) = 3 := by unfold wyOK at hwy; omega
    obtain ⟨hpl, hpr⟩ := parts_of hok hfr (by omega)
    obtain ⟨hpc, hpd⟩ := parts_of hok hpl (by omega)
    have hLa := sLR_lt hok aa
    have hLg := sLR_lt hok goal
    refine lv_aload_n hx hb dX8_premise_0 rfl (lv_at hl 0 rfl) ?_
    refine r_get (ci := 8) (v := .ref (ad 32)) (C := RX8) (T := TX8) (N := 31) hx hb hts inlX8 hown hK hs (22) (by omega) (md22 hM) rfl 13 (by decide) (hts _ w_fl_RX8_39) rfl dX8_premise_1 ?_
    refine lv_aload_n hx hb dX8_premise_4 rfl (lv_at hl 0 rfl) ?_
    refine r_get (ci := 8) (v := .int (nI d)) (C := RX8) (T := TX8) (N := 31) hx hb hts inlX8 hown hK hs (22) (by omega) (md22 hM) rfl 17 (by decide) (hts _ w_fl_RX8_109) rfl dX8_premise_5 ?_
    refine r_ialdN (t := d) hx hb hK hs (32) (by omega) (md32 hM) (rfl) (by omega) (by omega) dX8_premise_8 ?_
    refine r_topi (y := nI goal) (hwa) ?_
    refine lv_istore (lv' := [(4, .int (nI goal)), (0, .ref (ad 22)), (1, .int (nI 10)), (2, .int (nI aa)), (3, .int (nI 0))]) hx hb dX8_premise_9 hl (by decide) rfl (fun ls hl => ?_)
    refine lv_aload_n hx hb dX8_premise_11 rfl (lv_at hl 1 rfl) ?_
    refine r_get (ci := 8) (v := .ref (ad 24)) (C := RX8) (T := TX8) (N := 31) hx hb hts inlX8 hown hK hs (22) (by omega) (md22 hM) rfl 1 (by decide) (hts _ w_fl_RX8_13) rfl dX8_premise_12 ?_
    refine lv_iload_n hx hb dX8_premise_15 rfl (lv_at hl 3 rfl) ?_
    refine r_ialdN (t := aa) hx hb hK hs (24) (by omega) (md24 hM) (rfl) (by omega) (by omega) dX8_premise_16 ?_
    refine r_topi (y := nI (sL ss (aa))) rfl ?_
    refine lv_istore (lv' := [(5, .int (nI (sL ss (aa)))), (4, .int (nI goal)), (0, .ref (ad 22)), (1, .int (nI 10)), (2, .int (nI aa)), (3, .int (nI 0))]) hx hb dX8_premise_17 hl (by decide) rfl (fun ls hl => ?_)
    refine lv_aload_n hx hb dX8_premise_19 rfl (lv_at hl 2 rfl) ?_
    refine r_get (ci := 8) (v := .ref (ad 25)) (C := RX8) (T := TX8) (N := 31) hx hb hts inlX8 hown hK hs (22) (by omega) (md22 hM) rfl 2 (by decide) (hts _ w_fl_RX8_16) rfl dX8_premise_20 ?_
    refine lv_iload_n hx hb dX8_premise_23 rfl (lv_at hl 4 rfl) ?_
    refine r_ialdN (t := aa) hx hb hK hs (25) (by omega) (md25 hM) (rfl) (by omega) (by omega) dX8_premise_24 ?_
    refine r_topi (y := nI (sR ss (aa))) rfl ?_
    refine lv_istore (lv' := [(6, .int (nI (sR ss (aa)))), (5, .int (nI (sL ss (aa)))), (4, .int (nI goal)), (0, .ref (ad 22)), (1, .int (nI 10)), (2, .int (nI aa)), (3, .int (nI 0))]) hx hb dX8_premise_25 hl (by decide) rfl (fun ls hl => ?_)
    refine lv_aload_n hx hb dX8_premise_27 rfl (lv_at hl 3 rfl) ?_
    refine r_get (ci := 8) (v := .int (nI d)) (C := RX8) (T := TX8) (N := 31) hx hb hts inlX8 hown hK hs (22) (by omega) (md22 hM) rfl 17 (by decide) (hts _ w_fl_RX8_109) rfl dX8_premise_28 ?_
    refine lv_iconst (v := 1) hx hb dX8_premise_31 (by decide) ?_
    refine lv_iadd hx hb dX8_premise_32 ?_
    refine r_topi (y := nI (d + 1)) (nI_add _ _) ?_
    refine lv_istore (lv' := [(7, .int (nI (d + 1))), (6, .int (nI (sR ss (aa)))), (5, .int (nI (sL ss (aa)))), (4, .int (nI goal)), (0, .ref (ad 22)), (1, .int (nI 10)), (2, .int (nI aa)), (3, .int (nI 0))]) hx hb dX8_premise_33 hl (by decide) rfl (fun ls hl => ?_)
    refine lv_aload_n hx hb dX8_premise_35 rfl (lv_at hl 4 rfl) ?_
    refine lv_iload_n hx hb dX8_premise_36 rfl (lv_at hl 5 rfl) ?_
    refine lv_iconst (v := 3) hx hb dX8_premise_37 (by decide) ?_
    refine lv_icmp_ne (tgt := 65) hx hb dX8_premise_38 (by decide) (fun _ => ?_) (fun c38 => absurd c38 (by decide))
    refine lv_iload_n hx hb dX8_premise_65 rfl (lv_at hl 5 rfl) ?_
    refine lv_iconst (v := 4) hx hb dX8_premise_66 (by decide) ?_
    refine lv_icmp_ne (tgt := 80) hx hb dX8_premise_67 (by decide) (fun _ => ?_) (fun c67 => absurd c67 (by decide))
    refine lv_iload hx hb dX8_premise_80 (lv_at hl 3 rfl) ?_
    refine r_callVv (ci := 8) (As := [.int (nI goal)]) hx hb hml hown hts hK hA hs (22) (by omega) (md22 hM) rfl rfl (c_X8_open l G hM (gl := goal) (by omega) hR) (cwV 1 hts (tbV w_ml_RX8_133 w_im_yX8_open w_se_yX8_open w_ini_RX8 w_cd_yX8_open) rfl rfl rfl (by decide +kernel) ⟨Nat.le_of_ble_eq_true rfl, Nat.le_of_ble_eq_true rfl⟩) rfl hl.1 rfl (Nat.le_of_ble_eq_true rfl) dX8_premise_82 ⟨Nat.le_refl _, Nat.le_refl _⟩ (fun ad_158 en_159 H locs hp_160 hs => ?_)
    obtain ⟨c_157, ec_157⟩ : ∃ z, z = cOpn c d (nI goal) := ⟨_, rfl⟩
    rw [← ec_157] at hp_160
    obtain ⟨⟨hAm_161, hFm_161⟩, hMm_161⟩ := hp_160
    subst hAm_161
    have fr_162 : ∀ k, k < 22 → en_159 k = en k := fun k hk => Eq.trans (hFm_161 k hk) (fr0 k hk)
    have hRn_c_157 : RowM c_157 (d + 1) Γ := by rw [ec_157]; exact opn_row hR
    refine lv_iload_n hx hb dX8_premise_85 rfl (lv_at hl 5 rfl) ?_
    refine lv_iconst (v := 4) hx hb dX8_premise_86 (by decide) ?_
    refine lv_icmp_ne (tgt := 104) hx hb dX8_premise_87 (by decide) (fun _ => ?_) (fun c87 => absurd c87 (by decide))
    refine lv_iload_n hx hb dX8_premise_104 rfl (lv_at hl 5 rfl) ?_
    refine lv_iconst (v := 4) hx hb dX8_premise_105 (by decide) ?_
    refine lv_icmp_le (tgt := 117) hx hb dX8_premise_106 (by decide) (fun c106 => absurd c106 (by decide)) (fun _ => ?_)
    refine lv_aload_n hx hb dX8_premise_109 rfl (lv_at hl 4 rfl) ?_
    refine lv_iload hx hb dX8_premise_110 (lv_at hl 0 rfl) ?_
    refine lv_iload_n hx hb dX8_premise_112 rfl (lv_at hl 6 rfl) ?_
    refine lv_iconst (v := 0) hx hb dX8_premise_113 (by decide) ?_
    refine r_callVv (ci := 8) (As := [.int (nI (d + 1)), .int (nI aa), .int (0)]) hx hb hml hown hts hK hA hs (22) (by omega) (md22 hMm_161) rfl rfl (c_X8_set l G hMm_161 (d := (d + 1)) (f := aa) (by omega) (by omega) false) (cwV 3 hts (tbV w_ml_RX8_137 w_im_yX8_set w_se_yX8_set w_ini_RX8 w_cd_yX8_set) rfl rfl rfl (by decide +kernel) ⟨Nat.le_of_ble_eq_true rfl, Nat.le_of_ble_eq_true rfl⟩) rfl hl.1 rfl (Nat.le_of_ble_eq_true rfl) dX8_premise_114 ⟨Nat.le_refl _, Nat.le_refl _⟩ (fun ad_164 en_165 H locs hp_166 hs => ?_)
    obtain ⟨c_163, ec_163⟩ : ∃ z, z = cSet c_157 (d + 1) aa false := ⟨_, rfl⟩
    rw [← ec_163] at hp_166
    obtain ⟨⟨hAm_167, hFm_167⟩, hMm_167⟩ := hp_166
    subst hAm_167
    have fr_168 : ∀ k, k < 22 → en_165 k = en k := fun k hk => Eq.trans (hFm_167 k hk) (fr_162 k hk)
    have hRn_c_163 : RowM c_163 (d + 1) (gDel Γ aa) := by rw [ec_163]; exact row_del hRn_c_157 (by omega)
    refine lv_iload_n hx hb dX8_premise_117 rfl (lv_at hl 5 rfl) ?_
    refine lv_iconst (v := 5) hx hb dX8_premise_118 (by decide) ?_
    refine lv_icmp_ne (tgt := 143) hx hb dX8_premise_119 (by decide) (fun _ => ?_) (fun c119 => absurd c119 (by decide))
    refine lv_iload_n hx hb dX8_premise_143 rfl (lv_at hl 5 rfl) ?_
    refine lv_bipush (v := 6) hx hb dX8_premise_144 (by decide) ?_
    refine lv_icmp_ne (tgt := 170) hx hb dX8_premise_146 (by decide) (fun _ => ?_) (fun c146 => absurd c146 (by decide))
    refine lv_iload_n hx hb dX8_premise_170 rfl (lv_at hl 5 rfl) ?_
    refine lv_bipush (v := 7) hx hb dX8_premise_171 (by decide) ?_
    refine lv_icmp_ne (tgt := 188) hx hb dX8_premise_173 (by decide) (fun _ => ?_) (fun c173 => absurd c173 (by decide))
    refine lv_iload_n hx hb dX8_premise_188 rfl (lv_at hl 5 rfl) ?_
    refine lv_bipush (v := 9) hx hb dX8_premise_189 (by decide) ?_
    refine lv_icmp_ne (tgt := 232) hx hb dX8_premise_191 (by decide) (fun _ => ?_) (fun c191 => absurd c191 (by decide))
    refine lv_iload_n hx hb dX8_premise_232 rfl (lv_at hl 5 rfl) ?_
    refine lv_bipush (v := 10) hx hb dX8_premise_233 (by decide) ?_
    refine lv_icmp_ne (tgt := 278) hx hb dX8_premise_235 (by decide) (fun c235 => absurd (by decide) c235) (fun _ => ?_)
    refine lv_aload_n hx hb dX8_premise_238 rfl (lv_at hl 4 rfl) ?_
    refine lv_iload hx hb dX8_premise_239 (lv_at hl 0 rfl) ?_
    refine lv_aload_n hx hb dX8_premise_241 rfl (lv_at hl 4 rfl) ?_
    refine lv_aload_n hx hb dX8_premise_242 rfl (lv_at hl 4 rfl) ?_
    refine r_get (ci := 8) (v := .ref (ad 24)) (C := RX8) (T := TX8) (N := 31) hx hb hts inlX8 hown hK hs (22) (by omega) (md22 hMm_167) rfl 1 (by decide) (hts _ w_fl_RX8_13) rfl dX8_premise_243 ?_
    refine lv_iload hx hb dX8_premise_246 (lv_at hl 2 rfl) ?_
    refine r_ialdN (t := sL ss (aa)) hx hb hK hs (24) (by omega) (md24 hMm_167) (rfl) (by omega) (by omega) dX8_premise_248 ?_
    refine r_topi (y := nI (sL ss (sL ss (aa)))) rfl ?_
    refine lv_iload hx hb dX8_premise_249 (lv_at hl 1 rfl) ?_
    refine r_callVi (ci := 8) (As := [.int (nI (sL ss (sL ss (aa)))), .int (nI (sR ss (aa)))]) hx hb hml hown hts hK hA hs (22) (by omega) (md22 hMm_167) rfl rfl (c_X8_implication l G hMm_167 (a := (sL ss (sL ss aa))) (b := (sR ss aa)) (hpc) (hpr)) (cwV 2 hts (tbV w_ml_RX8_141 w_im_yX8_implication w_se_yX8_implication w_ini_RX8 w_cd_yX8_implication) rfl rfl rfl (by decide +kernel) ⟨Nat.le_of_ble_eq_true rfl, Nat.le_of_ble_eq_true rfl⟩) rfl hl.1 rfl (Nat.le_of_ble_eq_true rfl) dX8_premise_251 ⟨Nat.le_refl _, Nat.le_refl _⟩ (fun r_172 ad_169 en_170 H locs hp_171 hs => ?_)
    obtain ⟨⟨hAm_173, hFm_173⟩, hrm_173, hMm_173⟩ := hp_171
    subst hAm_173
    rw [hrm_173]
    have fr_174 : ∀ k, k < 22 → en_170 k = en k := fun k hk => Eq.trans (hFm_173 k hk) (fr_168 k hk)
    rcases hq1 : impS ss (sL ss (sL ss aa)) (sR ss aa) with _ | i1
    · skip
      have hMm_173n : MdW G n ad en_170 ((impT ss (sL ss (sL ss aa)) (sR ss aa))) ns c_163 us ((-3)) (nI d) cl := by have q := hMm_173; rw [hq1] at q; exact q
      refine r_topi (y := nI 0) rfl ?_
      obtain ⟨⟨y1, ey1⟩, hokb, -⟩ := imp_ok hok (a := (sL ss (sL ss aa))) (b := (sR ss aa)) (by omega) (by omega)
      obtain ⟨p1, p2, p3, p4, -⟩ := par_eq hok ey1 hfr.2 (by omega)
      have hle1 : ss.length ≤ (impT ss (sL ss (sL ss aa)) (sR ss aa)).length := by rw [ey1]; simp
      have h6b := hokb.1
      refine lv_iconst (v := 1) hx hb dX8_premise_254 (by decide) ?_
      refine r_callVv (ci := 8) (As := [.int (nI (d + 1)), .int (nI 0), .int (1)]) hx hb hml hown hts hK hA hs (22) (by omega) (md22 hMm_173n) rfl rfl (c_X8_set l G hMm_173n (d := (d + 1)) (f := 0) (by omega) (by omega) true) (cwV 3 hts (tbV w_ml_RX8_137 w_im_yX8_set w_se_yX8_set w_ini_RX8 w_cd_yX8_set) rfl rfl rfl (by decide +kernel) ⟨Nat.le_of_ble_eq_true rfl, Nat.le_of_ble_eq_true rfl⟩) rfl hl.1 rfl (Nat.le_of_ble_eq_true rfl) dX8_premise_255 ⟨Nat.le_refl _, Nat.le_refl _⟩ (fun ad_176 en_177 H locs hp_178 hs => ?_)
      obtain ⟨c_175, ec_175⟩ : ∃ z, z = cSet c_163 (d + 1) 0 true := ⟨_, rfl⟩
      rw [← ec_175] at hp_178
      obtain ⟨⟨hAm_179, hFm_179⟩, hMm_179⟩ := hp_178
      subst hAm_179
      have fr_180 : ∀ k, k < 22 → en_177 k = en k := fun k hk => Eq.trans (hFm_179 k hk) (fr_174 k hk)
      have hRn_c_175 : RowM c_175 (d + 1) (gAdd (gDel Γ aa) 0) := by rw [ec_175]; exact row_add hRn_c_163 (by omega)
      refine lv_aload_n hx hb dX8_premise_258 rfl (lv_at hl 4 rfl) ?_
      refine lv_iload hx hb dX8_premise_259 (lv_at hl 0 rfl) ?_
      refine lv_aload_n hx hb dX8_premise_261 rfl (lv_at hl 4 rfl) ?_
      refine lv_aload_n hx hb dX8_premise_262 rfl (lv_at hl 4 rfl) ?_
      refine r_get (ci := 8) (v := .ref (ad 25)) (C := RX8) (T := TX8) (N := 31) hx hb hts inlX8 hown hK hs (22) (by omega) (md22 hMm_179) rfl 2 (by decide) (hts _ w_fl_RX8_16) rfl dX8_premise_263 ?_
      refine lv_iload hx hb dX8_premise_266 (lv_at hl 2 rfl) ?_
      refine r_ialdN (t := sL ss (aa)) hx hb hK hs (25) (by omega) (md25 hMm_179) (rfl) (by omega) (by omega) dX8_premise_268 ?_
      refine r_topi (y := nI (sR (impT ss (sL ss (sL ss aa)) (sR ss aa)) (sL ss (aa)))) rfl ?_
      refine lv_iload hx hb dX8_premise_269 (lv_at hl 1 rfl) ?_
      refine r_callViR (ci := 8) (As := [.int (nI (sR (impT ss (sL ss (sL ss aa)) (sR ss aa)) (sL ss (aa)))), .int (nI (sR ss (aa)))]) hx hb hml hown hts hK hA hs (22) (by omega) (md22 hMm_179) rfl rfl (c_X8_implication0 l G hMm_179 (nI (sR (impT ss (sL ss (sL ss aa)) (sR ss aa)) (sL ss (aa)))) (nI (sR ss (aa))) (by decide)) (cwV 2 hts (tbV w_ml_RX8_141 w_im_yX8_implication w_se_yX8_implication w_ini_RX8 w_cd_yX8_implication) rfl rfl rfl (by decide +kernel) ⟨Nat.le_of_ble_eq_true rfl, Nat.le_of_ble_eq_true rfl⟩) rfl hl.1 rfl (Nat.le_of_ble_eq_true rfl) dX8_premise_271 ⟨Nat.zero_le _, Nat.zero_le _⟩ (fun H locs hs => ?_)
      refine lv_iconst (v := 1) hx hb dX8_premise_274 (by decide) ?_
      refine r_callVv (ci := 8) (As := [.int (nI (d + 1)), .int (0), .int (1)]) hx hb hml hown hts hK hA hs (22) (by omega) (md22 hMm_179) rfl rfl (c_X8_set l G hMm_179 (d := (d + 1)) (f := 0) (by omega) (by omega) true) (cwV 3 hts (tbV w_ml_RX8_137 w_im_yX8_set w_se_yX8_set w_ini_RX8 w_cd_yX8_set) rfl rfl rfl (by decide +kernel) ⟨Nat.le_of_ble_eq_true rfl, Nat.le_of_ble_eq_true rfl⟩) rfl hl.1 rfl (Nat.le_of_ble_eq_true rfl) dX8_premise_275 ⟨Nat.le_refl _, Nat.le_refl _⟩ (fun ad_182 en_183 H locs hp_184 hs => ?_)
      obtain ⟨c_181, ec_181⟩ : ∃ z, z = cSet c_175 (d + 1) 0 true := ⟨_, rfl⟩
      rw [← ec_181] at hp_184
      obtain ⟨⟨hAm_185, hFm_185⟩, hMm_185⟩ := hp_184
      subst hAm_185
      have fr_186 : ∀ k, k < 22 → en_183 k = en k := fun k hk => Eq.trans (hFm_185 k hk) (fr_180 k hk)
      have hRn_c_181 : RowM c_181 (d + 1) (gAdd (gAdd (gDel Γ aa) 0) 0) := by rw [ec_181]; exact row_add hRn_c_175 (by omega)
      refine r_vret (mc := 0) (ms := 0) hx hb hr hlk hs (Nat.le_refl _) (Nat.le_refl _) dX8_premise_278 hQ ?_
      exact pr_no (brg10n (ss := ss) (f := aa) (k := 0 + 1) rfl rfl rfl rfl hq1) fr_186 hMm_185 (fun r t h1 h2 => by rw [ec_181, cSet_o (by omega), ec_175, cSet_o (by omega), ec_163, cSet_o (by omega), ec_157, opn_o (by omega)])
    · skip
      have hMm_173s : MdW G n ad en_170 ((impT ss (sL ss (sL ss aa)) (sR ss aa))) ns c_163 us 0 (nI d) cl := by have q := hMm_173; rw [hq1] at q; exact q
      refine r_topi (y := nI i1) rfl ?_
      have hv1 := (imp_ok hok (a := (sL ss (sL ss aa))) (b := (sR ss aa)) (by omega) (by omega)).2.2 i1 hq1
      obtain ⟨⟨y1, ey1⟩, hokb, -⟩ := imp_ok hok (a := (sL ss (sL ss aa))) (b := (sR ss aa)) (by omega) (by omega)
      obtain ⟨p1, p2, p3, p4, -⟩ := par_eq hok ey1 hfr.2 (by omega)
      have hle1 : ss.length ≤ (impT ss (sL ss (sL ss aa)) (sR ss aa)).length := by rw [ey1]; simp
      have h6b := hokb.1
      have hvl1 := hv1.2.1
      have hvp1 := hv1.1
      refine lv_iconst (v := 1) hx hb dX8_premise_254 (by decide) ?_
      refine r_callVv (ci := 8) (As := [.int (nI (d + 1)), .int (nI i1), .int (1)]) hx hb hml hown hts hK hA hs (22) (by omega) (md22 hMm_173s) rfl rfl (c_X8_set l G hMm_173s (d := (d + 1)) (f := i1) (by omega) (by omega) true) (cwV 3 hts (tbV w_ml_RX8_137 w_im_yX8_set w_se_yX8_set w_ini_RX8 w_cd_yX8_set) rfl rfl rfl (by decide +kernel) ⟨Nat.le_of_ble_eq_true rfl, Nat.le_of_ble_eq_true rfl⟩) rfl hl.1 rfl (Nat.le_of_ble_eq_true rfl) dX8_premise_255 ⟨Nat.le_refl _, Nat.le_refl _⟩ (fun ad_188 en_189 H locs hp_190 hs => ?_)
      obtain ⟨c_187, ec_187⟩ : ∃ z, z = cSet c_163 (d + 1) i1 true := ⟨_, rfl⟩
      rw [← ec_187] at hp_190
      obtain ⟨⟨hAm_191, hFm_191⟩, hMm_191⟩ := hp_190
      subst hAm_191
      have fr_192 : ∀ k, k < 22 → en_189 k = en k := fun k hk => Eq.trans (hFm_191 k hk) (fr_174 k hk)
      have hRn_c_187 : RowM c_187 (d + 1) (gAdd (gDel Γ aa) i1) := by rw [ec_187]; exact row_add hRn_c_163 (by omega)
      refine lv_aload_n hx hb dX8_premise_258 rfl (lv_at hl 4 rfl) ?_
      refine lv_iload hx hb dX8_premise_259 (lv_at hl 0 rfl) ?_
      refine lv_aload_n hx hb dX8_premise_261 rfl (lv_at hl 4 rfl) ?_
      refine lv_aload_n hx hb dX8_premise_262 rfl (lv_at hl 4 rfl) ?_
      refine r_get (ci := 8) (v := .ref (ad 25)) (C := RX8) (T := TX8) (N := 31) hx hb hts inlX8 hown hK hs (22) (by omega) (md22 hMm_191) rfl 2 (by decide) (hts _ w_fl_RX8_16) rfl dX8_premise_263 ?_
      refine lv_iload hx hb dX8_premise_266 (lv_at hl 2 rfl) ?_
      refine r_ialdN (t := sL ss (aa)) hx hb hK hs (25) (by omega) (md25 hMm_191) (rfl) (by omega) (by omega) dX8_premise_268 ?_
      refine r_topi (y := nI (sR (impT ss (sL ss (sL ss aa)) (sR ss aa)) (sL ss (aa)))) rfl ?_
      refine r_topi (y := nI (sR ss (sL ss aa))) (by rw [p4]) ?_
      refine lv_iload hx hb dX8_premise_269 (lv_at hl 1 rfl) ?_
      refine r_callVi (ci := 8) (As := [.int (nI (sR ss (sL ss aa))), .int (nI (sR ss (aa)))]) hx hb hml hown hts hK hA hs (22) (by omega) (md22 hMm_191) rfl rfl (c_X8_implication l G hMm_191 (a := (sR ss (sL ss aa))) (b := (sR ss aa)) (by omega) (by omega)) (cwV 2 hts (tbV w_ml_RX8_141 w_im_yX8_implication w_se_yX8_implication w_ini_RX8 w_cd_yX8_implication) rfl rfl rfl (by decide +kernel) ⟨Nat.le_of_ble_eq_true rfl, Nat.le_of_ble_eq_true rfl⟩) rfl hl.1 rfl (Nat.le_of_ble_eq_true rfl) dX8_premise_271 ⟨Nat.le_refl _, Nat.le_refl _⟩ (fun r_196 ad_193 en_194 H locs hp_195 hs => ?_)
      obtain ⟨⟨hAm_197, hFm_197⟩, hrm_197, hMm_197⟩ := hp_195
      subst hAm_197
      rw [hrm_197]
      have fr_198 : ∀ k, k < 22 → en_194 k = en k := fun k hk => Eq.trans (hFm_197 k hk) (fr_192 k hk)
      rcases hq2 : impS (impT ss (sL ss (sL ss aa)) (sR ss aa)) (sR ss (sL ss aa)) (sR ss aa) with _ | i2
      · skip
        have hMm_197n : MdW G n ad en_194 ((impT (impT ss (sL ss (sL ss aa)) (sR ss aa)) (sR ss (sL ss aa)) (sR ss aa))) ns c_187 us ((-3)) (nI d) cl := by have q := hMm_197; rw [hq2] at q; exact q
        refine r_topi (y := nI 0) rfl ?_
        obtain ⟨⟨y2, ey2⟩, hokc, -⟩ := imp_ok hokb (a := (sR ss (sL ss aa))) (b := (sR ss aa)) (by omega) (by omega)
        have h6c := hokc.1
        have hle2 : ((impT ss (sL ss (sL ss aa)) (sR ss aa))).length ≤ (impT (impT ss (sL ss (sL ss aa)) (sR ss aa)) (sR ss (sL ss aa)) (sR ss aa)).length := by rw [ey2]; simp
        refine lv_iconst (v := 1) hx hb dX8_premise_274 (by decide) ?_
        refine r_callVv (ci := 8) (As := [.int (nI (d + 1)), .int (nI 0), .int (1)]) hx hb hml hown hts hK hA hs (22) (by omega) (md22 hMm_197n) rfl rfl (c_X8_set l G hMm_197n (d := (d + 1)) (f := 0) (by omega) (by omega) true) (cwV 3 hts (tbV w_ml_RX8_137 w_im_yX8_set w_se_yX8_set w_ini_RX8 w_cd_yX8_set) rfl rfl rfl (by decide +kernel) ⟨Nat.le_of_ble_eq_true rfl, Nat.le_of_ble_eq_true rfl⟩) rfl hl.1 rfl (Nat.le_of_ble_eq_true rfl) dX8_premise_275 ⟨Nat.le_refl _, Nat.le_refl _⟩ (fun ad_200 en_201 H locs hp_202 hs => ?_)
        obtain ⟨c_199, ec_199⟩ : ∃ z, z = cSet c_187 (d + 1) 0 true := ⟨_, rfl⟩
        rw [← ec_199] at hp_202
        obtain ⟨⟨hAm_203, hFm_203⟩, hMm_203⟩ := hp_202
        subst hAm_203
        have fr_204 : ∀ k, k < 22 → en_201 k = en k := fun k hk => Eq.trans (hFm_203 k hk) (fr_198 k hk)
        have hRn_c_199 : RowM c_199 (d + 1) (gAdd (gAdd (gDel Γ aa) i1) 0) := by rw [ec_199]; exact row_add hRn_c_187 (by omega)
        refine r_vret (mc := 0) (ms := 0) hx hb hr hlk hs (Nat.le_refl _) (Nat.le_refl _) dX8_premise_278 hQ ?_
        exact pr_no (brg10s (ss := ss) (f := aa) (k := 0 + 1) rfl rfl rfl rfl hq1 hq2) fr_204 hMm_203 (fun r t h1 h2 => by rw [ec_199, cSet_o (by omega), ec_187, cSet_o (by omega), ec_163, cSet_o (by omega), ec_157, opn_o (by omega)])
      · skip
        have hMm_197s : MdW G n ad en_194 ((impT (impT ss (sL ss (sL ss aa)) (sR ss aa)) (sR ss (sL ss aa)) (sR ss aa))) ns c_187 us 0 (nI d) cl := by have q := hMm_197; rw [hq2] at q; exact q
        refine r_topi (y := nI i2) rfl ?_
        have hv2 := (imp_ok hokb (a := (sR ss (sL ss aa))) (b := (sR ss aa)) (by omega) (by omega)).2.2 i2 hq2
        obtain ⟨⟨y2, ey2⟩, hokc, -⟩ := imp_ok hokb (a := (sR ss (sL ss aa))) (b := (sR ss aa)) (by omega) (by omega)
        have h6c := hokc.1
        have hle2 : ((impT ss (sL ss (sL ss aa)) (sR ss aa))).length ≤ (impT (impT ss (sL ss (sL ss aa)) (sR ss aa)) (sR ss (sL ss aa)) (sR ss aa)).length := by rw [ey2]; simp
        have hvl2 := hv2.2.1
        have hvp2 := hv2.1
        refine lv_iconst (v := 1) hx hb dX8_premise_274 (by decide) ?_
        refine r_callVv (ci := 8) (As := [.int (nI (d + 1)), .int (nI i2), .int (1)]) hx hb hml hown hts hK hA hs (22) (by omega) (md22 hMm_197s) rfl rfl (c_X8_set l G hMm_197s (d := (d + 1)) (f := i2) (by omega) (by omega) true) (cwV 3 hts (tbV w_ml_RX8_137 w_im_yX8_set w_se_yX8_set w_ini_RX8 w_cd_yX8_set) rfl rfl rfl (by decide +kernel) ⟨Nat.le_of_ble_eq_true rfl, Nat.le_of_ble_eq_true rfl⟩) rfl hl.1 rfl (Nat.le_of_ble_eq_true rfl) dX8_premise_275 ⟨Nat.le_refl _, Nat.le_refl _⟩ (fun ad_206 en_207 H locs hp_208 hs => ?_)
        obtain ⟨c_205, ec_205⟩ : ∃ z, z = cSet c_187 (d + 1) i2 true := ⟨_, rfl⟩
        rw [← ec_205] at hp_208
        obtain ⟨⟨hAm_209, hFm_209⟩, hMm_209⟩ := hp_208
        subst hAm_209
        have fr_210 : ∀ k, k < 22 → en_207 k = en k := fun k hk => Eq.trans (hFm_209 k hk) (fr_198 k hk)
        have hRn_c_205 : RowM c_205 (d + 1) (gAdd (gAdd (gDel Γ aa) i1) i2) := by rw [ec_205]; exact row_add hRn_c_187 (by omega)
        refine r_vret (mc := 0) (ms := 0) hx hb hr hlk hs (Nat.le_refl _) (Nat.le_refl _) dX8_premise_278 hQ ?_
        exact pr_so (brg10t (ss := ss) (f := aa) (k := 0 + 1) rfl rfl rfl rfl hq1 hq2) fr_210 hMm_209 (fun r t h1 h2 => by rw [ec_205, cSet_o (by omega), ec_187, cSet_o (by omega), ec_163, cSet_o (by omega), ec_157, opn_o (by omega)]) hRn_c_205 (by rw [show (brg ss 10 (0 + 1) aa).2 = _ from congrArg Prod.snd (brg10t (ss := ss) (f := aa) (k := 0 + 1) rfl rfl rfl rfl hq1 hq2)]; rfl) (by rw [ec_205, cSet_o (Or.inl (by decide)), ec_187, cSet_o (Or.inl (by decide)), ec_163, cSet_o (Or.inl (by decide)), ec_157, opn_w]; exact congrArg nI (by rw [brg10t (ss := ss) (f := aa) (k := 0 + 1) rfl rfl rfl rfl hq1 hq2]; rfl))

set_option maxHeartbeats 600000 in
set_option maxRecDepth 100000 in
theorem c_X8_isTrue (l : Launch) (G : rG) {n : Nat} {ad : Nat → Nat} {en : Nat → va_E} {ss ns : List Row} {c : Nat → Nat → Int32} {us : Int32} {ov : Int32} {dp : Int32} {cl : Int32}  (hM : MdW G n ad en ss ns c us ov dp cl) (x y : Int32) : CI l G yX8_isTrue uX8_isTrue (1) (21) (0) (0) [.ref (ad 22), .int (x), .int (y)] (n) (n) ad en (mxPost G n ad en (fTrue ss x y) ss ns us ov dp cl) := by
  intro sz
  refine rMet (Qc := qI G (n) (mxPost G n ad en (fTrue ss x y) ss ns us ov dp cl)) (cc := cX8_isTrue) (maxL := 6) (ret := (some .int)) (by decide) rfl (Nat.le_of_ble_eq_true rfl) ?_
  intro pP eE sS mM aA bB tT cC ls A Q hc hK hsz hA hs hl hQ
  obtain ⟨hx, hb, hr, hts, hown, hlk, hnm, hml⟩ := hc
  have hl : lv_has ls 6 [(0, .ref (ad 22)), (1, .int (x)), (2, .int (y))] := hl
  have fr0 : ∀ k, k < 22 → en k = en k := fun _ _ => rfl
  obtain ⟨hn48, -, -, -, hok, hnk⟩ := id hM
  have h6 := hok.1
  have h8 := hnk.1
  
  refine lv_aload_n hx hb dX8_isTrue_0 rfl (lv_at hl 0 rfl) ?_
  refine lv_iload_n hx hb dX8_isTrue_1 rfl (lv_at hl 1 rfl) ?_
  refine r_callViR (ci := 8) (As := [.int (x)]) hx hb hml hown hts hK hA hs (22) (by omega) (md22 hM) rfl rfl (c_X8_isStatement l G hM (x)) (cwV 1 hts (tbV w_ml_RX8_99 w_im_yX8_isStatement w_se_yX8_isStatement w_ini_RX8 w_cd_yX8_isStatement) rfl rfl rfl (by decide +kernel) ⟨Nat.le_of_ble_eq_true rfl, Nat.le_of_ble_eq_true rfl⟩) rfl hl.1 rfl (Nat.le_of_ble_eq_true rfl) dX8_isTrue_2 ⟨Nat.zero_le _, Nat.zero_le _⟩ (fun H locs hs => ?_)
  refine lv_if_ne (tgt := 10) hx hb dX8_isTrue_5 (by decide) (fun c5 => ?_) (fun c5 => ?_)
  · skip
    obtain ⟨k, hk0, hk1, hk2⟩ := holds_ex (b2i_1 c5)
    have hHk := b2i_1 c5
    subst hk0
    refine lv_iconst (v := 1) hx hb dX8_isTrue_10 (by decide) ?_
    refine r_topi (y := nI 1) (rfl) ?_
    refine lv_istore_n (lv' := [(3, .int (nI 1)), (0, .ref (ad 22)), (1, .int (nI k)), (2, .int (y))]) hx hb dX8_isTrue_11 rfl hl (by decide) rfl (fun ls hl => ?_)
    suffices LOOP12 : ∀ (fu12 : Nat) (j : Nat) (c2 : Nat → Nat → Int32) (en2 : Nat → va_E) (H : Heap) (locs : List Loc) (ls : Array Slot), (1 ≤ j ∧ j ≤ k + 1) → (∀ i, 1 ≤ i → i < j → c2 47 i = b2i (tvT ss y i i)) → (MdW G n ad en2 ss ns c2 us ov dp cl) → (∀ k, k < 22 → en2 k = en k) → k + 2 - j < fu12 → rS G A sS.heap (n) ad en2 H locs → lv_has ls 6 [(0, .ref (ad 22)), (1, .int (nI k)), (2, .int (y)), (3, .int (nI j))] → W pP l eE (rRm (1) (21) (0) (0)) sS mM aA bB tT cC H locs (0) (0) Q (F0 mM 12 ls []) from LOOP12 _ (1) (c) (en) _ _ _ (by omega) (fun i a b => by omega) (hM) (fr0) (Nat.lt_succ_self _) hs (lv_sub hl [1, 2, 3, 0] rfl)
    intro fu12
    induction fu12 with
    | zero => intro j c2 en2 H locs ls hj htv hM2 fr2 hfu; exact absurd hfu (Nat.not_lt_zero _)
    | succ fu12 ih12 => ?_
    intro j c2 en2 H locs ls hj htv hM2 fr2 hfu12 hs hl
    refine lv_iload_n hx hb dX8_isTrue_12 rfl (lv_at hl 3 rfl) ?_
    refine lv_iload_n hx hb dX8_isTrue_13 rfl (lv_at hl 1 rfl) ?_
    refine lv_icmp_gt (tgt := 221) hx hb dX8_isTrue_14 (by decide) (fun c14 => ?_) (fun c14 => ?_)
    · skip
      have hjk : j = k + 1 := by have := (nI_ltI (by omega) (by omega)).mp c14; omega
      refine lv_aload_n hx hb dX8_isTrue_221 rfl (lv_at hl 0 rfl) ?_
      refine r_get (ci := 8) (v := .ref (ad 47)) (C := RX8) (T := TX8) (N := 31) hx hb hts inlX8 hown hK hs (22) (by omega) (md22 hM2) rfl 30 (by decide) (hts _ w_fl_RX8_85) rfl dX8_isTrue_222 ?_
      refine lv_iload_n hx hb dX8_isTrue_225 rfl (lv_at hl 1 rfl) ?_
      refine r_zaldN (t := k) hx hb hK hs (47) (by omega) (md47 hM2) (rfl) (by omega) (by omega) dX8_isTrue_226 ?_
      refine r_topi (y := b2i (tvT ss y k k)) (htv k hk1 (by omega)) ?_
      refine lv_if_eq (tgt := 234) hx hb dX8_isTrue_227 (by decide) (fun c227 => ?_) (fun c227 => ?_)
      · skip
        refine lv_iconst (v := 0) hx hb dX8_isTrue_234 (by decide) ?_
        refine r_iret (v := 0) (mc := 0) (ms := 0) hx hb hr hlk hs (Nat.le_refl _) (Nat.le_refl _) dX8_isTrue_235 hQ ?_
        exact ⟨⟨rfl, fr2⟩, by rw [fTrue, if_pos hHk, tN_nI (by omega)]; rw [b2i_0 c227]; rfl, _, hM2⟩
      · skip
        refine lv_iconst (v := 1) hx hb dX8_isTrue_230 (by decide) ?_
        refine lv_goto (tgt := 235) hx hb dX8_isTrue_231 (by decide) ?_
        refine r_iret (v := 1) (mc := 0) (ms := 0) hx hb hr hlk hs (Nat.le_refl _) (Nat.le_refl _) dX8_isTrue_235 hQ ?_
        exact ⟨⟨rfl, fr2⟩, by rw [fTrue, if_pos hHk, tN_nI (by omega)]; rw [b2i_1 c227]; rfl, _, hM2⟩
    · skip
      have hjk : j ≤ k := Nat.le_of_not_lt (fun q => c14 ((nI_ltI (by omega) (by omega)).mpr q))
      have hsl := sLR_lt hok j
      refine lv_aload_n hx hb dX8_isTrue_17 rfl (lv_at hl 0 rfl) ?_
      refine r_get (ci := 8) (v := .ref (ad 47)) (C := RX8) (T := TX8) (N := 31) hx hb hts inlX8 hown hK hs (22) (by omega) (md22 hM2) rfl 30 (by decide) (hts _ w_fl_RX8_85) rfl dX8_isTrue_18 ?_
      refine lv_aload_n hx hb dX8_isTrue_21 rfl (lv_at hl 0 rfl) ?_
      refine r_get (ci := 8) (v := .ref (ad 23)) (C := RX8) (T := TX8) (N := 31) hx hb hts inlX8 hown hK hs (22) (by omega) (md22 hM2) rfl 0 (by decide) (hts _ w_fl_RX8_7) rfl dX8_isTrue_22 ?_
      refine lv_iload_n hx hb dX8_isTrue_25 rfl (lv_at hl 3 rfl) ?_
      refine r_ialdN (t := j) hx hb hK hs (23) (by omega) (md23 hM2) (rfl) (by omega) (by omega) dX8_isTrue_26 ?_
      refine r_topi (y := nI (sSort ss (j))) rfl ?_
      refine lv_iconst (v := 1) hx hb dX8_isTrue_27 (by decide) ?_
      refine lv_icmp_le (tgt := 40) hx hb dX8_isTrue_28 (by decide) (fun c28 => ?_) (fun c28 => ?_)
      · skip
        have hs1 : sSort ss j ≤ 1 := (nI_leI (b := 1) (by have := sort_le hok (k := j); omega) (by decide)).mp c28
        refine lv_iconst (v := 0) hx hb dX8_isTrue_40 (by decide) ?_
        refine r_zaldN (t := 0) hx hb hK hs (47) (by omega) (md47 hM2) (rfl) (by decide) (by decide) dX8_isTrue_41 ?_
        refine lv_topi (fun x4_1 ex4_1 => ?_)
        refine lv_istore (lv' := [(4, .int (x4_1)), (0, .ref (ad 22)), (1, .int (nI k)), (2, .int (y)), (3, .int (nI j))]) hx hb dX8_isTrue_42 hl (by decide) rfl (fun ls hl => ?_)
        refine lv_aload_n hx hb dX8_isTrue_44 rfl (lv_at hl 1 rfl) ?_
        refine r_get (ci := 8) (v := .ref (ad 47)) (C := RX8) (T := TX8) (N := 31) hx hb hts inlX8 hown hK hs (22) (by omega) (md22 hM2) rfl 30 (by decide) (hts _ w_fl_RX8_85) rfl dX8_isTrue_45 ?_
        refine lv_aload_n hx hb dX8_isTrue_48 rfl (lv_at hl 1 rfl) ?_
        refine r_get (ci := 8) (v := .ref (ad 23)) (C := RX8) (T := TX8) (N := 31) hx hb hts inlX8 hown hK hs (22) (by omega) (md22 hM2) rfl 0 (by decide) (hts _ w_fl_RX8_7) rfl dX8_isTrue_49 ?_
        refine lv_iload_n hx hb dX8_isTrue_52 rfl (lv_at hl 4 rfl) ?_
        refine r_ialdN (t := j) hx hb hK hs (23) (by omega) (md23 hM2) (rfl) (by omega) (by omega) dX8_isTrue_53 ?_
        refine r_topi (y := nI (sSort ss (j))) rfl ?_
        refine lv_iconst (v := 1) hx hb dX8_isTrue_54 (by decide) ?_
        refine lv_icmp_le (tgt := 67) hx hb dX8_isTrue_55 (by decide) (fun _ => ?_) (fun c55 => absurd (c28) c55)
        refine lv_iconst (v := 0) hx hb dX8_isTrue_67 (by decide) ?_
        refine r_zaldN (t := 0) hx hb hK hs (47) (by omega) (md47 hM2) (rfl) (by decide) (by decide) dX8_isTrue_68 ?_
        refine lv_topi (fun x5_2 ex5_2 => ?_)
        refine lv_istore (lv' := [(5, .int (x5_2)), (4, .int (x4_1)), (0, .ref (ad 22)), (1, .int (nI k)), (2, .int (y)), (3, .int (nI j))]) hx hb dX8_isTrue_69 hl (by decide) rfl (fun ls hl => ?_)
        refine lv_aload_n hx hb dX8_isTrue_71 rfl (lv_at hl 2 rfl) ?_
        refine r_get (ci := 8) (v := .ref (ad 23)) (C := RX8) (T := TX8) (N := 31) hx hb hts inlX8 hown hK hs (22) (by omega) (md22 hM2) rfl 0 (by decide) (hts _ w_fl_RX8_7) rfl dX8_isTrue_72 ?_
        refine lv_iload_n hx hb dX8_isTrue_75 rfl (lv_at hl 5 rfl) ?_
        refine r_ialdN (t := j) hx hb hK hs (23) (by omega) (md23 hM2) (rfl) (by omega) (by omega) dX8_isTrue_76 ?_
        refine r_topi (y := nI (sSort ss (j))) rfl ?_
        by_cases k77_0 : nI (sSort ss (j)) = 0
        · skip
          refine lv_tableIn (off := 31) (tgt := 108) hx hb dX8_isTrue_77 (by rw [k77_0]; decide) (by rw [k77_0]; decide) (by rw [k77_0]; decide) (by decide) ?_
          have hso : sSort ss j = 0 := sq hok (v := 0) k77_0
          refine lv_aload_n hx hb dX8_isTrue_108 rfl (lv_at hl 2 rfl) ?_
          refine r_get (ci := 8) (v := .ref (ad 47)) (C := RX8) (T := TX8) (N := 31) hx hb hts inlX8 hown hK hs (22) (by omega) (md22 hM2) rfl 30 (by decide) (hts _ w_fl_RX8_85) rfl dX8_isTrue_109 ?_
          refine lv_iload_n hx hb dX8_isTrue_112 rfl (lv_at hl 5 rfl) ?_
          refine lv_iload_n hx hb dX8_isTrue_113 rfl (lv_at hl 4 rfl) ?_
          refine lv_aload_n hx hb dX8_isTrue_114 rfl (lv_at hl 2 rfl) ?_
          refine r_get (ci := 8) (v := .ref (ad 24)) (C := RX8) (T := TX8) (N := 31) hx hb hts inlX8 hown hK hs (22) (by omega) (md22 hM2) rfl 1 (by decide) (hts _ w_fl_RX8_13) rfl dX8_isTrue_115 ?_
          refine lv_iload_n hx hb dX8_isTrue_118 rfl (lv_at hl 5 rfl) ?_
          refine r_ialdN (t := j) hx hb hK hs (24) (by omega) (md24 hM2) (rfl) (by omega) (by omega) dX8_isTrue_119 ?_
          refine r_topi (y := nI (sL ss (j))) rfl ?_
          refine lv_ishr hx hb dX8_isTrue_120 ?_
          refine lv_iconst (v := 1) hx hb dX8_isTrue_121 (by decide) ?_
          refine lv_iand hx hb dX8_isTrue_122 ?_
          refine r_topi (y := b2i (y.toBitVec.getLsbD (sL ss j))) (bit32s ((parts_lt hok ⟨hj.1, by omega⟩).1.1 hso)) ?_
          refine lv_iconst (v := 1) hx hb dX8_isTrue_123 (by decide) ?_
          refine lv_icmp_ne (tgt := 131) hx hb dX8_isTrue_124 (by decide) (fun c124 => ?_) (fun c124 => ?_)
          · skip
            refine lv_iconst (v := 0) hx hb dX8_isTrue_131 (by decide) ?_
            refine r_zastN (t := j) hx hb hK hs (47) (by omega) (md47 hM2) (rfl) (by omega) (by omega) dX8_isTrue_132 (fun H locs en_4 hen_4 hs => ?_)
            obtain ⟨c_6, ec_6⟩ : ∃ z, z = cU c2 47 (j) (0) := ⟨_, rfl⟩
            have hM_5 : MdW G n ad en_4 ss ns c_6 us ov dp cl := md_ar (f := upd (c2 47) (j) (0)) hM2 47 (by decide) (by decide) (by rw [hen_4, show vp_nar .boolean 0 = 0 from rfl]; rfl) ec_6
            have fr_7 : ∀ k, k < 22 → en_4 k = en k := fun k hk => Eq.trans (by rw [hen_4]; exact va_up_ne _ _ (by omega)) (fr2 k hk)
            refine lv_goto (tgt := 215) hx hb dX8_isTrue_133 (by decide) ?_
            refine lv_iinc (v := nI (j + 1)) (lv' := [(3, .int (nI (j + 1))), (5, .int (x5_2)), (4, .int (x4_1)), (0, .ref (ad 22)), (1, .int (nI k)), (2, .int (y))]) hx hb dX8_isTrue_215 hl (k := 5) rfl (nI_add j 1) (by decide) rfl (fun ls hl => ?_)
            refine lv_goto (tgt := 12) hx hb dX8_isTrue_218 (by decide) ?_
            exact ih12 (j + 1) (c_6) (en_4) _ _ _ (by omega) (by rw [ec_6]; exact cu_step (v := fun i => b2i (tvT ss y i i)) htv (by rw [tv_E y hok ⟨hj.1, by omega⟩, if_pos hso, b2i_f c124]; rfl)) (hM_5) (fr_7) (by omega) hs (lv_sub hl [3, 4, 5, 0] rfl)
          · skip
            refine lv_iconst (v := 1) hx hb dX8_isTrue_127 (by decide) ?_
            refine lv_goto (tgt := 132) hx hb dX8_isTrue_128 (by decide) ?_
            refine r_zastN (t := j) hx hb hK hs (47) (by omega) (md47 hM2) (rfl) (by omega) (by omega) dX8_isTrue_132 (fun H locs en_9 hen_9 hs => ?_)
            obtain ⟨c_11, ec_11⟩ : ∃ z, z = cU c2 47 (j) (1) := ⟨_, rfl⟩
            have hM_10 : MdW G n ad en_9 ss ns c_11 us ov dp cl := md_ar (f := upd (c2 47) (j) (1)) hM2 47 (by decide) (by decide) (by rw [hen_9, show vp_nar .boolean 1 = 1 from rfl]; rfl) ec_11
            have fr_12 : ∀ k, k < 22 → en_9 k = en k := fun k hk => Eq.trans (by rw [hen_9]; exact va_up_ne _ _ (by omega)) (fr2 k hk)
            refine lv_goto (tgt := 215) hx hb dX8_isTrue_133 (by decide) ?_
            refine lv_iinc (v := nI (j + 1)) (lv' := [(3, .int (nI (j + 1))), (5, .int (x5_2)), (4, .int (x4_1)), (0, .ref (ad 22)), (1, .int (nI k)), (2, .int (y))]) hx hb dX8_isTrue_215 hl (k := 5) rfl (nI_add j 1) (by decide) rfl (fun ls hl => ?_)
            refine lv_goto (tgt := 12) hx hb dX8_isTrue_218 (by decide) ?_
            exact ih12 (j + 1) (c_11) (en_9) _ _ _ (by omega) (by rw [ec_11]; exact cu_step (v := fun i => b2i (tvT ss y i i)) htv (by rw [tv_E y hok ⟨hj.1, by omega⟩, if_pos hso, b2i_t c124]; rfl)) (hM_10) (fr_12) (by omega) hs (lv_sub hl [3, 4, 5, 0] rfl)
        by_cases k77_1 : nI (sSort ss (j)) = 1
        · skip
          refine lv_tableIn (off := 59) (tgt := 136) hx hb dX8_isTrue_77 (by rw [k77_1]; decide) (by rw [k77_1]; decide) (by rw [k77_1]; decide) (by decide) ?_
          have hso : sSort ss j = 1 := sq hok (v := 1) k77_1
          refine lv_aload_n hx hb dX8_isTrue_136 rfl (lv_at hl 2 rfl) ?_
          refine r_get (ci := 8) (v := .ref (ad 47)) (C := RX8) (T := TX8) (N := 31) hx hb hts inlX8 hown hK hs (22) (by omega) (md22 hM2) rfl 30 (by decide) (hts _ w_fl_RX8_85) rfl dX8_isTrue_137 ?_
          refine lv_iload_n hx hb dX8_isTrue_140 rfl (lv_at hl 5 rfl) ?_
          refine lv_iconst (v := 0) hx hb dX8_isTrue_141 (by decide) ?_
          refine r_zastN (t := j) hx hb hK hs (47) (by omega) (md47 hM2) (rfl) (by omega) (by omega) dX8_isTrue_142 (fun H locs en_14 hen_14 hs => ?_)
          obtain ⟨c_16, ec_16⟩ : ∃ z, z = cU c2 47 (j) (0) := ⟨_, rfl⟩
          have hM_15 : MdW G n ad en_14 ss ns c_16 us ov dp cl := md_ar (f := upd (c2 47) (j) (0)) hM2 47 (by decide) (by decide) (by rw [hen_14, show vp_nar .boolean 0 = 0 from rfl]; rfl) ec_16
          have fr_17 : ∀ k, k < 22 → en_14 k = en k := fun k hk => Eq.trans (by rw [hen_14]; exact va_up_ne _ _ (by omega)) (fr2 k hk)
          refine lv_goto (tgt := 215) hx hb dX8_isTrue_143 (by decide) ?_
          refine lv_iinc (v := nI (j + 1)) (lv' := [(3, .int (nI (j + 1))), (5, .int (x5_2)), (4, .int (x4_1)), (0, .ref (ad 22)), (1, .int (nI k)), (2, .int (y))]) hx hb dX8_isTrue_215 hl (k := 5) rfl (nI_add j 1) (by decide) rfl (fun ls hl => ?_)
          refine lv_goto (tgt := 12) hx hb dX8_isTrue_218 (by decide) ?_
          exact ih12 (j + 1) (c_16) (en_14) _ _ _ (by omega) (by rw [ec_16]; exact cu_step (v := fun i => b2i (tvT ss y i i)) htv (by rw [tv_E y hok ⟨hj.1, by omega⟩, if_neg (by omega), if_neg (by omega), if_neg (by omega), if_neg (by omega)]; rfl)) (hM_15) (fr_17) (by omega) hs (lv_sub hl [3, 4, 5, 0] rfl)
        by_cases k77_2 : nI (sSort ss (j)) = 2
        · skip
          exact absurd (sq hok (v := 2) k77_2) (by omega)
        by_cases k77_3 : nI (sSort ss (j)) = 3
        · skip
          exact absurd (sq hok (v := 3) k77_3) (by omega)
        have hsx : sSort ss j = 0 ∨ sSort ss j = 1 := by omega
        exact absurd hsx (fun z => z.elim (fun q => k77_0 (by rw [q]; rfl)) (fun q => k77_1 (by rw [q]; rfl)))
      · skip
        have hs1 : ¬ sSort ss j ≤ 1 := fun q => c28 ((nI_leI (b := 1) (by have := sort_le hok (k := j); omega) (by decide)).mpr q)
        obtain ⟨hpa, hpb⟩ := parts_lo hok (f := j) ⟨hj.1, by omega⟩ (by omega)
        refine lv_aload_n hx hb dX8_isTrue_31 rfl (lv_at hl 0 rfl) ?_
        refine r_get (ci := 8) (v := .ref (ad 24)) (C := RX8) (T := TX8) (N := 31) hx hb hts inlX8 hown hK hs (22) (by omega) (md22 hM2) rfl 1 (by decide) (hts _ w_fl_RX8_13) rfl dX8_isTrue_32 ?_
        refine lv_iload_n hx hb dX8_isTrue_35 rfl (lv_at hl 3 rfl) ?_
        refine r_ialdN (t := j) hx hb hK hs (24) (by omega) (md24 hM2) (rfl) (by omega) (by omega) dX8_isTrue_36 ?_
        refine r_topi (y := nI (sL ss (j))) rfl ?_
        refine lv_goto (tgt := 41) hx hb dX8_isTrue_37 (by decide) ?_
        refine r_zaldN (t := sL ss (j)) hx hb hK hs (47) (by omega) (md47 hM2) (rfl) (by omega) (by omega) dX8_isTrue_41 ?_
        refine r_topi (y := b2i (tvT ss y (sL ss j) (sL ss j))) (htv (sL ss j) (by omega) (by omega)) ?_
        refine lv_istore (lv' := [(4, .int (b2i (tvT ss y (sL ss j) (sL ss j)))), (0, .ref (ad 22)), (1, .int (nI k)), (2, .int (y)), (3, .int (nI j))]) hx hb dX8_isTrue_42 hl (by decide) rfl (fun ls hl => ?_)
        refine lv_aload_n hx hb dX8_isTrue_44 rfl (lv_at hl 1 rfl) ?_
        refine r_get (ci := 8) (v := .ref (ad 47)) (C := RX8) (T := TX8) (N := 31) hx hb hts inlX8 hown hK hs (22) (by omega) (md22 hM2) rfl 30 (by decide) (hts _ w_fl_RX8_85) rfl dX8_isTrue_45 ?_
        refine lv_aload_n hx hb dX8_isTrue_48 rfl (lv_at hl 1 rfl) ?_
        refine r_get (ci := 8) (v := .ref (ad 23)) (C := RX8) (T := TX8) (N := 31) hx hb hts inlX8 hown hK hs (22) (by omega) (md22 hM2) rfl 0 (by decide) (hts _ w_fl_RX8_7) rfl dX8_isTrue_49 ?_
        refine lv_iload_n hx hb dX8_isTrue_52 rfl (lv_at hl 4 rfl) ?_
        refine r_ialdN (t := j) hx hb hK hs (23) (by omega) (md23 hM2) (rfl) (by omega) (by omega) dX8_isTrue_53 ?_
        refine r_topi (y := nI (sSort ss (j))) rfl ?_
        refine lv_iconst (v := 1) hx hb dX8_isTrue_54 (by decide) ?_
        refine lv_icmp_le (tgt := 67) hx hb dX8_isTrue_55 (by decide) (fun c55 => absurd c55 (c28)) (fun _ => ?_)
        refine lv_aload_n hx hb dX8_isTrue_58 rfl (lv_at hl 1 rfl) ?_
        refine r_get (ci := 8) (v := .ref (ad 25)) (C := RX8) (T := TX8) (N := 31) hx hb hts inlX8 hown hK hs (22) (by omega) (md22 hM2) rfl 2 (by decide) (hts _ w_fl_RX8_16) rfl dX8_isTrue_59 ?_
        refine lv_iload_n hx hb dX8_isTrue_62 rfl (lv_at hl 4 rfl) ?_
        refine r_ialdN (t := j) hx hb hK hs (25) (by omega) (md25 hM2) (rfl) (by omega) (by omega) dX8_isTrue_63 ?_
        refine r_topi (y := nI (sR ss (j))) rfl ?_
        refine lv_goto (tgt := 68) hx hb dX8_isTrue_64 (by decide) ?_
        refine r_zaldN (t := sR ss (j)) hx hb hK hs (47) (by omega) (md47 hM2) (rfl) (by omega) (by omega) dX8_isTrue_68 ?_
        refine r_topi (y := b2i (tvT ss y (sR ss j) (sR ss j))) (htv (sR ss j) (by omega) (by omega)) ?_
        refine lv_istore (lv' := [(5, .int (b2i (tvT ss y (sR ss j) (sR ss j)))), (4, .int (b2i (tvT ss y (sL ss j) (sL ss j)))), (0, .ref (ad 22)), (1, .int (nI k)), (2, .int (y)), (3, .int (nI j))]) hx hb dX8_isTrue_69 hl (by decide) rfl (fun ls hl => ?_)
        refine lv_aload_n hx hb dX8_isTrue_71 rfl (lv_at hl 2 rfl) ?_
        refine r_get (ci := 8) (v := .ref (ad 23)) (C := RX8) (T := TX8) (N := 31) hx hb hts inlX8 hown hK hs (22) (by omega) (md22 hM2) rfl 0 (by decide) (hts _ w_fl_RX8_7) rfl dX8_isTrue_72 ?_
        refine lv_iload_n hx hb dX8_isTrue_75 rfl (lv_at hl 5 rfl) ?_
        refine r_ialdN (t := j) hx hb hK hs (23) (by omega) (md23 hM2) (rfl) (by omega) (by omega) dX8_isTrue_76 ?_
        refine r_topi (y := nI (sSort ss (j))) rfl ?_
        by_cases k77_0 : nI (sSort ss (j)) = 0
        · skip
          exact absurd (sq hok (v := 0) k77_0) (by omega)
        by_cases k77_1 : nI (sSort ss (j)) = 1
        · skip
          exact absurd (sq hok (v := 1) k77_1) (by omega)
        by_cases k77_2 : nI (sSort ss (j)) = 2
        · skip
          refine lv_tableIn (off := 69) (tgt := 146) hx hb dX8_isTrue_77 (by rw [k77_2]; decide) (by rw [k77_2]; decide) (by rw [k77_2]; decide) (by decide) ?_
          have hso : sSort ss j = 2 := sq hok (v := 2) k77_2
          refine lv_aload_n hx hb dX8_isTrue_146 rfl (lv_at hl 2 rfl) ?_
          refine r_get (ci := 8) (v := .ref (ad 47)) (C := RX8) (T := TX8) (N := 31) hx hb hts inlX8 hown hK hs (22) (by omega) (md22 hM2) rfl 30 (by decide) (hts _ w_fl_RX8_85) rfl dX8_isTrue_147 ?_
          refine lv_iload_n hx hb dX8_isTrue_150 rfl (lv_at hl 5 rfl) ?_
          refine lv_iload hx hb dX8_isTrue_151 (lv_at hl 1 rfl) ?_
          refine lv_if_eq (tgt := 165) hx hb dX8_isTrue_153 (by decide) (fun c153 => ?_) (fun c153 => ?_)
          · skip
            refine lv_iconst (v := 0) hx hb dX8_isTrue_165 (by decide) ?_
            refine r_zastN (t := j) hx hb hK hs (47) (by omega) (md47 hM2) (rfl) (by omega) (by omega) dX8_isTrue_166 (fun H locs en_19 hen_19 hs => ?_)
            obtain ⟨c_21, ec_21⟩ : ∃ z, z = cU c2 47 (j) (0) := ⟨_, rfl⟩
            have hM_20 : MdW G n ad en_19 ss ns c_21 us ov dp cl := md_ar (f := upd (c2 47) (j) (0)) hM2 47 (by decide) (by decide) (by rw [hen_19, show vp_nar .boolean 0 = 0 from rfl]; rfl) ec_21
            have fr_22 : ∀ k, k < 22 → en_19 k = en k := fun k hk => Eq.trans (by rw [hen_19]; exact va_up_ne _ _ (by omega)) (fr2 k hk)
            refine lv_goto (tgt := 215) hx hb dX8_isTrue_167 (by decide) ?_
            refine lv_iinc (v := nI (j + 1)) (lv' := [(3, .int (nI (j + 1))), (5, .int (b2i (tvT ss y (sR ss j) (sR ss j)))), (4, .int (b2i (tvT ss y (sL ss j) (sL ss j)))), (0, .ref (ad 22)), (1, .int (nI k)), (2, .int (y))]) hx hb dX8_isTrue_215 hl (k := 5) rfl (nI_add j 1) (by decide) rfl (fun ls hl => ?_)
            refine lv_goto (tgt := 12) hx hb dX8_isTrue_218 (by decide) ?_
            exact ih12 (j + 1) (c_21) (en_19) _ _ _ (by omega) (by rw [ec_21]; exact cu_step (v := fun i => b2i (tvT ss y i i)) htv (by rw [tv_E y hok ⟨hj.1, by omega⟩, if_neg (by omega), if_pos hso, show tvT ss y (sL ss j) (sL ss j) = false from b2i_0 c153]; rfl)) (hM_20) (fr_22) (by omega) hs (lv_sub hl [3, 4, 5, 0] rfl)
          · skip
            refine lv_iload hx hb dX8_isTrue_156 (lv_at hl 0 rfl) ?_
            refine lv_if_eq (tgt := 165) hx hb dX8_isTrue_158 (by decide) (fun c158 => ?_) (fun c158 => ?_)
            · skip
              refine lv_iconst (v := 0) hx hb dX8_isTrue_165 (by decide) ?_
              refine r_zastN (t := j) hx hb hK hs (47) (by omega) (md47 hM2) (rfl) (by omega) (by omega) dX8_isTrue_166 (fun H locs en_24 hen_24 hs => ?_)
              obtain ⟨c_26, ec_26⟩ : ∃ z, z = cU c2 47 (j) (0) := ⟨_, rfl⟩
              have hM_25 : MdW G n ad en_24 ss ns c_26 us ov dp cl := md_ar (f := upd (c2 47) (j) (0)) hM2 47 (by decide) (by decide) (by rw [hen_24, show vp_nar .boolean 0 = 0 from rfl]; rfl) ec_26
              have fr_27 : ∀ k, k < 22 → en_24 k = en k := fun k hk => Eq.trans (by rw [hen_24]; exact va_up_ne _ _ (by omega)) (fr2 k hk)
              refine lv_goto (tgt := 215) hx hb dX8_isTrue_167 (by decide) ?_
              refine lv_iinc (v := nI (j + 1)) (lv' := [(3, .int (nI (j + 1))), (5, .int (b2i (tvT ss y (sR ss j) (sR ss j)))), (4, .int (b2i (tvT ss y (sL ss j) (sL ss j)))), (0, .ref (ad 22)), (1, .int (nI k)), (2, .int (y))]) hx hb dX8_isTrue_215 hl (k := 5) rfl (nI_add j 1) (by decide) rfl (fun ls hl => ?_)
              refine lv_goto (tgt := 12) hx hb dX8_isTrue_218 (by decide) ?_
              exact ih12 (j + 1) (c_26) (en_24) _ _ _ (by omega) (by rw [ec_26]; exact cu_step (v := fun i => b2i (tvT ss y i i)) htv (by rw [tv_E y hok ⟨hj.1, by omega⟩, if_neg (by omega), if_pos hso, show tvT ss y (sL ss j) (sL ss j) = true from b2i_1 c153, show tvT ss y (sR ss j) (sR ss j) = false from b2i_0 c158]; rfl)) (hM_25) (fr_27) (by omega) hs (lv_sub hl [3, 4, 5, 0] rfl)
            · skip
              refine lv_iconst (v := 1) hx hb dX8_isTrue_161 (by decide) ?_
              refine lv_goto (tgt := 166) hx hb dX8_isTrue_162 (by decide) ?_
              refine r_zastN (t := j) hx hb hK hs (47) (by omega) (md47 hM2) (rfl) (by omega) (by omega) dX8_isTrue_166 (fun H locs en_29 hen_29 hs => ?_)
              obtain ⟨c_31, ec_31⟩ : ∃ z, z = cU c2 47 (j) (1) := ⟨_, rfl⟩
              have hM_30 : MdW G n ad en_29 ss ns c_31 us ov dp cl := md_ar (f := upd (c2 47) (j) (1)) hM2 47 (by decide) (by decide) (by rw [hen_29, show vp_nar .boolean 1 = 1 from rfl]; rfl) ec_31
              have fr_32 : ∀ k, k < 22 → en_29 k = en k := fun k hk => Eq.trans (by rw [hen_29]; exact va_up_ne _ _ (by omega)) (fr2 k hk)
              refine lv_goto (tgt := 215) hx hb dX8_isTrue_167 (by decide) ?_
              refine lv_iinc (v := nI (j + 1)) (lv' := [(3, .int (nI (j + 1))), (5, .int (b2i (tvT ss y (sR ss j) (sR ss j)))), (4, .int (b2i (tvT ss y (sL ss j) (sL ss j)))), (0, .ref (ad 22)), (1, .int (nI k)), (2, .int (y))]) hx hb dX8_isTrue_215 hl (k := 5) rfl (nI_add j 1) (by decide) rfl (fun ls hl => ?_)
              refine lv_goto (tgt := 12) hx hb dX8_isTrue_218 (by decide) ?_
              exact ih12 (j + 1) (c_31) (en_29) _ _ _ (by omega) (by rw [ec_31]; exact cu_step (v := fun i => b2i (tvT ss y i i)) htv (by rw [tv_E y hok ⟨hj.1, by omega⟩, if_neg (by omega), if_pos hso, show tvT ss y (sL ss j) (sL ss j) = true from b2i_1 c153, show tvT ss y (sR ss j) (sR ss j) = true from b2i_1 c158]; rfl)) (hM_30) (fr_32) (by omega) hs (lv_sub hl [3, 4, 5, 0] rfl)
        by_cases k77_3 : nI (sSort ss (j)) = 3
        · skip
          refine lv_tableIn (off := 93) (tgt := 170) hx hb dX8_isTrue_77 (by rw [k77_3]; decide) (by rw [k77_3]; decide) (by rw [k77_3]; decide) (by decide) ?_
          have hso : sSort ss j = 3 := sq hok (v := 3) k77_3
          refine lv_aload_n hx hb dX8_isTrue_170 rfl (lv_at hl 2 rfl) ?_
          refine r_get (ci := 8) (v := .ref (ad 47)) (C := RX8) (T := TX8) (N := 31) hx hb hts inlX8 hown hK hs (22) (by omega) (md22 hM2) rfl 30 (by decide) (hts _ w_fl_RX8_85) rfl dX8_isTrue_171 ?_
          refine lv_iload_n hx hb dX8_isTrue_174 rfl (lv_at hl 5 rfl) ?_
          refine lv_iload hx hb dX8_isTrue_175 (lv_at hl 1 rfl) ?_
          refine lv_if_ne (tgt := 185) hx hb dX8_isTrue_177 (by decide) (fun c177 => ?_) (fun c177 => ?_)
          · skip
            refine lv_iconst (v := 1) hx hb dX8_isTrue_185 (by decide) ?_
            refine lv_goto (tgt := 190) hx hb dX8_isTrue_186 (by decide) ?_
            refine r_zastN (t := j) hx hb hK hs (47) (by omega) (md47 hM2) (rfl) (by omega) (by omega) dX8_isTrue_190 (fun H locs en_34 hen_34 hs => ?_)
            obtain ⟨c_36, ec_36⟩ : ∃ z, z = cU c2 47 (j) (1) := ⟨_, rfl⟩
            have hM_35 : MdW G n ad en_34 ss ns c_36 us ov dp cl := md_ar (f := upd (c2 47) (j) (1)) hM2 47 (by decide) (by decide) (by rw [hen_34, show vp_nar .boolean 1 = 1 from rfl]; rfl) ec_36
            have fr_37 : ∀ k, k < 22 → en_34 k = en k := fun k hk => Eq.trans (by rw [hen_34]; exact va_up_ne _ _ (by omega)) (fr2 k hk)
            refine lv_goto (tgt := 215) hx hb dX8_isTrue_191 (by decide) ?_
            refine lv_iinc (v := nI (j + 1)) (lv' := [(3, .int (nI (j + 1))), (5, .int (b2i (tvT ss y (sR ss j) (sR ss j)))), (4, .int (b2i (tvT ss y (sL ss j) (sL ss j)))), (0, .ref (ad 22)), (1, .int (nI k)), (2, .int (y))]) hx hb dX8_isTrue_215 hl (k := 5) rfl (nI_add j 1) (by decide) rfl (fun ls hl => ?_)
            refine lv_goto (tgt := 12) hx hb dX8_isTrue_218 (by decide) ?_
            exact ih12 (j + 1) (c_36) (en_34) _ _ _ (by omega) (by rw [ec_36]; exact cu_step (v := fun i => b2i (tvT ss y i i)) htv (by rw [tv_E y hok ⟨hj.1, by omega⟩, if_neg (by omega), if_neg (by omega), if_pos hso, show tvT ss y (sL ss j) (sL ss j) = true from b2i_1 c177]; rfl)) (hM_35) (fr_37) (by omega) hs (lv_sub hl [3, 4, 5, 0] rfl)
          · skip
            refine lv_iload hx hb dX8_isTrue_180 (lv_at hl 0 rfl) ?_
            refine lv_if_eq (tgt := 189) hx hb dX8_isTrue_182 (by decide) (fun c182 => ?_) (fun c182 => ?_)
            · skip
              refine lv_iconst (v := 0) hx hb dX8_isTrue_189 (by decide) ?_
              refine r_zastN (t := j) hx hb hK hs (47) (by omega) (md47 hM2) (rfl) (by omega) (by omega) dX8_isTrue_190 (fun H locs en_39 hen_39 hs => ?_)
              obtain ⟨c_41, ec_41⟩ : ∃ z, z = cU c2 47 (j) (0) := ⟨_, rfl⟩
              have hM_40 : MdW G n ad en_39 ss ns c_41 us ov dp cl := md_ar (f := upd (c2 47) (j) (0)) hM2 47 (by decide) (by decide) (by rw [hen_39, show vp_nar .boolean 0 = 0 from rfl]; rfl) ec_41
              have fr_42 : ∀ k, k < 22 → en_39 k = en k := fun k hk => Eq.trans (by rw [hen_39]; exact va_up_ne _ _ (by omega)) (fr2 k hk)
              refine lv_goto (tgt := 215) hx hb dX8_isTrue_191 (by decide) ?_
              refine lv_iinc (v := nI (j + 1)) (lv' := [(3, .int (nI (j + 1))), (5, .int (b2i (tvT ss y (sR ss j) (sR ss j)))), (4, .int (b2i (tvT ss y (sL ss j) (sL ss j)))), (0, .ref (ad 22)), (1, .int (nI k)), (2, .int (y))]) hx hb dX8_isTrue_215 hl (k := 5) rfl (nI_add j 1) (by decide) rfl (fun ls hl => ?_)
              refine lv_goto (tgt := 12) hx hb dX8_isTrue_218 (by decide) ?_
              exact ih12 (j + 1) (c_41) (en_39) _ _ _ (by omega) (by rw [ec_41]; exact cu_step (v := fun i => b2i (tvT ss y i i)) htv (by rw [tv_E y hok ⟨hj.1, by omega⟩, if_neg (by omega), if_neg (by omega), if_pos hso, show tvT ss y (sL ss j) (sL ss j) = false from b2i_0 c177, show tvT ss y (sR ss j) (sR ss j) = false from b2i_0 c182]; rfl)) (hM_40) (fr_42) (by omega) hs (lv_sub hl [3, 4, 5, 0] rfl)
            · skip
              refine lv_iconst (v := 1) hx hb dX8_isTrue_185 (by decide) ?_
              refine lv_goto (tgt := 190) hx hb dX8_isTrue_186 (by decide) ?_
              refine r_zastN (t := j) hx hb hK hs (47) (by omega) (md47 hM2) (rfl) (by omega) (by omega) dX8_isTrue_190 (fun H locs en_44 hen_44 hs => ?_)
              obtain ⟨c_46, ec_46⟩ : ∃ z, z = cU c2 47 (j) (1) := ⟨_, rfl⟩
              have hM_45 : MdW G n ad en_44 ss ns c_46 us ov dp cl := md_ar (f := upd (c2 47) (j) (1)) hM2 47 (by decide) (by decide) (by rw [hen_44, show vp_nar .boolean 1 = 1 from rfl]; rfl) ec_46
              have fr_47 : ∀ k, k < 22 → en_44 k = en k := fun k hk => Eq.trans (by rw [hen_44]; exact va_up_ne _ _ (by omega)) (fr2 k hk)
              refine lv_goto (tgt := 215) hx hb dX8_isTrue_191 (by decide) ?_
              refine lv_iinc (v := nI (j + 1)) (lv' := [(3, .int (nI (j + 1))), (5, .int (b2i (tvT ss y (sR ss j) (sR ss j)))), (4, .int (b2i (tvT ss y (sL ss j) (sL ss j)))), (0, .ref (ad 22)), (1, .int (nI k)), (2, .int (y))]) hx hb dX8_isTrue_215 hl (k := 5) rfl (nI_add j 1) (by decide) rfl (fun ls hl => ?_)
              refine lv_goto (tgt := 12) hx hb dX8_isTrue_218 (by decide) ?_
              exact ih12 (j + 1) (c_46) (en_44) _ _ _ (by omega) (by rw [ec_46]; exact cu_step (v := fun i => b2i (tvT ss y i i)) htv (by rw [tv_E y hok ⟨hj.1, by omega⟩, if_neg (by omega), if_neg (by omega), if_pos hso, show tvT ss y (sL ss j) (sL ss j) = false from b2i_0 c177, show tvT ss y (sR ss j) (sR ss j) = true from b2i_1 c182]; rfl)) (hM_45) (fr_47) (by omega) hs (lv_sub hl [3, 4, 5, 0] rfl)
        refine lv_tableOut (tgt := 194) hx hb dX8_isTrue_77 (by have q0 : (nI (sSort ss (j)) : Int32).toInt ≠ 0 := sw_ne k77_0; have q1 : (nI (sSort ss (j)) : Int32).toInt ≠ 1 := sw_ne k77_1; have q2 : (nI (sSort ss (j)) : Int32).toInt ≠ 2 := sw_ne k77_2; have q3 : (nI (sSort ss (j)) : Int32).toInt ≠ 3 := sw_ne k77_3; omega) (by decide) ?_
        have hso : sSort ss j = 4 := by
          have q2 : ¬ sSort ss j = 2 := fun q => k77_2 (by rw [q]; rfl)
          have q3 : ¬ sSort ss j = 3 := fun q => k77_3 (by rw [q]; rfl)
          have := sort_le hok (k := j)
          omega
        refine lv_aload_n hx hb dX8_isTrue_194 rfl (lv_at hl 2 rfl) ?_
        refine r_get (ci := 8) (v := .ref (ad 47)) (C := RX8) (T := TX8) (N := 31) hx hb hts inlX8 hown hK hs (22) (by omega) (md22 hM2) rfl 30 (by decide) (hts _ w_fl_RX8_85) rfl dX8_isTrue_195 ?_
        refine lv_iload_n hx hb dX8_isTrue_198 rfl (lv_at hl 5 rfl) ?_
        refine lv_iload hx hb dX8_isTrue_199 (lv_at hl 1 rfl) ?_
        refine lv_if_eq (tgt := 209) hx hb dX8_isTrue_201 (by decide) (fun c201 => ?_) (fun c201 => ?_)
        · skip
          refine lv_iconst (v := 1) hx hb dX8_isTrue_209 (by decide) ?_
          refine lv_goto (tgt := 214) hx hb dX8_isTrue_210 (by decide) ?_
          refine r_zastN (t := j) hx hb hK hs (47) (by omega) (md47 hM2) (rfl) (by omega) (by omega) dX8_isTrue_214 (fun H locs en_49 hen_49 hs => ?_)
          obtain ⟨c_51, ec_51⟩ : ∃ z, z = cU c2 47 (j) (1) := ⟨_, rfl⟩
          have hM_50 : MdW G n ad en_49 ss ns c_51 us ov dp cl := md_ar (f := upd (c2 47) (j) (1)) hM2 47 (by decide) (by decide) (by rw [hen_49, show vp_nar .boolean 1 = 1 from rfl]; rfl) ec_51
          have fr_52 : ∀ k, k < 22 → en_49 k = en k := fun k hk => Eq.trans (by rw [hen_49]; exact va_up_ne _ _ (by omega)) (fr2 k hk)
          refine lv_iinc (v := nI (j + 1)) (lv' := [(3, .int (nI (j + 1))), (5, .int (b2i (tvT ss y (sR ss j) (sR ss j)))), (4, .int (b2i (tvT ss y (sL ss j) (sL ss j)))), (0, .ref (ad 22)), (1, .int (nI k)), (2, .int (y))]) hx hb dX8_isTrue_215 hl (k := 5) rfl (nI_add j 1) (by decide) rfl (fun ls hl => ?_)
          refine lv_goto (tgt := 12) hx hb dX8_isTrue_218 (by decide) ?_
          exact ih12 (j + 1) (c_51) (en_49) _ _ _ (by omega) (by rw [ec_51]; exact cu_step (v := fun i => b2i (tvT ss y i i)) htv (by rw [tv_E y hok ⟨hj.1, by omega⟩, if_neg (by omega), if_neg (by omega), if_neg (by omega), if_pos hso, show tvT ss y (sL ss j) (sL ss j) = false from b2i_0 c201]; rfl)) (hM_50) (fr_52) (by omega) hs (lv_sub hl [3, 4, 5, 0] rfl)
        · skip
          refine lv_iload hx hb dX8_isTrue_204 (lv_at hl 0 rfl) ?_
          refine lv_if_eq (tgt := 213) hx hb dX8_isTrue_206 (by decide) (fun c206 => ?_) (fun c206 => ?_)
          · skip
            refine lv_iconst (v := 0) hx hb dX8_isTrue_213 (by decide) ?_
            refine r_zastN (t := j) hx hb hK hs (47) (by omega) (md47 hM2) (rfl) (by omega) (by omega) dX8_isTrue_214 (fun H locs en_54 hen_54 hs => ?_)
            obtain ⟨c_56, ec_56⟩ : ∃ z, z = cU c2 47 (j) (0) := ⟨_, rfl⟩
            have hM_55 : MdW G n ad en_54 ss ns c_56 us ov dp cl := md_ar (f := upd (c2 47) (j) (0)) hM2 47 (by decide) (by decide) (by rw [hen_54, show vp_nar .boolean 0 = 0 from rfl]; rfl) ec_56
            have fr_57 : ∀ k, k < 22 → en_54 k = en k := fun k hk => Eq.trans (by rw [hen_54]; exact va_up_ne _ _ (by omega)) (fr2 k hk)
            refine lv_iinc (v := nI (j + 1)) (lv' := [(3, .int (nI (j + 1))), (5, .int (b2i (tvT ss y (sR ss j) (sR ss j)))), (4, .int (b2i (tvT ss y (sL ss j) (sL ss j)))), (0, .ref (ad 22)), (1, .int (nI k)), (2, .int (y))]) hx hb dX8_isTrue_215 hl (k := 5) rfl (nI_add j 1) (by decide) rfl (fun ls hl => ?_)
            refine lv_goto (tgt := 12) hx hb dX8_isTrue_218 (by decide) ?_
            exact ih12 (j + 1) (c_56) (en_54) _ _ _ (by omega) (by rw [ec_56]; exact cu_step (v := fun i => b2i (tvT ss y i i)) htv (by rw [tv_E y hok ⟨hj.1, by omega⟩, if_neg (by omega), if_neg (by omega), if_neg (by omega), if_pos hso, show tvT ss y (sL ss j) (sL ss j) = true from b2i_1 c201, show tvT ss y (sR ss j) (sR ss j) = false from b2i_0 c206]; rfl)) (hM_55) (fr_57) (by omega) hs (lv_sub hl [3, 4, 5, 0] rfl)
          · skip
            refine lv_iconst (v := 1) hx hb dX8_isTrue_209 (by decide) ?_
            refine lv_goto (tgt := 214) hx hb dX8_isTrue_210 (by decide) ?_
            refine r_zastN (t := j) hx hb hK hs (47) (by omega) (md47 hM2) (rfl) (by omega) (by omega) dX8_isTrue_214 (fun H locs en_59 hen_59 hs => ?_)
            obtain ⟨c_61, ec_61⟩ : ∃ z, z = cU c2 47 (j) (1) := ⟨_, rfl⟩
            have hM_60 : MdW G n ad en_59 ss ns c_61 us ov dp cl := md_ar (f := upd (c2 47) (j) (1)) hM2 47 (by decide) (by decide) (by rw [hen_59, show vp_nar .boolean 1 = 1 from rfl]; rfl) ec_61
            have fr_62 : ∀ k, k < 22 → en_59 k = en k := fun k hk => Eq.trans (by rw [hen_59]; exact va_up_ne _ _ (by omega)) (fr2 k hk)
            refine lv_iinc (v := nI (j + 1)) (lv' := [(3, .int (nI (j + 1))), (5, .int (b2i (tvT ss y (sR ss j) (sR ss j)))), (4, .int (b2i (tvT ss y (sL ss j) (sL ss j)))), (0, .ref (ad 22)), (1, .int (nI k)), (2, .int (y))]) hx hb dX8_isTrue_215 hl (k := 5) rfl (nI_add j 1) (by decide) rfl (fun ls hl => ?_)
            refine lv_goto (tgt := 12) hx hb dX8_isTrue_218 (by decide) ?_
            exact ih12 (j + 1) (c_61) (en_59) _ _ _ (by omega) (by rw [ec_61]; exact cu_step (v := fun i => b2i (tvT ss y i i)) htv (by rw [tv_E y hok ⟨hj.1, by omega⟩, if_neg (by omega), if_neg (by omega), if_neg (by omega), if_pos hso, show tvT ss y (sL ss j) (sL ss j) = true from b2i_1 c201, show tvT ss y (sR ss j) (sR ss j) = true from b2i_1 c206]; rfl)) (hM_60) (fr_62) (by omega) hs (lv_sub hl [3, 4, 5, 0] rfl)
  · skip
    refine lv_iconst (v := (-1)) hx hb dX8_isTrue_8 (by decide) ?_
    refine r_iret (v := (-1)) (mc := 0) (ms := 0) hx hb hr hlk hs (Nat.le_refl _) (Nat.le_refl _) dX8_isTrue_9 hQ ?_
    exact ⟨⟨rfl, fun _ _ => rfl⟩, by rw [fTrue, if_neg (by rw [b2i_0 c5]; decide)], _, hM⟩

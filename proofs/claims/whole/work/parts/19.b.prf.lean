set_option maxHeartbeats 600000 in
set_option maxRecDepth 100000 in
theorem c_X8_node (l : Launch) (G : rG) {n : Nat} {ad : Nat → Nat} {en : Nat → va_E} {s0 : NSt} {c : Nat → Nat → Int32} {us : Int32} {ov : Int32} {dp : Int32} {cl : Int32}  (hM : MdW G n ad en s0.1 s0.2 c us ov dp cl) (t x a b cv : Int32) : CI l G yX8_node uX8_node (1) (26) (0) (0) [.ref (ad 22), .int (t), .int (x), .int (a), .int (b), .int (cv)] (n) (n) ad en (mPost G n ad en (fNode s0 t x a b cv).1 s0.1 (fNode s0 t x a b cv).2 c us ov dp cl) := by
  intro sz
  refine rMet (Qc := qI G (n) (mPost G n ad en (fNode s0 t x a b cv).1 s0.1 (fNode s0 t x a b cv).2 c us ov dp cl)) (cc := cX8_node) (maxL := 7) (ret := (some .int)) (by decide) rfl (Nat.le_of_ble_eq_true rfl) ?_
  intro pP eE sS mM aA bB tT cC ls A Q hc hK hsz hA hs hl hQ
  obtain ⟨hx, hb, hr, hts, hown, hlk, hnm, hml⟩ := hc
  have hl : lv_has ls 7 [(0, .ref (ad 22)), (1, .int (t)), (2, .int (x)), (3, .int (a)), (4, .int (b)), (5, .int (cv))] := hl
  have fr0 : ∀ k, k < 22 → en k = en k := fun _ _ => rfl
  obtain ⟨hn48, -, -, -, hok, hnk⟩ := id hM
  have h6 := hok.1
  have h8 := hnk.1
  
  refine lv_iload_n hx hb dX8_node_0 rfl (lv_at hl 1 rfl) ?_
  refine lv_if_lt (tgt := 18) hx hb dX8_node_1 (by decide) (fun c1 => ?_) (fun c1 => ?_)
  · skip
    refine lv_iconst (v := (-1)) hx hb dX8_node_18 (by decide) ?_
    refine r_iret (v := (-1)) (mc := 0) (ms := 0) hx hb hr hlk hs (Nat.le_refl _) (Nat.le_refl _) dX8_node_19 hQ ?_
    have hV : fNode s0 t x a b cv = (-1, s0.2) := by rw [fNode, if_neg (by rw [fNdOK, decide_eq_true_eq]; exact fun q => absurd q.1.1 (Int32.not_le.mpr c1))]
    rw [hV]
    exact ⟨⟨rfl, fun _ _ => rfl⟩, rfl, hM⟩
  · skip
    refine lv_iload_n hx hb dX8_node_4 rfl (lv_at hl 1 rfl) ?_
    refine lv_bipush (v := 9) hx hb dX8_node_5 (by decide) ?_
    refine lv_icmp_gt (tgt := 18) hx hb dX8_node_7 (by decide) (fun c7 => ?_) (fun c7 => ?_)
    · skip
      refine lv_iconst (v := (-1)) hx hb dX8_node_18 (by decide) ?_
      refine r_iret (v := (-1)) (mc := 0) (ms := 0) hx hb hr hlk hs (Nat.le_refl _) (Nat.le_refl _) dX8_node_19 hQ ?_
      have hV : fNode s0 t x a b cv = (-1, s0.2) := by rw [fNode, if_neg (by rw [fNdOK, decide_eq_true_eq]; exact fun q => absurd q.1.2 (Int32.not_le.mpr c7))]
      rw [hV]
      exact ⟨⟨rfl, fun _ _ => rfl⟩, rfl, hM⟩
    · skip
      refine lv_aload_n hx hb dX8_node_10 rfl (lv_at hl 0 rfl) ?_
      refine lv_iload_n hx hb dX8_node_11 rfl (lv_at hl 2 rfl) ?_
      refine r_callViR (ci := 8) (As := [.int (x)]) hx hb hml hown hts hK hA hs (22) (by omega) (md22 hM) rfl rfl (c_X8_isStatement l G hM (x)) (cwV 1 hts (tbV w_ml_RX8_99 w_im_yX8_isStatement w_se_yX8_isStatement w_ini_RX8 w_cd_yX8_isStatement) rfl rfl rfl (by decide +kernel) ⟨Nat.le_of_ble_eq_true rfl, Nat.le_of_ble_eq_true rfl⟩) rfl hl.1 rfl (Nat.le_of_ble_eq_true rfl) dX8_node_12 ⟨Nat.zero_le _, Nat.zero_le _⟩ (fun H locs hs => ?_)
      refine lv_if_ne (tgt := 20) hx hb dX8_node_15 (by decide) (fun c15 => ?_) (fun c15 => ?_)
      · skip
        obtain ⟨tg, htg0, htg1⟩ := pos_ex c1
        subst htg0
        have htg9 : tg ≤ 9 := Nat.le_of_not_lt (fun q => c7 ((nI_ltI (a := 9) (by decide) htg1).mpr q))
        obtain ⟨gl, hgl0, hgl1, hgl2⟩ := holds_ex (b2i_1 c15)
        have hHg := b2i_1 c15
        subst hgl0
        refine lv_iload_n hx hb dX8_node_20 rfl (lv_at hl 1 rfl) ?_
        refine r_callSiR (As := [.int (nI tg)]) hx hb hml hown hts hK hA hs (c_X8_width l G (k := tg) (by omega)) (va_cwS 1 hts (tbS w_ml_RX8_196 w_sta_yX8_width w_ini_RX8 w_cd_yX8_width) rfl rfl rfl (by decide +kernel) ⟨Nat.le_of_ble_eq_true rfl, Nat.le_of_ble_eq_true rfl⟩) rfl hl.1 rfl (Nat.le_of_ble_eq_true rfl) dX8_node_21 ⟨Nat.zero_le _, Nat.zero_le _⟩ (fun H locs hs => ?_)
        refine lv_istore (lv' := [(6, .int (nI (rPartL.getD (tg) 0))), (0, .ref (ad 22)), (1, .int (nI tg)), (2, .int (nI gl)), (3, .int (a)), (4, .int (b)), (5, .int (cv))]) hx hb dX8_node_24 hl (by decide) rfl (fun ls hl => ?_)
        have hP4 : rPartL.getD (tg) 0 = 0 ∨ rPartL.getD (tg) 0 = 1 ∨ rPartL.getD (tg) 0 = 2 ∨ rPartL.getD (tg) 0 = 3 := by
          have : ∀ t, t < 10 → rPartL.getD t 0 = 0 ∨ rPartL.getD t 0 = 1 ∨ rPartL.getD t 0 = 2 ∨ rPartL.getD t 0 = 3 := by decide
          exact this tg (by omega)
        rcases hP4 with hP | hP | hP | hP
        · rw [hP] at hl
          refine lv_iload hx hb dX8_node_26 (lv_at hl 0 rfl) ?_
          refine lv_if_le (tgt := 39) hx hb dX8_node_28 (by decide) (fun _ => ?_) (fun c28 => absurd (by decide) c28)
          refine lv_iload hx hb dX8_node_39 (lv_at hl 0 rfl) ?_
          refine lv_iconst (v := 1) hx hb dX8_node_41 (by decide) ?_
          refine lv_icmp_le (tgt := 54) hx hb dX8_node_42 (by decide) (fun _ => ?_) (fun c42 => absurd (by decide) c42)
          refine lv_iload hx hb dX8_node_54 (lv_at hl 0 rfl) ?_
          refine lv_iconst (v := 2) hx hb dX8_node_56 (by decide) ?_
          refine lv_icmp_le (tgt := 71) hx hb dX8_node_57 (by decide) (fun _ => ?_) (fun c57 => absurd (by decide) c57)
          have hV : fNode s0 (nI tg) (nI gl) a b cv = (nMakeR s0.2 (tg, gl, 0, 0, 0), nMake s0.2 (tg, gl, 0, 0, 0)) := by
            have hr : fRow (nI tg) (nI gl) a b cv = (tg, gl, 0, 0, 0) := by rw [fRow, tN_nI (by omega), tN_nI (by omega), hP, if_neg (by decide), if_neg (by decide), if_neg (by decide)]
            rw [fNode, if_pos (by rw [fNdOK, decide_eq_true_eq]; exact ⟨⟨nI_pos' (by omega), nI_le (by omega) (by decide)⟩, hHg, fun q => by rw [tN_nI (by omega), hP] at q; omega, fun q => by rw [tN_nI (by omega), hP] at q; omega, fun q => by rw [tN_nI (by omega), hP] at q; omega⟩), hr]
          refine lv_aload_n hx hb dX8_node_71 rfl (lv_at hl 1 rfl) ?_
          refine lv_iload_n hx hb dX8_node_72 rfl (lv_at hl 2 rfl) ?_
          refine lv_iload_n hx hb dX8_node_73 rfl (lv_at hl 3 rfl) ?_
          refine lv_iload hx hb dX8_node_74 (lv_at hl 0 rfl) ?_
          refine lv_if_le (tgt := 83) hx hb dX8_node_76 (by decide) (fun _ => ?_) (fun c76 => absurd (by decide) c76)
          refine lv_iconst (v := 0) hx hb dX8_node_83 (by decide) ?_
          refine lv_iload hx hb dX8_node_84 (lv_at hl 0 rfl) ?_
          refine lv_iconst (v := 1) hx hb dX8_node_86 (by decide) ?_
          refine lv_icmp_le (tgt := 95) hx hb dX8_node_87 (by decide) (fun _ => ?_) (fun c87 => absurd (by decide) c87)
          refine lv_iconst (v := 0) hx hb dX8_node_95 (by decide) ?_
          refine lv_iload hx hb dX8_node_96 (lv_at hl 0 rfl) ?_
          refine lv_iconst (v := 2) hx hb dX8_node_98 (by decide) ?_
          refine lv_icmp_le (tgt := 107) hx hb dX8_node_99 (by decide) (fun _ => ?_) (fun c99 => absurd (by decide) c99)
          refine lv_iconst (v := 0) hx hb dX8_node_107 (by decide) ?_
          refine r_callVi (ci := 8) (As := [.int (nI tg), .int (nI gl), .int (0), .int (0), .int (0)]) hx hb hml hown hts hK hA hs (22) (by omega) (md22 hM) rfl rfl (c_X8_keep l G hM (tg := tg) (gl := gl) (a := 0) (b := 0) (c1 := 0) (by omega) ⟨by show tg ≤ 9; omega, hgl1, hgl2, by show (if 1 ≤ rPartL.getD tg 0 then _ else _); rw [hP, if_neg (by decide)], by show (if 2 ≤ rPartL.getD tg 0 then _ else _); rw [hP, if_neg (by decide)], by show (if 3 ≤ rPartL.getD tg 0 then _ else _); rw [hP, if_neg (by decide)]⟩) (cwV 5 hts (tbV w_ml_RX8_167 w_im_yX8_keep w_se_yX8_keep w_ini_RX8 w_cd_yX8_keep) rfl rfl rfl (by decide +kernel) ⟨Nat.le_of_ble_eq_true rfl, Nat.le_of_ble_eq_true rfl⟩) rfl hl.1 rfl (Nat.le_of_ble_eq_true rfl) dX8_node_108 ⟨Nat.le_refl _, Nat.le_refl _⟩ (fun r_4 ad_1 en_2 H locs hp_3 hs => ?_)
          obtain ⟨⟨hAm_5, hFm_5⟩, hrm_5, hMm_5⟩ := hp_3
          subst hAm_5
          rw [hrm_5]
          have fr_6 : ∀ k, k < 22 → en_2 k = en k := fun k hk => Eq.trans (hFm_5 k hk) (fr0 k hk)
          refine r_iret (v := nMakeR s0.2 (tg, gl, 0, 0, 0)) (mc := 0) (ms := 0) hx hb hr hlk hs (Nat.le_refl _) (Nat.le_refl _) dX8_node_111 hQ ?_
          rw [hV]
          exact ⟨⟨rfl, fr_6⟩, rfl, hMm_5⟩
        · rw [hP] at hl
          refine lv_iload hx hb dX8_node_26 (lv_at hl 0 rfl) ?_
          refine lv_if_le (tgt := 39) hx hb dX8_node_28 (by decide) (fun c28 => absurd c28 (by decide)) (fun _ => ?_)
          refine lv_aload_n hx hb dX8_node_31 rfl (lv_at hl 1 rfl) ?_
          refine lv_iload_n hx hb dX8_node_32 rfl (lv_at hl 4 rfl) ?_
          refine r_callViR (ci := 8) (As := [.int (a)]) hx hb hml hown hts hK hA hs (22) (by omega) (md22 hM) rfl rfl (c_X8_isNode l G hM (a)) (cwV 1 hts (tbV w_ml_RX8_199 w_im_yX8_isNode w_se_yX8_isNode w_ini_RX8 w_cd_yX8_isNode) rfl rfl rfl (by decide +kernel) ⟨Nat.le_of_ble_eq_true rfl, Nat.le_of_ble_eq_true rfl⟩) rfl hl.1 rfl (Nat.le_of_ble_eq_true rfl) dX8_node_33 ⟨Nat.zero_le _, Nat.zero_le _⟩ (fun H locs hs => ?_)
          refine lv_if_eq (tgt := 69) hx hb dX8_node_36 (by decide) (fun c36 => ?_) (fun c36 => ?_)
          · skip
            refine lv_iconst (v := (-1)) hx hb dX8_node_69 (by decide) ?_
            refine r_iret (v := (-1)) (mc := 0) (ms := 0) hx hb hr hlk hs (Nat.le_refl _) (Nat.le_refl _) dX8_node_70 hQ ?_
            have hV : fNode s0 (nI tg) (nI gl) a b cv = (-1, s0.2) := by rw [fNode, if_neg (by rw [fNdOK, decide_eq_true_eq]; exact fun q => absurd (q.2.2.1 (by rw [tN_nI (by omega), hP]; decide)) (by rw [b2i_0 c36]; decide))]
            rw [hV]
            exact ⟨⟨rfl, fun _ _ => rfl⟩, rfl, hM⟩
          · skip
            obtain ⟨ka, ha0, ha1, ha2⟩ := holds_ex (b2i_1 c36)
            have hHa := b2i_1 c36
            subst ha0
            refine lv_iload hx hb dX8_node_39 (lv_at hl 0 rfl) ?_
            refine lv_iconst (v := 1) hx hb dX8_node_41 (by decide) ?_
            refine lv_icmp_le (tgt := 54) hx hb dX8_node_42 (by decide) (fun _ => ?_) (fun c42 => absurd (by decide) c42)
            refine lv_iload hx hb dX8_node_54 (lv_at hl 0 rfl) ?_
            refine lv_iconst (v := 2) hx hb dX8_node_56 (by decide) ?_
            refine lv_icmp_le (tgt := 71) hx hb dX8_node_57 (by decide) (fun _ => ?_) (fun c57 => absurd (by decide) c57)
            have hV : fNode s0 (nI tg) (nI gl) (nI ka) b cv = (nMakeR s0.2 (tg, gl, ka, 0, 0), nMake s0.2 (tg, gl, ka, 0, 0)) := by
              have hr : fRow (nI tg) (nI gl) (nI ka) b cv = (tg, gl, ka, 0, 0) := by rw [fRow, tN_nI (by omega), tN_nI (by omega), hP, if_pos (by decide), tN_nI (by omega), if_neg (by decide), if_neg (by decide)]
              rw [fNode, if_pos (by rw [fNdOK, decide_eq_true_eq]; exact ⟨⟨nI_pos' (by omega), nI_le (by omega) (by decide)⟩, hHg, fun _ => hHa, fun q => by rw [tN_nI (by omega), hP] at q; omega, fun q => by rw [tN_nI (by omega), hP] at q; omega⟩), hr]
            refine lv_aload_n hx hb dX8_node_71 rfl (lv_at hl 1 rfl) ?_
            refine lv_iload_n hx hb dX8_node_72 rfl (lv_at hl 2 rfl) ?_
            refine lv_iload_n hx hb dX8_node_73 rfl (lv_at hl 3 rfl) ?_
            refine lv_iload hx hb dX8_node_74 (lv_at hl 0 rfl) ?_
            refine lv_if_le (tgt := 83) hx hb dX8_node_76 (by decide) (fun c76 => absurd c76 (by decide)) (fun _ => ?_)
            refine lv_iload_n hx hb dX8_node_79 rfl (lv_at hl 4 rfl) ?_
            refine lv_goto (tgt := 84) hx hb dX8_node_80 (by decide) ?_
            refine lv_iload hx hb dX8_node_84 (lv_at hl 0 rfl) ?_
            refine lv_iconst (v := 1) hx hb dX8_node_86 (by decide) ?_
            refine lv_icmp_le (tgt := 95) hx hb dX8_node_87 (by decide) (fun _ => ?_) (fun c87 => absurd (by decide) c87)
            refine lv_iconst (v := 0) hx hb dX8_node_95 (by decide) ?_
            refine lv_iload hx hb dX8_node_96 (lv_at hl 0 rfl) ?_
            refine lv_iconst (v := 2) hx hb dX8_node_98 (by decide) ?_
            refine lv_icmp_le (tgt := 107) hx hb dX8_node_99 (by decide) (fun _ => ?_) (fun c99 => absurd (by decide) c99)
            refine lv_iconst (v := 0) hx hb dX8_node_107 (by decide) ?_
            refine r_callVi (ci := 8) (As := [.int (nI tg), .int (nI gl), .int (nI ka), .int (0), .int (0)]) hx hb hml hown hts hK hA hs (22) (by omega) (md22 hM) rfl rfl (c_X8_keep l G hM (tg := tg) (gl := gl) (a := ka) (b := 0) (c1 := 0) (by omega) ⟨by show tg ≤ 9; omega, hgl1, hgl2, by show (if 1 ≤ rPartL.getD tg 0 then _ else _); rw [hP, if_pos (by decide)]; exact ⟨by show 1 ≤ ka; omega, by show ka < _; omega⟩, by show (if 2 ≤ rPartL.getD tg 0 then _ else _); rw [hP, if_neg (by decide)], by show (if 3 ≤ rPartL.getD tg 0 then _ else _); rw [hP, if_neg (by decide)]⟩) (cwV 5 hts (tbV w_ml_RX8_167 w_im_yX8_keep w_se_yX8_keep w_ini_RX8 w_cd_yX8_keep) rfl rfl rfl (by decide +kernel) ⟨Nat.le_of_ble_eq_true rfl, Nat.le_of_ble_eq_true rfl⟩) rfl hl.1 rfl (Nat.le_of_ble_eq_true rfl) dX8_node_108 ⟨Nat.le_refl _, Nat.le_refl _⟩ (fun r_10 ad_7 en_8 H locs hp_9 hs => ?_)
            obtain ⟨⟨hAm_11, hFm_11⟩, hrm_11, hMm_11⟩ := hp_9
            subst hAm_11
            rw [hrm_11]
            have fr_12 : ∀ k, k < 22 → en_8 k = en k := fun k hk => Eq.trans (hFm_11 k hk) (fr0 k hk)
            refine r_iret (v := nMakeR s0.2 (tg, gl, ka, 0, 0)) (mc := 0) (ms := 0) hx hb hr hlk hs (Nat.le_refl _) (Nat.le_refl _) dX8_node_111 hQ ?_
            rw [hV]
            exact ⟨⟨rfl, fr_12⟩, rfl, hMm_11⟩
        · rw [hP] at hl
          refine lv_iload hx hb dX8_node_26 (lv_at hl 0 rfl) ?_
          refine lv_if_le (tgt := 39) hx hb dX8_node_28 (by decide) (fun c28 => absurd c28 (by decide)) (fun _ => ?_)
          refine lv_aload_n hx hb dX8_node_31 rfl (lv_at hl 1 rfl) ?_
          refine lv_iload_n hx hb dX8_node_32 rfl (lv_at hl 4 rfl) ?_
          refine r_callViR (ci := 8) (As := [.int (a)]) hx hb hml hown hts hK hA hs (22) (by omega) (md22 hM) rfl rfl (c_X8_isNode l G hM (a)) (cwV 1 hts (tbV w_ml_RX8_199 w_im_yX8_isNode w_se_yX8_isNode w_ini_RX8 w_cd_yX8_isNode) rfl rfl rfl (by decide +kernel) ⟨Nat.le_of_ble_eq_true rfl, Nat.le_of_ble_eq_true rfl⟩) rfl hl.1 rfl (Nat.le_of_ble_eq_true rfl) dX8_node_33 ⟨Nat.zero_le _, Nat.zero_le _⟩ (fun H locs hs => ?_)
          refine lv_if_eq (tgt := 69) hx hb dX8_node_36 (by decide) (fun c36 => ?_) (fun c36 => ?_)
          · skip
            refine lv_iconst (v := (-1)) hx hb dX8_node_69 (by decide) ?_
            refine r_iret (v := (-1)) (mc := 0) (ms := 0) hx hb hr hlk hs (Nat.le_refl _) (Nat.le_refl _) dX8_node_70 hQ ?_
            have hV : fNode s0 (nI tg) (nI gl) a b cv = (-1, s0.2) := by rw [fNode, if_neg (by rw [fNdOK, decide_eq_true_eq]; exact fun q => absurd (q.2.2.1 (by rw [tN_nI (by omega), hP]; decide)) (by rw [b2i_0 c36]; decide))]
            rw [hV]
            exact ⟨⟨rfl, fun _ _ => rfl⟩, rfl, hM⟩
          · skip
            obtain ⟨ka, ha0, ha1, ha2⟩ := holds_ex (b2i_1 c36)
            have hHa := b2i_1 c36
            subst ha0
            refine lv_iload hx hb dX8_node_39 (lv_at hl 0 rfl) ?_
            refine lv_iconst (v := 1) hx hb dX8_node_41 (by decide) ?_
            refine lv_icmp_le (tgt := 54) hx hb dX8_node_42 (by decide) (fun c42 => absurd c42 (by decide)) (fun _ => ?_)
            refine lv_aload_n hx hb dX8_node_45 rfl (lv_at hl 1 rfl) ?_
            refine lv_iload hx hb dX8_node_46 (lv_at hl 5 rfl) ?_
            refine r_callViR (ci := 8) (As := [.int (b)]) hx hb hml hown hts hK hA hs (22) (by omega) (md22 hM) rfl rfl (c_X8_isNode l G hM (b)) (cwV 1 hts (tbV w_ml_RX8_199 w_im_yX8_isNode w_se_yX8_isNode w_ini_RX8 w_cd_yX8_isNode) rfl rfl rfl (by decide +kernel) ⟨Nat.le_of_ble_eq_true rfl, Nat.le_of_ble_eq_true rfl⟩) rfl hl.1 rfl (Nat.le_of_ble_eq_true rfl) dX8_node_48 ⟨Nat.zero_le _, Nat.zero_le _⟩ (fun H locs hs => ?_)
            refine lv_if_eq (tgt := 69) hx hb dX8_node_51 (by decide) (fun c51 => ?_) (fun c51 => ?_)
            · skip
              refine lv_iconst (v := (-1)) hx hb dX8_node_69 (by decide) ?_
              refine r_iret (v := (-1)) (mc := 0) (ms := 0) hx hb hr hlk hs (Nat.le_refl _) (Nat.le_refl _) dX8_node_70 hQ ?_
              have hV : fNode s0 (nI tg) (nI gl) (nI ka) b cv = (-1, s0.2) := by rw [fNode, if_neg (by rw [fNdOK, decide_eq_true_eq]; exact fun q => absurd (q.2.2.2.1 (by rw [tN_nI (by omega), hP]; decide)) (by rw [b2i_0 c51]; decide))]
              rw [hV]
              exact ⟨⟨rfl, fun _ _ => rfl⟩, rfl, hM⟩
            · skip
              obtain ⟨kb, hb0, hb1, hb2⟩ := holds_ex (b2i_1 c51)
              have hHb := b2i_1 c51
              subst hb0
              refine lv_iload hx hb dX8_node_54 (lv_at hl 0 rfl) ?_
              refine lv_iconst (v := 2) hx hb dX8_node_56 (by decide) ?_
              refine lv_icmp_le (tgt := 71) hx hb dX8_node_57 (by decide) (fun _ => ?_) (fun c57 => absurd (by decide) c57)
              have hV : fNode s0 (nI tg) (nI gl) (nI ka) (nI kb) cv = (nMakeR s0.2 (tg, gl, ka, kb, 0), nMake s0.2 (tg, gl, ka, kb, 0)) := by
                have hr : fRow (nI tg) (nI gl) (nI ka) (nI kb) cv = (tg, gl, ka, kb, 0) := by rw [fRow, tN_nI (by omega), tN_nI (by omega), hP, if_pos (by decide), tN_nI (by omega), if_pos (by decide), tN_nI (by omega), if_neg (by decide)]
                rw [fNode, if_pos (by rw [fNdOK, decide_eq_true_eq]; exact ⟨⟨nI_pos' (by omega), nI_le (by omega) (by decide)⟩, hHg, fun _ => hHa, fun _ => hHb, fun q => by rw [tN_nI (by omega), hP] at q; omega⟩), hr]
              refine lv_aload_n hx hb dX8_node_71 rfl (lv_at hl 1 rfl) ?_
              refine lv_iload_n hx hb dX8_node_72 rfl (lv_at hl 2 rfl) ?_
              refine lv_iload_n hx hb dX8_node_73 rfl (lv_at hl 3 rfl) ?_
              refine lv_iload hx hb dX8_node_74 (lv_at hl 0 rfl) ?_
              refine lv_if_le (tgt := 83) hx hb dX8_node_76 (by decide) (fun c76 => absurd c76 (by decide)) (fun _ => ?_)
              refine lv_iload_n hx hb dX8_node_79 rfl (lv_at hl 4 rfl) ?_
              refine lv_goto (tgt := 84) hx hb dX8_node_80 (by decide) ?_
              refine lv_iload hx hb dX8_node_84 (lv_at hl 0 rfl) ?_
              refine lv_iconst (v := 1) hx hb dX8_node_86 (by decide) ?_
              refine lv_icmp_le (tgt := 95) hx hb dX8_node_87 (by decide) (fun c87 => absurd c87 (by decide)) (fun _ => ?_)
              refine lv_iload hx hb dX8_node_90 (lv_at hl 5 rfl) ?_
              refine lv_goto (tgt := 96) hx hb dX8_node_92 (by decide) ?_
              refine lv_iload hx hb dX8_node_96 (lv_at hl 0 rfl) ?_
              refine lv_iconst (v := 2) hx hb dX8_node_98 (by decide) ?_
              refine lv_icmp_le (tgt := 107) hx hb dX8_node_99 (by decide) (fun _ => ?_) (fun c99 => absurd (by decide) c99)
              refine lv_iconst (v := 0) hx hb dX8_node_107 (by decide) ?_
              refine r_callVi (ci := 8) (As := [.int (nI tg), .int (nI gl), .int (nI ka), .int (nI kb), .int (0)]) hx hb hml hown hts hK hA hs (22) (by omega) (md22 hM) rfl rfl (c_X8_keep l G hM (tg := tg) (gl := gl) (a := ka) (b := kb) (c1 := 0) (by omega) ⟨by show tg ≤ 9; omega, hgl1, hgl2, by show (if 1 ≤ rPartL.getD tg 0 then _ else _); rw [hP, if_pos (by decide)]; exact ⟨by show 1 ≤ ka; omega, by show ka < _; omega⟩, by show (if 2 ≤ rPartL.getD tg 0 then _ else _); rw [hP, if_pos (by decide)]; exact ⟨by show 1 ≤ kb; omega, by show kb < _; omega⟩, by show (if 3 ≤ rPartL.getD tg 0 then _ else _); rw [hP, if_neg (by decide)]⟩) (cwV 5 hts (tbV w_ml_RX8_167 w_im_yX8_keep w_se_yX8_keep w_ini_RX8 w_cd_yX8_keep) rfl rfl rfl (by decide +kernel) ⟨Nat.le_of_ble_eq_true rfl, Nat.le_of_ble_eq_true rfl⟩) rfl hl.1 rfl (Nat.le_of_ble_eq_true rfl) dX8_node_108 ⟨Nat.le_refl _, Nat.le_refl _⟩ (fun r_16 ad_13 en_14 H locs hp_15 hs => ?_)
              obtain ⟨⟨hAm_17, hFm_17⟩, hrm_17, hMm_17⟩ := hp_15
              subst hAm_17
              rw [hrm_17]
              have fr_18 : ∀ k, k < 22 → en_14 k = en k := fun k hk => Eq.trans (hFm_17 k hk) (fr0 k hk)
              refine r_iret (v := nMakeR s0.2 (tg, gl, ka, kb, 0)) (mc := 0) (ms := 0) hx hb hr hlk hs (Nat.le_refl _) (Nat.le_refl _) dX8_node_111 hQ ?_
              rw [hV]
              exact ⟨⟨rfl, fr_18⟩, rfl, hMm_17⟩
        · rw [hP] at hl
          refine lv_iload hx hb dX8_node_26 (lv_at hl 0 rfl) ?_
          refine lv_if_le (tgt := 39) hx hb dX8_node_28 (by decide) (fun c28 => absurd c28 (by decide)) (fun _ => ?_)
          refine lv_aload_n hx hb dX8_node_31 rfl (lv_at hl 1 rfl) ?_
          refine lv_iload_n hx hb dX8_node_32 rfl (lv_at hl 4 rfl) ?_
          refine r_callViR (ci := 8) (As := [.int (a)]) hx hb hml hown hts hK hA hs (22) (by omega) (md22 hM) rfl rfl (c_X8_isNode l G hM (a)) (cwV 1 hts (tbV w_ml_RX8_199 w_im_yX8_isNode w_se_yX8_isNode w_ini_RX8 w_cd_yX8_isNode) rfl rfl rfl (by decide +kernel) ⟨Nat.le_of_ble_eq_true rfl, Nat.le_of_ble_eq_true rfl⟩) rfl hl.1 rfl (Nat.le_of_ble_eq_true rfl) dX8_node_33 ⟨Nat.zero_le _, Nat.zero_le _⟩ (fun H locs hs => ?_)
          refine lv_if_eq (tgt := 69) hx hb dX8_node_36 (by decide) (fun c36 => ?_) (fun c36 => ?_)
          · skip
            refine lv_iconst (v := (-1)) hx hb dX8_node_69 (by decide) ?_
            refine r_iret (v := (-1)) (mc := 0) (ms := 0) hx hb hr hlk hs (Nat.le_refl _) (Nat.le_refl _) dX8_node_70 hQ ?_
            have hV : fNode s0 (nI tg) (nI gl) a b cv = (-1, s0.2) := by rw [fNode, if_neg (by rw [fNdOK, decide_eq_true_eq]; exact fun q => absurd (q.2.2.1 (by rw [tN_nI (by omega), hP]; decide)) (by rw [b2i_0 c36]; decide))]
            rw [hV]
            exact ⟨⟨rfl, fun _ _ => rfl⟩, rfl, hM⟩
          · skip
            obtain ⟨ka, ha0, ha1, ha2⟩ := holds_ex (b2i_1 c36)
            have hHa := b2i_1 c36
            subst ha0
            refine lv_iload hx hb dX8_node_39 (lv_at hl 0 rfl) ?_
            refine lv_iconst (v := 1) hx hb dX8_node_41 (by decide) ?_
            refine lv_icmp_le (tgt := 54) hx hb dX8_node_42 (by decide) (fun c42 => absurd c42 (by decide)) (fun _ => ?_)
            refine lv_aload_n hx hb dX8_node_45 rfl (lv_at hl 1 rfl) ?_
            refine lv_iload hx hb dX8_node_46 (lv_at hl 5 rfl) ?_
            refine r_callViR (ci := 8) (As := [.int (b)]) hx hb hml hown hts hK hA hs (22) (by omega) (md22 hM) rfl rfl (c_X8_isNode l G hM (b)) (cwV 1 hts (tbV w_ml_RX8_199 w_im_yX8_isNode w_se_yX8_isNode w_ini_RX8 w_cd_yX8_isNode) rfl rfl rfl (by decide +kernel) ⟨Nat.le_of_ble_eq_true rfl, Nat.le_of_ble_eq_true rfl⟩) rfl hl.1 rfl (Nat.le_of_ble_eq_true rfl) dX8_node_48 ⟨Nat.zero_le _, Nat.zero_le _⟩ (fun H locs hs => ?_)
            refine lv_if_eq (tgt := 69) hx hb dX8_node_51 (by decide) (fun c51 => ?_) (fun c51 => ?_)
            · skip
              refine lv_iconst (v := (-1)) hx hb dX8_node_69 (by decide) ?_
              refine r_iret (v := (-1)) (mc := 0) (ms := 0) hx hb hr hlk hs (Nat.le_refl _) (Nat.le_refl _) dX8_node_70 hQ ?_
              have hV : fNode s0 (nI tg) (nI gl) (nI ka) b cv = (-1, s0.2) := by rw [fNode, if_neg (by rw [fNdOK, decide_eq_true_eq]; exact fun q => absurd (q.2.2.2.1 (by rw [tN_nI (by omega), hP]; decide)) (by rw [b2i_0 c51]; decide))]
              rw [hV]
              exact ⟨⟨rfl, fun _ _ => rfl⟩, rfl, hM⟩
            · skip
              obtain ⟨kb, hb0, hb1, hb2⟩ := holds_ex (b2i_1 c51)
              have hHb := b2i_1 c51
              subst hb0
              refine lv_iload hx hb dX8_node_54 (lv_at hl 0 rfl) ?_
              refine lv_iconst (v := 2) hx hb dX8_node_56 (by decide) ?_
              refine lv_icmp_le (tgt := 71) hx hb dX8_node_57 (by decide) (fun c57 => absurd c57 (by decide)) (fun _ => ?_)
              refine lv_aload_n hx hb dX8_node_60 rfl (lv_at hl 1 rfl) ?_
              refine lv_iload hx hb dX8_node_61 (lv_at hl 6 rfl) ?_
              refine r_callViR (ci := 8) (As := [.int (cv)]) hx hb hml hown hts hK hA hs (22) (by omega) (md22 hM) rfl rfl (c_X8_isNode l G hM (cv)) (cwV 1 hts (tbV w_ml_RX8_199 w_im_yX8_isNode w_se_yX8_isNode w_ini_RX8 w_cd_yX8_isNode) rfl rfl rfl (by decide +kernel) ⟨Nat.le_of_ble_eq_true rfl, Nat.le_of_ble_eq_true rfl⟩) rfl hl.1 rfl (Nat.le_of_ble_eq_true rfl) dX8_node_63 ⟨Nat.zero_le _, Nat.zero_le _⟩ (fun H locs hs => ?_)
              refine lv_if_ne (tgt := 71) hx hb dX8_node_66 (by decide) (fun c66 => ?_) (fun c66 => ?_)
              · skip
                obtain ⟨kc, hc0, hc1, hc2⟩ := holds_ex (b2i_1 c66)
                have hHc := b2i_1 c66
                subst hc0
                have hV : fNode s0 (nI tg) (nI gl) (nI ka) (nI kb) (nI kc) = (nMakeR s0.2 (tg, gl, ka, kb, kc), nMake s0.2 (tg, gl, ka, kb, kc)) := by
                  have hr : fRow (nI tg) (nI gl) (nI ka) (nI kb) (nI kc) = (tg, gl, ka, kb, kc) := by rw [fRow, tN_nI (by omega), tN_nI (by omega), hP, if_pos (by decide), tN_nI (by omega), if_pos (by decide), tN_nI (by omega), if_pos (by decide), tN_nI (by omega)]
                  rw [fNode, if_pos (by rw [fNdOK, decide_eq_true_eq]; exact ⟨⟨nI_pos' (by omega), nI_le (by omega) (by decide)⟩, hHg, fun _ => hHa, fun _ => hHb, fun _ => hHc⟩), hr]
                refine lv_aload_n hx hb dX8_node_71 rfl (lv_at hl 1 rfl) ?_
                refine lv_iload_n hx hb dX8_node_72 rfl (lv_at hl 2 rfl) ?_
                refine lv_iload_n hx hb dX8_node_73 rfl (lv_at hl 3 rfl) ?_
                refine lv_iload hx hb dX8_node_74 (lv_at hl 0 rfl) ?_
                refine lv_if_le (tgt := 83) hx hb dX8_node_76 (by decide) (fun c76 => absurd c76 (by decide)) (fun _ => ?_)
                refine lv_iload_n hx hb dX8_node_79 rfl (lv_at hl 4 rfl) ?_
                refine lv_goto (tgt := 84) hx hb dX8_node_80 (by decide) ?_
                refine lv_iload hx hb dX8_node_84 (lv_at hl 0 rfl) ?_
                refine lv_iconst (v := 1) hx hb dX8_node_86 (by decide) ?_
                refine lv_icmp_le (tgt := 95) hx hb dX8_node_87 (by decide) (fun c87 => absurd c87 (by decide)) (fun _ => ?_)
                refine lv_iload hx hb dX8_node_90 (lv_at hl 5 rfl) ?_
                refine lv_goto (tgt := 96) hx hb dX8_node_92 (by decide) ?_
                refine lv_iload hx hb dX8_node_96 (lv_at hl 0 rfl) ?_
                refine lv_iconst (v := 2) hx hb dX8_node_98 (by decide) ?_
                refine lv_icmp_le (tgt := 107) hx hb dX8_node_99 (by decide) (fun c99 => absurd c99 (by decide)) (fun _ => ?_)
                refine lv_iload hx hb dX8_node_102 (lv_at hl 6 rfl) ?_
                refine lv_goto (tgt := 108) hx hb dX8_node_104 (by decide) ?_
                refine r_callVi (ci := 8) (As := [.int (nI tg), .int (nI gl), .int (nI ka), .int (nI kb), .int (nI kc)]) hx hb hml hown hts hK hA hs (22) (by omega) (md22 hM) rfl rfl (c_X8_keep l G hM (tg := tg) (gl := gl) (a := ka) (b := kb) (c1 := kc) (by omega) ⟨by show tg ≤ 9; omega, hgl1, hgl2, by show (if 1 ≤ rPartL.getD tg 0 then _ else _); rw [hP, if_pos (by decide)]; exact ⟨by show 1 ≤ ka; omega, by show ka < _; omega⟩, by show (if 2 ≤ rPartL.getD tg 0 then _ else _); rw [hP, if_pos (by decide)]; exact ⟨by show 1 ≤ kb; omega, by show kb < _; omega⟩, by show (if 3 ≤ rPartL.getD tg 0 then _ else _); rw [hP, if_pos (by decide)]; exact ⟨by show 1 ≤ kc; omega, by show kc < _; omega⟩⟩) (cwV 5 hts (tbV w_ml_RX8_167 w_im_yX8_keep w_se_yX8_keep w_ini_RX8 w_cd_yX8_keep) rfl rfl rfl (by decide +kernel) ⟨Nat.le_of_ble_eq_true rfl, Nat.le_of_ble_eq_true rfl⟩) rfl hl.1 rfl (Nat.le_of_ble_eq_true rfl) dX8_node_108 ⟨Nat.le_refl _, Nat.le_refl _⟩ (fun r_22 ad_19 en_20 H locs hp_21 hs => ?_)
                obtain ⟨⟨hAm_23, hFm_23⟩, hrm_23, hMm_23⟩ := hp_21
                subst hAm_23
                rw [hrm_23]
                have fr_24 : ∀ k, k < 22 → en_20 k = en k := fun k hk => Eq.trans (hFm_23 k hk) (fr0 k hk)
                refine r_iret (v := nMakeR s0.2 (tg, gl, ka, kb, kc)) (mc := 0) (ms := 0) hx hb hr hlk hs (Nat.le_refl _) (Nat.le_refl _) dX8_node_111 hQ ?_
                rw [hV]
                exact ⟨⟨rfl, fr_24⟩, rfl, hMm_23⟩
              · skip
                refine lv_iconst (v := (-1)) hx hb dX8_node_69 (by decide) ?_
                refine r_iret (v := (-1)) (mc := 0) (ms := 0) hx hb hr hlk hs (Nat.le_refl _) (Nat.le_refl _) dX8_node_70 hQ ?_
                have hV : fNode s0 (nI tg) (nI gl) (nI ka) (nI kb) cv = (-1, s0.2) := by rw [fNode, if_neg (by rw [fNdOK, decide_eq_true_eq]; exact fun q => absurd (q.2.2.2.2 (by rw [tN_nI (by omega), hP]; decide)) (by rw [b2i_0 c66]; decide))]
                rw [hV]
                exact ⟨⟨rfl, fun _ _ => rfl⟩, rfl, hM⟩
      · skip
        refine lv_iconst (v := (-1)) hx hb dX8_node_18 (by decide) ?_
        refine r_iret (v := (-1)) (mc := 0) (ms := 0) hx hb hr hlk hs (Nat.le_refl _) (Nat.le_refl _) dX8_node_19 hQ ?_
        have hV : fNode s0 t x a b cv = (-1, s0.2) := by rw [fNode, if_neg (by rw [fNdOK, decide_eq_true_eq]; exact fun q => absurd q.2.1 (by rw [b2i_0 c15]; decide))]
        rw [hV]
        exact ⟨⟨rfl, fun _ _ => rfl⟩, rfl, hM⟩

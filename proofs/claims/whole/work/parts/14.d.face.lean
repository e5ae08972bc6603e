set_option maxHeartbeats 600000 in
set_option maxRecDepth 100000 in
theorem c_X7_node (l : Launch) (G : rG) {n : Nat} {ad : Nat → Nat} {en : Nat → va_E} {s0 : NSt} {jd RR SL : Nat} {SN : Nat → Nat → Bool} {sf : Nat → Int32} {fl : Bool} {hw : Nat} {dv : Nat → Int32} {SG : Nat → Nat → Bool} {fuel sp : Nat} (hW : PsW G n ad en s0 jd RR SL SN sf fl hw dv SG fuel sp) (t x a b cv : Int32) : CI l G yX7_node uX7_node (4) (135) (bC s0.2 (fNode s0 t x a b cv).2) (bS s0.2 (fNode s0 t x a b cv).2) [.ref (ad 0), .int (t), .int (x), .int (a), .int (b), .int (cv)] (n) (n) ad en (fPost G n ad en (fNode s0 t x a b cv).1 (s0.1, (fNode s0 t x a b cv).2) sp (bC s0.2 (fNode s0 t x a b cv).2 + pC7 s0 hw RR SL) (bS s0.2 (fNode s0 t x a b cv).2 + pS7 s0 hw RR SL)) := by
  intro sz
  refine rMet (Qc := qI G (n) (fPost G n ad en (fNode s0 t x a b cv).1 (s0.1, (fNode s0 t x a b cv).2) sp (bC s0.2 (fNode s0 t x a b cv).2 + pC7 s0 hw RR SL) (bS s0.2 (fNode s0 t x a b cv).2 + pS7 s0 hw RR SL))) (cc := cX7_node) (maxL := 7) (ret := (some .int)) (by decide) rfl (Nat.le_of_ble_eq_true rfl) ?_
  intro pP eE sS mM aA bB tT cC ls A Q hc hK hsz hA hs hl hQ
  obtain ⟨hx, hb, hr, hts, hown, hlk, hnm, hml⟩ := hc
  have hl : lv_has ls 7 [(0, .ref (ad 0)), (1, .int (t)), (2, .int (x)), (3, .int (a)), (4, .int (b)), (5, .int (cv))] := hl
  obtain ⟨he00, hPm0, hSc0, hRR0, hSL0⟩ := id hW
  obtain ⟨hSt0, hNd0, hOk0, hn0, he210⟩ := id hPm0
  obtain ⟨fs30, he30⟩ : ∃ fs, en 3 = .inr (6, fs) := ⟨_, hSt0.2.1⟩
  obtain ⟨fs110, he110⟩ : ∃ fs, en 11 = .inr (2, fs) := ⟨_, hNd0.2.1⟩
  obtain ⟨fs180, he180⟩ : ∃ fs, en 18 = .inr (4, fs) := ⟨_, hSc0.2.2.2.2⟩
  obtain ⟨fs210, hf210⟩ : ∃ fs, en 21 = .inr (3, fs) := ⟨_, he210⟩
  have h60 := hSt0.2.2.2.2.2.1
  have h80 := hOk0.1.1
  
  refine lv_iload_n hx hb dX7_node_0 rfl (lv_at hl 1 rfl) ?_
  refine lv_if_lt (tgt := 21) hx hb dX7_node_1 (by decide) (fun c1 => ?_) (fun c1 => ?_)
  · skip
    refine lv_iconst (v := (-1)) hx hb dX7_node_21 (by decide) ?_
    refine r_iret (v := (-1)) (mc := bC s0.2 (fNode s0 t x a b cv).2) (ms := bS s0.2 (fNode s0 t x a b cv).2) hx hb hr hlk hs (Nat.zero_le _) (Nat.zero_le _) dX7_node_22 hQ ?_
    have hV : fNode s0 t x a b cv = (-1, s0.2) := by rw [fNode, if_neg (by rw [fNdOK, decide_eq_true_eq]; exact fun q => absurd q.1.1 (Int32.not_le.mpr c1))]
    rw [hV]
    exact fx_same hW rfl (b_self _).1 (b_self _).2
  · skip
    refine lv_iload_n hx hb dX7_node_4 rfl (lv_at hl 1 rfl) ?_
    refine lv_bipush (v := 9) hx hb dX7_node_5 (by decide) ?_
    refine lv_icmp_gt (tgt := 21) hx hb dX7_node_7 (by decide) (fun c7 => ?_) (fun c7 => ?_)
    · skip
      refine lv_iconst (v := (-1)) hx hb dX7_node_21 (by decide) ?_
      refine r_iret (v := (-1)) (mc := bC s0.2 (fNode s0 t x a b cv).2) (ms := bS s0.2 (fNode s0 t x a b cv).2) hx hb hr hlk hs (Nat.zero_le _) (Nat.zero_le _) dX7_node_22 hQ ?_
      have hV : fNode s0 t x a b cv = (-1, s0.2) := by rw [fNode, if_neg (by rw [fNdOK, decide_eq_true_eq]; exact fun q => absurd q.1.2 (Int32.not_le.mpr c7))]
      rw [hV]
      exact fx_same hW rfl (b_self _).1 (b_self _).2
    · skip
      refine lv_aload_n hx hb dX7_node_10 rfl (lv_at hl 0 rfl) ?_
      refine r_get (ci := 7) (v := .ref (ad 3)) (C := RX7) (T := TX7) (N := 4) hx hb hts inlX7 hown hK hs (0) (by omega) he00 rfl 0 (by decide) (hts _ w_fl_RX7_13) rfl dX7_node_11 ?_
      refine lv_iload_n hx hb dX7_node_14 rfl (lv_at hl 2 rfl) ?_
      refine r_callViR (ci := 6) (As := [.int (x)]) hx hb hml hown hts hK hA hs (3) (by omega) he30 rfl rfl (c_X6_holds l G hSt0 (x)) (cwV 1 hts (tbV w_ml_RX7_50 w_im_yX6_holds w_se_yX6_holds w_ini_RX6 w_cd_yX6_holds) rfl rfl rfl (by decide +kernel) ⟨Nat.le_of_ble_eq_true rfl, Nat.le_of_ble_eq_true rfl⟩) rfl hl.1 rfl (Nat.le_of_ble_eq_true rfl) dX7_node_15 ⟨Nat.zero_le _, Nat.zero_le _⟩ (fun H locs hs => ?_)
      refine lv_if_ne (tgt := 23) hx hb dX7_node_18 (by decide) (fun c18 => ?_) (fun c18 => ?_)
      · skip
        obtain ⟨tg, htg0, htg1⟩ := pos_ex c1
        subst htg0
        have htg9 : tg ≤ 9 := Nat.le_of_not_lt (fun q => c7 ((nI_ltI (a := 9) (by decide) htg1).mpr q))
        obtain ⟨gl, hgl0, hgl1, hgl2⟩ := holds_ex (b2i_1 c18)
        have hHg := b2i_1 c18
        subst hgl0
        refine lv_iload_n hx hb dX7_node_23 rfl (lv_at hl 1 rfl) ?_
        refine r_callSiR (As := [.int (nI tg)]) hx hb hml hown hts hK hA hs (c_X2_partsOf l G (r := tg) (by omega)) (va_cwS 1 hts (tbS w_ml_RX7_73 w_sta_yX2_partsOf w_ini_RX2 w_cd_yX2_partsOf) rfl rfl rfl (by decide +kernel) ⟨Nat.le_of_ble_eq_true rfl, Nat.le_of_ble_eq_true rfl⟩) rfl hl.1 rfl (Nat.le_of_ble_eq_true rfl) dX7_node_24 ⟨Nat.zero_le _, Nat.zero_le _⟩ (fun H locs hs => ?_)
        refine lv_istore (lv' := [(6, .int (nI (rPartL.getD (tg) 0))), (0, .ref (ad 0)), (1, .int (nI tg)), (2, .int (nI gl)), (3, .int (a)), (4, .int (b)), (5, .int (cv))]) hx hb dX7_node_27 hl (by decide) rfl (fun ls hl => ?_)
        have hP4 : rPartL.getD (tg) 0 = 0 ∨ rPartL.getD (tg) 0 = 1 ∨ rPartL.getD (tg) 0 = 2 ∨ rPartL.getD (tg) 0 = 3 := by
          have : ∀ t, t < 10 → rPartL.getD t 0 = 0 ∨ rPartL.getD t 0 = 1 ∨ rPartL.getD t 0 = 2 ∨ rPartL.getD t 0 = 3 := by decide
          exact this tg (by omega)
        rcases hP4 with hP | hP | hP | hP
        · rw [hP] at hl
          refine lv_iload hx hb dX7_node_29 (lv_at hl 0 rfl) ?_
          refine lv_iconst (v := 1) hx hb dX7_node_31 (by decide) ?_
          refine lv_icmp_lt (tgt := 46) hx hb dX7_node_32 (by decide) (fun _ => ?_) (fun c32 => absurd (by decide) c32)
          refine lv_iload hx hb dX7_node_46 (lv_at hl 0 rfl) ?_
          refine lv_iconst (v := 2) hx hb dX7_node_48 (by decide) ?_
          refine lv_icmp_lt (tgt := 64) hx hb dX7_node_49 (by decide) (fun _ => ?_) (fun c49 => absurd (by decide) c49)
          refine lv_iload hx hb dX7_node_64 (lv_at hl 0 rfl) ?_
          refine lv_iconst (v := 3) hx hb dX7_node_66 (by decide) ?_
          refine lv_icmp_lt (tgt := 84) hx hb dX7_node_67 (by decide) (fun _ => ?_) (fun c67 => absurd (by decide) c67)
          have hV : fNode s0 (nI tg) (nI gl) a b cv = (nMakeR s0.2 (tg, gl, 0, 0, 0), nMake s0.2 (tg, gl, 0, 0, 0)) := by
            have hr : fRow (nI tg) (nI gl) a b cv = (tg, gl, 0, 0, 0) := by rw [fRow, tN_nI (by omega), tN_nI (by omega), hP, if_neg (by decide), if_neg (by decide), if_neg (by decide)]
            rw [fNode, if_pos (by rw [fNdOK, decide_eq_true_eq]; exact ⟨⟨nI_pos' (by omega), nI_le (by omega) (by decide)⟩, hHg, fun q => by rw [tN_nI (by omega), hP] at q; omega, fun q => by rw [tN_nI (by omega), hP] at q; omega, fun q => by rw [tN_nI (by omega), hP] at q; omega⟩), hr]
          refine lv_aload_n hx hb dX7_node_84 rfl (lv_at hl 1 rfl) ?_
          refine r_get (ci := 7) (v := .ref (ad 11)) (C := RX7) (T := TX7) (N := 4) hx hb hts inlX7 hown hK hs (0) (by omega) he00 rfl 1 (by decide) (hts _ w_fl_RX7_24) rfl dX7_node_85 ?_
          refine lv_iload_n hx hb dX7_node_88 rfl (lv_at hl 2 rfl) ?_
          refine lv_iload_n hx hb dX7_node_89 rfl (lv_at hl 3 rfl) ?_
          refine lv_iload hx hb dX7_node_90 (lv_at hl 0 rfl) ?_
          refine lv_iconst (v := 1) hx hb dX7_node_92 (by decide) ?_
          refine lv_icmp_lt (tgt := 100) hx hb dX7_node_93 (by decide) (fun _ => ?_) (fun c93 => absurd (by decide) c93)
          refine lv_iconst (v := 0) hx hb dX7_node_100 (by decide) ?_
          refine lv_iload hx hb dX7_node_101 (lv_at hl 0 rfl) ?_
          refine lv_iconst (v := 2) hx hb dX7_node_103 (by decide) ?_
          refine lv_icmp_lt (tgt := 112) hx hb dX7_node_104 (by decide) (fun _ => ?_) (fun c104 => absurd (by decide) c104)
          refine lv_iconst (v := 0) hx hb dX7_node_112 (by decide) ?_
          refine lv_iload hx hb dX7_node_113 (lv_at hl 0 rfl) ?_
          refine lv_iconst (v := 3) hx hb dX7_node_115 (by decide) ?_
          refine lv_icmp_lt (tgt := 124) hx hb dX7_node_116 (by decide) (fun _ => ?_) (fun c116 => absurd (by decide) c116)
          refine lv_iconst (v := 0) hx hb dX7_node_124 (by decide) ?_
          refine r_callVi (ci := 2) (As := [.int (nI tg), .int (nI gl), .int (0), .int (0), .int (0)]) hx hb hml hown hts hK hA hs (11) (by omega) he110 rfl rfl (c_X2_make l G hNd0 hOk0 h60 (a := tg) (b := gl) (c1 := 0) (d := 0) (e1 := 0) ⟨by show tg ≤ 9; omega, hgl1, hgl2, by show (if 1 ≤ rPartL.getD tg 0 then _ else _); rw [hP, if_neg (by decide)], by show (if 2 ≤ rPartL.getD tg 0 then _ else _); rw [hP, if_neg (by decide)], by show (if 3 ≤ rPartL.getD tg 0 then _ else _); rw [hP, if_neg (by decide)]⟩) (cwV 5 hts (tbV w_ml_RX7_77 w_im_yX2_make w_se_yX2_make w_ini_RX2 w_cd_yX2_make) rfl rfl rfl (by decide +kernel) ⟨Nat.le_of_ble_eq_true rfl, Nat.le_of_ble_eq_true rfl⟩) rfl hl.1 rfl (Nat.le_of_ble_eq_true rfl) dX7_node_125 ⟨by show 0 + nMC s0.2 (tg, gl, 0, 0, 0) ≤ bC s0.2 (fNode s0 (nI tg) (nI gl) a b cv).2; rw [hV]; show 0 + nMC s0.2 (tg, gl, 0, 0, 0) ≤ bC s0.2 (nMake s0.2 (tg, gl, 0, 0, 0)); have := nM_b s0.2 (tg, gl, 0, 0, 0); omega, by show 0 + nMS s0.2 (tg, gl, 0, 0, 0) ≤ bS s0.2 (fNode s0 (nI tg) (nI gl) a b cv).2; rw [hV]; show 0 + nMS s0.2 (tg, gl, 0, 0, 0) ≤ bS s0.2 (nMake s0.2 (tg, gl, 0, 0, 0)); have := nM_b s0.2 (tg, gl, 0, 0, 0); omega⟩ (fun r_4 ad_1 en_2 H locs hp_3 hs => ?_)
          obtain ⟨hr1, hd1, hO1, hf1⟩ := hp_3
          obtain ⟨hW1, hF1⟩ := Ps_nd hW hd1 hO1 (FrNd2 hf1) hRR0 hSL0
          rw [hr1]
          refine r_iret (v := nMakeR s0.2 (tg, gl, 0, 0, 0)) (mc := bC s0.2 (fNode s0 (nI tg) (nI gl) a b cv).2) (ms := bS s0.2 (fNode s0 (nI tg) (nI gl) a b cv).2) hx hb hr hlk hs (by show 0 + nMC s0.2 (tg, gl, 0, 0, 0) ≤ bC s0.2 (fNode s0 (nI tg) (nI gl) a b cv).2; rw [hV]; show 0 + nMC s0.2 (tg, gl, 0, 0, 0) ≤ bC s0.2 (nMake s0.2 (tg, gl, 0, 0, 0)); have := nM_b s0.2 (tg, gl, 0, 0, 0); omega) (by show 0 + nMS s0.2 (tg, gl, 0, 0, 0) ≤ bS s0.2 (fNode s0 (nI tg) (nI gl) a b cv).2; rw [hV]; show 0 + nMS s0.2 (tg, gl, 0, 0, 0) ≤ bS s0.2 (nMake s0.2 (tg, gl, 0, 0, 0)); have := nM_b s0.2 (tg, gl, 0, 0, 0); omega) dX7_node_128 hQ ?_
          exact fx_n hW1 hF1 hV
        · rw [hP] at hl
          refine lv_iload hx hb dX7_node_29 (lv_at hl 0 rfl) ?_
          refine lv_iconst (v := 1) hx hb dX7_node_31 (by decide) ?_
          refine lv_icmp_lt (tgt := 46) hx hb dX7_node_32 (by decide) (fun c32 => absurd c32 (by decide)) (fun _ => ?_)
          refine lv_aload_n hx hb dX7_node_35 rfl (lv_at hl 1 rfl) ?_
          refine r_get (ci := 7) (v := .ref (ad 11)) (C := RX7) (T := TX7) (N := 4) hx hb hts inlX7 hown hK hs (0) (by omega) he00 rfl 1 (by decide) (hts _ w_fl_RX7_24) rfl dX7_node_36 ?_
          refine lv_iload_n hx hb dX7_node_39 rfl (lv_at hl 4 rfl) ?_
          refine r_callViR (ci := 2) (As := [.int (a)]) hx hb hml hown hts hK hA hs (11) (by omega) he110 rfl rfl (c_X2_holds l G hNd0 (a)) (cwV 1 hts (tbV w_ml_RX7_76 w_im_yX2_holds w_se_yX2_holds w_ini_RX2 w_cd_yX2_holds) rfl rfl rfl (by decide +kernel) ⟨Nat.le_of_ble_eq_true rfl, Nat.le_of_ble_eq_true rfl⟩) rfl hl.1 rfl (Nat.le_of_ble_eq_true rfl) dX7_node_40 ⟨Nat.zero_le _, Nat.zero_le _⟩ (fun H locs hs => ?_)
          refine lv_if_eq (tgt := 82) hx hb dX7_node_43 (by decide) (fun c43 => ?_) (fun c43 => ?_)
          · skip
            refine lv_iconst (v := (-1)) hx hb dX7_node_82 (by decide) ?_
            refine r_iret (v := (-1)) (mc := bC s0.2 (fNode s0 (nI tg) (nI gl) a b cv).2) (ms := bS s0.2 (fNode s0 (nI tg) (nI gl) a b cv).2) hx hb hr hlk hs (Nat.zero_le _) (Nat.zero_le _) dX7_node_83 hQ ?_
            have hV : fNode s0 (nI tg) (nI gl) a b cv = (-1, s0.2) := by rw [fNode, if_neg (by rw [fNdOK, decide_eq_true_eq]; exact fun q => absurd (q.2.2.1 (by rw [tN_nI (by omega), hP]; decide)) (by rw [b2i_0 c43]; decide))]
            rw [hV]
            exact fx_same hW rfl (b_self _).1 (b_self _).2
          · skip
            obtain ⟨ka, ha0, ha1, ha2⟩ := holds_ex (b2i_1 c43)
            have hHa := b2i_1 c43
            subst ha0
            refine lv_iload hx hb dX7_node_46 (lv_at hl 0 rfl) ?_
            refine lv_iconst (v := 2) hx hb dX7_node_48 (by decide) ?_
            refine lv_icmp_lt (tgt := 64) hx hb dX7_node_49 (by decide) (fun _ => ?_) (fun c49 => absurd (by decide) c49)
            refine lv_iload hx hb dX7_node_64 (lv_at hl 0 rfl) ?_
            refine lv_iconst (v := 3) hx hb dX7_node_66 (by decide) ?_
            refine lv_icmp_lt (tgt := 84) hx hb dX7_node_67 (by decide) (fun _ => ?_) (fun c67 => absurd (by decide) c67)
            have hV : fNode s0 (nI tg) (nI gl) (nI ka) b cv = (nMakeR s0.2 (tg, gl, ka, 0, 0), nMake s0.2 (tg, gl, ka, 0, 0)) := by
              have hr : fRow (nI tg) (nI gl) (nI ka) b cv = (tg, gl, ka, 0, 0) := by rw [fRow, tN_nI (by omega), tN_nI (by omega), hP, if_pos (by decide), tN_nI (by omega), if_neg (by decide), if_neg (by decide)]
              rw [fNode, if_pos (by rw [fNdOK, decide_eq_true_eq]; exact ⟨⟨nI_pos' (by omega), nI_le (by omega) (by decide)⟩, hHg, fun _ => hHa, fun q => by rw [tN_nI (by omega), hP] at q; omega, fun q => by rw [tN_nI (by omega), hP] at q; omega⟩), hr]
            refine lv_aload_n hx hb dX7_node_84 rfl (lv_at hl 1 rfl) ?_
            refine r_get (ci := 7) (v := .ref (ad 11)) (C := RX7) (T := TX7) (N := 4) hx hb hts inlX7 hown hK hs (0) (by omega) he00 rfl 1 (by decide) (hts _ w_fl_RX7_24) rfl dX7_node_85 ?_
            refine lv_iload_n hx hb dX7_node_88 rfl (lv_at hl 2 rfl) ?_
            refine lv_iload_n hx hb dX7_node_89 rfl (lv_at hl 3 rfl) ?_
            refine lv_iload hx hb dX7_node_90 (lv_at hl 0 rfl) ?_
            refine lv_iconst (v := 1) hx hb dX7_node_92 (by decide) ?_
            refine lv_icmp_lt (tgt := 100) hx hb dX7_node_93 (by decide) (fun c93 => absurd c93 (by decide)) (fun _ => ?_)
            refine lv_iload_n hx hb dX7_node_96 rfl (lv_at hl 4 rfl) ?_
            refine lv_goto (tgt := 101) hx hb dX7_node_97 (by decide) ?_
            refine lv_iload hx hb dX7_node_101 (lv_at hl 0 rfl) ?_
            refine lv_iconst (v := 2) hx hb dX7_node_103 (by decide) ?_
            refine lv_icmp_lt (tgt := 112) hx hb dX7_node_104 (by decide) (fun _ => ?_) (fun c104 => absurd (by decide) c104)
            refine lv_iconst (v := 0) hx hb dX7_node_112 (by decide) ?_
            refine lv_iload hx hb dX7_node_113 (lv_at hl 0 rfl) ?_
            refine lv_iconst (v := 3) hx hb dX7_node_115 (by decide) ?_
            refine lv_icmp_lt (tgt := 124) hx hb dX7_node_116 (by decide) (fun _ => ?_) (fun c116 => absurd (by decide) c116)
            refine lv_iconst (v := 0) hx hb dX7_node_124 (by decide) ?_
            refine r_callVi (ci := 2) (As := [.int (nI tg), .int (nI gl), .int (nI ka), .int (0), .int (0)]) hx hb hml hown hts hK hA hs (11) (by omega) he110 rfl rfl (c_X2_make l G hNd0 hOk0 h60 (a := tg) (b := gl) (c1 := ka) (d := 0) (e1 := 0) ⟨by show tg ≤ 9; omega, hgl1, hgl2, by show (if 1 ≤ rPartL.getD tg 0 then _ else _); rw [hP, if_pos (by decide)]; exact ⟨by show 1 ≤ ka; omega, by show ka < _; omega⟩, by show (if 2 ≤ rPartL.getD tg 0 then _ else _); rw [hP, if_neg (by decide)], by show (if 3 ≤ rPartL.getD tg 0 then _ else _); rw [hP, if_neg (by decide)]⟩) (cwV 5 hts (tbV w_ml_RX7_77 w_im_yX2_make w_se_yX2_make w_ini_RX2 w_cd_yX2_make) rfl rfl rfl (by decide +kernel) ⟨Nat.le_of_ble_eq_true rfl, Nat.le_of_ble_eq_true rfl⟩) rfl hl.1 rfl (Nat.le_of_ble_eq_true rfl) dX7_node_125 ⟨by show 0 + nMC s0.2 (tg, gl, ka, 0, 0) ≤ bC s0.2 (fNode s0 (nI tg) (nI gl) (nI ka) b cv).2; rw [hV]; show 0 + nMC s0.2 (tg, gl, ka, 0, 0) ≤ bC s0.2 (nMake s0.2 (tg, gl, ka, 0, 0)); have := nM_b s0.2 (tg, gl, ka, 0, 0); omega, by show 0 + nMS s0.2 (tg, gl, ka, 0, 0) ≤ bS s0.2 (fNode s0 (nI tg) (nI gl) (nI ka) b cv).2; rw [hV]; show 0 + nMS s0.2 (tg, gl, ka, 0, 0) ≤ bS s0.2 (nMake s0.2 (tg, gl, ka, 0, 0)); have := nM_b s0.2 (tg, gl, ka, 0, 0); omega⟩ (fun r_8 ad_5 en_6 H locs hp_7 hs => ?_)
            obtain ⟨hr1, hd1, hO1, hf1⟩ := hp_7
            obtain ⟨hW1, hF1⟩ := Ps_nd hW hd1 hO1 (FrNd2 hf1) hRR0 hSL0
            rw [hr1]
            refine r_iret (v := nMakeR s0.2 (tg, gl, ka, 0, 0)) (mc := bC s0.2 (fNode s0 (nI tg) (nI gl) (nI ka) b cv).2) (ms := bS s0.2 (fNode s0 (nI tg) (nI gl) (nI ka) b cv).2) hx hb hr hlk hs (by show 0 + nMC s0.2 (tg, gl, ka, 0, 0) ≤ bC s0.2 (fNode s0 (nI tg) (nI gl) (nI ka) b cv).2; rw [hV]; show 0 + nMC s0.2 (tg, gl, ka, 0, 0) ≤ bC s0.2 (nMake s0.2 (tg, gl, ka, 0, 0)); have := nM_b s0.2 (tg, gl, ka, 0, 0); omega) (by show 0 + nMS s0.2 (tg, gl, ka, 0, 0) ≤ bS s0.2 (fNode s0 (nI tg) (nI gl) (nI ka) b cv).2; rw [hV]; show 0 + nMS s0.2 (tg, gl, ka, 0, 0) ≤ bS s0.2 (nMake s0.2 (tg, gl, ka, 0, 0)); have := nM_b s0.2 (tg, gl, ka, 0, 0); omega) dX7_node_128 hQ ?_
            exact fx_n hW1 hF1 hV
        · rw [hP] at hl
          refine lv_iload hx hb dX7_node_29 (lv_at hl 0 rfl) ?_
          refine lv_iconst (v := 1) hx hb dX7_node_31 (by decide) ?_
          refine lv_icmp_lt (tgt := 46) hx hb dX7_node_32 (by decide) (fun c32 => absurd c32 (by decide)) (fun _ => ?_)
          refine lv_aload_n hx hb dX7_node_35 rfl (lv_at hl 1 rfl) ?_
          refine r_get (ci := 7) (v := .ref (ad 11)) (C := RX7) (T := TX7) (N := 4) hx hb hts inlX7 hown hK hs (0) (by omega) he00 rfl 1 (by decide) (hts _ w_fl_RX7_24) rfl dX7_node_36 ?_
          refine lv_iload_n hx hb dX7_node_39 rfl (lv_at hl 4 rfl) ?_
          refine r_callViR (ci := 2) (As := [.int (a)]) hx hb hml hown hts hK hA hs (11) (by omega) he110 rfl rfl (c_X2_holds l G hNd0 (a)) (cwV 1 hts (tbV w_ml_RX7_76 w_im_yX2_holds w_se_yX2_holds w_ini_RX2 w_cd_yX2_holds) rfl rfl rfl (by decide +kernel) ⟨Nat.le_of_ble_eq_true rfl, Nat.le_of_ble_eq_true rfl⟩) rfl hl.1 rfl (Nat.le_of_ble_eq_true rfl) dX7_node_40 ⟨Nat.zero_le _, Nat.zero_le _⟩ (fun H locs hs => ?_)
          refine lv_if_eq (tgt := 82) hx hb dX7_node_43 (by decide) (fun c43 => ?_) (fun c43 => ?_)
          · skip
            refine lv_iconst (v := (-1)) hx hb dX7_node_82 (by decide) ?_
            refine r_iret (v := (-1)) (mc := bC s0.2 (fNode s0 (nI tg) (nI gl) a b cv).2) (ms := bS s0.2 (fNode s0 (nI tg) (nI gl) a b cv).2) hx hb hr hlk hs (Nat.zero_le _) (Nat.zero_le _) dX7_node_83 hQ ?_
            have hV : fNode s0 (nI tg) (nI gl) a b cv = (-1, s0.2) := by rw [fNode, if_neg (by rw [fNdOK, decide_eq_true_eq]; exact fun q => absurd (q.2.2.1 (by rw [tN_nI (by omega), hP]; decide)) (by rw [b2i_0 c43]; decide))]
            rw [hV]
            exact fx_same hW rfl (b_self _).1 (b_self _).2
          · skip
            obtain ⟨ka, ha0, ha1, ha2⟩ := holds_ex (b2i_1 c43)
            have hHa := b2i_1 c43
            subst ha0
            refine lv_iload hx hb dX7_node_46 (lv_at hl 0 rfl) ?_
            refine lv_iconst (v := 2) hx hb dX7_node_48 (by decide) ?_
            refine lv_icmp_lt (tgt := 64) hx hb dX7_node_49 (by decide) (fun c49 => absurd c49 (by decide)) (fun _ => ?_)
            refine lv_aload_n hx hb dX7_node_52 rfl (lv_at hl 1 rfl) ?_
            refine r_get (ci := 7) (v := .ref (ad 11)) (C := RX7) (T := TX7) (N := 4) hx hb hts inlX7 hown hK hs (0) (by omega) he00 rfl 1 (by decide) (hts _ w_fl_RX7_24) rfl dX7_node_53 ?_
            refine lv_iload hx hb dX7_node_56 (lv_at hl 5 rfl) ?_
            refine r_callViR (ci := 2) (As := [.int (b)]) hx hb hml hown hts hK hA hs (11) (by omega) he110 rfl rfl (c_X2_holds l G hNd0 (b)) (cwV 1 hts (tbV w_ml_RX7_76 w_im_yX2_holds w_se_yX2_holds w_ini_RX2 w_cd_yX2_holds) rfl rfl rfl (by decide +kernel) ⟨Nat.le_of_ble_eq_true rfl, Nat.le_of_ble_eq_true rfl⟩) rfl hl.1 rfl (Nat.le_of_ble_eq_true rfl) dX7_node_58 ⟨Nat.zero_le _, Nat.zero_le _⟩ (fun H locs hs => ?_)
            refine lv_if_eq (tgt := 82) hx hb dX7_node_61 (by decide) (fun c61 => ?_) (fun c61 => ?_)
            · skip
              refine lv_iconst (v := (-1)) hx hb dX7_node_82 (by decide) ?_
              refine r_iret (v := (-1)) (mc := bC s0.2 (fNode s0 (nI tg) (nI gl) (nI ka) b cv).2) (ms := bS s0.2 (fNode s0 (nI tg) (nI gl) (nI ka) b cv).2) hx hb hr hlk hs (Nat.zero_le _) (Nat.zero_le _) dX7_node_83 hQ ?_
              have hV : fNode s0 (nI tg) (nI gl) (nI ka) b cv = (-1, s0.2) := by rw [fNode, if_neg (by rw [fNdOK, decide_eq_true_eq]; exact fun q => absurd (q.2.2.2.1 (by rw [tN_nI (by omega), hP]; decide)) (by rw [b2i_0 c61]; decide))]
              rw [hV]
              exact fx_same hW rfl (b_self _).1 (b_self _).2
            · skip
              obtain ⟨kb, hb0, hb1, hb2⟩ := holds_ex (b2i_1 c61)
              have hHb := b2i_1 c61
              subst hb0
              refine lv_iload hx hb dX7_node_64 (lv_at hl 0 rfl) ?_
              refine lv_iconst (v := 3) hx hb dX7_node_66 (by decide) ?_
              refine lv_icmp_lt (tgt := 84) hx hb dX7_node_67 (by decide) (fun _ => ?_) (fun c67 => absurd (by decide) c67)
              have hV : fNode s0 (nI tg) (nI gl) (nI ka) (nI kb) cv = (nMakeR s0.2 (tg, gl, ka, kb, 0), nMake s0.2 (tg, gl, ka, kb, 0)) := by
                have hr : fRow (nI tg) (nI gl) (nI ka) (nI kb) cv = (tg, gl, ka, kb, 0) := by rw [fRow, tN_nI (by omega), tN_nI (by omega), hP, if_pos (by decide), tN_nI (by omega), if_pos (by decide), tN_nI (by omega), if_neg (by decide)]
                rw [fNode, if_pos (by rw [fNdOK, decide_eq_true_eq]; exact ⟨⟨nI_pos' (by omega), nI_le (by omega) (by decide)⟩, hHg, fun _ => hHa, fun _ => hHb, fun q => by rw [tN_nI (by omega), hP] at q; omega⟩), hr]
              refine lv_aload_n hx hb dX7_node_84 rfl (lv_at hl 1 rfl) ?_
              refine r_get (ci := 7) (v := .ref (ad 11)) (C := RX7) (T := TX7) (N := 4) hx hb hts inlX7 hown hK hs (0) (by omega) he00 rfl 1 (by decide) (hts _ w_fl_RX7_24) rfl dX7_node_85 ?_
              refine lv_iload_n hx hb dX7_node_88 rfl (lv_at hl 2 rfl) ?_
              refine lv_iload_n hx hb dX7_node_89 rfl (lv_at hl 3 rfl) ?_
              refine lv_iload hx hb dX7_node_90 (lv_at hl 0 rfl) ?_
              refine lv_iconst (v := 1) hx hb dX7_node_92 (by decide) ?_
              refine lv_icmp_lt (tgt := 100) hx hb dX7_node_93 (by decide) (fun c93 => absurd c93 (by decide)) (fun _ => ?_)
              refine lv_iload_n hx hb dX7_node_96 rfl (lv_at hl 4 rfl) ?_
              refine lv_goto (tgt := 101) hx hb dX7_node_97 (by decide) ?_
              refine lv_iload hx hb dX7_node_101 (lv_at hl 0 rfl) ?_
              refine lv_iconst (v := 2) hx hb dX7_node_103 (by decide) ?_
              refine lv_icmp_lt (tgt := 112) hx hb dX7_node_104 (by decide) (fun c104 => absurd c104 (by decide)) (fun _ => ?_)
              refine lv_iload hx hb dX7_node_107 (lv_at hl 5 rfl) ?_
              refine lv_goto (tgt := 113) hx hb dX7_node_109 (by decide) ?_
              refine lv_iload hx hb dX7_node_113 (lv_at hl 0 rfl) ?_
              refine lv_iconst (v := 3) hx hb dX7_node_115 (by decide) ?_
              refine lv_icmp_lt (tgt := 124) hx hb dX7_node_116 (by decide) (fun _ => ?_) (fun c116 => absurd (by decide) c116)
              refine lv_iconst (v := 0) hx hb dX7_node_124 (by decide) ?_
              refine r_callVi (ci := 2) (As := [.int (nI tg), .int (nI gl), .int (nI ka), .int (nI kb), .int (0)]) hx hb hml hown hts hK hA hs (11) (by omega) he110 rfl rfl (c_X2_make l G hNd0 hOk0 h60 (a := tg) (b := gl) (c1 := ka) (d := kb) (e1 := 0) ⟨by show tg ≤ 9; omega, hgl1, hgl2, by show (if 1 ≤ rPartL.getD tg 0 then _ else _); rw [hP, if_pos (by decide)]; exact ⟨by show 1 ≤ ka; omega, by show ka < _; omega⟩, by show (if 2 ≤ rPartL.getD tg 0 then _ else _); rw [hP, if_pos (by decide)]; exact ⟨by show 1 ≤ kb; omega, by show kb < _; omega⟩, by show (if 3 ≤ rPartL.getD tg 0 then _ else _); rw [hP, if_neg (by decide)]⟩) (cwV 5 hts (tbV w_ml_RX7_77 w_im_yX2_make w_se_yX2_make w_ini_RX2 w_cd_yX2_make) rfl rfl rfl (by decide +kernel) ⟨Nat.le_of_ble_eq_true rfl, Nat.le_of_ble_eq_true rfl⟩) rfl hl.1 rfl (Nat.le_of_ble_eq_true rfl) dX7_node_125 ⟨by show 0 + nMC s0.2 (tg, gl, ka, kb, 0) ≤ bC s0.2 (fNode s0 (nI tg) (nI gl) (nI ka) (nI kb) cv).2; rw [hV]; show 0 + nMC s0.2 (tg, gl, ka, kb, 0) ≤ bC s0.2 (nMake s0.2 (tg, gl, ka, kb, 0)); have := nM_b s0.2 (tg, gl, ka, kb, 0); omega, by show 0 + nMS s0.2 (tg, gl, ka, kb, 0) ≤ bS s0.2 (fNode s0 (nI tg) (nI gl) (nI ka) (nI kb) cv).2; rw [hV]; show 0 + nMS s0.2 (tg, gl, ka, kb, 0) ≤ bS s0.2 (nMake s0.2 (tg, gl, ka, kb, 0)); have := nM_b s0.2 (tg, gl, ka, kb, 0); omega⟩ (fun r_12 ad_9 en_10 H locs hp_11 hs => ?_)
              obtain ⟨hr1, hd1, hO1, hf1⟩ := hp_11
              obtain ⟨hW1, hF1⟩ := Ps_nd hW hd1 hO1 (FrNd2 hf1) hRR0 hSL0
              rw [hr1]
              refine r_iret (v := nMakeR s0.2 (tg, gl, ka, kb, 0)) (mc := bC s0.2 (fNode s0 (nI tg) (nI gl) (nI ka) (nI kb) cv).2) (ms := bS s0.2 (fNode s0 (nI tg) (nI gl) (nI ka) (nI kb) cv).2) hx hb hr hlk hs (by show 0 + nMC s0.2 (tg, gl, ka, kb, 0) ≤ bC s0.2 (fNode s0 (nI tg) (nI gl) (nI ka) (nI kb) cv).2; rw [hV]; show 0 + nMC s0.2 (tg, gl, ka, kb, 0) ≤ bC s0.2 (nMake s0.2 (tg, gl, ka, kb, 0)); have := nM_b s0.2 (tg, gl, ka, kb, 0); omega) (by show 0 + nMS s0.2 (tg, gl, ka, kb, 0) ≤ bS s0.2 (fNode s0 (nI tg) (nI gl) (nI ka) (nI kb) cv).2; rw [hV]; show 0 + nMS s0.2 (tg, gl, ka, kb, 0) ≤ bS s0.2 (nMake s0.2 (tg, gl, ka, kb, 0)); have := nM_b s0.2 (tg, gl, ka, kb, 0); omega) dX7_node_128 hQ ?_
              exact fx_n hW1 hF1 hV
        · rw [hP] at hl
          refine lv_iload hx hb dX7_node_29 (lv_at hl 0 rfl) ?_
          refine lv_iconst (v := 1) hx hb dX7_node_31 (by decide) ?_
          refine lv_icmp_lt (tgt := 46) hx hb dX7_node_32 (by decide) (fun c32 => absurd c32 (by decide)) (fun _ => ?_)
          refine lv_aload_n hx hb dX7_node_35 rfl (lv_at hl 1 rfl) ?_
          refine r_get (ci := 7) (v := .ref (ad 11)) (C := RX7) (T := TX7) (N := 4) hx hb hts inlX7 hown hK hs (0) (by omega) he00 rfl 1 (by decide) (hts _ w_fl_RX7_24) rfl dX7_node_36 ?_
          refine lv_iload_n hx hb dX7_node_39 rfl (lv_at hl 4 rfl) ?_
          refine r_callViR (ci := 2) (As := [.int (a)]) hx hb hml hown hts hK hA hs (11) (by omega) he110 rfl rfl (c_X2_holds l G hNd0 (a)) (cwV 1 hts (tbV w_ml_RX7_76 w_im_yX2_holds w_se_yX2_holds w_ini_RX2 w_cd_yX2_holds) rfl rfl rfl (by decide +kernel) ⟨Nat.le_of_ble_eq_true rfl, Nat.le_of_ble_eq_true rfl⟩) rfl hl.1 rfl (Nat.le_of_ble_eq_true rfl) dX7_node_40 ⟨Nat.zero_le _, Nat.zero_le _⟩ (fun H locs hs => ?_)
          refine lv_if_eq (tgt := 82) hx hb dX7_node_43 (by decide) (fun c43 => ?_) (fun c43 => ?_)
          · skip
            refine lv_iconst (v := (-1)) hx hb dX7_node_82 (by decide) ?_
            refine r_iret (v := (-1)) (mc := bC s0.2 (fNode s0 (nI tg) (nI gl) a b cv).2) (ms := bS s0.2 (fNode s0 (nI tg) (nI gl) a b cv).2) hx hb hr hlk hs (Nat.zero_le _) (Nat.zero_le _) dX7_node_83 hQ ?_
            have hV : fNode s0 (nI tg) (nI gl) a b cv = (-1, s0.2) := by rw [fNode, if_neg (by rw [fNdOK, decide_eq_true_eq]; exact fun q => absurd (q.2.2.1 (by rw [tN_nI (by omega), hP]; decide)) (by rw [b2i_0 c43]; decide))]
            rw [hV]
            exact fx_same hW rfl (b_self _).1 (b_self _).2
          · skip
            obtain ⟨ka, ha0, ha1, ha2⟩ := holds_ex (b2i_1 c43)
            have hHa := b2i_1 c43
            subst ha0
            refine lv_iload hx hb dX7_node_46 (lv_at hl 0 rfl) ?_
            refine lv_iconst (v := 2) hx hb dX7_node_48 (by decide) ?_
            refine lv_icmp_lt (tgt := 64) hx hb dX7_node_49 (by decide) (fun c49 => absurd c49 (by decide)) (fun _ => ?_)
            refine lv_aload_n hx hb dX7_node_52 rfl (lv_at hl 1 rfl) ?_
            refine r_get (ci := 7) (v := .ref (ad 11)) (C := RX7) (T := TX7) (N := 4) hx hb hts inlX7 hown hK hs (0) (by omega) he00 rfl 1 (by decide) (hts _ w_fl_RX7_24) rfl dX7_node_53 ?_
            refine lv_iload hx hb dX7_node_56 (lv_at hl 5 rfl) ?_
            refine r_callViR (ci := 2) (As := [.int (b)]) hx hb hml hown hts hK hA hs (11) (by omega) he110 rfl rfl (c_X2_holds l G hNd0 (b)) (cwV 1 hts (tbV w_ml_RX7_76 w_im_yX2_holds w_se_yX2_holds w_ini_RX2 w_cd_yX2_holds) rfl rfl rfl (by decide +kernel) ⟨Nat.le_of_ble_eq_true rfl, Nat.le_of_ble_eq_true rfl⟩) rfl hl.1 rfl (Nat.le_of_ble_eq_true rfl) dX7_node_58 ⟨Nat.zero_le _, Nat.zero_le _⟩ (fun H locs hs => ?_)
            refine lv_if_eq (tgt := 82) hx hb dX7_node_61 (by decide) (fun c61 => ?_) (fun c61 => ?_)
            · skip
              refine lv_iconst (v := (-1)) hx hb dX7_node_82 (by decide) ?_
              refine r_iret (v := (-1)) (mc := bC s0.2 (fNode s0 (nI tg) (nI gl) (nI ka) b cv).2) (ms := bS s0.2 (fNode s0 (nI tg) (nI gl) (nI ka) b cv).2) hx hb hr hlk hs (Nat.zero_le _) (Nat.zero_le _) dX7_node_83 hQ ?_
              have hV : fNode s0 (nI tg) (nI gl) (nI ka) b cv = (-1, s0.2) := by rw [fNode, if_neg (by rw [fNdOK, decide_eq_true_eq]; exact fun q => absurd (q.2.2.2.1 (by rw [tN_nI (by omega), hP]; decide)) (by rw [b2i_0 c61]; decide))]
              rw [hV]
              exact fx_same hW rfl (b_self _).1 (b_self _).2
            · skip
              obtain ⟨kb, hb0, hb1, hb2⟩ := holds_ex (b2i_1 c61)
              have hHb := b2i_1 c61
              subst hb0
              refine lv_iload hx hb dX7_node_64 (lv_at hl 0 rfl) ?_
              refine lv_iconst (v := 3) hx hb dX7_node_66 (by decide) ?_
              refine lv_icmp_lt (tgt := 84) hx hb dX7_node_67 (by decide) (fun c67 => absurd c67 (by decide)) (fun _ => ?_)
              refine lv_aload_n hx hb dX7_node_70 rfl (lv_at hl 1 rfl) ?_
              refine r_get (ci := 7) (v := .ref (ad 11)) (C := RX7) (T := TX7) (N := 4) hx hb hts inlX7 hown hK hs (0) (by omega) he00 rfl 1 (by decide) (hts _ w_fl_RX7_24) rfl dX7_node_71 ?_
              refine lv_iload hx hb dX7_node_74 (lv_at hl 6 rfl) ?_
              refine r_callViR (ci := 2) (As := [.int (cv)]) hx hb hml hown hts hK hA hs (11) (by omega) he110 rfl rfl (c_X2_holds l G hNd0 (cv)) (cwV 1 hts (tbV w_ml_RX7_76 w_im_yX2_holds w_se_yX2_holds w_ini_RX2 w_cd_yX2_holds) rfl rfl rfl (by decide +kernel) ⟨Nat.le_of_ble_eq_true rfl, Nat.le_of_ble_eq_true rfl⟩) rfl hl.1 rfl (Nat.le_of_ble_eq_true rfl) dX7_node_76 ⟨Nat.zero_le _, Nat.zero_le _⟩ (fun H locs hs => ?_)
              refine lv_if_ne (tgt := 84) hx hb dX7_node_79 (by decide) (fun c79 => ?_) (fun c79 => ?_)
              · skip
                obtain ⟨kc, hc0, hc1, hc2⟩ := holds_ex (b2i_1 c79)
                have hHc := b2i_1 c79
                subst hc0
                have hV : fNode s0 (nI tg) (nI gl) (nI ka) (nI kb) (nI kc) = (nMakeR s0.2 (tg, gl, ka, kb, kc), nMake s0.2 (tg, gl, ka, kb, kc)) := by
                  have hr : fRow (nI tg) (nI gl) (nI ka) (nI kb) (nI kc) = (tg, gl, ka, kb, kc) := by rw [fRow, tN_nI (by omega), tN_nI (by omega), hP, if_pos (by decide), tN_nI (by omega), if_pos (by decide), tN_nI (by omega), if_pos (by decide), tN_nI (by omega)]
                  rw [fNode, if_pos (by rw [fNdOK, decide_eq_true_eq]; exact ⟨⟨nI_pos' (by omega), nI_le (by omega) (by decide)⟩, hHg, fun _ => hHa, fun _ => hHb, fun _ => hHc⟩), hr]
                refine lv_aload_n hx hb dX7_node_84 rfl (lv_at hl 1 rfl) ?_
                refine r_get (ci := 7) (v := .ref (ad 11)) (C := RX7) (T := TX7) (N := 4) hx hb hts inlX7 hown hK hs (0) (by omega) he00 rfl 1 (by decide) (hts _ w_fl_RX7_24) rfl dX7_node_85 ?_
                refine lv_iload_n hx hb dX7_node_88 rfl (lv_at hl 2 rfl) ?_
                refine lv_iload_n hx hb dX7_node_89 rfl (lv_at hl 3 rfl) ?_
                refine lv_iload hx hb dX7_node_90 (lv_at hl 0 rfl) ?_
                refine lv_iconst (v := 1) hx hb dX7_node_92 (by decide) ?_
                refine lv_icmp_lt (tgt := 100) hx hb dX7_node_93 (by decide) (fun c93 => absurd c93 (by decide)) (fun _ => ?_)
                refine lv_iload_n hx hb dX7_node_96 rfl (lv_at hl 4 rfl) ?_
                refine lv_goto (tgt := 101) hx hb dX7_node_97 (by decide) ?_
                refine lv_iload hx hb dX7_node_101 (lv_at hl 0 rfl) ?_
                refine lv_iconst (v := 2) hx hb dX7_node_103 (by decide) ?_
                refine lv_icmp_lt (tgt := 112) hx hb dX7_node_104 (by decide) (fun c104 => absurd c104 (by decide)) (fun _ => ?_)
                refine lv_iload hx hb dX7_node_107 (lv_at hl 5 rfl) ?_
                refine lv_goto (tgt := 113) hx hb dX7_node_109 (by decide) ?_
                refine lv_iload hx hb dX7_node_113 (lv_at hl 0 rfl) ?_
                refine lv_iconst (v := 3) hx hb dX7_node_115 (by decide) ?_
                refine lv_icmp_lt (tgt := 124) hx hb dX7_node_116 (by decide) (fun c116 => absurd c116 (by decide)) (fun _ => ?_)
                refine lv_iload hx hb dX7_node_119 (lv_at hl 6 rfl) ?_
                refine lv_goto (tgt := 125) hx hb dX7_node_121 (by decide) ?_
                refine r_callVi (ci := 2) (As := [.int (nI tg), .int (nI gl), .int (nI ka), .int (nI kb), .int (nI kc)]) hx hb hml hown hts hK hA hs (11) (by omega) he110 rfl rfl (c_X2_make l G hNd0 hOk0 h60 (a := tg) (b := gl) (c1 := ka) (d := kb) (e1 := kc) ⟨by show tg ≤ 9; omega, hgl1, hgl2, by show (if 1 ≤ rPartL.getD tg 0 then _ else _); rw [hP, if_pos (by decide)]; exact ⟨by show 1 ≤ ka; omega, by show ka < _; omega⟩, by show (if 2 ≤ rPartL.getD tg 0 then _ else _); rw [hP, if_pos (by decide)]; exact ⟨by show 1 ≤ kb; omega, by show kb < _; omega⟩, by show (if 3 ≤ rPartL.getD tg 0 then _ else _); rw [hP, if_pos (by decide)]; exact ⟨by show 1 ≤ kc; omega, by show kc < _; omega⟩⟩) (cwV 5 hts (tbV w_ml_RX7_77 w_im_yX2_make w_se_yX2_make w_ini_RX2 w_cd_yX2_make) rfl rfl rfl (by decide +kernel) ⟨Nat.le_of_ble_eq_true rfl, Nat.le_of_ble_eq_true rfl⟩) rfl hl.1 rfl (Nat.le_of_ble_eq_true rfl) dX7_node_125 ⟨by show 0 + nMC s0.2 (tg, gl, ka, kb, kc) ≤ bC s0.2 (fNode s0 (nI tg) (nI gl) (nI ka) (nI kb) (nI kc)).2; rw [hV]; show 0 + nMC s0.2 (tg, gl, ka, kb, kc) ≤ bC s0.2 (nMake s0.2 (tg, gl, ka, kb, kc)); have := nM_b s0.2 (tg, gl, ka, kb, kc); omega, by show 0 + nMS s0.2 (tg, gl, ka, kb, kc) ≤ bS s0.2 (fNode s0 (nI tg) (nI gl) (nI ka) (nI kb) (nI kc)).2; rw [hV]; show 0 + nMS s0.2 (tg, gl, ka, kb, kc) ≤ bS s0.2 (nMake s0.2 (tg, gl, ka, kb, kc)); have := nM_b s0.2 (tg, gl, ka, kb, kc); omega⟩ (fun r_16 ad_13 en_14 H locs hp_15 hs => ?_)
                obtain ⟨hr1, hd1, hO1, hf1⟩ := hp_15
                obtain ⟨hW1, hF1⟩ := Ps_nd hW hd1 hO1 (FrNd2 hf1) hRR0 hSL0
                rw [hr1]
                refine r_iret (v := nMakeR s0.2 (tg, gl, ka, kb, kc)) (mc := bC s0.2 (fNode s0 (nI tg) (nI gl) (nI ka) (nI kb) (nI kc)).2) (ms := bS s0.2 (fNode s0 (nI tg) (nI gl) (nI ka) (nI kb) (nI kc)).2) hx hb hr hlk hs (by show 0 + nMC s0.2 (tg, gl, ka, kb, kc) ≤ bC s0.2 (fNode s0 (nI tg) (nI gl) (nI ka) (nI kb) (nI kc)).2; rw [hV]; show 0 + nMC s0.2 (tg, gl, ka, kb, kc) ≤ bC s0.2 (nMake s0.2 (tg, gl, ka, kb, kc)); have := nM_b s0.2 (tg, gl, ka, kb, kc); omega) (by show 0 + nMS s0.2 (tg, gl, ka, kb, kc) ≤ bS s0.2 (fNode s0 (nI tg) (nI gl) (nI ka) (nI kb) (nI kc)).2; rw [hV]; show 0 + nMS s0.2 (tg, gl, ka, kb, kc) ≤ bS s0.2 (nMake s0.2 (tg, gl, ka, kb, kc)); have := nM_b s0.2 (tg, gl, ka, kb, kc); omega) dX7_node_128 hQ ?_
                exact fx_n hW1 hF1 hV
              · skip
                refine lv_iconst (v := (-1)) hx hb dX7_node_82 (by decide) ?_
                refine r_iret (v := (-1)) (mc := bC s0.2 (fNode s0 (nI tg) (nI gl) (nI ka) (nI kb) cv).2) (ms := bS s0.2 (fNode s0 (nI tg) (nI gl) (nI ka) (nI kb) cv).2) hx hb hr hlk hs (Nat.zero_le _) (Nat.zero_le _) dX7_node_83 hQ ?_
                have hV : fNode s0 (nI tg) (nI gl) (nI ka) (nI kb) cv = (-1, s0.2) := by rw [fNode, if_neg (by rw [fNdOK, decide_eq_true_eq]; exact fun q => absurd (q.2.2.2.2 (by rw [tN_nI (by omega), hP]; decide)) (by rw [b2i_0 c79]; decide))]
                rw [hV]
                exact fx_same hW rfl (b_self _).1 (b_self _).2
      · skip
        refine lv_iconst (v := (-1)) hx hb dX7_node_21 (by decide) ?_
        refine r_iret (v := (-1)) (mc := bC s0.2 (fNode s0 t x a b cv).2) (ms := bS s0.2 (fNode s0 t x a b cv).2) hx hb hr hlk hs (Nat.zero_le _) (Nat.zero_le _) dX7_node_22 hQ ?_
        have hV : fNode s0 t x a b cv = (-1, s0.2) := by rw [fNode, if_neg (by rw [fNdOK, decide_eq_true_eq]; exact fun q => absurd q.2.1 (by rw [b2i_0 c18]; decide))]
        rw [hV]
        exact fx_same hW rfl (b_self _).1 (b_self _).2

set_option maxHeartbeats 600000 in
set_option maxRecDepth 100000 in
theorem c_X8_rests (l : Launch) (G : rG) {n : Nat} {ad : Nat → Nat} {en : Nat → va_E} {ss ns : List Row} {c : Nat → Nat → Int32} {us : Int32} {ov : Int32} {dp : Int32} {cl : Int32}  (hM : MdW G n ad en ss ns c us ov dp cl) (x : Int32) : CI l G yX8_rests uX8_rests (2) (53) (0) (0) [.ref (ad 22), .int (x)] (n) (n) ad en (mxPost G n ad en (fRests (ss, ns) x) ss ns us ov dp cl) := by
  intro sz
  refine rMet (Qc := qI G (n) (mxPost G n ad en (fRests (ss, ns) x) ss ns us ov dp cl)) (cc := cX8_rests) (maxL := 4) (ret := (some .int)) (by decide) rfl (Nat.le_of_ble_eq_true rfl) ?_
  intro pP eE sS mM aA bB tT cC ls A Q hc hK hsz hA hs hl hQ
  obtain ⟨hx, hb, hr, hts, hown, hlk, hnm, hml⟩ := hc
  have hl : lv_has ls 4 [(0, .ref (ad 22)), (1, .int (x))] := hl
  have fr0 : ∀ k, k < 22 → en k = en k := fun _ _ => rfl
  obtain ⟨hn48, -, -, -, hok, hnk⟩ := id hM
  have h6 := hok.1
  have h8 := hnk.1
  
  refine lv_aload_n hx hb dX8_rests_0 rfl (lv_at hl 0 rfl) ?_
  refine lv_iload_n hx hb dX8_rests_1 rfl (lv_at hl 1 rfl) ?_
  refine r_callViR (ci := 8) (As := [.int (x)]) hx hb hml hown hts hK hA hs (22) (by omega) (md22 hM) rfl rfl (c_X8_isNode l G hM (x)) (cwV 1 hts (tbV w_ml_RX8_199 w_im_yX8_isNode w_se_yX8_isNode w_ini_RX8 w_cd_yX8_isNode) rfl rfl rfl (by decide +kernel) ⟨Nat.le_of_ble_eq_true rfl, Nat.le_of_ble_eq_true rfl⟩) rfl hl.1 rfl (Nat.le_of_ble_eq_true rfl) dX8_rests_2 ⟨Nat.zero_le _, Nat.zero_le _⟩ (fun H locs hs => ?_)
  refine lv_if_ne (tgt := 10) hx hb dX8_rests_5 (by decide) (fun c5 => ?_) (fun c5 => ?_)
  · skip
    obtain ⟨k, hk0, hk1, hk2⟩ := holds_ex (b2i_1 c5)
    have hHk := b2i_1 c5
    subst hk0
    have hRI : ∀ y, restB ss ns k y = true → 1 ≤ y ∧ y ≤ ss.length := fun y q => rest_in hnk k k (Nat.le_refl _) hk2 y q
    refine lv_aload_n hx hb dX8_rests_10 rfl (lv_at hl 0 rfl) ?_
    refine lv_iload_n hx hb dX8_rests_11 rfl (lv_at hl 1 rfl) ?_
    refine r_callVv (ci := 8) (As := [.int (nI k)]) hx hb hml hown hts hK hA hs (22) (by omega) (md22 hM) rfl rfl (c_X8_mark l G hM (k := k) ⟨hk1, hk2⟩) (cwV 1 hts (tbV w_ml_RX8_206 w_im_yX8_mark w_se_yX8_mark w_ini_RX8 w_cd_yX8_mark) rfl rfl rfl (by decide +kernel) ⟨Nat.le_of_ble_eq_true rfl, Nat.le_of_ble_eq_true rfl⟩) rfl hl.1 rfl (Nat.le_of_ble_eq_true rfl) dX8_rests_12 ⟨Nat.le_refl _, Nat.le_refl _⟩ (fun ad_2 en_3 H locs hp_4 hs => ?_)
    obtain ⟨⟨hAm_5, hFm_5⟩, c_1, hMm_5, hmk⟩ := hp_4
    subst hAm_5
    have fr_6 : ∀ k, k < 22 → en_3 k = en k := fun k hk => Eq.trans (hFm_5 k hk) (fr0 k hk)
    refine lv_iconst (v := 0) hx hb dX8_rests_15 (by decide) ?_
    refine r_topi (y := nI 0) (rfl) ?_
    refine lv_istore_n (lv' := [(2, .int (nI 0)), (0, .ref (ad 22)), (1, .int (nI k))]) hx hb dX8_rests_16 rfl hl (by decide) rfl (fun ls hl => ?_)
    refine lv_aload_n hx hb dX8_rests_17 rfl (lv_at hl 1 rfl) ?_
    refine lv_iload_n hx hb dX8_rests_18 rfl (lv_at hl 2 rfl) ?_
    refine lv_iconst (v := 0) hx hb dX8_rests_19 (by decide) ?_
    refine r_topi (y := nI 0) (rfl) ?_
    refine r_callVi (ci := 8) (As := [.int (nI k), .int (nI 0)]) hx hb hml hown hts hK hA hs (22) (by omega) (md22 hMm_5) rfl rfl (c_X8_next l G hMm_5 (k := k) ⟨hk1, hk2⟩ (z := 0) (by omega) hmk) (cwV 2 hts (tbV w_ml_RX8_218 w_im_yX8_next w_se_yX8_next w_ini_RX8 w_cd_yX8_next) rfl rfl rfl (by decide +kernel) ⟨Nat.le_of_ble_eq_true rfl, Nat.le_of_ble_eq_true rfl⟩) rfl hl.1 rfl (Nat.le_of_ble_eq_true rfl) dX8_rests_20 ⟨Nat.le_refl _, Nat.le_refl _⟩ (fun r_11 ad_8 en_9 H locs hp_10 hs => ?_)
    obtain ⟨⟨hAm_12, hFm_12⟩, hrm_12, c_7, hMm_12, hmk_13⟩ := hp_10
    subst hAm_12
    rw [hrm_12]
    have fr_14 : ∀ k, k < 22 → en_9 k = en k := fun k hk => Eq.trans (hFm_12 k hk) (fr_6 k hk)
    refine lv_istore_n (lv' := [(3, .int (nI (sLeast (restB ss ns k) (nI 0)))), (2, .int (nI 0)), (0, .ref (ad 22)), (1, .int (nI k))]) hx hb dX8_rests_23 rfl hl (by decide) rfl (fun ls hl => ?_)
    suffices LOOP24 : ∀ (fu24 : Nat) (t : Nat) (q : Nat) (c2 : Nat → Nat → Int32) (en2 : Nat → va_E) (H : Heap) (locs : List Loc) (ls : Array Slot), (q < 640) → (rsI (restB ss ns k) ss.length t q) → (MkI ns c2 k 0) → (MdW G n ad en2 ss ns c2 us ov dp cl) → (∀ k, k < 22 → en2 k = en k) → 641 - t < fu24 → rS G A sS.heap (n) ad en2 H locs → lv_has ls 4 [(0, .ref (ad 22)), (1, .int (nI k)), (2, .int (nI t)), (3, .int (nI q))] → W pP l eE (rRm (2) (53) (0) (0)) sS mM aA bB tT cC H locs (0) (0) Q (F0 mM 24 ls []) from LOOP24 _ (0) (sLeast (restB ss ns k) (nI 0)) (c_7) (en_9) _ _ _ (sLeast_lt) (rs_0 hRI h6) (hmk_13) (hMm_12) (fr_14) (Nat.lt_succ_self _) hs (lv_sub hl [2, 3, 1, 0] rfl)
    intro fu24
    induction fu24 with
    | zero => intro t q c2 en2 H locs ls hq6 hrs hm2 hM2 fr2 hfu; exact absurd hfu (Nat.not_lt_zero _)
    | succ fu24 ih24 => ?_
    intro t q c2 en2 H locs ls hq6 hrs hm2 hM2 fr2 hfu24 hs hl
    refine lv_iload_n hx hb dX8_rests_24 rfl (lv_at hl 3 rfl) ?_
    refine lv_if_le (tgt := 41) hx hb dX8_rests_25 (by decide) (fun c25 => ?_) (fun c25 => ?_)
    · skip
      have hq0 : q = 0 := nI_le0 (by omega) c25
      refine lv_iload_n hx hb dX8_rests_41 rfl (lv_at hl 2 rfl) ?_
      refine r_iret (v := nI t) (mc := 0) (ms := 0) hx hb hr hlk hs (Nat.le_refl _) (Nat.le_refl _) dX8_rests_42 hQ ?_
      exact ⟨⟨rfl, fr2⟩, by rw [fRests, if_pos hHk, tN_nI (by omega)]; obtain ⟨z0, z | z⟩ := hrs <;> first | (rw [z.2]; done) | (exact absurd hq0 (by omega)), _, hM2⟩
    · skip
      have hq0 : ¬ q = 0 := fun z => c25 (by rw [z]; decide)
      have hql : q ≤ ss.length ∧ t ≤ 640 := by
        obtain ⟨z0, z | z⟩ := hrs
        · exact absurd z.1 hq0
        · exact ⟨z.2.1, z0⟩
      refine lv_iinc (v := nI (t + 1)) (lv' := [(2, .int (nI (t + 1))), (0, .ref (ad 22)), (1, .int (nI k)), (3, .int (nI q))]) hx hb dX8_rests_28 hl (k := 2) rfl (nI_add t 1) (by decide) rfl (fun ls hl => ?_)
      refine lv_aload_n hx hb dX8_rests_31 rfl (lv_at hl 1 rfl) ?_
      refine lv_iload_n hx hb dX8_rests_32 rfl (lv_at hl 2 rfl) ?_
      refine lv_iload_n hx hb dX8_rests_33 rfl (lv_at hl 3 rfl) ?_
      refine r_callVi (ci := 8) (As := [.int (nI k), .int (nI q)]) hx hb hml hown hts hK hA hs (22) (by omega) (md22 hM2) rfl rfl (c_X8_next l G hM2 (k := k) ⟨hk1, hk2⟩ (z := q) (by omega) hm2) (cwV 2 hts (tbV w_ml_RX8_218 w_im_yX8_next w_se_yX8_next w_ini_RX8 w_cd_yX8_next) rfl rfl rfl (by decide +kernel) ⟨Nat.le_of_ble_eq_true rfl, Nat.le_of_ble_eq_true rfl⟩) rfl hl.1 rfl (Nat.le_of_ble_eq_true rfl) dX8_rests_34 ⟨Nat.le_refl _, Nat.le_refl _⟩ (fun r_19 ad_16 en_17 H locs hp_18 hs => ?_)
      obtain ⟨⟨hAm_20, hFm_20⟩, hrm_20, c_15, hMm_20, hmk_21⟩ := hp_18
      subst hAm_20
      rw [hrm_20]
      have fr_22 : ∀ k, k < 22 → en_17 k = en k := fun k hk => Eq.trans (hFm_20 k hk) (fr2 k hk)
      refine lv_istore_n (lv' := [(3, .int (nI (sLeast (restB ss ns k) (nI q)))), (2, .int (nI (t + 1))), (0, .ref (ad 22)), (1, .int (nI k))]) hx hb dX8_rests_37 rfl hl (by decide) rfl (fun ls hl => ?_)
      refine lv_goto (tgt := 24) hx hb dX8_rests_38 (by decide) ?_
      exact ih24 (t + 1) (sLeast (restB ss ns k) (nI q)) (c_15) (en_17) _ _ _ (sLeast_lt) (rs_s hRI h6 hrs hq0) (hmk_21) (hMm_20) (fr_22) (by omega) hs (lv_sub hl [2, 3, 1, 0] rfl)
  · skip
    refine lv_iconst (v := (-1)) hx hb dX8_rests_8 (by decide) ?_
    refine r_iret (v := (-1)) (mc := 0) (ms := 0) hx hb hr hlk hs (Nat.le_refl _) (Nat.le_refl _) dX8_rests_9 hQ ?_
    exact ⟨⟨rfl, fun _ _ => rfl⟩, by rw [fRests, if_neg (by rw [b2i_0 c5]; decide)], _, hM⟩

set_option maxHeartbeats 600000 in
set_option maxRecDepth 100000 in
theorem c_X8_restsOn (l : Launch) (G : rG) {n : Nat} {ad : Nat → Nat} {en : Nat → va_E} {ss ns : List Row} {c : Nat → Nat → Int32} {us : Int32} {ov : Int32} {dp : Int32} {cl : Int32}  (hM : MdW G n ad en ss ns c us ov dp cl) (x y : Int32) : CI l G yX8_restsOn uX8_restsOn (2) (53) (0) (0) [.ref (ad 22), .int (x), .int (y)] (n) (n) ad en (mxPost G n ad en (fRestOn (ss, ns) x y) ss ns us ov dp cl) := by
  intro sz
  refine rMet (Qc := qI G (n) (mxPost G n ad en (fRestOn (ss, ns) x y) ss ns us ov dp cl)) (cc := cX8_restsOn) (maxL := 4) (ret := (some .int)) (by decide) rfl (Nat.le_of_ble_eq_true rfl) ?_
  intro pP eE sS mM aA bB tT cC ls A Q hc hK hsz hA hs hl hQ
  obtain ⟨hx, hb, hr, hts, hown, hlk, hnm, hml⟩ := hc
  have hl : lv_has ls 4 [(0, .ref (ad 22)), (1, .int (x)), (2, .int (y))] := hl
  have fr0 : ∀ k, k < 22 → en k = en k := fun _ _ => rfl
  obtain ⟨hn48, -, -, -, hok, hnk⟩ := id hM
  have h6 := hok.1
  have h8 := hnk.1
  
  refine lv_aload_n hx hb dX8_restsOn_0 rfl (lv_at hl 0 rfl) ?_
  refine lv_iload_n hx hb dX8_restsOn_1 rfl (lv_at hl 1 rfl) ?_
  refine r_callViR (ci := 8) (As := [.int (x)]) hx hb hml hown hts hK hA hs (22) (by omega) (md22 hM) rfl rfl (c_X8_isNode l G hM (x)) (cwV 1 hts (tbV w_ml_RX8_199 w_im_yX8_isNode w_se_yX8_isNode w_ini_RX8 w_cd_yX8_isNode) rfl rfl rfl (by decide +kernel) ⟨Nat.le_of_ble_eq_true rfl, Nat.le_of_ble_eq_true rfl⟩) rfl hl.1 rfl (Nat.le_of_ble_eq_true rfl) dX8_restsOn_2 ⟨Nat.zero_le _, Nat.zero_le _⟩ (fun H locs hs => ?_)
  refine lv_if_ne (tgt := 10) hx hb dX8_restsOn_5 (by decide) (fun c5 => ?_) (fun c5 => ?_)
  · skip
    obtain ⟨k, hk0, hk1, hk2⟩ := holds_ex (b2i_1 c5)
    have hHk := b2i_1 c5
    subst hk0
    have hRI : ∀ y, restB ss ns k y = true → 1 ≤ y ∧ y ≤ ss.length := fun y q => rest_in hnk k k (Nat.le_refl _) hk2 y q
    refine lv_iload_n hx hb dX8_restsOn_10 rfl (lv_at hl 2 rfl) ?_
    refine lv_aload_n hx hb dX8_restsOn_11 rfl (lv_at hl 0 rfl) ?_
    refine r_get (ci := 8) (v := .int (nI ss.length)) (C := RX8) (T := TX8) (N := 31) hx hb hts inlX8 hown hK hs (22) (by omega) (md22 hM) rfl 3 (by decide) (hts _ w_fl_RX8_88) rfl dX8_restsOn_12 ?_
    refine lv_icmp_lt (tgt := 21) hx hb dX8_restsOn_15 (by decide) (fun c15 => ?_) (fun c15 => ?_)
    · skip
      refine lv_aload_n hx hb dX8_restsOn_21 rfl (lv_at hl 0 rfl) ?_
      refine lv_iload_n hx hb dX8_restsOn_22 rfl (lv_at hl 1 rfl) ?_
      refine r_callVv (ci := 8) (As := [.int (nI k)]) hx hb hml hown hts hK hA hs (22) (by omega) (md22 hM) rfl rfl (c_X8_mark l G hM (k := k) ⟨hk1, hk2⟩) (cwV 1 hts (tbV w_ml_RX8_206 w_im_yX8_mark w_se_yX8_mark w_ini_RX8 w_cd_yX8_mark) rfl rfl rfl (by decide +kernel) ⟨Nat.le_of_ble_eq_true rfl, Nat.le_of_ble_eq_true rfl⟩) rfl hl.1 rfl (Nat.le_of_ble_eq_true rfl) dX8_restsOn_23 ⟨Nat.le_refl _, Nat.le_refl _⟩ (fun ad_2 en_3 H locs hp_4 hs => ?_)
      obtain ⟨⟨hAm_5, hFm_5⟩, c_1, hMm_5, hmk⟩ := hp_4
      subst hAm_5
      have fr_6 : ∀ k, k < 22 → en_3 k = en k := fun k hk => Eq.trans (hFm_5 k hk) (fr0 k hk)
      refine lv_aload_n hx hb dX8_restsOn_26 rfl (lv_at hl 0 rfl) ?_
      refine lv_iload_n hx hb dX8_restsOn_27 rfl (lv_at hl 1 rfl) ?_
      refine lv_iload_n hx hb dX8_restsOn_28 rfl (lv_at hl 2 rfl) ?_
      refine lv_if_ge (tgt := 36) hx hb dX8_restsOn_29 (by decide) (fun c29 => ?_) (fun c29 => ?_)
      · skip
        obtain ⟨z, hz0, hz1⟩ := pos_ex (fun q => absurd c29 (Int32.not_le.mpr q))
        subst hz0
        have hz6 : z < ss.length := (nI_ltI (by omega) (by omega)).mp c15
        refine lv_iload_n hx hb dX8_restsOn_36 rfl (lv_at hl 2 rfl) ?_
        refine r_topi (y := nI z) (rfl) ?_
        refine r_callVi (ci := 8) (As := [.int (nI k), .int (nI z)]) hx hb hml hown hts hK hA hs (22) (by omega) (md22 hMm_5) rfl rfl (c_X8_next l G hMm_5 (k := k) ⟨hk1, hk2⟩ (z := z) (by omega) hmk) (cwV 2 hts (tbV w_ml_RX8_218 w_im_yX8_next w_se_yX8_next w_ini_RX8 w_cd_yX8_next) rfl rfl rfl (by decide +kernel) ⟨Nat.le_of_ble_eq_true rfl, Nat.le_of_ble_eq_true rfl⟩) rfl hl.1 rfl (Nat.le_of_ble_eq_true rfl) dX8_restsOn_37 ⟨Nat.le_refl _, Nat.le_refl _⟩ (fun r_11 ad_8 en_9 H locs hp_10 hs => ?_)
        obtain ⟨⟨hAm_12, hFm_12⟩, hrm_12, c_7, hMm_12, hmk_13⟩ := hp_10
        subst hAm_12
        rw [hrm_12]
        have fr_14 : ∀ k, k < 22 → en_9 k = en k := fun k hk => Eq.trans (hFm_12 k hk) (fr_6 k hk)
        refine lv_istore_n (lv' := [(3, .int (nI (sLeast (restB ss ns k) (nI z)))), (0, .ref (ad 22)), (1, .int (nI k)), (2, .int (nI z))]) hx hb dX8_restsOn_40 rfl hl (by decide) rfl (fun ls hl => ?_)
        refine lv_iload_n hx hb dX8_restsOn_41 rfl (lv_at hl 0 rfl) ?_
        refine lv_if_le (tgt := 49) hx hb dX8_restsOn_42 (by decide) (fun c42 => ?_) (fun c42 => ?_)
        · skip
          have hq0 : sLeast (restB ss ns k) (nI z) = 0 := nI_le0 (by have := sLeast_lt (P := restB ss ns k) (x := nI z); omega) c42
          refine lv_bipush (v := (-2)) hx hb dX8_restsOn_49 (by decide) ?_
          refine r_iret (v := (-2)) (mc := 0) (ms := 0) hx hb hr hlk hs (Nat.le_refl _) (Nat.le_refl _) dX8_restsOn_51 hQ ?_
          exact ⟨⟨rfl, fr_14⟩, by rw [fRestOn, if_pos hHk, tN_nI (by omega)]; rw [if_pos hq0], _, hMm_12⟩
        · skip
          have hq0 : ¬ sLeast (restB ss ns k) (nI z) = 0 := fun z => c42 (by rw [z]; decide)
          refine lv_iload_n hx hb dX8_restsOn_45 rfl (lv_at hl 0 rfl) ?_
          refine lv_goto (tgt := 51) hx hb dX8_restsOn_46 (by decide) ?_
          refine r_iret (v := nI (sLeast (restB ss ns k) (nI z))) (mc := 0) (ms := 0) hx hb hr hlk hs (Nat.le_refl _) (Nat.le_refl _) dX8_restsOn_51 hQ ?_
          exact ⟨⟨rfl, fr_14⟩, by rw [fRestOn, if_pos hHk, tN_nI (by omega)]; rw [if_neg hq0], _, hMm_12⟩
      · skip
        refine lv_iconst (v := 0) hx hb dX8_restsOn_32 (by decide) ?_
        refine lv_goto (tgt := 37) hx hb dX8_restsOn_33 (by decide) ?_
        refine r_topi (y := nI 0) (rfl) ?_
        refine r_callVi (ci := 8) (As := [.int (nI k), .int (nI 0)]) hx hb hml hown hts hK hA hs (22) (by omega) (md22 hMm_5) rfl rfl (c_X8_next l G hMm_5 (k := k) ⟨hk1, hk2⟩ (z := 0) (by omega) hmk) (cwV 2 hts (tbV w_ml_RX8_218 w_im_yX8_next w_se_yX8_next w_ini_RX8 w_cd_yX8_next) rfl rfl rfl (by decide +kernel) ⟨Nat.le_of_ble_eq_true rfl, Nat.le_of_ble_eq_true rfl⟩) rfl hl.1 rfl (Nat.le_of_ble_eq_true rfl) dX8_restsOn_37 ⟨Nat.le_refl _, Nat.le_refl _⟩ (fun r_19 ad_16 en_17 H locs hp_18 hs => ?_)
        obtain ⟨⟨hAm_20, hFm_20⟩, hrm_20, c_15, hMm_20, hmk_21⟩ := hp_18
        subst hAm_20
        rw [hrm_20]
        have fr_22 : ∀ k, k < 22 → en_17 k = en k := fun k hk => Eq.trans (hFm_20 k hk) (fr_6 k hk)
        refine lv_istore_n (lv' := [(3, .int (nI (sLeast (restB ss ns k) (nI 0)))), (0, .ref (ad 22)), (1, .int (nI k)), (2, .int (y))]) hx hb dX8_restsOn_40 rfl hl (by decide) rfl (fun ls hl => ?_)
        refine lv_iload_n hx hb dX8_restsOn_41 rfl (lv_at hl 0 rfl) ?_
        refine lv_if_le (tgt := 49) hx hb dX8_restsOn_42 (by decide) (fun c42 => ?_) (fun c42 => ?_)
        · skip
          have hq0 : sLeast (restB ss ns k) (nI 0) = 0 := nI_le0 (by have := sLeast_lt (P := restB ss ns k) (x := nI 0); omega) c42
          refine lv_bipush (v := (-2)) hx hb dX8_restsOn_49 (by decide) ?_
          refine r_iret (v := (-2)) (mc := 0) (ms := 0) hx hb hr hlk hs (Nat.le_refl _) (Nat.le_refl _) dX8_restsOn_51 hQ ?_
          exact ⟨⟨rfl, fr_22⟩, by rw [fRestOn, if_pos hHk, tN_nI (by omega)]; rw [ls_neg (Int32.not_le.mp c29), if_pos hq0], _, hMm_20⟩
        · skip
          have hq0 : ¬ sLeast (restB ss ns k) (nI 0) = 0 := fun z => c42 (by rw [z]; decide)
          refine lv_iload_n hx hb dX8_restsOn_45 rfl (lv_at hl 0 rfl) ?_
          refine lv_goto (tgt := 51) hx hb dX8_restsOn_46 (by decide) ?_
          refine r_iret (v := nI (sLeast (restB ss ns k) (nI 0))) (mc := 0) (ms := 0) hx hb hr hlk hs (Nat.le_refl _) (Nat.le_refl _) dX8_restsOn_51 hQ ?_
          exact ⟨⟨rfl, fr_22⟩, by rw [fRestOn, if_pos hHk, tN_nI (by omega)]; rw [ls_neg (Int32.not_le.mp c29), if_neg hq0], _, hMm_20⟩
    · skip
      refine lv_bipush (v := (-2)) hx hb dX8_restsOn_18 (by decide) ?_
      refine r_iret (v := (-2)) (mc := 0) (ms := 0) hx hb hr hlk hs (Nat.le_refl _) (Nat.le_refl _) dX8_restsOn_20 hQ ?_
      exact ⟨⟨rfl, fr0⟩, by rw [fRestOn, if_pos hHk, tN_nI (by omega)]; rw [if_pos (ls_big hRI h6 c15)], _, hM⟩
  · skip
    refine lv_iconst (v := (-1)) hx hb dX8_restsOn_8 (by decide) ?_
    refine r_iret (v := (-1)) (mc := 0) (ms := 0) hx hb hr hlk hs (Nat.le_refl _) (Nat.le_refl _) dX8_restsOn_9 hQ ?_
    exact ⟨⟨rfl, fun _ _ => rfl⟩, by rw [fRestOn, if_neg (by rw [b2i_0 c5]; decide)], _, hM⟩

set_option maxHeartbeats 600000 in
set_option maxRecDepth 100000 in
theorem c_X8_proves (l : Launch) (G : rG) {n : Nat} {ad : Nat → Nat} {en : Nat → va_E} {ss ns : List Row} {c : Nat → Nat → Int32} {us : Int32} {ov : Int32} {dp : Int32} {cl : Int32}  (hM : MdW G n ad en ss ns c us ov dp cl) (x : Int32) : CI l G yX8_proves uX8_proves (3) (71) (0) (0) [.ref (ad 22), .int (x)] (n) (n) ad en (mxPost G n ad en (fProves (ss, ns) x) ss ns us ov dp cl) := by
  intro sz
  refine rMet (Qc := qI G (n) (mxPost G n ad en (fProves (ss, ns) x) ss ns us ov dp cl)) (cc := cX8_proves) (maxL := 2) (ret := (some .int)) (by decide) rfl (Nat.le_of_ble_eq_true rfl) ?_
  intro pP eE sS mM aA bB tT cC ls A Q hc hK hsz hA hs hl hQ
  obtain ⟨hx, hb, hr, hts, hown, hlk, hnm, hml⟩ := hc
  have hl : lv_has ls 2 [(0, .ref (ad 22)), (1, .int (x))] := hl
  have fr0 : ∀ k, k < 22 → en k = en k := fun _ _ => rfl
  obtain ⟨hn48, -, -, -, hok, hnk⟩ := id hM
  have h6 := hok.1
  have h8 := hnk.1
  
  refine lv_aload_n hx hb dX8_proves_0 rfl (lv_at hl 0 rfl) ?_
  refine lv_iload_n hx hb dX8_proves_1 rfl (lv_at hl 1 rfl) ?_
  refine r_callViR (ci := 8) (As := [.int (x)]) hx hb hml hown hts hK hA hs (22) (by omega) (md22 hM) rfl rfl (c_X8_isNode l G hM (x)) (cwV 1 hts (tbV w_ml_RX8_199 w_im_yX8_isNode w_se_yX8_isNode w_ini_RX8 w_cd_yX8_isNode) rfl rfl rfl (by decide +kernel) ⟨Nat.le_of_ble_eq_true rfl, Nat.le_of_ble_eq_true rfl⟩) rfl hl.1 rfl (Nat.le_of_ble_eq_true rfl) dX8_proves_2 ⟨Nat.zero_le _, Nat.zero_le _⟩ (fun H locs hs => ?_)
  refine lv_if_ne (tgt := 10) hx hb dX8_proves_5 (by decide) (fun c5 => ?_) (fun c5 => ?_)
  · skip
    obtain ⟨k, hk0, hk1, hk2⟩ := holds_ex (b2i_1 c5)
    have hHk := b2i_1 c5
    subst hk0
    have hRI : ∀ y, restB ss ns k y = true → 1 ≤ y ∧ y ≤ ss.length := fun y q => rest_in hnk k k (Nat.le_refl _) hk2 y q
    refine lv_aload_n hx hb dX8_proves_10 rfl (lv_at hl 0 rfl) ?_
    refine lv_iload_n hx hb dX8_proves_11 rfl (lv_at hl 1 rfl) ?_
    refine r_callVi (ci := 8) (As := [.int (nI k)]) hx hb hml hown hts hK hA hs (22) (by omega) (md22 hM) rfl rfl (c_X8_isWell l G hM (k := k) ⟨hk1, hk2⟩ ) (cwV 1 hts (tbV w_ml_RX8_212 w_im_yX8_isWell w_se_yX8_isWell w_ini_RX8 w_cd_yX8_isWell) rfl rfl rfl (by decide +kernel) ⟨Nat.le_of_ble_eq_true rfl, Nat.le_of_ble_eq_true rfl⟩) rfl hl.1 rfl (Nat.le_of_ble_eq_true rfl) dX8_proves_12 ⟨Nat.le_refl _, Nat.le_refl _⟩ (fun r_5 ad_2 en_3 H locs hp_4 hs => ?_)
    obtain ⟨⟨hAm_6, hFm_6⟩, hrm_6, c_1, hMm_6, hmk_7⟩ := hp_4
    subst hAm_6
    rw [hrm_6]
    have fr_8 : ∀ k, k < 22 → en_3 k = en k := fun k hk => Eq.trans (hFm_6 k hk) (fr0 k hk)
    refine lv_if_eq (tgt := 31) hx hb dX8_proves_15 (by decide) (fun c15 => ?_) (fun c15 => ?_)
    · skip
      refine lv_iconst (v := 0) hx hb dX8_proves_31 (by decide) ?_
      refine r_iret (v := 0) (mc := 0) (ms := 0) hx hb hr hlk hs (Nat.le_refl _) (Nat.le_refl _) dX8_proves_32 hQ ?_
      exact ⟨⟨rfl, fr_8⟩, by rw [fProves, if_pos hHk, tN_nI (by omega)]; rw [show wellB ss ns k = false from b2i_0 c15]; rfl, _, hMm_6⟩
    · skip
      refine lv_aload_n hx hb dX8_proves_18 rfl (lv_at hl 0 rfl) ?_
      refine lv_iload_n hx hb dX8_proves_19 rfl (lv_at hl 1 rfl) ?_
      refine lv_iconst (v := 0) hx hb dX8_proves_20 (by decide) ?_
      refine r_topi (y := nI 0) (rfl) ?_
      refine r_callVi (ci := 8) (As := [.int (nI k), .int (nI 0)]) hx hb hml hown hts hK hA hs (22) (by omega) (md22 hMm_6) rfl rfl (c_X8_next l G hMm_6 (k := k) ⟨hk1, hk2⟩ (z := 0) (by omega) hmk_7) (cwV 2 hts (tbV w_ml_RX8_218 w_im_yX8_next w_se_yX8_next w_ini_RX8 w_cd_yX8_next) rfl rfl rfl (by decide +kernel) ⟨Nat.le_of_ble_eq_true rfl, Nat.le_of_ble_eq_true rfl⟩) rfl hl.1 rfl (Nat.le_of_ble_eq_true rfl) dX8_proves_21 ⟨Nat.le_refl _, Nat.le_refl _⟩ (fun r_13 ad_10 en_11 H locs hp_12 hs => ?_)
      obtain ⟨⟨hAm_14, hFm_14⟩, hrm_14, c_9, hMm_14, hmk_15⟩ := hp_12
      subst hAm_14
      rw [hrm_14]
      have fr_16 : ∀ k, k < 22 → en_11 k = en k := fun k hk => Eq.trans (hFm_14 k hk) (fr_8 k hk)
      refine lv_if_ne (tgt := 31) hx hb dX8_proves_24 (by decide) (fun c24 => ?_) (fun c24 => ?_)
      · skip
        refine lv_iconst (v := 0) hx hb dX8_proves_31 (by decide) ?_
        refine r_iret (v := 0) (mc := 0) (ms := 0) hx hb hr hlk hs (Nat.le_refl _) (Nat.le_refl _) dX8_proves_32 hQ ?_
        exact ⟨⟨rfl, fr_16⟩, by rw [fProves, if_pos hHk, tN_nI (by omega)]; rw [show wellB ss ns k = true from b2i_1 c15, decide_eq_false (fun q => c24 (by rw [(rs_c hRI h6).mpr q]; rfl))]; rfl, _, hMm_14⟩
      · skip
        refine lv_iconst (v := 1) hx hb dX8_proves_27 (by decide) ?_
        refine lv_goto (tgt := 32) hx hb dX8_proves_28 (by decide) ?_
        refine r_iret (v := 1) (mc := 0) (ms := 0) hx hb hr hlk hs (Nat.le_refl _) (Nat.le_refl _) dX8_proves_32 hQ ?_
        exact ⟨⟨rfl, fr_16⟩, by rw [fProves, if_pos hHk, tN_nI (by omega)]; rw [show wellB ss ns k = true from b2i_1 c15, decide_eq_true ((rs_c hRI h6).mp (z_of (by have := sLeast_lt (P := restB ss ns k) (x := nI 0); omega) c24))]; rfl, _, hMm_14⟩
  · skip
    refine lv_iconst (v := (-1)) hx hb dX8_proves_8 (by decide) ?_
    refine r_iret (v := (-1)) (mc := 0) (ms := 0) hx hb hr hlk hs (Nat.le_refl _) (Nat.le_refl _) dX8_proves_9 hQ ?_
    exact ⟨⟨rfl, fun _ _ => rfl⟩, by rw [fProves, if_neg (by rw [b2i_0 c5]; decide)], _, hM⟩

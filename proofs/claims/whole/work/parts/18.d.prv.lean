def clF (f : Nat → Int32) (m : Nat) : Nat → Int32 := fun j => if j < m then 0 else f j
theorem clF_0 (f : Nat → Int32) : clF f 0 = f := by funext j; unfold clF; rw [if_neg (by omega)]
theorem clF_s (f : Nat → Int32) (m : Nat) : upd (clF f m) m 0 = clF f (m + 1) := by
  funext j
  unfold upd clF
  by_cases e : j = m
  · rw [if_pos e, if_pos (by omega)]
  · rw [if_neg e]
    by_cases q : j < m
    · rw [if_pos q, if_pos (by omega)]
    · rw [if_neg q, if_neg (by omega)]
theorem clF_row {c : Nat → Nat → Int32} : RowM (va_up c 31 (clF (c 31) 600)) 0 (fun _ => false) := by
  intro g hg
  rw [va_up_self]
  unfold clF
  rw [if_pos (by omega)]; rfl
def pvPost (G : rG) (n : Nat) (ad : Nat → Nat) (en : Nat → va_E) (V : Int32) (s1 : NSt) (u : Nat) : Int32 → (Nat → Nat) → (Nat → va_E) → Prop := fun r ad1 en1 => mFr ad en ad1 en1 ∧ r = V ∧ ∃ c ov dp cl, MdW G n ad en1 s1.1 s1.2 c (nI u) ov dp cl
set_option maxHeartbeats 600000 in
set_option maxRecDepth 100000 in
theorem c_X8_prove (l : Launch) (G : rG) {n : Nat} {ad : Nat → Nat} {en : Nat → va_E} {s0 : NSt} {c : Nat → Nat → Int32} {ov : Int32} {dp : Int32} {cl : Int32} {us : Nat} (hM : MdW G n ad en s0.1 s0.2 c (nI us) ov dp cl) (dv : Nat → Int32) (x y : Int32) : CI l G yX8_prove uX8_prove (7) (206) (0) (0) [.ref (ad 22), .int (x), .int (y)] (n) (n) ad en (pvPost G n ad en (fProve dv s0 x y).1 (fProve dv s0 x y).2 (fUsed dv s0 x y us)) := by
  intro sz
  refine rMet (Qc := qI G (n) (pvPost G n ad en (fProve dv s0 x y).1 (fProve dv s0 x y).2 (fUsed dv s0 x y us))) (cc := cX8_prove) (maxL := 4) (ret := (some .int)) (by decide) rfl (Nat.le_of_ble_eq_true rfl) ?_
  intro pP eE sS mM aA bB tT cC ls A Q hc hK hsz hA hs hl hQ
  obtain ⟨hx, hb, hr, hts, hown, hlk, hnm, hml⟩ := hc
  have hl : lv_has ls 4 [(0, .ref (ad 22)), (1, .int (x)), (2, .int (y))] := hl
  have fr0 : ∀ k, k < 22 → en k = en k := fun _ _ => rfl
  obtain ⟨hn48, -, -, -, hok, hnk⟩ := id hM
  have h6 := hok.1
  have h8 := hnk.1
  
  refine lv_aload_n hx hb dX8_prove_0 rfl (lv_at hl 0 rfl) ?_
  refine lv_iload_n hx hb dX8_prove_1 rfl (lv_at hl 1 rfl) ?_
  refine r_callViR (ci := 8) (As := [.int (x)]) hx hb hml hown hts hK hA hs (22) (by omega) (md22 hM) rfl rfl (c_X8_isStatement l G hM (x)) (cwV 1 hts (tbV w_ml_RX8_99 w_im_yX8_isStatement w_se_yX8_isStatement w_ini_RX8 w_cd_yX8_isStatement) rfl rfl rfl (by decide +kernel) ⟨Nat.le_of_ble_eq_true rfl, Nat.le_of_ble_eq_true rfl⟩) rfl hl.1 rfl (Nat.le_of_ble_eq_true rfl) dX8_prove_2 ⟨Nat.zero_le _, Nat.zero_le _⟩ (fun H locs hs => ?_)
  refine lv_if_eq (tgt := 19) hx hb dX8_prove_5 (by decide) (fun c5 => ?_) (fun c5 => ?_)
  · skip
    refine lv_iconst (v := (-1)) hx hb dX8_prove_19 (by decide) ?_
    refine r_iret (v := (-1)) (mc := 0) (ms := 0) hx hb hr hlk hs (Nat.le_refl _) (Nat.le_refl _) dX8_prove_20 hQ ?_
    have hb0 : ¬ fPvOK s0 x y = true := by rw [fPvOK, decide_eq_true_eq]; exact fun q => absurd q.1 (by rw [b2i_0 c5]; decide)
    rw [show fProve dv s0 x y = (-1, s0) from if_neg hb0, show fUsed dv s0 x y us = us from if_neg hb0]
    exact ⟨⟨rfl, fun _ _ => rfl⟩, rfl, _, _, _, _, hM⟩
  · skip
    refine lv_iload_n hx hb dX8_prove_8 rfl (lv_at hl 2 rfl) ?_
    refine lv_if_lt (tgt := 19) hx hb dX8_prove_9 (by decide) (fun c9 => ?_) (fun c9 => ?_)
    · skip
      refine lv_iconst (v := (-1)) hx hb dX8_prove_19 (by decide) ?_
      refine r_iret (v := (-1)) (mc := 0) (ms := 0) hx hb hr hlk hs (Nat.le_refl _) (Nat.le_refl _) dX8_prove_20 hQ ?_
      have hb0 : ¬ fPvOK s0 x y = true := by rw [fPvOK, decide_eq_true_eq]; exact fun q => absurd q.2.1 (Int32.not_le.mpr c9)
      rw [show fProve dv s0 x y = (-1, s0) from if_neg hb0, show fUsed dv s0 x y us = us from if_neg hb0]
      exact ⟨⟨rfl, fun _ _ => rfl⟩, rfl, _, _, _, _, hM⟩
    · skip
      refine lv_iload_n hx hb dX8_prove_12 rfl (lv_at hl 2 rfl) ?_
      refine lv_sipush (v := 3000) hx hb dX8_prove_13 (by decide) ?_
      refine lv_icmp_le (tgt := 21) hx hb dX8_prove_16 (by decide) (fun c16 => ?_) (fun c16 => ?_)
      · skip
        obtain ⟨k, hk0, hk1, hk2⟩ := holds_ex (b2i_1 c5)
        have hHk := b2i_1 c5
        obtain ⟨fu, hfu0, hfu1⟩ := pos_ex c9
        have hy0 := Int32.not_lt.mp c9
        subst hk0 hfu0
        have hfu3 : fu ≤ 3000 := (nI_leI hfu1 (by decide)).mp c16
        have hpv : fPvOK s0 (nI k) (nI fu) = true := by rw [fPvOK, decide_eq_true_eq]; exact ⟨hHk, hy0, c16⟩
        have hFL : fLook dv s0 (nI k) (nI fu) = look fu 80 (fun _ => false) k (s0.1, 0, dv) := by rw [fLook, tN_nI (by omega), tN_nI (by omega)]
        refine lv_aload_n hx hb dX8_prove_21 rfl (lv_at hl 0 rfl) ?_
        refine lv_iconst (v := 0) hx hb dX8_prove_22 (by decide) ?_
        refine r_put (ci := 8) (v := .int (0)) (ty := .int) (C := RX8) (T := TX8) (N := 31) (fs' := [.ref (ad 23), .ref (ad 24), .ref (ad 25), .int (nI s0.1.length), .ref (ad 26), .ref (ad 27), .ref (ad 28), .ref (ad 29), .ref (ad 30), .int (nI s0.2.length), .int (nI us), .int (0), .ref (ad 31), .ref (ad 32), .ref (ad 33), .ref (ad 34), .ref (ad 35), .int (dp), .ref (ad 36), .ref (ad 37), .ref (ad 38), .ref (ad 39), .ref (ad 40), .int (cl), .ref (ad 41), .ref (ad 42), .ref (ad 43), .ref (ad 44), .ref (ad 45), .ref (ad 46), .ref (ad 47)]) hx hb hts inlX8 tyX8 tyX8_ok nmX8 hown hK hs (22) (by omega) (md22 hM) rfl 11 (by decide) (hts _ w_fl_RX8_106) (Or.inl rfl) (by decide +kernel) rfl rfl (Nat.le_of_ble_eq_true rfl) rfl dX8_prove_23 (fun H locs en_1 hen_1 hs => ?_)
        have hM_2 : MdW G n ad en_1 s0.1 s0.2 c (nI us) 0 dp cl := md_pu hM hen_1
        have fr_3 : ∀ k, k < 22 → en_1 k = en k := fun k hk => Eq.trans (by rw [hen_1]; exact va_up_ne _ _ (by omega)) (fr0 k hk)
        refine lv_aload_n hx hb dX8_prove_26 rfl (lv_at hl 0 rfl) ?_
        refine lv_iconst (v := 0) hx hb dX8_prove_27 (by decide) ?_
        refine r_topi (y := nI 0) (rfl) ?_
        refine r_put (ci := 8) (v := .int (nI 0)) (ty := .int) (C := RX8) (T := TX8) (N := 31) (fs' := [.ref (ad 23), .ref (ad 24), .ref (ad 25), .int (nI s0.1.length), .ref (ad 26), .ref (ad 27), .ref (ad 28), .ref (ad 29), .ref (ad 30), .int (nI s0.2.length), .int (nI 0), .int (0), .ref (ad 31), .ref (ad 32), .ref (ad 33), .ref (ad 34), .ref (ad 35), .int (dp), .ref (ad 36), .ref (ad 37), .ref (ad 38), .ref (ad 39), .ref (ad 40), .int (cl), .ref (ad 41), .ref (ad 42), .ref (ad 43), .ref (ad 44), .ref (ad 45), .ref (ad 46), .ref (ad 47)]) hx hb hts inlX8 tyX8 tyX8_ok nmX8 hown hK hs (22) (by omega) (md22 hM_2) rfl 10 (by decide) (hts _ w_fl_RX8_112) (Or.inl rfl) (by decide +kernel) rfl rfl (Nat.le_of_ble_eq_true rfl) rfl dX8_prove_28 (fun H locs en_4 hen_4 hs => ?_)
        have hM_5 : MdW G n ad en_4 s0.1 s0.2 c (nI 0) 0 dp cl := md_pu hM_2 hen_4
        have fr_6 : ∀ k, k < 22 → en_4 k = en k := fun k hk => Eq.trans (by rw [hen_4]; exact va_up_ne _ _ (by omega)) (fr_3 k hk)
        refine lv_aload_n hx hb dX8_prove_31 rfl (lv_at hl 0 rfl) ?_
        refine lv_iconst (v := 0) hx hb dX8_prove_32 (by decide) ?_
        refine r_topi (y := nI 0) (rfl) ?_
        refine r_put (ci := 8) (v := .int (nI 0)) (ty := .int) (C := RX8) (T := TX8) (N := 31) (fs' := [.ref (ad 23), .ref (ad 24), .ref (ad 25), .int (nI s0.1.length), .ref (ad 26), .ref (ad 27), .ref (ad 28), .ref (ad 29), .ref (ad 30), .int (nI s0.2.length), .int (nI 0), .int (0), .ref (ad 31), .ref (ad 32), .ref (ad 33), .ref (ad 34), .ref (ad 35), .int (nI 0), .ref (ad 36), .ref (ad 37), .ref (ad 38), .ref (ad 39), .ref (ad 40), .int (cl), .ref (ad 41), .ref (ad 42), .ref (ad 43), .ref (ad 44), .ref (ad 45), .ref (ad 46), .ref (ad 47)]) hx hb hts inlX8 tyX8 tyX8_ok nmX8 hown hK hs (22) (by omega) (md22 hM_5) rfl 17 (by decide) (hts _ w_fl_RX8_109) (Or.inl rfl) (by decide +kernel) rfl rfl (Nat.le_of_ble_eq_true rfl) rfl dX8_prove_33 (fun H locs en_7 hen_7 hs => ?_)
        have hM_8 : MdW G n ad en_7 s0.1 s0.2 c (nI 0) 0 (nI 0) cl := md_pu hM_5 hen_7
        have fr_9 : ∀ k, k < 22 → en_7 k = en k := fun k hk => Eq.trans (by rw [hen_7]; exact va_up_ne _ _ (by omega)) (fr_6 k hk)
        refine lv_aload_n hx hb dX8_prove_36 rfl (lv_at hl 0 rfl) ?_
        refine lv_iconst (v := 0) hx hb dX8_prove_37 (by decide) ?_
        refine r_put (ci := 8) (v := .int (0)) (ty := .int) (C := RX8) (T := TX8) (N := 31) (fs' := [.ref (ad 23), .ref (ad 24), .ref (ad 25), .int (nI s0.1.length), .ref (ad 26), .ref (ad 27), .ref (ad 28), .ref (ad 29), .ref (ad 30), .int (nI s0.2.length), .int (nI 0), .int (0), .ref (ad 31), .ref (ad 32), .ref (ad 33), .ref (ad 34), .ref (ad 35), .int (nI 0), .ref (ad 36), .ref (ad 37), .ref (ad 38), .ref (ad 39), .ref (ad 40), .int (0), .ref (ad 41), .ref (ad 42), .ref (ad 43), .ref (ad 44), .ref (ad 45), .ref (ad 46), .ref (ad 47)]) hx hb hts inlX8 tyX8 tyX8_ok nmX8 hown hK hs (22) (by omega) (md22 hM_8) rfl 23 (by decide) (hts _ w_fl_RX8_115) (Or.inl rfl) (by decide +kernel) rfl rfl (Nat.le_of_ble_eq_true rfl) rfl dX8_prove_38 (fun H locs en_10 hen_10 hs => ?_)
        have hM_11 : MdW G n ad en_10 s0.1 s0.2 c (nI 0) 0 (nI 0) 0 := md_pu hM_8 hen_10
        have fr_12 : ∀ k, k < 22 → en_10 k = en k := fun k hk => Eq.trans (by rw [hen_10]; exact va_up_ne _ _ (by omega)) (fr_9 k hk)
        refine lv_iconst (v := 0) hx hb dX8_prove_41 (by decide) ?_
        refine r_topi (y := nI 0) (rfl) ?_
        refine lv_istore_n (lv' := [(3, .int (nI 0)), (0, .ref (ad 22)), (1, .int (nI k)), (2, .int (nI fu))]) hx hb dX8_prove_42 rfl hl (by decide) rfl (fun ls hl => ?_)
        suffices LOOP43 : ∀ (fu43 : Nat) (m : Nat) (c2 : Nat → Nat → Int32) (en2 : Nat → va_E) (H : Heap) (locs : List Loc) (ls : Array Slot), (m ≤ 600) → (c2 = va_up c 31 (clF (c 31) m)) → (MdW G n ad en2 s0.1 s0.2 c2 (nI 0) 0 (nI 0) 0) → (∀ k, k < 22 → en2 k = en k) → 601 - m < fu43 → rS G A sS.heap (n) ad en2 H locs → lv_has ls 4 [(0, .ref (ad 22)), (1, .int (nI k)), (2, .int (nI fu)), (3, .int (nI m))] → W pP l eE (rRm (7) (206) (0) (0)) sS mM aA bB tT cC H locs (0) (0) Q (F0 mM 43 ls []) from LOOP43 _ (0) (c) (en_10) _ _ _ (by decide) (by rw [clF_0, va_up_id _ _ rfl]) (hM_11) (fr_12) (Nat.lt_succ_self _) hs (lv_sub hl [1, 2, 3, 0] rfl)
        intro fu43
        induction fu43 with
        | zero => intro m c2 en2 H locs ls hm hc2 hM2 fr2 hfu; exact absurd hfu (Nat.not_lt_zero _)
        | succ fu43 ih43 => ?_
        intro m c2 en2 H locs ls hm hc2 hM2 fr2 hfu43 hs hl
        refine lv_iload_n hx hb dX8_prove_43 rfl (lv_at hl 3 rfl) ?_
        refine lv_sipush (v := 600) hx hb dX8_prove_44 (by decide) ?_
        refine lv_icmp_ge (tgt := 63) hx hb dX8_prove_47 (by decide) (fun c47 => ?_) (fun c47 => ?_)
        · skip
          have hm6 : m = 600 := by have := (nI_leI (a := 600) (by decide) (by omega)).mp c47; omega
          have hR0 : RowM c2 0 (fun _ => false) := by rw [hc2, hm6]; exact clF_row
          refine lv_aload_n hx hb dX8_prove_63 rfl (lv_at hl 0 rfl) ?_
          refine lv_iload_n hx hb dX8_prove_64 rfl (lv_at hl 1 rfl) ?_
          refine r_callVv (ci := 8) (As := [.int (nI k)]) hx hb hml hown hts hK hA hs (22) (by omega) (md22 hM2) rfl rfl (c_X8_open l G hM2 (gl := k) (by decide) hR0) (cwV 1 hts (tbV w_ml_RX8_133 w_im_yX8_open w_se_yX8_open w_ini_RX8 w_cd_yX8_open) rfl rfl rfl (by decide +kernel) ⟨Nat.le_of_ble_eq_true rfl, Nat.le_of_ble_eq_true rfl⟩) rfl hl.1 rfl (Nat.le_of_ble_eq_true rfl) dX8_prove_65 ⟨Nat.le_refl _, Nat.le_refl _⟩ (fun ad_14 en_15 H locs hp_16 hs => ?_)
          obtain ⟨c_13, ec_13⟩ : ∃ z, z = cOpn c2 0 (nI k) := ⟨_, rfl⟩
          rw [← ec_13] at hp_16
          obtain ⟨⟨hAm_17, hFm_17⟩, hMm_17⟩ := hp_16
          subst hAm_17
          have fr_18 : ∀ k, k < 22 → en_15 k = en k := fun k hk => Eq.trans (hFm_17 k hk) (fr2 k hk)
          refine lv_aload_n hx hb dX8_prove_68 rfl (lv_at hl 0 rfl) ?_
          refine lv_iload_n hx hb dX8_prove_69 rfl (lv_at hl 2 rfl) ?_
          have hRn : RowM c_13 (0 + 1) (fun _ => false) := by rw [ec_13]; exact opn_row hR0
          have hwn : c_13 32 (0 + 1) = nI k := by rw [ec_13]; exact opn_w
          have KEY : ∀ (σ0 : St8) (en3 : Nat → va_E) (H : Heap) (locs : List Loc) (ls : Array Slot), CS c_13 0 0 fu 0 s0.1 (fun _ => false) k σ0 → (∀ k, k < 22 → en3 k = en k) → MdS G n ad en3 s0.2 σ0 → rS G A sS.heap (n) ad en3 H locs → lv_has ls 4 [(0, .ref (ad 22)), (1, .int (nI k)), (2, .int (nI fu))] → W pP l eE (rRm (7) (206) (0) (0)) sS mM aA bB tT cC H locs 0 0 Q (F0 mM 73 ls []) := by
            intro σ0 en3 H locs ls hcs fr3 hM3 hs hl
            obtain ⟨K, hKd⟩ : ∃ K : St8 → Prop, K = fun σ => ∀ (en4 : Nat → va_E) (H : Heap) (locs : List Loc) (ls : Array Slot), (∀ k, k < 22 → en4 k = en k) → MdS G n ad en4 s0.2 σ → rS G A sS.heap (n) ad en4 H locs → lv_has ls 4 [(0, .ref (ad 22)), (1, .int (nI k)), (2, .int (nI fu))] → W pP l eE (rRm (7) (206) (0) (0)) sS mM aA bB tT cC H locs 0 0 Q (F0 mM 73 ls []) := ⟨_, rfl⟩
            have hKst : Kst l G n ad s0.2 fu K := by
              rintro ⟨ssA, cA, usA, ovA, dpA, clA⟩ P ⟨hov, d, hd, hdp⟩ htc hnx
              have hov : ovA = 0 := hov
              have hdp : dpA = nI d := hdp
              subst hov hdp
              rw [hKd]
              intro en4 H locs ls fr4 hM4 hs hl
              obtain ⟨post, hC, hpost⟩ := htc en4 hM4
              have hM5 : MdW G n ad en4 ssA s0.2 cA usA 0 (nI d) clA := hM4
              obtain ⟨hn48, -, -, -, hok4, hnk4⟩ := id hM5
              refine lv_aload_n hx hb dX8_prove_73 rfl (lv_at hl 0 rfl) ?_
              refine r_get (ci := 8) (v := .int (nI d)) (C := RX8) (T := TX8) (N := 31) hx hb hts inlX8 hown hK hs (22) (by omega) (md22 hM5) rfl 17 (by decide) (hts _ w_fl_RX8_109) rfl dX8_prove_74 ?_
              refine lv_if_le (tgt := 95) hx hb dX8_prove_77 (by decide) (fun c77 => absurd c77 (fun q => by have := nI_le0 (by omega) q; omega)) (fun _ => ?_)
              refine lv_aload_n hx hb dX8_prove_80 rfl (lv_at hl 0 rfl) ?_
              refine r_get (ci := 8) (v := .int (0)) (C := RX8) (T := TX8) (N := 31) hx hb hts inlX8 hown hK hs (22) (by omega) (md22 hM5) rfl 11 (by decide) (hts _ w_fl_RX8_106) rfl dX8_prove_81 ?_
              refine lv_if_ne (tgt := 95) hx hb dX8_prove_84 (by decide) (fun c84 => absurd (by decide) c84) (fun _ => ?_)
              refine lv_aload_n hx hb dX8_prove_87 rfl (lv_at hl 0 rfl) ?_
              refine lv_iload_n hx hb dX8_prove_88 rfl (lv_at hl 2 rfl) ?_
              refine r_callVv (ci := 8) (As := [.int (nI fu)]) hx hb hml hown hts hK hA hs (22) (by omega) (md22 hM5) rfl rfl hC (cwV 1 hts (tbV w_ml_RX8_161 w_im_yX8_turn w_se_yX8_turn w_ini_RX8 w_cd_yX8_turn) rfl rfl rfl (by decide +kernel) ⟨Nat.le_of_ble_eq_true rfl, Nat.le_of_ble_eq_true rfl⟩) rfl hl.1 rfl (Nat.le_of_ble_eq_true rfl) dX8_prove_89 ⟨Nat.le_refl _, Nat.le_refl _⟩ (fun ad_19 en_20 H locs hp_21 hs => ?_)
              obtain ⟨⟨hA9, hF9⟩, σ1, hPσ, hMσ⟩ := hpost _ _ hp_21
              subst hA9
              have fr_22 : ∀ k, k < 22 → en_20 k = en k := fun k hk => Eq.trans (hF9 k hk) (fr4 k hk)
              refine lv_goto (tgt := 73) hx hb dX8_prove_92 (by decide) ?_
              have z := hnx σ1 hPσ
              rw [hKd] at z
              exact z en_20 H locs ls fr_22 hMσ hs (lv_sub hl [0, 1, 2] rfl)
            have hLQ := look_ok hfu3 80 (fun _ => false) k (s0.1, 0, dv) hok (fun y q => by cases q) ⟨hk1, hk2⟩ (Nat.zero_le _)
            obtain ⟨a1, ss3, sp3, dv3, hP1⟩ : ∃ a b c e, look fu 80 (fun _ => false) k (s0.1, 0, dv) = (a, (b, c, e)) := ⟨_, _, _, _, rfl⟩
            have hFL2 := hFL.trans hP1
            rw [hP1] at hLQ
            have hU : fUsed dv s0 (nI k) (nI fu) us = (if a1 = 3002 then fu else sp3) := by rw [fUsed, if_pos hpv, hFL2, tN_nI (by omega)]
            have hfin := lm_all hKst hfu3 80 0 0 s0.1 (fun _ => false) k c_13 0 dv (by decide) (Nat.zero_le _) hok (fun y q => by cases q) ⟨hk1, hk2⟩ ?_ σ0 hcs
            · rw [hKd] at hfin
              exact hfin en3 H locs ls fr3 hM3 hs hl
            rw [hP1]
            rintro σ (⟨ha, c1, dp, cl, rfl⟩ | ⟨ha, c1, usx, dp, cl, rfl⟩ | ⟨ha, c1, rfl, hkx⟩ | ⟨ha, ha3, c1, rfl, hkx, hrx⟩)
            · skip
              have ha : a1 = 3001 := ha
              subst ha
              rw [hKd]
              intro en4 H locs ls fr4 hM4 hs hl
              have hM5 : MdW G n ad en4 ss3 s0.2 c1 (nI sp3) ((-3)) dp cl := hM4
              obtain ⟨hn48, -, -, -, hok4, hnk4⟩ := id hM5
              have hV : fProve dv s0 (nI k) (nI fu) = (anI (3001), (ss3, s0.2)) := by rw [fProve, if_pos hpv, hFL2, fLay, if_pos (show (3001 : Nat) = 0 ∨ 3000 < 3001 by decide)]
              refine lv_aload_n hx hb dX8_prove_73 rfl (lv_at hl 0 rfl) ?_
              refine r_get (ci := 8) (v := .int (dp)) (C := RX8) (T := TX8) (N := 31) hx hb hts inlX8 hown hK hs (22) (by omega) (md22 hM5) rfl 17 (by decide) (hts _ w_fl_RX8_109) rfl dX8_prove_74 ?_
              refine lv_if_le (tgt := 95) hx hb dX8_prove_77 (by decide) (fun c77 => ?_) (fun c77 => ?_)
              · skip
                refine lv_aload_n hx hb dX8_prove_95 rfl (lv_at hl 0 rfl) ?_
                refine r_get (ci := 8) (v := .int ((-3))) (C := RX8) (T := TX8) (N := 31) hx hb hts inlX8 hown hK hs (22) (by omega) (md22 hM5) rfl 11 (by decide) (hts _ w_fl_RX8_106) rfl dX8_prove_96 ?_
                refine lv_bipush (v := (-4)) hx hb dX8_prove_99 (by decide) ?_
                refine lv_icmp_ne (tgt := 109) hx hb dX8_prove_101 (by decide) (fun _ => ?_) (fun c101 => absurd c101 (by decide))
                refine lv_aload_n hx hb dX8_prove_109 rfl (lv_at hl 0 rfl) ?_
                refine r_get (ci := 8) (v := .int ((-3))) (C := RX8) (T := TX8) (N := 31) hx hb hts inlX8 hown hK hs (22) (by omega) (md22 hM5) rfl 11 (by decide) (hts _ w_fl_RX8_106) rfl dX8_prove_110 ?_
                refine lv_if_eq (tgt := 121) hx hb dX8_prove_113 (by decide) (fun c113 => absurd c113 (by decide)) (fun _ => ?_)
                refine lv_aload_n hx hb dX8_prove_116 rfl (lv_at hl 0 rfl) ?_
                refine r_get (ci := 8) (v := .int ((-3))) (C := RX8) (T := TX8) (N := 31) hx hb hts inlX8 hown hK hs (22) (by omega) (md22 hM5) rfl 11 (by decide) (hts _ w_fl_RX8_106) rfl dX8_prove_117 ?_
                refine r_iret (v := (-3)) (mc := 0) (ms := 0) hx hb hr hlk hs (Nat.le_refl _) (Nat.le_refl _) dX8_prove_120 hQ ?_
                rw [hV, hU]
                exact ⟨⟨rfl, fr4⟩, rfl, _, _, _, _, hM5⟩
              · skip
                refine lv_aload_n hx hb dX8_prove_80 rfl (lv_at hl 0 rfl) ?_
                refine r_get (ci := 8) (v := .int ((-3))) (C := RX8) (T := TX8) (N := 31) hx hb hts inlX8 hown hK hs (22) (by omega) (md22 hM5) rfl 11 (by decide) (hts _ w_fl_RX8_106) rfl dX8_prove_81 ?_
                refine lv_if_ne (tgt := 95) hx hb dX8_prove_84 (by decide) (fun _ => ?_) (fun c84 => absurd c84 (by decide))
                refine lv_aload_n hx hb dX8_prove_95 rfl (lv_at hl 0 rfl) ?_
                refine r_get (ci := 8) (v := .int ((-3))) (C := RX8) (T := TX8) (N := 31) hx hb hts inlX8 hown hK hs (22) (by omega) (md22 hM5) rfl 11 (by decide) (hts _ w_fl_RX8_106) rfl dX8_prove_96 ?_
                refine lv_bipush (v := (-4)) hx hb dX8_prove_99 (by decide) ?_
                refine lv_icmp_ne (tgt := 109) hx hb dX8_prove_101 (by decide) (fun _ => ?_) (fun c101 => absurd c101 (by decide))
                refine lv_aload_n hx hb dX8_prove_109 rfl (lv_at hl 0 rfl) ?_
                refine r_get (ci := 8) (v := .int ((-3))) (C := RX8) (T := TX8) (N := 31) hx hb hts inlX8 hown hK hs (22) (by omega) (md22 hM5) rfl 11 (by decide) (hts _ w_fl_RX8_106) rfl dX8_prove_110 ?_
                refine lv_if_eq (tgt := 121) hx hb dX8_prove_113 (by decide) (fun c113 => absurd c113 (by decide)) (fun _ => ?_)
                refine lv_aload_n hx hb dX8_prove_116 rfl (lv_at hl 0 rfl) ?_
                refine r_get (ci := 8) (v := .int ((-3))) (C := RX8) (T := TX8) (N := 31) hx hb hts inlX8 hown hK hs (22) (by omega) (md22 hM5) rfl 11 (by decide) (hts _ w_fl_RX8_106) rfl dX8_prove_117 ?_
                refine r_iret (v := (-3)) (mc := 0) (ms := 0) hx hb hr hlk hs (Nat.le_refl _) (Nat.le_refl _) dX8_prove_120 hQ ?_
                rw [hV, hU]
                exact ⟨⟨rfl, fr4⟩, rfl, _, _, _, _, hM5⟩
            · skip
              have ha : a1 = 3002 := ha
              subst ha
              rw [hKd]
              intro en4 H locs ls fr4 hM4 hs hl
              have hM5 : MdW G n ad en4 ss3 s0.2 c1 usx ((-4)) dp cl := hM4
              obtain ⟨hn48, -, -, -, hok4, hnk4⟩ := id hM5
              have hV : fProve dv s0 (nI k) (nI fu) = (anI (3002), (ss3, s0.2)) := by rw [fProve, if_pos hpv, hFL2, fLay, if_pos (show (3002 : Nat) = 0 ∨ 3000 < 3002 by decide)]
              refine lv_aload_n hx hb dX8_prove_73 rfl (lv_at hl 0 rfl) ?_
              refine r_get (ci := 8) (v := .int (dp)) (C := RX8) (T := TX8) (N := 31) hx hb hts inlX8 hown hK hs (22) (by omega) (md22 hM5) rfl 17 (by decide) (hts _ w_fl_RX8_109) rfl dX8_prove_74 ?_
              refine lv_if_le (tgt := 95) hx hb dX8_prove_77 (by decide) (fun c77 => ?_) (fun c77 => ?_)
              · skip
                refine lv_aload_n hx hb dX8_prove_95 rfl (lv_at hl 0 rfl) ?_
                refine r_get (ci := 8) (v := .int ((-4))) (C := RX8) (T := TX8) (N := 31) hx hb hts inlX8 hown hK hs (22) (by omega) (md22 hM5) rfl 11 (by decide) (hts _ w_fl_RX8_106) rfl dX8_prove_96 ?_
                refine lv_bipush (v := (-4)) hx hb dX8_prove_99 (by decide) ?_
                refine lv_icmp_ne (tgt := 109) hx hb dX8_prove_101 (by decide) (fun c101 => absurd (by decide) c101) (fun _ => ?_)
                refine lv_aload_n hx hb dX8_prove_104 rfl (lv_at hl 0 rfl) ?_
                refine lv_iload_n hx hb dX8_prove_105 rfl (lv_at hl 2 rfl) ?_
                refine r_put (ci := 8) (v := .int (nI fu)) (ty := .int) (C := RX8) (T := TX8) (N := 31) (fs' := [.ref (ad 23), .ref (ad 24), .ref (ad 25), .int (nI ss3.length), .ref (ad 26), .ref (ad 27), .ref (ad 28), .ref (ad 29), .ref (ad 30), .int (nI s0.2.length), .int (nI fu), .int ((-4)), .ref (ad 31), .ref (ad 32), .ref (ad 33), .ref (ad 34), .ref (ad 35), .int (dp), .ref (ad 36), .ref (ad 37), .ref (ad 38), .ref (ad 39), .ref (ad 40), .int (cl), .ref (ad 41), .ref (ad 42), .ref (ad 43), .ref (ad 44), .ref (ad 45), .ref (ad 46), .ref (ad 47)]) hx hb hts inlX8 tyX8 tyX8_ok nmX8 hown hK hs (22) (by omega) (md22 hM5) rfl 10 (by decide) (hts _ w_fl_RX8_112) (Or.inl rfl) (by decide +kernel) rfl rfl (Nat.le_of_ble_eq_true rfl) rfl dX8_prove_106 (fun H locs en_23 hen_23 hs => ?_)
                have hM_24 : MdW G n ad en_23 ss3 s0.2 c1 (nI fu) ((-4)) dp cl := md_pu hM5 hen_23
                have fr_25 : ∀ k, k < 22 → en_23 k = en k := fun k hk => Eq.trans (by rw [hen_23]; exact va_up_ne _ _ (by omega)) (fr4 k hk)
                refine lv_aload_n hx hb dX8_prove_109 rfl (lv_at hl 0 rfl) ?_
                refine r_get (ci := 8) (v := .int ((-4))) (C := RX8) (T := TX8) (N := 31) hx hb hts inlX8 hown hK hs (22) (by omega) (md22 hM_24) rfl 11 (by decide) (hts _ w_fl_RX8_106) rfl dX8_prove_110 ?_
                refine lv_if_eq (tgt := 121) hx hb dX8_prove_113 (by decide) (fun c113 => absurd c113 (by decide)) (fun _ => ?_)
                refine lv_aload_n hx hb dX8_prove_116 rfl (lv_at hl 0 rfl) ?_
                refine r_get (ci := 8) (v := .int ((-4))) (C := RX8) (T := TX8) (N := 31) hx hb hts inlX8 hown hK hs (22) (by omega) (md22 hM_24) rfl 11 (by decide) (hts _ w_fl_RX8_106) rfl dX8_prove_117 ?_
                refine r_iret (v := (-4)) (mc := 0) (ms := 0) hx hb hr hlk hs (Nat.le_refl _) (Nat.le_refl _) dX8_prove_120 hQ ?_
                rw [hV, hU]
                exact ⟨⟨rfl, fr_25⟩, rfl, _, _, _, _, hM_24⟩
              · skip
                refine lv_aload_n hx hb dX8_prove_80 rfl (lv_at hl 0 rfl) ?_
                refine r_get (ci := 8) (v := .int ((-4))) (C := RX8) (T := TX8) (N := 31) hx hb hts inlX8 hown hK hs (22) (by omega) (md22 hM5) rfl 11 (by decide) (hts _ w_fl_RX8_106) rfl dX8_prove_81 ?_
                refine lv_if_ne (tgt := 95) hx hb dX8_prove_84 (by decide) (fun _ => ?_) (fun c84 => absurd c84 (by decide))
                refine lv_aload_n hx hb dX8_prove_95 rfl (lv_at hl 0 rfl) ?_
                refine r_get (ci := 8) (v := .int ((-4))) (C := RX8) (T := TX8) (N := 31) hx hb hts inlX8 hown hK hs (22) (by omega) (md22 hM5) rfl 11 (by decide) (hts _ w_fl_RX8_106) rfl dX8_prove_96 ?_
                refine lv_bipush (v := (-4)) hx hb dX8_prove_99 (by decide) ?_
                refine lv_icmp_ne (tgt := 109) hx hb dX8_prove_101 (by decide) (fun c101 => absurd (by decide) c101) (fun _ => ?_)
                refine lv_aload_n hx hb dX8_prove_104 rfl (lv_at hl 0 rfl) ?_
                refine lv_iload_n hx hb dX8_prove_105 rfl (lv_at hl 2 rfl) ?_
                refine r_put (ci := 8) (v := .int (nI fu)) (ty := .int) (C := RX8) (T := TX8) (N := 31) (fs' := [.ref (ad 23), .ref (ad 24), .ref (ad 25), .int (nI ss3.length), .ref (ad 26), .ref (ad 27), .ref (ad 28), .ref (ad 29), .ref (ad 30), .int (nI s0.2.length), .int (nI fu), .int ((-4)), .ref (ad 31), .ref (ad 32), .ref (ad 33), .ref (ad 34), .ref (ad 35), .int (dp), .ref (ad 36), .ref (ad 37), .ref (ad 38), .ref (ad 39), .ref (ad 40), .int (cl), .ref (ad 41), .ref (ad 42), .ref (ad 43), .ref (ad 44), .ref (ad 45), .ref (ad 46), .ref (ad 47)]) hx hb hts inlX8 tyX8 tyX8_ok nmX8 hown hK hs (22) (by omega) (md22 hM5) rfl 10 (by decide) (hts _ w_fl_RX8_112) (Or.inl rfl) (by decide +kernel) rfl rfl (Nat.le_of_ble_eq_true rfl) rfl dX8_prove_106 (fun H locs en_26 hen_26 hs => ?_)
                have hM_27 : MdW G n ad en_26 ss3 s0.2 c1 (nI fu) ((-4)) dp cl := md_pu hM5 hen_26
                have fr_28 : ∀ k, k < 22 → en_26 k = en k := fun k hk => Eq.trans (by rw [hen_26]; exact va_up_ne _ _ (by omega)) (fr4 k hk)
                refine lv_aload_n hx hb dX8_prove_109 rfl (lv_at hl 0 rfl) ?_
                refine r_get (ci := 8) (v := .int ((-4))) (C := RX8) (T := TX8) (N := 31) hx hb hts inlX8 hown hK hs (22) (by omega) (md22 hM_27) rfl 11 (by decide) (hts _ w_fl_RX8_106) rfl dX8_prove_110 ?_
                refine lv_if_eq (tgt := 121) hx hb dX8_prove_113 (by decide) (fun c113 => absurd c113 (by decide)) (fun _ => ?_)
                refine lv_aload_n hx hb dX8_prove_116 rfl (lv_at hl 0 rfl) ?_
                refine r_get (ci := 8) (v := .int ((-4))) (C := RX8) (T := TX8) (N := 31) hx hb hts inlX8 hown hK hs (22) (by omega) (md22 hM_27) rfl 11 (by decide) (hts _ w_fl_RX8_106) rfl dX8_prove_117 ?_
                refine r_iret (v := (-4)) (mc := 0) (ms := 0) hx hb hr hlk hs (Nat.le_refl _) (Nat.le_refl _) dX8_prove_120 hQ ?_
                rw [hV, hU]
                exact ⟨⟨rfl, fr_28⟩, rfl, _, _, _, _, hM_27⟩
            · skip
              have ha : a1 = 0 := ha
              subst ha
              rw [hKd]
              intro en4 H locs ls fr4 hM4 hs hl
              have hM5 : MdW G n ad en4 ss3 s0.2 c1 (nI sp3) 0 (nI 0) 0 := hM4
              obtain ⟨hn48, -, -, -, hok4, hnk4⟩ := id hM5
              have hV : fProve dv s0 (nI k) (nI fu) = (anI (0), (ss3, s0.2)) := by rw [fProve, if_pos hpv, hFL2, fLay, if_pos (show (0 : Nat) = 0 ∨ 3000 < 0 by decide)]
              refine lv_aload_n hx hb dX8_prove_73 rfl (lv_at hl 0 rfl) ?_
              refine r_get (ci := 8) (v := .int (nI 0)) (C := RX8) (T := TX8) (N := 31) hx hb hts inlX8 hown hK hs (22) (by omega) (md22 hM5) rfl 17 (by decide) (hts _ w_fl_RX8_109) rfl dX8_prove_74 ?_
              refine lv_if_le (tgt := 95) hx hb dX8_prove_77 (by decide) (fun _ => ?_) (fun c77 => absurd (by decide) c77)
              refine lv_aload_n hx hb dX8_prove_95 rfl (lv_at hl 0 rfl) ?_
              refine r_get (ci := 8) (v := .int (0)) (C := RX8) (T := TX8) (N := 31) hx hb hts inlX8 hown hK hs (22) (by omega) (md22 hM5) rfl 11 (by decide) (hts _ w_fl_RX8_106) rfl dX8_prove_96 ?_
              refine lv_bipush (v := (-4)) hx hb dX8_prove_99 (by decide) ?_
              refine lv_icmp_ne (tgt := 109) hx hb dX8_prove_101 (by decide) (fun _ => ?_) (fun c101 => absurd c101 (by decide))
              refine lv_aload_n hx hb dX8_prove_109 rfl (lv_at hl 0 rfl) ?_
              refine r_get (ci := 8) (v := .int (0)) (C := RX8) (T := TX8) (N := 31) hx hb hts inlX8 hown hK hs (22) (by omega) (md22 hM5) rfl 11 (by decide) (hts _ w_fl_RX8_106) rfl dX8_prove_110 ?_
              refine lv_if_eq (tgt := 121) hx hb dX8_prove_113 (by decide) (fun _ => ?_) (fun c113 => absurd (by decide) c113)
              refine lv_aload_n hx hb dX8_prove_121 rfl (lv_at hl 0 rfl) ?_
              refine r_get (ci := 8) (v := .int (0)) (C := RX8) (T := TX8) (N := 31) hx hb hts inlX8 hown hK hs (22) (by omega) (md22 hM5) rfl 23 (by decide) (hts _ w_fl_RX8_115) rfl dX8_prove_122 ?_
              refine lv_if_ne (tgt := 133) hx hb dX8_prove_125 (by decide) (fun c125 => absurd (by decide) c125) (fun _ => ?_)
              refine lv_bipush (v := (-2)) hx hb dX8_prove_128 (by decide) ?_
              refine lv_goto (tgt := 141) hx hb dX8_prove_130 (by decide) ?_
              refine r_iret (v := (-2)) (mc := 0) (ms := 0) hx hb hr hlk hs (Nat.le_refl _) (Nat.le_refl _) dX8_prove_141 hQ ?_
              rw [hV, hU]
              exact ⟨⟨rfl, fr4⟩, rfl, _, _, _, _, hM5⟩
            · skip
              have ha : a1 = 0 + 1 := ha
              subst ha
              rw [hKd]
              intro en4 H locs ls fr4 hM4 hs hl
              have hM5 : MdW G n ad en4 ss3 s0.2 c1 (nI sp3) 0 (nI 0) (nI (0 + 1)) := hM4
              obtain ⟨hn48, -, -, -, hok4, hnk4⟩ := id hM5
              have hwf : wfD ss3 dv3 80 0 sp3 1 k := by
                rcases hLQ.2.2 with q | q | q | ⟨q, q2⟩
                · exact absurd (show (0 + 1 : Nat) = 0 from q) (by decide)
                · exact absurd (show (0 + 1 : Nat) = 3001 from q) (by decide)
                · exact absurd (show (0 + 1 : Nat) = 3002 from q) (by decide)
                · exact q2
              have hsp : sp3 ≤ 3000 := by have := hLQ.1.2.2.2; have : sp3 ≤ fu := this; omega
              have hV : fProve dv s0 (nI k) (nI fu) = (aR (bld dv3 80 1 (ss3, s0.2)).1, (bld dv3 80 1 (ss3, s0.2)).2) := by rw [fProve, if_pos hpv, hFL2, fLay, if_neg (show ¬ ((0 + 1 : Nat) = 0 ∨ 3000 < 0 + 1) by decide)]
              refine lv_aload_n hx hb dX8_prove_73 rfl (lv_at hl 0 rfl) ?_
              refine r_get (ci := 8) (v := .int (nI 0)) (C := RX8) (T := TX8) (N := 31) hx hb hts inlX8 hown hK hs (22) (by omega) (md22 hM5) rfl 17 (by decide) (hts _ w_fl_RX8_109) rfl dX8_prove_74 ?_
              refine lv_if_le (tgt := 95) hx hb dX8_prove_77 (by decide) (fun _ => ?_) (fun c77 => absurd (by decide) c77)
              refine lv_aload_n hx hb dX8_prove_95 rfl (lv_at hl 0 rfl) ?_
              refine r_get (ci := 8) (v := .int (0)) (C := RX8) (T := TX8) (N := 31) hx hb hts inlX8 hown hK hs (22) (by omega) (md22 hM5) rfl 11 (by decide) (hts _ w_fl_RX8_106) rfl dX8_prove_96 ?_
              refine lv_bipush (v := (-4)) hx hb dX8_prove_99 (by decide) ?_
              refine lv_icmp_ne (tgt := 109) hx hb dX8_prove_101 (by decide) (fun _ => ?_) (fun c101 => absurd c101 (by decide))
              refine lv_aload_n hx hb dX8_prove_109 rfl (lv_at hl 0 rfl) ?_
              refine r_get (ci := 8) (v := .int (0)) (C := RX8) (T := TX8) (N := 31) hx hb hts inlX8 hown hK hs (22) (by omega) (md22 hM5) rfl 11 (by decide) (hts _ w_fl_RX8_106) rfl dX8_prove_110 ?_
              refine lv_if_eq (tgt := 121) hx hb dX8_prove_113 (by decide) (fun _ => ?_) (fun c113 => absurd (by decide) c113)
              refine lv_aload_n hx hb dX8_prove_121 rfl (lv_at hl 0 rfl) ?_
              refine r_get (ci := 8) (v := .int (nI (0 + 1))) (C := RX8) (T := TX8) (N := 31) hx hb hts inlX8 hown hK hs (22) (by omega) (md22 hM5) rfl 23 (by decide) (hts _ w_fl_RX8_115) rfl dX8_prove_122 ?_
              refine lv_if_ne (tgt := 133) hx hb dX8_prove_125 (by decide) (fun _ => ?_) (fun c125 => absurd c125 (by decide))
              refine lv_aload_n hx hb dX8_prove_133 rfl (lv_at hl 0 rfl) ?_
              refine lv_aload_n hx hb dX8_prove_134 rfl (lv_at hl 0 rfl) ?_
              refine r_get (ci := 8) (v := .int (nI (0 + 1))) (C := RX8) (T := TX8) (N := 31) hx hb hts inlX8 hown hK hs (22) (by omega) (md22 hM5) rfl 23 (by decide) (hts _ w_fl_RX8_115) rfl dX8_prove_135 ?_
              refine r_callVi (ci := 8) (As := [.int (nI (0 + 1))]) hx hb hml hown hts hK hA hs (22) (by omega) (md22 hM5) rfl rfl (c_X8_lay l G (s0 := (ss3, s0.2)) hM5 (dv := dv3) (lo := 0) (hi := sp3) (root := 1) (goal := k) hsp hrx hwf) (cwV 1 hts (tbV w_ml_RX8_164 w_im_yX8_lay w_se_yX8_lay w_ini_RX8 w_cd_yX8_lay) rfl rfl rfl (by decide +kernel) ⟨Nat.le_of_ble_eq_true rfl, Nat.le_of_ble_eq_true rfl⟩) rfl hl.1 rfl (Nat.le_of_ble_eq_true rfl) dX8_prove_138 ⟨Nat.le_refl _, Nat.le_refl _⟩ (fun r_32 ad_29 en_30 H locs hp_31 hs => ?_)
              obtain ⟨⟨hA9, hF9⟩, hr9, c9, hM9⟩ := hp_31
              subst hA9
              have fr_33 : ∀ k, k < 22 → en_30 k = en k := fun k hk => Eq.trans (hF9 k hk) (fr4 k hk)
              rw [hr9]
              refine r_iret (v := aR (bld dv3 80 1 (ss3, s0.2)).1) (mc := 0) (ms := 0) hx hb hr hlk hs (Nat.le_refl _) (Nat.le_refl _) dX8_prove_141 hQ ?_
              rw [hV, hU]
              exact ⟨⟨rfl, fr_33⟩, rfl, _, _, _, _, hM9⟩
          by_cases hout : (0 : Nat) = 80 ∨ 0 = fu
          · skip
            refine r_callVv (ci := 8) (As := [.int (nI fu)]) hx hb hml hown hts hK hA hs (22) (by omega) (md22 hMm_17) rfl rfl (c_X8_enter_o l G hMm_17 (d := 0) (u := 0) (fu := fu) (by decide) ⟨Nat.zero_le _, hfu3⟩ hout) (cwV 1 hts (tbV w_ml_RX8_158 w_im_yX8_enter w_se_yX8_enter w_ini_RX8 w_cd_yX8_enter) rfl rfl rfl (by decide +kernel) ⟨Nat.le_of_ble_eq_true rfl, Nat.le_of_ble_eq_true rfl⟩) rfl hl.1 rfl (Nat.le_of_ble_eq_true rfl) dX8_prove_70 ⟨Nat.le_refl _, Nat.le_refl _⟩ (fun ad_35 en_36 H locs hp_37 hs => ?_)
            obtain ⟨⟨hAm_38, hFm_38⟩, hMm_38⟩ := hp_37
            subst hAm_38
            have fr_39 : ∀ k, k < 22 → en_36 k = en k := fun k hk => Eq.trans (hFm_38 k hk) (fr_18 k hk)
            exact KEY (s0.1, c_13, nI 0, (-4), nI 0, 0) en_36 H locs ls (Or.inl ⟨hout, c_13, rfl⟩) fr_39 hMm_38 hs (lv_sub hl [0, 1, 2] rfl)
          · skip
            refine r_callVv (ci := 8) (As := [.int (nI fu)]) hx hb hml hown hts hK hA hs (22) (by omega) (md22 hMm_17) rfl rfl (c_X8_enter_y l G hMm_17 (d := 0) (u := 0) (fu := fu) (by decide) ⟨by omega, hfu3⟩) (cwV 1 hts (tbV w_ml_RX8_158 w_im_yX8_enter w_se_yX8_enter w_ini_RX8 w_cd_yX8_enter) rfl rfl rfl (by decide +kernel) ⟨Nat.le_of_ble_eq_true rfl, Nat.le_of_ble_eq_true rfl⟩) rfl hl.1 rfl (Nat.le_of_ble_eq_true rfl) dX8_prove_70 ⟨Nat.le_refl _, Nat.le_refl _⟩ (fun ad_41 en_42 H locs hp_43 hs => ?_)
            obtain ⟨c_40, ec_40⟩ : ∃ z, z = cEnt c_13 0 0 := ⟨_, rfl⟩
            rw [← ec_40] at hp_43
            obtain ⟨⟨hAm_44, hFm_44⟩, hMm_44⟩ := hp_43
            subst hAm_44
            have fr_45 : ∀ k, k < 22 → en_42 k = en k := fun k hk => Eq.trans (hFm_44 k hk) (fr_18 k hk)
            exact KEY (s0.1, c_40, nI (0 + 1), 0, nI (0 + 1), 0) en_42 H locs ls (Or.inr ⟨hout, c_40, rfl, by rw [ec_40]; exact ent_kp (fun _ _ _ _ => rfl), by rw [ec_40]; exact ent_new hRn hwn⟩) fr_45 hMm_44 hs (lv_sub hl [0, 1, 2] rfl)
        · skip
          have hm6 : m < 600 := lt_of_nI (b := 600) c47 (by omega)
          refine lv_aload_n hx hb dX8_prove_50 rfl (lv_at hl 0 rfl) ?_
          refine r_get (ci := 8) (v := .ref (ad 31)) (C := RX8) (T := TX8) (N := 31) hx hb hts inlX8 hown hK hs (22) (by omega) (md22 hM2) rfl 12 (by decide) (hts _ w_fl_RX8_35) rfl dX8_prove_51 ?_
          refine lv_iload_n hx hb dX8_prove_54 rfl (lv_at hl 3 rfl) ?_
          refine lv_iconst (v := 0) hx hb dX8_prove_55 (by decide) ?_
          refine r_bastN (t := m) hx hb hK hs (31) (by omega) (md31 hM2) (rfl) (by omega) (by omega) dX8_prove_56 (fun H locs en_47 hen_47 hs => ?_)
          obtain ⟨c_49, ec_49⟩ : ∃ z, z = cU c2 31 (m) (0) := ⟨_, rfl⟩
          have hM_48 : MdW G n ad en_47 s0.1 s0.2 c_49 (nI 0) 0 (nI 0) 0 := md_ar (f := upd (c2 31) (m) (0)) hM2 31 (by decide) (by decide) (by rw [hen_47, show vp_nar .byte 0 = 0 from rfl]; rfl) ec_49
          have fr_50 : ∀ k, k < 22 → en_47 k = en k := fun k hk => Eq.trans (by rw [hen_47]; exact va_up_ne _ _ (by omega)) (fr2 k hk)
          refine lv_iinc (v := nI (m + 1)) (lv' := [(3, .int (nI (m + 1))), (0, .ref (ad 22)), (1, .int (nI k)), (2, .int (nI fu))]) hx hb dX8_prove_57 hl (k := 3) rfl (nI_add m 1) (by decide) rfl (fun ls hl => ?_)
          refine lv_goto (tgt := 43) hx hb dX8_prove_60 (by decide) ?_
          exact ih43 (m + 1) (c_49) (en_47) _ _ _ (by omega) (by rw [ec_49, cU, hc2, va_up_self, va_up_up, ← clF_s]) (hM_48) (fr_50) (by omega) hs (lv_sub hl [1, 2, 3, 0] rfl)
      · skip
        refine lv_iconst (v := (-1)) hx hb dX8_prove_19 (by decide) ?_
        refine r_iret (v := (-1)) (mc := 0) (ms := 0) hx hb hr hlk hs (Nat.le_refl _) (Nat.le_refl _) dX8_prove_20 hQ ?_
        have hb0 : ¬ fPvOK s0 x y = true := by rw [fPvOK, decide_eq_true_eq]; exact fun q => absurd q.2.2 c16
        rw [show fProve dv s0 x y = (-1, s0) from if_neg hb0, show fUsed dv s0 x y us = us from if_neg hb0]
        exact ⟨⟨rfl, fun _ _ => rfl⟩, rfl, _, _, _, _, hM⟩

def mIni (G : rG) (r : Nat) : va_E := if r ≤ 25 then aI G 601 (fun _ => 0) else if r ≤ 30 then aI G 8001 (fun _ => 0) else mEnt G r (fun _ => 0)
theorem ini_s {G : rG} {en en1 : Nat → va_E} {m : Nat} (h : ∀ r, 23 ≤ r → r < m → en r = mIni G r) (hk : ∀ k, k < m → en1 k = en k) (he : en1 m = mIni G m) : ∀ r, 23 ≤ r → r < m + 1 → en1 r = mIni G r := by
  intro r a b
  by_cases q : r = m
  · rw [q]; exact he
  · exact (hk r (by omega)).trans (h r a (by omega))
theorem nsOK_nil : nsOK [] [] := ⟨by decide, fun k a b => absurd b (by simp; omega), fun i j a b => absurd b (by simp; omega)⟩
theorem kAt_nil (k : Nat) : kAt [] k = (0, 0, 0, 0, 0) := by
  unfold kAt
  split <;> rfl
theorem ini_W {G : rG} {ad : Nat → Nat} {en : Nat → va_E} (h22 : en 22 = mObj ad [] [] 0 0 0 0) (h : ∀ r, 23 ≤ r → r < 48 → en r = mIni G r) : MdW G 48 ad en [] [] (fun _ _ => 0) 0 0 0 0 := by
  refine ⟨Nat.le_refl _, h22, fun r a b => ?_, fun r a b => ?_, ssOK_nil, nsOK_nil⟩
  · rw [h r a (by omega)]
    have e1 : aSo [] = fun _ => 0 := by funext k; unfold aSo sSort; rw [kAt_nil]; rfl
    have e2 : aLe [] = fun _ => 0 := by funext k; unfold aLe sL; rw [kAt_nil]; rfl
    have e3 : aRi [] = fun _ => 0 := by funext k; unfold aRi sR; rw [kAt_nil]; rfl
    have e4 : aTa [] = fun _ => 0 := by funext k; unfold aTa nT; rw [kAt_nil]; rfl
    have e5 : aGo [] = fun _ => 0 := by funext k; unfold aGo nG; rw [kAt_nil]; rfl
    have e6 : aFi [] = fun _ => 0 := by funext k; unfold aFi nA; rw [kAt_nil]; rfl
    have e7 : aSe [] = fun _ => 0 := by funext k; unfold aSe nB; rw [kAt_nil]; rfl
    have e8 : aTh [] = fun _ => 0 := by funext k; unfold aTh nC; rw [kAt_nil]; rfl
    unfold mCol
    rw [e1, e2, e3, e4, e5, e6, e7, e8]
    have : r = 23 ∨ r = 24 ∨ r = 25 ∨ r = 26 ∨ r = 27 ∨ r = 28 ∨ r = 29 ∨ r = 30 := by omega
    rcases this with rfl | rfl | rfl | rfl | rfl | rfl | rfl | rfl <;> rfl
  · rw [h r (by omega) (by omega)]
    unfold mIni
    rw [if_neg (by omega), if_neg (by omega)]
set_option maxHeartbeats 600000 in
set_option maxRecDepth 100000 in
theorem c_X8_init (l : Launch) (G : rG) {ad : Nat → Nat} {en : Nat → va_E} (h : en 22 = .inr (8, [.null, .null, .null, .int (0), .null, .null, .null, .null, .null, .int (0), .int (0), .int (0), .null, .null, .null, .null, .null, .int (0), .null, .null, .null, .null, .null, .int (0), .null, .null, .null, .null, .null, .null, .null])) : CV l G yX8_init uX8_init (1) (20) (25) (123277) [.ref (ad 22)] (23) (48) ad en (fun ad1 en1 => MdW G 48 ad1 en1 [] [] (fun _ _ => 0) 0 0 0 0 ∧ (∀ k, k < 23 → ad1 k = ad k) ∧ (∀ k, k < 22 → en1 k = en k)) := by
  intro sz
  refine rMet (Qc := qV G (48) (fun ad1 en1 => MdW G 48 ad1 en1 [] [] (fun _ _ => 0) 0 0 0 0 ∧ (∀ k, k < 23 → ad1 k = ad k) ∧ (∀ k, k < 22 → en1 k = en k))) (cc := cX8_init) (maxL := 1) (ret := none) (by decide) rfl (Nat.le_of_ble_eq_true rfl) ?_
  intro pP eE sS mM aA bB tT cC ls A Q hc hK hsz hA hs hl hQ
  obtain ⟨hx, hb, hr, hts, hown, hlk, hnm, hml⟩ := hc
  have hl : lv_has ls 1 [(0, .ref (ad 22))] := hl
  have KA0 : ∀ k, k < 23 → ad k = ad k := fun _ _ => rfl
  have KE0 : ∀ k, k < 22 → en k = en k := fun _ _ => rfl
  have hI0 : ∀ r, 23 ≤ r → r < 23 → en r = mIni G r := fun r a b => by omega
  refine lv_aload_n hx hb dX8_init_0 rfl (lv_at hl 0 rfl) ?_
  refine W.objInit hx hb hown (hts _ w_ml_RX8_1) (hts _ w_im_objectInit) (hts _ w_cd_objectInit) rfl (by rw [hml]; exact hl.1) rfl dX8_init_1 (Nat.le_of_ble_eq_true rfl) (Nat.le_of_ble_eq_true rfl) ?_
  refine W.eq (g2 := F0 mM 4 ls []) rfl ?_
  refine lv_aload_n hx hb dX8_init_4 rfl (lv_at hl 0 rfl) ?_
  refine lv_sipush (v := 601) hx hb dX8_init_5 (by decide) ?_
  refine r_topi (y := nI (601)) rfl ?_
  refine r_newa (atype := .int) (ty := .int) (a0 := (601, .inl (fun _ => 0))) (N' := 601) hx hb (hts _ w_ac_int) rfl hK hs hA 1 rfl (fun _ h9 => h9) (fun _ => rfl) (nI_pos (by decide)) (nI_clamp (by decide)) (show (601) * 4 ≤ 536870912 by omega) (Nat.le_of_ble_eq_true rfl) (Nat.le_of_ble_eq_true rfl) dX8_init_8 (fun qq H ad_1 en_2 had_1 hen_2 hq hs => ?_)
  subst hq
  have kad_1 : ∀ k, k < 23 → ad_1 k = ad k := fun k hk => by rw [had_1]; exact va_up_ne _ _ (by omega)
  have ken_2 : ∀ k, k < 23 → en_2 k = en k := fun k hk => by rw [hen_2]; exact va_up_ne _ _ (by omega)
  have he_3 : en_2 (23) = aI G (601) (fun _ => 0) := by rw [hen_2]; exact va_up_self _ _ _
  have he_4 : en_2 (22) = .inr (8, [.null, .null, .null, .int (0), .null, .null, .null, .null, .null, .int (0), .int (0), .int (0), .null, .null, .null, .null, .null, .int (0), .null, .null, .null, .null, .null, .int (0), .null, .null, .null, .null, .null, .null, .null]) := (ken_2 (22) (by omega)).trans h
  have hl : lv_has ls 1 [(0, .ref (ad_1 22))] := by rw [(kad_1 (22) (by omega))]; exact hl
  rw [← (kad_1 (22) (by omega))]
  have hI_5 : ∀ r, 23 ≤ r → r < 24 → en_2 r = mIni G r := ini_s (m := 23) hI0 ken_2 he_3
  have KA_6 : ∀ k, k < 23 → ad_1 k = ad k := fun k hk => Eq.trans (kad_1 k (by omega)) (KA0 k hk)
  have KE_7 : ∀ k, k < 22 → en_2 k = en k := fun k hk => Eq.trans (ken_2 k (by omega)) (KE0 k hk)
  refine r_put (ci := 8) (v := .ref (ad_1 23)) (ty := .array .int) (C := RX8) (T := TX8) (N := 31) (fs' := [.ref (ad_1 23), .null, .null, .int (0), .null, .null, .null, .null, .null, .int (0), .int (0), .int (0), .null, .null, .null, .null, .null, .int (0), .null, .null, .null, .null, .null, .int (0), .null, .null, .null, .null, .null, .null, .null]) hx hb hts inlX8 tyX8 tyX8_ok nmX8 hown hK hs (22) (by omega) he_4 rfl 0 (by decide) (hts _ w_fl_RX8_7) (Or.inr ⟨rfl, hnm, rfl⟩) (by decide +kernel) rfl rfl (Nat.le_of_ble_eq_true rfl) rfl dX8_init_10 (fun H locs en_8 hen_8 hs => ?_)
  have he_9 : en_8 (22) = .inr (8, [.ref (ad_1 23), .null, .null, .int (0), .null, .null, .null, .null, .null, .int (0), .int (0), .int (0), .null, .null, .null, .null, .null, .int (0), .null, .null, .null, .null, .null, .int (0), .null, .null, .null, .null, .null, .null, .null]) := by rw [hen_8]; exact va_up_self _ _ _
  have hI_10 : ∀ r, 23 ≤ r → r < 24 → en_8 r = mIni G r := fun r a b => by rw [hen_8, va_up_ne _ _ (by omega)]; exact hI_5 r a b
  have KA_11 : ∀ k, k < 23 → ad_1 k = ad k := fun k hk => Eq.trans (rfl) (KA_6 k hk)
  have KE_12 : ∀ k, k < 22 → en_8 k = en k := fun k hk => Eq.trans (by rw [hen_8]; exact va_up_ne _ _ (by omega)) (KE_7 k hk)
  refine lv_aload_n hx hb dX8_init_13 rfl (lv_at hl 0 rfl) ?_
  refine lv_sipush (v := 601) hx hb dX8_init_14 (by decide) ?_
  refine r_topi (y := nI (601)) rfl ?_
  refine r_newa (atype := .int) (ty := .int) (a0 := (601, .inl (fun _ => 0))) (N' := 601) hx hb (hts _ w_ac_int) rfl hK hs hA 1 rfl (fun _ h9 => h9) (fun _ => rfl) (nI_pos (by decide)) (nI_clamp (by decide)) (show (601) * 4 ≤ 536870912 by omega) (Nat.le_of_ble_eq_true rfl) (Nat.le_of_ble_eq_true rfl) dX8_init_17 (fun qq H ad_13 en_14 had_13 hen_14 hq hs => ?_)
  subst hq
  have kad_13 : ∀ k, k < 24 → ad_13 k = ad_1 k := fun k hk => by rw [had_13]; exact va_up_ne _ _ (by omega)
  have ken_14 : ∀ k, k < 24 → en_14 k = en_8 k := fun k hk => by rw [hen_14]; exact va_up_ne _ _ (by omega)
  have he_15 : en_14 (24) = aI G (601) (fun _ => 0) := by rw [hen_14]; exact va_up_self _ _ _
  have he_16 : en_14 (22) = .inr (8, [.ref (ad_13 23), .null, .null, .int (0), .null, .null, .null, .null, .null, .int (0), .int (0), .int (0), .null, .null, .null, .null, .null, .int (0), .null, .null, .null, .null, .null, .int (0), .null, .null, .null, .null, .null, .null, .null]) := by rw [(kad_13 (23) (by omega))]; exact (ken_14 (22) (by omega)).trans he_9
  have hl : lv_has ls 1 [(0, .ref (ad_13 22))] := by rw [(kad_13 (22) (by omega))]; exact hl
  rw [← (kad_13 (22) (by omega))]
  have hI_17 : ∀ r, 23 ≤ r → r < 25 → en_14 r = mIni G r := ini_s (m := 24) hI_10 ken_14 he_15
  have KA_18 : ∀ k, k < 23 → ad_13 k = ad k := fun k hk => Eq.trans (kad_13 k (by omega)) (KA_11 k hk)
  have KE_19 : ∀ k, k < 22 → en_14 k = en k := fun k hk => Eq.trans (ken_14 k (by omega)) (KE_12 k hk)
  refine r_put (ci := 8) (v := .ref (ad_13 24)) (ty := .array .int) (C := RX8) (T := TX8) (N := 31) (fs' := [.ref (ad_13 23), .ref (ad_13 24), .null, .int (0), .null, .null, .null, .null, .null, .int (0), .int (0), .int (0), .null, .null, .null, .null, .null, .int (0), .null, .null, .null, .null, .null, .int (0), .null, .null, .null, .null, .null, .null, .null]) hx hb hts inlX8 tyX8 tyX8_ok nmX8 hown hK hs (22) (by omega) he_16 rfl 1 (by decide) (hts _ w_fl_RX8_13) (Or.inr ⟨rfl, hnm, rfl⟩) (by decide +kernel) rfl rfl (Nat.le_of_ble_eq_true rfl) rfl dX8_init_19 (fun H locs en_20 hen_20 hs => ?_)
  have he_21 : en_20 (22) = .inr (8, [.ref (ad_13 23), .ref (ad_13 24), .null, .int (0), .null, .null, .null, .null, .null, .int (0), .int (0), .int (0), .null, .null, .null, .null, .null, .int (0), .null, .null, .null, .null, .null, .int (0), .null, .null, .null, .null, .null, .null, .null]) := by rw [hen_20]; exact va_up_self _ _ _
  have hI_22 : ∀ r, 23 ≤ r → r < 25 → en_20 r = mIni G r := fun r a b => by rw [hen_20, va_up_ne _ _ (by omega)]; exact hI_17 r a b
  have KA_23 : ∀ k, k < 23 → ad_13 k = ad k := fun k hk => Eq.trans (rfl) (KA_18 k hk)
  have KE_24 : ∀ k, k < 22 → en_20 k = en k := fun k hk => Eq.trans (by rw [hen_20]; exact va_up_ne _ _ (by omega)) (KE_19 k hk)
  refine lv_aload_n hx hb dX8_init_22 rfl (lv_at hl 0 rfl) ?_
  refine lv_sipush (v := 601) hx hb dX8_init_23 (by decide) ?_
  refine r_topi (y := nI (601)) rfl ?_
  refine r_newa (atype := .int) (ty := .int) (a0 := (601, .inl (fun _ => 0))) (N' := 601) hx hb (hts _ w_ac_int) rfl hK hs hA 1 rfl (fun _ h9 => h9) (fun _ => rfl) (nI_pos (by decide)) (nI_clamp (by decide)) (show (601) * 4 ≤ 536870912 by omega) (Nat.le_of_ble_eq_true rfl) (Nat.le_of_ble_eq_true rfl) dX8_init_26 (fun qq H ad_25 en_26 had_25 hen_26 hq hs => ?_)
  subst hq
  have kad_25 : ∀ k, k < 25 → ad_25 k = ad_13 k := fun k hk => by rw [had_25]; exact va_up_ne _ _ (by omega)
  have ken_26 : ∀ k, k < 25 → en_26 k = en_20 k := fun k hk => by rw [hen_26]; exact va_up_ne _ _ (by omega)
  have he_27 : en_26 (25) = aI G (601) (fun _ => 0) := by rw [hen_26]; exact va_up_self _ _ _
  have he_28 : en_26 (22) = .inr (8, [.ref (ad_25 23), .ref (ad_25 24), .null, .int (0), .null, .null, .null, .null, .null, .int (0), .int (0), .int (0), .null, .null, .null, .null, .null, .int (0), .null, .null, .null, .null, .null, .int (0), .null, .null, .null, .null, .null, .null, .null]) := by rw [(kad_25 (23) (by omega)), (kad_25 (24) (by omega))]; exact (ken_26 (22) (by omega)).trans he_21
  have hl : lv_has ls 1 [(0, .ref (ad_25 22))] := by rw [(kad_25 (22) (by omega))]; exact hl
  rw [← (kad_25 (22) (by omega))]
  have hI_29 : ∀ r, 23 ≤ r → r < 26 → en_26 r = mIni G r := ini_s (m := 25) hI_22 ken_26 he_27
  have KA_30 : ∀ k, k < 23 → ad_25 k = ad k := fun k hk => Eq.trans (kad_25 k (by omega)) (KA_23 k hk)
  have KE_31 : ∀ k, k < 22 → en_26 k = en k := fun k hk => Eq.trans (ken_26 k (by omega)) (KE_24 k hk)
  refine r_put (ci := 8) (v := .ref (ad_25 25)) (ty := .array .int) (C := RX8) (T := TX8) (N := 31) (fs' := [.ref (ad_25 23), .ref (ad_25 24), .ref (ad_25 25), .int (0), .null, .null, .null, .null, .null, .int (0), .int (0), .int (0), .null, .null, .null, .null, .null, .int (0), .null, .null, .null, .null, .null, .int (0), .null, .null, .null, .null, .null, .null, .null]) hx hb hts inlX8 tyX8 tyX8_ok nmX8 hown hK hs (22) (by omega) he_28 rfl 2 (by decide) (hts _ w_fl_RX8_16) (Or.inr ⟨rfl, hnm, rfl⟩) (by decide +kernel) rfl rfl (Nat.le_of_ble_eq_true rfl) rfl dX8_init_28 (fun H locs en_32 hen_32 hs => ?_)
  have he_33 : en_32 (22) = .inr (8, [.ref (ad_25 23), .ref (ad_25 24), .ref (ad_25 25), .int (0), .null, .null, .null, .null, .null, .int (0), .int (0), .int (0), .null, .null, .null, .null, .null, .int (0), .null, .null, .null, .null, .null, .int (0), .null, .null, .null, .null, .null, .null, .null]) := by rw [hen_32]; exact va_up_self _ _ _
  have hI_34 : ∀ r, 23 ≤ r → r < 26 → en_32 r = mIni G r := fun r a b => by rw [hen_32, va_up_ne _ _ (by omega)]; exact hI_29 r a b
  have KA_35 : ∀ k, k < 23 → ad_25 k = ad k := fun k hk => Eq.trans (rfl) (KA_30 k hk)
  have KE_36 : ∀ k, k < 22 → en_32 k = en k := fun k hk => Eq.trans (by rw [hen_32]; exact va_up_ne _ _ (by omega)) (KE_31 k hk)
  refine lv_aload_n hx hb dX8_init_31 rfl (lv_at hl 0 rfl) ?_
  refine lv_sipush (v := 8001) hx hb dX8_init_32 (by decide) ?_
  refine r_topi (y := nI (8001)) rfl ?_
  refine r_newa (atype := .int) (ty := .int) (a0 := (8001, .inl (fun _ => 0))) (N' := 8001) hx hb (hts _ w_ac_int) rfl hK hs hA 1 rfl (fun _ h9 => h9) (fun _ => rfl) (nI_pos (by decide)) (nI_clamp (by decide)) (show (8001) * 4 ≤ 536870912 by omega) (Nat.le_of_ble_eq_true rfl) (Nat.le_of_ble_eq_true rfl) dX8_init_35 (fun qq H ad_37 en_38 had_37 hen_38 hq hs => ?_)
  subst hq
  have kad_37 : ∀ k, k < 26 → ad_37 k = ad_25 k := fun k hk => by rw [had_37]; exact va_up_ne _ _ (by omega)
  have ken_38 : ∀ k, k < 26 → en_38 k = en_32 k := fun k hk => by rw [hen_38]; exact va_up_ne _ _ (by omega)
  have he_39 : en_38 (26) = aI G (8001) (fun _ => 0) := by rw [hen_38]; exact va_up_self _ _ _
  have he_40 : en_38 (22) = .inr (8, [.ref (ad_37 23), .ref (ad_37 24), .ref (ad_37 25), .int (0), .null, .null, .null, .null, .null, .int (0), .int (0), .int (0), .null, .null, .null, .null, .null, .int (0), .null, .null, .null, .null, .null, .int (0), .null, .null, .null, .null, .null, .null, .null]) := by rw [(kad_37 (23) (by omega)), (kad_37 (24) (by omega)), (kad_37 (25) (by omega))]; exact (ken_38 (22) (by omega)).trans he_33
  have hl : lv_has ls 1 [(0, .ref (ad_37 22))] := by rw [(kad_37 (22) (by omega))]; exact hl
  rw [← (kad_37 (22) (by omega))]
  have hI_41 : ∀ r, 23 ≤ r → r < 27 → en_38 r = mIni G r := ini_s (m := 26) hI_34 ken_38 he_39
  have KA_42 : ∀ k, k < 23 → ad_37 k = ad k := fun k hk => Eq.trans (kad_37 k (by omega)) (KA_35 k hk)
  have KE_43 : ∀ k, k < 22 → en_38 k = en k := fun k hk => Eq.trans (ken_38 k (by omega)) (KE_36 k hk)
  refine r_put (ci := 8) (v := .ref (ad_37 26)) (ty := .array .int) (C := RX8) (T := TX8) (N := 31) (fs' := [.ref (ad_37 23), .ref (ad_37 24), .ref (ad_37 25), .int (0), .ref (ad_37 26), .null, .null, .null, .null, .int (0), .int (0), .int (0), .null, .null, .null, .null, .null, .int (0), .null, .null, .null, .null, .null, .int (0), .null, .null, .null, .null, .null, .null, .null]) hx hb hts inlX8 tyX8 tyX8_ok nmX8 hown hK hs (22) (by omega) he_40 rfl 4 (by decide) (hts _ w_fl_RX8_19) (Or.inr ⟨rfl, hnm, rfl⟩) (by decide +kernel) rfl rfl (Nat.le_of_ble_eq_true rfl) rfl dX8_init_37 (fun H locs en_44 hen_44 hs => ?_)
  have he_45 : en_44 (22) = .inr (8, [.ref (ad_37 23), .ref (ad_37 24), .ref (ad_37 25), .int (0), .ref (ad_37 26), .null, .null, .null, .null, .int (0), .int (0), .int (0), .null, .null, .null, .null, .null, .int (0), .null, .null, .null, .null, .null, .int (0), .null, .null, .null, .null, .null, .null, .null]) := by rw [hen_44]; exact va_up_self _ _ _
  have hI_46 : ∀ r, 23 ≤ r → r < 27 → en_44 r = mIni G r := fun r a b => by rw [hen_44, va_up_ne _ _ (by omega)]; exact hI_41 r a b
  have KA_47 : ∀ k, k < 23 → ad_37 k = ad k := fun k hk => Eq.trans (rfl) (KA_42 k hk)
  have KE_48 : ∀ k, k < 22 → en_44 k = en k := fun k hk => Eq.trans (by rw [hen_44]; exact va_up_ne _ _ (by omega)) (KE_43 k hk)
  refine lv_aload_n hx hb dX8_init_40 rfl (lv_at hl 0 rfl) ?_
  refine lv_sipush (v := 8001) hx hb dX8_init_41 (by decide) ?_
  refine r_topi (y := nI (8001)) rfl ?_
  refine r_newa (atype := .int) (ty := .int) (a0 := (8001, .inl (fun _ => 0))) (N' := 8001) hx hb (hts _ w_ac_int) rfl hK hs hA 1 rfl (fun _ h9 => h9) (fun _ => rfl) (nI_pos (by decide)) (nI_clamp (by decide)) (show (8001) * 4 ≤ 536870912 by omega) (Nat.le_of_ble_eq_true rfl) (Nat.le_of_ble_eq_true rfl) dX8_init_44 (fun qq H ad_49 en_50 had_49 hen_50 hq hs => ?_)
  subst hq
  have kad_49 : ∀ k, k < 27 → ad_49 k = ad_37 k := fun k hk => by rw [had_49]; exact va_up_ne _ _ (by omega)
  have ken_50 : ∀ k, k < 27 → en_50 k = en_44 k := fun k hk => by rw [hen_50]; exact va_up_ne _ _ (by omega)
  have he_51 : en_50 (27) = aI G (8001) (fun _ => 0) := by rw [hen_50]; exact va_up_self _ _ _
  have he_52 : en_50 (22) = .inr (8, [.ref (ad_49 23), .ref (ad_49 24), .ref (ad_49 25), .int (0), .ref (ad_49 26), .null, .null, .null, .null, .int (0), .int (0), .int (0), .null, .null, .null, .null, .null, .int (0), .null, .null, .null, .null, .null, .int (0), .null, .null, .null, .null, .null, .null, .null]) := by rw [(kad_49 (23) (by omega)), (kad_49 (24) (by omega)), (kad_49 (25) (by omega)), (kad_49 (26) (by omega))]; exact (ken_50 (22) (by omega)).trans he_45
  have hl : lv_has ls 1 [(0, .ref (ad_49 22))] := by rw [(kad_49 (22) (by omega))]; exact hl
  rw [← (kad_49 (22) (by omega))]
  have hI_53 : ∀ r, 23 ≤ r → r < 28 → en_50 r = mIni G r := ini_s (m := 27) hI_46 ken_50 he_51
  have KA_54 : ∀ k, k < 23 → ad_49 k = ad k := fun k hk => Eq.trans (kad_49 k (by omega)) (KA_47 k hk)
  have KE_55 : ∀ k, k < 22 → en_50 k = en k := fun k hk => Eq.trans (ken_50 k (by omega)) (KE_48 k hk)
  refine r_put (ci := 8) (v := .ref (ad_49 27)) (ty := .array .int) (C := RX8) (T := TX8) (N := 31) (fs' := [.ref (ad_49 23), .ref (ad_49 24), .ref (ad_49 25), .int (0), .ref (ad_49 26), .ref (ad_49 27), .null, .null, .null, .int (0), .int (0), .int (0), .null, .null, .null, .null, .null, .int (0), .null, .null, .null, .null, .null, .int (0), .null, .null, .null, .null, .null, .null, .null]) hx hb hts inlX8 tyX8 tyX8_ok nmX8 hown hK hs (22) (by omega) he_52 rfl 5 (by decide) (hts _ w_fl_RX8_22) (Or.inr ⟨rfl, hnm, rfl⟩) (by decide +kernel) rfl rfl (Nat.le_of_ble_eq_true rfl) rfl dX8_init_46 (fun H locs en_56 hen_56 hs => ?_)
  have he_57 : en_56 (22) = .inr (8, [.ref (ad_49 23), .ref (ad_49 24), .ref (ad_49 25), .int (0), .ref (ad_49 26), .ref (ad_49 27), .null, .null, .null, .int (0), .int (0), .int (0), .null, .null, .null, .null, .null, .int (0), .null, .null, .null, .null, .null, .int (0), .null, .null, .null, .null, .null, .null, .null]) := by rw [hen_56]; exact va_up_self _ _ _
  have hI_58 : ∀ r, 23 ≤ r → r < 28 → en_56 r = mIni G r := fun r a b => by rw [hen_56, va_up_ne _ _ (by omega)]; exact hI_53 r a b
  have KA_59 : ∀ k, k < 23 → ad_49 k = ad k := fun k hk => Eq.trans (rfl) (KA_54 k hk)
  have KE_60 : ∀ k, k < 22 → en_56 k = en k := fun k hk => Eq.trans (by rw [hen_56]; exact va_up_ne _ _ (by omega)) (KE_55 k hk)
  refine lv_aload_n hx hb dX8_init_49 rfl (lv_at hl 0 rfl) ?_
  refine lv_sipush (v := 8001) hx hb dX8_init_50 (by decide) ?_
  refine r_topi (y := nI (8001)) rfl ?_
  refine r_newa (atype := .int) (ty := .int) (a0 := (8001, .inl (fun _ => 0))) (N' := 8001) hx hb (hts _ w_ac_int) rfl hK hs hA 1 rfl (fun _ h9 => h9) (fun _ => rfl) (nI_pos (by decide)) (nI_clamp (by decide)) (show (8001) * 4 ≤ 536870912 by omega) (Nat.le_of_ble_eq_true rfl) (Nat.le_of_ble_eq_true rfl) dX8_init_53 (fun qq H ad_61 en_62 had_61 hen_62 hq hs => ?_)
  subst hq
  have kad_61 : ∀ k, k < 28 → ad_61 k = ad_49 k := fun k hk => by rw [had_61]; exact va_up_ne _ _ (by omega)
  have ken_62 : ∀ k, k < 28 → en_62 k = en_56 k := fun k hk => by rw [hen_62]; exact va_up_ne _ _ (by omega)
  have he_63 : en_62 (28) = aI G (8001) (fun _ => 0) := by rw [hen_62]; exact va_up_self _ _ _
  have he_64 : en_62 (22) = .inr (8, [.ref (ad_61 23), .ref (ad_61 24), .ref (ad_61 25), .int (0), .ref (ad_61 26), .ref (ad_61 27), .null, .null, .null, .int (0), .int (0), .int (0), .null, .null, .null, .null, .null, .int (0), .null, .null, .null, .null, .null, .int (0), .null, .null, .null, .null, .null, .null, .null]) := by rw [(kad_61 (23) (by omega)), (kad_61 (24) (by omega)), (kad_61 (25) (by omega)), (kad_61 (26) (by omega)), (kad_61 (27) (by omega))]; exact (ken_62 (22) (by omega)).trans he_57
  have hl : lv_has ls 1 [(0, .ref (ad_61 22))] := by rw [(kad_61 (22) (by omega))]; exact hl
  rw [← (kad_61 (22) (by omega))]
  have hI_65 : ∀ r, 23 ≤ r → r < 29 → en_62 r = mIni G r := ini_s (m := 28) hI_58 ken_62 he_63
  have KA_66 : ∀ k, k < 23 → ad_61 k = ad k := fun k hk => Eq.trans (kad_61 k (by omega)) (KA_59 k hk)
  have KE_67 : ∀ k, k < 22 → en_62 k = en k := fun k hk => Eq.trans (ken_62 k (by omega)) (KE_60 k hk)
  refine r_put (ci := 8) (v := .ref (ad_61 28)) (ty := .array .int) (C := RX8) (T := TX8) (N := 31) (fs' := [.ref (ad_61 23), .ref (ad_61 24), .ref (ad_61 25), .int (0), .ref (ad_61 26), .ref (ad_61 27), .ref (ad_61 28), .null, .null, .int (0), .int (0), .int (0), .null, .null, .null, .null, .null, .int (0), .null, .null, .null, .null, .null, .int (0), .null, .null, .null, .null, .null, .null, .null]) hx hb hts inlX8 tyX8 tyX8_ok nmX8 hown hK hs (22) (by omega) he_64 rfl 6 (by decide) (hts _ w_fl_RX8_25) (Or.inr ⟨rfl, hnm, rfl⟩) (by decide +kernel) rfl rfl (Nat.le_of_ble_eq_true rfl) rfl dX8_init_55 (fun H locs en_68 hen_68 hs => ?_)
  have he_69 : en_68 (22) = .inr (8, [.ref (ad_61 23), .ref (ad_61 24), .ref (ad_61 25), .int (0), .ref (ad_61 26), .ref (ad_61 27), .ref (ad_61 28), .null, .null, .int (0), .int (0), .int (0), .null, .null, .null, .null, .null, .int (0), .null, .null, .null, .null, .null, .int (0), .null, .null, .null, .null, .null, .null, .null]) := by rw [hen_68]; exact va_up_self _ _ _
  have hI_70 : ∀ r, 23 ≤ r → r < 29 → en_68 r = mIni G r := fun r a b => by rw [hen_68, va_up_ne _ _ (by omega)]; exact hI_65 r a b
  have KA_71 : ∀ k, k < 23 → ad_61 k = ad k := fun k hk => Eq.trans (rfl) (KA_66 k hk)
  have KE_72 : ∀ k, k < 22 → en_68 k = en k := fun k hk => Eq.trans (by rw [hen_68]; exact va_up_ne _ _ (by omega)) (KE_67 k hk)
  refine lv_aload_n hx hb dX8_init_58 rfl (lv_at hl 0 rfl) ?_
  refine lv_sipush (v := 8001) hx hb dX8_init_59 (by decide) ?_
  refine r_topi (y := nI (8001)) rfl ?_
  refine r_newa (atype := .int) (ty := .int) (a0 := (8001, .inl (fun _ => 0))) (N' := 8001) hx hb (hts _ w_ac_int) rfl hK hs hA 1 rfl (fun _ h9 => h9) (fun _ => rfl) (nI_pos (by decide)) (nI_clamp (by decide)) (show (8001) * 4 ≤ 536870912 by omega) (Nat.le_of_ble_eq_true rfl) (Nat.le_of_ble_eq_true rfl) dX8_init_62 (fun qq H ad_73 en_74 had_73 hen_74 hq hs => ?_)
  subst hq
  have kad_73 : ∀ k, k < 29 → ad_73 k = ad_61 k := fun k hk => by rw [had_73]; exact va_up_ne _ _ (by omega)
  have ken_74 : ∀ k, k < 29 → en_74 k = en_68 k := fun k hk => by rw [hen_74]; exact va_up_ne _ _ (by omega)
  have he_75 : en_74 (29) = aI G (8001) (fun _ => 0) := by rw [hen_74]; exact va_up_self _ _ _
  have he_76 : en_74 (22) = .inr (8, [.ref (ad_73 23), .ref (ad_73 24), .ref (ad_73 25), .int (0), .ref (ad_73 26), .ref (ad_73 27), .ref (ad_73 28), .null, .null, .int (0), .int (0), .int (0), .null, .null, .null, .null, .null, .int (0), .null, .null, .null, .null, .null, .int (0), .null, .null, .null, .null, .null, .null, .null]) := by rw [(kad_73 (23) (by omega)), (kad_73 (24) (by omega)), (kad_73 (25) (by omega)), (kad_73 (26) (by omega)), (kad_73 (27) (by omega)), (kad_73 (28) (by omega))]; exact (ken_74 (22) (by omega)).trans he_69
  have hl : lv_has ls 1 [(0, .ref (ad_73 22))] := by rw [(kad_73 (22) (by omega))]; exact hl
  rw [← (kad_73 (22) (by omega))]
  have hI_77 : ∀ r, 23 ≤ r → r < 30 → en_74 r = mIni G r := ini_s (m := 29) hI_70 ken_74 he_75
  have KA_78 : ∀ k, k < 23 → ad_73 k = ad k := fun k hk => Eq.trans (kad_73 k (by omega)) (KA_71 k hk)
  have KE_79 : ∀ k, k < 22 → en_74 k = en k := fun k hk => Eq.trans (ken_74 k (by omega)) (KE_72 k hk)
  refine r_put (ci := 8) (v := .ref (ad_73 29)) (ty := .array .int) (C := RX8) (T := TX8) (N := 31) (fs' := [.ref (ad_73 23), .ref (ad_73 24), .ref (ad_73 25), .int (0), .ref (ad_73 26), .ref (ad_73 27), .ref (ad_73 28), .ref (ad_73 29), .null, .int (0), .int (0), .int (0), .null, .null, .null, .null, .null, .int (0), .null, .null, .null, .null, .null, .int (0), .null, .null, .null, .null, .null, .null, .null]) hx hb hts inlX8 tyX8 tyX8_ok nmX8 hown hK hs (22) (by omega) he_76 rfl 7 (by decide) (hts _ w_fl_RX8_28) (Or.inr ⟨rfl, hnm, rfl⟩) (by decide +kernel) rfl rfl (Nat.le_of_ble_eq_true rfl) rfl dX8_init_64 (fun H locs en_80 hen_80 hs => ?_)
  have he_81 : en_80 (22) = .inr (8, [.ref (ad_73 23), .ref (ad_73 24), .ref (ad_73 25), .int (0), .ref (ad_73 26), .ref (ad_73 27), .ref (ad_73 28), .ref (ad_73 29), .null, .int (0), .int (0), .int (0), .null, .null, .null, .null, .null, .int (0), .null, .null, .null, .null, .null, .int (0), .null, .null, .null, .null, .null, .null, .null]) := by rw [hen_80]; exact va_up_self _ _ _
  have hI_82 : ∀ r, 23 ≤ r → r < 30 → en_80 r = mIni G r := fun r a b => by rw [hen_80, va_up_ne _ _ (by omega)]; exact hI_77 r a b
  have KA_83 : ∀ k, k < 23 → ad_73 k = ad k := fun k hk => Eq.trans (rfl) (KA_78 k hk)
  have KE_84 : ∀ k, k < 22 → en_80 k = en k := fun k hk => Eq.trans (by rw [hen_80]; exact va_up_ne _ _ (by omega)) (KE_79 k hk)
  refine lv_aload_n hx hb dX8_init_67 rfl (lv_at hl 0 rfl) ?_
  refine lv_sipush (v := 8001) hx hb dX8_init_68 (by decide) ?_
  refine r_topi (y := nI (8001)) rfl ?_
  refine r_newa (atype := .int) (ty := .int) (a0 := (8001, .inl (fun _ => 0))) (N' := 8001) hx hb (hts _ w_ac_int) rfl hK hs hA 1 rfl (fun _ h9 => h9) (fun _ => rfl) (nI_pos (by decide)) (nI_clamp (by decide)) (show (8001) * 4 ≤ 536870912 by omega) (Nat.le_of_ble_eq_true rfl) (Nat.le_of_ble_eq_true rfl) dX8_init_71 (fun qq H ad_85 en_86 had_85 hen_86 hq hs => ?_)
  subst hq
  have kad_85 : ∀ k, k < 30 → ad_85 k = ad_73 k := fun k hk => by rw [had_85]; exact va_up_ne _ _ (by omega)
  have ken_86 : ∀ k, k < 30 → en_86 k = en_80 k := fun k hk => by rw [hen_86]; exact va_up_ne _ _ (by omega)
  have he_87 : en_86 (30) = aI G (8001) (fun _ => 0) := by rw [hen_86]; exact va_up_self _ _ _
  have he_88 : en_86 (22) = .inr (8, [.ref (ad_85 23), .ref (ad_85 24), .ref (ad_85 25), .int (0), .ref (ad_85 26), .ref (ad_85 27), .ref (ad_85 28), .ref (ad_85 29), .null, .int (0), .int (0), .int (0), .null, .null, .null, .null, .null, .int (0), .null, .null, .null, .null, .null, .int (0), .null, .null, .null, .null, .null, .null, .null]) := by rw [(kad_85 (23) (by omega)), (kad_85 (24) (by omega)), (kad_85 (25) (by omega)), (kad_85 (26) (by omega)), (kad_85 (27) (by omega)), (kad_85 (28) (by omega)), (kad_85 (29) (by omega))]; exact (ken_86 (22) (by omega)).trans he_81
  have hl : lv_has ls 1 [(0, .ref (ad_85 22))] := by rw [(kad_85 (22) (by omega))]; exact hl
  rw [← (kad_85 (22) (by omega))]
  have hI_89 : ∀ r, 23 ≤ r → r < 31 → en_86 r = mIni G r := ini_s (m := 30) hI_82 ken_86 he_87
  have KA_90 : ∀ k, k < 23 → ad_85 k = ad k := fun k hk => Eq.trans (kad_85 k (by omega)) (KA_83 k hk)
  have KE_91 : ∀ k, k < 22 → en_86 k = en k := fun k hk => Eq.trans (ken_86 k (by omega)) (KE_84 k hk)
  refine r_put (ci := 8) (v := .ref (ad_85 30)) (ty := .array .int) (C := RX8) (T := TX8) (N := 31) (fs' := [.ref (ad_85 23), .ref (ad_85 24), .ref (ad_85 25), .int (0), .ref (ad_85 26), .ref (ad_85 27), .ref (ad_85 28), .ref (ad_85 29), .ref (ad_85 30), .int (0), .int (0), .int (0), .null, .null, .null, .null, .null, .int (0), .null, .null, .null, .null, .null, .int (0), .null, .null, .null, .null, .null, .null, .null]) hx hb hts inlX8 tyX8 tyX8_ok nmX8 hown hK hs (22) (by omega) he_88 rfl 8 (by decide) (hts _ w_fl_RX8_31) (Or.inr ⟨rfl, hnm, rfl⟩) (by decide +kernel) rfl rfl (Nat.le_of_ble_eq_true rfl) rfl dX8_init_73 (fun H locs en_92 hen_92 hs => ?_)
  have he_93 : en_92 (22) = .inr (8, [.ref (ad_85 23), .ref (ad_85 24), .ref (ad_85 25), .int (0), .ref (ad_85 26), .ref (ad_85 27), .ref (ad_85 28), .ref (ad_85 29), .ref (ad_85 30), .int (0), .int (0), .int (0), .null, .null, .null, .null, .null, .int (0), .null, .null, .null, .null, .null, .int (0), .null, .null, .null, .null, .null, .null, .null]) := by rw [hen_92]; exact va_up_self _ _ _
  have hI_94 : ∀ r, 23 ≤ r → r < 31 → en_92 r = mIni G r := fun r a b => by rw [hen_92, va_up_ne _ _ (by omega)]; exact hI_89 r a b
  have KA_95 : ∀ k, k < 23 → ad_85 k = ad k := fun k hk => Eq.trans (rfl) (KA_90 k hk)
  have KE_96 : ∀ k, k < 22 → en_92 k = en k := fun k hk => Eq.trans (by rw [hen_92]; exact va_up_ne _ _ (by omega)) (KE_91 k hk)
  refine lv_aload_n hx hb dX8_init_76 rfl (lv_at hl 0 rfl) ?_
  refine lv_ldc (v := (49200)) hx hb hown (hts _ w_ki_RX8_34) dX8_init_77 ?_
  refine r_topi (y := nI ((49200))) rfl ?_
  refine r_newa (atype := .byte) (ty := .byte) (a0 := ((49200), .inl (fun _ => 0))) (N' := (49200)) hx hb (hts _ w_ac_byte) rfl hK hs hA 0 rfl (fun _ h9 => h9) (fun _ => rfl) (nI_pos (by decide)) (nI_clamp (by decide)) (show ((49200)) * 1 ≤ 536870912 by omega) (Nat.le_of_ble_eq_true rfl) (Nat.le_of_ble_eq_true rfl) dX8_init_79 (fun qq H ad_97 en_98 had_97 hen_98 hq hs => ?_)
  subst hq
  have kad_97 : ∀ k, k < 31 → ad_97 k = ad_85 k := fun k hk => by rw [had_97]; exact va_up_ne _ _ (by omega)
  have ken_98 : ∀ k, k < 31 → en_98 k = en_92 k := fun k hk => by rw [hen_98]; exact va_up_ne _ _ (by omega)
  have he_99 : en_98 (31) = aB G ((49200)) (fun _ => 0) := by rw [hen_98]; exact va_up_self _ _ _
  have he_100 : en_98 (22) = .inr (8, [.ref (ad_97 23), .ref (ad_97 24), .ref (ad_97 25), .int (0), .ref (ad_97 26), .ref (ad_97 27), .ref (ad_97 28), .ref (ad_97 29), .ref (ad_97 30), .int (0), .int (0), .int (0), .null, .null, .null, .null, .null, .int (0), .null, .null, .null, .null, .null, .int (0), .null, .null, .null, .null, .null, .null, .null]) := by rw [(kad_97 (23) (by omega)), (kad_97 (24) (by omega)), (kad_97 (25) (by omega)), (kad_97 (26) (by omega)), (kad_97 (27) (by omega)), (kad_97 (28) (by omega)), (kad_97 (29) (by omega)), (kad_97 (30) (by omega))]; exact (ken_98 (22) (by omega)).trans he_93
  have hl : lv_has ls 1 [(0, .ref (ad_97 22))] := by rw [(kad_97 (22) (by omega))]; exact hl
  rw [← (kad_97 (22) (by omega))]
  have hI_101 : ∀ r, 23 ≤ r → r < 32 → en_98 r = mIni G r := ini_s (m := 31) hI_94 ken_98 he_99
  have KA_102 : ∀ k, k < 23 → ad_97 k = ad k := fun k hk => Eq.trans (kad_97 k (by omega)) (KA_95 k hk)
  have KE_103 : ∀ k, k < 22 → en_98 k = en k := fun k hk => Eq.trans (ken_98 k (by omega)) (KE_96 k hk)
  refine r_put (ci := 8) (v := .ref (ad_97 31)) (ty := .array .byte) (C := RX8) (T := TX8) (N := 31) (fs' := [.ref (ad_97 23), .ref (ad_97 24), .ref (ad_97 25), .int (0), .ref (ad_97 26), .ref (ad_97 27), .ref (ad_97 28), .ref (ad_97 29), .ref (ad_97 30), .int (0), .int (0), .int (0), .ref (ad_97 31), .null, .null, .null, .null, .int (0), .null, .null, .null, .null, .null, .int (0), .null, .null, .null, .null, .null, .null, .null]) hx hb hts inlX8 tyX8 tyX8_ok nmX8 hown hK hs (22) (by omega) he_100 rfl 12 (by decide) (hts _ w_fl_RX8_35) (Or.inr ⟨rfl, hnm, rfl⟩) (by decide +kernel) rfl rfl (Nat.le_of_ble_eq_true rfl) rfl dX8_init_81 (fun H locs en_104 hen_104 hs => ?_)
  have he_105 : en_104 (22) = .inr (8, [.ref (ad_97 23), .ref (ad_97 24), .ref (ad_97 25), .int (0), .ref (ad_97 26), .ref (ad_97 27), .ref (ad_97 28), .ref (ad_97 29), .ref (ad_97 30), .int (0), .int (0), .int (0), .ref (ad_97 31), .null, .null, .null, .null, .int (0), .null, .null, .null, .null, .null, .int (0), .null, .null, .null, .null, .null, .null, .null]) := by rw [hen_104]; exact va_up_self _ _ _
  have hI_106 : ∀ r, 23 ≤ r → r < 32 → en_104 r = mIni G r := fun r a b => by rw [hen_104, va_up_ne _ _ (by omega)]; exact hI_101 r a b
  have KA_107 : ∀ k, k < 23 → ad_97 k = ad k := fun k hk => Eq.trans (rfl) (KA_102 k hk)
  have KE_108 : ∀ k, k < 22 → en_104 k = en k := fun k hk => Eq.trans (by rw [hen_104]; exact va_up_ne _ _ (by omega)) (KE_103 k hk)
  refine lv_aload_n hx hb dX8_init_84 rfl (lv_at hl 0 rfl) ?_
  refine lv_bipush (v := 82) hx hb dX8_init_85 (by decide) ?_
  refine r_topi (y := nI (82)) rfl ?_
  refine r_newa (atype := .int) (ty := .int) (a0 := (82, .inl (fun _ => 0))) (N' := 82) hx hb (hts _ w_ac_int) rfl hK hs hA 1 rfl (fun _ h9 => h9) (fun _ => rfl) (nI_pos (by decide)) (nI_clamp (by decide)) (show (82) * 4 ≤ 536870912 by omega) (Nat.le_of_ble_eq_true rfl) (Nat.le_of_ble_eq_true rfl) dX8_init_87 (fun qq H ad_109 en_110 had_109 hen_110 hq hs => ?_)
  subst hq
  have kad_109 : ∀ k, k < 32 → ad_109 k = ad_97 k := fun k hk => by rw [had_109]; exact va_up_ne _ _ (by omega)
  have ken_110 : ∀ k, k < 32 → en_110 k = en_104 k := fun k hk => by rw [hen_110]; exact va_up_ne _ _ (by omega)
  have he_111 : en_110 (32) = aI G (82) (fun _ => 0) := by rw [hen_110]; exact va_up_self _ _ _
  have he_112 : en_110 (22) = .inr (8, [.ref (ad_109 23), .ref (ad_109 24), .ref (ad_109 25), .int (0), .ref (ad_109 26), .ref (ad_109 27), .ref (ad_109 28), .ref (ad_109 29), .ref (ad_109 30), .int (0), .int (0), .int (0), .ref (ad_109 31), .null, .null, .null, .null, .int (0), .null, .null, .null, .null, .null, .int (0), .null, .null, .null, .null, .null, .null, .null]) := by rw [(kad_109 (23) (by omega)), (kad_109 (24) (by omega)), (kad_109 (25) (by omega)), (kad_109 (26) (by omega)), (kad_109 (27) (by omega)), (kad_109 (28) (by omega)), (kad_109 (29) (by omega)), (kad_109 (30) (by omega)), (kad_109 (31) (by omega))]; exact (ken_110 (22) (by omega)).trans he_105
  have hl : lv_has ls 1 [(0, .ref (ad_109 22))] := by rw [(kad_109 (22) (by omega))]; exact hl
  rw [← (kad_109 (22) (by omega))]
  have hI_113 : ∀ r, 23 ≤ r → r < 33 → en_110 r = mIni G r := ini_s (m := 32) hI_106 ken_110 he_111
  have KA_114 : ∀ k, k < 23 → ad_109 k = ad k := fun k hk => Eq.trans (kad_109 k (by omega)) (KA_107 k hk)
  have KE_115 : ∀ k, k < 22 → en_110 k = en k := fun k hk => Eq.trans (ken_110 k (by omega)) (KE_108 k hk)
  refine r_put (ci := 8) (v := .ref (ad_109 32)) (ty := .array .int) (C := RX8) (T := TX8) (N := 31) (fs' := [.ref (ad_109 23), .ref (ad_109 24), .ref (ad_109 25), .int (0), .ref (ad_109 26), .ref (ad_109 27), .ref (ad_109 28), .ref (ad_109 29), .ref (ad_109 30), .int (0), .int (0), .int (0), .ref (ad_109 31), .ref (ad_109 32), .null, .null, .null, .int (0), .null, .null, .null, .null, .null, .int (0), .null, .null, .null, .null, .null, .null, .null]) hx hb hts inlX8 tyX8 tyX8_ok nmX8 hown hK hs (22) (by omega) he_112 rfl 13 (by decide) (hts _ w_fl_RX8_39) (Or.inr ⟨rfl, hnm, rfl⟩) (by decide +kernel) rfl rfl (Nat.le_of_ble_eq_true rfl) rfl dX8_init_89 (fun H locs en_116 hen_116 hs => ?_)
  have he_117 : en_116 (22) = .inr (8, [.ref (ad_109 23), .ref (ad_109 24), .ref (ad_109 25), .int (0), .ref (ad_109 26), .ref (ad_109 27), .ref (ad_109 28), .ref (ad_109 29), .ref (ad_109 30), .int (0), .int (0), .int (0), .ref (ad_109 31), .ref (ad_109 32), .null, .null, .null, .int (0), .null, .null, .null, .null, .null, .int (0), .null, .null, .null, .null, .null, .null, .null]) := by rw [hen_116]; exact va_up_self _ _ _
  have hI_118 : ∀ r, 23 ≤ r → r < 33 → en_116 r = mIni G r := fun r a b => by rw [hen_116, va_up_ne _ _ (by omega)]; exact hI_113 r a b
  have KA_119 : ∀ k, k < 23 → ad_109 k = ad k := fun k hk => Eq.trans (rfl) (KA_114 k hk)
  have KE_120 : ∀ k, k < 22 → en_116 k = en k := fun k hk => Eq.trans (by rw [hen_116]; exact va_up_ne _ _ (by omega)) (KE_115 k hk)
  refine lv_aload_n hx hb dX8_init_92 rfl (lv_at hl 0 rfl) ?_
  refine lv_bipush (v := 82) hx hb dX8_init_93 (by decide) ?_
  refine r_topi (y := nI (82)) rfl ?_
  refine r_newa (atype := .int) (ty := .int) (a0 := (82, .inl (fun _ => 0))) (N' := 82) hx hb (hts _ w_ac_int) rfl hK hs hA 1 rfl (fun _ h9 => h9) (fun _ => rfl) (nI_pos (by decide)) (nI_clamp (by decide)) (show (82) * 4 ≤ 536870912 by omega) (Nat.le_of_ble_eq_true rfl) (Nat.le_of_ble_eq_true rfl) dX8_init_95 (fun qq H ad_121 en_122 had_121 hen_122 hq hs => ?_)
  subst hq
  have kad_121 : ∀ k, k < 33 → ad_121 k = ad_109 k := fun k hk => by rw [had_121]; exact va_up_ne _ _ (by omega)
  have ken_122 : ∀ k, k < 33 → en_122 k = en_116 k := fun k hk => by rw [hen_122]; exact va_up_ne _ _ (by omega)
  have he_123 : en_122 (33) = aI G (82) (fun _ => 0) := by rw [hen_122]; exact va_up_self _ _ _
  have he_124 : en_122 (22) = .inr (8, [.ref (ad_121 23), .ref (ad_121 24), .ref (ad_121 25), .int (0), .ref (ad_121 26), .ref (ad_121 27), .ref (ad_121 28), .ref (ad_121 29), .ref (ad_121 30), .int (0), .int (0), .int (0), .ref (ad_121 31), .ref (ad_121 32), .null, .null, .null, .int (0), .null, .null, .null, .null, .null, .int (0), .null, .null, .null, .null, .null, .null, .null]) := by rw [(kad_121 (23) (by omega)), (kad_121 (24) (by omega)), (kad_121 (25) (by omega)), (kad_121 (26) (by omega)), (kad_121 (27) (by omega)), (kad_121 (28) (by omega)), (kad_121 (29) (by omega)), (kad_121 (30) (by omega)), (kad_121 (31) (by omega)), (kad_121 (32) (by omega))]; exact (ken_122 (22) (by omega)).trans he_117
  have hl : lv_has ls 1 [(0, .ref (ad_121 22))] := by rw [(kad_121 (22) (by omega))]; exact hl
  rw [← (kad_121 (22) (by omega))]
  have hI_125 : ∀ r, 23 ≤ r → r < 34 → en_122 r = mIni G r := ini_s (m := 33) hI_118 ken_122 he_123
  have KA_126 : ∀ k, k < 23 → ad_121 k = ad k := fun k hk => Eq.trans (kad_121 k (by omega)) (KA_119 k hk)
  have KE_127 : ∀ k, k < 22 → en_122 k = en k := fun k hk => Eq.trans (ken_122 k (by omega)) (KE_120 k hk)
  refine r_put (ci := 8) (v := .ref (ad_121 33)) (ty := .array .int) (C := RX8) (T := TX8) (N := 31) (fs' := [.ref (ad_121 23), .ref (ad_121 24), .ref (ad_121 25), .int (0), .ref (ad_121 26), .ref (ad_121 27), .ref (ad_121 28), .ref (ad_121 29), .ref (ad_121 30), .int (0), .int (0), .int (0), .ref (ad_121 31), .ref (ad_121 32), .ref (ad_121 33), .null, .null, .int (0), .null, .null, .null, .null, .null, .int (0), .null, .null, .null, .null, .null, .null, .null]) hx hb hts inlX8 tyX8 tyX8_ok nmX8 hown hK hs (22) (by omega) he_124 rfl 14 (by decide) (hts _ w_fl_RX8_42) (Or.inr ⟨rfl, hnm, rfl⟩) (by decide +kernel) rfl rfl (Nat.le_of_ble_eq_true rfl) rfl dX8_init_97 (fun H locs en_128 hen_128 hs => ?_)
  have he_129 : en_128 (22) = .inr (8, [.ref (ad_121 23), .ref (ad_121 24), .ref (ad_121 25), .int (0), .ref (ad_121 26), .ref (ad_121 27), .ref (ad_121 28), .ref (ad_121 29), .ref (ad_121 30), .int (0), .int (0), .int (0), .ref (ad_121 31), .ref (ad_121 32), .ref (ad_121 33), .null, .null, .int (0), .null, .null, .null, .null, .null, .int (0), .null, .null, .null, .null, .null, .null, .null]) := by rw [hen_128]; exact va_up_self _ _ _
  have hI_130 : ∀ r, 23 ≤ r → r < 34 → en_128 r = mIni G r := fun r a b => by rw [hen_128, va_up_ne _ _ (by omega)]; exact hI_125 r a b
  have KA_131 : ∀ k, k < 23 → ad_121 k = ad k := fun k hk => Eq.trans (rfl) (KA_126 k hk)
  have KE_132 : ∀ k, k < 22 → en_128 k = en k := fun k hk => Eq.trans (by rw [hen_128]; exact va_up_ne _ _ (by omega)) (KE_127 k hk)
  refine lv_aload_n hx hb dX8_init_100 rfl (lv_at hl 0 rfl) ?_
  refine lv_bipush (v := 82) hx hb dX8_init_101 (by decide) ?_
  refine r_topi (y := nI (82)) rfl ?_
  refine r_newa (atype := .int) (ty := .int) (a0 := (82, .inl (fun _ => 0))) (N' := 82) hx hb (hts _ w_ac_int) rfl hK hs hA 1 rfl (fun _ h9 => h9) (fun _ => rfl) (nI_pos (by decide)) (nI_clamp (by decide)) (show (82) * 4 ≤ 536870912 by omega) (Nat.le_of_ble_eq_true rfl) (Nat.le_of_ble_eq_true rfl) dX8_init_103 (fun qq H ad_133 en_134 had_133 hen_134 hq hs => ?_)
  subst hq
  have kad_133 : ∀ k, k < 34 → ad_133 k = ad_121 k := fun k hk => by rw [had_133]; exact va_up_ne _ _ (by omega)
  have ken_134 : ∀ k, k < 34 → en_134 k = en_128 k := fun k hk => by rw [hen_134]; exact va_up_ne _ _ (by omega)
  have he_135 : en_134 (34) = aI G (82) (fun _ => 0) := by rw [hen_134]; exact va_up_self _ _ _
  have he_136 : en_134 (22) = .inr (8, [.ref (ad_133 23), .ref (ad_133 24), .ref (ad_133 25), .int (0), .ref (ad_133 26), .ref (ad_133 27), .ref (ad_133 28), .ref (ad_133 29), .ref (ad_133 30), .int (0), .int (0), .int (0), .ref (ad_133 31), .ref (ad_133 32), .ref (ad_133 33), .null, .null, .int (0), .null, .null, .null, .null, .null, .int (0), .null, .null, .null, .null, .null, .null, .null]) := by rw [(kad_133 (23) (by omega)), (kad_133 (24) (by omega)), (kad_133 (25) (by omega)), (kad_133 (26) (by omega)), (kad_133 (27) (by omega)), (kad_133 (28) (by omega)), (kad_133 (29) (by omega)), (kad_133 (30) (by omega)), (kad_133 (31) (by omega)), (kad_133 (32) (by omega)), (kad_133 (33) (by omega))]; exact (ken_134 (22) (by omega)).trans he_129
  have hl : lv_has ls 1 [(0, .ref (ad_133 22))] := by rw [(kad_133 (22) (by omega))]; exact hl
  rw [← (kad_133 (22) (by omega))]
  have hI_137 : ∀ r, 23 ≤ r → r < 35 → en_134 r = mIni G r := ini_s (m := 34) hI_130 ken_134 he_135
  have KA_138 : ∀ k, k < 23 → ad_133 k = ad k := fun k hk => Eq.trans (kad_133 k (by omega)) (KA_131 k hk)
  have KE_139 : ∀ k, k < 22 → en_134 k = en k := fun k hk => Eq.trans (ken_134 k (by omega)) (KE_132 k hk)
  refine r_put (ci := 8) (v := .ref (ad_133 34)) (ty := .array .int) (C := RX8) (T := TX8) (N := 31) (fs' := [.ref (ad_133 23), .ref (ad_133 24), .ref (ad_133 25), .int (0), .ref (ad_133 26), .ref (ad_133 27), .ref (ad_133 28), .ref (ad_133 29), .ref (ad_133 30), .int (0), .int (0), .int (0), .ref (ad_133 31), .ref (ad_133 32), .ref (ad_133 33), .ref (ad_133 34), .null, .int (0), .null, .null, .null, .null, .null, .int (0), .null, .null, .null, .null, .null, .null, .null]) hx hb hts inlX8 tyX8 tyX8_ok nmX8 hown hK hs (22) (by omega) he_136 rfl 15 (by decide) (hts _ w_fl_RX8_45) (Or.inr ⟨rfl, hnm, rfl⟩) (by decide +kernel) rfl rfl (Nat.le_of_ble_eq_true rfl) rfl dX8_init_105 (fun H locs en_140 hen_140 hs => ?_)
  have he_141 : en_140 (22) = .inr (8, [.ref (ad_133 23), .ref (ad_133 24), .ref (ad_133 25), .int (0), .ref (ad_133 26), .ref (ad_133 27), .ref (ad_133 28), .ref (ad_133 29), .ref (ad_133 30), .int (0), .int (0), .int (0), .ref (ad_133 31), .ref (ad_133 32), .ref (ad_133 33), .ref (ad_133 34), .null, .int (0), .null, .null, .null, .null, .null, .int (0), .null, .null, .null, .null, .null, .null, .null]) := by rw [hen_140]; exact va_up_self _ _ _
  have hI_142 : ∀ r, 23 ≤ r → r < 35 → en_140 r = mIni G r := fun r a b => by rw [hen_140, va_up_ne _ _ (by omega)]; exact hI_137 r a b
  have KA_143 : ∀ k, k < 23 → ad_133 k = ad k := fun k hk => Eq.trans (rfl) (KA_138 k hk)
  have KE_144 : ∀ k, k < 22 → en_140 k = en k := fun k hk => Eq.trans (by rw [hen_140]; exact va_up_ne _ _ (by omega)) (KE_139 k hk)
  refine lv_aload_n hx hb dX8_init_108 rfl (lv_at hl 0 rfl) ?_
  refine lv_bipush (v := 82) hx hb dX8_init_109 (by decide) ?_
  refine r_topi (y := nI (82)) rfl ?_
  refine r_newa (atype := .int) (ty := .int) (a0 := (82, .inl (fun _ => 0))) (N' := 82) hx hb (hts _ w_ac_int) rfl hK hs hA 1 rfl (fun _ h9 => h9) (fun _ => rfl) (nI_pos (by decide)) (nI_clamp (by decide)) (show (82) * 4 ≤ 536870912 by omega) (Nat.le_of_ble_eq_true rfl) (Nat.le_of_ble_eq_true rfl) dX8_init_111 (fun qq H ad_145 en_146 had_145 hen_146 hq hs => ?_)
  subst hq
  have kad_145 : ∀ k, k < 35 → ad_145 k = ad_133 k := fun k hk => by rw [had_145]; exact va_up_ne _ _ (by omega)
  have ken_146 : ∀ k, k < 35 → en_146 k = en_140 k := fun k hk => by rw [hen_146]; exact va_up_ne _ _ (by omega)
  have he_147 : en_146 (35) = aI G (82) (fun _ => 0) := by rw [hen_146]; exact va_up_self _ _ _
  have he_148 : en_146 (22) = .inr (8, [.ref (ad_145 23), .ref (ad_145 24), .ref (ad_145 25), .int (0), .ref (ad_145 26), .ref (ad_145 27), .ref (ad_145 28), .ref (ad_145 29), .ref (ad_145 30), .int (0), .int (0), .int (0), .ref (ad_145 31), .ref (ad_145 32), .ref (ad_145 33), .ref (ad_145 34), .null, .int (0), .null, .null, .null, .null, .null, .int (0), .null, .null, .null, .null, .null, .null, .null]) := by rw [(kad_145 (23) (by omega)), (kad_145 (24) (by omega)), (kad_145 (25) (by omega)), (kad_145 (26) (by omega)), (kad_145 (27) (by omega)), (kad_145 (28) (by omega)), (kad_145 (29) (by omega)), (kad_145 (30) (by omega)), (kad_145 (31) (by omega)), (kad_145 (32) (by omega)), (kad_145 (33) (by omega)), (kad_145 (34) (by omega))]; exact (ken_146 (22) (by omega)).trans he_141
  have hl : lv_has ls 1 [(0, .ref (ad_145 22))] := by rw [(kad_145 (22) (by omega))]; exact hl
  rw [← (kad_145 (22) (by omega))]
  have hI_149 : ∀ r, 23 ≤ r → r < 36 → en_146 r = mIni G r := ini_s (m := 35) hI_142 ken_146 he_147
  have KA_150 : ∀ k, k < 23 → ad_145 k = ad k := fun k hk => Eq.trans (kad_145 k (by omega)) (KA_143 k hk)
  have KE_151 : ∀ k, k < 22 → en_146 k = en k := fun k hk => Eq.trans (ken_146 k (by omega)) (KE_144 k hk)
  refine r_put (ci := 8) (v := .ref (ad_145 35)) (ty := .array .int) (C := RX8) (T := TX8) (N := 31) (fs' := [.ref (ad_145 23), .ref (ad_145 24), .ref (ad_145 25), .int (0), .ref (ad_145 26), .ref (ad_145 27), .ref (ad_145 28), .ref (ad_145 29), .ref (ad_145 30), .int (0), .int (0), .int (0), .ref (ad_145 31), .ref (ad_145 32), .ref (ad_145 33), .ref (ad_145 34), .ref (ad_145 35), .int (0), .null, .null, .null, .null, .null, .int (0), .null, .null, .null, .null, .null, .null, .null]) hx hb hts inlX8 tyX8 tyX8_ok nmX8 hown hK hs (22) (by omega) he_148 rfl 16 (by decide) (hts _ w_fl_RX8_48) (Or.inr ⟨rfl, hnm, rfl⟩) (by decide +kernel) rfl rfl (Nat.le_of_ble_eq_true rfl) rfl dX8_init_113 (fun H locs en_152 hen_152 hs => ?_)
  have he_153 : en_152 (22) = .inr (8, [.ref (ad_145 23), .ref (ad_145 24), .ref (ad_145 25), .int (0), .ref (ad_145 26), .ref (ad_145 27), .ref (ad_145 28), .ref (ad_145 29), .ref (ad_145 30), .int (0), .int (0), .int (0), .ref (ad_145 31), .ref (ad_145 32), .ref (ad_145 33), .ref (ad_145 34), .ref (ad_145 35), .int (0), .null, .null, .null, .null, .null, .int (0), .null, .null, .null, .null, .null, .null, .null]) := by rw [hen_152]; exact va_up_self _ _ _
  have hI_154 : ∀ r, 23 ≤ r → r < 36 → en_152 r = mIni G r := fun r a b => by rw [hen_152, va_up_ne _ _ (by omega)]; exact hI_149 r a b
  have KA_155 : ∀ k, k < 23 → ad_145 k = ad k := fun k hk => Eq.trans (rfl) (KA_150 k hk)
  have KE_156 : ∀ k, k < 22 → en_152 k = en k := fun k hk => Eq.trans (by rw [hen_152]; exact va_up_ne _ _ (by omega)) (KE_151 k hk)
  refine lv_aload_n hx hb dX8_init_116 rfl (lv_at hl 0 rfl) ?_
  refine lv_sipush (v := 3002) hx hb dX8_init_117 (by decide) ?_
  refine r_topi (y := nI (3002)) rfl ?_
  refine r_newa (atype := .int) (ty := .int) (a0 := (3002, .inl (fun _ => 0))) (N' := 3002) hx hb (hts _ w_ac_int) rfl hK hs hA 1 rfl (fun _ h9 => h9) (fun _ => rfl) (nI_pos (by decide)) (nI_clamp (by decide)) (show (3002) * 4 ≤ 536870912 by omega) (Nat.le_of_ble_eq_true rfl) (Nat.le_of_ble_eq_true rfl) dX8_init_120 (fun qq H ad_157 en_158 had_157 hen_158 hq hs => ?_)
  subst hq
  have kad_157 : ∀ k, k < 36 → ad_157 k = ad_145 k := fun k hk => by rw [had_157]; exact va_up_ne _ _ (by omega)
  have ken_158 : ∀ k, k < 36 → en_158 k = en_152 k := fun k hk => by rw [hen_158]; exact va_up_ne _ _ (by omega)
  have he_159 : en_158 (36) = aI G (3002) (fun _ => 0) := by rw [hen_158]; exact va_up_self _ _ _
  have he_160 : en_158 (22) = .inr (8, [.ref (ad_157 23), .ref (ad_157 24), .ref (ad_157 25), .int (0), .ref (ad_157 26), .ref (ad_157 27), .ref (ad_157 28), .ref (ad_157 29), .ref (ad_157 30), .int (0), .int (0), .int (0), .ref (ad_157 31), .ref (ad_157 32), .ref (ad_157 33), .ref (ad_157 34), .ref (ad_157 35), .int (0), .null, .null, .null, .null, .null, .int (0), .null, .null, .null, .null, .null, .null, .null]) := by rw [(kad_157 (23) (by omega)), (kad_157 (24) (by omega)), (kad_157 (25) (by omega)), (kad_157 (26) (by omega)), (kad_157 (27) (by omega)), (kad_157 (28) (by omega)), (kad_157 (29) (by omega)), (kad_157 (30) (by omega)), (kad_157 (31) (by omega)), (kad_157 (32) (by omega)), (kad_157 (33) (by omega)), (kad_157 (34) (by omega)), (kad_157 (35) (by omega))]; exact (ken_158 (22) (by omega)).trans he_153
  have hl : lv_has ls 1 [(0, .ref (ad_157 22))] := by rw [(kad_157 (22) (by omega))]; exact hl
  rw [← (kad_157 (22) (by omega))]
  have hI_161 : ∀ r, 23 ≤ r → r < 37 → en_158 r = mIni G r := ini_s (m := 36) hI_154 ken_158 he_159
  have KA_162 : ∀ k, k < 23 → ad_157 k = ad k := fun k hk => Eq.trans (kad_157 k (by omega)) (KA_155 k hk)
  have KE_163 : ∀ k, k < 22 → en_158 k = en k := fun k hk => Eq.trans (ken_158 k (by omega)) (KE_156 k hk)
  refine r_put (ci := 8) (v := .ref (ad_157 36)) (ty := .array .int) (C := RX8) (T := TX8) (N := 31) (fs' := [.ref (ad_157 23), .ref (ad_157 24), .ref (ad_157 25), .int (0), .ref (ad_157 26), .ref (ad_157 27), .ref (ad_157 28), .ref (ad_157 29), .ref (ad_157 30), .int (0), .int (0), .int (0), .ref (ad_157 31), .ref (ad_157 32), .ref (ad_157 33), .ref (ad_157 34), .ref (ad_157 35), .int (0), .ref (ad_157 36), .null, .null, .null, .null, .int (0), .null, .null, .null, .null, .null, .null, .null]) hx hb hts inlX8 tyX8 tyX8_ok nmX8 hown hK hs (22) (by omega) he_160 rfl 18 (by decide) (hts _ w_fl_RX8_51) (Or.inr ⟨rfl, hnm, rfl⟩) (by decide +kernel) rfl rfl (Nat.le_of_ble_eq_true rfl) rfl dX8_init_122 (fun H locs en_164 hen_164 hs => ?_)
  have he_165 : en_164 (22) = .inr (8, [.ref (ad_157 23), .ref (ad_157 24), .ref (ad_157 25), .int (0), .ref (ad_157 26), .ref (ad_157 27), .ref (ad_157 28), .ref (ad_157 29), .ref (ad_157 30), .int (0), .int (0), .int (0), .ref (ad_157 31), .ref (ad_157 32), .ref (ad_157 33), .ref (ad_157 34), .ref (ad_157 35), .int (0), .ref (ad_157 36), .null, .null, .null, .null, .int (0), .null, .null, .null, .null, .null, .null, .null]) := by rw [hen_164]; exact va_up_self _ _ _
  have hI_166 : ∀ r, 23 ≤ r → r < 37 → en_164 r = mIni G r := fun r a b => by rw [hen_164, va_up_ne _ _ (by omega)]; exact hI_161 r a b
  have KA_167 : ∀ k, k < 23 → ad_157 k = ad k := fun k hk => Eq.trans (rfl) (KA_162 k hk)
  have KE_168 : ∀ k, k < 22 → en_164 k = en k := fun k hk => Eq.trans (by rw [hen_164]; exact va_up_ne _ _ (by omega)) (KE_163 k hk)
  refine lv_aload_n hx hb dX8_init_125 rfl (lv_at hl 0 rfl) ?_
  refine lv_sipush (v := 3002) hx hb dX8_init_126 (by decide) ?_
  refine r_topi (y := nI (3002)) rfl ?_
  refine r_newa (atype := .int) (ty := .int) (a0 := (3002, .inl (fun _ => 0))) (N' := 3002) hx hb (hts _ w_ac_int) rfl hK hs hA 1 rfl (fun _ h9 => h9) (fun _ => rfl) (nI_pos (by decide)) (nI_clamp (by decide)) (show (3002) * 4 ≤ 536870912 by omega) (Nat.le_of_ble_eq_true rfl) (Nat.le_of_ble_eq_true rfl) dX8_init_129 (fun qq H ad_169 en_170 had_169 hen_170 hq hs => ?_)
  subst hq
  have kad_169 : ∀ k, k < 37 → ad_169 k = ad_157 k := fun k hk => by rw [had_169]; exact va_up_ne _ _ (by omega)
  have ken_170 : ∀ k, k < 37 → en_170 k = en_164 k := fun k hk => by rw [hen_170]; exact va_up_ne _ _ (by omega)
  have he_171 : en_170 (37) = aI G (3002) (fun _ => 0) := by rw [hen_170]; exact va_up_self _ _ _
  have he_172 : en_170 (22) = .inr (8, [.ref (ad_169 23), .ref (ad_169 24), .ref (ad_169 25), .int (0), .ref (ad_169 26), .ref (ad_169 27), .ref (ad_169 28), .ref (ad_169 29), .ref (ad_169 30), .int (0), .int (0), .int (0), .ref (ad_169 31), .ref (ad_169 32), .ref (ad_169 33), .ref (ad_169 34), .ref (ad_169 35), .int (0), .ref (ad_169 36), .null, .null, .null, .null, .int (0), .null, .null, .null, .null, .null, .null, .null]) := by rw [(kad_169 (23) (by omega)), (kad_169 (24) (by omega)), (kad_169 (25) (by omega)), (kad_169 (26) (by omega)), (kad_169 (27) (by omega)), (kad_169 (28) (by omega)), (kad_169 (29) (by omega)), (kad_169 (30) (by omega)), (kad_169 (31) (by omega)), (kad_169 (32) (by omega)), (kad_169 (33) (by omega)), (kad_169 (34) (by omega)), (kad_169 (35) (by omega)), (kad_169 (36) (by omega))]; exact (ken_170 (22) (by omega)).trans he_165
  have hl : lv_has ls 1 [(0, .ref (ad_169 22))] := by rw [(kad_169 (22) (by omega))]; exact hl
  rw [← (kad_169 (22) (by omega))]
  have hI_173 : ∀ r, 23 ≤ r → r < 38 → en_170 r = mIni G r := ini_s (m := 37) hI_166 ken_170 he_171
  have KA_174 : ∀ k, k < 23 → ad_169 k = ad k := fun k hk => Eq.trans (kad_169 k (by omega)) (KA_167 k hk)
  have KE_175 : ∀ k, k < 22 → en_170 k = en k := fun k hk => Eq.trans (ken_170 k (by omega)) (KE_168 k hk)
  refine r_put (ci := 8) (v := .ref (ad_169 37)) (ty := .array .int) (C := RX8) (T := TX8) (N := 31) (fs' := [.ref (ad_169 23), .ref (ad_169 24), .ref (ad_169 25), .int (0), .ref (ad_169 26), .ref (ad_169 27), .ref (ad_169 28), .ref (ad_169 29), .ref (ad_169 30), .int (0), .int (0), .int (0), .ref (ad_169 31), .ref (ad_169 32), .ref (ad_169 33), .ref (ad_169 34), .ref (ad_169 35), .int (0), .ref (ad_169 36), .ref (ad_169 37), .null, .null, .null, .int (0), .null, .null, .null, .null, .null, .null, .null]) hx hb hts inlX8 tyX8 tyX8_ok nmX8 hown hK hs (22) (by omega) he_172 rfl 19 (by decide) (hts _ w_fl_RX8_54) (Or.inr ⟨rfl, hnm, rfl⟩) (by decide +kernel) rfl rfl (Nat.le_of_ble_eq_true rfl) rfl dX8_init_131 (fun H locs en_176 hen_176 hs => ?_)
  have he_177 : en_176 (22) = .inr (8, [.ref (ad_169 23), .ref (ad_169 24), .ref (ad_169 25), .int (0), .ref (ad_169 26), .ref (ad_169 27), .ref (ad_169 28), .ref (ad_169 29), .ref (ad_169 30), .int (0), .int (0), .int (0), .ref (ad_169 31), .ref (ad_169 32), .ref (ad_169 33), .ref (ad_169 34), .ref (ad_169 35), .int (0), .ref (ad_169 36), .ref (ad_169 37), .null, .null, .null, .int (0), .null, .null, .null, .null, .null, .null, .null]) := by rw [hen_176]; exact va_up_self _ _ _
  have hI_178 : ∀ r, 23 ≤ r → r < 38 → en_176 r = mIni G r := fun r a b => by rw [hen_176, va_up_ne _ _ (by omega)]; exact hI_173 r a b
  have KA_179 : ∀ k, k < 23 → ad_169 k = ad k := fun k hk => Eq.trans (rfl) (KA_174 k hk)
  have KE_180 : ∀ k, k < 22 → en_176 k = en k := fun k hk => Eq.trans (by rw [hen_176]; exact va_up_ne _ _ (by omega)) (KE_175 k hk)
  refine lv_aload_n hx hb dX8_init_134 rfl (lv_at hl 0 rfl) ?_
  refine lv_sipush (v := 3002) hx hb dX8_init_135 (by decide) ?_
  refine r_topi (y := nI (3002)) rfl ?_
  refine r_newa (atype := .int) (ty := .int) (a0 := (3002, .inl (fun _ => 0))) (N' := 3002) hx hb (hts _ w_ac_int) rfl hK hs hA 1 rfl (fun _ h9 => h9) (fun _ => rfl) (nI_pos (by decide)) (nI_clamp (by decide)) (show (3002) * 4 ≤ 536870912 by omega) (Nat.le_of_ble_eq_true rfl) (Nat.le_of_ble_eq_true rfl) dX8_init_138 (fun qq H ad_181 en_182 had_181 hen_182 hq hs => ?_)
  subst hq
  have kad_181 : ∀ k, k < 38 → ad_181 k = ad_169 k := fun k hk => by rw [had_181]; exact va_up_ne _ _ (by omega)
  have ken_182 : ∀ k, k < 38 → en_182 k = en_176 k := fun k hk => by rw [hen_182]; exact va_up_ne _ _ (by omega)
  have he_183 : en_182 (38) = aI G (3002) (fun _ => 0) := by rw [hen_182]; exact va_up_self _ _ _
  have he_184 : en_182 (22) = .inr (8, [.ref (ad_181 23), .ref (ad_181 24), .ref (ad_181 25), .int (0), .ref (ad_181 26), .ref (ad_181 27), .ref (ad_181 28), .ref (ad_181 29), .ref (ad_181 30), .int (0), .int (0), .int (0), .ref (ad_181 31), .ref (ad_181 32), .ref (ad_181 33), .ref (ad_181 34), .ref (ad_181 35), .int (0), .ref (ad_181 36), .ref (ad_181 37), .null, .null, .null, .int (0), .null, .null, .null, .null, .null, .null, .null]) := by rw [(kad_181 (23) (by omega)), (kad_181 (24) (by omega)), (kad_181 (25) (by omega)), (kad_181 (26) (by omega)), (kad_181 (27) (by omega)), (kad_181 (28) (by omega)), (kad_181 (29) (by omega)), (kad_181 (30) (by omega)), (kad_181 (31) (by omega)), (kad_181 (32) (by omega)), (kad_181 (33) (by omega)), (kad_181 (34) (by omega)), (kad_181 (35) (by omega)), (kad_181 (36) (by omega)), (kad_181 (37) (by omega))]; exact (ken_182 (22) (by omega)).trans he_177
  have hl : lv_has ls 1 [(0, .ref (ad_181 22))] := by rw [(kad_181 (22) (by omega))]; exact hl
  rw [← (kad_181 (22) (by omega))]
  have hI_185 : ∀ r, 23 ≤ r → r < 39 → en_182 r = mIni G r := ini_s (m := 38) hI_178 ken_182 he_183
  have KA_186 : ∀ k, k < 23 → ad_181 k = ad k := fun k hk => Eq.trans (kad_181 k (by omega)) (KA_179 k hk)
  have KE_187 : ∀ k, k < 22 → en_182 k = en k := fun k hk => Eq.trans (ken_182 k (by omega)) (KE_180 k hk)
  refine r_put (ci := 8) (v := .ref (ad_181 38)) (ty := .array .int) (C := RX8) (T := TX8) (N := 31) (fs' := [.ref (ad_181 23), .ref (ad_181 24), .ref (ad_181 25), .int (0), .ref (ad_181 26), .ref (ad_181 27), .ref (ad_181 28), .ref (ad_181 29), .ref (ad_181 30), .int (0), .int (0), .int (0), .ref (ad_181 31), .ref (ad_181 32), .ref (ad_181 33), .ref (ad_181 34), .ref (ad_181 35), .int (0), .ref (ad_181 36), .ref (ad_181 37), .ref (ad_181 38), .null, .null, .int (0), .null, .null, .null, .null, .null, .null, .null]) hx hb hts inlX8 tyX8 tyX8_ok nmX8 hown hK hs (22) (by omega) he_184 rfl 20 (by decide) (hts _ w_fl_RX8_57) (Or.inr ⟨rfl, hnm, rfl⟩) (by decide +kernel) rfl rfl (Nat.le_of_ble_eq_true rfl) rfl dX8_init_140 (fun H locs en_188 hen_188 hs => ?_)
  have he_189 : en_188 (22) = .inr (8, [.ref (ad_181 23), .ref (ad_181 24), .ref (ad_181 25), .int (0), .ref (ad_181 26), .ref (ad_181 27), .ref (ad_181 28), .ref (ad_181 29), .ref (ad_181 30), .int (0), .int (0), .int (0), .ref (ad_181 31), .ref (ad_181 32), .ref (ad_181 33), .ref (ad_181 34), .ref (ad_181 35), .int (0), .ref (ad_181 36), .ref (ad_181 37), .ref (ad_181 38), .null, .null, .int (0), .null, .null, .null, .null, .null, .null, .null]) := by rw [hen_188]; exact va_up_self _ _ _
  have hI_190 : ∀ r, 23 ≤ r → r < 39 → en_188 r = mIni G r := fun r a b => by rw [hen_188, va_up_ne _ _ (by omega)]; exact hI_185 r a b
  have KA_191 : ∀ k, k < 23 → ad_181 k = ad k := fun k hk => Eq.trans (rfl) (KA_186 k hk)
  have KE_192 : ∀ k, k < 22 → en_188 k = en k := fun k hk => Eq.trans (by rw [hen_188]; exact va_up_ne _ _ (by omega)) (KE_187 k hk)
  refine lv_aload_n hx hb dX8_init_143 rfl (lv_at hl 0 rfl) ?_
  refine lv_sipush (v := 3002) hx hb dX8_init_144 (by decide) ?_
  refine r_topi (y := nI (3002)) rfl ?_
  refine r_newa (atype := .int) (ty := .int) (a0 := (3002, .inl (fun _ => 0))) (N' := 3002) hx hb (hts _ w_ac_int) rfl hK hs hA 1 rfl (fun _ h9 => h9) (fun _ => rfl) (nI_pos (by decide)) (nI_clamp (by decide)) (show (3002) * 4 ≤ 536870912 by omega) (Nat.le_of_ble_eq_true rfl) (Nat.le_of_ble_eq_true rfl) dX8_init_147 (fun qq H ad_193 en_194 had_193 hen_194 hq hs => ?_)
  subst hq
  have kad_193 : ∀ k, k < 39 → ad_193 k = ad_181 k := fun k hk => by rw [had_193]; exact va_up_ne _ _ (by omega)
  have ken_194 : ∀ k, k < 39 → en_194 k = en_188 k := fun k hk => by rw [hen_194]; exact va_up_ne _ _ (by omega)
  have he_195 : en_194 (39) = aI G (3002) (fun _ => 0) := by rw [hen_194]; exact va_up_self _ _ _
  have he_196 : en_194 (22) = .inr (8, [.ref (ad_193 23), .ref (ad_193 24), .ref (ad_193 25), .int (0), .ref (ad_193 26), .ref (ad_193 27), .ref (ad_193 28), .ref (ad_193 29), .ref (ad_193 30), .int (0), .int (0), .int (0), .ref (ad_193 31), .ref (ad_193 32), .ref (ad_193 33), .ref (ad_193 34), .ref (ad_193 35), .int (0), .ref (ad_193 36), .ref (ad_193 37), .ref (ad_193 38), .null, .null, .int (0), .null, .null, .null, .null, .null, .null, .null]) := by rw [(kad_193 (23) (by omega)), (kad_193 (24) (by omega)), (kad_193 (25) (by omega)), (kad_193 (26) (by omega)), (kad_193 (27) (by omega)), (kad_193 (28) (by omega)), (kad_193 (29) (by omega)), (kad_193 (30) (by omega)), (kad_193 (31) (by omega)), (kad_193 (32) (by omega)), (kad_193 (33) (by omega)), (kad_193 (34) (by omega)), (kad_193 (35) (by omega)), (kad_193 (36) (by omega)), (kad_193 (37) (by omega)), (kad_193 (38) (by omega))]; exact (ken_194 (22) (by omega)).trans he_189
  have hl : lv_has ls 1 [(0, .ref (ad_193 22))] := by rw [(kad_193 (22) (by omega))]; exact hl
  rw [← (kad_193 (22) (by omega))]
  have hI_197 : ∀ r, 23 ≤ r → r < 40 → en_194 r = mIni G r := ini_s (m := 39) hI_190 ken_194 he_195
  have KA_198 : ∀ k, k < 23 → ad_193 k = ad k := fun k hk => Eq.trans (kad_193 k (by omega)) (KA_191 k hk)
  have KE_199 : ∀ k, k < 22 → en_194 k = en k := fun k hk => Eq.trans (ken_194 k (by omega)) (KE_192 k hk)
  refine r_put (ci := 8) (v := .ref (ad_193 39)) (ty := .array .int) (C := RX8) (T := TX8) (N := 31) (fs' := [.ref (ad_193 23), .ref (ad_193 24), .ref (ad_193 25), .int (0), .ref (ad_193 26), .ref (ad_193 27), .ref (ad_193 28), .ref (ad_193 29), .ref (ad_193 30), .int (0), .int (0), .int (0), .ref (ad_193 31), .ref (ad_193 32), .ref (ad_193 33), .ref (ad_193 34), .ref (ad_193 35), .int (0), .ref (ad_193 36), .ref (ad_193 37), .ref (ad_193 38), .ref (ad_193 39), .null, .int (0), .null, .null, .null, .null, .null, .null, .null]) hx hb hts inlX8 tyX8 tyX8_ok nmX8 hown hK hs (22) (by omega) he_196 rfl 21 (by decide) (hts _ w_fl_RX8_60) (Or.inr ⟨rfl, hnm, rfl⟩) (by decide +kernel) rfl rfl (Nat.le_of_ble_eq_true rfl) rfl dX8_init_149 (fun H locs en_200 hen_200 hs => ?_)
  have he_201 : en_200 (22) = .inr (8, [.ref (ad_193 23), .ref (ad_193 24), .ref (ad_193 25), .int (0), .ref (ad_193 26), .ref (ad_193 27), .ref (ad_193 28), .ref (ad_193 29), .ref (ad_193 30), .int (0), .int (0), .int (0), .ref (ad_193 31), .ref (ad_193 32), .ref (ad_193 33), .ref (ad_193 34), .ref (ad_193 35), .int (0), .ref (ad_193 36), .ref (ad_193 37), .ref (ad_193 38), .ref (ad_193 39), .null, .int (0), .null, .null, .null, .null, .null, .null, .null]) := by rw [hen_200]; exact va_up_self _ _ _
  have hI_202 : ∀ r, 23 ≤ r → r < 40 → en_200 r = mIni G r := fun r a b => by rw [hen_200, va_up_ne _ _ (by omega)]; exact hI_197 r a b
  have KA_203 : ∀ k, k < 23 → ad_193 k = ad k := fun k hk => Eq.trans (rfl) (KA_198 k hk)
  have KE_204 : ∀ k, k < 22 → en_200 k = en k := fun k hk => Eq.trans (by rw [hen_200]; exact va_up_ne _ _ (by omega)) (KE_199 k hk)
  refine lv_aload_n hx hb dX8_init_152 rfl (lv_at hl 0 rfl) ?_
  refine lv_sipush (v := 3002) hx hb dX8_init_153 (by decide) ?_
  refine r_topi (y := nI (3002)) rfl ?_
  refine r_newa (atype := .int) (ty := .int) (a0 := (3002, .inl (fun _ => 0))) (N' := 3002) hx hb (hts _ w_ac_int) rfl hK hs hA 1 rfl (fun _ h9 => h9) (fun _ => rfl) (nI_pos (by decide)) (nI_clamp (by decide)) (show (3002) * 4 ≤ 536870912 by omega) (Nat.le_of_ble_eq_true rfl) (Nat.le_of_ble_eq_true rfl) dX8_init_156 (fun qq H ad_205 en_206 had_205 hen_206 hq hs => ?_)
  subst hq
  have kad_205 : ∀ k, k < 40 → ad_205 k = ad_193 k := fun k hk => by rw [had_205]; exact va_up_ne _ _ (by omega)
  have ken_206 : ∀ k, k < 40 → en_206 k = en_200 k := fun k hk => by rw [hen_206]; exact va_up_ne _ _ (by omega)
  have he_207 : en_206 (40) = aI G (3002) (fun _ => 0) := by rw [hen_206]; exact va_up_self _ _ _
  have he_208 : en_206 (22) = .inr (8, [.ref (ad_205 23), .ref (ad_205 24), .ref (ad_205 25), .int (0), .ref (ad_205 26), .ref (ad_205 27), .ref (ad_205 28), .ref (ad_205 29), .ref (ad_205 30), .int (0), .int (0), .int (0), .ref (ad_205 31), .ref (ad_205 32), .ref (ad_205 33), .ref (ad_205 34), .ref (ad_205 35), .int (0), .ref (ad_205 36), .ref (ad_205 37), .ref (ad_205 38), .ref (ad_205 39), .null, .int (0), .null, .null, .null, .null, .null, .null, .null]) := by rw [(kad_205 (23) (by omega)), (kad_205 (24) (by omega)), (kad_205 (25) (by omega)), (kad_205 (26) (by omega)), (kad_205 (27) (by omega)), (kad_205 (28) (by omega)), (kad_205 (29) (by omega)), (kad_205 (30) (by omega)), (kad_205 (31) (by omega)), (kad_205 (32) (by omega)), (kad_205 (33) (by omega)), (kad_205 (34) (by omega)), (kad_205 (35) (by omega)), (kad_205 (36) (by omega)), (kad_205 (37) (by omega)), (kad_205 (38) (by omega)), (kad_205 (39) (by omega))]; exact (ken_206 (22) (by omega)).trans he_201
  have hl : lv_has ls 1 [(0, .ref (ad_205 22))] := by rw [(kad_205 (22) (by omega))]; exact hl
  rw [← (kad_205 (22) (by omega))]
  have hI_209 : ∀ r, 23 ≤ r → r < 41 → en_206 r = mIni G r := ini_s (m := 40) hI_202 ken_206 he_207
  have KA_210 : ∀ k, k < 23 → ad_205 k = ad k := fun k hk => Eq.trans (kad_205 k (by omega)) (KA_203 k hk)
  have KE_211 : ∀ k, k < 22 → en_206 k = en k := fun k hk => Eq.trans (ken_206 k (by omega)) (KE_204 k hk)
  refine r_put (ci := 8) (v := .ref (ad_205 40)) (ty := .array .int) (C := RX8) (T := TX8) (N := 31) (fs' := [.ref (ad_205 23), .ref (ad_205 24), .ref (ad_205 25), .int (0), .ref (ad_205 26), .ref (ad_205 27), .ref (ad_205 28), .ref (ad_205 29), .ref (ad_205 30), .int (0), .int (0), .int (0), .ref (ad_205 31), .ref (ad_205 32), .ref (ad_205 33), .ref (ad_205 34), .ref (ad_205 35), .int (0), .ref (ad_205 36), .ref (ad_205 37), .ref (ad_205 38), .ref (ad_205 39), .ref (ad_205 40), .int (0), .null, .null, .null, .null, .null, .null, .null]) hx hb hts inlX8 tyX8 tyX8_ok nmX8 hown hK hs (22) (by omega) he_208 rfl 22 (by decide) (hts _ w_fl_RX8_63) (Or.inr ⟨rfl, hnm, rfl⟩) (by decide +kernel) rfl rfl (Nat.le_of_ble_eq_true rfl) rfl dX8_init_158 (fun H locs en_212 hen_212 hs => ?_)
  have he_213 : en_212 (22) = .inr (8, [.ref (ad_205 23), .ref (ad_205 24), .ref (ad_205 25), .int (0), .ref (ad_205 26), .ref (ad_205 27), .ref (ad_205 28), .ref (ad_205 29), .ref (ad_205 30), .int (0), .int (0), .int (0), .ref (ad_205 31), .ref (ad_205 32), .ref (ad_205 33), .ref (ad_205 34), .ref (ad_205 35), .int (0), .ref (ad_205 36), .ref (ad_205 37), .ref (ad_205 38), .ref (ad_205 39), .ref (ad_205 40), .int (0), .null, .null, .null, .null, .null, .null, .null]) := by rw [hen_212]; exact va_up_self _ _ _
  have hI_214 : ∀ r, 23 ≤ r → r < 41 → en_212 r = mIni G r := fun r a b => by rw [hen_212, va_up_ne _ _ (by omega)]; exact hI_209 r a b
  have KA_215 : ∀ k, k < 23 → ad_205 k = ad k := fun k hk => Eq.trans (rfl) (KA_210 k hk)
  have KE_216 : ∀ k, k < 22 → en_212 k = en k := fun k hk => Eq.trans (by rw [hen_212]; exact va_up_ne _ _ (by omega)) (KE_211 k hk)
  refine lv_aload_n hx hb dX8_init_161 rfl (lv_at hl 0 rfl) ?_
  refine lv_bipush (v := 82) hx hb dX8_init_162 (by decide) ?_
  refine r_topi (y := nI (82)) rfl ?_
  refine r_newa (atype := .int) (ty := .int) (a0 := (82, .inl (fun _ => 0))) (N' := 82) hx hb (hts _ w_ac_int) rfl hK hs hA 1 rfl (fun _ h9 => h9) (fun _ => rfl) (nI_pos (by decide)) (nI_clamp (by decide)) (show (82) * 4 ≤ 536870912 by omega) (Nat.le_of_ble_eq_true rfl) (Nat.le_of_ble_eq_true rfl) dX8_init_164 (fun qq H ad_217 en_218 had_217 hen_218 hq hs => ?_)
  subst hq
  have kad_217 : ∀ k, k < 41 → ad_217 k = ad_205 k := fun k hk => by rw [had_217]; exact va_up_ne _ _ (by omega)
  have ken_218 : ∀ k, k < 41 → en_218 k = en_212 k := fun k hk => by rw [hen_218]; exact va_up_ne _ _ (by omega)
  have he_219 : en_218 (41) = aI G (82) (fun _ => 0) := by rw [hen_218]; exact va_up_self _ _ _
  have he_220 : en_218 (22) = .inr (8, [.ref (ad_217 23), .ref (ad_217 24), .ref (ad_217 25), .int (0), .ref (ad_217 26), .ref (ad_217 27), .ref (ad_217 28), .ref (ad_217 29), .ref (ad_217 30), .int (0), .int (0), .int (0), .ref (ad_217 31), .ref (ad_217 32), .ref (ad_217 33), .ref (ad_217 34), .ref (ad_217 35), .int (0), .ref (ad_217 36), .ref (ad_217 37), .ref (ad_217 38), .ref (ad_217 39), .ref (ad_217 40), .int (0), .null, .null, .null, .null, .null, .null, .null]) := by rw [(kad_217 (23) (by omega)), (kad_217 (24) (by omega)), (kad_217 (25) (by omega)), (kad_217 (26) (by omega)), (kad_217 (27) (by omega)), (kad_217 (28) (by omega)), (kad_217 (29) (by omega)), (kad_217 (30) (by omega)), (kad_217 (31) (by omega)), (kad_217 (32) (by omega)), (kad_217 (33) (by omega)), (kad_217 (34) (by omega)), (kad_217 (35) (by omega)), (kad_217 (36) (by omega)), (kad_217 (37) (by omega)), (kad_217 (38) (by omega)), (kad_217 (39) (by omega)), (kad_217 (40) (by omega))]; exact (ken_218 (22) (by omega)).trans he_213
  have hl : lv_has ls 1 [(0, .ref (ad_217 22))] := by rw [(kad_217 (22) (by omega))]; exact hl
  rw [← (kad_217 (22) (by omega))]
  have hI_221 : ∀ r, 23 ≤ r → r < 42 → en_218 r = mIni G r := ini_s (m := 41) hI_214 ken_218 he_219
  have KA_222 : ∀ k, k < 23 → ad_217 k = ad k := fun k hk => Eq.trans (kad_217 k (by omega)) (KA_215 k hk)
  have KE_223 : ∀ k, k < 22 → en_218 k = en k := fun k hk => Eq.trans (ken_218 k (by omega)) (KE_216 k hk)
  refine r_put (ci := 8) (v := .ref (ad_217 41)) (ty := .array .int) (C := RX8) (T := TX8) (N := 31) (fs' := [.ref (ad_217 23), .ref (ad_217 24), .ref (ad_217 25), .int (0), .ref (ad_217 26), .ref (ad_217 27), .ref (ad_217 28), .ref (ad_217 29), .ref (ad_217 30), .int (0), .int (0), .int (0), .ref (ad_217 31), .ref (ad_217 32), .ref (ad_217 33), .ref (ad_217 34), .ref (ad_217 35), .int (0), .ref (ad_217 36), .ref (ad_217 37), .ref (ad_217 38), .ref (ad_217 39), .ref (ad_217 40), .int (0), .ref (ad_217 41), .null, .null, .null, .null, .null, .null]) hx hb hts inlX8 tyX8 tyX8_ok nmX8 hown hK hs (22) (by omega) he_220 rfl 24 (by decide) (hts _ w_fl_RX8_66) (Or.inr ⟨rfl, hnm, rfl⟩) (by decide +kernel) rfl rfl (Nat.le_of_ble_eq_true rfl) rfl dX8_init_166 (fun H locs en_224 hen_224 hs => ?_)
  have he_225 : en_224 (22) = .inr (8, [.ref (ad_217 23), .ref (ad_217 24), .ref (ad_217 25), .int (0), .ref (ad_217 26), .ref (ad_217 27), .ref (ad_217 28), .ref (ad_217 29), .ref (ad_217 30), .int (0), .int (0), .int (0), .ref (ad_217 31), .ref (ad_217 32), .ref (ad_217 33), .ref (ad_217 34), .ref (ad_217 35), .int (0), .ref (ad_217 36), .ref (ad_217 37), .ref (ad_217 38), .ref (ad_217 39), .ref (ad_217 40), .int (0), .ref (ad_217 41), .null, .null, .null, .null, .null, .null]) := by rw [hen_224]; exact va_up_self _ _ _
  have hI_226 : ∀ r, 23 ≤ r → r < 42 → en_224 r = mIni G r := fun r a b => by rw [hen_224, va_up_ne _ _ (by omega)]; exact hI_221 r a b
  have KA_227 : ∀ k, k < 23 → ad_217 k = ad k := fun k hk => Eq.trans (rfl) (KA_222 k hk)
  have KE_228 : ∀ k, k < 22 → en_224 k = en k := fun k hk => Eq.trans (by rw [hen_224]; exact va_up_ne _ _ (by omega)) (KE_223 k hk)
  refine lv_aload_n hx hb dX8_init_169 rfl (lv_at hl 0 rfl) ?_
  refine lv_bipush (v := 82) hx hb dX8_init_170 (by decide) ?_
  refine r_topi (y := nI (82)) rfl ?_
  refine r_newa (atype := .int) (ty := .int) (a0 := (82, .inl (fun _ => 0))) (N' := 82) hx hb (hts _ w_ac_int) rfl hK hs hA 1 rfl (fun _ h9 => h9) (fun _ => rfl) (nI_pos (by decide)) (nI_clamp (by decide)) (show (82) * 4 ≤ 536870912 by omega) (Nat.le_of_ble_eq_true rfl) (Nat.le_of_ble_eq_true rfl) dX8_init_172 (fun qq H ad_229 en_230 had_229 hen_230 hq hs => ?_)
  subst hq
  have kad_229 : ∀ k, k < 42 → ad_229 k = ad_217 k := fun k hk => by rw [had_229]; exact va_up_ne _ _ (by omega)
  have ken_230 : ∀ k, k < 42 → en_230 k = en_224 k := fun k hk => by rw [hen_230]; exact va_up_ne _ _ (by omega)
  have he_231 : en_230 (42) = aI G (82) (fun _ => 0) := by rw [hen_230]; exact va_up_self _ _ _
  have he_232 : en_230 (22) = .inr (8, [.ref (ad_229 23), .ref (ad_229 24), .ref (ad_229 25), .int (0), .ref (ad_229 26), .ref (ad_229 27), .ref (ad_229 28), .ref (ad_229 29), .ref (ad_229 30), .int (0), .int (0), .int (0), .ref (ad_229 31), .ref (ad_229 32), .ref (ad_229 33), .ref (ad_229 34), .ref (ad_229 35), .int (0), .ref (ad_229 36), .ref (ad_229 37), .ref (ad_229 38), .ref (ad_229 39), .ref (ad_229 40), .int (0), .ref (ad_229 41), .null, .null, .null, .null, .null, .null]) := by rw [(kad_229 (23) (by omega)), (kad_229 (24) (by omega)), (kad_229 (25) (by omega)), (kad_229 (26) (by omega)), (kad_229 (27) (by omega)), (kad_229 (28) (by omega)), (kad_229 (29) (by omega)), (kad_229 (30) (by omega)), (kad_229 (31) (by omega)), (kad_229 (32) (by omega)), (kad_229 (33) (by omega)), (kad_229 (34) (by omega)), (kad_229 (35) (by omega)), (kad_229 (36) (by omega)), (kad_229 (37) (by omega)), (kad_229 (38) (by omega)), (kad_229 (39) (by omega)), (kad_229 (40) (by omega)), (kad_229 (41) (by omega))]; exact (ken_230 (22) (by omega)).trans he_225
  have hl : lv_has ls 1 [(0, .ref (ad_229 22))] := by rw [(kad_229 (22) (by omega))]; exact hl
  rw [← (kad_229 (22) (by omega))]
  have hI_233 : ∀ r, 23 ≤ r → r < 43 → en_230 r = mIni G r := ini_s (m := 42) hI_226 ken_230 he_231
  have KA_234 : ∀ k, k < 23 → ad_229 k = ad k := fun k hk => Eq.trans (kad_229 k (by omega)) (KA_227 k hk)
  have KE_235 : ∀ k, k < 22 → en_230 k = en k := fun k hk => Eq.trans (ken_230 k (by omega)) (KE_228 k hk)
  refine r_put (ci := 8) (v := .ref (ad_229 42)) (ty := .array .int) (C := RX8) (T := TX8) (N := 31) (fs' := [.ref (ad_229 23), .ref (ad_229 24), .ref (ad_229 25), .int (0), .ref (ad_229 26), .ref (ad_229 27), .ref (ad_229 28), .ref (ad_229 29), .ref (ad_229 30), .int (0), .int (0), .int (0), .ref (ad_229 31), .ref (ad_229 32), .ref (ad_229 33), .ref (ad_229 34), .ref (ad_229 35), .int (0), .ref (ad_229 36), .ref (ad_229 37), .ref (ad_229 38), .ref (ad_229 39), .ref (ad_229 40), .int (0), .ref (ad_229 41), .ref (ad_229 42), .null, .null, .null, .null, .null]) hx hb hts inlX8 tyX8 tyX8_ok nmX8 hown hK hs (22) (by omega) he_232 rfl 25 (by decide) (hts _ w_fl_RX8_69) (Or.inr ⟨rfl, hnm, rfl⟩) (by decide +kernel) rfl rfl (Nat.le_of_ble_eq_true rfl) rfl dX8_init_174 (fun H locs en_236 hen_236 hs => ?_)
  have he_237 : en_236 (22) = .inr (8, [.ref (ad_229 23), .ref (ad_229 24), .ref (ad_229 25), .int (0), .ref (ad_229 26), .ref (ad_229 27), .ref (ad_229 28), .ref (ad_229 29), .ref (ad_229 30), .int (0), .int (0), .int (0), .ref (ad_229 31), .ref (ad_229 32), .ref (ad_229 33), .ref (ad_229 34), .ref (ad_229 35), .int (0), .ref (ad_229 36), .ref (ad_229 37), .ref (ad_229 38), .ref (ad_229 39), .ref (ad_229 40), .int (0), .ref (ad_229 41), .ref (ad_229 42), .null, .null, .null, .null, .null]) := by rw [hen_236]; exact va_up_self _ _ _
  have hI_238 : ∀ r, 23 ≤ r → r < 43 → en_236 r = mIni G r := fun r a b => by rw [hen_236, va_up_ne _ _ (by omega)]; exact hI_233 r a b
  have KA_239 : ∀ k, k < 23 → ad_229 k = ad k := fun k hk => Eq.trans (rfl) (KA_234 k hk)
  have KE_240 : ∀ k, k < 22 → en_236 k = en k := fun k hk => Eq.trans (by rw [hen_236]; exact va_up_ne _ _ (by omega)) (KE_235 k hk)
  refine lv_aload_n hx hb dX8_init_177 rfl (lv_at hl 0 rfl) ?_
  refine lv_bipush (v := 82) hx hb dX8_init_178 (by decide) ?_
  refine r_topi (y := nI (82)) rfl ?_
  refine r_newa (atype := .int) (ty := .int) (a0 := (82, .inl (fun _ => 0))) (N' := 82) hx hb (hts _ w_ac_int) rfl hK hs hA 1 rfl (fun _ h9 => h9) (fun _ => rfl) (nI_pos (by decide)) (nI_clamp (by decide)) (show (82) * 4 ≤ 536870912 by omega) (Nat.le_of_ble_eq_true rfl) (Nat.le_of_ble_eq_true rfl) dX8_init_180 (fun qq H ad_241 en_242 had_241 hen_242 hq hs => ?_)
  subst hq
  have kad_241 : ∀ k, k < 43 → ad_241 k = ad_229 k := fun k hk => by rw [had_241]; exact va_up_ne _ _ (by omega)
  have ken_242 : ∀ k, k < 43 → en_242 k = en_236 k := fun k hk => by rw [hen_242]; exact va_up_ne _ _ (by omega)
  have he_243 : en_242 (43) = aI G (82) (fun _ => 0) := by rw [hen_242]; exact va_up_self _ _ _
  have he_244 : en_242 (22) = .inr (8, [.ref (ad_241 23), .ref (ad_241 24), .ref (ad_241 25), .int (0), .ref (ad_241 26), .ref (ad_241 27), .ref (ad_241 28), .ref (ad_241 29), .ref (ad_241 30), .int (0), .int (0), .int (0), .ref (ad_241 31), .ref (ad_241 32), .ref (ad_241 33), .ref (ad_241 34), .ref (ad_241 35), .int (0), .ref (ad_241 36), .ref (ad_241 37), .ref (ad_241 38), .ref (ad_241 39), .ref (ad_241 40), .int (0), .ref (ad_241 41), .ref (ad_241 42), .null, .null, .null, .null, .null]) := by rw [(kad_241 (23) (by omega)), (kad_241 (24) (by omega)), (kad_241 (25) (by omega)), (kad_241 (26) (by omega)), (kad_241 (27) (by omega)), (kad_241 (28) (by omega)), (kad_241 (29) (by omega)), (kad_241 (30) (by omega)), (kad_241 (31) (by omega)), (kad_241 (32) (by omega)), (kad_241 (33) (by omega)), (kad_241 (34) (by omega)), (kad_241 (35) (by omega)), (kad_241 (36) (by omega)), (kad_241 (37) (by omega)), (kad_241 (38) (by omega)), (kad_241 (39) (by omega)), (kad_241 (40) (by omega)), (kad_241 (41) (by omega)), (kad_241 (42) (by omega))]; exact (ken_242 (22) (by omega)).trans he_237
  have hl : lv_has ls 1 [(0, .ref (ad_241 22))] := by rw [(kad_241 (22) (by omega))]; exact hl
  rw [← (kad_241 (22) (by omega))]
  have hI_245 : ∀ r, 23 ≤ r → r < 44 → en_242 r = mIni G r := ini_s (m := 43) hI_238 ken_242 he_243
  have KA_246 : ∀ k, k < 23 → ad_241 k = ad k := fun k hk => Eq.trans (kad_241 k (by omega)) (KA_239 k hk)
  have KE_247 : ∀ k, k < 22 → en_242 k = en k := fun k hk => Eq.trans (ken_242 k (by omega)) (KE_240 k hk)
  refine r_put (ci := 8) (v := .ref (ad_241 43)) (ty := .array .int) (C := RX8) (T := TX8) (N := 31) (fs' := [.ref (ad_241 23), .ref (ad_241 24), .ref (ad_241 25), .int (0), .ref (ad_241 26), .ref (ad_241 27), .ref (ad_241 28), .ref (ad_241 29), .ref (ad_241 30), .int (0), .int (0), .int (0), .ref (ad_241 31), .ref (ad_241 32), .ref (ad_241 33), .ref (ad_241 34), .ref (ad_241 35), .int (0), .ref (ad_241 36), .ref (ad_241 37), .ref (ad_241 38), .ref (ad_241 39), .ref (ad_241 40), .int (0), .ref (ad_241 41), .ref (ad_241 42), .ref (ad_241 43), .null, .null, .null, .null]) hx hb hts inlX8 tyX8 tyX8_ok nmX8 hown hK hs (22) (by omega) he_244 rfl 26 (by decide) (hts _ w_fl_RX8_72) (Or.inr ⟨rfl, hnm, rfl⟩) (by decide +kernel) rfl rfl (Nat.le_of_ble_eq_true rfl) rfl dX8_init_182 (fun H locs en_248 hen_248 hs => ?_)
  have he_249 : en_248 (22) = .inr (8, [.ref (ad_241 23), .ref (ad_241 24), .ref (ad_241 25), .int (0), .ref (ad_241 26), .ref (ad_241 27), .ref (ad_241 28), .ref (ad_241 29), .ref (ad_241 30), .int (0), .int (0), .int (0), .ref (ad_241 31), .ref (ad_241 32), .ref (ad_241 33), .ref (ad_241 34), .ref (ad_241 35), .int (0), .ref (ad_241 36), .ref (ad_241 37), .ref (ad_241 38), .ref (ad_241 39), .ref (ad_241 40), .int (0), .ref (ad_241 41), .ref (ad_241 42), .ref (ad_241 43), .null, .null, .null, .null]) := by rw [hen_248]; exact va_up_self _ _ _
  have hI_250 : ∀ r, 23 ≤ r → r < 44 → en_248 r = mIni G r := fun r a b => by rw [hen_248, va_up_ne _ _ (by omega)]; exact hI_245 r a b
  have KA_251 : ∀ k, k < 23 → ad_241 k = ad k := fun k hk => Eq.trans (rfl) (KA_246 k hk)
  have KE_252 : ∀ k, k < 22 → en_248 k = en k := fun k hk => Eq.trans (by rw [hen_248]; exact va_up_ne _ _ (by omega)) (KE_247 k hk)
  refine lv_aload_n hx hb dX8_init_185 rfl (lv_at hl 0 rfl) ?_
  refine lv_bipush (v := 82) hx hb dX8_init_186 (by decide) ?_
  refine r_topi (y := nI (82)) rfl ?_
  refine r_newa (atype := .int) (ty := .int) (a0 := (82, .inl (fun _ => 0))) (N' := 82) hx hb (hts _ w_ac_int) rfl hK hs hA 1 rfl (fun _ h9 => h9) (fun _ => rfl) (nI_pos (by decide)) (nI_clamp (by decide)) (show (82) * 4 ≤ 536870912 by omega) (Nat.le_of_ble_eq_true rfl) (Nat.le_of_ble_eq_true rfl) dX8_init_188 (fun qq H ad_253 en_254 had_253 hen_254 hq hs => ?_)
  subst hq
  have kad_253 : ∀ k, k < 44 → ad_253 k = ad_241 k := fun k hk => by rw [had_253]; exact va_up_ne _ _ (by omega)
  have ken_254 : ∀ k, k < 44 → en_254 k = en_248 k := fun k hk => by rw [hen_254]; exact va_up_ne _ _ (by omega)
  have he_255 : en_254 (44) = aI G (82) (fun _ => 0) := by rw [hen_254]; exact va_up_self _ _ _
  have he_256 : en_254 (22) = .inr (8, [.ref (ad_253 23), .ref (ad_253 24), .ref (ad_253 25), .int (0), .ref (ad_253 26), .ref (ad_253 27), .ref (ad_253 28), .ref (ad_253 29), .ref (ad_253 30), .int (0), .int (0), .int (0), .ref (ad_253 31), .ref (ad_253 32), .ref (ad_253 33), .ref (ad_253 34), .ref (ad_253 35), .int (0), .ref (ad_253 36), .ref (ad_253 37), .ref (ad_253 38), .ref (ad_253 39), .ref (ad_253 40), .int (0), .ref (ad_253 41), .ref (ad_253 42), .ref (ad_253 43), .null, .null, .null, .null]) := by rw [(kad_253 (23) (by omega)), (kad_253 (24) (by omega)), (kad_253 (25) (by omega)), (kad_253 (26) (by omega)), (kad_253 (27) (by omega)), (kad_253 (28) (by omega)), (kad_253 (29) (by omega)), (kad_253 (30) (by omega)), (kad_253 (31) (by omega)), (kad_253 (32) (by omega)), (kad_253 (33) (by omega)), (kad_253 (34) (by omega)), (kad_253 (35) (by omega)), (kad_253 (36) (by omega)), (kad_253 (37) (by omega)), (kad_253 (38) (by omega)), (kad_253 (39) (by omega)), (kad_253 (40) (by omega)), (kad_253 (41) (by omega)), (kad_253 (42) (by omega)), (kad_253 (43) (by omega))]; exact (ken_254 (22) (by omega)).trans he_249
  have hl : lv_has ls 1 [(0, .ref (ad_253 22))] := by rw [(kad_253 (22) (by omega))]; exact hl
  rw [← (kad_253 (22) (by omega))]
  have hI_257 : ∀ r, 23 ≤ r → r < 45 → en_254 r = mIni G r := ini_s (m := 44) hI_250 ken_254 he_255
  have KA_258 : ∀ k, k < 23 → ad_253 k = ad k := fun k hk => Eq.trans (kad_253 k (by omega)) (KA_251 k hk)
  have KE_259 : ∀ k, k < 22 → en_254 k = en k := fun k hk => Eq.trans (ken_254 k (by omega)) (KE_252 k hk)
  refine r_put (ci := 8) (v := .ref (ad_253 44)) (ty := .array .int) (C := RX8) (T := TX8) (N := 31) (fs' := [.ref (ad_253 23), .ref (ad_253 24), .ref (ad_253 25), .int (0), .ref (ad_253 26), .ref (ad_253 27), .ref (ad_253 28), .ref (ad_253 29), .ref (ad_253 30), .int (0), .int (0), .int (0), .ref (ad_253 31), .ref (ad_253 32), .ref (ad_253 33), .ref (ad_253 34), .ref (ad_253 35), .int (0), .ref (ad_253 36), .ref (ad_253 37), .ref (ad_253 38), .ref (ad_253 39), .ref (ad_253 40), .int (0), .ref (ad_253 41), .ref (ad_253 42), .ref (ad_253 43), .ref (ad_253 44), .null, .null, .null]) hx hb hts inlX8 tyX8 tyX8_ok nmX8 hown hK hs (22) (by omega) he_256 rfl 27 (by decide) (hts _ w_fl_RX8_75) (Or.inr ⟨rfl, hnm, rfl⟩) (by decide +kernel) rfl rfl (Nat.le_of_ble_eq_true rfl) rfl dX8_init_190 (fun H locs en_260 hen_260 hs => ?_)
  have he_261 : en_260 (22) = .inr (8, [.ref (ad_253 23), .ref (ad_253 24), .ref (ad_253 25), .int (0), .ref (ad_253 26), .ref (ad_253 27), .ref (ad_253 28), .ref (ad_253 29), .ref (ad_253 30), .int (0), .int (0), .int (0), .ref (ad_253 31), .ref (ad_253 32), .ref (ad_253 33), .ref (ad_253 34), .ref (ad_253 35), .int (0), .ref (ad_253 36), .ref (ad_253 37), .ref (ad_253 38), .ref (ad_253 39), .ref (ad_253 40), .int (0), .ref (ad_253 41), .ref (ad_253 42), .ref (ad_253 43), .ref (ad_253 44), .null, .null, .null]) := by rw [hen_260]; exact va_up_self _ _ _
  have hI_262 : ∀ r, 23 ≤ r → r < 45 → en_260 r = mIni G r := fun r a b => by rw [hen_260, va_up_ne _ _ (by omega)]; exact hI_257 r a b
  have KA_263 : ∀ k, k < 23 → ad_253 k = ad k := fun k hk => Eq.trans (rfl) (KA_258 k hk)
  have KE_264 : ∀ k, k < 22 → en_260 k = en k := fun k hk => Eq.trans (by rw [hen_260]; exact va_up_ne _ _ (by omega)) (KE_259 k hk)
  refine lv_aload_n hx hb dX8_init_193 rfl (lv_at hl 0 rfl) ?_
  refine lv_sipush (v := 8001) hx hb dX8_init_194 (by decide) ?_
  refine r_topi (y := nI (8001)) rfl ?_
  refine r_newa (atype := .boolean) (ty := .boolean) (a0 := (8001, .inl (fun _ => 0))) (N' := 8001) hx hb (hts _ w_ac_boolean) rfl hK hs hA 3 rfl (fun _ h9 => h9) (fun _ => rfl) (nI_pos (by decide)) (nI_clamp (by decide)) (show (8001) * 1 ≤ 536870912 by omega) (Nat.le_of_ble_eq_true rfl) (Nat.le_of_ble_eq_true rfl) dX8_init_197 (fun qq H ad_265 en_266 had_265 hen_266 hq hs => ?_)
  subst hq
  have kad_265 : ∀ k, k < 45 → ad_265 k = ad_253 k := fun k hk => by rw [had_265]; exact va_up_ne _ _ (by omega)
  have ken_266 : ∀ k, k < 45 → en_266 k = en_260 k := fun k hk => by rw [hen_266]; exact va_up_ne _ _ (by omega)
  have he_267 : en_266 (45) = aZ G (8001) (fun _ => 0) := by rw [hen_266]; exact va_up_self _ _ _
  have he_268 : en_266 (22) = .inr (8, [.ref (ad_265 23), .ref (ad_265 24), .ref (ad_265 25), .int (0), .ref (ad_265 26), .ref (ad_265 27), .ref (ad_265 28), .ref (ad_265 29), .ref (ad_265 30), .int (0), .int (0), .int (0), .ref (ad_265 31), .ref (ad_265 32), .ref (ad_265 33), .ref (ad_265 34), .ref (ad_265 35), .int (0), .ref (ad_265 36), .ref (ad_265 37), .ref (ad_265 38), .ref (ad_265 39), .ref (ad_265 40), .int (0), .ref (ad_265 41), .ref (ad_265 42), .ref (ad_265 43), .ref (ad_265 44), .null, .null, .null]) := by rw [(kad_265 (23) (by omega)), (kad_265 (24) (by omega)), (kad_265 (25) (by omega)), (kad_265 (26) (by omega)), (kad_265 (27) (by omega)), (kad_265 (28) (by omega)), (kad_265 (29) (by omega)), (kad_265 (30) (by omega)), (kad_265 (31) (by omega)), (kad_265 (32) (by omega)), (kad_265 (33) (by omega)), (kad_265 (34) (by omega)), (kad_265 (35) (by omega)), (kad_265 (36) (by omega)), (kad_265 (37) (by omega)), (kad_265 (38) (by omega)), (kad_265 (39) (by omega)), (kad_265 (40) (by omega)), (kad_265 (41) (by omega)), (kad_265 (42) (by omega)), (kad_265 (43) (by omega)), (kad_265 (44) (by omega))]; exact (ken_266 (22) (by omega)).trans he_261
  have hl : lv_has ls 1 [(0, .ref (ad_265 22))] := by rw [(kad_265 (22) (by omega))]; exact hl
  rw [← (kad_265 (22) (by omega))]
  have hI_269 : ∀ r, 23 ≤ r → r < 46 → en_266 r = mIni G r := ini_s (m := 45) hI_262 ken_266 he_267
  have KA_270 : ∀ k, k < 23 → ad_265 k = ad k := fun k hk => Eq.trans (kad_265 k (by omega)) (KA_263 k hk)
  have KE_271 : ∀ k, k < 22 → en_266 k = en k := fun k hk => Eq.trans (ken_266 k (by omega)) (KE_264 k hk)
  refine r_put (ci := 8) (v := .ref (ad_265 45)) (ty := .array .boolean) (C := RX8) (T := TX8) (N := 31) (fs' := [.ref (ad_265 23), .ref (ad_265 24), .ref (ad_265 25), .int (0), .ref (ad_265 26), .ref (ad_265 27), .ref (ad_265 28), .ref (ad_265 29), .ref (ad_265 30), .int (0), .int (0), .int (0), .ref (ad_265 31), .ref (ad_265 32), .ref (ad_265 33), .ref (ad_265 34), .ref (ad_265 35), .int (0), .ref (ad_265 36), .ref (ad_265 37), .ref (ad_265 38), .ref (ad_265 39), .ref (ad_265 40), .int (0), .ref (ad_265 41), .ref (ad_265 42), .ref (ad_265 43), .ref (ad_265 44), .ref (ad_265 45), .null, .null]) hx hb hts inlX8 tyX8 tyX8_ok nmX8 hown hK hs (22) (by omega) he_268 rfl 28 (by decide) (hts _ w_fl_RX8_78) (Or.inr ⟨rfl, hnm, rfl⟩) (by decide +kernel) rfl rfl (Nat.le_of_ble_eq_true rfl) rfl dX8_init_199 (fun H locs en_272 hen_272 hs => ?_)
  have he_273 : en_272 (22) = .inr (8, [.ref (ad_265 23), .ref (ad_265 24), .ref (ad_265 25), .int (0), .ref (ad_265 26), .ref (ad_265 27), .ref (ad_265 28), .ref (ad_265 29), .ref (ad_265 30), .int (0), .int (0), .int (0), .ref (ad_265 31), .ref (ad_265 32), .ref (ad_265 33), .ref (ad_265 34), .ref (ad_265 35), .int (0), .ref (ad_265 36), .ref (ad_265 37), .ref (ad_265 38), .ref (ad_265 39), .ref (ad_265 40), .int (0), .ref (ad_265 41), .ref (ad_265 42), .ref (ad_265 43), .ref (ad_265 44), .ref (ad_265 45), .null, .null]) := by rw [hen_272]; exact va_up_self _ _ _
  have hI_274 : ∀ r, 23 ≤ r → r < 46 → en_272 r = mIni G r := fun r a b => by rw [hen_272, va_up_ne _ _ (by omega)]; exact hI_269 r a b
  have KA_275 : ∀ k, k < 23 → ad_265 k = ad k := fun k hk => Eq.trans (rfl) (KA_270 k hk)
  have KE_276 : ∀ k, k < 22 → en_272 k = en k := fun k hk => Eq.trans (by rw [hen_272]; exact va_up_ne _ _ (by omega)) (KE_271 k hk)
  refine lv_aload_n hx hb dX8_init_202 rfl (lv_at hl 0 rfl) ?_
  refine lv_sipush (v := 8001) hx hb dX8_init_203 (by decide) ?_
  refine r_topi (y := nI (8001)) rfl ?_
  refine r_newa (atype := .boolean) (ty := .boolean) (a0 := (8001, .inl (fun _ => 0))) (N' := 8001) hx hb (hts _ w_ac_boolean) rfl hK hs hA 3 rfl (fun _ h9 => h9) (fun _ => rfl) (nI_pos (by decide)) (nI_clamp (by decide)) (show (8001) * 1 ≤ 536870912 by omega) (Nat.le_of_ble_eq_true rfl) (Nat.le_of_ble_eq_true rfl) dX8_init_206 (fun qq H ad_277 en_278 had_277 hen_278 hq hs => ?_)
  subst hq
  have kad_277 : ∀ k, k < 46 → ad_277 k = ad_265 k := fun k hk => by rw [had_277]; exact va_up_ne _ _ (by omega)
  have ken_278 : ∀ k, k < 46 → en_278 k = en_272 k := fun k hk => by rw [hen_278]; exact va_up_ne _ _ (by omega)
  have he_279 : en_278 (46) = aZ G (8001) (fun _ => 0) := by rw [hen_278]; exact va_up_self _ _ _
  have he_280 : en_278 (22) = .inr (8, [.ref (ad_277 23), .ref (ad_277 24), .ref (ad_277 25), .int (0), .ref (ad_277 26), .ref (ad_277 27), .ref (ad_277 28), .ref (ad_277 29), .ref (ad_277 30), .int (0), .int (0), .int (0), .ref (ad_277 31), .ref (ad_277 32), .ref (ad_277 33), .ref (ad_277 34), .ref (ad_277 35), .int (0), .ref (ad_277 36), .ref (ad_277 37), .ref (ad_277 38), .ref (ad_277 39), .ref (ad_277 40), .int (0), .ref (ad_277 41), .ref (ad_277 42), .ref (ad_277 43), .ref (ad_277 44), .ref (ad_277 45), .null, .null]) := by rw [(kad_277 (23) (by omega)), (kad_277 (24) (by omega)), (kad_277 (25) (by omega)), (kad_277 (26) (by omega)), (kad_277 (27) (by omega)), (kad_277 (28) (by omega)), (kad_277 (29) (by omega)), (kad_277 (30) (by omega)), (kad_277 (31) (by omega)), (kad_277 (32) (by omega)), (kad_277 (33) (by omega)), (kad_277 (34) (by omega)), (kad_277 (35) (by omega)), (kad_277 (36) (by omega)), (kad_277 (37) (by omega)), (kad_277 (38) (by omega)), (kad_277 (39) (by omega)), (kad_277 (40) (by omega)), (kad_277 (41) (by omega)), (kad_277 (42) (by omega)), (kad_277 (43) (by omega)), (kad_277 (44) (by omega)), (kad_277 (45) (by omega))]; exact (ken_278 (22) (by omega)).trans he_273
  have hl : lv_has ls 1 [(0, .ref (ad_277 22))] := by rw [(kad_277 (22) (by omega))]; exact hl
  rw [← (kad_277 (22) (by omega))]
  have hI_281 : ∀ r, 23 ≤ r → r < 47 → en_278 r = mIni G r := ini_s (m := 46) hI_274 ken_278 he_279
  have KA_282 : ∀ k, k < 23 → ad_277 k = ad k := fun k hk => Eq.trans (kad_277 k (by omega)) (KA_275 k hk)
  have KE_283 : ∀ k, k < 22 → en_278 k = en k := fun k hk => Eq.trans (ken_278 k (by omega)) (KE_276 k hk)
  refine r_put (ci := 8) (v := .ref (ad_277 46)) (ty := .array .boolean) (C := RX8) (T := TX8) (N := 31) (fs' := [.ref (ad_277 23), .ref (ad_277 24), .ref (ad_277 25), .int (0), .ref (ad_277 26), .ref (ad_277 27), .ref (ad_277 28), .ref (ad_277 29), .ref (ad_277 30), .int (0), .int (0), .int (0), .ref (ad_277 31), .ref (ad_277 32), .ref (ad_277 33), .ref (ad_277 34), .ref (ad_277 35), .int (0), .ref (ad_277 36), .ref (ad_277 37), .ref (ad_277 38), .ref (ad_277 39), .ref (ad_277 40), .int (0), .ref (ad_277 41), .ref (ad_277 42), .ref (ad_277 43), .ref (ad_277 44), .ref (ad_277 45), .ref (ad_277 46), .null]) hx hb hts inlX8 tyX8 tyX8_ok nmX8 hown hK hs (22) (by omega) he_280 rfl 29 (by decide) (hts _ w_fl_RX8_82) (Or.inr ⟨rfl, hnm, rfl⟩) (by decide +kernel) rfl rfl (Nat.le_of_ble_eq_true rfl) rfl dX8_init_208 (fun H locs en_284 hen_284 hs => ?_)
  have he_285 : en_284 (22) = .inr (8, [.ref (ad_277 23), .ref (ad_277 24), .ref (ad_277 25), .int (0), .ref (ad_277 26), .ref (ad_277 27), .ref (ad_277 28), .ref (ad_277 29), .ref (ad_277 30), .int (0), .int (0), .int (0), .ref (ad_277 31), .ref (ad_277 32), .ref (ad_277 33), .ref (ad_277 34), .ref (ad_277 35), .int (0), .ref (ad_277 36), .ref (ad_277 37), .ref (ad_277 38), .ref (ad_277 39), .ref (ad_277 40), .int (0), .ref (ad_277 41), .ref (ad_277 42), .ref (ad_277 43), .ref (ad_277 44), .ref (ad_277 45), .ref (ad_277 46), .null]) := by rw [hen_284]; exact va_up_self _ _ _
  have hI_286 : ∀ r, 23 ≤ r → r < 47 → en_284 r = mIni G r := fun r a b => by rw [hen_284, va_up_ne _ _ (by omega)]; exact hI_281 r a b
  have KA_287 : ∀ k, k < 23 → ad_277 k = ad k := fun k hk => Eq.trans (rfl) (KA_282 k hk)
  have KE_288 : ∀ k, k < 22 → en_284 k = en k := fun k hk => Eq.trans (by rw [hen_284]; exact va_up_ne _ _ (by omega)) (KE_283 k hk)
  refine lv_aload_n hx hb dX8_init_211 rfl (lv_at hl 0 rfl) ?_
  refine lv_sipush (v := 601) hx hb dX8_init_212 (by decide) ?_
  refine r_topi (y := nI (601)) rfl ?_
  refine r_newa (atype := .boolean) (ty := .boolean) (a0 := (601, .inl (fun _ => 0))) (N' := 601) hx hb (hts _ w_ac_boolean) rfl hK hs hA 3 rfl (fun _ h9 => h9) (fun _ => rfl) (nI_pos (by decide)) (nI_clamp (by decide)) (show (601) * 1 ≤ 536870912 by omega) (Nat.le_of_ble_eq_true rfl) (Nat.le_of_ble_eq_true rfl) dX8_init_215 (fun qq H ad_289 en_290 had_289 hen_290 hq hs => ?_)
  subst hq
  have kad_289 : ∀ k, k < 47 → ad_289 k = ad_277 k := fun k hk => by rw [had_289]; exact va_up_ne _ _ (by omega)
  have ken_290 : ∀ k, k < 47 → en_290 k = en_284 k := fun k hk => by rw [hen_290]; exact va_up_ne _ _ (by omega)
  have he_291 : en_290 (47) = aZ G (601) (fun _ => 0) := by rw [hen_290]; exact va_up_self _ _ _
  have he_292 : en_290 (22) = .inr (8, [.ref (ad_289 23), .ref (ad_289 24), .ref (ad_289 25), .int (0), .ref (ad_289 26), .ref (ad_289 27), .ref (ad_289 28), .ref (ad_289 29), .ref (ad_289 30), .int (0), .int (0), .int (0), .ref (ad_289 31), .ref (ad_289 32), .ref (ad_289 33), .ref (ad_289 34), .ref (ad_289 35), .int (0), .ref (ad_289 36), .ref (ad_289 37), .ref (ad_289 38), .ref (ad_289 39), .ref (ad_289 40), .int (0), .ref (ad_289 41), .ref (ad_289 42), .ref (ad_289 43), .ref (ad_289 44), .ref (ad_289 45), .ref (ad_289 46), .null]) := by rw [(kad_289 (23) (by omega)), (kad_289 (24) (by omega)), (kad_289 (25) (by omega)), (kad_289 (26) (by omega)), (kad_289 (27) (by omega)), (kad_289 (28) (by omega)), (kad_289 (29) (by omega)), (kad_289 (30) (by omega)), (kad_289 (31) (by omega)), (kad_289 (32) (by omega)), (kad_289 (33) (by omega)), (kad_289 (34) (by omega)), (kad_289 (35) (by omega)), (kad_289 (36) (by omega)), (kad_289 (37) (by omega)), (kad_289 (38) (by omega)), (kad_289 (39) (by omega)), (kad_289 (40) (by omega)), (kad_289 (41) (by omega)), (kad_289 (42) (by omega)), (kad_289 (43) (by omega)), (kad_289 (44) (by omega)), (kad_289 (45) (by omega)), (kad_289 (46) (by omega))]; exact (ken_290 (22) (by omega)).trans he_285
  have hl : lv_has ls 1 [(0, .ref (ad_289 22))] := by rw [(kad_289 (22) (by omega))]; exact hl
  rw [← (kad_289 (22) (by omega))]
  have hI_293 : ∀ r, 23 ≤ r → r < 48 → en_290 r = mIni G r := ini_s (m := 47) hI_286 ken_290 he_291
  have KA_294 : ∀ k, k < 23 → ad_289 k = ad k := fun k hk => Eq.trans (kad_289 k (by omega)) (KA_287 k hk)
  have KE_295 : ∀ k, k < 22 → en_290 k = en k := fun k hk => Eq.trans (ken_290 k (by omega)) (KE_288 k hk)
  refine r_put (ci := 8) (v := .ref (ad_289 47)) (ty := .array .boolean) (C := RX8) (T := TX8) (N := 31) (fs' := [.ref (ad_289 23), .ref (ad_289 24), .ref (ad_289 25), .int (0), .ref (ad_289 26), .ref (ad_289 27), .ref (ad_289 28), .ref (ad_289 29), .ref (ad_289 30), .int (0), .int (0), .int (0), .ref (ad_289 31), .ref (ad_289 32), .ref (ad_289 33), .ref (ad_289 34), .ref (ad_289 35), .int (0), .ref (ad_289 36), .ref (ad_289 37), .ref (ad_289 38), .ref (ad_289 39), .ref (ad_289 40), .int (0), .ref (ad_289 41), .ref (ad_289 42), .ref (ad_289 43), .ref (ad_289 44), .ref (ad_289 45), .ref (ad_289 46), .ref (ad_289 47)]) hx hb hts inlX8 tyX8 tyX8_ok nmX8 hown hK hs (22) (by omega) he_292 rfl 30 (by decide) (hts _ w_fl_RX8_85) (Or.inr ⟨rfl, hnm, rfl⟩) (by decide +kernel) rfl rfl (Nat.le_of_ble_eq_true rfl) rfl dX8_init_217 (fun H locs en_296 hen_296 hs => ?_)
  have he_297 : en_296 (22) = .inr (8, [.ref (ad_289 23), .ref (ad_289 24), .ref (ad_289 25), .int (0), .ref (ad_289 26), .ref (ad_289 27), .ref (ad_289 28), .ref (ad_289 29), .ref (ad_289 30), .int (0), .int (0), .int (0), .ref (ad_289 31), .ref (ad_289 32), .ref (ad_289 33), .ref (ad_289 34), .ref (ad_289 35), .int (0), .ref (ad_289 36), .ref (ad_289 37), .ref (ad_289 38), .ref (ad_289 39), .ref (ad_289 40), .int (0), .ref (ad_289 41), .ref (ad_289 42), .ref (ad_289 43), .ref (ad_289 44), .ref (ad_289 45), .ref (ad_289 46), .ref (ad_289 47)]) := by rw [hen_296]; exact va_up_self _ _ _
  have hI_298 : ∀ r, 23 ≤ r → r < 48 → en_296 r = mIni G r := fun r a b => by rw [hen_296, va_up_ne _ _ (by omega)]; exact hI_293 r a b
  have KA_299 : ∀ k, k < 23 → ad_289 k = ad k := fun k hk => Eq.trans (rfl) (KA_294 k hk)
  have KE_300 : ∀ k, k < 22 → en_296 k = en k := fun k hk => Eq.trans (by rw [hen_296]; exact va_up_ne _ _ (by omega)) (KE_295 k hk)
  refine r_vret (mc := 25) (ms := 123277) hx hb hr hlk hs (Nat.le_of_ble_eq_true rfl) (Nat.le_of_ble_eq_true rfl) dX8_init_220 hQ ?_
  exact ⟨ini_W (he_297) hI_298, KA_299, KE_300⟩

set_option maxHeartbeats 600000 in
set_option maxRecDepth 100000 in
theorem c_X7_init (l : Launch) (G : rG) {ad : Nat → Nat} {en : Nat → va_E} (h : en 0 = .inr (7, [.null, .null, .null, .null])) : CV l G yX7_init uX7_init (3) (63) (21) (3444) [.ref (ad 0)] (1) (22) ad en (fun ad1 en1 => psW0 G ad1 en1 ∧ ad1 0 = ad 0) := by
  intro sz
  refine rMet (Qc := qV G (22) (fun ad1 en1 => psW0 G ad1 en1 ∧ ad1 0 = ad 0)) (cc := cX7_init) (maxL := 2) (ret := none) (by decide) rfl (Nat.le_of_ble_eq_true rfl) ?_
  intro pP eE sS mM aA bB tT cC ls A Q hc hK hsz hA hs hl hQ
  obtain ⟨hx, hb, hr, hts, hown, hlk, hnm, hml⟩ := hc
  have hl : lv_has ls 2 [(0, .ref (ad 0))] := hl
  have KA0 : ∀ k, k < 1 → ad k = ad k := fun _ _ => rfl
  have KE0 : ∀ k, k < 0 → en k = en k := fun _ _ => rfl
  refine lv_aload_n hx hb dX7_init_0 rfl (lv_at hl 0 rfl) ?_
  refine W.objInit hx hb hown (hts _ w_ml_RX7_1) (hts _ w_im_objectInit) (hts _ w_cd_objectInit) rfl (by rw [hml]; exact hl.1) rfl dX7_init_1 (Nat.le_of_ble_eq_true rfl) (Nat.le_of_ble_eq_true rfl) ?_
  refine W.eq (g2 := F0 mM 4 ls []) rfl ?_
  refine r_new (ci := 0) (fs := [.null]) (C := RX0) (T := TX0) (N := 1) hx hb hts inlX0 tyX0 tyX0_ok hown (hts _ w_cl_RX7_7) (hts _ w_ins_RX0) (hts _ w_ini_RX0) hK hs hA rfl (fun j hj => by rcases (show j = 0 by omega) with rfl <;> rfl) (Nat.le_of_ble_eq_true rfl) (Nat.le_of_ble_eq_true rfl) dX7_init_4 (fun qq H ad_1 en_2 had_1 hen_2 hq hs => ?_)
  subst hq
  have kad_1 : ∀ k, k < 1 → ad_1 k = ad k := fun k hk => by rw [had_1]; exact va_up_ne _ _ (by omega)
  have ken_2 : ∀ k, k < 1 → en_2 k = en k := fun k hk => by rw [hen_2]; exact va_up_ne _ _ (by omega)
  have he_3 : en_2 1 = .inr (0, [.null]) := by rw [hen_2]; exact va_up_self _ _ _
  have KA_4 : ∀ k, k < 1 → ad_1 k = ad k := fun k hk => Eq.trans (kad_1 k (by omega)) (KA0 k hk)
  have KE_5 : ∀ k, k < 0 → en_2 k = en k := fun k hk => Eq.trans (ken_2 k (by omega)) (KE0 k hk)
  have he_6 : en_2 (0) = .inr (7, [.null, .null, .null, .null]) := (ken_2 0 (by omega)).trans h
  have hl : lv_has ls 2 [(0, .ref (ad_1 0))] := by rw [(kad_1 0 (by omega))]; exact hl
  refine lv_dup hx hb dX7_init_7 rfl ?_
  refine r_callIN (As := []) hx hb hml hown hts hK hA hs (c_X0_init l G (p := 1) he_3) ⟨va_cnB 0 hts (tbI w_cd_yX0_init) rfl rfl rfl hK.2.2.1 (hts _ w_ini_RX0) (by decide +kernel) ⟨Nat.le_of_ble_eq_true rfl, Nat.le_of_ble_eq_true rfl⟩, rfl, hts _ w_im_yX0_init⟩ rfl hl.1 rfl (Nat.le_of_ble_eq_true rfl) dX7_init_8 ⟨(Nat.le_of_ble_eq_true rfl), (Nat.le_of_ble_eq_true rfl)⟩ (fun ad_7 en_8 H locs hp_9 hs => ?_)
  obtain ⟨hPc_10, kac_10, kec_10⟩ := hp_9
  have hs : rS G A sS.heap 3 ad_7 en_8 H locs := hs
  have KA_11 : ∀ k, k < 1 → ad_7 k = ad k := fun k hk => Eq.trans (kac_10 k (by omega)) (KA_4 k hk)
  have KE_12 : ∀ k, k < 0 → en_8 k = en k := fun k hk => Eq.trans (kec_10 k (by omega)) (KE_5 k hk)
  have he_13 : en_8 (0) = .inr (7, [.null, .null, .null, .null]) := (kec_10 0 (by omega)).trans he_6
  have hl : lv_has ls 2 [(0, .ref (ad_7 0))] := by rw [(kac_10 0 (by omega))]; exact hl
  rw [← (kac_10 1 (by omega))]
  have hPc_10 : DerAt G 3 1 ad_7 en_8 0 (fun _ => 0) := hPc_10
  refine lv_astore_n (lv' := [(1, .ref (ad_7 1)), (0, .ref (ad_7 0))]) hx hb dX7_init_11 rfl hl (by decide) rfl (fun ls hl => ?_)
  refine lv_aload_n hx hb dX7_init_12 rfl (lv_at hl 1 rfl) ?_
  refine r_new (ci := 6) (fs := [.null, .null, .null]) (C := RX6) (T := TX6) (N := 3) hx hb hts inlX6 tyX6 tyX6_ok hown (hts _ w_cl_RX7_10) (hts _ w_ins_RX6) (hts _ w_ini_RX6) hK hs hA rfl (fun j hj => by rcases (show j = 0 ∨ j = 1 ∨ j = 2 by omega) with rfl | rfl | rfl <;> rfl) (Nat.le_of_ble_eq_true rfl) (Nat.le_of_ble_eq_true rfl) dX7_init_13 (fun qq H ad_14 en_15 had_14 hen_15 hq hs => ?_)
  subst hq
  have kad_14 : ∀ k, k < 3 → ad_14 k = ad_7 k := fun k hk => by rw [had_14]; exact va_up_ne _ _ (by omega)
  have ken_15 : ∀ k, k < 3 → en_15 k = en_8 k := fun k hk => by rw [hen_15]; exact va_up_ne _ _ (by omega)
  have he_16 : en_15 3 = .inr (6, [.null, .null, .null]) := by rw [hen_15]; exact va_up_self _ _ _
  have pp_17 : DerAt G 4 1 ad_14 en_15 0 (fun _ => 0) := DerAt_keep (DerAt_n hPc_10 (by decide)) (fun k a b => kad_14 k (by omega)) (fun k a b => ken_15 k (by omega))
  have KA_18 : ∀ k, k < 1 → ad_14 k = ad k := fun k hk => Eq.trans (kad_14 k (by omega)) (KA_11 k hk)
  have KE_19 : ∀ k, k < 0 → en_15 k = en k := fun k hk => Eq.trans (ken_15 k (by omega)) (KE_12 k hk)
  have he_20 : en_15 (0) = .inr (7, [.null, .null, .null, .null]) := (ken_15 0 (by omega)).trans he_13
  have hl : lv_has ls 2 [(1, .ref (ad_14 1)), (0, .ref (ad_14 0))] := by rw [(kad_14 1 (by omega)), (kad_14 0 (by omega))]; exact hl
  rw [← (kad_14 0 (by omega))]
  refine lv_dup hx hb dX7_init_16 rfl ?_
  refine r_callIN (As := []) hx hb hml hown hts hK hA hs (c_X6_init l G he_16) ⟨va_cnB 0 hts (tbI w_cd_yX6_init) rfl rfl rfl hK.2.2.2 (hts _ w_ini_RX6) (by decide +kernel) ⟨Nat.le_of_ble_eq_true rfl, Nat.le_of_ble_eq_true rfl⟩, rfl, hts _ w_im_yX6_init⟩ rfl hl.1 rfl (Nat.le_of_ble_eq_true rfl) dX7_init_17 ⟨(Nat.le_of_ble_eq_true rfl), (Nat.le_of_ble_eq_true rfl)⟩ (fun ad_21 en_22 H locs hp_23 hs => ?_)
  obtain ⟨hPc_24, kac_24, kec_24⟩ := hp_23
  have hs : rS G A sS.heap 11 ad_21 en_22 H locs := hs
  have pp_25 : DerAt G 11 1 ad_21 en_22 0 (fun _ => 0) := DerAt_keep (DerAt_n pp_17 (by decide)) (fun k a b => kac_24 k (by omega)) (fun k a b => kec_24 k (by omega))
  have KA_26 : ∀ k, k < 1 → ad_21 k = ad k := fun k hk => Eq.trans (kac_24 k (by omega)) (KA_18 k hk)
  have KE_27 : ∀ k, k < 0 → en_22 k = en k := fun k hk => Eq.trans (kec_24 k (by omega)) (KE_19 k hk)
  have he_28 : en_22 (0) = .inr (7, [.null, .null, .null, .null]) := (kec_24 0 (by omega)).trans he_20
  have hl : lv_has ls 2 [(1, .ref (ad_21 1)), (0, .ref (ad_21 0))] := by rw [(kac_24 1 (by omega)), (kac_24 0 (by omega))]; exact hl
  rw [← (kac_24 3 (by omega)), ← (kac_24 0 (by omega))]
  have hPc_24 : StAt G 11 ad_21 en_22 [] := hPc_24
  refine r_put (ci := 7) (v := .ref (ad_21 3)) (ty := .object "ProofSeeker$StatementStore") (C := RX7) (T := TX7) (N := 4) (fs' := [.ref (ad_21 3), .null, .null, .null]) hx hb hts inlX7 tyX7 tyX7_ok nmX7 hown hK hs (0) (by omega) he_28 rfl 0 (by decide) (hts _ w_fl_RX7_13) (Or.inr ⟨rfl, hnm, rfl⟩) (by decide +kernel) rfl rfl (Nat.le_of_ble_eq_true rfl) rfl dX7_init_20 (fun H locs en_29 hen_29 hs => ?_)
  have he_30 : en_29 (0) = .inr (7, [.ref (ad_21 3), .null, .null, .null]) := by rw [hen_29]; exact va_up_self _ _ _
  have pp_31 : DerAt G 11 1 ad_21 en_29 0 (fun _ => 0) := DerAt_keep (DerAt_n pp_25 (by decide)) (fun k a b => rfl) (fun k a b => by rw [hen_29]; exact va_up_ne _ _ (by omega))
  have pp_32 : StAt G 11 ad_21 en_29 [] := StAt_keep (StAt_n hPc_24 (by decide)) (fun k a b => rfl) (fun k a b => by rw [hen_29]; exact va_up_ne _ _ (by omega))
  have KA_33 : ∀ k, k < 1 → ad_21 k = ad k := fun k hk => Eq.trans (rfl) (KA_26 k hk)
  have KE_34 : ∀ k, k < 0 → en_29 k = en k := fun k hk => Eq.trans (by rw [hen_29]; exact va_up_ne _ _ (by omega)) (KE_27 k hk)
  refine lv_aload_n hx hb dX7_init_23 rfl (lv_at hl 1 rfl) ?_
  refine r_new (ci := 2) (fs := [.null, .null, .null, .null, .int (0)]) (C := RX2) (T := TX2) (N := 5) hx hb hts inlX2 tyX2 tyX2_ok hown (hts _ w_cl_RX7_19) (hts _ w_ins_RX2) (hts _ w_ini_RX2) hK hs hA rfl (fun j hj => by rcases (show j = 0 ∨ j = 1 ∨ j = 2 ∨ j = 3 ∨ j = 4 by omega) with rfl | rfl | rfl | rfl | rfl <;> rfl) (Nat.le_of_ble_eq_true rfl) (Nat.le_of_ble_eq_true rfl) dX7_init_24 (fun qq H ad_35 en_36 had_35 hen_36 hq hs => ?_)
  subst hq
  have kad_35 : ∀ k, k < 11 → ad_35 k = ad_21 k := fun k hk => by rw [had_35]; exact va_up_ne _ _ (by omega)
  have ken_36 : ∀ k, k < 11 → en_36 k = en_29 k := fun k hk => by rw [hen_36]; exact va_up_ne _ _ (by omega)
  have he_37 : en_36 11 = .inr (2, [.null, .null, .null, .null, .int (0)]) := by rw [hen_36]; exact va_up_self _ _ _
  have pp_38 : DerAt G 12 1 ad_35 en_36 0 (fun _ => 0) := DerAt_keep (DerAt_n pp_31 (by decide)) (fun k a b => kad_35 k (by omega)) (fun k a b => ken_36 k (by omega))
  have pp_39 : StAt G 12 ad_35 en_36 [] := StAt_keep (StAt_n pp_32 (by decide)) (fun k a b => kad_35 k (by omega)) (fun k a b => ken_36 k (by omega))
  have KA_40 : ∀ k, k < 1 → ad_35 k = ad k := fun k hk => Eq.trans (kad_35 k (by omega)) (KA_33 k hk)
  have KE_41 : ∀ k, k < 0 → en_36 k = en k := fun k hk => Eq.trans (ken_36 k (by omega)) (KE_34 k hk)
  have he_42 : en_36 (0) = .inr (7, [.ref (ad_35 3), .null, .null, .null]) := by rw [(kad_35 3 (by omega))]; exact (ken_36 0 (by omega)).trans he_30
  have hl : lv_has ls 2 [(1, .ref (ad_35 1)), (0, .ref (ad_35 0))] := by rw [(kad_35 1 (by omega)), (kad_35 0 (by omega))]; exact hl
  rw [← (kad_35 0 (by omega))]
  refine lv_dup hx hb dX7_init_27 rfl ?_
  refine lv_aload_n hx hb dX7_init_28 rfl (lv_at hl 1 rfl) ?_
  refine r_get (ci := 7) (v := .ref (ad_35 3)) (C := RX7) (T := TX7) (N := 4) hx hb hts inlX7 hown hK hs (0) (by omega) he_42 rfl 0 (by decide) (hts _ w_fl_RX7_13) rfl dX7_init_29 ?_
  refine r_callI (As := [.ref (ad_35 3)]) hx hb hml hown hts hK hA hs (c_X2_init l G he_37) (cwI 1 hts (tbI w_cd_yX2_init) rfl rfl rfl (hts _ w_ini_RX2) (hts _ w_ml_RX7_21) (hts _ w_im_yX2_init) rfl (by decide +kernel) ⟨Nat.le_of_ble_eq_true rfl, Nat.le_of_ble_eq_true rfl⟩) rfl hl.1 rfl (Nat.le_of_ble_eq_true rfl) dX7_init_32 ⟨(Nat.le_of_ble_eq_true rfl), (Nat.le_of_ble_eq_true rfl)⟩ (fun ad_43 en_44 H locs hp_45 hs => ?_)
  obtain ⟨hPc_46, kac_46, kec_46⟩ := hp_45
  have hs : rS G A sS.heap 18 ad_43 en_44 H locs := hs
  have pp_47 : DerAt G 18 1 ad_43 en_44 0 (fun _ => 0) := DerAt_keep (DerAt_n pp_38 (by decide)) (fun k a b => kac_46 k (by omega)) (fun k a b => kec_46 k (by omega))
  have pp_48 : StAt G 18 ad_43 en_44 [] := StAt_keep (StAt_n pp_39 (by decide)) (fun k a b => kac_46 k (by omega)) (fun k a b => kec_46 k (by omega))
  have KA_49 : ∀ k, k < 1 → ad_43 k = ad k := fun k hk => Eq.trans (kac_46 k (by omega)) (KA_40 k hk)
  have KE_50 : ∀ k, k < 0 → en_44 k = en k := fun k hk => Eq.trans (kec_46 k (by omega)) (KE_41 k hk)
  have he_51 : en_44 (0) = .inr (7, [.ref (ad_43 3), .null, .null, .null]) := by rw [(kac_46 3 (by omega))]; exact (kec_46 0 (by omega)).trans he_42
  have hl : lv_has ls 2 [(1, .ref (ad_43 1)), (0, .ref (ad_43 0))] := by rw [(kac_46 1 (by omega)), (kac_46 0 (by omega))]; exact hl
  rw [← (kac_46 11 (by omega)), ← (kac_46 0 (by omega))]
  have hPc_46 : NdAt G 18 ad_43 en_44 [] 0 16 16 (fun _ _ => false) (fun _ => 0) := hPc_46
  refine r_put (ci := 7) (v := .ref (ad_43 11)) (ty := .object "ProofSeeker$NodeStore") (C := RX7) (T := TX7) (N := 4) (fs' := [.ref (ad_43 3), .ref (ad_43 11), .null, .null]) hx hb hts inlX7 tyX7 tyX7_ok nmX7 hown hK hs (0) (by omega) he_51 rfl 1 (by decide) (hts _ w_fl_RX7_24) (Or.inr ⟨rfl, hnm, rfl⟩) (by decide +kernel) rfl rfl (Nat.le_of_ble_eq_true rfl) rfl dX7_init_35 (fun H locs en_52 hen_52 hs => ?_)
  have he_53 : en_52 (0) = .inr (7, [.ref (ad_43 3), .ref (ad_43 11), .null, .null]) := by rw [hen_52]; exact va_up_self _ _ _
  have pp_54 : DerAt G 18 1 ad_43 en_52 0 (fun _ => 0) := DerAt_keep (DerAt_n pp_47 (by decide)) (fun k a b => rfl) (fun k a b => by rw [hen_52]; exact va_up_ne _ _ (by omega))
  have pp_55 : StAt G 18 ad_43 en_52 [] := StAt_keep (StAt_n pp_48 (by decide)) (fun k a b => rfl) (fun k a b => by rw [hen_52]; exact va_up_ne _ _ (by omega))
  have pp_56 : NdAt G 18 ad_43 en_52 [] 0 16 16 (fun _ _ => false) (fun _ => 0) := NdAt_keep (NdAt_n hPc_46 (by decide)) (rfl) (fun k a b => rfl) (fun k a b => by rw [hen_52]; exact va_up_ne _ _ (by omega))
  have KA_57 : ∀ k, k < 1 → ad_43 k = ad k := fun k hk => Eq.trans (rfl) (KA_49 k hk)
  have KE_58 : ∀ k, k < 0 → en_52 k = en k := fun k hk => Eq.trans (by rw [hen_52]; exact va_up_ne _ _ (by omega)) (KE_50 k hk)
  refine lv_aload_n hx hb dX7_init_38 rfl (lv_at hl 1 rfl) ?_
  refine r_new (ci := 4) (fs := [.null, .null, .null, .int (0), .int (0)]) (C := RX4) (T := TX4) (N := 5) hx hb hts inlX4 tyX4 tyX4_ok hown (hts _ w_cl_RX7_28) (hts _ w_ins_RX4) (hts _ w_ini_RX4) hK hs hA rfl (fun j hj => by rcases (show j = 0 ∨ j = 1 ∨ j = 2 ∨ j = 3 ∨ j = 4 by omega) with rfl | rfl | rfl | rfl | rfl <;> rfl) (Nat.le_of_ble_eq_true rfl) (Nat.le_of_ble_eq_true rfl) dX7_init_39 (fun qq H ad_59 en_60 had_59 hen_60 hq hs => ?_)
  subst hq
  have kad_59 : ∀ k, k < 18 → ad_59 k = ad_43 k := fun k hk => by rw [had_59]; exact va_up_ne _ _ (by omega)
  have ken_60 : ∀ k, k < 18 → en_60 k = en_52 k := fun k hk => by rw [hen_60]; exact va_up_ne _ _ (by omega)
  have he_61 : en_60 18 = .inr (4, [.null, .null, .null, .int (0), .int (0)]) := by rw [hen_60]; exact va_up_self _ _ _
  have pp_62 : DerAt G 19 1 ad_59 en_60 0 (fun _ => 0) := DerAt_keep (DerAt_n pp_54 (by decide)) (fun k a b => kad_59 k (by omega)) (fun k a b => ken_60 k (by omega))
  have pp_63 : StAt G 19 ad_59 en_60 [] := StAt_keep (StAt_n pp_55 (by decide)) (fun k a b => kad_59 k (by omega)) (fun k a b => ken_60 k (by omega))
  have pp_64 : NdAt G 19 ad_59 en_60 [] 0 16 16 (fun _ _ => false) (fun _ => 0) := NdAt_keep (NdAt_n pp_56 (by decide)) (kad_59 3 (by omega)) (fun k a b => kad_59 k (by omega)) (fun k a b => ken_60 k (by omega))
  have KA_65 : ∀ k, k < 1 → ad_59 k = ad k := fun k hk => Eq.trans (kad_59 k (by omega)) (KA_57 k hk)
  have KE_66 : ∀ k, k < 0 → en_60 k = en k := fun k hk => Eq.trans (ken_60 k (by omega)) (KE_58 k hk)
  have he_67 : en_60 (0) = .inr (7, [.ref (ad_59 3), .ref (ad_59 11), .null, .null]) := by rw [(kad_59 3 (by omega)), (kad_59 11 (by omega))]; exact (ken_60 0 (by omega)).trans he_53
  have hl : lv_has ls 2 [(1, .ref (ad_59 1)), (0, .ref (ad_59 0))] := by rw [(kad_59 1 (by omega)), (kad_59 0 (by omega))]; exact hl
  rw [← (kad_59 0 (by omega))]
  refine lv_dup hx hb dX7_init_42 rfl ?_
  refine lv_aload_n hx hb dX7_init_43 rfl (lv_at hl 1 rfl) ?_
  refine r_get (ci := 7) (v := .ref (ad_59 3)) (C := RX7) (T := TX7) (N := 4) hx hb hts inlX7 hown hK hs (0) (by omega) he_67 rfl 0 (by decide) (hts _ w_fl_RX7_13) rfl dX7_init_44 ?_
  refine lv_aload_n hx hb dX7_init_47 rfl (lv_at hl 0 rfl) ?_
  refine r_callI (As := [.ref (ad_59 3), .ref (ad_59 1)]) hx hb hml hown hts hK hA hs (c_X4_init l G he_61) (cwI 2 hts (tbI w_cd_yX4_init) rfl rfl rfl (hts _ w_ini_RX4) (hts _ w_ml_RX7_30) (hts _ w_im_yX4_init) rfl (by decide +kernel) ⟨Nat.le_of_ble_eq_true rfl, Nat.le_of_ble_eq_true rfl⟩) rfl hl.1 rfl (Nat.le_of_ble_eq_true rfl) dX7_init_48 ⟨(Nat.le_of_ble_eq_true rfl), (Nat.le_of_ble_eq_true rfl)⟩ (fun ad_68 en_69 H locs hp_70 hs => ?_)
  obtain ⟨hPc_71, kac_71, kec_71⟩ := hp_70
  have hs : rS G A sS.heap 21 ad_68 en_69 H locs := hs
  have pp_72 : DerAt G 21 1 ad_68 en_69 0 (fun _ => 0) := DerAt_keep (DerAt_n pp_62 (by decide)) (fun k a b => kac_71 k (by omega)) (fun k a b => kec_71 k (by omega))
  have pp_73 : StAt G 21 ad_68 en_69 [] := StAt_keep (StAt_n pp_63 (by decide)) (fun k a b => kac_71 k (by omega)) (fun k a b => kec_71 k (by omega))
  have pp_74 : NdAt G 21 ad_68 en_69 [] 0 16 16 (fun _ _ => false) (fun _ => 0) := NdAt_keep (NdAt_n pp_64 (by decide)) (kac_71 3 (by omega)) (fun k a b => kac_71 k (by omega)) (fun k a b => kec_71 k (by omega))
  have KA_75 : ∀ k, k < 1 → ad_68 k = ad k := fun k hk => Eq.trans (kac_71 k (by omega)) (KA_65 k hk)
  have KE_76 : ∀ k, k < 0 → en_69 k = en k := fun k hk => Eq.trans (kec_71 k (by omega)) (KE_66 k hk)
  have he_77 : en_69 (0) = .inr (7, [.ref (ad_68 3), .ref (ad_68 11), .null, .null]) := by rw [(kac_71 3 (by omega)), (kac_71 11 (by omega))]; exact (kec_71 0 (by omega)).trans he_67
  have hl : lv_has ls 2 [(1, .ref (ad_68 1)), (0, .ref (ad_68 0))] := by rw [(kac_71 1 (by omega)), (kac_71 0 (by omega))]; exact hl
  rw [← (kac_71 18 (by omega)), ← (kac_71 0 (by omega))]
  have hGc_71 : SetsAt G 21 19 ad_68 en_69 82 (fun _ _ => false) := hPc_71.1
  have h18c_71 : en_69 18 = .inr (4, [.ref (ad_68 3), .ref (ad_68 1), .ref (ad_68 19), .int 0, .int 0]) := hPc_71.2
  refine r_put (ci := 7) (v := .ref (ad_68 18)) (ty := .object "ProofSeeker$Search") (C := RX7) (T := TX7) (N := 4) (fs' := [.ref (ad_68 3), .ref (ad_68 11), .ref (ad_68 18), .null]) hx hb hts inlX7 tyX7 tyX7_ok nmX7 hown hK hs (0) (by omega) he_77 rfl 2 (by decide) (hts _ w_fl_RX7_33) (Or.inr ⟨rfl, hnm, rfl⟩) (by decide +kernel) rfl rfl (Nat.le_of_ble_eq_true rfl) rfl dX7_init_51 (fun H locs en_78 hen_78 hs => ?_)
  have he_79 : en_78 (0) = .inr (7, [.ref (ad_68 3), .ref (ad_68 11), .ref (ad_68 18), .null]) := by rw [hen_78]; exact va_up_self _ _ _
  have he_80 : en_78 (18) = .inr (4, [.ref (ad_68 3), .ref (ad_68 1), .ref (ad_68 19), .int (0), .int (0)]) := by rw [hen_78]; exact (va_up_ne _ _ (by omega)).trans h18c_71
  have pp_81 : DerAt G 21 1 ad_68 en_78 0 (fun _ => 0) := DerAt_keep (DerAt_n pp_72 (by decide)) (fun k a b => rfl) (fun k a b => by rw [hen_78]; exact va_up_ne _ _ (by omega))
  have pp_82 : StAt G 21 ad_68 en_78 [] := StAt_keep (StAt_n pp_73 (by decide)) (fun k a b => rfl) (fun k a b => by rw [hen_78]; exact va_up_ne _ _ (by omega))
  have pp_83 : NdAt G 21 ad_68 en_78 [] 0 16 16 (fun _ _ => false) (fun _ => 0) := NdAt_keep (NdAt_n pp_74 (by decide)) (rfl) (fun k a b => rfl) (fun k a b => by rw [hen_78]; exact va_up_ne _ _ (by omega))
  have pp_84 : SetsAt G 21 19 ad_68 en_78 82 (fun _ _ => false) := SetsAt_keep (SetsAt_n hGc_71 (by decide)) (fun k a b => rfl) (fun k a b => by rw [hen_78]; exact va_up_ne _ _ (by omega))
  have KA_85 : ∀ k, k < 1 → ad_68 k = ad k := fun k hk => Eq.trans (rfl) (KA_75 k hk)
  have KE_86 : ∀ k, k < 0 → en_78 k = en k := fun k hk => Eq.trans (by rw [hen_78]; exact va_up_ne _ _ (by omega)) (KE_76 k hk)
  refine lv_aload_n hx hb dX7_init_54 rfl (lv_at hl 1 rfl) ?_
  refine r_new (ci := 3) (fs := [.null, .null, .null, .int (0)]) (C := RX3) (T := TX3) (N := 4) hx hb hts inlX3 tyX3 tyX3_ok hown (hts _ w_cl_RX7_37) (hts _ w_ins_RX3) (hts _ w_ini_RX3) hK hs hA rfl (fun j hj => by rcases (show j = 0 ∨ j = 1 ∨ j = 2 ∨ j = 3 by omega) with rfl | rfl | rfl | rfl <;> rfl) (Nat.le_of_ble_eq_true rfl) (Nat.le_of_ble_eq_true rfl) dX7_init_55 (fun qq H ad_87 en_88 had_87 hen_88 hq hs => ?_)
  subst hq
  have kad_87 : ∀ k, k < 21 → ad_87 k = ad_68 k := fun k hk => by rw [had_87]; exact va_up_ne _ _ (by omega)
  have ken_88 : ∀ k, k < 21 → en_88 k = en_78 k := fun k hk => by rw [hen_88]; exact va_up_ne _ _ (by omega)
  have he_89 : en_88 21 = .inr (3, [.null, .null, .null, .int (0)]) := by rw [hen_88]; exact va_up_self _ _ _
  have pp_90 : DerAt G 22 1 ad_87 en_88 0 (fun _ => 0) := DerAt_keep (DerAt_n pp_81 (by decide)) (fun k a b => kad_87 k (by omega)) (fun k a b => ken_88 k (by omega))
  have pp_91 : StAt G 22 ad_87 en_88 [] := StAt_keep (StAt_n pp_82 (by decide)) (fun k a b => kad_87 k (by omega)) (fun k a b => ken_88 k (by omega))
  have pp_92 : NdAt G 22 ad_87 en_88 [] 0 16 16 (fun _ _ => false) (fun _ => 0) := NdAt_keep (NdAt_n pp_83 (by decide)) (kad_87 3 (by omega)) (fun k a b => kad_87 k (by omega)) (fun k a b => ken_88 k (by omega))
  have pp_93 : SetsAt G 22 19 ad_87 en_88 82 (fun _ _ => false) := SetsAt_keep (SetsAt_n pp_84 (by decide)) (fun k a b => kad_87 k (by omega)) (fun k a b => ken_88 k (by omega))
  have KA_94 : ∀ k, k < 1 → ad_87 k = ad k := fun k hk => Eq.trans (kad_87 k (by omega)) (KA_85 k hk)
  have KE_95 : ∀ k, k < 0 → en_88 k = en k := fun k hk => Eq.trans (ken_88 k (by omega)) (KE_86 k hk)
  have he_96 : en_88 (0) = .inr (7, [.ref (ad_87 3), .ref (ad_87 11), .ref (ad_87 18), .null]) := by rw [(kad_87 3 (by omega)), (kad_87 11 (by omega)), (kad_87 18 (by omega))]; exact (ken_88 0 (by omega)).trans he_79
  have he_97 : en_88 (18) = .inr (4, [.ref (ad_87 3), .ref (ad_87 1), .ref (ad_87 19), .int (0), .int (0)]) := by rw [(kad_87 3 (by omega)), (kad_87 1 (by omega)), (kad_87 19 (by omega))]; exact (ken_88 18 (by omega)).trans he_80
  have hl : lv_has ls 2 [(1, .ref (ad_87 1)), (0, .ref (ad_87 0))] := by rw [(kad_87 1 (by omega)), (kad_87 0 (by omega))]; exact hl
  rw [← (kad_87 0 (by omega))]
  refine lv_dup hx hb dX7_init_58 rfl ?_
  refine lv_aload_n hx hb dX7_init_59 rfl (lv_at hl 1 rfl) ?_
  refine r_get (ci := 7) (v := .ref (ad_87 3)) (C := RX7) (T := TX7) (N := 4) hx hb hts inlX7 hown hK hs (0) (by omega) he_96 rfl 0 (by decide) (hts _ w_fl_RX7_13) rfl dX7_init_60 ?_
  refine lv_aload_n hx hb dX7_init_63 rfl (lv_at hl 1 rfl) ?_
  refine r_get (ci := 7) (v := .ref (ad_87 11)) (C := RX7) (T := TX7) (N := 4) hx hb hts inlX7 hown hK hs (0) (by omega) he_96 rfl 1 (by decide) (hts _ w_fl_RX7_24) rfl dX7_init_64 ?_
  refine lv_aload_n hx hb dX7_init_67 rfl (lv_at hl 0 rfl) ?_
  refine r_callI (As := [.ref (ad_87 3), .ref (ad_87 11), .ref (ad_87 1)]) hx hb hml hown hts hK hA hs (c_X3_init l G he_89) (cwI 3 hts (tbI w_cd_yX3_init) rfl rfl rfl (hts _ w_ini_RX3) (hts _ w_ml_RX7_39) (hts _ w_im_yX3_init) rfl (by decide +kernel) ⟨Nat.le_of_ble_eq_true rfl, Nat.le_of_ble_eq_true rfl⟩) rfl hl.1 rfl (Nat.le_of_ble_eq_true rfl) dX7_init_68 ⟨(Nat.le_of_ble_eq_true rfl), (Nat.le_of_ble_eq_true rfl)⟩ (fun ad_98 en_99 H locs hp_100 hs => ?_)
  obtain ⟨hPc_101, kac_101, kec_101⟩ := hp_100
  have hs : rS G A sS.heap 22 ad_98 en_99 H locs := hs
  have pp_102 : DerAt G 22 1 ad_98 en_99 0 (fun _ => 0) := DerAt_keep (DerAt_n pp_90 (by decide)) (fun k a b => kac_101 k (by omega)) (fun k a b => kec_101 k (by omega))
  have pp_103 : StAt G 22 ad_98 en_99 [] := StAt_keep (StAt_n pp_91 (by decide)) (fun k a b => kac_101 k (by omega)) (fun k a b => kec_101 k (by omega))
  have pp_104 : NdAt G 22 ad_98 en_99 [] 0 16 16 (fun _ _ => false) (fun _ => 0) := NdAt_keep (NdAt_n pp_92 (by decide)) (kac_101 3 (by omega)) (fun k a b => kac_101 k (by omega)) (fun k a b => kec_101 k (by omega))
  have pp_105 : SetsAt G 22 19 ad_98 en_99 82 (fun _ _ => false) := SetsAt_keep (SetsAt_n pp_93 (by decide)) (fun k a b => kac_101 k (by omega)) (fun k a b => kec_101 k (by omega))
  have KA_106 : ∀ k, k < 1 → ad_98 k = ad k := fun k hk => Eq.trans (kac_101 k (by omega)) (KA_94 k hk)
  have KE_107 : ∀ k, k < 0 → en_99 k = en k := fun k hk => Eq.trans (kec_101 k (by omega)) (KE_95 k hk)
  have he_108 : en_99 (0) = .inr (7, [.ref (ad_98 3), .ref (ad_98 11), .ref (ad_98 18), .null]) := by rw [(kac_101 3 (by omega)), (kac_101 11 (by omega)), (kac_101 18 (by omega))]; exact (kec_101 0 (by omega)).trans he_96
  have he_109 : en_99 (18) = .inr (4, [.ref (ad_98 3), .ref (ad_98 1), .ref (ad_98 19), .int (0), .int (0)]) := by rw [(kac_101 3 (by omega)), (kac_101 1 (by omega)), (kac_101 19 (by omega))]; exact (kec_101 18 (by omega)).trans he_97
  have hl : lv_has ls 2 [(1, .ref (ad_98 1)), (0, .ref (ad_98 0))] := by rw [(kac_101 1 (by omega)), (kac_101 0 (by omega))]; exact hl
  rw [← (kac_101 21 (by omega)), ← (kac_101 0 (by omega))]
  have h21c_101 : en_99 21 = .inr (3, [.ref (ad_98 3), .ref (ad_98 11), .ref (ad_98 1), .int 0]) := hPc_101
  refine r_put (ci := 7) (v := .ref (ad_98 21)) (ty := .object "ProofSeeker$ProofMaker") (C := RX7) (T := TX7) (N := 4) (fs' := [.ref (ad_98 3), .ref (ad_98 11), .ref (ad_98 18), .ref (ad_98 21)]) hx hb hts inlX7 tyX7 tyX7_ok nmX7 hown hK hs (0) (by omega) he_108 rfl 3 (by decide) (hts _ w_fl_RX7_42) (Or.inr ⟨rfl, hnm, rfl⟩) (by decide +kernel) rfl rfl (Nat.le_of_ble_eq_true rfl) rfl dX7_init_71 (fun H locs en_110 hen_110 hs => ?_)
  have he_111 : en_110 (0) = .inr (7, [.ref (ad_98 3), .ref (ad_98 11), .ref (ad_98 18), .ref (ad_98 21)]) := by rw [hen_110]; exact va_up_self _ _ _
  have he_112 : en_110 (18) = .inr (4, [.ref (ad_98 3), .ref (ad_98 1), .ref (ad_98 19), .int (0), .int (0)]) := by rw [hen_110]; exact (va_up_ne _ _ (by omega)).trans he_109
  have he_113 : en_110 (21) = .inr (3, [.ref (ad_98 3), .ref (ad_98 11), .ref (ad_98 1), .int (0)]) := by rw [hen_110]; exact (va_up_ne _ _ (by omega)).trans h21c_101
  have pp_114 : DerAt G 22 1 ad_98 en_110 0 (fun _ => 0) := DerAt_keep (DerAt_n pp_102 (by decide)) (fun k a b => rfl) (fun k a b => by rw [hen_110]; exact va_up_ne _ _ (by omega))
  have pp_115 : StAt G 22 ad_98 en_110 [] := StAt_keep (StAt_n pp_103 (by decide)) (fun k a b => rfl) (fun k a b => by rw [hen_110]; exact va_up_ne _ _ (by omega))
  have pp_116 : NdAt G 22 ad_98 en_110 [] 0 16 16 (fun _ _ => false) (fun _ => 0) := NdAt_keep (NdAt_n pp_104 (by decide)) (rfl) (fun k a b => rfl) (fun k a b => by rw [hen_110]; exact va_up_ne _ _ (by omega))
  have pp_117 : SetsAt G 22 19 ad_98 en_110 82 (fun _ _ => false) := SetsAt_keep (SetsAt_n pp_105 (by decide)) (fun k a b => rfl) (fun k a b => by rw [hen_110]; exact va_up_ne _ _ (by omega))
  have KA_118 : ∀ k, k < 1 → ad_98 k = ad k := fun k hk => Eq.trans (rfl) (KA_106 k hk)
  have KE_119 : ∀ k, k < 0 → en_110 k = en k := fun k hk => Eq.trans (by rw [hen_110]; exact va_up_ne _ _ (by omega)) (KE_107 k hk)
  refine r_vret (mc := 21) (ms := 3444) hx hb hr hlk hs (Nat.le_of_ble_eq_true rfl) (Nat.le_of_ble_eq_true rfl) dX7_init_74 hQ ?_
  exact ⟨⟨he_111, pp_114, pp_115, pp_116, pp_117, he_112, he_113⟩, KA_118 0 (by decide)⟩

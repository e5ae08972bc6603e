theorem KeptAt_n {G : rG} {n m p : Nat} {ad : Nat → Nat} {en : Nat → va_E} {most : Nat} {ks : List Row} (h : KeptAt G n p ad en most ks) (hm : n ≤ m) : KeptAt G m p ad en most ks := ⟨Nat.le_trans h.1 hm, h.2⟩
theorem SetsAt_n {G : rG} {n m p R : Nat} {ad : Nat → Nat} {en : Nat → va_E} {S : Nat → Nat → Bool} (h : SetsAt G n p ad en R S) (hm : n ≤ m) : SetsAt G m p ad en R S := ⟨Nat.le_trans h.1 hm, h.2⟩
theorem DerAt_n {G : rG} {n m p hw : Nat} {ad : Nat → Nat} {en : Nat → va_E} {dv : Nat → Int32} (h : DerAt G n p ad en hw dv) (hm : n ≤ m) : DerAt G m p ad en hw dv := ⟨Nat.le_trans h.1 hm, h.2⟩
theorem StAt_n {G : rG} {n m : Nat} {ad : Nat → Nat} {en : Nat → va_E} {ss : List Row} (h : StAt G n ad en ss) (hm : n ≤ m) : StAt G m ad en ss := by
  obtain ⟨a, b, c, d, ⟨T, e⟩, f⟩ := h
  exact ⟨Nat.le_trans a hm, b, KeptAt_n c hm, SetsAt_n d hm, ⟨T, SetsAt_n e hm⟩, f⟩
theorem NdAt_n {G : rG} {n m : Nat} {ad : Nat → Nat} {en : Nat → va_E} {ns : List Row} {jd RR SL : Nat} {S : Nat → Nat → Bool} {sf : Nat → Int32} (h : NdAt G n ad en ns jd RR SL S sf) (hm : n ≤ m) : NdAt G m ad en ns jd RR SL S sf := by
  obtain ⟨a, b, c, d, e, f⟩ := h
  exact ⟨Nat.le_trans a hm, b, KeptAt_n c hm, SetsAt_n d hm, e, f⟩
theorem ssOK_nil : ssOK [] := ⟨by decide, fun k a b => absurd b (by simp; omega), fun i j a b => absurd b (by simp; omega)⟩
theorem kindS_nil : kindS [] = fun _ _ => false := by
  funext k x
  exact decide_eq_false (fun q => by have := q.1; have := q.2.1; simp at this; omega)
/-- a new object -/
def psW0 (G : rG) (ad : Nat → Nat) (en : Nat → va_E) : Prop := en 0 = .inr (7, [.ref (ad 3), .ref (ad 11), .ref (ad 18), .ref (ad 21)]) ∧ DerAt G 22 1 ad en 0 (fun _ => 0) ∧ StAt G 22 ad en [] ∧ NdAt G 22 ad en [] 0 16 16 (fun _ _ => false) (fun _ => 0) ∧ SetsAt G 22 19 ad en 82 (fun _ _ => false) ∧ en 18 = .inr (4, [.ref (ad 3), .ref (ad 1), .ref (ad 19), .int 0, .int 0]) ∧ en 21 = .inr (3, [.ref (ad 3), .ref (ad 11), .ref (ad 1), .int 0])
set_option maxHeartbeats 600000 in
set_option maxRecDepth 100000 in
theorem c_X6_init (l : Launch) (G : rG) {ad : Nat → Nat} {en : Nat → va_E} (h : en 3 = .inr (6, [.null, .null, .null])) : CV l G yX6_init uX6_init (2) (41) (7) (1238) [.ref (ad 3)] (4) (11) ad en (fun ad1 en1 => StAt G 11 ad1 en1 [] ∧ (∀ k, k < 4 → ad1 k = ad k) ∧ (∀ k, k < 3 → en1 k = en k)) := by
  intro sz
  refine rMet (Qc := qV G (11) (fun ad1 en1 => StAt G 11 ad1 en1 [] ∧ (∀ k, k < 4 → ad1 k = ad k) ∧ (∀ k, k < 3 → en1 k = en k))) (cc := cX6_init) (maxL := 1) (ret := none) (by decide) rfl (Nat.le_of_ble_eq_true rfl) ?_
  intro pP eE sS mM aA bB tT cC ls A Q hc hK hsz hA hs hl hQ
  obtain ⟨hx, hb, hr, hts, hown, hlk, hnm, hml⟩ := hc
  have hl : lv_has ls 1 [(0, .ref (ad 3))] := hl
  have KA0 : ∀ k, k < 4 → ad k = ad k := fun _ _ => rfl
  have KE0 : ∀ k, k < 3 → en k = en k := fun _ _ => rfl
  refine lv_aload_n hx hb dX6_init_0 rfl (lv_at hl 0 rfl) ?_
  refine W.objInit hx hb hown (hts _ w_ml_RX6_5) (hts _ w_im_objectInit) (hts _ w_cd_objectInit) rfl (by rw [hml]; exact hl.1) rfl dX6_init_1 (Nat.le_of_ble_eq_true rfl) (Nat.le_of_ble_eq_true rfl) ?_
  refine W.eq (g2 := F0 mM 4 ls []) rfl ?_
  refine lv_aload_n hx hb dX6_init_4 rfl (lv_at hl 0 rfl) ?_
  refine r_new (ci := 1) (fs := [.int (0), .null, .null, .int (0)]) (C := RX1) (T := TX1) (N := 4) hx hb hts inlX1 tyX1 tyX1_ok hown (hts _ w_cl_RX6_11) (hts _ w_ins_RX1) (hts _ w_ini_RX1) hK hs hA rfl (fun j hj => by rcases (show j = 0 ∨ j = 1 ∨ j = 2 ∨ j = 3 by omega) with rfl | rfl | rfl | rfl <;> rfl) (Nat.le_of_ble_eq_true rfl) (Nat.le_of_ble_eq_true rfl) dX6_init_5 (fun qq H ad_1 en_2 had_1 hen_2 hq hs => ?_)
  subst hq
  have kad_1 : ∀ k, k < 4 → ad_1 k = ad k := fun k hk => by rw [had_1]; exact va_up_ne _ _ (by omega)
  have ken_2 : ∀ k, k < 4 → en_2 k = en k := fun k hk => by rw [hen_2]; exact va_up_ne _ _ (by omega)
  have he_3 : en_2 4 = .inr (1, [.int (0), .null, .null, .int (0)]) := by rw [hen_2]; exact va_up_self _ _ _
  have KA_4 : ∀ k, k < 4 → ad_1 k = ad k := fun k hk => Eq.trans (kad_1 k (by omega)) (KA0 k hk)
  have KE_5 : ∀ k, k < 3 → en_2 k = en k := fun k hk => Eq.trans (ken_2 k (by omega)) (KE0 k hk)
  have he_6 : en_2 (3) = .inr (6, [.null, .null, .null]) := (ken_2 3 (by omega)).trans h
  have hl : lv_has ls 1 [(0, .ref (ad_1 3))] := by rw [(kad_1 3 (by omega))]; exact hl
  rw [← (kad_1 3 (by omega))]
  refine lv_dup hx hb dX6_init_8 rfl ?_
  refine lv_sipush (v := 600) hx hb dX6_init_9 (by decide) ?_
  refine r_topi (y := nI 600) (rfl) ?_
  refine r_callI (As := [.int (nI 600)]) hx hb hml hown hts hK hA hs (c_X1_init l G (p := 4) (most := 600) (by decide) he_3) (cwI 1 hts (tbI w_cd_yX1_init) rfl rfl rfl (hts _ w_ini_RX1) (hts _ w_ml_RX6_13) (hts _ w_im_yX1_init) rfl (by decide +kernel) ⟨Nat.le_of_ble_eq_true rfl, Nat.le_of_ble_eq_true rfl⟩) rfl hl.1 rfl (Nat.le_of_ble_eq_true rfl) dX6_init_12 ⟨(Nat.le_of_ble_eq_true rfl), (Nat.le_of_ble_eq_true rfl)⟩ (fun ad_7 en_8 H locs hp_9 hs => ?_)
  obtain ⟨hPc_10, kac_10, kec_10⟩ := hp_9
  have hs : rS G A sS.heap 7 ad_7 en_8 H locs := hs
  have KA_11 : ∀ k, k < 4 → ad_7 k = ad k := fun k hk => Eq.trans (kac_10 k (by omega)) (KA_4 k hk)
  have KE_12 : ∀ k, k < 3 → en_8 k = en k := fun k hk => Eq.trans (kec_10 k (by omega)) (KE_5 k hk)
  have he_13 : en_8 (3) = .inr (6, [.null, .null, .null]) := (kec_10 3 (by omega)).trans he_6
  have hl : lv_has ls 1 [(0, .ref (ad_7 3))] := by rw [(kac_10 3 (by omega))]; exact hl
  rw [← (kac_10 4 (by omega)), ← (kac_10 3 (by omega))]
  have hPc_10 : KeptAt G 7 4 ad_7 en_8 600 [] := hPc_10
  refine r_put (ci := 6) (v := .ref (ad_7 4)) (ty := .object "ProofSeeker$Kept") (C := RX6) (T := TX6) (N := 3) (fs' := [.ref (ad_7 4), .null, .null]) hx hb hts inlX6 tyX6 tyX6_ok nmX6 hown hK hs (3) (by omega) he_13 rfl 0 (by decide) (hts _ w_fl_RX6_16) (Or.inr ⟨rfl, hnm, rfl⟩) (by decide +kernel) rfl rfl (Nat.le_of_ble_eq_true rfl) rfl dX6_init_15 (fun H locs en_14 hen_14 hs => ?_)
  have he_15 : en_14 (3) = .inr (6, [.ref (ad_7 4), .null, .null]) := by rw [hen_14]; exact va_up_self _ _ _
  have pp_16 : KeptAt G 7 4 ad_7 en_14 600 [] := KeptAt_keep (KeptAt_n hPc_10 (by decide)) (fun k a b => rfl) (fun k a b => by rw [hen_14]; exact va_up_ne _ _ (by omega))
  have KA_17 : ∀ k, k < 4 → ad_7 k = ad k := fun k hk => Eq.trans (rfl) (KA_11 k hk)
  have KE_18 : ∀ k, k < 3 → en_14 k = en k := fun k hk => Eq.trans (by rw [hen_14]; exact va_up_ne _ _ (by omega)) (KE_12 k hk)
  refine lv_aload_n hx hb dX6_init_18 rfl (lv_at hl 0 rfl) ?_
  refine r_new (ci := 5) (fs := [.null, .int (0)]) (C := RX5) (T := TX5) (N := 2) hx hb hts inlX5 tyX5 tyX5_ok hown (hts _ w_cl_RX6_20) (hts _ w_ins_RX5) (hts _ w_ini_RX5) hK hs hA rfl (fun j hj => by rcases (show j = 0 ∨ j = 1 by omega) with rfl | rfl <;> rfl) (Nat.le_of_ble_eq_true rfl) (Nat.le_of_ble_eq_true rfl) dX6_init_19 (fun qq H ad_19 en_20 had_19 hen_20 hq hs => ?_)
  subst hq
  have kad_19 : ∀ k, k < 7 → ad_19 k = ad_7 k := fun k hk => by rw [had_19]; exact va_up_ne _ _ (by omega)
  have ken_20 : ∀ k, k < 7 → en_20 k = en_14 k := fun k hk => by rw [hen_20]; exact va_up_ne _ _ (by omega)
  have he_21 : en_20 7 = .inr (5, [.null, .int (0)]) := by rw [hen_20]; exact va_up_self _ _ _
  have pp_22 : KeptAt G 8 4 ad_19 en_20 600 [] := KeptAt_keep (KeptAt_n pp_16 (by decide)) (fun k a b => kad_19 k (by omega)) (fun k a b => ken_20 k (by omega))
  have KA_23 : ∀ k, k < 4 → ad_19 k = ad k := fun k hk => Eq.trans (kad_19 k (by omega)) (KA_17 k hk)
  have KE_24 : ∀ k, k < 3 → en_20 k = en k := fun k hk => Eq.trans (ken_20 k (by omega)) (KE_18 k hk)
  have he_25 : en_20 (3) = .inr (6, [.ref (ad_19 4), .null, .null]) := by rw [(kad_19 4 (by omega))]; exact (ken_20 3 (by omega)).trans he_15
  have hl : lv_has ls 1 [(0, .ref (ad_19 3))] := by rw [(kad_19 3 (by omega))]; exact hl
  rw [← (kad_19 3 (by omega))]
  refine lv_dup hx hb dX6_init_22 rfl ?_
  refine lv_bipush (v := 10) hx hb dX6_init_23 (by decide) ?_
  refine r_topi (y := nI 10) (rfl) ?_
  refine r_callI (As := [.int (nI 10)]) hx hb hml hown hts hK hA hs (c_X5_init l G (p := 7) (R := 10) (by decide) he_21) (cwI 1 hts (tbI w_cd_yX5_init) rfl rfl rfl (hts _ w_ini_RX5) (hts _ w_ml_RX6_22) (hts _ w_im_yX5_init) rfl (by decide +kernel) ⟨Nat.le_of_ble_eq_true rfl, Nat.le_of_ble_eq_true rfl⟩) rfl hl.1 rfl (Nat.le_of_ble_eq_true rfl) dX6_init_25 ⟨(Nat.le_of_ble_eq_true rfl), (Nat.le_of_ble_eq_true rfl)⟩ (fun ad_26 en_27 H locs hp_28 hs => ?_)
  obtain ⟨hPc_29, kac_29, kec_29⟩ := hp_28
  have hs : rS G A sS.heap 9 ad_26 en_27 H locs := hs
  have pp_30 : KeptAt G 9 4 ad_26 en_27 600 [] := KeptAt_keep (KeptAt_n pp_22 (by decide)) (fun k a b => kac_29 k (by omega)) (fun k a b => kec_29 k (by omega))
  have KA_31 : ∀ k, k < 4 → ad_26 k = ad k := fun k hk => Eq.trans (kac_29 k (by omega)) (KA_23 k hk)
  have KE_32 : ∀ k, k < 3 → en_27 k = en k := fun k hk => Eq.trans (kec_29 k (by omega)) (KE_24 k hk)
  have he_33 : en_27 (3) = .inr (6, [.ref (ad_26 4), .null, .null]) := by rw [(kac_29 4 (by omega))]; exact (kec_29 3 (by omega)).trans he_25
  have hl : lv_has ls 1 [(0, .ref (ad_26 3))] := by rw [(kac_29 3 (by omega))]; exact hl
  rw [← (kac_29 7 (by omega)), ← (kac_29 3 (by omega))]
  have hPc_29 : SetsAt G 9 7 ad_26 en_27 10 (fun _ _ => false) := hPc_29
  refine r_put (ci := 6) (v := .ref (ad_26 7)) (ty := .object "ProofSeeker$Sets") (C := RX6) (T := TX6) (N := 3) (fs' := [.ref (ad_26 4), .ref (ad_26 7), .null]) hx hb hts inlX6 tyX6 tyX6_ok nmX6 hown hK hs (3) (by omega) he_33 rfl 1 (by decide) (hts _ w_fl_RX6_23) (Or.inr ⟨rfl, hnm, rfl⟩) (by decide +kernel) rfl rfl (Nat.le_of_ble_eq_true rfl) rfl dX6_init_28 (fun H locs en_34 hen_34 hs => ?_)
  have he_35 : en_34 (3) = .inr (6, [.ref (ad_26 4), .ref (ad_26 7), .null]) := by rw [hen_34]; exact va_up_self _ _ _
  have pp_36 : KeptAt G 9 4 ad_26 en_34 600 [] := KeptAt_keep (KeptAt_n pp_30 (by decide)) (fun k a b => rfl) (fun k a b => by rw [hen_34]; exact va_up_ne _ _ (by omega))
  have pp_37 : SetsAt G 9 7 ad_26 en_34 10 (fun _ _ => false) := SetsAt_keep (SetsAt_n hPc_29 (by decide)) (fun k a b => rfl) (fun k a b => by rw [hen_34]; exact va_up_ne _ _ (by omega))
  have KA_38 : ∀ k, k < 4 → ad_26 k = ad k := fun k hk => Eq.trans (rfl) (KA_31 k hk)
  have KE_39 : ∀ k, k < 3 → en_34 k = en k := fun k hk => Eq.trans (by rw [hen_34]; exact va_up_ne _ _ (by omega)) (KE_32 k hk)
  refine lv_aload_n hx hb dX6_init_31 rfl (lv_at hl 0 rfl) ?_
  refine r_new (ci := 5) (fs := [.null, .int (0)]) (C := RX5) (T := TX5) (N := 2) hx hb hts inlX5 tyX5 tyX5_ok hown (hts _ w_cl_RX6_20) (hts _ w_ins_RX5) (hts _ w_ini_RX5) hK hs hA rfl (fun j hj => by rcases (show j = 0 ∨ j = 1 by omega) with rfl | rfl <;> rfl) (Nat.le_of_ble_eq_true rfl) (Nat.le_of_ble_eq_true rfl) dX6_init_32 (fun qq H ad_40 en_41 had_40 hen_41 hq hs => ?_)
  subst hq
  have kad_40 : ∀ k, k < 9 → ad_40 k = ad_26 k := fun k hk => by rw [had_40]; exact va_up_ne _ _ (by omega)
  have ken_41 : ∀ k, k < 9 → en_41 k = en_34 k := fun k hk => by rw [hen_41]; exact va_up_ne _ _ (by omega)
  have he_42 : en_41 9 = .inr (5, [.null, .int (0)]) := by rw [hen_41]; exact va_up_self _ _ _
  have pp_43 : KeptAt G 10 4 ad_40 en_41 600 [] := KeptAt_keep (KeptAt_n pp_36 (by decide)) (fun k a b => kad_40 k (by omega)) (fun k a b => ken_41 k (by omega))
  have pp_44 : SetsAt G 10 7 ad_40 en_41 10 (fun _ _ => false) := SetsAt_keep (SetsAt_n pp_37 (by decide)) (fun k a b => kad_40 k (by omega)) (fun k a b => ken_41 k (by omega))
  have KA_45 : ∀ k, k < 4 → ad_40 k = ad k := fun k hk => Eq.trans (kad_40 k (by omega)) (KA_38 k hk)
  have KE_46 : ∀ k, k < 3 → en_41 k = en k := fun k hk => Eq.trans (ken_41 k (by omega)) (KE_39 k hk)
  have he_47 : en_41 (3) = .inr (6, [.ref (ad_40 4), .ref (ad_40 7), .null]) := by rw [(kad_40 4 (by omega)), (kad_40 7 (by omega))]; exact (ken_41 3 (by omega)).trans he_35
  have hl : lv_has ls 1 [(0, .ref (ad_40 3))] := by rw [(kad_40 3 (by omega))]; exact hl
  rw [← (kad_40 3 (by omega))]
  refine lv_dup hx hb dX6_init_35 rfl ?_
  refine lv_iconst (v := 1) hx hb dX6_init_36 (by decide) ?_
  refine r_topi (y := nI 1) (rfl) ?_
  refine r_callI (As := [.int (nI 1)]) hx hb hml hown hts hK hA hs (c_X5_init l G (p := 9) (R := 1) (by decide) he_42) (cwI 1 hts (tbI w_cd_yX5_init) rfl rfl rfl (hts _ w_ini_RX5) (hts _ w_ml_RX6_22) (hts _ w_im_yX5_init) rfl (by decide +kernel) ⟨Nat.le_of_ble_eq_true rfl, Nat.le_of_ble_eq_true rfl⟩) rfl hl.1 rfl (Nat.le_of_ble_eq_true rfl) dX6_init_37 ⟨(Nat.le_of_ble_eq_true rfl), (Nat.le_of_ble_eq_true rfl)⟩ (fun ad_48 en_49 H locs hp_50 hs => ?_)
  obtain ⟨hPc_51, kac_51, kec_51⟩ := hp_50
  have hs : rS G A sS.heap 11 ad_48 en_49 H locs := hs
  have pp_52 : KeptAt G 11 4 ad_48 en_49 600 [] := KeptAt_keep (KeptAt_n pp_43 (by decide)) (fun k a b => kac_51 k (by omega)) (fun k a b => kec_51 k (by omega))
  have pp_53 : SetsAt G 11 7 ad_48 en_49 10 (fun _ _ => false) := SetsAt_keep (SetsAt_n pp_44 (by decide)) (fun k a b => kac_51 k (by omega)) (fun k a b => kec_51 k (by omega))
  have KA_54 : ∀ k, k < 4 → ad_48 k = ad k := fun k hk => Eq.trans (kac_51 k (by omega)) (KA_45 k hk)
  have KE_55 : ∀ k, k < 3 → en_49 k = en k := fun k hk => Eq.trans (kec_51 k (by omega)) (KE_46 k hk)
  have he_56 : en_49 (3) = .inr (6, [.ref (ad_48 4), .ref (ad_48 7), .null]) := by rw [(kac_51 4 (by omega)), (kac_51 7 (by omega))]; exact (kec_51 3 (by omega)).trans he_47
  have hl : lv_has ls 1 [(0, .ref (ad_48 3))] := by rw [(kac_51 3 (by omega))]; exact hl
  rw [← (kac_51 9 (by omega)), ← (kac_51 3 (by omega))]
  have hPc_51 : SetsAt G 11 9 ad_48 en_49 1 (fun _ _ => false) := hPc_51
  refine r_put (ci := 6) (v := .ref (ad_48 9)) (ty := .object "ProofSeeker$Sets") (C := RX6) (T := TX6) (N := 3) (fs' := [.ref (ad_48 4), .ref (ad_48 7), .ref (ad_48 9)]) hx hb hts inlX6 tyX6 tyX6_ok nmX6 hown hK hs (3) (by omega) he_56 rfl 2 (by decide) (hts _ w_fl_RX6_27) (Or.inr ⟨rfl, hnm, rfl⟩) (by decide +kernel) rfl rfl (Nat.le_of_ble_eq_true rfl) rfl dX6_init_40 (fun H locs en_57 hen_57 hs => ?_)
  have he_58 : en_57 (3) = .inr (6, [.ref (ad_48 4), .ref (ad_48 7), .ref (ad_48 9)]) := by rw [hen_57]; exact va_up_self _ _ _
  have pp_59 : KeptAt G 11 4 ad_48 en_57 600 [] := KeptAt_keep (KeptAt_n pp_52 (by decide)) (fun k a b => rfl) (fun k a b => by rw [hen_57]; exact va_up_ne _ _ (by omega))
  have pp_60 : SetsAt G 11 7 ad_48 en_57 10 (fun _ _ => false) := SetsAt_keep (SetsAt_n pp_53 (by decide)) (fun k a b => rfl) (fun k a b => by rw [hen_57]; exact va_up_ne _ _ (by omega))
  have pp_61 : SetsAt G 11 9 ad_48 en_57 1 (fun _ _ => false) := SetsAt_keep (SetsAt_n hPc_51 (by decide)) (fun k a b => rfl) (fun k a b => by rw [hen_57]; exact va_up_ne _ _ (by omega))
  have KA_62 : ∀ k, k < 4 → ad_48 k = ad k := fun k hk => Eq.trans (rfl) (KA_54 k hk)
  have KE_63 : ∀ k, k < 3 → en_57 k = en k := fun k hk => Eq.trans (by rw [hen_57]; exact va_up_ne _ _ (by omega)) (KE_55 k hk)
  refine r_vret (mc := 7) (ms := 1238) hx hb hr hlk hs (Nat.le_of_ble_eq_true rfl) (Nat.le_of_ble_eq_true rfl) dX6_init_43 hQ ?_
  exact ⟨⟨Nat.le_refl _, he_58, pp_59, by rw [kindS_nil]; exact pp_60, ⟨_, pp_61⟩, ssOK_nil⟩, KA_62, KE_63⟩

set_option maxHeartbeats 600000 in
set_option maxRecDepth 100000 in
theorem c_X2_init (l : Launch) (G : rG) {ad : Nat → Nat} {en : Nat → va_E} (h : en 11 = .inr (2, [.null, .null, .null, .null, .int 0])) : CV l G yX2_init uX2_init (2) (41) (6) (1302) [.ref (ad 11), .ref (ad 3)] (12) (18) ad en (fun ad1 en1 => NdAt G 18 ad1 en1 [] 0 16 16 (fun _ _ => false) (fun _ => 0) ∧ (∀ k, k < 12 → ad1 k = ad k) ∧ (∀ k, k < 11 → en1 k = en k)) := by
  intro sz
  refine rMet (Qc := qV G (18) (fun ad1 en1 => NdAt G 18 ad1 en1 [] 0 16 16 (fun _ _ => false) (fun _ => 0) ∧ (∀ k, k < 12 → ad1 k = ad k) ∧ (∀ k, k < 11 → en1 k = en k))) (cc := cX2_init) (maxL := 2) (ret := none) (by decide) rfl (Nat.le_of_ble_eq_true rfl) ?_
  intro pP eE sS mM aA bB tT cC ls A Q hc hK hsz hA hs hl hQ
  obtain ⟨hx, hb, hr, hts, hown, hlk, hnm, hml⟩ := hc
  have hl : lv_has ls 2 [(0, .ref (ad 11)), (1, .ref (ad 3))] := hl
  have KA0 : ∀ k, k < 12 → ad k = ad k := fun _ _ => rfl
  have KE0 : ∀ k, k < 11 → en k = en k := fun _ _ => rfl
  refine lv_aload_n hx hb dX2_init_0 rfl (lv_at hl 0 rfl) ?_
  refine W.objInit hx hb hown (hts _ w_ml_RX2_3) (hts _ w_im_objectInit) (hts _ w_cd_objectInit) rfl (by rw [hml]; exact hl.1) rfl dX2_init_1 (Nat.le_of_ble_eq_true rfl) (Nat.le_of_ble_eq_true rfl) ?_
  refine W.eq (g2 := F0 mM 4 ls []) rfl ?_
  refine lv_aload_n hx hb dX2_init_4 rfl (lv_at hl 0 rfl) ?_
  refine r_new (ci := 1) (fs := [.int (0), .null, .null, .int (0)]) (C := RX1) (T := TX1) (N := 4) hx hb hts inlX1 tyX1 tyX1_ok hown (hts _ w_cl_RX2_9) (hts _ w_ins_RX1) (hts _ w_ini_RX1) hK hs hA rfl (fun j hj => by rcases (show j = 0 ∨ j = 1 ∨ j = 2 ∨ j = 3 by omega) with rfl | rfl | rfl | rfl <;> rfl) (Nat.le_of_ble_eq_true rfl) (Nat.le_of_ble_eq_true rfl) dX2_init_5 (fun qq H ad_1 en_2 had_1 hen_2 hq hs => ?_)
  subst hq
  have kad_1 : ∀ k, k < 12 → ad_1 k = ad k := fun k hk => by rw [had_1]; exact va_up_ne _ _ (by omega)
  have ken_2 : ∀ k, k < 12 → en_2 k = en k := fun k hk => by rw [hen_2]; exact va_up_ne _ _ (by omega)
  have he_3 : en_2 12 = .inr (1, [.int (0), .null, .null, .int (0)]) := by rw [hen_2]; exact va_up_self _ _ _
  have KA_4 : ∀ k, k < 12 → ad_1 k = ad k := fun k hk => Eq.trans (kad_1 k (by omega)) (KA0 k hk)
  have KE_5 : ∀ k, k < 11 → en_2 k = en k := fun k hk => Eq.trans (ken_2 k (by omega)) (KE0 k hk)
  have he_6 : en_2 (11) = .inr (2, [.null, .null, .null, .null, .int (0)]) := (ken_2 11 (by omega)).trans h
  have hl : lv_has ls 2 [(0, .ref (ad_1 11)), (1, .ref (ad_1 3))] := by rw [(kad_1 11 (by omega)), (kad_1 3 (by omega))]; exact hl
  rw [← (kad_1 11 (by omega))]
  refine lv_dup hx hb dX2_init_8 rfl ?_
  refine lv_sipush (v := 8000) hx hb dX2_init_9 (by decide) ?_
  refine r_topi (y := nI 8000) (rfl) ?_
  refine r_callI (As := [.int (nI 8000)]) hx hb hml hown hts hK hA hs (c_X1_init l G (p := 12) (most := 8000) (by decide) he_3) (cwI 1 hts (tbI w_cd_yX1_init) rfl rfl rfl (hts _ w_ini_RX1) (hts _ w_ml_RX2_11) (hts _ w_im_yX1_init) rfl (by decide +kernel) ⟨Nat.le_of_ble_eq_true rfl, Nat.le_of_ble_eq_true rfl⟩) rfl hl.1 rfl (Nat.le_of_ble_eq_true rfl) dX2_init_12 ⟨(Nat.le_of_ble_eq_true rfl), (Nat.le_of_ble_eq_true rfl)⟩ (fun ad_7 en_8 H locs hp_9 hs => ?_)
  obtain ⟨hPc_10, kac_10, kec_10⟩ := hp_9
  have hs : rS G A sS.heap 15 ad_7 en_8 H locs := hs
  have KA_11 : ∀ k, k < 12 → ad_7 k = ad k := fun k hk => Eq.trans (kac_10 k (by omega)) (KA_4 k hk)
  have KE_12 : ∀ k, k < 11 → en_8 k = en k := fun k hk => Eq.trans (kec_10 k (by omega)) (KE_5 k hk)
  have he_13 : en_8 (11) = .inr (2, [.null, .null, .null, .null, .int (0)]) := (kec_10 11 (by omega)).trans he_6
  have hl : lv_has ls 2 [(0, .ref (ad_7 11)), (1, .ref (ad_7 3))] := by rw [(kac_10 11 (by omega)), (kac_10 3 (by omega))]; exact hl
  rw [← (kac_10 12 (by omega)), ← (kac_10 11 (by omega))]
  have hPc_10 : KeptAt G 15 12 ad_7 en_8 8000 [] := hPc_10
  refine r_put (ci := 2) (v := .ref (ad_7 12)) (ty := .object "ProofSeeker$Kept") (C := RX2) (T := TX2) (N := 5) (fs' := [.null, .ref (ad_7 12), .null, .null, .int (0)]) hx hb hts inlX2 tyX2 tyX2_ok nmX2 hown hK hs (11) (by omega) he_13 rfl 1 (by decide) (hts _ w_fl_RX2_14) (Or.inr ⟨rfl, hnm, rfl⟩) (by decide +kernel) rfl rfl (Nat.le_of_ble_eq_true rfl) rfl dX2_init_15 (fun H locs en_14 hen_14 hs => ?_)
  have he_15 : en_14 (11) = .inr (2, [.null, .ref (ad_7 12), .null, .null, .int (0)]) := by rw [hen_14]; exact va_up_self _ _ _
  have pp_16 : KeptAt G 15 12 ad_7 en_14 8000 [] := KeptAt_keep (KeptAt_n hPc_10 (by decide)) (fun k a b => rfl) (fun k a b => by rw [hen_14]; exact va_up_ne _ _ (by omega))
  have KA_17 : ∀ k, k < 12 → ad_7 k = ad k := fun k hk => Eq.trans (rfl) (KA_11 k hk)
  have KE_18 : ∀ k, k < 11 → en_14 k = en k := fun k hk => Eq.trans (by rw [hen_14]; exact va_up_ne _ _ (by omega)) (KE_12 k hk)
  refine lv_aload_n hx hb dX2_init_18 rfl (lv_at hl 0 rfl) ?_
  refine r_new (ci := 5) (fs := [.null, .int (0)]) (C := RX5) (T := TX5) (N := 2) hx hb hts inlX5 tyX5 tyX5_ok hown (hts _ w_cl_RX2_20) (hts _ w_ins_RX5) (hts _ w_ini_RX5) hK hs hA rfl (fun j hj => by rcases (show j = 0 ∨ j = 1 by omega) with rfl | rfl <;> rfl) (Nat.le_of_ble_eq_true rfl) (Nat.le_of_ble_eq_true rfl) dX2_init_19 (fun qq H ad_19 en_20 had_19 hen_20 hq hs => ?_)
  subst hq
  have kad_19 : ∀ k, k < 15 → ad_19 k = ad_7 k := fun k hk => by rw [had_19]; exact va_up_ne _ _ (by omega)
  have ken_20 : ∀ k, k < 15 → en_20 k = en_14 k := fun k hk => by rw [hen_20]; exact va_up_ne _ _ (by omega)
  have he_21 : en_20 15 = .inr (5, [.null, .int (0)]) := by rw [hen_20]; exact va_up_self _ _ _
  have pp_22 : KeptAt G 16 12 ad_19 en_20 8000 [] := KeptAt_keep (KeptAt_n pp_16 (by decide)) (fun k a b => kad_19 k (by omega)) (fun k a b => ken_20 k (by omega))
  have KA_23 : ∀ k, k < 12 → ad_19 k = ad k := fun k hk => Eq.trans (kad_19 k (by omega)) (KA_17 k hk)
  have KE_24 : ∀ k, k < 11 → en_20 k = en k := fun k hk => Eq.trans (ken_20 k (by omega)) (KE_18 k hk)
  have he_25 : en_20 (11) = .inr (2, [.null, .ref (ad_19 12), .null, .null, .int (0)]) := by rw [(kad_19 12 (by omega))]; exact (ken_20 11 (by omega)).trans he_15
  have hl : lv_has ls 2 [(0, .ref (ad_19 11)), (1, .ref (ad_19 3))] := by rw [(kad_19 11 (by omega)), (kad_19 3 (by omega))]; exact hl
  rw [← (kad_19 11 (by omega))]
  refine lv_dup hx hb dX2_init_22 rfl ?_
  refine lv_bipush (v := 16) hx hb dX2_init_23 (by decide) ?_
  refine r_topi (y := nI 16) (rfl) ?_
  refine r_callI (As := [.int (nI 16)]) hx hb hml hown hts hK hA hs (c_X5_init l G (p := 15) (R := 16) (by decide) he_21) (cwI 1 hts (tbI w_cd_yX5_init) rfl rfl rfl (hts _ w_ini_RX5) (hts _ w_ml_RX2_22) (hts _ w_im_yX5_init) rfl (by decide +kernel) ⟨Nat.le_of_ble_eq_true rfl, Nat.le_of_ble_eq_true rfl⟩) rfl hl.1 rfl (Nat.le_of_ble_eq_true rfl) dX2_init_25 ⟨(Nat.le_of_ble_eq_true rfl), (Nat.le_of_ble_eq_true rfl)⟩ (fun ad_26 en_27 H locs hp_28 hs => ?_)
  obtain ⟨hPc_29, kac_29, kec_29⟩ := hp_28
  have hs : rS G A sS.heap 17 ad_26 en_27 H locs := hs
  have pp_30 : KeptAt G 17 12 ad_26 en_27 8000 [] := KeptAt_keep (KeptAt_n pp_22 (by decide)) (fun k a b => kac_29 k (by omega)) (fun k a b => kec_29 k (by omega))
  have KA_31 : ∀ k, k < 12 → ad_26 k = ad k := fun k hk => Eq.trans (kac_29 k (by omega)) (KA_23 k hk)
  have KE_32 : ∀ k, k < 11 → en_27 k = en k := fun k hk => Eq.trans (kec_29 k (by omega)) (KE_24 k hk)
  have he_33 : en_27 (11) = .inr (2, [.null, .ref (ad_26 12), .null, .null, .int (0)]) := by rw [(kac_29 12 (by omega))]; exact (kec_29 11 (by omega)).trans he_25
  have hl : lv_has ls 2 [(0, .ref (ad_26 11)), (1, .ref (ad_26 3))] := by rw [(kac_29 11 (by omega)), (kac_29 3 (by omega))]; exact hl
  rw [← (kac_29 15 (by omega)), ← (kac_29 11 (by omega))]
  have hPc_29 : SetsAt G 17 15 ad_26 en_27 16 (fun _ _ => false) := hPc_29
  refine r_put (ci := 2) (v := .ref (ad_26 15)) (ty := .object "ProofSeeker$Sets") (C := RX2) (T := TX2) (N := 5) (fs' := [.null, .ref (ad_26 12), .ref (ad_26 15), .null, .int (0)]) hx hb hts inlX2 tyX2 tyX2_ok nmX2 hown hK hs (11) (by omega) he_33 rfl 2 (by decide) (hts _ w_fl_RX2_23) (Or.inr ⟨rfl, hnm, rfl⟩) (by decide +kernel) rfl rfl (Nat.le_of_ble_eq_true rfl) rfl dX2_init_28 (fun H locs en_34 hen_34 hs => ?_)
  have he_35 : en_34 (11) = .inr (2, [.null, .ref (ad_26 12), .ref (ad_26 15), .null, .int (0)]) := by rw [hen_34]; exact va_up_self _ _ _
  have pp_36 : KeptAt G 17 12 ad_26 en_34 8000 [] := KeptAt_keep (KeptAt_n pp_30 (by decide)) (fun k a b => rfl) (fun k a b => by rw [hen_34]; exact va_up_ne _ _ (by omega))
  have pp_37 : SetsAt G 17 15 ad_26 en_34 16 (fun _ _ => false) := SetsAt_keep (SetsAt_n hPc_29 (by decide)) (fun k a b => rfl) (fun k a b => by rw [hen_34]; exact va_up_ne _ _ (by omega))
  have KA_38 : ∀ k, k < 12 → ad_26 k = ad k := fun k hk => Eq.trans (rfl) (KA_31 k hk)
  have KE_39 : ∀ k, k < 11 → en_34 k = en k := fun k hk => Eq.trans (by rw [hen_34]; exact va_up_ne _ _ (by omega)) (KE_32 k hk)
  refine lv_aload_n hx hb dX2_init_31 rfl (lv_at hl 0 rfl) ?_
  refine lv_bipush (v := 16) hx hb dX2_init_32 (by decide) ?_
  refine r_topi (y := nI (16)) rfl ?_
  refine r_newa (atype := .int) (ty := .int) (a0 := (16, .inl (fun _ => 0))) (N' := 16) hx hb (hts _ w_ac_int) rfl hK hs hA 1 rfl (fun _ h9 => h9) (fun _ => rfl) (nI_pos (by decide)) (nI_clamp (by decide)) (show (16) * 4 ≤ 536870912 by omega) (Nat.le_of_ble_eq_true rfl) (Nat.le_of_ble_eq_true rfl) dX2_init_34 (fun qq H ad_40 en_41 had_40 hen_41 hq hs => ?_)
  subst hq
  have kad_40 : ∀ k, k < 17 → ad_40 k = ad_26 k := fun k hk => by rw [had_40]; exact va_up_ne _ _ (by omega)
  have ken_41 : ∀ k, k < 17 → en_41 k = en_34 k := fun k hk => by rw [hen_41]; exact va_up_ne _ _ (by omega)
  have he_42 : en_41 (17) = aI G (16) (fun _ => 0) := by rw [hen_41]; exact va_up_self _ _ _
  have he_43 : en_41 (11) = .inr (2, [.null, .ref (ad_40 12), .ref (ad_40 15), .null, .int (0)]) := by rw [(kad_40 (12) (by omega)), (kad_40 (15) (by omega))]; exact (ken_41 (11) (by omega)).trans he_35
  have hl : lv_has ls 2 [(0, .ref (ad_40 11)), (1, .ref (ad_40 3))] := by rw [(kad_40 (11) (by omega)), (kad_40 (3) (by omega))]; exact hl
  rw [← (kad_40 (11) (by omega))]
  have pp_44 : KeptAt G 18 12 ad_40 en_41 8000 [] := KeptAt_keep (KeptAt_n pp_36 (by decide)) (fun k a b => kad_40 k (by omega)) (fun k a b => ken_41 k (by omega))
  have pp_45 : SetsAt G 18 15 ad_40 en_41 16 (fun _ _ => false) := SetsAt_keep (SetsAt_n pp_37 (by decide)) (fun k a b => kad_40 k (by omega)) (fun k a b => ken_41 k (by omega))
  have KA_46 : ∀ k, k < 12 → ad_40 k = ad k := fun k hk => Eq.trans (kad_40 k (by omega)) (KA_38 k hk)
  have KE_47 : ∀ k, k < 11 → en_41 k = en k := fun k hk => Eq.trans (ken_41 k (by omega)) (KE_39 k hk)
  refine r_put (ci := 2) (v := .ref (ad_40 (17))) (ty := .array .int) (C := RX2) (T := TX2) (N := 5) (fs' := [.null, .ref (ad_40 12), .ref (ad_40 15), .ref (ad_40 (17)), .int (0)]) hx hb hts inlX2 tyX2 tyX2_ok nmX2 hown hK hs (11) (by omega) he_43 rfl 3 (by decide) (hts _ w_fl_RX2_27) (Or.inl rfl) (by decide +kernel) rfl rfl (Nat.le_of_ble_eq_true rfl) rfl dX2_init_36 (fun H locs en_48 hen_48 hs => ?_)
  have he_49 : en_48 (11) = .inr (2, [.null, .ref (ad_40 12), .ref (ad_40 15), .ref (ad_40 (17)), .int (0)]) := by rw [hen_48]; exact va_up_self _ _ _
  have he_50 : en_48 (17) = aI G (16) (fun _ => 0) := by rw [hen_48]; exact (va_up_ne _ _ (by omega)).trans he_42
  have pp_51 : KeptAt G 18 12 ad_40 en_48 8000 [] := KeptAt_keep (KeptAt_n pp_44 (by decide)) (fun k a b => rfl) (fun k a b => by rw [hen_48]; exact va_up_ne _ _ (by omega))
  have pp_52 : SetsAt G 18 15 ad_40 en_48 16 (fun _ _ => false) := SetsAt_keep (SetsAt_n pp_45 (by decide)) (fun k a b => rfl) (fun k a b => by rw [hen_48]; exact va_up_ne _ _ (by omega))
  have KA_53 : ∀ k, k < 12 → ad_40 k = ad k := fun k hk => Eq.trans (rfl) (KA_46 k hk)
  have KE_54 : ∀ k, k < 11 → en_48 k = en k := fun k hk => Eq.trans (by rw [hen_48]; exact va_up_ne _ _ (by omega)) (KE_47 k hk)
  refine lv_aload_n hx hb dX2_init_39 rfl (lv_at hl 0 rfl) ?_
  refine lv_iconst (v := 0) hx hb dX2_init_40 (by decide) ?_
  refine r_put (ci := 2) (v := .int (0)) (ty := .int) (C := RX2) (T := TX2) (N := 5) (fs' := [.null, .ref (ad_40 12), .ref (ad_40 15), .ref (ad_40 (17)), .int (0)]) hx hb hts inlX2 tyX2 tyX2_ok nmX2 hown hK hs (11) (by omega) he_49 rfl 4 (by decide) (hts _ w_fl_RX2_31) (Or.inl rfl) (by decide +kernel) rfl rfl (Nat.le_of_ble_eq_true rfl) rfl dX2_init_41 (fun H locs en_55 hen_55 hs => ?_)
  have he_56 : en_55 (11) = .inr (2, [.null, .ref (ad_40 12), .ref (ad_40 15), .ref (ad_40 (17)), .int (0)]) := by rw [hen_55]; exact va_up_self _ _ _
  have he_57 : en_55 (17) = aI G (16) (fun _ => 0) := by rw [hen_55]; exact (va_up_ne _ _ (by omega)).trans he_50
  have pp_58 : KeptAt G 18 12 ad_40 en_55 8000 [] := KeptAt_keep (KeptAt_n pp_51 (by decide)) (fun k a b => rfl) (fun k a b => by rw [hen_55]; exact va_up_ne _ _ (by omega))
  have pp_59 : SetsAt G 18 15 ad_40 en_55 16 (fun _ _ => false) := SetsAt_keep (SetsAt_n pp_52 (by decide)) (fun k a b => rfl) (fun k a b => by rw [hen_55]; exact va_up_ne _ _ (by omega))
  have KA_60 : ∀ k, k < 12 → ad_40 k = ad k := fun k hk => Eq.trans (rfl) (KA_53 k hk)
  have KE_61 : ∀ k, k < 11 → en_55 k = en k := fun k hk => Eq.trans (by rw [hen_55]; exact va_up_ne _ _ (by omega)) (KE_54 k hk)
  refine lv_aload_n hx hb dX2_init_44 rfl (lv_at hl 0 rfl) ?_
  refine lv_aload_n hx hb dX2_init_45 rfl (lv_at hl 1 rfl) ?_
  refine r_put (ci := 2) (v := .ref (ad_40 3)) (ty := .object "ProofSeeker$StatementStore") (C := RX2) (T := TX2) (N := 5) (fs' := [.ref (ad_40 3), .ref (ad_40 12), .ref (ad_40 15), .ref (ad_40 (17)), .int (0)]) hx hb hts inlX2 tyX2 tyX2_ok nmX2 hown hK hs (11) (by omega) he_56 rfl 0 (by decide) (hts _ w_fl_RX2_35) (Or.inr ⟨rfl, hnm, rfl⟩) (by decide +kernel) rfl rfl (Nat.le_of_ble_eq_true rfl) rfl dX2_init_46 (fun H locs en_62 hen_62 hs => ?_)
  have he_63 : en_62 (11) = .inr (2, [.ref (ad_40 3), .ref (ad_40 12), .ref (ad_40 15), .ref (ad_40 (17)), .int (0)]) := by rw [hen_62]; exact va_up_self _ _ _
  have he_64 : en_62 (17) = aI G (16) (fun _ => 0) := by rw [hen_62]; exact (va_up_ne _ _ (by omega)).trans he_57
  have pp_65 : KeptAt G 18 12 ad_40 en_62 8000 [] := KeptAt_keep (KeptAt_n pp_58 (by decide)) (fun k a b => rfl) (fun k a b => by rw [hen_62]; exact va_up_ne _ _ (by omega))
  have pp_66 : SetsAt G 18 15 ad_40 en_62 16 (fun _ _ => false) := SetsAt_keep (SetsAt_n pp_59 (by decide)) (fun k a b => rfl) (fun k a b => by rw [hen_62]; exact va_up_ne _ _ (by omega))
  have KA_67 : ∀ k, k < 12 → ad_40 k = ad k := fun k hk => Eq.trans (rfl) (KA_60 k hk)
  have KE_68 : ∀ k, k < 11 → en_62 k = en k := fun k hk => Eq.trans (by rw [hen_62]; exact va_up_ne _ _ (by omega)) (KE_61 k hk)
  refine r_vret (mc := 6) (ms := 1302) hx hb hr hlk hs (Nat.le_of_ble_eq_true rfl) (Nat.le_of_ble_eq_true rfl) dX2_init_49 hQ ?_
  exact ⟨⟨Nat.le_refl _, he_63, pp_65, pp_66, he_64, by decide⟩, KA_67, KE_68⟩

set_option maxHeartbeats 600000 in
set_option maxRecDepth 100000 in
theorem c_X4_init (l : Launch) (G : rG) {ad : Nat → Nat} {en : Nat → va_E} (h : en 18 = .inr (4, [.null, .null, .null, .int 0, .int 0])) : CV l G yX4_init uX4_init (2) (41) (2) (822) [.ref (ad 18), .ref (ad 3), .ref (ad 1)] (19) (21) ad en (fun ad1 en1 => (SetsAt G 21 19 ad1 en1 82 (fun _ _ => false) ∧ en1 18 = .inr (4, [.ref (ad1 3), .ref (ad1 1), .ref (ad1 19), .int 0, .int 0])) ∧ (∀ k, k < 19 → ad1 k = ad k) ∧ (∀ k, k < 18 → en1 k = en k)) := by
  intro sz
  refine rMet (Qc := qV G (21) (fun ad1 en1 => (SetsAt G 21 19 ad1 en1 82 (fun _ _ => false) ∧ en1 18 = .inr (4, [.ref (ad1 3), .ref (ad1 1), .ref (ad1 19), .int 0, .int 0])) ∧ (∀ k, k < 19 → ad1 k = ad k) ∧ (∀ k, k < 18 → en1 k = en k))) (cc := cX4_init) (maxL := 3) (ret := none) (by decide) rfl (Nat.le_of_ble_eq_true rfl) ?_
  intro pP eE sS mM aA bB tT cC ls A Q hc hK hsz hA hs hl hQ
  obtain ⟨hx, hb, hr, hts, hown, hlk, hnm, hml⟩ := hc
  have hl : lv_has ls 3 [(0, .ref (ad 18)), (1, .ref (ad 3)), (2, .ref (ad 1))] := hl
  have KA0 : ∀ k, k < 19 → ad k = ad k := fun _ _ => rfl
  have KE0 : ∀ k, k < 18 → en k = en k := fun _ _ => rfl
  refine lv_aload_n hx hb dX4_init_0 rfl (lv_at hl 0 rfl) ?_
  refine W.objInit hx hb hown (hts _ w_ml_RX4_3) (hts _ w_im_objectInit) (hts _ w_cd_objectInit) rfl (by rw [hml]; exact hl.1) rfl dX4_init_1 (Nat.le_of_ble_eq_true rfl) (Nat.le_of_ble_eq_true rfl) ?_
  refine W.eq (g2 := F0 mM 4 ls []) rfl ?_
  refine lv_aload_n hx hb dX4_init_4 rfl (lv_at hl 0 rfl) ?_
  refine r_new (ci := 5) (fs := [.null, .int (0)]) (C := RX5) (T := TX5) (N := 2) hx hb hts inlX5 tyX5 tyX5_ok hown (hts _ w_cl_RX4_9) (hts _ w_ins_RX5) (hts _ w_ini_RX5) hK hs hA rfl (fun j hj => by rcases (show j = 0 ∨ j = 1 by omega) with rfl | rfl <;> rfl) (Nat.le_of_ble_eq_true rfl) (Nat.le_of_ble_eq_true rfl) dX4_init_5 (fun qq H ad_1 en_2 had_1 hen_2 hq hs => ?_)
  subst hq
  have kad_1 : ∀ k, k < 19 → ad_1 k = ad k := fun k hk => by rw [had_1]; exact va_up_ne _ _ (by omega)
  have ken_2 : ∀ k, k < 19 → en_2 k = en k := fun k hk => by rw [hen_2]; exact va_up_ne _ _ (by omega)
  have he_3 : en_2 19 = .inr (5, [.null, .int (0)]) := by rw [hen_2]; exact va_up_self _ _ _
  have KA_4 : ∀ k, k < 19 → ad_1 k = ad k := fun k hk => Eq.trans (kad_1 k (by omega)) (KA0 k hk)
  have KE_5 : ∀ k, k < 18 → en_2 k = en k := fun k hk => Eq.trans (ken_2 k (by omega)) (KE0 k hk)
  have he_6 : en_2 (18) = .inr (4, [.null, .null, .null, .int (0), .int (0)]) := (ken_2 18 (by omega)).trans h
  have hl : lv_has ls 3 [(0, .ref (ad_1 18)), (1, .ref (ad_1 3)), (2, .ref (ad_1 1))] := by rw [(kad_1 18 (by omega)), (kad_1 3 (by omega)), (kad_1 1 (by omega))]; exact hl
  rw [← (kad_1 18 (by omega))]
  refine lv_dup hx hb dX4_init_8 rfl ?_
  refine lv_bipush (v := 82) hx hb dX4_init_9 (by decide) ?_
  refine r_topi (y := nI 82) (rfl) ?_
  refine r_callI (As := [.int (nI 82)]) hx hb hml hown hts hK hA hs (c_X5_init l G (p := 19) (R := 82) (by decide) he_3) (cwI 1 hts (tbI w_cd_yX5_init) rfl rfl rfl (hts _ w_ini_RX5) (hts _ w_ml_RX4_11) (hts _ w_im_yX5_init) rfl (by decide +kernel) ⟨Nat.le_of_ble_eq_true rfl, Nat.le_of_ble_eq_true rfl⟩) rfl hl.1 rfl (Nat.le_of_ble_eq_true rfl) dX4_init_11 ⟨(Nat.le_of_ble_eq_true rfl), (Nat.le_of_ble_eq_true rfl)⟩ (fun ad_7 en_8 H locs hp_9 hs => ?_)
  obtain ⟨hPc_10, kac_10, kec_10⟩ := hp_9
  have hs : rS G A sS.heap 21 ad_7 en_8 H locs := hs
  have KA_11 : ∀ k, k < 19 → ad_7 k = ad k := fun k hk => Eq.trans (kac_10 k (by omega)) (KA_4 k hk)
  have KE_12 : ∀ k, k < 18 → en_8 k = en k := fun k hk => Eq.trans (kec_10 k (by omega)) (KE_5 k hk)
  have he_13 : en_8 (18) = .inr (4, [.null, .null, .null, .int (0), .int (0)]) := (kec_10 18 (by omega)).trans he_6
  have hl : lv_has ls 3 [(0, .ref (ad_7 18)), (1, .ref (ad_7 3)), (2, .ref (ad_7 1))] := by rw [(kac_10 18 (by omega)), (kac_10 3 (by omega)), (kac_10 1 (by omega))]; exact hl
  rw [← (kac_10 19 (by omega)), ← (kac_10 18 (by omega))]
  have hPc_10 : SetsAt G 21 19 ad_7 en_8 82 (fun _ _ => false) := hPc_10
  refine r_put (ci := 4) (v := .ref (ad_7 19)) (ty := .object "ProofSeeker$Sets") (C := RX4) (T := TX4) (N := 5) (fs' := [.null, .null, .ref (ad_7 19), .int (0), .int (0)]) hx hb hts inlX4 tyX4 tyX4_ok nmX4 hown hK hs (18) (by omega) he_13 rfl 2 (by decide) (hts _ w_fl_RX4_14) (Or.inr ⟨rfl, hnm, rfl⟩) (by decide +kernel) rfl rfl (Nat.le_of_ble_eq_true rfl) rfl dX4_init_14 (fun H locs en_14 hen_14 hs => ?_)
  have he_15 : en_14 (18) = .inr (4, [.null, .null, .ref (ad_7 19), .int (0), .int (0)]) := by rw [hen_14]; exact va_up_self _ _ _
  have pp_16 : SetsAt G 21 19 ad_7 en_14 82 (fun _ _ => false) := SetsAt_keep (SetsAt_n hPc_10 (by decide)) (fun k a b => rfl) (fun k a b => by rw [hen_14]; exact va_up_ne _ _ (by omega))
  have KA_17 : ∀ k, k < 19 → ad_7 k = ad k := fun k hk => Eq.trans (rfl) (KA_11 k hk)
  have KE_18 : ∀ k, k < 18 → en_14 k = en k := fun k hk => Eq.trans (by rw [hen_14]; exact va_up_ne _ _ (by omega)) (KE_12 k hk)
  refine lv_aload_n hx hb dX4_init_17 rfl (lv_at hl 0 rfl) ?_
  refine lv_iconst (v := 0) hx hb dX4_init_18 (by decide) ?_
  refine r_put (ci := 4) (v := .int (0)) (ty := .int) (C := RX4) (T := TX4) (N := 5) (fs' := [.null, .null, .ref (ad_7 19), .int (0), .int (0)]) hx hb hts inlX4 tyX4 tyX4_ok nmX4 hown hK hs (18) (by omega) he_15 rfl 3 (by decide) (hts _ w_fl_RX4_20) (Or.inl rfl) (by decide +kernel) rfl rfl (Nat.le_of_ble_eq_true rfl) rfl dX4_init_19 (fun H locs en_19 hen_19 hs => ?_)
  have he_20 : en_19 (18) = .inr (4, [.null, .null, .ref (ad_7 19), .int (0), .int (0)]) := by rw [hen_19]; exact va_up_self _ _ _
  have pp_21 : SetsAt G 21 19 ad_7 en_19 82 (fun _ _ => false) := SetsAt_keep (SetsAt_n pp_16 (by decide)) (fun k a b => rfl) (fun k a b => by rw [hen_19]; exact va_up_ne _ _ (by omega))
  have KA_22 : ∀ k, k < 19 → ad_7 k = ad k := fun k hk => Eq.trans (rfl) (KA_17 k hk)
  have KE_23 : ∀ k, k < 18 → en_19 k = en k := fun k hk => Eq.trans (by rw [hen_19]; exact va_up_ne _ _ (by omega)) (KE_18 k hk)
  refine lv_aload_n hx hb dX4_init_22 rfl (lv_at hl 0 rfl) ?_
  refine lv_iconst (v := 0) hx hb dX4_init_23 (by decide) ?_
  refine r_put (ci := 4) (v := .int (0)) (ty := .int) (C := RX4) (T := TX4) (N := 5) (fs' := [.null, .null, .ref (ad_7 19), .int (0), .int (0)]) hx hb hts inlX4 tyX4 tyX4_ok nmX4 hown hK hs (18) (by omega) he_20 rfl 4 (by decide) (hts _ w_fl_RX4_24) (Or.inl rfl) (by decide +kernel) rfl rfl (Nat.le_of_ble_eq_true rfl) rfl dX4_init_24 (fun H locs en_24 hen_24 hs => ?_)
  have he_25 : en_24 (18) = .inr (4, [.null, .null, .ref (ad_7 19), .int (0), .int (0)]) := by rw [hen_24]; exact va_up_self _ _ _
  have pp_26 : SetsAt G 21 19 ad_7 en_24 82 (fun _ _ => false) := SetsAt_keep (SetsAt_n pp_21 (by decide)) (fun k a b => rfl) (fun k a b => by rw [hen_24]; exact va_up_ne _ _ (by omega))
  have KA_27 : ∀ k, k < 19 → ad_7 k = ad k := fun k hk => Eq.trans (rfl) (KA_22 k hk)
  have KE_28 : ∀ k, k < 18 → en_24 k = en k := fun k hk => Eq.trans (by rw [hen_24]; exact va_up_ne _ _ (by omega)) (KE_23 k hk)
  refine lv_aload_n hx hb dX4_init_27 rfl (lv_at hl 0 rfl) ?_
  refine lv_aload_n hx hb dX4_init_28 rfl (lv_at hl 1 rfl) ?_
  refine r_put (ci := 4) (v := .ref (ad_7 3)) (ty := .object "ProofSeeker$StatementStore") (C := RX4) (T := TX4) (N := 5) (fs' := [.ref (ad_7 3), .null, .ref (ad_7 19), .int (0), .int (0)]) hx hb hts inlX4 tyX4 tyX4_ok nmX4 hown hK hs (18) (by omega) he_25 rfl 0 (by decide) (hts _ w_fl_RX4_27) (Or.inr ⟨rfl, hnm, rfl⟩) (by decide +kernel) rfl rfl (Nat.le_of_ble_eq_true rfl) rfl dX4_init_29 (fun H locs en_29 hen_29 hs => ?_)
  have he_30 : en_29 (18) = .inr (4, [.ref (ad_7 3), .null, .ref (ad_7 19), .int (0), .int (0)]) := by rw [hen_29]; exact va_up_self _ _ _
  have pp_31 : SetsAt G 21 19 ad_7 en_29 82 (fun _ _ => false) := SetsAt_keep (SetsAt_n pp_26 (by decide)) (fun k a b => rfl) (fun k a b => by rw [hen_29]; exact va_up_ne _ _ (by omega))
  have KA_32 : ∀ k, k < 19 → ad_7 k = ad k := fun k hk => Eq.trans (rfl) (KA_27 k hk)
  have KE_33 : ∀ k, k < 18 → en_29 k = en k := fun k hk => Eq.trans (by rw [hen_29]; exact va_up_ne _ _ (by omega)) (KE_28 k hk)
  refine lv_aload_n hx hb dX4_init_32 rfl (lv_at hl 0 rfl) ?_
  refine lv_aload_n hx hb dX4_init_33 rfl (lv_at hl 2 rfl) ?_
  refine r_put (ci := 4) (v := .ref (ad_7 1)) (ty := .object "ProofSeeker$Derivation") (C := RX4) (T := TX4) (N := 5) (fs' := [.ref (ad_7 3), .ref (ad_7 1), .ref (ad_7 19), .int (0), .int (0)]) hx hb hts inlX4 tyX4 tyX4_ok nmX4 hown hK hs (18) (by omega) he_30 rfl 1 (by decide) (hts _ w_fl_RX4_31) (Or.inr ⟨rfl, hnm, rfl⟩) (by decide +kernel) rfl rfl (Nat.le_of_ble_eq_true rfl) rfl dX4_init_34 (fun H locs en_34 hen_34 hs => ?_)
  have he_35 : en_34 (18) = .inr (4, [.ref (ad_7 3), .ref (ad_7 1), .ref (ad_7 19), .int (0), .int (0)]) := by rw [hen_34]; exact va_up_self _ _ _
  have pp_36 : SetsAt G 21 19 ad_7 en_34 82 (fun _ _ => false) := SetsAt_keep (SetsAt_n pp_31 (by decide)) (fun k a b => rfl) (fun k a b => by rw [hen_34]; exact va_up_ne _ _ (by omega))
  have KA_37 : ∀ k, k < 19 → ad_7 k = ad k := fun k hk => Eq.trans (rfl) (KA_32 k hk)
  have KE_38 : ∀ k, k < 18 → en_34 k = en k := fun k hk => Eq.trans (by rw [hen_34]; exact va_up_ne _ _ (by omega)) (KE_33 k hk)
  refine r_vret (mc := 2) (ms := 822) hx hb hr hlk hs (Nat.le_of_ble_eq_true rfl) (Nat.le_of_ble_eq_true rfl) dX4_init_37 hQ ?_
  exact ⟨⟨pp_36, he_35⟩, KA_37, KE_38⟩

set_option maxHeartbeats 600000 in
set_option maxRecDepth 100000 in
theorem c_X3_init (l : Launch) (G : rG) {ad : Nat → Nat} {en : Nat → va_E} (h : en 21 = .inr (3, [.null, .null, .null, .int 0])) : CV l G yX3_init uX3_init (1) (20) (0) (0) [.ref (ad 21), .ref (ad 3), .ref (ad 11), .ref (ad 1)] (22) (22) ad en (fun ad1 en1 => en1 21 = .inr (3, [.ref (ad1 3), .ref (ad1 11), .ref (ad1 1), .int 0]) ∧ (∀ k, k < 22 → ad1 k = ad k) ∧ (∀ k, k < 21 → en1 k = en k)) := by
  intro sz
  refine rMet (Qc := qV G (22) (fun ad1 en1 => en1 21 = .inr (3, [.ref (ad1 3), .ref (ad1 11), .ref (ad1 1), .int 0]) ∧ (∀ k, k < 22 → ad1 k = ad k) ∧ (∀ k, k < 21 → en1 k = en k))) (cc := cX3_init) (maxL := 4) (ret := none) (by decide) rfl (Nat.le_of_ble_eq_true rfl) ?_
  intro pP eE sS mM aA bB tT cC ls A Q hc hK hsz hA hs hl hQ
  obtain ⟨hx, hb, hr, hts, hown, hlk, hnm, hml⟩ := hc
  have hl : lv_has ls 4 [(0, .ref (ad 21)), (1, .ref (ad 3)), (2, .ref (ad 11)), (3, .ref (ad 1))] := hl
  have KA0 : ∀ k, k < 22 → ad k = ad k := fun _ _ => rfl
  have KE0 : ∀ k, k < 21 → en k = en k := fun _ _ => rfl
  refine lv_aload_n hx hb dX3_init_0 rfl (lv_at hl 0 rfl) ?_
  refine W.objInit hx hb hown (hts _ w_ml_RX3_3) (hts _ w_im_objectInit) (hts _ w_cd_objectInit) rfl (by rw [hml]; exact hl.1) rfl dX3_init_1 (Nat.le_of_ble_eq_true rfl) (Nat.le_of_ble_eq_true rfl) ?_
  refine W.eq (g2 := F0 mM 4 ls []) rfl ?_
  refine lv_aload_n hx hb dX3_init_4 rfl (lv_at hl 0 rfl) ?_
  refine lv_iconst (v := 0) hx hb dX3_init_5 (by decide) ?_
  refine r_put (ci := 3) (v := .int (0)) (ty := .boolean) (C := RX3) (T := TX3) (N := 4) (fs' := [.null, .null, .null, .int (0)]) hx hb hts inlX3 tyX3 tyX3_ok nmX3 hown hK hs (21) (by omega) h rfl 3 (by decide) (hts _ w_fl_RX3_9) (Or.inl rfl) (by decide +kernel) rfl rfl (Nat.le_of_ble_eq_true rfl) rfl dX3_init_6 (fun H locs en_1 hen_1 hs => ?_)
  have he_2 : en_1 (21) = .inr (3, [.null, .null, .null, .int (0)]) := by rw [hen_1]; exact va_up_self _ _ _
  have KA_3 : ∀ k, k < 22 → ad k = ad k := fun k hk => Eq.trans (rfl) (KA0 k hk)
  have KE_4 : ∀ k, k < 21 → en_1 k = en k := fun k hk => Eq.trans (by rw [hen_1]; exact va_up_ne _ _ (by omega)) (KE0 k hk)
  refine lv_aload_n hx hb dX3_init_9 rfl (lv_at hl 0 rfl) ?_
  refine lv_aload_n hx hb dX3_init_10 rfl (lv_at hl 1 rfl) ?_
  refine r_put (ci := 3) (v := .ref (ad 3)) (ty := .object "ProofSeeker$StatementStore") (C := RX3) (T := TX3) (N := 4) (fs' := [.ref (ad 3), .null, .null, .int (0)]) hx hb hts inlX3 tyX3 tyX3_ok nmX3 hown hK hs (21) (by omega) he_2 rfl 0 (by decide) (hts _ w_fl_RX3_15) (Or.inr ⟨rfl, hnm, rfl⟩) (by decide +kernel) rfl rfl (Nat.le_of_ble_eq_true rfl) rfl dX3_init_11 (fun H locs en_5 hen_5 hs => ?_)
  have he_6 : en_5 (21) = .inr (3, [.ref (ad 3), .null, .null, .int (0)]) := by rw [hen_5]; exact va_up_self _ _ _
  have KA_7 : ∀ k, k < 22 → ad k = ad k := fun k hk => Eq.trans (rfl) (KA_3 k hk)
  have KE_8 : ∀ k, k < 21 → en_5 k = en k := fun k hk => Eq.trans (by rw [hen_5]; exact va_up_ne _ _ (by omega)) (KE_4 k hk)
  refine lv_aload_n hx hb dX3_init_14 rfl (lv_at hl 0 rfl) ?_
  refine lv_aload_n hx hb dX3_init_15 rfl (lv_at hl 2 rfl) ?_
  refine r_put (ci := 3) (v := .ref (ad 11)) (ty := .object "ProofSeeker$NodeStore") (C := RX3) (T := TX3) (N := 4) (fs' := [.ref (ad 3), .ref (ad 11), .null, .int (0)]) hx hb hts inlX3 tyX3 tyX3_ok nmX3 hown hK hs (21) (by omega) he_6 rfl 1 (by decide) (hts _ w_fl_RX3_19) (Or.inr ⟨rfl, hnm, rfl⟩) (by decide +kernel) rfl rfl (Nat.le_of_ble_eq_true rfl) rfl dX3_init_16 (fun H locs en_9 hen_9 hs => ?_)
  have he_10 : en_9 (21) = .inr (3, [.ref (ad 3), .ref (ad 11), .null, .int (0)]) := by rw [hen_9]; exact va_up_self _ _ _
  have KA_11 : ∀ k, k < 22 → ad k = ad k := fun k hk => Eq.trans (rfl) (KA_7 k hk)
  have KE_12 : ∀ k, k < 21 → en_9 k = en k := fun k hk => Eq.trans (by rw [hen_9]; exact va_up_ne _ _ (by omega)) (KE_8 k hk)
  refine lv_aload_n hx hb dX3_init_19 rfl (lv_at hl 0 rfl) ?_
  refine lv_aload_n hx hb dX3_init_20 rfl (lv_at hl 3 rfl) ?_
  refine r_put (ci := 3) (v := .ref (ad 1)) (ty := .object "ProofSeeker$Derivation") (C := RX3) (T := TX3) (N := 4) (fs' := [.ref (ad 3), .ref (ad 11), .ref (ad 1), .int (0)]) hx hb hts inlX3 tyX3 tyX3_ok nmX3 hown hK hs (21) (by omega) he_10 rfl 2 (by decide) (hts _ w_fl_RX3_23) (Or.inr ⟨rfl, hnm, rfl⟩) (by decide +kernel) rfl rfl (Nat.le_of_ble_eq_true rfl) rfl dX3_init_21 (fun H locs en_13 hen_13 hs => ?_)
  have he_14 : en_13 (21) = .inr (3, [.ref (ad 3), .ref (ad 11), .ref (ad 1), .int (0)]) := by rw [hen_13]; exact va_up_self _ _ _
  have KA_15 : ∀ k, k < 22 → ad k = ad k := fun k hk => Eq.trans (rfl) (KA_11 k hk)
  have KE_16 : ∀ k, k < 21 → en_13 k = en k := fun k hk => Eq.trans (by rw [hen_13]; exact va_up_ne _ _ (by omega)) (KE_12 k hk)
  refine r_vret (mc := 0) (ms := 0) hx hb hr hlk hs (Nat.le_of_ble_eq_true rfl) (Nat.le_of_ble_eq_true rfl) dX3_init_24 hQ ?_
  exact ⟨he_14, KA_15, KE_16⟩

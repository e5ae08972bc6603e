theorem kRep_nil : kRep [] (fun _ => 0) (fun _ => 0) := ⟨fun k h1 h2 => absurd h2 (by simp; omega), fun k h1 h2 => absurd h2 (by simp; omega), fun _ _ => rfl⟩
set_option maxHeartbeats 4000000 in
set_option maxRecDepth 100000 in
theorem c_X1_init (l : Launch) (G : rG) {p most : Nat} {ad : Nat → Nat} {en : Nat → va_E} (hm : most ≤ 8000) (h : en p = .inr (1, [.int 0, .null, .null, .int 0])) : CV l G yX1_init uX1_init (1) (20) (2) (1120) [.ref (ad p), .int (nI most)] (p + 1) (p + 3) ad en (fun ad1 en1 => KeptAt G (p + 3) p ad1 en1 most [] ∧ (∀ k, k < p + 1 → ad1 k = ad k) ∧ (∀ k, k < p → en1 k = en k)) := by
  intro sz
  refine rMet (Qc := qV G (p + 3) (fun ad1 en1 => KeptAt G (p + 3) p ad1 en1 most [] ∧ (∀ k, k < p + 1 → ad1 k = ad k) ∧ (∀ k, k < p → en1 k = en k))) (cc := cX1_init) (maxL := 2) (ret := none) (by decide) rfl (Nat.le_of_ble_eq_true rfl) ?_
  intro pP eE sS mM aA bB tT cC ls A Q hc hK hsz hA hs hl hQ
  obtain ⟨hx, hb, hr, hts, hown, hlk, hnm, hml⟩ := hc
  have hl : lv_has ls 2 [(0, .ref (ad p)), (1, .int (nI most))] := hl
  refine lv_aload_n hx hb dX1_init_0 rfl (lv_at hl 0 rfl) ?_
  refine W.objInit hx hb hown (hts _ w_ml_RX1_5) (hts _ w_im_objectInit) (hts _ w_cd_objectInit) rfl (by rw [hml]; exact hl.1) rfl dX1_init_1 (Nat.le_of_ble_eq_true rfl) (Nat.le_of_ble_eq_true rfl) ?_
  refine W.eq (g2 := F0 mM 4 ls []) rfl ?_
  refine lv_aload_n hx hb dX1_init_4 rfl (lv_at hl 0 rfl) ?_
  refine lv_sipush (v := 1024) hx hb dX1_init_5 (by decide) ?_
  refine r_topi (y := nI (1024)) rfl ?_
  refine r_newa (atype := .int) (ty := .int) (a0 := (1024, .inl (fun _ => 0))) (N' := 1024) hx hb (hts _ w_ac_int) rfl hK hs hA 1 rfl (fun _ h9 => h9) (fun _ => rfl) (nI_pos (by decide)) (nI_clamp (by decide)) (show (1024) * 4 ≤ 536870912 by omega) (Nat.le_of_ble_eq_true rfl) (Nat.le_of_ble_eq_true rfl) dX1_init_8 (fun qq H ad_1 en_2 had_1 hen_2 hq hs => ?_)
  subst hq
  have kad_1 : ∀ k, k < p + 1 → ad_1 k = ad k := fun k hk => by rw [had_1]; exact va_up_ne _ _ (by omega)
  have ken_2 : ∀ k, k < p + 1 → en_2 k = en k := fun k hk => by rw [hen_2]; exact va_up_ne _ _ (by omega)
  have he_3 : en_2 (p + 1) = aI G (1024) (fun _ => 0) := by rw [hen_2]; exact va_up_self _ _ _
  have he_4 : en_2 (p) = .inr (1, [.int (0), .null, .null, .int (0)]) := (ken_2 (p) (by omega)).trans h
  have hl : lv_has ls 2 [(0, .ref (ad_1 p)), (1, .int (nI most))] := by rw [(kad_1 (p) (by omega))]; exact hl
  rw [← (kad_1 (p) (by omega))]
  refine r_put (ci := 1) (v := .ref (ad_1 (p + 1))) (ty := .array .int) (C := RX1) (T := TX1) (N := 4) (fs' := [.int (0), .ref (ad_1 (p + 1)), .null, .int (0)]) hx hb hts inlX1 tyX1 tyX1_ok nmX1 hown hK hs (p) (by omega) he_4 rfl 1 (by decide) (hts _ w_fl_RX1_11) (Or.inr ⟨rfl, hnm, rfl⟩) (by decide +kernel) rfl rfl (Nat.le_of_ble_eq_true rfl) rfl dX1_init_10 (fun H locs en_5 hen_5 hs => ?_)
  have he_6 : en_5 (p) = .inr (1, [.int (0), .ref (ad_1 (p + 1)), .null, .int (0)]) := by rw [hen_5]; exact va_up_self _ _ _
  have he_7 : en_5 (p + 1) = aI G (1024) (fun _ => 0) := by rw [hen_5]; exact (va_up_ne _ _ (by omega)).trans he_3
  refine lv_aload_n hx hb dX1_init_13 rfl (lv_at hl 0 rfl) ?_
  refine lv_bipush (v := 96) hx hb dX1_init_14 (by decide) ?_
  refine r_topi (y := nI (96)) rfl ?_
  refine r_newa (atype := .int) (ty := .int) (a0 := (96, .inl (fun _ => 0))) (N' := 96) hx hb (hts _ w_ac_int) rfl hK hs hA 1 rfl (fun _ h9 => h9) (fun _ => rfl) (nI_pos (by decide)) (nI_clamp (by decide)) (show (96) * 4 ≤ 536870912 by omega) (Nat.le_of_ble_eq_true rfl) (Nat.le_of_ble_eq_true rfl) dX1_init_16 (fun qq H ad_8 en_9 had_8 hen_9 hq hs => ?_)
  subst hq
  have kad_8 : ∀ k, k < p + 1 + 1 → ad_8 k = ad_1 k := fun k hk => by rw [had_8]; exact va_up_ne _ _ (by omega)
  have ken_9 : ∀ k, k < p + 1 + 1 → en_9 k = en_5 k := fun k hk => by rw [hen_9]; exact va_up_ne _ _ (by omega)
  have he_10 : en_9 (p + 1 + 1) = aI G (96) (fun _ => 0) := by rw [hen_9]; exact va_up_self _ _ _
  have he_11 : en_9 (p) = .inr (1, [.int (0), .ref (ad_8 (p + 1)), .null, .int (0)]) := by rw [(kad_8 (p + 1) (by omega))]; exact (ken_9 (p) (by omega)).trans he_6
  have he_12 : en_9 (p + 1) = aI G (1024) (fun _ => 0) := (ken_9 (p + 1) (by omega)).trans he_7
  have hl : lv_has ls 2 [(0, .ref (ad_8 p)), (1, .int (nI most))] := by rw [(kad_8 (p) (by omega))]; exact hl
  rw [← (kad_8 (p) (by omega))]
  refine r_put (ci := 1) (v := .ref (ad_8 (p + 1 + 1))) (ty := .array .int) (C := RX1) (T := TX1) (N := 4) (fs' := [.int (0), .ref (ad_8 (p + 1)), .ref (ad_8 (p + 1 + 1)), .int (0)]) hx hb hts inlX1 tyX1 tyX1_ok nmX1 hown hK hs (p) (by omega) he_11 rfl 2 (by decide) (hts _ w_fl_RX1_15) (Or.inl rfl) (by decide +kernel) rfl rfl (Nat.le_of_ble_eq_true rfl) rfl dX1_init_18 (fun H locs en_13 hen_13 hs => ?_)
  have he_14 : en_13 (p) = .inr (1, [.int (0), .ref (ad_8 (p + 1)), .ref (ad_8 (p + 1 + 1)), .int (0)]) := by rw [hen_13]; exact va_up_self _ _ _
  have he_15 : en_13 (p + 1) = aI G (1024) (fun _ => 0) := by rw [hen_13]; exact (va_up_ne _ _ (by omega)).trans he_12
  have he_16 : en_13 (p + 1 + 1) = aI G (96) (fun _ => 0) := by rw [hen_13]; exact (va_up_ne _ _ (by omega)).trans he_10
  refine lv_aload_n hx hb dX1_init_21 rfl (lv_at hl 0 rfl) ?_
  refine lv_iconst (v := 0) hx hb dX1_init_22 (by decide) ?_
  refine r_put (ci := 1) (v := .int (0)) (ty := .int) (C := RX1) (T := TX1) (N := 4) (fs' := [.int (0), .ref (ad_8 (p + 1)), .ref (ad_8 (p + 1 + 1)), .int (0)]) hx hb hts inlX1 tyX1 tyX1_ok nmX1 hown hK hs (p) (by omega) he_14 rfl 3 (by decide) (hts _ w_fl_RX1_18) (Or.inl rfl) (by decide +kernel) rfl rfl (Nat.le_of_ble_eq_true rfl) rfl dX1_init_23 (fun H locs en_17 hen_17 hs => ?_)
  have he_18 : en_17 (p) = .inr (1, [.int (0), .ref (ad_8 (p + 1)), .ref (ad_8 (p + 1 + 1)), .int (0)]) := by rw [hen_17]; exact va_up_self _ _ _
  have he_19 : en_17 (p + 1) = aI G (1024) (fun _ => 0) := by rw [hen_17]; exact (va_up_ne _ _ (by omega)).trans he_15
  have he_20 : en_17 (p + 1 + 1) = aI G (96) (fun _ => 0) := by rw [hen_17]; exact (va_up_ne _ _ (by omega)).trans he_16
  refine lv_aload_n hx hb dX1_init_26 rfl (lv_at hl 0 rfl) ?_
  refine lv_iload_n hx hb dX1_init_27 rfl (lv_at hl 1 rfl) ?_
  refine r_put (ci := 1) (v := .int (nI most)) (ty := .int) (C := RX1) (T := TX1) (N := 4) (fs' := [.int (nI most), .ref (ad_8 (p + 1)), .ref (ad_8 (p + 1 + 1)), .int (0)]) hx hb hts inlX1 tyX1 tyX1_ok nmX1 hown hK hs (p) (by omega) he_18 rfl 0 (by decide) (hts _ w_fl_RX1_22) (Or.inr ⟨rfl, hnm, rfl⟩) (by decide +kernel) rfl rfl (Nat.le_of_ble_eq_true rfl) rfl dX1_init_28 (fun H locs en_21 hen_21 hs => ?_)
  have he_22 : en_21 (p) = .inr (1, [.int (nI most), .ref (ad_8 (p + 1)), .ref (ad_8 (p + 1 + 1)), .int (0)]) := by rw [hen_21]; exact va_up_self _ _ _
  have he_23 : en_21 (p + 1) = aI G (1024) (fun _ => 0) := by rw [hen_21]; exact (va_up_ne _ _ (by omega)).trans he_19
  have he_24 : en_21 (p + 1 + 1) = aI G (96) (fun _ => 0) := by rw [hen_21]; exact (va_up_ne _ _ (by omega)).trans he_20
  refine r_vret (mc := 2) (ms := 1120) hx hb hr hlk hs (Nat.le_of_ble_eq_true rfl) (Nat.le_of_ble_eq_true rfl) dX1_init_31 hQ ?_
  exact ⟨⟨Nat.le_refl _, Nat.zero_le _, hm, fun r hr => absurd hr List.not_mem_nil, (fun _ => 0), (fun _ => 0), he_22, he_23, he_24, kRep_nil⟩, fun k hk => by rw [kad_8 k (by omega), kad_1 k (by omega)], fun k hk => by rw [hen_21, va_up_ne _ _ (by omega), hen_17, va_up_ne _ _ (by omega), hen_13, va_up_ne _ _ (by omega), ken_9 k (by omega), hen_5, va_up_ne _ _ (by omega), ken_2 k (by omega)]⟩

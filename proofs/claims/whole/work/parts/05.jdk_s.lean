set_option maxHeartbeats 4000000 in
set_option maxRecDepth 100000 in
theorem c_J7_copyOf_59c91 (l : Launch) (G : rG) {n i N N2 : Nat} {ad : Nat → Nat} {en : Nat → va_E} {f : Nat → Int32} (hi : i < n) (he : en i = aI G N f) (hN : N < N2) (hN2 : N2 ≤ 1000000) : CR l G yJ7_copyOf_59c91 uJ7_copyOf_59c91 (1) (60) (1) (N2) [.ref (ad i), .int (nI N2)] (n) (n + 1) ad en (fun a ad1 en1 => a = ad1 n ∧ (∀ k, k < n → ad1 k = ad k) ∧ (∀ k, k < n → en1 k = en k) ∧ en1 n = aI G N2 (va_cpy f (fun _ => 0) 0 0 N)) := by
  intro sz
  refine rMet (Qc := qR G (n + 1) (fun a ad1 en1 => a = ad1 n ∧ (∀ k, k < n → ad1 k = ad k) ∧ (∀ k, k < n → en1 k = en k) ∧ en1 n = aI G N2 (va_cpy f (fun _ => 0) 0 0 N))) (cc := cJ7_copyOf_59c91) (maxL := 3) (ret := (some (.array .int))) (by decide) rfl (Nat.le_of_ble_eq_true rfl) ?_
  intro pP eE sS mM aA bB tT cC ls A Q hc hK hsz hA hs hl hQ
  obtain ⟨hx, hb, hr, hts, hown, hlk, hnm, hml⟩ := hc
  have hl : lv_has ls 3 [(0, .ref (ad i)), (1, .int (nI N2))] := hl
  refine lv_iload_n hx hb dJ7_copyOf_59c91_0 rfl (lv_at hl 1 rfl) ?_
  refine lv_aload_n hx hb dJ7_copyOf_59c91_1 rfl (lv_at hl 0 rfl) ?_
  refine r_alen (v := nI (N)) hx hb hK hs (i) 1 (by omega) he rfl rfl dJ7_copyOf_59c91_2 ?_
  refine lv_icmp_ne (tgt := 14) hx hb dJ7_copyOf_59c91_3 (by decide) (fun _ => ?_) (fun c3 => absurd c3 (bounds_of_ne hN (by omega)))
  refine lv_iload_n hx hb dJ7_copyOf_59c91_14 rfl (lv_at hl 1 rfl) ?_
  refine r_newa (atype := .int) (ty := .int) (a0 := (N2, .inl (fun _ => 0))) (N' := N2) hx hb (hts _ w_ac_int) rfl hK hs hA 1 rfl (fun _ h9 => h9) (fun _ => rfl) (nI_pos (by omega)) (nI_clamp (by omega)) (show (N2) * 4 ≤ 536870912 by omega) (Nat.le_refl _) (by show 0 + N2 ≤ N2; omega) dJ7_copyOf_59c91_15 (fun qq H ad_1 en_2 had_1 hen_2 hq hs => ?_)
  subst hq
  have kad_1 : ∀ k, k < n → ad_1 k = ad k := fun k hk => by rw [had_1]; exact va_up_ne _ _ (by omega)
  have ken_2 : ∀ k, k < n → en_2 k = en k := fun k hk => by rw [hen_2]; exact va_up_ne _ _ (by omega)
  have he_3 : en_2 (n) = aI G (N2) (fun _ => 0) := by rw [hen_2]; exact va_up_self _ _ _
  have he_4 : en_2 (i) = aI G (N) (f) := (ken_2 (i) (by omega)).trans he
  have hl : lv_has ls 3 [(0, .ref (ad_1 i)), (1, .int (nI N2))] := by rw [(kad_1 (i) (by omega))]; exact hl
  refine lv_astore_n (lv' := [(2, .ref (ad_1 (n))), (0, .ref (ad_1 i)), (1, .int (nI N2))]) hx hb dJ7_copyOf_59c91_17 rfl hl (by decide) rfl (fun ls hl => ?_)
  refine lv_aload_n hx hb dJ7_copyOf_59c91_18 rfl (lv_at hl 1 rfl) ?_
  refine lv_iconst (v := 0) hx hb dJ7_copyOf_59c91_19 (by decide) ?_
  refine lv_aload_n hx hb dJ7_copyOf_59c91_20 rfl (lv_at hl 0 rfl) ?_
  refine lv_iconst (v := 0) hx hb dJ7_copyOf_59c91_21 (by decide) ?_
  refine lv_aload_n hx hb dJ7_copyOf_59c91_22 rfl (lv_at hl 1 rfl) ?_
  refine r_alen (v := nI (N)) hx hb hK hs (i) 1 (by omega) he_4 rfl rfl dJ7_copyOf_59c91_23 ?_
  refine lv_iload_n hx hb dJ7_copyOf_59c91_24 rfl (lv_at hl 2 rfl) ?_
  refine va_mmin hx hb (hml.trans hl.1.symm) hown (hts _ w_ml_RJ7_304) (hts _ w_sta_Lib_Math_min_name) (hts _ w_ini_java_lang_Math) (hts _ w_cd_Lib_Math_min_name) (Nat.le_of_ble_eq_true rfl) (Nat.le_of_ble_eq_true rfl) (Nat.le_refl _) (by show 0 + N2 ≤ N2; omega) dJ7_copyOf_59c91_25 ?_
  refine r_topi (y := nI N) (min_nI hN (by omega)) ?_
  refine r_copyi (sp := 0) (dp := 0) (k := N) hx hb (hml.trans hl.1.symm) hown (hts _ w_ml_RJ7_150) (hts _ w_nat_arraycopyName) (hts _ w_sta_arraycopyName) (hts _ w_ini_java_lang_System) hK hs i n (by omega) (by omega) he_4 he_3 ⟨by decide, by decide, by omega⟩ (by omega) (by omega) (Nat.le_of_ble_eq_true rfl) (Nat.le_of_ble_eq_true rfl) dJ7_copyOf_59c91_28 (fun H locs en_5 hen_5 hs => ?_)
  have he_6 : en_5 (n) = aI G (N2) (va_cpy f (fun _ => 0) 0 0 N) := by rw [hen_5]; exact va_up_self _ _ _
  have he_7 : en_5 (i) = aI G (N) (f) := by rw [hen_5]; exact (va_up_ne _ _ (by omega)).trans he_4
  refine lv_aload_n hx hb dJ7_copyOf_59c91_31 rfl (lv_at hl 0 rfl) ?_
  refine r_aret (a := ad_1 (n)) (mc := 1) (ms := N2) hx hb hr (by first | exact Or.inl ⟨_, rfl⟩ | exact Or.inr ⟨_, rfl⟩) hlk hs (Nat.le_refl _) (by omega) dJ7_copyOf_59c91_32 hQ ?_
  exact ⟨rfl, kad_1, fun k hk => by rw [hen_5, va_up_ne _ _ (by omega)]; exact ken_2 k hk, he_6⟩

set_option maxHeartbeats 4000000 in
set_option maxRecDepth 100000 in
theorem c_J7_copyOf_c38d5 (l : Launch) (G : rG) {n i N N2 : Nat} {ad : Nat → Nat} {en : Nat → va_E} {f : Nat → Int64} (hi : i < n) (he : en i = aJ G N f) (hN : N < N2) (hN2 : N2 ≤ 1000000) : CR l G yJ7_copyOf_c38d5 uJ7_copyOf_c38d5 (1) (60) (1) (N2) [.ref (ad i), .int (nI N2)] (n) (n + 1) ad en (fun a ad1 en1 => a = ad1 n ∧ (∀ k, k < n → ad1 k = ad k) ∧ (∀ k, k < n → en1 k = en k) ∧ en1 n = aJ G N2 (va_cpy f (fun _ => 0) 0 0 N)) := by
  intro sz
  refine rMet (Qc := qR G (n + 1) (fun a ad1 en1 => a = ad1 n ∧ (∀ k, k < n → ad1 k = ad k) ∧ (∀ k, k < n → en1 k = en k) ∧ en1 n = aJ G N2 (va_cpy f (fun _ => 0) 0 0 N))) (cc := cJ7_copyOf_c38d5) (maxL := 3) (ret := (some (.array .long))) (by decide) rfl (Nat.le_of_ble_eq_true rfl) ?_
  intro pP eE sS mM aA bB tT cC ls A Q hc hK hsz hA hs hl hQ
  obtain ⟨hx, hb, hr, hts, hown, hlk, hnm, hml⟩ := hc
  have hl : lv_has ls 3 [(0, .ref (ad i)), (1, .int (nI N2))] := hl
  refine lv_iload_n hx hb dJ7_copyOf_c38d5_0 rfl (lv_at hl 1 rfl) ?_
  refine lv_aload_n hx hb dJ7_copyOf_c38d5_1 rfl (lv_at hl 0 rfl) ?_
  refine r_alen (v := nI (N)) hx hb hK hs (i) 2 (by omega) he rfl rfl dJ7_copyOf_c38d5_2 ?_
  refine lv_icmp_ne (tgt := 14) hx hb dJ7_copyOf_c38d5_3 (by decide) (fun _ => ?_) (fun c3 => absurd c3 (bounds_of_ne hN (by omega)))
  refine lv_iload_n hx hb dJ7_copyOf_c38d5_14 rfl (lv_at hl 1 rfl) ?_
  refine r_newa (atype := .long) (ty := .long) (a0 := (N2, .inr (.inl (fun _ => 0)))) (N' := N2) hx hb (hts _ w_ac_long) rfl hK hs hA 2 rfl (fun _ h9 => h9) (fun _ => rfl) (nI_pos (by omega)) (nI_clamp (by omega)) (show (N2) * 8 ≤ 536870912 by omega) (Nat.le_refl _) (by show 0 + N2 ≤ N2; omega) dJ7_copyOf_c38d5_15 (fun qq H ad_1 en_2 had_1 hen_2 hq hs => ?_)
  subst hq
  have kad_1 : ∀ k, k < n → ad_1 k = ad k := fun k hk => by rw [had_1]; exact va_up_ne _ _ (by omega)
  have ken_2 : ∀ k, k < n → en_2 k = en k := fun k hk => by rw [hen_2]; exact va_up_ne _ _ (by omega)
  have he_3 : en_2 (n) = aJ G (N2) (fun _ => 0) := by rw [hen_2]; exact va_up_self _ _ _
  have he_4 : en_2 (i) = aJ G (N) (f) := (ken_2 (i) (by omega)).trans he
  have hl : lv_has ls 3 [(0, .ref (ad_1 i)), (1, .int (nI N2))] := by rw [(kad_1 (i) (by omega))]; exact hl
  refine lv_astore_n (lv' := [(2, .ref (ad_1 (n))), (0, .ref (ad_1 i)), (1, .int (nI N2))]) hx hb dJ7_copyOf_c38d5_17 rfl hl (by decide) rfl (fun ls hl => ?_)
  refine lv_aload_n hx hb dJ7_copyOf_c38d5_18 rfl (lv_at hl 1 rfl) ?_
  refine lv_iconst (v := 0) hx hb dJ7_copyOf_c38d5_19 (by decide) ?_
  refine lv_aload_n hx hb dJ7_copyOf_c38d5_20 rfl (lv_at hl 0 rfl) ?_
  refine lv_iconst (v := 0) hx hb dJ7_copyOf_c38d5_21 (by decide) ?_
  refine lv_aload_n hx hb dJ7_copyOf_c38d5_22 rfl (lv_at hl 1 rfl) ?_
  refine r_alen (v := nI (N)) hx hb hK hs (i) 2 (by omega) he_4 rfl rfl dJ7_copyOf_c38d5_23 ?_
  refine lv_iload_n hx hb dJ7_copyOf_c38d5_24 rfl (lv_at hl 2 rfl) ?_
  refine va_mmin hx hb (hml.trans hl.1.symm) hown (hts _ w_ml_RJ7_304) (hts _ w_sta_Lib_Math_min_name) (hts _ w_ini_java_lang_Math) (hts _ w_cd_Lib_Math_min_name) (Nat.le_of_ble_eq_true rfl) (Nat.le_of_ble_eq_true rfl) (Nat.le_refl _) (by show 0 + N2 ≤ N2; omega) dJ7_copyOf_c38d5_25 ?_
  refine r_topi (y := nI N) (min_nI hN (by omega)) ?_
  refine r_copyl (sp := 0) (dp := 0) (k := N) hx hb (hml.trans hl.1.symm) hown (hts _ w_ml_RJ7_150) (hts _ w_nat_arraycopyName) (hts _ w_sta_arraycopyName) (hts _ w_ini_java_lang_System) hK hs i n (by omega) (by omega) he_4 he_3 ⟨by decide, by decide, by omega⟩ (by omega) (by omega) (Nat.le_of_ble_eq_true rfl) (Nat.le_of_ble_eq_true rfl) dJ7_copyOf_c38d5_28 (fun H locs en_5 hen_5 hs => ?_)
  have he_6 : en_5 (n) = aJ G (N2) (va_cpy f (fun _ => 0) 0 0 N) := by rw [hen_5]; exact va_up_self _ _ _
  have he_7 : en_5 (i) = aJ G (N) (f) := by rw [hen_5]; exact (va_up_ne _ _ (by omega)).trans he_4
  refine lv_aload_n hx hb dJ7_copyOf_c38d5_31 rfl (lv_at hl 0 rfl) ?_
  refine r_aret (a := ad_1 (n)) (mc := 1) (ms := N2) hx hb hr (by first | exact Or.inl ⟨_, rfl⟩ | exact Or.inr ⟨_, rfl⟩) hlk hs (Nat.le_refl _) (by omega) dJ7_copyOf_c38d5_32 hQ ?_
  exact ⟨rfl, kad_1, fun k hk => by rw [hen_5, va_up_ne _ _ (by omega)]; exact ken_2 k hk, he_6⟩

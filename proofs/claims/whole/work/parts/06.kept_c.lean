def Fr (n : Nat) (S Sa : Nat → Prop) (ad : Nat → Nat) (en : Nat → va_E) (ad1 : Nat → Nat) (en1 : Nat → va_E) : Prop := (∀ k, k < n → ¬ Sa k → ad1 k = ad k) ∧ (∀ k, k < n → ¬ S k → en1 k = en k)
def kMC (most : Nat) (ks : List Row) : Nat := if ks.length < most ∧ ¬ 6 * (ks.length + 1) + 6 ≤ capOf ks.length then 1 else 0
def kMS (most : Nat) (ks : List Row) : Nat := if ks.length < most ∧ ¬ 6 * (ks.length + 1) + 6 ≤ capOf ks.length then 2 * capOf ks.length else 0
def kApp (most : Nat) (ks : List Row) (r : Row) : List Row := if ks.length < most then ks ++ [r] else ks
def kAppR (most : Nat) (ks : List Row) : Int32 := if ks.length < most then nI (ks.length + 1) else (-3)
theorem KeptAt_app {G : rG} {n p : Nat} {ad ad1 : Nat → Nat} {en en1 : Nat → va_E} {most : Nat} {ks : List Row} {a b c d e : Nat} {hd gg hd1 g1 : Nat → Int32} (h : KeptAt G n p ad en most ks) (hab : a < 2 ^ 31 ∧ b < 2 ^ 31 ∧ c < 2 ^ 31 ∧ d < 2 ^ 31 ∧ e < 2 ^ 31) (hlt : ks.length < most)
    (e0 : en1 p = .inr (1, [.int (nI most), .ref (ad1 (p + 1)), .ref (ad1 (p + 2)), .int (nI (ks.length + 1))])) (e1 : en1 (p + 1) = aI G 1024 hd1) (e2 : en1 (p + 2) = aI G (capOf (ks.length + 1)) g1)
    (hgo : ∀ j, j < 6 * (ks.length + 1) → g1 j = gg j) (h0 : g1 (6 * (ks.length + 1) + 0) = nI a) (h1 : g1 (6 * (ks.length + 1) + 1) = nI b) (h2 : g1 (6 * (ks.length + 1) + 2) = nI c) (h3 : g1 (6 * (ks.length + 1) + 3) = nI d) (h4 : g1 (6 * (ks.length + 1) + 4) = nI e) (h5 : g1 (6 * (ks.length + 1) + 5) = nI (lastB ks (bktR (a, b, c, d, e)) ks.length))
    (hh : hd1 = upd hd (bktR (a, b, c, d, e)) (nI (ks.length + 1))) (hr : kRep ks hd gg) : KeptAt G n p ad1 en1 most (ks ++ [(a, b, c, d, e)]) := by
  obtain ⟨hpn, hlen, hmost, hsm, -⟩ := h
  have hL : (ks ++ [(a, b, c, d, e)]).length = ks.length + 1 := by simp
  refine ⟨hpn, by rw [hL]; omega, hmost, ?_, hd1, g1, by rw [hL]; exact e0, e1, by rw [hL]; exact e2, ?_, ?_, ?_⟩
  · intro r hr c hc
    rcases List.mem_append.mp hr with q | q
    · exact hsm r q c hc
    · rw [List.mem_singleton] at q
      subst q
      obtain ⟨q0, q1, q2, q3, q4⟩ := hab
      match c, hc with
      | 0, _ => exact q0
      | 1, _ => exact q1
      | 2, _ => exact q2
      | 3, _ => exact q3
      | 4, _ => exact q4
      | c + 5, hc => omega
  · intro k k1 k2 c hc
    rw [hL] at k2
    by_cases hk : k = ks.length + 1
    · subst hk
      rw [kAt_new]
      match c, hc with
      | 0, _ => exact h0
      | 1, _ => exact h1
      | 2, _ => exact h2
      | 3, _ => exact h3
      | 4, _ => exact h4
      | c + 5, hc => omega
    · rw [kAt_app (by omega), hgo _ (by omega)]
      exact hr.1 k k1 (by omega) c hc
  · intro k k1 k2
    rw [hL] at k2
    by_cases hk : k = ks.length + 1
    · subst hk
      rw [kAt_new, h5, Nat.add_sub_cancel, lastB_app _ _ _ _ (Nat.le_refl _)]
    · rw [kAt_app (by omega), hgo _ (by omega), hr.2.1 k k1 (by omega), lastB_app _ _ _ _ (by omega)]
  · intro q hq
    rw [hL, lastB, kAt_new, hh]
    by_cases hb : bktR (a, b, c, d, e) = q
    · rw [if_pos hb, ← hb, pk_us]
    · rw [if_neg hb, pk_un (Ne.symm hb), hr.2.2 q hq, lastB_app _ _ _ _ (Nat.le_refl _)]
set_option maxHeartbeats 4000000 in
set_option maxRecDepth 100000 in
theorem c_X1_append (l : Launch) (G : rG) {n p : Nat} {ad : Nat → Nat} {en : Nat → va_E} {most : Nat} {ks : List Row} (h : KeptAt G n p ad en most ks) {a b c1 d e1 : Nat} (hab : a < 2 ^ 31 ∧ b < 2 ^ 31 ∧ c1 < 2 ^ 31 ∧ d < 2 ^ 31 ∧ e1 < 2 ^ 31) : CI l G yX1_append uX1_append (2) (82) (kMC most ks) (kMS most ks) [.ref (ad p), .int (nI a), .int (nI b), .int (nI c1), .int (nI d), .int (nI e1)] (n) (n) ad en (fun r ad1 en1 => r = kAppR most ks ∧ KeptAt G n p ad1 en1 most (kApp most ks (a, b, c1, d, e1)) ∧ Fr n (fun k => p ≤ k ∧ k ≤ p + 2) (fun k => k = p + 2) ad en ad1 en1) := by
  intro sz
  refine rMet (Qc := qI G (n) (fun r ad1 en1 => r = kAppR most ks ∧ KeptAt G n p ad1 en1 most (kApp most ks (a, b, c1, d, e1)) ∧ Fr n (fun k => p ≤ k ∧ k ≤ p + 2) (fun k => k = p + 2) ad en ad1 en1)) (cc := cX1_append) (maxL := 8) (ret := (some .int)) (by decide) rfl (Nat.le_of_ble_eq_true rfl) ?_
  intro pP eE sS mM aA bB tT cC ls A Q hc hK hsz hA hs hl hQ
  obtain ⟨hx, hb, hr, hts, hown, hlk, hnm, hml⟩ := hc
  have hl : lv_has ls 8 [(0, .ref (ad p)), (1, .int (nI a)), (2, .int (nI b)), (3, .int (nI c1)), (4, .int (nI d)), (5, .int (nI e1))] := hl
  have hkk := h
  obtain ⟨hpn, hlen, hmost, hsm, hd, gg, he0, he1, he2, hrep⟩ := hkk
  have hcap := capOf_ge ks.length
  have hcap2 := capOf_le ks.length
  have hcap3 := capOf_ge (ks.length + 1)
  have hcap4 := capOf_le (ks.length + 1)
  obtain ⟨hbk, hbl⟩ := bktR_eq a b c1 d e1
  refine lv_aload_n hx hb dX1_append_0 rfl (lv_at hl 0 rfl) ?_
  refine r_get (ci := 1) (v := .int (nI ks.length)) (C := RX1) (T := TX1) (N := 4) hx hb hts inlX1 hown hK hs (p) (by omega) he0 rfl 3 (by decide) (hts _ w_fl_RX1_18) rfl dX1_append_1 ?_
  refine lv_aload_n hx hb dX1_append_4 rfl (lv_at hl 0 rfl) ?_
  refine r_get (ci := 1) (v := .int (nI most)) (C := RX1) (T := TX1) (N := 4) hx hb hts inlX1 hown hK hs (p) (by omega) he0 rfl 0 (by decide) (hts _ w_fl_RX1_22) rfl dX1_append_5 ?_
  refine lv_icmp_lt (tgt := 14) hx hb dX1_append_8 (by decide) (fun c8 => ?_) (fun c8 => ?_)
  · skip
    have hlt : ks.length < most := (nI_ltI (by omega) (by omega)).mp c8
    refine lv_aload_n hx hb dX1_append_14 rfl (lv_at hl 0 rfl) ?_
    refine lv_dup hx hb dX1_append_15 rfl ?_
    refine r_get (ci := 1) (v := .int (nI ks.length)) (C := RX1) (T := TX1) (N := 4) hx hb hts inlX1 hown hK hs (p) (by omega) he0 rfl 3 (by decide) (hts _ w_fl_RX1_18) rfl dX1_append_16 ?_
    refine lv_iconst (v := 1) hx hb dX1_append_19 (by decide) ?_
    refine lv_iadd hx hb dX1_append_20 ?_
    refine r_topi (y := nI (ks.length + 1)) (nI_add _ _) ?_
    refine r_put (ci := 1) (v := .int (nI (ks.length + 1))) (ty := .int) (C := RX1) (T := TX1) (N := 4) (fs' := [.int (nI most), .ref (ad (p + 1)), .ref (ad (p + 2)), .int (nI (ks.length + 1))]) hx hb hts inlX1 tyX1 tyX1_ok nmX1 hown hK hs (p) (by omega) he0 rfl 3 (by decide) (hts _ w_fl_RX1_18) (Or.inl rfl) (by decide +kernel) rfl rfl (Nat.le_of_ble_eq_true rfl) rfl dX1_append_21 (fun H locs en_1 hen_1 hs => ?_)
    have he_2 : en_1 (p) = .inr (1, [.int (nI most), .ref (ad (p + 1)), .ref (ad (p + 2)), .int (nI (ks.length + 1))]) := by rw [hen_1]; exact va_up_self _ _ _
    have he_3 : en_1 (p + 1) = aI G (1024) (hd) := by rw [hen_1]; exact (va_up_ne _ _ (by omega)).trans he1
    have he_4 : en_1 (p + 2) = aI G (capOf ks.length) (gg) := by rw [hen_1]; exact (va_up_ne _ _ (by omega)).trans he2
    refine lv_aload_n hx hb dX1_append_24 rfl (lv_at hl 0 rfl) ?_
    refine r_get (ci := 1) (v := .int (nI (ks.length + 1))) (C := RX1) (T := TX1) (N := 4) hx hb hts inlX1 hown hK hs (p) (by omega) he_2 rfl 3 (by decide) (hts _ w_fl_RX1_18) rfl dX1_append_25 ?_
    refine lv_bipush (v := 6) hx hb dX1_append_28 (by decide) ?_
    refine lv_imul hx hb dX1_append_30 ?_
    refine r_topi (y := nI (6 * (ks.length + 1))) (by simp only [ l0, l1, l2, l3, l4, l5, l6, l10, l600, pk_mul, nI_add]; first | done | exact congrArg nI (by omega)) ?_
    refine lv_istore (lv' := [(6, .int (nI (6 * (ks.length + 1)))), (0, .ref (ad p)), (1, .int (nI a)), (2, .int (nI b)), (3, .int (nI c1)), (4, .int (nI d)), (5, .int (nI e1))]) hx hb dX1_append_31 hl (by decide) rfl (fun ls hl => ?_)
    refine lv_iload hx hb dX1_append_33 (lv_at hl 0 rfl) ?_
    refine lv_bipush (v := 6) hx hb dX1_append_35 (by decide) ?_
    refine lv_iadd hx hb dX1_append_37 ?_
    refine r_topi (y := nI (6 * (ks.length + 1) + 6)) (by simp only [ l0, l1, l2, l3, l4, l5, l6, l10, l600, pk_mul, nI_add]; first | done | exact congrArg nI (by omega)) ?_
    refine lv_aload_n hx hb dX1_append_38 rfl (lv_at hl 1 rfl) ?_
    refine r_get (ci := 1) (v := .ref (ad (p + 2))) (C := RX1) (T := TX1) (N := 4) hx hb hts inlX1 hown hK hs (p) (by omega) he_2 rfl 2 (by decide) (hts _ w_fl_RX1_15) rfl dX1_append_39 ?_
    refine r_alen (v := nI (capOf ks.length)) hx hb hK hs (p + 2) 1 (by omega) he_4 rfl rfl dX1_append_42 ?_
    refine lv_icmp_le (tgt := 64) hx hb dX1_append_43 (by decide) (fun c43 => ?_) (fun c43 => ?_)
    · skip
      have hcp : 6 * (ks.length + 1) + 6 ≤ capOf ks.length := (nI_leI (by omega) (by omega)).mp c43
      have he_5 : en_1 (p + 2) = aI G (capOf (ks.length + 1)) (gg) := by rw [show capOf (ks.length + 1) = capOf ks.length by rw [capOf, if_pos hcp]]; exact he_4
      obtain ⟨g0, hg0⟩ : ∃ z, z = gg := ⟨_, rfl⟩
      rw [← hg0] at he_5
      have hag : ∀ j, j < 6 * ks.length + 6 → g0 j = gg j := fun j hj => by rw [hg0]
      have hfr : Fr n (fun k => p ≤ k ∧ k ≤ p + 2) (fun k => k = p + 2) ad en ad en_1 := ⟨fun k hk hn => rfl, fun k hk hn => by rw [hen_1]; exact va_up_ne _ _ (by omega)⟩
      refine lv_aload_n hx hb dX1_append_64 rfl (lv_at hl 1 rfl) ?_
      refine r_get (ci := 1) (v := .ref (ad (p + 2))) (C := RX1) (T := TX1) (N := 4) hx hb hts inlX1 hown hK hs (p) (by omega) he_2 rfl 2 (by decide) (hts _ w_fl_RX1_15) rfl dX1_append_65 ?_
      refine lv_iload hx hb dX1_append_68 (lv_at hl 0 rfl) ?_
      refine lv_iload_n hx hb dX1_append_70 rfl (lv_at hl 2 rfl) ?_
      refine r_iastN (t := 6 * (ks.length + 1) + 0) hx hb hK hs (p + 2) (by omega) he_5 (rfl) (by omega) (by omega) dX1_append_71 (fun H locs en_7 hen_7 hs => ?_)
      obtain ⟨g_8, eg_8⟩ : ∃ z, z = upd (g0) (6 * (ks.length + 1) + 0) (nI a) := ⟨_, rfl⟩
      have he_9 : en_7 (p + 2) = aI G (capOf (ks.length + 1)) (g_8) := by rw [hen_7, eg_8]; exact va_up_self _ _ _
      have he_10 : en_7 (p) = .inr (1, [.int (nI most), .ref (ad (p + 1)), .ref (ad (p + 2)), .int (nI (ks.length + 1))]) := by rw [hen_7]; exact (va_up_ne _ _ (by omega)).trans he_2
      have he_11 : en_7 (p + 1) = aI G (1024) (hd) := by rw [hen_7]; exact (va_up_ne _ _ (by omega)).trans he_3
      refine lv_aload_n hx hb dX1_append_72 rfl (lv_at hl 1 rfl) ?_
      refine r_get (ci := 1) (v := .ref (ad (p + 2))) (C := RX1) (T := TX1) (N := 4) hx hb hts inlX1 hown hK hs (p) (by omega) he_10 rfl 2 (by decide) (hts _ w_fl_RX1_15) rfl dX1_append_73 ?_
      refine lv_iload hx hb dX1_append_76 (lv_at hl 0 rfl) ?_
      refine lv_iconst (v := 1) hx hb dX1_append_78 (by decide) ?_
      refine lv_iadd hx hb dX1_append_79 ?_
      refine lv_iload_n hx hb dX1_append_80 rfl (lv_at hl 3 rfl) ?_
      refine r_iastN (t := 6 * (ks.length + 1) + 1) hx hb hK hs (p + 2) (by omega) he_9 (by simp only [ l0, l1, l2, l3, l4, l5, l6, l10, l600, pk_mul, nI_add]; first | done | exact congrArg nI (by omega)) (by omega) (by omega) dX1_append_81 (fun H locs en_13 hen_13 hs => ?_)
      obtain ⟨g_14, eg_14⟩ : ∃ z, z = upd (g_8) (6 * (ks.length + 1) + 1) (nI b) := ⟨_, rfl⟩
      have he_15 : en_13 (p + 2) = aI G (capOf (ks.length + 1)) (g_14) := by rw [hen_13, eg_14]; exact va_up_self _ _ _
      have he_16 : en_13 (p) = .inr (1, [.int (nI most), .ref (ad (p + 1)), .ref (ad (p + 2)), .int (nI (ks.length + 1))]) := by rw [hen_13]; exact (va_up_ne _ _ (by omega)).trans he_10
      have he_17 : en_13 (p + 1) = aI G (1024) (hd) := by rw [hen_13]; exact (va_up_ne _ _ (by omega)).trans he_11
      refine lv_aload_n hx hb dX1_append_82 rfl (lv_at hl 1 rfl) ?_
      refine r_get (ci := 1) (v := .ref (ad (p + 2))) (C := RX1) (T := TX1) (N := 4) hx hb hts inlX1 hown hK hs (p) (by omega) he_16 rfl 2 (by decide) (hts _ w_fl_RX1_15) rfl dX1_append_83 ?_
      refine lv_iload hx hb dX1_append_86 (lv_at hl 0 rfl) ?_
      refine lv_iconst (v := 2) hx hb dX1_append_88 (by decide) ?_
      refine lv_iadd hx hb dX1_append_89 ?_
      refine lv_iload_n hx hb dX1_append_90 rfl (lv_at hl 4 rfl) ?_
      refine r_iastN (t := 6 * (ks.length + 1) + 2) hx hb hK hs (p + 2) (by omega) he_15 (by simp only [ l0, l1, l2, l3, l4, l5, l6, l10, l600, pk_mul, nI_add]; first | done | exact congrArg nI (by omega)) (by omega) (by omega) dX1_append_91 (fun H locs en_19 hen_19 hs => ?_)
      obtain ⟨g_20, eg_20⟩ : ∃ z, z = upd (g_14) (6 * (ks.length + 1) + 2) (nI c1) := ⟨_, rfl⟩
      have he_21 : en_19 (p + 2) = aI G (capOf (ks.length + 1)) (g_20) := by rw [hen_19, eg_20]; exact va_up_self _ _ _
      have he_22 : en_19 (p) = .inr (1, [.int (nI most), .ref (ad (p + 1)), .ref (ad (p + 2)), .int (nI (ks.length + 1))]) := by rw [hen_19]; exact (va_up_ne _ _ (by omega)).trans he_16
      have he_23 : en_19 (p + 1) = aI G (1024) (hd) := by rw [hen_19]; exact (va_up_ne _ _ (by omega)).trans he_17
      refine lv_aload_n hx hb dX1_append_92 rfl (lv_at hl 1 rfl) ?_
      refine r_get (ci := 1) (v := .ref (ad (p + 2))) (C := RX1) (T := TX1) (N := 4) hx hb hts inlX1 hown hK hs (p) (by omega) he_22 rfl 2 (by decide) (hts _ w_fl_RX1_15) rfl dX1_append_93 ?_
      refine lv_iload hx hb dX1_append_96 (lv_at hl 0 rfl) ?_
      refine lv_iconst (v := 3) hx hb dX1_append_98 (by decide) ?_
      refine lv_iadd hx hb dX1_append_99 ?_
      refine lv_iload hx hb dX1_append_100 (lv_at hl 5 rfl) ?_
      refine r_iastN (t := 6 * (ks.length + 1) + 3) hx hb hK hs (p + 2) (by omega) he_21 (by simp only [ l0, l1, l2, l3, l4, l5, l6, l10, l600, pk_mul, nI_add]; first | done | exact congrArg nI (by omega)) (by omega) (by omega) dX1_append_102 (fun H locs en_25 hen_25 hs => ?_)
      obtain ⟨g_26, eg_26⟩ : ∃ z, z = upd (g_20) (6 * (ks.length + 1) + 3) (nI d) := ⟨_, rfl⟩
      have he_27 : en_25 (p + 2) = aI G (capOf (ks.length + 1)) (g_26) := by rw [hen_25, eg_26]; exact va_up_self _ _ _
      have he_28 : en_25 (p) = .inr (1, [.int (nI most), .ref (ad (p + 1)), .ref (ad (p + 2)), .int (nI (ks.length + 1))]) := by rw [hen_25]; exact (va_up_ne _ _ (by omega)).trans he_22
      have he_29 : en_25 (p + 1) = aI G (1024) (hd) := by rw [hen_25]; exact (va_up_ne _ _ (by omega)).trans he_23
      refine lv_aload_n hx hb dX1_append_103 rfl (lv_at hl 1 rfl) ?_
      refine r_get (ci := 1) (v := .ref (ad (p + 2))) (C := RX1) (T := TX1) (N := 4) hx hb hts inlX1 hown hK hs (p) (by omega) he_28 rfl 2 (by decide) (hts _ w_fl_RX1_15) rfl dX1_append_104 ?_
      refine lv_iload hx hb dX1_append_107 (lv_at hl 0 rfl) ?_
      refine lv_iconst (v := 4) hx hb dX1_append_109 (by decide) ?_
      refine lv_iadd hx hb dX1_append_110 ?_
      refine lv_iload hx hb dX1_append_111 (lv_at hl 6 rfl) ?_
      refine r_iastN (t := 6 * (ks.length + 1) + 4) hx hb hK hs (p + 2) (by omega) he_27 (by simp only [ l0, l1, l2, l3, l4, l5, l6, l10, l600, pk_mul, nI_add]; first | done | exact congrArg nI (by omega)) (by omega) (by omega) dX1_append_113 (fun H locs en_31 hen_31 hs => ?_)
      obtain ⟨g_32, eg_32⟩ : ∃ z, z = upd (g_26) (6 * (ks.length + 1) + 4) (nI e1) := ⟨_, rfl⟩
      have he_33 : en_31 (p + 2) = aI G (capOf (ks.length + 1)) (g_32) := by rw [hen_31, eg_32]; exact va_up_self _ _ _
      have he_34 : en_31 (p) = .inr (1, [.int (nI most), .ref (ad (p + 1)), .ref (ad (p + 2)), .int (nI (ks.length + 1))]) := by rw [hen_31]; exact (va_up_ne _ _ (by omega)).trans he_28
      have he_35 : en_31 (p + 1) = aI G (1024) (hd) := by rw [hen_31]; exact (va_up_ne _ _ (by omega)).trans he_29
      refine lv_iload_n hx hb dX1_append_114 rfl (lv_at hl 2 rfl) ?_
      refine lv_iload_n hx hb dX1_append_115 rfl (lv_at hl 3 rfl) ?_
      refine lv_iload_n hx hb dX1_append_116 rfl (lv_at hl 4 rfl) ?_
      refine lv_iload hx hb dX1_append_117 (lv_at hl 5 rfl) ?_
      refine lv_iload hx hb dX1_append_119 (lv_at hl 6 rfl) ?_
      refine r_callSiR (As := [.int (nI a), .int (nI b), .int (nI c1), .int (nI d), .int (nI e1)]) hx hb hml hown hts hK hA hs (c_X1_bucketOf l G (nI a) (nI b) (nI c1) (nI d) (nI e1)) (va_cwS 5 hts (tbS w_ml_RX1_25 w_sta_yX1_bucketOf w_ini_RX1 w_cd_yX1_bucketOf) rfl rfl rfl (by decide +kernel) ⟨Nat.le_of_ble_eq_true rfl, Nat.le_of_ble_eq_true rfl⟩) rfl hl.1 rfl (Nat.le_of_ble_eq_true rfl) dX1_append_121 ⟨by show _ ≤ kMC most ks; omega, by show _ ≤ kMS most ks; omega⟩ (fun H locs hs => ?_)
      refine r_topi (y := nI (bktR (a, b, c1, d, e1))) (hbk) ?_
      refine lv_istore (lv' := [(7, .int (nI (bktR (a, b, c1, d, e1)))), (6, .int (nI (6 * (ks.length + 1)))), (0, .ref (ad p)), (1, .int (nI a)), (2, .int (nI b)), (3, .int (nI c1)), (4, .int (nI d)), (5, .int (nI e1))]) hx hb dX1_append_124 hl (by decide) rfl (fun ls hl => ?_)
      refine lv_aload_n hx hb dX1_append_126 rfl (lv_at hl 2 rfl) ?_
      refine r_get (ci := 1) (v := .ref (ad (p + 2))) (C := RX1) (T := TX1) (N := 4) hx hb hts inlX1 hown hK hs (p) (by omega) he_34 rfl 2 (by decide) (hts _ w_fl_RX1_15) rfl dX1_append_127 ?_
      refine lv_iload hx hb dX1_append_130 (lv_at hl 1 rfl) ?_
      refine lv_iconst (v := 5) hx hb dX1_append_132 (by decide) ?_
      refine lv_iadd hx hb dX1_append_133 ?_
      refine lv_aload_n hx hb dX1_append_134 rfl (lv_at hl 2 rfl) ?_
      refine r_get (ci := 1) (v := .ref (ad (p + 1))) (C := RX1) (T := TX1) (N := 4) hx hb hts inlX1 hown hK hs (p) (by omega) he_34 rfl 1 (by decide) (hts _ w_fl_RX1_11) rfl dX1_append_135 ?_
      refine lv_iload hx hb dX1_append_138 (lv_at hl 0 rfl) ?_
      refine r_ialdN (t := bktR (a, b, c1, d, e1)) hx hb hK hs (p + 1) (by omega) he_35 (rfl) (hbl) (by omega) dX1_append_140 ?_
      refine r_topi (y := nI (lastB ks (bktR (a, b, c1, d, e1)) ks.length)) (hrep.2.2 _ hbl) ?_
      refine r_iastN (t := 6 * (ks.length + 1) + 5) hx hb hK hs (p + 2) (by omega) he_33 (by simp only [ l0, l1, l2, l3, l4, l5, l6, l10, l600, pk_mul, nI_add]; first | done | exact congrArg nI (by omega)) (by omega) (by omega) dX1_append_141 (fun H locs en_37 hen_37 hs => ?_)
      obtain ⟨g_38, eg_38⟩ : ∃ z, z = upd (g_32) (6 * (ks.length + 1) + 5) (nI (lastB ks (bktR (a, b, c1, d, e1)) ks.length)) := ⟨_, rfl⟩
      have he_39 : en_37 (p + 2) = aI G (capOf (ks.length + 1)) (g_38) := by rw [hen_37, eg_38]; exact va_up_self _ _ _
      have he_40 : en_37 (p) = .inr (1, [.int (nI most), .ref (ad (p + 1)), .ref (ad (p + 2)), .int (nI (ks.length + 1))]) := by rw [hen_37]; exact (va_up_ne _ _ (by omega)).trans he_34
      have he_41 : en_37 (p + 1) = aI G (1024) (hd) := by rw [hen_37]; exact (va_up_ne _ _ (by omega)).trans he_35
      refine lv_aload_n hx hb dX1_append_142 rfl (lv_at hl 2 rfl) ?_
      refine r_get (ci := 1) (v := .ref (ad (p + 1))) (C := RX1) (T := TX1) (N := 4) hx hb hts inlX1 hown hK hs (p) (by omega) he_40 rfl 1 (by decide) (hts _ w_fl_RX1_11) rfl dX1_append_143 ?_
      refine lv_iload hx hb dX1_append_146 (lv_at hl 0 rfl) ?_
      refine lv_aload_n hx hb dX1_append_148 rfl (lv_at hl 2 rfl) ?_
      refine r_get (ci := 1) (v := .int (nI (ks.length + 1))) (C := RX1) (T := TX1) (N := 4) hx hb hts inlX1 hown hK hs (p) (by omega) he_40 rfl 3 (by decide) (hts _ w_fl_RX1_18) rfl dX1_append_149 ?_
      refine r_iastN (t := bktR (a, b, c1, d, e1)) hx hb hK hs (p + 1) (by omega) he_41 (rfl) (hbl) (by omega) dX1_append_152 (fun H locs en_43 hen_43 hs => ?_)
      obtain ⟨g_44, eg_44⟩ : ∃ z, z = upd (hd) (bktR (a, b, c1, d, e1)) (nI (ks.length + 1)) := ⟨_, rfl⟩
      have he_45 : en_43 (p + 1) = aI G (1024) (g_44) := by rw [hen_43, eg_44]; exact va_up_self _ _ _
      have he_46 : en_43 (p) = .inr (1, [.int (nI most), .ref (ad (p + 1)), .ref (ad (p + 2)), .int (nI (ks.length + 1))]) := by rw [hen_43]; exact (va_up_ne _ _ (by omega)).trans he_40
      have he_47 : en_43 (p + 2) = aI G (capOf (ks.length + 1)) (g_38) := by rw [hen_43]; exact (va_up_ne _ _ (by omega)).trans he_39
      refine lv_aload_n hx hb dX1_append_153 rfl (lv_at hl 2 rfl) ?_
      refine r_get (ci := 1) (v := .int (nI (ks.length + 1))) (C := RX1) (T := TX1) (N := 4) hx hb hts inlX1 hown hK hs (p) (by omega) he_46 rfl 3 (by decide) (hts _ w_fl_RX1_18) rfl dX1_append_154 ?_
      refine r_iret (v := nI (ks.length + 1)) (mc := kMC most ks) (ms := kMS most ks) hx hb hr hlk hs (by first | omega | exact Nat.zero_le _) (by first | omega | exact Nat.zero_le _) dX1_append_157 hQ ?_
      have hgo : ∀ j, j < 6 * (ks.length + 1) → g_38 j = gg j := fun j hj => by rw [eg_38, pk_un (by omega), eg_32, pk_un (by omega), eg_26, pk_un (by omega), eg_20, pk_un (by omega), eg_14, pk_un (by omega), eg_8, pk_un (by omega)]; exact hag j (by omega)
      have hg0 : g_38 (6 * (ks.length + 1) + 0) = nI a := by rw [eg_38, pk_un (by omega), eg_32, pk_un (by omega), eg_26, pk_un (by omega), eg_20, pk_un (by omega), eg_14, pk_un (by omega), eg_8, pk_us]
      have hg1 : g_38 (6 * (ks.length + 1) + 1) = nI b := by rw [eg_38, pk_un (by omega), eg_32, pk_un (by omega), eg_26, pk_un (by omega), eg_20, pk_un (by omega), eg_14, pk_us]
      have hg2 : g_38 (6 * (ks.length + 1) + 2) = nI c1 := by rw [eg_38, pk_un (by omega), eg_32, pk_un (by omega), eg_26, pk_un (by omega), eg_20, pk_us]
      have hg3 : g_38 (6 * (ks.length + 1) + 3) = nI d := by rw [eg_38, pk_un (by omega), eg_32, pk_un (by omega), eg_26, pk_us]
      have hg4 : g_38 (6 * (ks.length + 1) + 4) = nI e1 := by rw [eg_38, pk_un (by omega), eg_32, pk_us]
      have hg5 : g_38 (6 * (ks.length + 1) + 5) = nI (lastB ks (bktR (a, b, c1, d, e1)) ks.length) := by rw [eg_38, pk_us]
      refine ⟨by rw [kAppR, if_pos hlt], ?_, ?_⟩
      · rw [kApp, if_pos hlt]; exact KeptAt_app h hab hlt (ad1 := ad) (hd1 := g_44) (g1 := g_38) he_46 he_45 he_47 hgo hg0 hg1 hg2 hg3 hg4 hg5 (by rw [eg_44]) hrep
      · exact ⟨fun k hk hn => hfr.1 k hk hn, fun k hk hn => by rw [hen_43, va_up_ne _ _ (by omega), hen_37, va_up_ne _ _ (by omega), hen_31, va_up_ne _ _ (by omega), hen_25, va_up_ne _ _ (by omega), hen_19, va_up_ne _ _ (by omega), hen_13, va_up_ne _ _ (by omega), hen_7, va_up_ne _ _ (by omega)]; exact hfr.2 k hk hn⟩
    · skip
      have hcp : ¬ 6 * (ks.length + 1) + 6 ≤ capOf ks.length := fun q => c43 ((nI_leI (by omega) (by omega)).mpr q)
      have hMC : kMC most ks = 1 := if_pos ⟨hlt, hcp⟩
      have hMS : kMS most ks = 2 * capOf ks.length := if_pos ⟨hlt, hcp⟩
      refine lv_aload_n hx hb dX1_append_46 rfl (lv_at hl 1 rfl) ?_
      refine lv_aload_n hx hb dX1_append_47 rfl (lv_at hl 1 rfl) ?_
      refine r_get (ci := 1) (v := .ref (ad (p + 2))) (C := RX1) (T := TX1) (N := 4) hx hb hts inlX1 hown hK hs (p) (by omega) he_2 rfl 2 (by decide) (hts _ w_fl_RX1_15) rfl dX1_append_48 ?_
      refine lv_iconst (v := 2) hx hb dX1_append_51 (by decide) ?_
      refine lv_aload_n hx hb dX1_append_52 rfl (lv_at hl 1 rfl) ?_
      refine r_get (ci := 1) (v := .ref (ad (p + 2))) (C := RX1) (T := TX1) (N := 4) hx hb hts inlX1 hown hK hs (p) (by omega) he_2 rfl 2 (by decide) (hts _ w_fl_RX1_15) rfl dX1_append_53 ?_
      refine r_alen (v := nI (capOf ks.length)) hx hb hK hs (p + 2) 1 (by omega) he_4 rfl rfl dX1_append_56 ?_
      refine lv_imul hx hb dX1_append_57 ?_
      refine r_topi (y := nI (2 * capOf ks.length)) (by simp only [ l0, l1, l2, l3, l4, l5, l6, l10, l600, pk_mul, nI_add]; first | done | exact congrArg nI (by omega)) ?_
      refine r_callSr (As := [.ref (ad (p + 2)), .int (nI (2 * capOf ks.length))]) hx hb hml hown hts hK hA hs (c_J7_copyOf_59c91 l G (by omega) he_4 (by omega) (by omega)) (va_cwS 2 hts (tbS w_ml_RX1_29 w_sta_yJ7_copyOf_59c91 w_ini_RJ7 w_cd_yJ7_copyOf_59c91) rfl rfl rfl (by decide +kernel) ⟨Nat.le_of_ble_eq_true rfl, Nat.le_of_ble_eq_true rfl⟩) rfl hl.1 rfl (Nat.le_of_ble_eq_true rfl) dX1_append_58 ⟨by show 0 + 1 ≤ kMC most ks; omega, by show 0 + _ ≤ kMS most ks; omega⟩ (fun ra_51 ad_48 en_49 H locs hp_50 hs => ?_)
      obtain ⟨hra, kad_48, ken_49, hnew⟩ := hp_50
      subst hra
      have he_52 : en_49 (p) = .inr (1, [.int (nI most), .ref (ad_48 (p + 1)), .ref (ad_48 (p + 2)), .int (nI (ks.length + 1))]) := by rw [(kad_48 (p + 1) (by omega)), (kad_48 (p + 2) (by omega))]; exact (ken_49 (p) (by omega)).trans he_2
      have he_53 : en_49 (p + 1) = aI G (1024) (hd) := (ken_49 (p + 1) (by omega)).trans he_3
      have he_54 : en_49 (p + 2) = aI G (capOf ks.length) (gg) := (ken_49 (p + 2) (by omega)).trans he_4
      have hl : lv_has ls 8 [(6, .int (nI (6 * (ks.length + 1)))), (0, .ref (ad_48 p)), (1, .int (nI a)), (2, .int (nI b)), (3, .int (nI c1)), (4, .int (nI d)), (5, .int (nI e1))] := by rw [(kad_48 (p) (by omega))]; exact hl
      rw [← (kad_48 (p) (by omega))]
      refine r_put (ci := 1) (v := .ref (ad_48 (n))) (ty := .array .int) (C := RX1) (T := TX1) (N := 4) (fs' := [.int (nI most), .ref (ad_48 (p + 1)), .ref (ad_48 (n)), .int (nI (ks.length + 1))]) hx hb hts inlX1 tyX1 tyX1_ok nmX1 hown hK hs (p) (by omega) he_52 rfl 2 (by decide) (hts _ w_fl_RX1_15) (Or.inl rfl) (by decide +kernel) rfl rfl (Nat.le_of_ble_eq_true rfl) rfl dX1_append_61 (fun H locs en_55 hen_55 hs => ?_)
      have he_56 : en_55 (p) = .inr (1, [.int (nI most), .ref (ad_48 (p + 1)), .ref (ad_48 (n)), .int (nI (ks.length + 1))]) := by rw [hen_55]; exact va_up_self _ _ _
      have he_57 : en_55 (p + 1) = aI G (1024) (hd) := by rw [hen_55]; exact (va_up_ne _ _ (by omega)).trans he_53
      have he_58 : en_55 (p + 2) = aI G (capOf ks.length) (gg) := by rw [hen_55]; exact (va_up_ne _ _ (by omega)).trans he_54
      have he_59 : en_55 (n) = aI G (2 * capOf ks.length) (va_cpy gg (fun _ => 0) 0 0 (capOf ks.length)) := by rw [hen_55]; exact (va_up_ne _ _ (by omega)).trans hnew
      obtain ⟨ad_60, had_60⟩ : ∃ z, z = va_up ad_48 (p + 2) (ad_48 (n)) := ⟨_, rfl⟩
      obtain ⟨en_61, hen_61⟩ : ∃ z, z = va_up en_55 (p + 2) (en_55 (n)) := ⟨_, rfl⟩
      have hs : rS G A sS.heap (n) ad_60 en_61 H locs := by rw [had_60, hen_61]; exact rS_swap (p + 2) (by omega) hs
      have kad_60 : ∀ k, k ≠ p + 2 → ad_60 k = ad_48 k := fun k hk => by rw [had_60]; exact va_up_ne _ _ hk
      have ken_61 : ∀ k, k ≠ p + 2 → en_61 k = en_55 k := fun k hk => by rw [hen_61]; exact va_up_ne _ _ hk
      have jad_60 : ad_60 (p + 2) = ad_48 (n) := by rw [had_60]; exact va_up_self _ _ _
      have he_62 : en_61 (p + 2) = aI G (2 * capOf ks.length) (va_cpy gg (fun _ => 0) 0 0 (capOf ks.length)) := by rw [hen_61]; exact (va_up_self _ _ _).trans he_59
      have he_63 : en_61 (p) = .inr (1, [.int (nI most), .ref (ad_60 (p + 1)), .ref (ad_60 (p + 2)), .int (nI (ks.length + 1))]) := by rw [kad_60 (p + 1) (by omega), jad_60]; exact (ken_61 _ (by omega)).trans he_56
      have he_64 : en_61 (p + 1) = aI G (1024) (hd) := (ken_61 _ (by omega)).trans he_57
      have hl : lv_has ls 8 [(6, .int (nI (6 * (ks.length + 1)))), (0, .ref (ad_60 p)), (1, .int (nI a)), (2, .int (nI b)), (3, .int (nI c1)), (4, .int (nI d)), (5, .int (nI e1))] := by rw [kad_60 (p) (by omega)]; exact hl
      obtain ⟨g0, hg0⟩ : ∃ z, z = va_cpy gg (fun _ => 0) 0 0 (capOf ks.length) := ⟨_, rfl⟩
      have he_65 : en_61 (p + 2) = aI G (capOf (ks.length + 1)) (g0) := by rw [hg0, show capOf (ks.length + 1) = 2 * capOf ks.length by rw [capOf, if_neg hcp]]; exact he_62
      have hag : ∀ j, j < 6 * ks.length + 6 → g0 j = gg j := fun j hj => by rw [hg0]; exact sb_cpy0 (by omega)
      have hfr : Fr n (fun k => p ≤ k ∧ k ≤ p + 2) (fun k => k = p + 2) ad en ad_60 en_61 := ⟨fun k hk hn => by rw [kad_60 k hn, kad_48 k hk], fun k hk hn => by rw [ken_61 k (by omega), hen_55, va_up_ne _ _ (by omega), ken_49 k hk, hen_1]; exact va_up_ne _ _ (by omega)⟩
      refine lv_aload_n hx hb dX1_append_64 rfl (lv_at hl 1 rfl) ?_
      refine r_get (ci := 1) (v := .ref (ad_60 (p + 2))) (C := RX1) (T := TX1) (N := 4) hx hb hts inlX1 hown hK hs (p) (by omega) he_63 rfl 2 (by decide) (hts _ w_fl_RX1_15) rfl dX1_append_65 ?_
      refine lv_iload hx hb dX1_append_68 (lv_at hl 0 rfl) ?_
      refine lv_iload_n hx hb dX1_append_70 rfl (lv_at hl 2 rfl) ?_
      refine r_iastN (t := 6 * (ks.length + 1) + 0) hx hb hK hs (p + 2) (by omega) he_65 (rfl) (by omega) (by omega) dX1_append_71 (fun H locs en_67 hen_67 hs => ?_)
      obtain ⟨g_68, eg_68⟩ : ∃ z, z = upd (g0) (6 * (ks.length + 1) + 0) (nI a) := ⟨_, rfl⟩
      have he_69 : en_67 (p + 2) = aI G (capOf (ks.length + 1)) (g_68) := by rw [hen_67, eg_68]; exact va_up_self _ _ _
      have he_70 : en_67 (p) = .inr (1, [.int (nI most), .ref (ad_60 (p + 1)), .ref (ad_60 (p + 2)), .int (nI (ks.length + 1))]) := by rw [hen_67]; exact (va_up_ne _ _ (by omega)).trans he_63
      have he_71 : en_67 (p + 1) = aI G (1024) (hd) := by rw [hen_67]; exact (va_up_ne _ _ (by omega)).trans he_64
      refine lv_aload_n hx hb dX1_append_72 rfl (lv_at hl 1 rfl) ?_
      refine r_get (ci := 1) (v := .ref (ad_60 (p + 2))) (C := RX1) (T := TX1) (N := 4) hx hb hts inlX1 hown hK hs (p) (by omega) he_70 rfl 2 (by decide) (hts _ w_fl_RX1_15) rfl dX1_append_73 ?_
      refine lv_iload hx hb dX1_append_76 (lv_at hl 0 rfl) ?_
      refine lv_iconst (v := 1) hx hb dX1_append_78 (by decide) ?_
      refine lv_iadd hx hb dX1_append_79 ?_
      refine lv_iload_n hx hb dX1_append_80 rfl (lv_at hl 3 rfl) ?_
      refine r_iastN (t := 6 * (ks.length + 1) + 1) hx hb hK hs (p + 2) (by omega) he_69 (by simp only [ l0, l1, l2, l3, l4, l5, l6, l10, l600, pk_mul, nI_add]; first | done | exact congrArg nI (by omega)) (by omega) (by omega) dX1_append_81 (fun H locs en_73 hen_73 hs => ?_)
      obtain ⟨g_74, eg_74⟩ : ∃ z, z = upd (g_68) (6 * (ks.length + 1) + 1) (nI b) := ⟨_, rfl⟩
      have he_75 : en_73 (p + 2) = aI G (capOf (ks.length + 1)) (g_74) := by rw [hen_73, eg_74]; exact va_up_self _ _ _
      have he_76 : en_73 (p) = .inr (1, [.int (nI most), .ref (ad_60 (p + 1)), .ref (ad_60 (p + 2)), .int (nI (ks.length + 1))]) := by rw [hen_73]; exact (va_up_ne _ _ (by omega)).trans he_70
      have he_77 : en_73 (p + 1) = aI G (1024) (hd) := by rw [hen_73]; exact (va_up_ne _ _ (by omega)).trans he_71
      refine lv_aload_n hx hb dX1_append_82 rfl (lv_at hl 1 rfl) ?_
      refine r_get (ci := 1) (v := .ref (ad_60 (p + 2))) (C := RX1) (T := TX1) (N := 4) hx hb hts inlX1 hown hK hs (p) (by omega) he_76 rfl 2 (by decide) (hts _ w_fl_RX1_15) rfl dX1_append_83 ?_
      refine lv_iload hx hb dX1_append_86 (lv_at hl 0 rfl) ?_
      refine lv_iconst (v := 2) hx hb dX1_append_88 (by decide) ?_
      refine lv_iadd hx hb dX1_append_89 ?_
      refine lv_iload_n hx hb dX1_append_90 rfl (lv_at hl 4 rfl) ?_
      refine r_iastN (t := 6 * (ks.length + 1) + 2) hx hb hK hs (p + 2) (by omega) he_75 (by simp only [ l0, l1, l2, l3, l4, l5, l6, l10, l600, pk_mul, nI_add]; first | done | exact congrArg nI (by omega)) (by omega) (by omega) dX1_append_91 (fun H locs en_79 hen_79 hs => ?_)
      obtain ⟨g_80, eg_80⟩ : ∃ z, z = upd (g_74) (6 * (ks.length + 1) + 2) (nI c1) := ⟨_, rfl⟩
      have he_81 : en_79 (p + 2) = aI G (capOf (ks.length + 1)) (g_80) := by rw [hen_79, eg_80]; exact va_up_self _ _ _
      have he_82 : en_79 (p) = .inr (1, [.int (nI most), .ref (ad_60 (p + 1)), .ref (ad_60 (p + 2)), .int (nI (ks.length + 1))]) := by rw [hen_79]; exact (va_up_ne _ _ (by omega)).trans he_76
      have he_83 : en_79 (p + 1) = aI G (1024) (hd) := by rw [hen_79]; exact (va_up_ne _ _ (by omega)).trans he_77
      refine lv_aload_n hx hb dX1_append_92 rfl (lv_at hl 1 rfl) ?_
      refine r_get (ci := 1) (v := .ref (ad_60 (p + 2))) (C := RX1) (T := TX1) (N := 4) hx hb hts inlX1 hown hK hs (p) (by omega) he_82 rfl 2 (by decide) (hts _ w_fl_RX1_15) rfl dX1_append_93 ?_
      refine lv_iload hx hb dX1_append_96 (lv_at hl 0 rfl) ?_
      refine lv_iconst (v := 3) hx hb dX1_append_98 (by decide) ?_
      refine lv_iadd hx hb dX1_append_99 ?_
      refine lv_iload hx hb dX1_append_100 (lv_at hl 5 rfl) ?_
      refine r_iastN (t := 6 * (ks.length + 1) + 3) hx hb hK hs (p + 2) (by omega) he_81 (by simp only [ l0, l1, l2, l3, l4, l5, l6, l10, l600, pk_mul, nI_add]; first | done | exact congrArg nI (by omega)) (by omega) (by omega) dX1_append_102 (fun H locs en_85 hen_85 hs => ?_)
      obtain ⟨g_86, eg_86⟩ : ∃ z, z = upd (g_80) (6 * (ks.length + 1) + 3) (nI d) := ⟨_, rfl⟩
      have he_87 : en_85 (p + 2) = aI G (capOf (ks.length + 1)) (g_86) := by rw [hen_85, eg_86]; exact va_up_self _ _ _
      have he_88 : en_85 (p) = .inr (1, [.int (nI most), .ref (ad_60 (p + 1)), .ref (ad_60 (p + 2)), .int (nI (ks.length + 1))]) := by rw [hen_85]; exact (va_up_ne _ _ (by omega)).trans he_82
      have he_89 : en_85 (p + 1) = aI G (1024) (hd) := by rw [hen_85]; exact (va_up_ne _ _ (by omega)).trans he_83
      refine lv_aload_n hx hb dX1_append_103 rfl (lv_at hl 1 rfl) ?_
      refine r_get (ci := 1) (v := .ref (ad_60 (p + 2))) (C := RX1) (T := TX1) (N := 4) hx hb hts inlX1 hown hK hs (p) (by omega) he_88 rfl 2 (by decide) (hts _ w_fl_RX1_15) rfl dX1_append_104 ?_
      refine lv_iload hx hb dX1_append_107 (lv_at hl 0 rfl) ?_
      refine lv_iconst (v := 4) hx hb dX1_append_109 (by decide) ?_
      refine lv_iadd hx hb dX1_append_110 ?_
      refine lv_iload hx hb dX1_append_111 (lv_at hl 6 rfl) ?_
      refine r_iastN (t := 6 * (ks.length + 1) + 4) hx hb hK hs (p + 2) (by omega) he_87 (by simp only [ l0, l1, l2, l3, l4, l5, l6, l10, l600, pk_mul, nI_add]; first | done | exact congrArg nI (by omega)) (by omega) (by omega) dX1_append_113 (fun H locs en_91 hen_91 hs => ?_)
      obtain ⟨g_92, eg_92⟩ : ∃ z, z = upd (g_86) (6 * (ks.length + 1) + 4) (nI e1) := ⟨_, rfl⟩
      have he_93 : en_91 (p + 2) = aI G (capOf (ks.length + 1)) (g_92) := by rw [hen_91, eg_92]; exact va_up_self _ _ _
      have he_94 : en_91 (p) = .inr (1, [.int (nI most), .ref (ad_60 (p + 1)), .ref (ad_60 (p + 2)), .int (nI (ks.length + 1))]) := by rw [hen_91]; exact (va_up_ne _ _ (by omega)).trans he_88
      have he_95 : en_91 (p + 1) = aI G (1024) (hd) := by rw [hen_91]; exact (va_up_ne _ _ (by omega)).trans he_89
      refine lv_iload_n hx hb dX1_append_114 rfl (lv_at hl 2 rfl) ?_
      refine lv_iload_n hx hb dX1_append_115 rfl (lv_at hl 3 rfl) ?_
      refine lv_iload_n hx hb dX1_append_116 rfl (lv_at hl 4 rfl) ?_
      refine lv_iload hx hb dX1_append_117 (lv_at hl 5 rfl) ?_
      refine lv_iload hx hb dX1_append_119 (lv_at hl 6 rfl) ?_
      refine r_callSiR (As := [.int (nI a), .int (nI b), .int (nI c1), .int (nI d), .int (nI e1)]) hx hb hml hown hts hK hA hs (c_X1_bucketOf l G (nI a) (nI b) (nI c1) (nI d) (nI e1)) (va_cwS 5 hts (tbS w_ml_RX1_25 w_sta_yX1_bucketOf w_ini_RX1 w_cd_yX1_bucketOf) rfl rfl rfl (by decide +kernel) ⟨Nat.le_of_ble_eq_true rfl, Nat.le_of_ble_eq_true rfl⟩) rfl hl.1 rfl (Nat.le_of_ble_eq_true rfl) dX1_append_121 ⟨by show _ ≤ kMC most ks; omega, by show _ ≤ kMS most ks; omega⟩ (fun H locs hs => ?_)
      refine r_topi (y := nI (bktR (a, b, c1, d, e1))) (hbk) ?_
      refine lv_istore (lv' := [(7, .int (nI (bktR (a, b, c1, d, e1)))), (6, .int (nI (6 * (ks.length + 1)))), (0, .ref (ad_60 p)), (1, .int (nI a)), (2, .int (nI b)), (3, .int (nI c1)), (4, .int (nI d)), (5, .int (nI e1))]) hx hb dX1_append_124 hl (by decide) rfl (fun ls hl => ?_)
      refine lv_aload_n hx hb dX1_append_126 rfl (lv_at hl 2 rfl) ?_
      refine r_get (ci := 1) (v := .ref (ad_60 (p + 2))) (C := RX1) (T := TX1) (N := 4) hx hb hts inlX1 hown hK hs (p) (by omega) he_94 rfl 2 (by decide) (hts _ w_fl_RX1_15) rfl dX1_append_127 ?_
      refine lv_iload hx hb dX1_append_130 (lv_at hl 1 rfl) ?_
      refine lv_iconst (v := 5) hx hb dX1_append_132 (by decide) ?_
      refine lv_iadd hx hb dX1_append_133 ?_
      refine lv_aload_n hx hb dX1_append_134 rfl (lv_at hl 2 rfl) ?_
      refine r_get (ci := 1) (v := .ref (ad_60 (p + 1))) (C := RX1) (T := TX1) (N := 4) hx hb hts inlX1 hown hK hs (p) (by omega) he_94 rfl 1 (by decide) (hts _ w_fl_RX1_11) rfl dX1_append_135 ?_
      refine lv_iload hx hb dX1_append_138 (lv_at hl 0 rfl) ?_
      refine r_ialdN (t := bktR (a, b, c1, d, e1)) hx hb hK hs (p + 1) (by omega) he_95 (rfl) (hbl) (by omega) dX1_append_140 ?_
      refine r_topi (y := nI (lastB ks (bktR (a, b, c1, d, e1)) ks.length)) (hrep.2.2 _ hbl) ?_
      refine r_iastN (t := 6 * (ks.length + 1) + 5) hx hb hK hs (p + 2) (by omega) he_93 (by simp only [ l0, l1, l2, l3, l4, l5, l6, l10, l600, pk_mul, nI_add]; first | done | exact congrArg nI (by omega)) (by omega) (by omega) dX1_append_141 (fun H locs en_97 hen_97 hs => ?_)
      obtain ⟨g_98, eg_98⟩ : ∃ z, z = upd (g_92) (6 * (ks.length + 1) + 5) (nI (lastB ks (bktR (a, b, c1, d, e1)) ks.length)) := ⟨_, rfl⟩
      have he_99 : en_97 (p + 2) = aI G (capOf (ks.length + 1)) (g_98) := by rw [hen_97, eg_98]; exact va_up_self _ _ _
      have he_100 : en_97 (p) = .inr (1, [.int (nI most), .ref (ad_60 (p + 1)), .ref (ad_60 (p + 2)), .int (nI (ks.length + 1))]) := by rw [hen_97]; exact (va_up_ne _ _ (by omega)).trans he_94
      have he_101 : en_97 (p + 1) = aI G (1024) (hd) := by rw [hen_97]; exact (va_up_ne _ _ (by omega)).trans he_95
      refine lv_aload_n hx hb dX1_append_142 rfl (lv_at hl 2 rfl) ?_
      refine r_get (ci := 1) (v := .ref (ad_60 (p + 1))) (C := RX1) (T := TX1) (N := 4) hx hb hts inlX1 hown hK hs (p) (by omega) he_100 rfl 1 (by decide) (hts _ w_fl_RX1_11) rfl dX1_append_143 ?_
      refine lv_iload hx hb dX1_append_146 (lv_at hl 0 rfl) ?_
      refine lv_aload_n hx hb dX1_append_148 rfl (lv_at hl 2 rfl) ?_
      refine r_get (ci := 1) (v := .int (nI (ks.length + 1))) (C := RX1) (T := TX1) (N := 4) hx hb hts inlX1 hown hK hs (p) (by omega) he_100 rfl 3 (by decide) (hts _ w_fl_RX1_18) rfl dX1_append_149 ?_
      refine r_iastN (t := bktR (a, b, c1, d, e1)) hx hb hK hs (p + 1) (by omega) he_101 (rfl) (hbl) (by omega) dX1_append_152 (fun H locs en_103 hen_103 hs => ?_)
      obtain ⟨g_104, eg_104⟩ : ∃ z, z = upd (hd) (bktR (a, b, c1, d, e1)) (nI (ks.length + 1)) := ⟨_, rfl⟩
      have he_105 : en_103 (p + 1) = aI G (1024) (g_104) := by rw [hen_103, eg_104]; exact va_up_self _ _ _
      have he_106 : en_103 (p) = .inr (1, [.int (nI most), .ref (ad_60 (p + 1)), .ref (ad_60 (p + 2)), .int (nI (ks.length + 1))]) := by rw [hen_103]; exact (va_up_ne _ _ (by omega)).trans he_100
      have he_107 : en_103 (p + 2) = aI G (capOf (ks.length + 1)) (g_98) := by rw [hen_103]; exact (va_up_ne _ _ (by omega)).trans he_99
      refine lv_aload_n hx hb dX1_append_153 rfl (lv_at hl 2 rfl) ?_
      refine r_get (ci := 1) (v := .int (nI (ks.length + 1))) (C := RX1) (T := TX1) (N := 4) hx hb hts inlX1 hown hK hs (p) (by omega) he_106 rfl 3 (by decide) (hts _ w_fl_RX1_18) rfl dX1_append_154 ?_
      refine r_iret (v := nI (ks.length + 1)) (mc := kMC most ks) (ms := kMS most ks) hx hb hr hlk hs (by first | omega | exact Nat.zero_le _) (by first | omega | exact Nat.zero_le _) dX1_append_157 hQ ?_
      have hgo : ∀ j, j < 6 * (ks.length + 1) → g_98 j = gg j := fun j hj => by rw [eg_98, pk_un (by omega), eg_92, pk_un (by omega), eg_86, pk_un (by omega), eg_80, pk_un (by omega), eg_74, pk_un (by omega), eg_68, pk_un (by omega)]; exact hag j (by omega)
      have hg0 : g_98 (6 * (ks.length + 1) + 0) = nI a := by rw [eg_98, pk_un (by omega), eg_92, pk_un (by omega), eg_86, pk_un (by omega), eg_80, pk_un (by omega), eg_74, pk_un (by omega), eg_68, pk_us]
      have hg1 : g_98 (6 * (ks.length + 1) + 1) = nI b := by rw [eg_98, pk_un (by omega), eg_92, pk_un (by omega), eg_86, pk_un (by omega), eg_80, pk_un (by omega), eg_74, pk_us]
      have hg2 : g_98 (6 * (ks.length + 1) + 2) = nI c1 := by rw [eg_98, pk_un (by omega), eg_92, pk_un (by omega), eg_86, pk_un (by omega), eg_80, pk_us]
      have hg3 : g_98 (6 * (ks.length + 1) + 3) = nI d := by rw [eg_98, pk_un (by omega), eg_92, pk_un (by omega), eg_86, pk_us]
      have hg4 : g_98 (6 * (ks.length + 1) + 4) = nI e1 := by rw [eg_98, pk_un (by omega), eg_92, pk_us]
      have hg5 : g_98 (6 * (ks.length + 1) + 5) = nI (lastB ks (bktR (a, b, c1, d, e1)) ks.length) := by rw [eg_98, pk_us]
      refine ⟨by rw [kAppR, if_pos hlt], ?_, ?_⟩
      · rw [kApp, if_pos hlt]; exact KeptAt_app h hab hlt (ad1 := ad_60) (hd1 := g_104) (g1 := g_98) he_106 he_105 he_107 hgo hg0 hg1 hg2 hg3 hg4 hg5 (by rw [eg_104]) hrep
      · exact ⟨fun k hk hn => hfr.1 k hk hn, fun k hk hn => by rw [hen_103, va_up_ne _ _ (by omega), hen_97, va_up_ne _ _ (by omega), hen_91, va_up_ne _ _ (by omega), hen_85, va_up_ne _ _ (by omega), hen_79, va_up_ne _ _ (by omega), hen_73, va_up_ne _ _ (by omega), hen_67, va_up_ne _ _ (by omega)]; exact hfr.2 k hk hn⟩
  · skip
    have hlt : ¬ ks.length < most := fun q => c8 ((nI_ltI (by omega) (by omega)).mpr q)
    refine lv_bipush (v := (-3)) hx hb dX1_append_11 (by decide) ?_
    refine r_iret (v := (-3)) (mc := kMC most ks) (ms := kMS most ks) hx hb hr hlk hs (Nat.zero_le _) (Nat.zero_le _) dX1_append_13 hQ ?_
    exact ⟨by rw [kAppR, if_neg hlt], by rw [kApp, if_neg hlt]; exact h, fun _ _ _ => rfl, fun _ _ _ => rfl⟩

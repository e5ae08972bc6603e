theorem fz {ss : List Row} {r : Row} (h : nI (kFind ss r) = 0) (hl : ss.length ≤ 600) : kFind ss r = 0 := by
  have h1 : kFind ss r ≤ ss.length := kFU_le _ _ _
  exact (nI_eq (by omega) (by decide)).mp h
theorem sort_le {ss : List Row} (h : ssOK ss) {k : Nat} : sSort ss k ≤ 4 := by
  unfold sSort
  by_cases c : 1 ≤ k ∧ k ≤ ss.length
  · obtain ⟨-, q | q | q⟩ := h.2.1 k c.1 c.2 <;> omega
  · have e : kAt ss k = (0, 0, 0, 0, 0) := by
      unfold kAt
      by_cases h0 : k = 0
      · rw [if_pos h0]
      · rw [if_neg h0, List.getD_eq_getElem?_getD, List.getElem?_eq_none (by omega)]; rfl
    rw [e]; decide
theorem kApp_kAt {ss : List Row} {r : Row} {k : Nat} (h : k ≤ ss.length) : kAt (kApp 600 ss r) k = kAt ss k := by
  unfold kApp
  by_cases c : ss.length < 600
  · rw [if_pos c, kAt_app h]
  · rw [if_neg c]
theorem kApp_len {ss : List Row} {r : Row} (h : ss.length ≤ 600) : (kApp 600 ss r).length ≤ 600 := by
  unfold kApp
  by_cases c : ss.length < 600
  · rw [if_pos c]; simp; omega
  · rw [if_neg c]; exact h
theorem make_get {ss : List Row} {r : Row} (h : ssOK ss) {l1 : Nat} (hl : 1 ≤ l1 ∧ l1 ≤ ss.length) : (5 : Int32) + kGet (kApp 600 ss r) (nI l1) 0 = nI (5 + sSort ss l1) := by
  have h1 := h.1
  have h2 := kApp_len (r := r) h1
  rw [show (0 : Int32) = nI 0 from rfl, kGet_nI (by omega) (by omega) (by decide), kApp_kAt hl.2, show (5 : Int32) = nI 5 from rfl, nI_add]
  rfl
theorem make_ok {ss : List Row} {r : Row} (h : ssOK ss) (hf : kFind ss r = 0) (hr : stOK (ss.length + 1) r) : ssOK (sMake ss r) := by
  rw [sMake, if_pos hf]
  unfold kApp
  by_cases c : ss.length < 600
  · rw [if_pos c]; exact ssOK_app h c hr hf
  · rw [if_neg c]; exact h
theorem sAddI_bad (S : Nat → Nat → Bool) (row : Nat) : sAddI S row (-3) = S := if_neg (by decide)
theorem make_kindn {ss : List Row} {s1 l1 r1 : Nat} (h : ssOK ss) (hr : stOK (ss.length + 1) (s1, l1, r1, 0, 0)) (c : ¬ nI s1 = 4) : ∀ r, r < 10 → ∀ x, sAddI (kindS ss) s1 (kAppR 600 ss) r x = kindS (kApp 600 ss (s1, l1, r1, 0, 0)) r x := by
  intro r _ x
  have h4 : ¬ s1 = 4 := fun q => c (by rw [q]; rfl)
  unfold kAppR kApp
  by_cases q : ss.length < 600
  · rw [if_pos q, if_pos q, sAddI_nI _ _ (by omega) (by omega), kind_app h hr, if_neg h4]
  · rw [if_neg q, if_neg q, sAddI_bad]
theorem make_kind4 {ss : List Row} {s1 l1 r1 : Nat} (h : ssOK ss) (hr : stOK (ss.length + 1) (s1, l1, r1, 0, 0)) (c : nI s1 = 4) : ∀ r, r < 10 → ∀ x, sAddI (sAddI (kindS ss) s1 (kAppR 600 ss)) (5 + sSort ss l1) (kAppR 600 ss) r x = kindS (kApp 600 ss (s1, l1, r1, 0, 0)) r x := by
  intro r _ x
  have h4 : s1 = 4 := by
    refine (nI_eq ?_ (by decide)).mp c
    obtain ⟨-, q | q | q⟩ := hr <;> simp only at q <;> omega
  unfold kAppR kApp
  by_cases q : ss.length < 600
  · rw [if_pos q, if_pos q, sAddI_nI _ _ (by omega) (by omega), sAddI_nI _ _ (by omega) (by omega), kind_app h hr, if_pos h4]
  · rw [if_neg q, if_neg q, sAddI_bad, sAddI_bad]
set_option maxHeartbeats 4000000 in
set_option maxRecDepth 100000 in
theorem c_X6_make (l : Launch) (G : rG) {n : Nat} {ad : Nat → Nat} {en : Nat → va_E} {ss : List Row} (h : StAt G n ad en ss) {s1 l1 r1 : Nat} (hrow : stOK (ss.length + 1) (s1, l1, r1, 0, 0)) : CI l G yX6_make uX6_make (3) (109) (sMC ss (s1, l1, r1, 0, 0)) (sMS ss (s1, l1, r1, 0, 0)) [.ref (ad 3), .int (nI s1), .int (nI l1), .int (nI r1)] (n) (n) ad en (fun r ad1 en1 => r = sMakeR ss (s1, l1, r1, 0, 0) ∧ StAt G n ad1 en1 (sMake ss (s1, l1, r1, 0, 0)) ∧ Fr n (fun k => 3 ≤ k ∧ k ≤ 10) (fun k => k = 6) ad en ad1 en1) := by
  intro sz
  refine rMet (Qc := qI G (n) (fun r ad1 en1 => r = sMakeR ss (s1, l1, r1, 0, 0) ∧ StAt G n ad1 en1 (sMake ss (s1, l1, r1, 0, 0)) ∧ Fr n (fun k => 3 ≤ k ∧ k ≤ 10) (fun k => k = 6) ad en ad1 en1)) (cc := cX6_make) (maxL := 6) (ret := (some .int)) (by decide) rfl (Nat.le_of_ble_eq_true rfl) ?_
  intro pP eE sS mM aA bB tT cC ls A Q hc hK hsz hA hs hl hQ
  obtain ⟨hx, hb, hr, hts, hown, hlk, hnm, hml⟩ := hc
  have hl : lv_has ls 6 [(0, .ref (ad 3)), (1, .int (nI s1)), (2, .int (nI l1)), (3, .int (nI r1))] := hl
  have hst := h
  obtain ⟨hn, he3, hk, hkd, ⟨TT, htr⟩, hok⟩ := hst
  obtain ⟨fs4, he4⟩ := KeptAt_recv hk
  obtain ⟨fs7, he7⟩ := SetsAt_recv hkd
  obtain ⟨fs9, he9⟩ := SetsAt_recv htr
  have hle6 := hok.1
  have hlen : ss.length < 2 ^ 31 := by omega
  have hs1 : s1 < 2 ^ 31 ∧ l1 < 2 ^ 31 ∧ r1 < 2 ^ 31 := by obtain ⟨-, q | q | q⟩ := hrow <;> simp only at q <;> omega
  have hs4 : s1 ≤ 4 ∧ (s1 = 4 → 1 ≤ l1 ∧ l1 ≤ ss.length) := by obtain ⟨-, q | q | q⟩ := hrow <;> simp only at q <;> omega
  refine lv_aload_n hx hb dX6_make_0 rfl (lv_at hl 0 rfl) ?_
  refine r_get (ci := 6) (v := .ref (ad 4)) (C := RX6) (T := TX6) (N := 3) hx hb hts inlX6 hown hK hs (3) (by omega) he3 rfl 0 (by decide) (hts _ w_fl_RX6_16) rfl dX6_make_1 ?_
  refine lv_iload_n hx hb dX6_make_4 rfl (lv_at hl 1 rfl) ?_
  refine lv_iload_n hx hb dX6_make_5 rfl (lv_at hl 2 rfl) ?_
  refine lv_iload_n hx hb dX6_make_6 rfl (lv_at hl 3 rfl) ?_
  refine lv_iconst (v := 0) hx hb dX6_make_7 (by decide) ?_
  refine lv_iconst (v := 0) hx hb dX6_make_8 (by decide) ?_
  refine r_callViR (ci := 1) (As := [.int (nI s1), .int (nI l1), .int (nI r1), .int (0), .int (0)]) hx hb hml hown hts hK hA hs (4) (by omega) he4 rfl rfl (c_X1_find l G hk (a := s1) (b := l1) (c1 := r1) (d := 0) (e1 := 0) (⟨hs1.1, hs1.2.1, hs1.2.2, by decide, by decide⟩)) (cwV 5 hts (tbV w_ml_RX6_38 w_im_yX1_find w_se_yX1_find w_ini_RX1 w_cd_yX1_find) rfl rfl rfl (by decide +kernel) ⟨Nat.le_of_ble_eq_true rfl, Nat.le_of_ble_eq_true rfl⟩) rfl hl.1 rfl (Nat.le_of_ble_eq_true rfl) dX6_make_9 ⟨Nat.zero_le _, Nat.zero_le _⟩ (fun H locs hs => ?_)
  refine lv_istore (lv' := [(4, .int (nI (kFind ss (s1, l1, r1, 0, 0)))), (0, .ref (ad 3)), (1, .int (nI s1)), (2, .int (nI l1)), (3, .int (nI r1))]) hx hb dX6_make_12 hl (by decide) rfl (fun ls hl => ?_)
  refine lv_iload hx hb dX6_make_14 (lv_at hl 0 rfl) ?_
  refine lv_if_eq (tgt := 22) hx hb dX6_make_16 (by decide) (fun c16 => ?_) (fun c16 => ?_)
  · skip
    have hf0 : kFind ss (s1, l1, r1, 0, 0) = 0 := fz c16 hle6
    have hM1 : sMC ss (s1, l1, r1, 0, 0) = kMC 600 ss := if_pos hf0
    have hM2 : sMS ss (s1, l1, r1, 0, 0) = kMS 600 ss := if_pos hf0
    refine lv_aload_n hx hb dX6_make_22 rfl (lv_at hl 1 rfl) ?_
    refine r_get (ci := 6) (v := .ref (ad 4)) (C := RX6) (T := TX6) (N := 3) hx hb hts inlX6 hown hK hs (3) (by omega) he3 rfl 0 (by decide) (hts _ w_fl_RX6_16) rfl dX6_make_23 ?_
    refine lv_iload_n hx hb dX6_make_26 rfl (lv_at hl 2 rfl) ?_
    refine lv_iload_n hx hb dX6_make_27 rfl (lv_at hl 3 rfl) ?_
    refine lv_iload_n hx hb dX6_make_28 rfl (lv_at hl 4 rfl) ?_
    refine lv_iconst (v := 0) hx hb dX6_make_29 (by decide) ?_
    refine lv_iconst (v := 0) hx hb dX6_make_30 (by decide) ?_
    refine r_callVi (ci := 1) (As := [.int (nI s1), .int (nI l1), .int (nI r1), .int (0), .int (0)]) hx hb hml hown hts hK hA hs (4) (by omega) he4 rfl rfl (c_X1_append l G hk (a := s1) (b := l1) (c1 := r1) (d := 0) (e1 := 0) (⟨hs1.1, hs1.2.1, hs1.2.2, by decide, by decide⟩)) (cwV 5 hts (tbV w_ml_RX6_42 w_im_yX1_append w_se_yX1_append w_ini_RX1 w_cd_yX1_append) rfl rfl rfl (by decide +kernel) ⟨Nat.le_of_ble_eq_true rfl, Nat.le_of_ble_eq_true rfl⟩) rfl hl.1 rfl (Nat.le_of_ble_eq_true rfl) dX6_make_31 ⟨by show _ ≤ sMC ss (s1, l1, r1, 0, 0); omega, by show _ ≤ sMS ss (s1, l1, r1, 0, 0); omega⟩ (fun r_4 ad_1 en_2 H locs hp_3 hs => ?_)
    obtain ⟨hap, hk1, hfr1⟩ := hp_3
    have ka : ∀ k, k < n → k ≠ 6 → ad_1 k = ad k := fun k a b => hfr1.1 k a b
    have ke : ∀ k, k < n → ¬ (4 ≤ k ∧ k ≤ 6) → en_2 k = en k := fun k a b => hfr1.2 k a b
    have he3a : en_2 3 = .inr (6, [.ref (ad_1 4), .ref (ad_1 7), .ref (ad_1 9)]) := by rw [ka 4 (by omega) (by decide), ka 7 (by omega) (by decide), ka 9 (by omega) (by decide)]; exact (ke 3 (by omega) (by omega)).trans he3
    have hkd1 : SetsAt G n 7 ad_1 en_2 10 (kindS ss) := SetsAt_keep hkd (fun k a b => ka k (by omega) (by omega)) (fun k a b => ke k (by omega) (by omega))
    have htr1 : SetsAt G n 9 ad_1 en_2 1 TT := SetsAt_keep htr (fun k a b => ka k (by omega) (by omega)) (fun k a b => ke k (by omega) (by omega))
    obtain ⟨fs4a, he4a⟩ := KeptAt_recv hk1
    obtain ⟨fs7a, he7a⟩ := SetsAt_recv hkd1
    have hl : lv_has ls 6 [(4, .int (nI (kFind ss (s1, l1, r1, 0, 0)))), (0, .ref (ad_1 3)), (1, .int (nI s1)), (2, .int (nI l1)), (3, .int (nI r1))] := by rw [ka 3 (by omega) (by decide)]; exact hl
    refine lv_istore (lv' := [(5, .int (r_4)), (4, .int (nI (kFind ss (s1, l1, r1, 0, 0)))), (0, .ref (ad_1 3)), (1, .int (nI s1)), (2, .int (nI l1)), (3, .int (nI r1))]) hx hb dX6_make_34 hl (by decide) rfl (fun ls hl => ?_)
    refine lv_aload_n hx hb dX6_make_36 rfl (lv_at hl 2 rfl) ?_
    refine r_get (ci := 6) (v := .ref (ad_1 7)) (C := RX6) (T := TX6) (N := 3) hx hb hts inlX6 hown hK hs (3) (by omega) he3a rfl 1 (by decide) (hts _ w_fl_RX6_23) rfl dX6_make_37 ?_
    refine lv_iload_n hx hb dX6_make_40 rfl (lv_at hl 3 rfl) ?_
    refine lv_iload hx hb dX6_make_41 (lv_at hl 0 rfl) ?_
    refine r_callVv (ci := 5) (As := [.int (nI s1), .int (r_4)]) hx hb hml hown hts hK hA hs (7) (by omega) he7a rfl rfl (c_X5_add l G hkd1 (row := s1) (by omega) (r_4)) (cwV 2 hts (tbV w_ml_RX6_45 w_im_yX5_add w_se_yX5_add w_ini_RX5 w_cd_yX5_add) rfl rfl rfl (by decide +kernel) ⟨Nat.le_of_ble_eq_true rfl, Nat.le_of_ble_eq_true rfl⟩) rfl hl.1 rfl (Nat.le_of_ble_eq_true rfl) dX6_make_43 ⟨by show _ ≤ sMC ss (s1, l1, r1, 0, 0); omega, by show _ ≤ sMS ss (s1, l1, r1, 0, 0); omega⟩ (fun ad_5 en_6 H locs hp_7 hs => ?_)
    obtain ⟨hkd2, hfr2⟩ := hp_7
    have ka2 : ∀ k, k < n → ad_5 k = ad_1 k := fun k a => hfr2.1 k a (fun q => q)
    have ke2 : ∀ k, k < n → ¬ (7 ≤ k ∧ k ≤ 8) → en_6 k = en_2 k := fun k a b => hfr2.2 k a b
    have he3aa : en_6 3 = .inr (6, [.ref (ad_5 4), .ref (ad_5 7), .ref (ad_5 9)]) := by rw [ka2 4 (by omega), ka2 7 (by omega), ka2 9 (by omega)]; exact (ke2 3 (by omega) (by omega)).trans he3a
    have hk2 : KeptAt G n 4 ad_5 en_6 600 (kApp 600 ss (s1, l1, r1, 0, 0)) := KeptAt_keep hk1 (fun k a b => ka2 k (by omega)) (fun k a b => ke2 k (by omega) (by omega))
    have htr2 : SetsAt G n 9 ad_5 en_6 1 TT := SetsAt_keep htr1 (fun k a b => ka2 k (by omega)) (fun k a b => ke2 k (by omega) (by omega))
    obtain ⟨fs4aa, he4aa⟩ := KeptAt_recv hk2
    obtain ⟨fs7aa, he7aa⟩ := SetsAt_recv hkd2
    have hl : lv_has ls 6 [(5, .int (r_4)), (4, .int (nI (kFind ss (s1, l1, r1, 0, 0)))), (0, .ref (ad_5 3)), (1, .int (nI s1)), (2, .int (nI l1)), (3, .int (nI r1))] := by rw [ka2 3 (by omega)]; exact hl
    refine lv_iload_n hx hb dX6_make_46 rfl (lv_at hl 3 rfl) ?_
    refine lv_iconst (v := 4) hx hb dX6_make_47 (by decide) ?_
    refine lv_icmp_ne (tgt := 71) hx hb dX6_make_48 (by decide) (fun c48 => ?_) (fun c48 => ?_)
    · skip
      skip
      refine lv_iload hx hb dX6_make_71 (lv_at hl 0 rfl) ?_
      refine r_iret (v := r_4) (mc := sMC ss (s1, l1, r1, 0, 0)) (ms := sMS ss (s1, l1, r1, 0, 0)) hx hb hr hlk hs (by omega) (by omega) dX6_make_73 hQ ?_
      refine ⟨by rw [sMakeR, if_pos hf0]; exact hap, ⟨hn, he3aa, by rw [sMake, if_pos hf0]; exact hk2, ?_, ⟨TT, htr2⟩, make_ok hok hf0 hrow⟩, ?_, ?_⟩
      · rw [sMake, if_pos hf0]; rw [hap] at hkd2; exact SetsAt_congr hkd2 (make_kindn hok hrow c48)
      · intro k a b; rw [ka2 k a]; exact ka k a b
      · intro k a b; rw [ke2 k a (by omega)]; exact ke k a (by omega)
    · skip
      have hl1 : 1 ≤ l1 ∧ l1 ≤ ss.length := by have q : s1 = 4 := (nI_eq (by omega) (by decide)).mp c48; omega
      refine lv_aload_n hx hb dX6_make_51 rfl (lv_at hl 2 rfl) ?_
      refine r_get (ci := 6) (v := .ref (ad_5 7)) (C := RX6) (T := TX6) (N := 3) hx hb hts inlX6 hown hK hs (3) (by omega) he3aa rfl 1 (by decide) (hts _ w_fl_RX6_23) rfl dX6_make_52 ?_
      refine lv_iconst (v := 5) hx hb dX6_make_55 (by decide) ?_
      refine lv_aload_n hx hb dX6_make_56 rfl (lv_at hl 2 rfl) ?_
      refine r_get (ci := 6) (v := .ref (ad_5 4)) (C := RX6) (T := TX6) (N := 3) hx hb hts inlX6 hown hK hs (3) (by omega) he3aa rfl 0 (by decide) (hts _ w_fl_RX6_16) rfl dX6_make_57 ?_
      refine lv_iload_n hx hb dX6_make_60 rfl (lv_at hl 4 rfl) ?_
      refine lv_iconst (v := 0) hx hb dX6_make_61 (by decide) ?_
      refine r_callViR (ci := 1) (As := [.int (nI l1), .int (0)]) hx hb hml hown hts hK hA hs (4) (by omega) he4aa rfl rfl (c_X1_get l G hk2 (nI l1) (0)) (cwV 2 hts (tbV w_ml_RX6_34 w_im_yX1_get w_se_yX1_get w_ini_RX1 w_cd_yX1_get) rfl rfl rfl (by decide +kernel) ⟨Nat.le_of_ble_eq_true rfl, Nat.le_of_ble_eq_true rfl⟩) rfl hl.1 rfl (Nat.le_of_ble_eq_true rfl) dX6_make_62 ⟨by show _ ≤ sMC ss (s1, l1, r1, 0, 0); omega, by show _ ≤ sMS ss (s1, l1, r1, 0, 0); omega⟩ (fun H locs hs => ?_)
      refine lv_iadd hx hb dX6_make_65 ?_
      refine r_topi (y := nI (5 + sSort ss l1)) (make_get hok hl1) ?_
      refine lv_iload hx hb dX6_make_66 (lv_at hl 0 rfl) ?_
      refine r_callVv (ci := 5) (As := [.int (nI (5 + sSort ss l1)), .int (r_4)]) hx hb hml hown hts hK hA hs (7) (by omega) he7aa rfl rfl (c_X5_add l G hkd2 (row := 5 + sSort ss l1) (by have := sort_le hok (k := l1); omega) (r_4)) (cwV 2 hts (tbV w_ml_RX6_45 w_im_yX5_add w_se_yX5_add w_ini_RX5 w_cd_yX5_add) rfl rfl rfl (by decide +kernel) ⟨Nat.le_of_ble_eq_true rfl, Nat.le_of_ble_eq_true rfl⟩) rfl hl.1 rfl (Nat.le_of_ble_eq_true rfl) dX6_make_68 ⟨by show _ ≤ sMC ss (s1, l1, r1, 0, 0); omega, by show _ ≤ sMS ss (s1, l1, r1, 0, 0); omega⟩ (fun ad_8 en_9 H locs hp_10 hs => ?_)
      obtain ⟨hkd3, hfr3⟩ := hp_10
      have ka3 : ∀ k, k < n → ad_8 k = ad_5 k := fun k a => hfr3.1 k a (fun q => q)
      have ke3 : ∀ k, k < n → ¬ (7 ≤ k ∧ k ≤ 8) → en_9 k = en_6 k := fun k a b => hfr3.2 k a b
      have he3aaa : en_9 3 = .inr (6, [.ref (ad_8 4), .ref (ad_8 7), .ref (ad_8 9)]) := by rw [ka3 4 (by omega), ka3 7 (by omega), ka3 9 (by omega)]; exact (ke3 3 (by omega) (by omega)).trans he3aa
      have hk3 : KeptAt G n 4 ad_8 en_9 600 (kApp 600 ss (s1, l1, r1, 0, 0)) := KeptAt_keep hk2 (fun k a b => ka3 k (by omega)) (fun k a b => ke3 k (by omega) (by omega))
      have htr3 : SetsAt G n 9 ad_8 en_9 1 TT := SetsAt_keep htr2 (fun k a b => ka3 k (by omega)) (fun k a b => ke3 k (by omega) (by omega))
      obtain ⟨fs4aaa, he4aaa⟩ := KeptAt_recv hk3
      obtain ⟨fs7aaa, he7aaa⟩ := SetsAt_recv hkd3
      have hl : lv_has ls 6 [(5, .int (r_4)), (4, .int (nI (kFind ss (s1, l1, r1, 0, 0)))), (0, .ref (ad_8 3)), (1, .int (nI s1)), (2, .int (nI l1)), (3, .int (nI r1))] := by rw [ka3 3 (by omega)]; exact hl
      refine lv_iload hx hb dX6_make_71 (lv_at hl 0 rfl) ?_
      refine r_iret (v := r_4) (mc := sMC ss (s1, l1, r1, 0, 0)) (ms := sMS ss (s1, l1, r1, 0, 0)) hx hb hr hlk hs (by omega) (by omega) dX6_make_73 hQ ?_
      refine ⟨by rw [sMakeR, if_pos hf0]; exact hap, ⟨hn, he3aaa, by rw [sMake, if_pos hf0]; exact hk3, ?_, ⟨TT, htr3⟩, make_ok hok hf0 hrow⟩, ?_, ?_⟩
      · rw [sMake, if_pos hf0]; rw [hap] at hkd3; exact SetsAt_congr hkd3 (make_kind4 hok hrow c48)
      · intro k a b; rw [ka3 k a, ka2 k a]; exact ka k a b
      · intro k a b; rw [ke3 k a (by omega), ke2 k a (by omega)]; exact ke k a (by omega)
  · skip
    have hf0 : ¬ kFind ss (s1, l1, r1, 0, 0) = 0 := fun q => c16 (by rw [q]; rfl)
    refine lv_iload hx hb dX6_make_19 (lv_at hl 0 rfl) ?_
    refine r_iret (v := nI (kFind ss (s1, l1, r1, 0, 0))) (mc := sMC ss (s1, l1, r1, 0, 0)) (ms := sMS ss (s1, l1, r1, 0, 0)) hx hb hr hlk hs (Nat.zero_le _) (Nat.zero_le _) dX6_make_21 hQ ?_
    exact ⟨by rw [sMakeR, if_neg hf0], by rw [sMake, if_neg hf0]; exact h, fun _ _ _ => rfl, fun _ _ _ => rfl⟩

theorem tvT_s (ss : List Row) (at1 : Int32) (k x : Nat) : tvT ss at1 (k + 1) x = if x = k + 1 then tvE ss at1 (tvT ss at1 k) (k + 1) else tvT ss at1 k x := rfl
theorem sClr_0 {T : Nat → Nat → Bool} {r x : Nat} (hr : r < 1) : sClr T 0 r x = false := if_pos (by omega)
theorem StAtT_congr {G : rG} {n : Nat} {ad : Nat → Nat} {en : Nat → va_E} {ss : List Row} {T T2 : Nat → Nat → Bool} (h : StAtT G n ad en ss T) (he : ∀ r, r < 1 → ∀ x, T r x = T2 r x) : StAtT G n ad en ss T2 :=
  ⟨h.1, h.2.1, h.2.2.1, h.2.2.2.1, SetsAt_congr h.2.2.2.2.1 he, h.2.2.2.2.2⟩
theorem tvT_add {ss : List Row} {at1 : Int32} {j r x : Nat} (hr : r < 1) (h1 : 1 ≤ j) (h2 : j ≤ 600) (h : tvE ss at1 (tvT ss at1 (j - 1)) j = true) : sAddI (fun _ x => tvT ss at1 (j - 1) x) 0 (nI j) r x = tvT ss at1 (j + 1 - 1) x := by
  obtain ⟨k, rfl⟩ : ∃ k, j = k + 1 := ⟨j - 1, by omega⟩
  rw [sAddI_nI _ _ h1 h2, show k + 1 + 1 - 1 = k + 1 from rfl, tvT_s, sAdd]
  by_cases e : x = k + 1
  · rw [if_pos ⟨by omega, e⟩, if_pos e]; exact h.symm
  · rw [if_neg (fun q => e q.2), if_neg e]; rfl
theorem tvT_skip {ss : List Row} {at1 : Int32} {j r x : Nat} (hr : r < 1) (h1 : 1 ≤ j) (h : tvE ss at1 (tvT ss at1 (j - 1)) j = false) : (fun _ x => tvT ss at1 (j - 1) x) r x = tvT ss at1 (j + 1 - 1) x := by
  obtain ⟨k, rfl⟩ : ∃ k, j = k + 1 := ⟨j - 1, by omega⟩
  have z : ∀ m y, m < y → tvT ss at1 m y = false := by
    intro m
    induction m with
    | zero => intro y _; rfl
    | succ m ih => intro y hy; rw [tvT_s, if_neg (by omega)]; exact ih y (by omega)
  show tvT ss at1 k x = tvT ss at1 (k + 1) x
  rw [tvT_s]
  by_cases e : x = k + 1
  · rw [if_pos e, e]; exact (z k (k + 1) (by omega)).trans h.symm
  · rw [if_neg e]
set_option maxHeartbeats 4000000 in
set_option maxRecDepth 100000 in
theorem c_X6_holdsWhen (l : Launch) (G : rG) {n : Nat} {ad : Nat → Nat} {en : Nat → va_E} {ss : List Row} {T : Nat → Nat → Bool} (ht : StAtT G n ad en ss T) {f1 : Nat} (hf1 : 1 ≤ f1 ∧ f1 ≤ ss.length) (at1 : Int32) : CI l G yX6_holdsWhen uX6_holdsWhen (3) (68) (0) (0) [.ref (ad 3), .int (nI f1), .int (at1)] (n) (n) ad en (fun r ad1 en1 => r = b2i (tvT ss at1 f1 f1) ∧ StAt G n ad1 en1 ss ∧ Fr n (fun k => 9 ≤ k ∧ k ≤ 10) (fun _ => False) ad en ad1 en1) := by
  intro sz
  refine rMet (Qc := qI G (n) (fun r ad1 en1 => r = b2i (tvT ss at1 f1 f1) ∧ StAt G n ad1 en1 ss ∧ Fr n (fun k => 9 ≤ k ∧ k ≤ 10) (fun _ => False) ad en ad1 en1)) (cc := cX6_holdsWhen) (maxL := 4) (ret := (some .boolean)) (by decide) rfl (Nat.le_of_ble_eq_true rfl) ?_
  intro pP eE sS mM aA bB tT cC ls A Q hc hK hsz hA hs hl hQ
  obtain ⟨hx, hb, hr, hts, hown, hlk, hnm, hml⟩ := hc
  have hl : lv_has ls 4 [(0, .ref (ad 3)), (1, .int (nI f1)), (2, .int (at1))] := hl
  have h := ht.st
  have ht0 := ht
  obtain ⟨hn, he3, hk, hkd, htr, hok⟩ := ht0
  obtain ⟨fs4, he4⟩ := KeptAt_recv hk
  obtain ⟨fs9, he9⟩ := SetsAt_recv htr
  have hle6 := hok.1
  have hlen : ss.length < 2 ^ 31 := by omega
  have ka0 : ∀ k, k < n → ad k = ad k := fun _ _ => rfl
  have ke0 : ∀ k, k < n → ¬ (9 ≤ k ∧ k ≤ 10) → en k = en k := fun _ _ _ => rfl
  refine lv_aload_n hx hb dX6_holdsWhen_0 rfl (lv_at hl 0 rfl) ?_
  refine r_get (ci := 6) (v := .ref (ad 9)) (C := RX6) (T := TX6) (N := 3) hx hb hts inlX6 hown hK hs (3) (by omega) he3 rfl 2 (by decide) (hts _ w_fl_RX6_27) rfl dX6_holdsWhen_1 ?_
  refine lv_iconst (v := 0) hx hb dX6_holdsWhen_4 (by decide) ?_
  refine r_callVv (ci := 5) (As := [.int (0)]) hx hb hml hown hts hK hA hs (9) (by omega) he9 rfl rfl (c_X5_clear l G ht.2.2.2.2.1 (row := 0) (by decide)) (cwV 1 hts (tbV w_ml_RX6_49 w_im_yX5_clear w_se_yX5_clear w_ini_RX5 w_cd_yX5_clear) rfl rfl rfl (by decide +kernel) ⟨Nat.le_of_ble_eq_true rfl, Nat.le_of_ble_eq_true rfl⟩) rfl hl.1 rfl (Nat.le_of_ble_eq_true rfl) dX6_holdsWhen_5 ⟨Nat.le_refl _, Nat.le_refl _⟩ (fun ad_1 en_2 H locs hp_3 hs => ?_)
  obtain ⟨hcq_4, hfq_4⟩ := hp_3
  have htq_4 := StAtT_upd ht hcq_4 hfq_4
  have kaq_4 : ∀ k, k < n → ad_1 k = ad k := fun k a => (hfq_4.1 k a (fun q => q)).trans (ka0 k a)
  have keq_4 : ∀ k, k < n → ¬ (9 ≤ k ∧ k ≤ 10) → en_2 k = en k := fun k a b => (hfq_4.2 k a b).trans (ke0 k a b)
  have he3q_4 := htq_4.2.1
  obtain ⟨fs4q_4, he4q_4⟩ := KeptAt_recv htq_4.2.2.1
  obtain ⟨fs9q_4, he9q_4⟩ := SetsAt_recv htq_4.2.2.2.2.1
  have hl : lv_has ls 4 [(0, .ref (ad_1 3)), (1, .int (nI f1)), (2, .int (at1))] := by rw [hfq_4.1 3 (by omega) (fun q => q)]; exact hl
  refine lv_iconst (v := 1) hx hb dX6_holdsWhen_8 (by decide) ?_
  refine lv_istore_n (lv' := [(3, .int (1)), (0, .ref (ad_1 3)), (1, .int (nI f1)), (2, .int (at1))]) hx hb dX6_holdsWhen_9 rfl hl (by decide) rfl (fun ls hl => ?_)
  suffices LOOP10 : ∀ (fu10 : Nat) (j : Nat) (ad2 : Nat → Nat) (en2 : Nat → va_E) (H : Heap) (locs : List Loc) (ls : Array Slot), (1 ≤ j ∧ j ≤ f1 + 1) → (StAtT G n ad2 en2 ss (fun _ x => tvT ss at1 (j - 1) x)) → (∀ k, k < n → ad2 k = ad k) → (∀ k, k < n → ¬ (9 ≤ k ∧ k ≤ 10) → en2 k = en k) → f1 + 1 - j < fu10 → rS G A sS.heap (n) ad2 en2 H locs → lv_has ls 4 [(0, .ref (ad2 3)), (1, .int (nI f1)), (2, .int (at1)), (3, .int (nI j))] → W pP l eE (rRm (3) (68) (0) (0)) sS mM aA bB tT cC H locs (0) (0) Q (F0 mM 10 ls []) from LOOP10 _ (1) (ad_1) (en_2) _ _ _ (by omega) (StAtT_congr htq_4 (fun r hr x => sClr_0 hr)) (kaq_4) (keq_4) (Nat.lt_succ_self _) hs (lv_sub hl [1, 2, 3, 0] rfl)
  intro fu10
  induction fu10 with
  | zero => intro j ad2 en2 H locs ls ij ht2 ka2 ke2 hfu; exact absurd hfu (Nat.not_lt_zero _)
  | succ fu10 ih10 => ?_
  intro j ad2 en2 H locs ls ij ht2 ka2 ke2 hfu10 hs hl
  have he3b := ht2.2.1
  obtain ⟨fs4b, he4b⟩ := KeptAt_recv ht2.2.2.1
  obtain ⟨fs9b, he9b⟩ := SetsAt_recv ht2.2.2.2.2.1
  refine lv_iload_n hx hb dX6_holdsWhen_10 rfl (lv_at hl 3 rfl) ?_
  refine lv_iload_n hx hb dX6_holdsWhen_11 rfl (lv_at hl 1 rfl) ?_
  refine lv_icmp_gt (tgt := 50) hx hb dX6_holdsWhen_12 (by decide) (fun c12 => ?_) (fun c12 => ?_)
  · skip
    have hjf : j = f1 + 1 := by have := (nI_ltI (by omega) (by omega)).mp c12; omega
    refine lv_aload_n hx hb dX6_holdsWhen_50 rfl (lv_at hl 0 rfl) ?_
    refine r_get (ci := 6) (v := .ref (ad2 9)) (C := RX6) (T := TX6) (N := 3) hx hb hts inlX6 hown hK hs (3) (by omega) he3b rfl 2 (by decide) (hts _ w_fl_RX6_27) rfl dX6_holdsWhen_51 ?_
    refine lv_iconst (v := 0) hx hb dX6_holdsWhen_54 (by decide) ?_
    refine lv_iload_n hx hb dX6_holdsWhen_55 rfl (lv_at hl 1 rfl) ?_
    refine r_callViR (ci := 5) (As := [.int (0), .int (nI f1)]) hx hb hml hown hts hK hA hs (9) (by omega) he9b rfl rfl (c_X5_has l G ht2.2.2.2.2.1 (row := 0) (by decide) (nI f1)) (cwV 2 hts (tbV w_ml_RX6_56 w_im_yX5_has w_se_yX5_has w_ini_RX5 w_cd_yX5_has) rfl rfl rfl (by decide +kernel) ⟨Nat.le_of_ble_eq_true rfl, Nat.le_of_ble_eq_true rfl⟩) rfl hl.1 rfl (Nat.le_of_ble_eq_true rfl) dX6_holdsWhen_56 ⟨Nat.zero_le _, Nat.zero_le _⟩ (fun H locs hs => ?_)
    refine r_zret (v := b2i (inS (nI f1) && (fun _ x => tvT ss at1 (j - 1) x) (0) (nI f1 : Int32).toInt.toNat)) (mc := 0) (ms := 0) hx hb hr hlk hs (Nat.le_refl _) (Nat.le_refl _) dX6_holdsWhen_59 ?_ hQ ?_
    · first | exact Or.inl rfl | exact Or.inr rfl | exact b2i_z _
    exact ⟨by rw [hasT (T := fun _ x => tvT ss at1 (j - 1) x) (by omega), show j - 1 = f1 by omega], ht2.st, fun k a b => ka2 k a, fun k a b => ke2 k a b⟩
  · skip
    have hjf : j ≤ f1 := Nat.le_of_not_lt (fun q => c12 ((nI_ltI (by omega) (by omega)).mpr q))
    refine lv_iload_n hx hb dX6_holdsWhen_15 rfl (lv_at hl 3 rfl) ?_
    refine lv_aload_n hx hb dX6_holdsWhen_16 rfl (lv_at hl 0 rfl) ?_
    refine r_get (ci := 6) (v := .ref (ad2 4)) (C := RX6) (T := TX6) (N := 3) hx hb hts inlX6 hown hK hs (3) (by omega) he3b rfl 0 (by decide) (hts _ w_fl_RX6_16) rfl dX6_holdsWhen_17 ?_
    refine r_callViR (ci := 1) (As := []) hx hb hml hown hts hK hA hs (4) (by omega) he4b rfl rfl (c_X1_size l G ht2.2.2.1) (cwV 0 hts (tbV w_ml_RX6_30 w_im_yX1_size w_se_yX1_size w_ini_RX1 w_cd_yX1_size) rfl rfl rfl (by decide +kernel) ⟨Nat.le_of_ble_eq_true rfl, Nat.le_of_ble_eq_true rfl⟩) rfl hl.1 rfl (Nat.le_of_ble_eq_true rfl) dX6_holdsWhen_20 ⟨Nat.zero_le _, Nat.zero_le _⟩ (fun H locs hs => ?_)
    refine lv_icmp_gt (tgt := 50) hx hb dX6_holdsWhen_23 (by decide) (fun c23 => absurd c23 (nI_nlt (by omega) (by omega))) (fun _ => ?_)
    refine lv_aload_n hx hb dX6_holdsWhen_26 rfl (lv_at hl 0 rfl) ?_
    refine lv_iload_n hx hb dX6_holdsWhen_27 rfl (lv_at hl 3 rfl) ?_
    refine lv_iload_n hx hb dX6_holdsWhen_28 rfl (lv_at hl 2 rfl) ?_
    refine r_callViR (ci := 6) (As := [.int (nI j), .int (at1)]) hx hb hml hown hts hK hA hs (3) (by omega) he3b rfl rfl (c_X6_followsFromParts l G ht2 (k := j) (by omega) at1) (cwV 2 hts (tbV w_ml_RX6_52 w_im_yX6_followsFromParts w_se_yX6_followsFromParts w_ini_RX6 w_cd_yX6_followsFromParts) rfl rfl rfl (by decide +kernel) ⟨Nat.le_of_ble_eq_true rfl, Nat.le_of_ble_eq_true rfl⟩) rfl hl.1 rfl (Nat.le_of_ble_eq_true rfl) dX6_holdsWhen_29 ⟨Nat.zero_le _, Nat.zero_le _⟩ (fun H locs hs => ?_)
    refine lv_if_eq (tgt := 44) hx hb dX6_holdsWhen_32 (by decide) (fun c32 => ?_) (fun c32 => ?_)
    · skip
      refine lv_iinc (v := nI (j + 1)) (lv' := [(3, .int (nI (j + 1))), (0, .ref (ad2 3)), (1, .int (nI f1)), (2, .int (at1))]) hx hb dX6_holdsWhen_44 hl (k := 3) rfl (nI_add j 1) (by decide) rfl (fun ls hl => ?_)
      refine lv_goto (tgt := 10) hx hb dX6_holdsWhen_47 (by decide) ?_
      exact ih10 (j + 1) (ad2) (en2) _ _ _ (by omega) (StAtT_congr ht2 (fun r hr x => tvT_skip hr ij.1 (b2i_0 c32))) (ka2) (ke2) (by omega) hs (lv_sub hl [1, 2, 3, 0] rfl)
    · skip
      refine lv_aload_n hx hb dX6_holdsWhen_35 rfl (lv_at hl 0 rfl) ?_
      refine r_get (ci := 6) (v := .ref (ad2 9)) (C := RX6) (T := TX6) (N := 3) hx hb hts inlX6 hown hK hs (3) (by omega) he3b rfl 2 (by decide) (hts _ w_fl_RX6_27) rfl dX6_holdsWhen_36 ?_
      refine lv_iconst (v := 0) hx hb dX6_holdsWhen_39 (by decide) ?_
      refine lv_iload_n hx hb dX6_holdsWhen_40 rfl (lv_at hl 3 rfl) ?_
      refine r_callVv (ci := 5) (As := [.int (0), .int (nI j)]) hx hb hml hown hts hK hA hs (9) (by omega) he9b rfl rfl (c_X5_add l G ht2.2.2.2.2.1 (row := 0) (by decide) (nI j)) (cwV 2 hts (tbV w_ml_RX6_45 w_im_yX5_add w_se_yX5_add w_ini_RX5 w_cd_yX5_add) rfl rfl rfl (by decide +kernel) ⟨Nat.le_of_ble_eq_true rfl, Nat.le_of_ble_eq_true rfl⟩) rfl hl.1 rfl (Nat.le_of_ble_eq_true rfl) dX6_holdsWhen_41 ⟨Nat.le_refl _, Nat.le_refl _⟩ (fun ad_5 en_6 H locs hp_7 hs => ?_)
      obtain ⟨hcq_8, hfq_8⟩ := hp_7
      have htq_8 := StAtT_upd ht2 hcq_8 hfq_8
      have kaq_8 : ∀ k, k < n → ad_5 k = ad k := fun k a => (hfq_8.1 k a (fun q => q)).trans (ka2 k a)
      have keq_8 : ∀ k, k < n → ¬ (9 ≤ k ∧ k ≤ 10) → en_6 k = en k := fun k a b => (hfq_8.2 k a b).trans (ke2 k a b)
      have he3q_8 := htq_8.2.1
      obtain ⟨fs4q_8, he4q_8⟩ := KeptAt_recv htq_8.2.2.1
      obtain ⟨fs9q_8, he9q_8⟩ := SetsAt_recv htq_8.2.2.2.2.1
      have hl : lv_has ls 4 [(0, .ref (ad_5 3)), (1, .int (nI f1)), (2, .int (at1)), (3, .int (nI j))] := by rw [hfq_8.1 3 (by omega) (fun q => q)]; exact hl
      refine lv_iinc (v := nI (j + 1)) (lv' := [(3, .int (nI (j + 1))), (0, .ref (ad_5 3)), (1, .int (nI f1)), (2, .int (at1))]) hx hb dX6_holdsWhen_44 hl (k := 3) rfl (nI_add j 1) (by decide) rfl (fun ls hl => ?_)
      refine lv_goto (tgt := 10) hx hb dX6_holdsWhen_47 (by decide) ?_
      exact ih10 (j + 1) (ad_5) (en_6) _ _ _ (by omega) (StAtT_congr htq_8 (fun r hr x => tvT_add hr ij.1 (by omega) (b2i_1 c32))) (kaq_8) (keq_8) (by omega) hs (lv_sub hl [1, 2, 3, 0] rfl)

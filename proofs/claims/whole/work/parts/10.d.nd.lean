theorem psU_step {W : Nat → Bool} {ns : List Row} {k i : Nat} (h1 : 1 ≤ i) (h : psU W ns k (i - 1) = true) (hw : W (rowCol (kAt ns k) (1 + i)) = true) : psU W ns k (i + 1 - 1) = true := by
  obtain ⟨j, rfl⟩ : ∃ j, i = j + 1 := ⟨i - 1, by omega⟩
  show psU W ns k (j + 1) = true
  rw [psU, show 2 + j = 1 + (j + 1) by omega, hw, show psU W ns k j = true from h]; rfl
theorem psU_bad {W : Nat → Bool} {ns : List Row} {k i m : Nat} (h1 : 1 ≤ i) (hm : i ≤ m) (hw : W (rowCol (kAt ns k) (1 + i)) = false) : psU W ns k m = false := by
  induction hm with
  | refl =>
    obtain ⟨j, rfl⟩ : ∃ j, i = j + 1 := ⟨i - 1, by omega⟩
    rw [psU, show 2 + j = 1 + (j + 1) by omega, hw, Bool.and_false]
  | step _ ih => rw [psU, ih, Bool.false_and]
theorem NdAt_upd15 {G : rG} {n : Nat} {ad ad1 : Nat → Nat} {en en1 : Nat → va_E} {ns : List Row} {jd RR SL RR1 : Nat} {S S1 : Nat → Nat → Bool} {sf : Nat → Int32} (h : NdAt G n ad en ns jd RR SL S sf) (h1 : SetsAt G n 15 ad1 en1 RR1 S1) (hf : Fr n (fun k => 15 ≤ k ∧ k ≤ 15 + 1) (fun _ => False) ad en ad1 en1) : NdAt G n ad1 en1 ns jd RR1 SL S1 sf := by
  obtain ⟨hn, he11, hk, hrs, he17, hSL⟩ := h
  have ka : ∀ k, k < n → ad1 k = ad k := fun k a => hf.1 k a (fun q => q)
  have ke : ∀ k, k < n → ¬ (15 ≤ k ∧ k ≤ 16) → en1 k = en k := fun k a b => hf.2 k a b
  refine ⟨hn, ?_, KeptAt_keep hk (fun k a b => ka k (by omega)) (fun k a b => ke k (by omega) (by omega)), h1, (ke 17 (by omega) (by omega)).trans he17, hSL⟩
  rw [ka 3 (by omega), ka 12 (by omega), ka 15 (by omega), ka 17 (by omega)]; exact (ke 11 (by omega) (by omega)).trans he11
theorem rest_0 {ss ns : List Row} {S : Nat → Nat → Bool} {k r x : Nat} (hfr : ∀ x, S k x = false) (h1 : 1 ≤ nG ns k) (h2 : nG ns k ≤ 600) (ht : nT ns k = 0) : sAddI S k (nI (nG ns k)) r x = if r = k then rE ss ns S k x else S r x := by
  rw [sAddI_nI _ _ h1 h2, sAdd, rE, if_pos ht]
  by_cases e : r = k
  · rw [if_pos e]
    by_cases e2 : x = nG ns k
    · rw [if_pos ⟨e, e2⟩, dt e2]
    · rw [if_neg (fun q => e2 q.2), df e2, e]; exact hfr x
  · rw [if_neg e, if_neg (fun q => e q.1)]
theorem is_parts {ss : List Row} (h : ssOK ss) {so f : Nat} (h2 : 2 ≤ so) (hs : sIs ss so f = true) : 1 ≤ sL ss f ∧ 1 ≤ sR ss f := by
  have q := of_decide_eq_true hs
  have p := h.2.1 f q.1 q.2.1
  have e := q.2.2
  unfold sSort at e
  unfold sL sR
  obtain ⟨-, p | p | p⟩ := p <;> omega
theorem dpos {u x : Nat} (h : 1 ≤ u) : decide (0 < u ∧ x = u) = decide (x = u) := decide_eq_decide.mpr ⟨fun q => q.2, fun q => ⟨h, q⟩⟩
theorem dzero {x : Nat} : decide (0 < 0 ∧ x = 0) = false := decide_eq_false (fun q => Nat.lt_irrefl 0 q.1)
theorem rest_1y {ss ns : List Row} {S : Nat → Nat → Bool} {k r x : Nat} (hfr : ∀ x, S k x = false) (hok : ssOK ss) (h0 : ¬ nT ns k = 0) (ht : nT ns k = 1) (hs : sIs ss 4 (nG ns k) = true) : sMrg S (nA ns k) k (sL ss (nG ns k)) r x = if r = k then rE ss ns S k x else S r x := by
  rw [sMrg, rE, if_neg h0, if_pos ht, hs, dpos (is_parts hok (by decide) hs).1]
  by_cases e : r = k
  · rw [if_pos e, if_pos e, hfr x, Bool.false_or, Bool.true_and]
  · rw [if_neg e, if_neg e]
theorem rest_1n {ss ns : List Row} {S : Nat → Nat → Bool} {k r x : Nat} (hfr : ∀ x, S k x = false) (hok : ssOK ss) (h0 : ¬ nT ns k = 0) (ht : nT ns k = 1) (hs : sIs ss 4 (nG ns k) = false) : sMrg S (nA ns k) k 0 r x = if r = k then rE ss ns S k x else S r x := by
  rw [sMrg, rE, if_neg h0, if_pos ht, hs, dzero]
  by_cases e : r = k
  · rw [if_pos e, if_pos e, hfr x, Bool.false_or, Bool.false_and]
  · rw [if_neg e, if_neg e]
theorem mrg3 {S : Nat → Nat → Bool} {k a b c u v r x : Nat} (hfr : ∀ x, S k x = false) (ha : a < k) (hb : b < k) (hc : c < k) : sMrg (sMrg (sMrg S a k 0) b k u) c k v r x = if r = k then (S a x || (S b x && !(decide (0 < u ∧ x = u))) || (S c x && !(decide (0 < v ∧ x = v)))) else S r x := by
  have e1 : ∀ y, sMrg S a k 0 k y = S a y := fun y => by rw [sMrg, if_pos rfl, hfr y, dzero, Bool.false_or, Bool.not_false, Bool.and_true]
  have e2 : ∀ j y, j < k → sMrg S a k 0 j y = S j y := fun j y hj => by rw [sMrg, if_neg (by omega)]
  have e3 : ∀ y, sMrg (sMrg S a k 0) b k u k y = (S a y || (S b y && !(decide (0 < u ∧ y = u)))) := fun y => by rw [sMrg, if_pos rfl, e1 y, e2 b y hb]
  have e4 : ∀ j y, j < k → sMrg (sMrg S a k 0) b k u j y = S j y := fun j y hj => by rw [sMrg, if_neg (by omega), e2 j y hj]
  by_cases e : r = k
  · rw [if_pos e, sMrg, if_pos e, e3, e4 c x hc]
  · rw [if_neg e, sMrg, if_neg e, sMrg, if_neg e, sMrg, if_neg e]
theorem rest_3a {ss ns : List Row} {S : Nat → Nat → Bool} {k r x : Nat} (hfr : ∀ x, S k x = false) (hp : nA ns k < k ∧ nB ns k < k ∧ nC ns k < k) (h0 : ¬ nT ns k = 0) (h1 : ¬ nT ns k = 1) (h8 : ¬ nT ns k = 8) : sMrg (sMrg (sMrg S (nA ns k) k 0) (nB ns k) k 0) (nC ns k) k 0 r x = if r = k then rE ss ns S k x else S r x := by
  rw [mrg3 hfr hp.1 hp.2.1 hp.2.2, rE, if_neg h0, if_neg h1, df h8, dzero]
  simp only [Bool.false_and, Bool.not_false, Bool.and_true]
theorem rest_3n {ss ns : List Row} {S : Nat → Nat → Bool} {k r x : Nat} (hfr : ∀ x, S k x = false) (hp : nA ns k < k ∧ nB ns k < k ∧ nC ns k < k) (h0 : ¬ nT ns k = 0) (h1 : ¬ nT ns k = 1) (h8 : nT ns k = 8) (hs : sIs ss 3 (nG ns (nA ns k)) = false) : sMrg (sMrg (sMrg S (nA ns k) k 0) (nB ns k) k 0) (nC ns k) k 0 r x = if r = k then rE ss ns S k x else S r x := by
  rw [mrg3 hfr hp.1 hp.2.1 hp.2.2, rE, if_neg h0, if_neg h1, hs, dzero]
  simp only [Bool.and_false, Bool.false_and, Bool.not_false, Bool.and_true]
theorem rest_3y {ss ns : List Row} {S : Nat → Nat → Bool} {k r x : Nat} (hfr : ∀ x, S k x = false) (hp : nA ns k < k ∧ nB ns k < k ∧ nC ns k < k) (hok : ssOK ss) (h0 : ¬ nT ns k = 0) (h1 : ¬ nT ns k = 1) (h8 : nT ns k = 8) (hs : sIs ss 3 (nG ns (nA ns k)) = true) : sMrg (sMrg (sMrg S (nA ns k) k 0) (nB ns k) k (sL ss (nG ns (nA ns k)))) (nC ns k) k (sR ss (nG ns (nA ns k))) r x = if r = k then rE ss ns S k x else S r x := by
  have q := is_parts hok (by decide) hs
  rw [mrg3 hfr hp.1 hp.2.1 hp.2.2, rE, if_neg h0, if_neg h1, dt h8, hs, dpos q.1, dpos q.2]
  simp only [Bool.true_and]
set_option maxHeartbeats 4000000 in
set_option maxRecDepth 100000 in
theorem c_X2_partsAreSound (l : Launch) (G : rG) {n : Nat} {ad : Nat → Nat} {en : Nat → va_E} {ss ns : List Row} {jd RR SL : Nat} {S : Nat → Nat → Bool} {sf : Nat → Int32} (hd : NdAt G n ad en ns jd RR SL S sf) (hns : nsOK ss ns) {k : Nat} (hk1 : 1 ≤ k ∧ k ≤ ns.length) {Wf : Nat → Bool} (hsf : ∀ j, 1 ≤ j → j < k → sf j = b2i (Wf j)) (hkS : k ≤ SL) : CI l G yX2_partsAreSound uX2_partsAreSound (1) (23) (0) (0) [.ref (ad 11), .int (nI k)] (n) (n) ad en (roV ad en (b2i (psU Wf ns k (nP ns k)))) := by
  intro sz
  refine rMet (Qc := qI G (n) (roV ad en (b2i (psU Wf ns k (nP ns k))))) (cc := cX2_partsAreSound) (maxL := 5) (ret := (some .boolean)) (by decide) rfl (Nat.le_of_ble_eq_true rfl) ?_
  intro pP eE sS mM aA bB tT cC ls A Q hc hK hsz hA hs hl hQ
  obtain ⟨hx, hb, hr, hts, hown, hlk, hnm, hml⟩ := hc
  have hl : lv_has ls 5 [(0, .ref (ad 11)), (1, .int (nI k))] := hl
  have hnd := hd
  obtain ⟨hn, he11, hk, hrs, he17, hSL⟩ := hnd
  obtain ⟨fs12, he12⟩ := KeptAt_recv hk
  obtain ⟨fs15, he15⟩ := SetsAt_recv hrs
  have hle8 : ns.length ≤ 8000 := hk.2.1
  have hlen : ns.length < 2 ^ 31 := by omega
  obtain ⟨hT9, hGk, hAk, hBk, hCk⟩ := part_lt hns hk1
  have hP3 := nP_le hns hk1
  refine lv_aload_n hx hb dX2_partsAreSound_0 rfl (lv_at hl 0 rfl) ?_
  refine r_get (ci := 2) (v := .ref (ad 12)) (C := RX2) (T := TX2) (N := 5) hx hb hts inlX2 hown hK hs (11) (by omega) he11 rfl 1 (by decide) (hts _ w_fl_RX2_14) rfl dX2_partsAreSound_1 ?_
  refine lv_iload_n hx hb dX2_partsAreSound_4 rfl (lv_at hl 1 rfl) ?_
  refine lv_iconst (v := 0) hx hb dX2_partsAreSound_5 (by decide) ?_
  refine r_callViR (ci := 1) (As := [.int (nI k), .int (0)]) hx hb hml hown hts hK hA hs (12) (by omega) he12 rfl rfl (c_X1_getN l G hk k 0 (by omega) (by decide) (by omega)) (cwV 2 hts (tbV w_ml_RX2_46 w_im_yX1_get w_se_yX1_get w_ini_RX1 w_cd_yX1_get) rfl rfl rfl (by decide +kernel) ⟨Nat.le_of_ble_eq_true rfl, Nat.le_of_ble_eq_true rfl⟩) rfl hl.1 rfl (Nat.le_of_ble_eq_true rfl) dX2_partsAreSound_6 ⟨Nat.zero_le _, Nat.zero_le _⟩ (fun H locs hs => ?_)
  refine r_topi (y := nI (nT ns k)) rfl ?_
  refine r_callSiR (As := [.int (nI (nT ns k))]) hx hb hml hown hts hK hA hs (c_X2_partsOf l G (r := nT ns k) (by omega)) (va_cwS 1 hts (tbS w_ml_RX2_92 w_sta_yX2_partsOf w_ini_RX2 w_cd_yX2_partsOf) rfl rfl rfl (by decide +kernel) ⟨Nat.le_of_ble_eq_true rfl, Nat.le_of_ble_eq_true rfl⟩) rfl hl.1 rfl (Nat.le_of_ble_eq_true rfl) dX2_partsAreSound_9 ⟨Nat.zero_le _, Nat.zero_le _⟩ (fun H locs hs => ?_)
  refine r_topi (y := nI (nP ns k)) (rfl) ?_
  refine lv_istore_n (lv' := [(2, .int (nI (nP ns k))), (0, .ref (ad 11)), (1, .int (nI k))]) hx hb dX2_partsAreSound_12 rfl hl (by decide) rfl (fun ls hl => ?_)
  refine lv_iconst (v := 1) hx hb dX2_partsAreSound_13 (by decide) ?_
  refine lv_istore_n (lv' := [(3, .int (1)), (2, .int (nI (nP ns k))), (0, .ref (ad 11)), (1, .int (nI k))]) hx hb dX2_partsAreSound_14 rfl hl (by decide) rfl (fun ls hl => ?_)
  suffices LOOP15 : ∀ (fu15 : Nat) (i : Nat) (H : Heap) (locs : List Loc) (ls : Array Slot), (1 ≤ i ∧ i ≤ nP ns k + 1) → (psU Wf ns k (i - 1) = true) → nP ns k + 1 - i < fu15 → rS G A sS.heap (n) ad en H locs → lv_has ls 5 [(0, .ref (ad 11)), (1, .int (nI k)), (2, .int (nI (nP ns k))), (3, .int (nI i))] → W pP l eE (rRm (1) (23) (0) (0)) sS mM aA bB tT cC H locs (0) (0) Q (F0 mM 15 ls []) from LOOP15 _ (1) _ _ _ (by omega) (rfl) (Nat.lt_succ_self _) hs (lv_sub hl [2, 3, 1, 0] rfl)
  intro fu15
  induction fu15 with
  | zero => intro i H locs ls ii ip hfu; exact absurd hfu (Nat.not_lt_zero _)
  | succ fu15 ih15 => ?_
  intro i H locs ls ii ip hfu15 hs hl
  refine lv_iload_n hx hb dX2_partsAreSound_15 rfl (lv_at hl 3 rfl) ?_
  refine lv_iload_n hx hb dX2_partsAreSound_16 rfl (lv_at hl 2 rfl) ?_
  refine lv_icmp_gt (tgt := 64) hx hb dX2_partsAreSound_17 (by decide) (fun c17 => ?_) (fun c17 => ?_)
  · skip
    have hie : i = nP ns k + 1 := by have := (nI_ltI (by omega) (by omega)).mp c17; omega
    refine lv_iconst (v := 1) hx hb dX2_partsAreSound_64 (by decide) ?_
    refine r_zret (v := 1) (mc := 0) (ms := 0) hx hb hr hlk hs (Nat.le_refl _) (Nat.le_refl _) dX2_partsAreSound_65 ?_ hQ ?_
    · first | exact Or.inl rfl | exact Or.inr rfl | exact b2i_z _
    exact roV.rf (by rw [show nP ns k = i - 1 by omega, ip]; rfl)
  · skip
    have hie : i ≤ nP ns k := Nat.le_of_not_lt (fun q => c17 ((nI_ltI (by omega) (by omega)).mpr q))
    have hpt : 1 ≤ rowCol (kAt ns k) (1 + i) ∧ rowCol (kAt ns k) (1 + i) < k := by have q := partN hns hk1 (i := i - 1) (by omega); rw [show 2 + (i - 1) = 1 + i by omega] at q; exact q.2
    refine lv_aload_n hx hb dX2_partsAreSound_20 rfl (lv_at hl 0 rfl) ?_
    refine r_get (ci := 2) (v := .ref (ad 12)) (C := RX2) (T := TX2) (N := 5) hx hb hts inlX2 hown hK hs (11) (by omega) he11 rfl 1 (by decide) (hts _ w_fl_RX2_14) rfl dX2_partsAreSound_21 ?_
    refine lv_iload_n hx hb dX2_partsAreSound_24 rfl (lv_at hl 1 rfl) ?_
    refine lv_iconst (v := 1) hx hb dX2_partsAreSound_25 (by decide) ?_
    refine lv_iload_n hx hb dX2_partsAreSound_26 rfl (lv_at hl 3 rfl) ?_
    refine lv_iadd hx hb dX2_partsAreSound_27 ?_
    refine r_topi (y := nI (1 + i)) (by simp only [ l0, l1, l2, l3, l4, l5, l6, l10, l600, pk_mul, nI_add]; first | done | exact congrArg nI (by omega)) ?_
    refine r_callViR (ci := 1) (As := [.int (nI k), .int (nI (1 + i))]) hx hb hml hown hts hK hA hs (12) (by omega) he12 rfl rfl (c_X1_getN l G hk k (1 + i) (by omega) (by omega) (by omega)) (cwV 2 hts (tbV w_ml_RX2_46 w_im_yX1_get w_se_yX1_get w_ini_RX1 w_cd_yX1_get) rfl rfl rfl (by decide +kernel) ⟨Nat.le_of_ble_eq_true rfl, Nat.le_of_ble_eq_true rfl⟩) rfl hl.1 rfl (Nat.le_of_ble_eq_true rfl) dX2_partsAreSound_28 ⟨Nat.zero_le _, Nat.zero_le _⟩ (fun H locs hs => ?_)
    refine lv_istore (lv' := [(4, .int (nI (rowCol (kAt ns k) (1 + i)))), (0, .ref (ad 11)), (1, .int (nI k)), (2, .int (nI (nP ns k))), (3, .int (nI i))]) hx hb dX2_partsAreSound_31 hl (by decide) rfl (fun ls hl => ?_)
    refine lv_iload hx hb dX2_partsAreSound_33 (lv_at hl 0 rfl) ?_
    refine lv_iconst (v := 1) hx hb dX2_partsAreSound_35 (by decide) ?_
    refine lv_icmp_lt (tgt := 56) hx hb dX2_partsAreSound_36 (by decide) (fun c36 => absurd c36 (nI_nlt (b := 1) hpt.1 (by omega))) (fun _ => ?_)
    refine lv_iload hx hb dX2_partsAreSound_39 (lv_at hl 0 rfl) ?_
    refine lv_iload_n hx hb dX2_partsAreSound_41 rfl (lv_at hl 2 rfl) ?_
    refine lv_icmp_ge (tgt := 56) hx hb dX2_partsAreSound_42 (by decide) (fun c42 => absurd c42 (nI_ge hpt.2 (by omega))) (fun _ => ?_)
    refine lv_aload_n hx hb dX2_partsAreSound_45 rfl (lv_at hl 1 rfl) ?_
    refine r_get (ci := 2) (v := .ref (ad 17)) (C := RX2) (T := TX2) (N := 5) hx hb hts inlX2 hown hK hs (11) (by omega) he11 rfl 3 (by decide) (hts _ w_fl_RX2_27) rfl dX2_partsAreSound_46 ?_
    refine lv_iload hx hb dX2_partsAreSound_49 (lv_at hl 0 rfl) ?_
    refine r_ialdN (t := rowCol (kAt ns k) (1 + i)) hx hb hK hs (17) (by omega) he17 (rfl) (by omega) (by omega) dX2_partsAreSound_51 ?_
    refine lv_iconst (v := 1) hx hb dX2_partsAreSound_52 (by decide) ?_
    refine lv_icmp_eq (tgt := 58) hx hb dX2_partsAreSound_53 (by decide) (fun c53 => ?_) (fun c53 => ?_)
    · skip
      refine lv_iinc (v := nI (i + 1)) (lv' := [(3, .int (nI (i + 1))), (4, .int (nI (rowCol (kAt ns k) (1 + i)))), (0, .ref (ad 11)), (1, .int (nI k)), (2, .int (nI (nP ns k)))]) hx hb dX2_partsAreSound_58 hl (k := 4) rfl (nI_add i 1) (by decide) rfl (fun ls hl => ?_)
      refine lv_goto (tgt := 15) hx hb dX2_partsAreSound_61 (by decide) ?_
      exact ih15 (i + 1) _ _ _ (by omega) (psU_step ii.1 ip (b2i_t ((hsf _ hpt.1 hpt.2).symm.trans c53))) (by omega) hs (lv_sub hl [2, 3, 4, 0] rfl)
    · skip
      refine lv_iconst (v := 0) hx hb dX2_partsAreSound_56 (by decide) ?_
      refine r_zret (v := 0) (mc := 0) (ms := 0) hx hb hr hlk hs (Nat.le_refl _) (Nat.le_refl _) dX2_partsAreSound_57 ?_ hQ ?_
      · first | exact Or.inl rfl | exact Or.inr rfl | exact b2i_z _
      exact roV.rf (by rw [psU_bad ii.1 hie (b2i_f (fun q => c53 ((hsf _ hpt.1 hpt.2).trans q)))]; rfl)

set_option maxHeartbeats 4000000 in
set_option maxRecDepth 100000 in
theorem c_X2_gatherRests (l : Launch) (G : rG) {n : Nat} {ad : Nat → Nat} {en : Nat → va_E} {ss ns : List Row} {jd RR SL : Nat} {S : Nat → Nat → Bool} {sf : Nat → Int32} (h : StAt G n ad en ss) (hd : NdAt G n ad en ns jd RR SL S sf) (hns : nsOK ss ns) {k : Nat} (hk1 : 1 ≤ k ∧ k ≤ ns.length) (hkR : k < RR) (hfr : ∀ x, S k x = false) : CV l G yX2_gatherRests uX2_gatherRests (2) (47) (0) (0) [.ref (ad 11), .int (nI k)] (n) (n) ad en (fun ad1 en1 => SetsAt G n 15 ad1 en1 RR (fun r x => if r = k then rE ss ns S k x else S r x) ∧ Fr n (fun k => 15 ≤ k ∧ k ≤ 16) (fun _ => False) ad en ad1 en1) := by
  intro sz
  refine rMet (Qc := qV G (n) (fun ad1 en1 => SetsAt G n 15 ad1 en1 RR (fun r x => if r = k then rE ss ns S k x else S r x) ∧ Fr n (fun k => 15 ≤ k ∧ k ≤ 16) (fun _ => False) ad en ad1 en1)) (cc := cX2_gatherRests) (maxL := 7) (ret := none) (by decide) rfl (Nat.le_of_ble_eq_true rfl) ?_
  intro pP eE sS mM aA bB tT cC ls A Q hc hK hsz hA hs hl hQ
  obtain ⟨hx, hb, hr, hts, hown, hlk, hnm, hml⟩ := hc
  have hl : lv_has ls 7 [(0, .ref (ad 11)), (1, .int (nI k))] := hl
  have hnd := hd
  obtain ⟨hn, he11, hk, hrs, he17, hSL⟩ := hnd
  obtain ⟨fs12, he12⟩ := KeptAt_recv hk
  obtain ⟨fs15, he15⟩ := SetsAt_recv hrs
  have hle8 : ns.length ≤ 8000 := hk.2.1
  have hlen : ns.length < 2 ^ 31 := by omega
  obtain ⟨fst, hest⟩ : ∃ fs, en 3 = .inr (6, fs) := ⟨_, h.2.1⟩
  have hok := h.2.2.2.2.2
  have hle6 := hok.1
  have hG := nG_le hns
  obtain ⟨hT9, hGk, hAk, hBk, hCk⟩ := part_lt hns hk1
  have g1 := hG k
  have g2 := hG (nA ns k)
  have p1 := sLR_lt hok (nG ns k)
  have p2 := sLR_lt hok (nG ns (nA ns k))
  have ka0 : ∀ k, k < n → ad k = ad k := fun _ _ => rfl
  have ke0 : ∀ k, k < n → ¬ (15 ≤ k ∧ k ≤ 16) → en k = en k := fun _ _ _ => rfl
  refine lv_aload_n hx hb dX2_gatherRests_0 rfl (lv_at hl 0 rfl) ?_
  refine lv_iload_n hx hb dX2_gatherRests_1 rfl (lv_at hl 1 rfl) ?_
  refine r_callViR (ci := 2) (As := [.int (nI k)]) hx hb hml hown hts hK hA hs (11) (by omega) he11 rfl rfl (c_X2_goalOfN l G hd k (by omega)) (cwV 1 hts (tbV w_ml_RX2_95 w_im_yX2_goalOf w_se_yX2_goalOf w_ini_RX2 w_cd_yX2_goalOf) rfl rfl rfl (by decide +kernel) ⟨Nat.le_of_ble_eq_true rfl, Nat.le_of_ble_eq_true rfl⟩) rfl hl.1 rfl (Nat.le_of_ble_eq_true rfl) dX2_gatherRests_2 ⟨Nat.zero_le _, Nat.zero_le _⟩ (fun H locs hs => ?_)
  refine lv_istore_n (lv' := [(2, .int (nI (nG ns k))), (0, .ref (ad 11)), (1, .int (nI k))]) hx hb dX2_gatherRests_5 rfl hl (by decide) rfl (fun ls hl => ?_)
  refine lv_aload_n hx hb dX2_gatherRests_6 rfl (lv_at hl 1 rfl) ?_
  refine r_get (ci := 2) (v := .ref (ad 12)) (C := RX2) (T := TX2) (N := 5) hx hb hts inlX2 hown hK hs (11) (by omega) he11 rfl 1 (by decide) (hts _ w_fl_RX2_14) rfl dX2_gatherRests_7 ?_
  refine lv_iload_n hx hb dX2_gatherRests_10 rfl (lv_at hl 2 rfl) ?_
  refine lv_iconst (v := 2) hx hb dX2_gatherRests_11 (by decide) ?_
  refine r_callViR (ci := 1) (As := [.int (nI k), .int (2)]) hx hb hml hown hts hK hA hs (12) (by omega) he12 rfl rfl (c_X1_getN l G hk k 2 (by omega) (by decide) (by omega)) (cwV 2 hts (tbV w_ml_RX2_46 w_im_yX1_get w_se_yX1_get w_ini_RX1 w_cd_yX1_get) rfl rfl rfl (by decide +kernel) ⟨Nat.le_of_ble_eq_true rfl, Nat.le_of_ble_eq_true rfl⟩) rfl hl.1 rfl (Nat.le_of_ble_eq_true rfl) dX2_gatherRests_12 ⟨Nat.zero_le _, Nat.zero_le _⟩ (fun H locs hs => ?_)
  refine r_topi (y := nI (nA ns k)) rfl ?_
  refine lv_istore_n (lv' := [(3, .int (nI (nA ns k))), (2, .int (nI (nG ns k))), (0, .ref (ad 11)), (1, .int (nI k))]) hx hb dX2_gatherRests_15 rfl hl (by decide) rfl (fun ls hl => ?_)
  refine lv_aload_n hx hb dX2_gatherRests_16 rfl (lv_at hl 2 rfl) ?_
  refine lv_iload_n hx hb dX2_gatherRests_17 rfl (lv_at hl 0 rfl) ?_
  refine r_callViR (ci := 2) (As := [.int (nI (nA ns k))]) hx hb hml hown hts hK hA hs (11) (by omega) he11 rfl rfl (c_X2_goalOfN l G hd (nA ns k) (by omega)) (cwV 1 hts (tbV w_ml_RX2_95 w_im_yX2_goalOf w_se_yX2_goalOf w_ini_RX2 w_cd_yX2_goalOf) rfl rfl rfl (by decide +kernel) ⟨Nat.le_of_ble_eq_true rfl, Nat.le_of_ble_eq_true rfl⟩) rfl hl.1 rfl (Nat.le_of_ble_eq_true rfl) dX2_gatherRests_18 ⟨Nat.zero_le _, Nat.zero_le _⟩ (fun H locs hs => ?_)
  refine lv_istore (lv' := [(4, .int (nI (nG ns (nA ns k)))), (3, .int (nI (nA ns k))), (2, .int (nI (nG ns k))), (0, .ref (ad 11)), (1, .int (nI k))]) hx hb dX2_gatherRests_21 hl (by decide) rfl (fun ls hl => ?_)
  refine lv_aload_n hx hb dX2_gatherRests_23 rfl (lv_at hl 3 rfl) ?_
  refine r_get (ci := 2) (v := .ref (ad 12)) (C := RX2) (T := TX2) (N := 5) hx hb hts inlX2 hown hK hs (11) (by omega) he11 rfl 1 (by decide) (hts _ w_fl_RX2_14) rfl dX2_gatherRests_24 ?_
  refine lv_iload_n hx hb dX2_gatherRests_27 rfl (lv_at hl 4 rfl) ?_
  refine lv_iconst (v := 0) hx hb dX2_gatherRests_28 (by decide) ?_
  refine r_callViR (ci := 1) (As := [.int (nI k), .int (0)]) hx hb hml hown hts hK hA hs (12) (by omega) he12 rfl rfl (c_X1_getN l G hk k 0 (by omega) (by decide) (by omega)) (cwV 2 hts (tbV w_ml_RX2_46 w_im_yX1_get w_se_yX1_get w_ini_RX1 w_cd_yX1_get) rfl rfl rfl (by decide +kernel) ⟨Nat.le_of_ble_eq_true rfl, Nat.le_of_ble_eq_true rfl⟩) rfl hl.1 rfl (Nat.le_of_ble_eq_true rfl) dX2_gatherRests_29 ⟨Nat.zero_le _, Nat.zero_le _⟩ (fun H locs hs => ?_)
  refine r_topi (y := nI (nT ns k)) rfl ?_
  refine lv_istore (lv' := [(5, .int (nI (nT ns k))), (4, .int (nI (nG ns (nA ns k)))), (3, .int (nI (nA ns k))), (2, .int (nI (nG ns k))), (0, .ref (ad 11)), (1, .int (nI k))]) hx hb dX2_gatherRests_32 hl (by decide) rfl (fun ls hl => ?_)
  refine lv_iload hx hb dX2_gatherRests_34 (lv_at hl 0 rfl) ?_
  refine lv_if_ne (tgt := 51) hx hb dX2_gatherRests_36 (by decide) (fun c36 => ?_) (fun c36 => ?_)
  · skip
    refine lv_iload hx hb dX2_gatherRests_51 (lv_at hl 0 rfl) ?_
    refine lv_iconst (v := 1) hx hb dX2_gatherRests_53 (by decide) ?_
    refine lv_icmp_ne (tgt := 97) hx hb dX2_gatherRests_54 (by decide) (fun c54 => ?_) (fun c54 => ?_)
    · skip
      refine lv_iload hx hb dX2_gatherRests_97 (lv_at hl 0 rfl) ?_
      refine lv_bipush (v := 8) hx hb dX2_gatherRests_99 (by decide) ?_
      refine lv_icmp_ne (tgt := 121) hx hb dX2_gatherRests_101 (by decide) (fun c101 => ?_) (fun c101 => ?_)
      · skip
        refine lv_iconst (v := 0) hx hb dX2_gatherRests_121 (by decide) ?_
        refine lv_istore (lv' := [(6, .int (0)), (5, .int (nI (nT ns k))), (4, .int (nI (nG ns (nA ns k)))), (3, .int (nI (nA ns k))), (2, .int (nI (nG ns k))), (0, .ref (ad 11)), (1, .int (nI k))]) hx hb dX2_gatherRests_122 hl (by decide) rfl (fun ls hl => ?_)
        refine lv_aload_n hx hb dX2_gatherRests_124 rfl (lv_at hl 5 rfl) ?_
        refine r_get (ci := 2) (v := .ref (ad 15)) (C := RX2) (T := TX2) (N := 5) hx hb hts inlX2 hown hK hs (11) (by omega) he11 rfl 2 (by decide) (hts _ w_fl_RX2_23) rfl dX2_gatherRests_125 ?_
        refine lv_iload_n hx hb dX2_gatherRests_128 rfl (lv_at hl 6 rfl) ?_
        refine lv_iload_n hx hb dX2_gatherRests_129 rfl (lv_at hl 3 rfl) ?_
        refine lv_iconst (v := 0) hx hb dX2_gatherRests_130 (by decide) ?_
        refine r_callVv (ci := 5) (As := [.int (nI k), .int (nI (nA ns k)), .int (0)]) hx hb hml hown hts hK hA hs (15) (by omega) he15 rfl rfl (c_X5_merge l G hrs (fr1 := (nA ns k)) (to1 := k) (bt := 0) (by omega) (by omega) (by omega)) (cwV 3 hts (tbV w_ml_RX2_118 w_im_yX5_merge w_se_yX5_merge w_ini_RX5 w_cd_yX5_merge) rfl rfl rfl (by decide +kernel) ⟨Nat.le_of_ble_eq_true rfl, Nat.le_of_ble_eq_true rfl⟩) rfl hl.1 rfl (Nat.le_of_ble_eq_true rfl) dX2_gatherRests_131 ⟨Nat.le_refl _, Nat.le_refl _⟩ (fun ad_1 en_2 H locs hp_3 hs => ?_)
        obtain ⟨hcq_4, hfq_4⟩ := hp_3
        have hdq_4 := NdAt_upd15 hd hcq_4 hfq_4
        have kaq_4 : ∀ k, k < n → ad_1 k = ad k := fun k a => (hfq_4.1 k a (fun q => q)).trans (ka0 k a)
        have keq_4 : ∀ k, k < n → ¬ (15 ≤ k ∧ k ≤ 16) → en_2 k = en k := fun k a b => (hfq_4.2 k a b).trans (ke0 k a b)
        have hstq_4 : StAt G n ad_1 en_2 ss := StAt_keep h (fun k a b => kaq_4 k (by omega)) (fun k a b => keq_4 k (by omega) (by omega))
        have he11q_4 := hdq_4.2.1
        obtain ⟨fs12q_4, he12q_4⟩ := KeptAt_recv hdq_4.2.2.1
        obtain ⟨fs15q_4, he15q_4⟩ := SetsAt_recv hdq_4.2.2.2.1
        obtain ⟨fstq_4, hestq_4⟩ : ∃ fs, en_2 3 = .inr (6, fs) := ⟨_, hstq_4.2.1⟩
        have hl : lv_has ls 7 [(6, .int (0)), (5, .int (nI (nT ns k))), (4, .int (nI (nG ns (nA ns k)))), (3, .int (nI (nA ns k))), (2, .int (nI (nG ns k))), (0, .ref (ad_1 11)), (1, .int (nI k))] := by rw [hfq_4.1 11 (by omega) (fun q => q)]; exact hl
        refine lv_aload_n hx hb dX2_gatherRests_134 rfl (lv_at hl 5 rfl) ?_
        refine r_get (ci := 2) (v := .ref (ad_1 15)) (C := RX2) (T := TX2) (N := 5) hx hb hts inlX2 hown hK hs (11) (by omega) he11q_4 rfl 2 (by decide) (hts _ w_fl_RX2_23) rfl dX2_gatherRests_135 ?_
        refine lv_iload_n hx hb dX2_gatherRests_138 rfl (lv_at hl 6 rfl) ?_
        refine lv_aload_n hx hb dX2_gatherRests_139 rfl (lv_at hl 5 rfl) ?_
        refine r_get (ci := 2) (v := .ref (ad_1 12)) (C := RX2) (T := TX2) (N := 5) hx hb hts inlX2 hown hK hs (11) (by omega) he11q_4 rfl 1 (by decide) (hts _ w_fl_RX2_14) rfl dX2_gatherRests_140 ?_
        refine lv_iload_n hx hb dX2_gatherRests_143 rfl (lv_at hl 6 rfl) ?_
        refine lv_iconst (v := 3) hx hb dX2_gatherRests_144 (by decide) ?_
        refine r_callViR (ci := 1) (As := [.int (nI k), .int (3)]) hx hb hml hown hts hK hA hs (12) (by omega) he12q_4 rfl rfl (c_X1_getN l G hdq_4.2.2.1 k 3 (by omega) (by decide) (by omega)) (cwV 2 hts (tbV w_ml_RX2_46 w_im_yX1_get w_se_yX1_get w_ini_RX1 w_cd_yX1_get) rfl rfl rfl (by decide +kernel) ⟨Nat.le_of_ble_eq_true rfl, Nat.le_of_ble_eq_true rfl⟩) rfl hl.1 rfl (Nat.le_of_ble_eq_true rfl) dX2_gatherRests_145 ⟨Nat.zero_le _, Nat.zero_le _⟩ (fun H locs hs => ?_)
        refine r_topi (y := nI (nB ns k)) rfl ?_
        refine lv_iload hx hb dX2_gatherRests_148 (lv_at hl 0 rfl) ?_
        refine lv_if_eq (tgt := 165) hx hb dX2_gatherRests_150 (by decide) (fun _ => ?_) (fun c150 => absurd (by decide) c150)
        refine lv_iconst (v := 0) hx hb dX2_gatherRests_165 (by decide) ?_
        refine r_callVv (ci := 5) (As := [.int (nI k), .int (nI (nB ns k)), .int (0)]) hx hb hml hown hts hK hA hs (15) (by omega) he15q_4 rfl rfl (c_X5_merge l G hdq_4.2.2.2.1 (fr1 := (nB ns k)) (to1 := k) (bt := 0) (by omega) (by omega) (by omega)) (cwV 3 hts (tbV w_ml_RX2_118 w_im_yX5_merge w_se_yX5_merge w_ini_RX5 w_cd_yX5_merge) rfl rfl rfl (by decide +kernel) ⟨Nat.le_of_ble_eq_true rfl, Nat.le_of_ble_eq_true rfl⟩) rfl hl.1 rfl (Nat.le_of_ble_eq_true rfl) dX2_gatherRests_166 ⟨Nat.le_refl _, Nat.le_refl _⟩ (fun ad_5 en_6 H locs hp_7 hs => ?_)
        obtain ⟨hcq_8, hfq_8⟩ := hp_7
        have hdq_8 := NdAt_upd15 hdq_4 hcq_8 hfq_8
        have kaq_8 : ∀ k, k < n → ad_5 k = ad k := fun k a => (hfq_8.1 k a (fun q => q)).trans (kaq_4 k a)
        have keq_8 : ∀ k, k < n → ¬ (15 ≤ k ∧ k ≤ 16) → en_6 k = en k := fun k a b => (hfq_8.2 k a b).trans (keq_4 k a b)
        have hstq_8 : StAt G n ad_5 en_6 ss := StAt_keep h (fun k a b => kaq_8 k (by omega)) (fun k a b => keq_8 k (by omega) (by omega))
        have he11q_8 := hdq_8.2.1
        obtain ⟨fs12q_8, he12q_8⟩ := KeptAt_recv hdq_8.2.2.1
        obtain ⟨fs15q_8, he15q_8⟩ := SetsAt_recv hdq_8.2.2.2.1
        obtain ⟨fstq_8, hestq_8⟩ : ∃ fs, en_6 3 = .inr (6, fs) := ⟨_, hstq_8.2.1⟩
        have hl : lv_has ls 7 [(6, .int (0)), (5, .int (nI (nT ns k))), (4, .int (nI (nG ns (nA ns k)))), (3, .int (nI (nA ns k))), (2, .int (nI (nG ns k))), (0, .ref (ad_5 11)), (1, .int (nI k))] := by rw [hfq_8.1 11 (by omega) (fun q => q)]; exact hl
        refine lv_aload_n hx hb dX2_gatherRests_169 rfl (lv_at hl 5 rfl) ?_
        refine r_get (ci := 2) (v := .ref (ad_5 15)) (C := RX2) (T := TX2) (N := 5) hx hb hts inlX2 hown hK hs (11) (by omega) he11q_8 rfl 2 (by decide) (hts _ w_fl_RX2_23) rfl dX2_gatherRests_170 ?_
        refine lv_iload_n hx hb dX2_gatherRests_173 rfl (lv_at hl 6 rfl) ?_
        refine lv_aload_n hx hb dX2_gatherRests_174 rfl (lv_at hl 5 rfl) ?_
        refine r_get (ci := 2) (v := .ref (ad_5 12)) (C := RX2) (T := TX2) (N := 5) hx hb hts inlX2 hown hK hs (11) (by omega) he11q_8 rfl 1 (by decide) (hts _ w_fl_RX2_14) rfl dX2_gatherRests_175 ?_
        refine lv_iload_n hx hb dX2_gatherRests_178 rfl (lv_at hl 6 rfl) ?_
        refine lv_iconst (v := 4) hx hb dX2_gatherRests_179 (by decide) ?_
        refine r_callViR (ci := 1) (As := [.int (nI k), .int (4)]) hx hb hml hown hts hK hA hs (12) (by omega) he12q_8 rfl rfl (c_X1_getN l G hdq_8.2.2.1 k 4 (by omega) (by decide) (by omega)) (cwV 2 hts (tbV w_ml_RX2_46 w_im_yX1_get w_se_yX1_get w_ini_RX1 w_cd_yX1_get) rfl rfl rfl (by decide +kernel) ⟨Nat.le_of_ble_eq_true rfl, Nat.le_of_ble_eq_true rfl⟩) rfl hl.1 rfl (Nat.le_of_ble_eq_true rfl) dX2_gatherRests_180 ⟨Nat.zero_le _, Nat.zero_le _⟩ (fun H locs hs => ?_)
        refine r_topi (y := nI (nC ns k)) rfl ?_
        refine lv_iload hx hb dX2_gatherRests_183 (lv_at hl 0 rfl) ?_
        refine lv_if_eq (tgt := 200) hx hb dX2_gatherRests_185 (by decide) (fun _ => ?_) (fun c185 => absurd (by decide) c185)
        refine lv_iconst (v := 0) hx hb dX2_gatherRests_200 (by decide) ?_
        refine r_callVv (ci := 5) (As := [.int (nI k), .int (nI (nC ns k)), .int (0)]) hx hb hml hown hts hK hA hs (15) (by omega) he15q_8 rfl rfl (c_X5_merge l G hdq_8.2.2.2.1 (fr1 := (nC ns k)) (to1 := k) (bt := 0) (by omega) (by omega) (by omega)) (cwV 3 hts (tbV w_ml_RX2_118 w_im_yX5_merge w_se_yX5_merge w_ini_RX5 w_cd_yX5_merge) rfl rfl rfl (by decide +kernel) ⟨Nat.le_of_ble_eq_true rfl, Nat.le_of_ble_eq_true rfl⟩) rfl hl.1 rfl (Nat.le_of_ble_eq_true rfl) dX2_gatherRests_201 ⟨Nat.le_refl _, Nat.le_refl _⟩ (fun ad_9 en_10 H locs hp_11 hs => ?_)
        obtain ⟨hcq_12, hfq_12⟩ := hp_11
        have hdq_12 := NdAt_upd15 hdq_8 hcq_12 hfq_12
        have kaq_12 : ∀ k, k < n → ad_9 k = ad k := fun k a => (hfq_12.1 k a (fun q => q)).trans (kaq_8 k a)
        have keq_12 : ∀ k, k < n → ¬ (15 ≤ k ∧ k ≤ 16) → en_10 k = en k := fun k a b => (hfq_12.2 k a b).trans (keq_8 k a b)
        have hstq_12 : StAt G n ad_9 en_10 ss := StAt_keep h (fun k a b => kaq_12 k (by omega)) (fun k a b => keq_12 k (by omega) (by omega))
        have he11q_12 := hdq_12.2.1
        obtain ⟨fs12q_12, he12q_12⟩ := KeptAt_recv hdq_12.2.2.1
        obtain ⟨fs15q_12, he15q_12⟩ := SetsAt_recv hdq_12.2.2.2.1
        obtain ⟨fstq_12, hestq_12⟩ : ∃ fs, en_10 3 = .inr (6, fs) := ⟨_, hstq_12.2.1⟩
        have hl : lv_has ls 7 [(6, .int (0)), (5, .int (nI (nT ns k))), (4, .int (nI (nG ns (nA ns k)))), (3, .int (nI (nA ns k))), (2, .int (nI (nG ns k))), (0, .ref (ad_9 11)), (1, .int (nI k))] := by rw [hfq_12.1 11 (by omega) (fun q => q)]; exact hl
        refine r_vret (mc := 0) (ms := 0) hx hb hr hlk hs (Nat.le_refl _) (Nat.le_refl _) dX2_gatherRests_204 hQ ?_
        exact ⟨SetsAt_congr hdq_12.2.2.2.1 (fun r hr x => rest_3a hfr ⟨hAk, hBk, hCk⟩ (nz c36) (nz c54) (nz (v := 8) c101)), fun k a b => kaq_12 k a, fun k a b => keq_12 k a b⟩
      · skip
        refine lv_aload_n hx hb dX2_gatherRests_104 rfl (lv_at hl 4 rfl) ?_
        refine r_get (ci := 2) (v := .ref (ad 3)) (C := RX2) (T := TX2) (N := 5) hx hb hts inlX2 hown hK hs (11) (by omega) he11 rfl 0 (by decide) (hts _ w_fl_RX2_35) rfl dX2_gatherRests_105 ?_
        refine lv_iconst (v := 3) hx hb dX2_gatherRests_108 (by decide) ?_
        refine lv_iload hx hb dX2_gatherRests_109 (lv_at hl 1 rfl) ?_
        refine r_callViR (ci := 6) (As := [.int (3), .int (nI (nG ns (nA ns k)))]) hx hb hml hown hts hK hA hs (3) (by omega) hest rfl rfl (c_X6_isOfN l G h 3 (nG ns (nA ns k)) (by decide) (by omega)) (cwV 2 hts (tbV w_ml_RX2_110 w_im_yX6_isOf w_se_yX6_isOf w_ini_RX6 w_cd_yX6_isOf) rfl rfl rfl (by decide +kernel) ⟨Nat.le_of_ble_eq_true rfl, Nat.le_of_ble_eq_true rfl⟩) rfl hl.1 rfl (Nat.le_of_ble_eq_true rfl) dX2_gatherRests_111 ⟨Nat.zero_le _, Nat.zero_le _⟩ (fun H locs hs => ?_)
        refine lv_if_eq (tgt := 121) hx hb dX2_gatherRests_114 (by decide) (fun c114 => ?_) (fun c114 => ?_)
        · skip
          refine lv_iconst (v := 0) hx hb dX2_gatherRests_121 (by decide) ?_
          refine lv_istore (lv' := [(6, .int (0)), (5, .int (nI (nT ns k))), (4, .int (nI (nG ns (nA ns k)))), (3, .int (nI (nA ns k))), (2, .int (nI (nG ns k))), (0, .ref (ad 11)), (1, .int (nI k))]) hx hb dX2_gatherRests_122 hl (by decide) rfl (fun ls hl => ?_)
          refine lv_aload_n hx hb dX2_gatherRests_124 rfl (lv_at hl 5 rfl) ?_
          refine r_get (ci := 2) (v := .ref (ad 15)) (C := RX2) (T := TX2) (N := 5) hx hb hts inlX2 hown hK hs (11) (by omega) he11 rfl 2 (by decide) (hts _ w_fl_RX2_23) rfl dX2_gatherRests_125 ?_
          refine lv_iload_n hx hb dX2_gatherRests_128 rfl (lv_at hl 6 rfl) ?_
          refine lv_iload_n hx hb dX2_gatherRests_129 rfl (lv_at hl 3 rfl) ?_
          refine lv_iconst (v := 0) hx hb dX2_gatherRests_130 (by decide) ?_
          refine r_callVv (ci := 5) (As := [.int (nI k), .int (nI (nA ns k)), .int (0)]) hx hb hml hown hts hK hA hs (15) (by omega) he15 rfl rfl (c_X5_merge l G hrs (fr1 := (nA ns k)) (to1 := k) (bt := 0) (by omega) (by omega) (by omega)) (cwV 3 hts (tbV w_ml_RX2_118 w_im_yX5_merge w_se_yX5_merge w_ini_RX5 w_cd_yX5_merge) rfl rfl rfl (by decide +kernel) ⟨Nat.le_of_ble_eq_true rfl, Nat.le_of_ble_eq_true rfl⟩) rfl hl.1 rfl (Nat.le_of_ble_eq_true rfl) dX2_gatherRests_131 ⟨Nat.le_refl _, Nat.le_refl _⟩ (fun ad_13 en_14 H locs hp_15 hs => ?_)
          obtain ⟨hcq_16, hfq_16⟩ := hp_15
          have hdq_16 := NdAt_upd15 hd hcq_16 hfq_16
          have kaq_16 : ∀ k, k < n → ad_13 k = ad k := fun k a => (hfq_16.1 k a (fun q => q)).trans (ka0 k a)
          have keq_16 : ∀ k, k < n → ¬ (15 ≤ k ∧ k ≤ 16) → en_14 k = en k := fun k a b => (hfq_16.2 k a b).trans (ke0 k a b)
          have hstq_16 : StAt G n ad_13 en_14 ss := StAt_keep h (fun k a b => kaq_16 k (by omega)) (fun k a b => keq_16 k (by omega) (by omega))
          have he11q_16 := hdq_16.2.1
          obtain ⟨fs12q_16, he12q_16⟩ := KeptAt_recv hdq_16.2.2.1
          obtain ⟨fs15q_16, he15q_16⟩ := SetsAt_recv hdq_16.2.2.2.1
          obtain ⟨fstq_16, hestq_16⟩ : ∃ fs, en_14 3 = .inr (6, fs) := ⟨_, hstq_16.2.1⟩
          have hl : lv_has ls 7 [(6, .int (0)), (5, .int (nI (nT ns k))), (4, .int (nI (nG ns (nA ns k)))), (3, .int (nI (nA ns k))), (2, .int (nI (nG ns k))), (0, .ref (ad_13 11)), (1, .int (nI k))] := by rw [hfq_16.1 11 (by omega) (fun q => q)]; exact hl
          refine lv_aload_n hx hb dX2_gatherRests_134 rfl (lv_at hl 5 rfl) ?_
          refine r_get (ci := 2) (v := .ref (ad_13 15)) (C := RX2) (T := TX2) (N := 5) hx hb hts inlX2 hown hK hs (11) (by omega) he11q_16 rfl 2 (by decide) (hts _ w_fl_RX2_23) rfl dX2_gatherRests_135 ?_
          refine lv_iload_n hx hb dX2_gatherRests_138 rfl (lv_at hl 6 rfl) ?_
          refine lv_aload_n hx hb dX2_gatherRests_139 rfl (lv_at hl 5 rfl) ?_
          refine r_get (ci := 2) (v := .ref (ad_13 12)) (C := RX2) (T := TX2) (N := 5) hx hb hts inlX2 hown hK hs (11) (by omega) he11q_16 rfl 1 (by decide) (hts _ w_fl_RX2_14) rfl dX2_gatherRests_140 ?_
          refine lv_iload_n hx hb dX2_gatherRests_143 rfl (lv_at hl 6 rfl) ?_
          refine lv_iconst (v := 3) hx hb dX2_gatherRests_144 (by decide) ?_
          refine r_callViR (ci := 1) (As := [.int (nI k), .int (3)]) hx hb hml hown hts hK hA hs (12) (by omega) he12q_16 rfl rfl (c_X1_getN l G hdq_16.2.2.1 k 3 (by omega) (by decide) (by omega)) (cwV 2 hts (tbV w_ml_RX2_46 w_im_yX1_get w_se_yX1_get w_ini_RX1 w_cd_yX1_get) rfl rfl rfl (by decide +kernel) ⟨Nat.le_of_ble_eq_true rfl, Nat.le_of_ble_eq_true rfl⟩) rfl hl.1 rfl (Nat.le_of_ble_eq_true rfl) dX2_gatherRests_145 ⟨Nat.zero_le _, Nat.zero_le _⟩ (fun H locs hs => ?_)
          refine r_topi (y := nI (nB ns k)) rfl ?_
          refine lv_iload hx hb dX2_gatherRests_148 (lv_at hl 0 rfl) ?_
          refine lv_if_eq (tgt := 165) hx hb dX2_gatherRests_150 (by decide) (fun _ => ?_) (fun c150 => absurd (by decide) c150)
          refine lv_iconst (v := 0) hx hb dX2_gatherRests_165 (by decide) ?_
          refine r_callVv (ci := 5) (As := [.int (nI k), .int (nI (nB ns k)), .int (0)]) hx hb hml hown hts hK hA hs (15) (by omega) he15q_16 rfl rfl (c_X5_merge l G hdq_16.2.2.2.1 (fr1 := (nB ns k)) (to1 := k) (bt := 0) (by omega) (by omega) (by omega)) (cwV 3 hts (tbV w_ml_RX2_118 w_im_yX5_merge w_se_yX5_merge w_ini_RX5 w_cd_yX5_merge) rfl rfl rfl (by decide +kernel) ⟨Nat.le_of_ble_eq_true rfl, Nat.le_of_ble_eq_true rfl⟩) rfl hl.1 rfl (Nat.le_of_ble_eq_true rfl) dX2_gatherRests_166 ⟨Nat.le_refl _, Nat.le_refl _⟩ (fun ad_17 en_18 H locs hp_19 hs => ?_)
          obtain ⟨hcq_20, hfq_20⟩ := hp_19
          have hdq_20 := NdAt_upd15 hdq_16 hcq_20 hfq_20
          have kaq_20 : ∀ k, k < n → ad_17 k = ad k := fun k a => (hfq_20.1 k a (fun q => q)).trans (kaq_16 k a)
          have keq_20 : ∀ k, k < n → ¬ (15 ≤ k ∧ k ≤ 16) → en_18 k = en k := fun k a b => (hfq_20.2 k a b).trans (keq_16 k a b)
          have hstq_20 : StAt G n ad_17 en_18 ss := StAt_keep h (fun k a b => kaq_20 k (by omega)) (fun k a b => keq_20 k (by omega) (by omega))
          have he11q_20 := hdq_20.2.1
          obtain ⟨fs12q_20, he12q_20⟩ := KeptAt_recv hdq_20.2.2.1
          obtain ⟨fs15q_20, he15q_20⟩ := SetsAt_recv hdq_20.2.2.2.1
          obtain ⟨fstq_20, hestq_20⟩ : ∃ fs, en_18 3 = .inr (6, fs) := ⟨_, hstq_20.2.1⟩
          have hl : lv_has ls 7 [(6, .int (0)), (5, .int (nI (nT ns k))), (4, .int (nI (nG ns (nA ns k)))), (3, .int (nI (nA ns k))), (2, .int (nI (nG ns k))), (0, .ref (ad_17 11)), (1, .int (nI k))] := by rw [hfq_20.1 11 (by omega) (fun q => q)]; exact hl
          refine lv_aload_n hx hb dX2_gatherRests_169 rfl (lv_at hl 5 rfl) ?_
          refine r_get (ci := 2) (v := .ref (ad_17 15)) (C := RX2) (T := TX2) (N := 5) hx hb hts inlX2 hown hK hs (11) (by omega) he11q_20 rfl 2 (by decide) (hts _ w_fl_RX2_23) rfl dX2_gatherRests_170 ?_
          refine lv_iload_n hx hb dX2_gatherRests_173 rfl (lv_at hl 6 rfl) ?_
          refine lv_aload_n hx hb dX2_gatherRests_174 rfl (lv_at hl 5 rfl) ?_
          refine r_get (ci := 2) (v := .ref (ad_17 12)) (C := RX2) (T := TX2) (N := 5) hx hb hts inlX2 hown hK hs (11) (by omega) he11q_20 rfl 1 (by decide) (hts _ w_fl_RX2_14) rfl dX2_gatherRests_175 ?_
          refine lv_iload_n hx hb dX2_gatherRests_178 rfl (lv_at hl 6 rfl) ?_
          refine lv_iconst (v := 4) hx hb dX2_gatherRests_179 (by decide) ?_
          refine r_callViR (ci := 1) (As := [.int (nI k), .int (4)]) hx hb hml hown hts hK hA hs (12) (by omega) he12q_20 rfl rfl (c_X1_getN l G hdq_20.2.2.1 k 4 (by omega) (by decide) (by omega)) (cwV 2 hts (tbV w_ml_RX2_46 w_im_yX1_get w_se_yX1_get w_ini_RX1 w_cd_yX1_get) rfl rfl rfl (by decide +kernel) ⟨Nat.le_of_ble_eq_true rfl, Nat.le_of_ble_eq_true rfl⟩) rfl hl.1 rfl (Nat.le_of_ble_eq_true rfl) dX2_gatherRests_180 ⟨Nat.zero_le _, Nat.zero_le _⟩ (fun H locs hs => ?_)
          refine r_topi (y := nI (nC ns k)) rfl ?_
          refine lv_iload hx hb dX2_gatherRests_183 (lv_at hl 0 rfl) ?_
          refine lv_if_eq (tgt := 200) hx hb dX2_gatherRests_185 (by decide) (fun _ => ?_) (fun c185 => absurd (by decide) c185)
          refine lv_iconst (v := 0) hx hb dX2_gatherRests_200 (by decide) ?_
          refine r_callVv (ci := 5) (As := [.int (nI k), .int (nI (nC ns k)), .int (0)]) hx hb hml hown hts hK hA hs (15) (by omega) he15q_20 rfl rfl (c_X5_merge l G hdq_20.2.2.2.1 (fr1 := (nC ns k)) (to1 := k) (bt := 0) (by omega) (by omega) (by omega)) (cwV 3 hts (tbV w_ml_RX2_118 w_im_yX5_merge w_se_yX5_merge w_ini_RX5 w_cd_yX5_merge) rfl rfl rfl (by decide +kernel) ⟨Nat.le_of_ble_eq_true rfl, Nat.le_of_ble_eq_true rfl⟩) rfl hl.1 rfl (Nat.le_of_ble_eq_true rfl) dX2_gatherRests_201 ⟨Nat.le_refl _, Nat.le_refl _⟩ (fun ad_21 en_22 H locs hp_23 hs => ?_)
          obtain ⟨hcq_24, hfq_24⟩ := hp_23
          have hdq_24 := NdAt_upd15 hdq_20 hcq_24 hfq_24
          have kaq_24 : ∀ k, k < n → ad_21 k = ad k := fun k a => (hfq_24.1 k a (fun q => q)).trans (kaq_20 k a)
          have keq_24 : ∀ k, k < n → ¬ (15 ≤ k ∧ k ≤ 16) → en_22 k = en k := fun k a b => (hfq_24.2 k a b).trans (keq_20 k a b)
          have hstq_24 : StAt G n ad_21 en_22 ss := StAt_keep h (fun k a b => kaq_24 k (by omega)) (fun k a b => keq_24 k (by omega) (by omega))
          have he11q_24 := hdq_24.2.1
          obtain ⟨fs12q_24, he12q_24⟩ := KeptAt_recv hdq_24.2.2.1
          obtain ⟨fs15q_24, he15q_24⟩ := SetsAt_recv hdq_24.2.2.2.1
          obtain ⟨fstq_24, hestq_24⟩ : ∃ fs, en_22 3 = .inr (6, fs) := ⟨_, hstq_24.2.1⟩
          have hl : lv_has ls 7 [(6, .int (0)), (5, .int (nI (nT ns k))), (4, .int (nI (nG ns (nA ns k)))), (3, .int (nI (nA ns k))), (2, .int (nI (nG ns k))), (0, .ref (ad_21 11)), (1, .int (nI k))] := by rw [hfq_24.1 11 (by omega) (fun q => q)]; exact hl
          refine r_vret (mc := 0) (ms := 0) hx hb hr hlk hs (Nat.le_refl _) (Nat.le_refl _) dX2_gatherRests_204 hQ ?_
          exact ⟨SetsAt_congr hdq_24.2.2.2.1 (fun r hr x => rest_3n hfr ⟨hAk, hBk, hCk⟩ (nz c36) (nz c54) (nq (v := 8) (by omega) c101) (b2i_0 c114)), fun k a b => kaq_24 k a, fun k a b => keq_24 k a b⟩
        · skip
          refine lv_iconst (v := 1) hx hb dX2_gatherRests_117 (by decide) ?_
          refine lv_goto (tgt := 122) hx hb dX2_gatherRests_118 (by decide) ?_
          refine lv_istore (lv' := [(6, .int (1)), (5, .int (nI (nT ns k))), (4, .int (nI (nG ns (nA ns k)))), (3, .int (nI (nA ns k))), (2, .int (nI (nG ns k))), (0, .ref (ad 11)), (1, .int (nI k))]) hx hb dX2_gatherRests_122 hl (by decide) rfl (fun ls hl => ?_)
          refine lv_aload_n hx hb dX2_gatherRests_124 rfl (lv_at hl 5 rfl) ?_
          refine r_get (ci := 2) (v := .ref (ad 15)) (C := RX2) (T := TX2) (N := 5) hx hb hts inlX2 hown hK hs (11) (by omega) he11 rfl 2 (by decide) (hts _ w_fl_RX2_23) rfl dX2_gatherRests_125 ?_
          refine lv_iload_n hx hb dX2_gatherRests_128 rfl (lv_at hl 6 rfl) ?_
          refine lv_iload_n hx hb dX2_gatherRests_129 rfl (lv_at hl 3 rfl) ?_
          refine lv_iconst (v := 0) hx hb dX2_gatherRests_130 (by decide) ?_
          refine r_callVv (ci := 5) (As := [.int (nI k), .int (nI (nA ns k)), .int (0)]) hx hb hml hown hts hK hA hs (15) (by omega) he15 rfl rfl (c_X5_merge l G hrs (fr1 := (nA ns k)) (to1 := k) (bt := 0) (by omega) (by omega) (by omega)) (cwV 3 hts (tbV w_ml_RX2_118 w_im_yX5_merge w_se_yX5_merge w_ini_RX5 w_cd_yX5_merge) rfl rfl rfl (by decide +kernel) ⟨Nat.le_of_ble_eq_true rfl, Nat.le_of_ble_eq_true rfl⟩) rfl hl.1 rfl (Nat.le_of_ble_eq_true rfl) dX2_gatherRests_131 ⟨Nat.le_refl _, Nat.le_refl _⟩ (fun ad_25 en_26 H locs hp_27 hs => ?_)
          obtain ⟨hcq_28, hfq_28⟩ := hp_27
          have hdq_28 := NdAt_upd15 hd hcq_28 hfq_28
          have kaq_28 : ∀ k, k < n → ad_25 k = ad k := fun k a => (hfq_28.1 k a (fun q => q)).trans (ka0 k a)
          have keq_28 : ∀ k, k < n → ¬ (15 ≤ k ∧ k ≤ 16) → en_26 k = en k := fun k a b => (hfq_28.2 k a b).trans (ke0 k a b)
          have hstq_28 : StAt G n ad_25 en_26 ss := StAt_keep h (fun k a b => kaq_28 k (by omega)) (fun k a b => keq_28 k (by omega) (by omega))
          have he11q_28 := hdq_28.2.1
          obtain ⟨fs12q_28, he12q_28⟩ := KeptAt_recv hdq_28.2.2.1
          obtain ⟨fs15q_28, he15q_28⟩ := SetsAt_recv hdq_28.2.2.2.1
          obtain ⟨fstq_28, hestq_28⟩ : ∃ fs, en_26 3 = .inr (6, fs) := ⟨_, hstq_28.2.1⟩
          have hl : lv_has ls 7 [(6, .int (1)), (5, .int (nI (nT ns k))), (4, .int (nI (nG ns (nA ns k)))), (3, .int (nI (nA ns k))), (2, .int (nI (nG ns k))), (0, .ref (ad_25 11)), (1, .int (nI k))] := by rw [hfq_28.1 11 (by omega) (fun q => q)]; exact hl
          refine lv_aload_n hx hb dX2_gatherRests_134 rfl (lv_at hl 5 rfl) ?_
          refine r_get (ci := 2) (v := .ref (ad_25 15)) (C := RX2) (T := TX2) (N := 5) hx hb hts inlX2 hown hK hs (11) (by omega) he11q_28 rfl 2 (by decide) (hts _ w_fl_RX2_23) rfl dX2_gatherRests_135 ?_
          refine lv_iload_n hx hb dX2_gatherRests_138 rfl (lv_at hl 6 rfl) ?_
          refine lv_aload_n hx hb dX2_gatherRests_139 rfl (lv_at hl 5 rfl) ?_
          refine r_get (ci := 2) (v := .ref (ad_25 12)) (C := RX2) (T := TX2) (N := 5) hx hb hts inlX2 hown hK hs (11) (by omega) he11q_28 rfl 1 (by decide) (hts _ w_fl_RX2_14) rfl dX2_gatherRests_140 ?_
          refine lv_iload_n hx hb dX2_gatherRests_143 rfl (lv_at hl 6 rfl) ?_
          refine lv_iconst (v := 3) hx hb dX2_gatherRests_144 (by decide) ?_
          refine r_callViR (ci := 1) (As := [.int (nI k), .int (3)]) hx hb hml hown hts hK hA hs (12) (by omega) he12q_28 rfl rfl (c_X1_getN l G hdq_28.2.2.1 k 3 (by omega) (by decide) (by omega)) (cwV 2 hts (tbV w_ml_RX2_46 w_im_yX1_get w_se_yX1_get w_ini_RX1 w_cd_yX1_get) rfl rfl rfl (by decide +kernel) ⟨Nat.le_of_ble_eq_true rfl, Nat.le_of_ble_eq_true rfl⟩) rfl hl.1 rfl (Nat.le_of_ble_eq_true rfl) dX2_gatherRests_145 ⟨Nat.zero_le _, Nat.zero_le _⟩ (fun H locs hs => ?_)
          refine r_topi (y := nI (nB ns k)) rfl ?_
          refine lv_iload hx hb dX2_gatherRests_148 (lv_at hl 0 rfl) ?_
          refine lv_if_eq (tgt := 165) hx hb dX2_gatherRests_150 (by decide) (fun c150 => absurd c150 (by decide)) (fun _ => ?_)
          refine lv_aload_n hx hb dX2_gatherRests_153 rfl (lv_at hl 5 rfl) ?_
          refine r_get (ci := 2) (v := .ref (ad_25 3)) (C := RX2) (T := TX2) (N := 5) hx hb hts inlX2 hown hK hs (11) (by omega) he11q_28 rfl 0 (by decide) (hts _ w_fl_RX2_35) rfl dX2_gatherRests_154 ?_
          refine lv_iload hx hb dX2_gatherRests_157 (lv_at hl 2 rfl) ?_
          refine r_callViR (ci := 6) (As := [.int (nI (nG ns (nA ns k)))]) hx hb hml hown hts hK hA hs (3) (by omega) hestq_28 rfl rfl (c_X6_leftOfN l G hstq_28 (nG ns (nA ns k)) (by omega)) (cwV 1 hts (tbV w_ml_RX2_98 w_im_yX6_leftOf w_se_yX6_leftOf w_ini_RX6 w_cd_yX6_leftOf) rfl rfl rfl (by decide +kernel) ⟨Nat.le_of_ble_eq_true rfl, Nat.le_of_ble_eq_true rfl⟩) rfl hl.1 rfl (Nat.le_of_ble_eq_true rfl) dX2_gatherRests_159 ⟨Nat.zero_le _, Nat.zero_le _⟩ (fun H locs hs => ?_)
          refine lv_goto (tgt := 166) hx hb dX2_gatherRests_162 (by decide) ?_
          refine r_callVv (ci := 5) (As := [.int (nI k), .int (nI (nB ns k)), .int (nI (sL ss (nG ns (nA ns k))))]) hx hb hml hown hts hK hA hs (15) (by omega) he15q_28 rfl rfl (c_X5_merge l G hdq_28.2.2.2.1 (fr1 := (nB ns k)) (to1 := k) (bt := (sL ss (nG ns (nA ns k)))) (by omega) (by omega) (by omega)) (cwV 3 hts (tbV w_ml_RX2_118 w_im_yX5_merge w_se_yX5_merge w_ini_RX5 w_cd_yX5_merge) rfl rfl rfl (by decide +kernel) ⟨Nat.le_of_ble_eq_true rfl, Nat.le_of_ble_eq_true rfl⟩) rfl hl.1 rfl (Nat.le_of_ble_eq_true rfl) dX2_gatherRests_166 ⟨Nat.le_refl _, Nat.le_refl _⟩ (fun ad_29 en_30 H locs hp_31 hs => ?_)
          obtain ⟨hcq_32, hfq_32⟩ := hp_31
          have hdq_32 := NdAt_upd15 hdq_28 hcq_32 hfq_32
          have kaq_32 : ∀ k, k < n → ad_29 k = ad k := fun k a => (hfq_32.1 k a (fun q => q)).trans (kaq_28 k a)
          have keq_32 : ∀ k, k < n → ¬ (15 ≤ k ∧ k ≤ 16) → en_30 k = en k := fun k a b => (hfq_32.2 k a b).trans (keq_28 k a b)
          have hstq_32 : StAt G n ad_29 en_30 ss := StAt_keep h (fun k a b => kaq_32 k (by omega)) (fun k a b => keq_32 k (by omega) (by omega))
          have he11q_32 := hdq_32.2.1
          obtain ⟨fs12q_32, he12q_32⟩ := KeptAt_recv hdq_32.2.2.1
          obtain ⟨fs15q_32, he15q_32⟩ := SetsAt_recv hdq_32.2.2.2.1
          obtain ⟨fstq_32, hestq_32⟩ : ∃ fs, en_30 3 = .inr (6, fs) := ⟨_, hstq_32.2.1⟩
          have hl : lv_has ls 7 [(6, .int (1)), (5, .int (nI (nT ns k))), (4, .int (nI (nG ns (nA ns k)))), (3, .int (nI (nA ns k))), (2, .int (nI (nG ns k))), (0, .ref (ad_29 11)), (1, .int (nI k))] := by rw [hfq_32.1 11 (by omega) (fun q => q)]; exact hl
          refine lv_aload_n hx hb dX2_gatherRests_169 rfl (lv_at hl 5 rfl) ?_
          refine r_get (ci := 2) (v := .ref (ad_29 15)) (C := RX2) (T := TX2) (N := 5) hx hb hts inlX2 hown hK hs (11) (by omega) he11q_32 rfl 2 (by decide) (hts _ w_fl_RX2_23) rfl dX2_gatherRests_170 ?_
          refine lv_iload_n hx hb dX2_gatherRests_173 rfl (lv_at hl 6 rfl) ?_
          refine lv_aload_n hx hb dX2_gatherRests_174 rfl (lv_at hl 5 rfl) ?_
          refine r_get (ci := 2) (v := .ref (ad_29 12)) (C := RX2) (T := TX2) (N := 5) hx hb hts inlX2 hown hK hs (11) (by omega) he11q_32 rfl 1 (by decide) (hts _ w_fl_RX2_14) rfl dX2_gatherRests_175 ?_
          refine lv_iload_n hx hb dX2_gatherRests_178 rfl (lv_at hl 6 rfl) ?_
          refine lv_iconst (v := 4) hx hb dX2_gatherRests_179 (by decide) ?_
          refine r_callViR (ci := 1) (As := [.int (nI k), .int (4)]) hx hb hml hown hts hK hA hs (12) (by omega) he12q_32 rfl rfl (c_X1_getN l G hdq_32.2.2.1 k 4 (by omega) (by decide) (by omega)) (cwV 2 hts (tbV w_ml_RX2_46 w_im_yX1_get w_se_yX1_get w_ini_RX1 w_cd_yX1_get) rfl rfl rfl (by decide +kernel) ⟨Nat.le_of_ble_eq_true rfl, Nat.le_of_ble_eq_true rfl⟩) rfl hl.1 rfl (Nat.le_of_ble_eq_true rfl) dX2_gatherRests_180 ⟨Nat.zero_le _, Nat.zero_le _⟩ (fun H locs hs => ?_)
          refine r_topi (y := nI (nC ns k)) rfl ?_
          refine lv_iload hx hb dX2_gatherRests_183 (lv_at hl 0 rfl) ?_
          refine lv_if_eq (tgt := 200) hx hb dX2_gatherRests_185 (by decide) (fun c185 => absurd c185 (by decide)) (fun _ => ?_)
          refine lv_aload_n hx hb dX2_gatherRests_188 rfl (lv_at hl 5 rfl) ?_
          refine r_get (ci := 2) (v := .ref (ad_29 3)) (C := RX2) (T := TX2) (N := 5) hx hb hts inlX2 hown hK hs (11) (by omega) he11q_32 rfl 0 (by decide) (hts _ w_fl_RX2_35) rfl dX2_gatherRests_189 ?_
          refine lv_iload hx hb dX2_gatherRests_192 (lv_at hl 2 rfl) ?_
          refine r_callViR (ci := 6) (As := [.int (nI (nG ns (nA ns k)))]) hx hb hml hown hts hK hA hs (3) (by omega) hestq_32 rfl rfl (c_X6_rightOfN l G hstq_32 (nG ns (nA ns k)) (by omega)) (cwV 1 hts (tbV w_ml_RX2_107 w_im_yX6_rightOf w_se_yX6_rightOf w_ini_RX6 w_cd_yX6_rightOf) rfl rfl rfl (by decide +kernel) ⟨Nat.le_of_ble_eq_true rfl, Nat.le_of_ble_eq_true rfl⟩) rfl hl.1 rfl (Nat.le_of_ble_eq_true rfl) dX2_gatherRests_194 ⟨Nat.zero_le _, Nat.zero_le _⟩ (fun H locs hs => ?_)
          refine lv_goto (tgt := 201) hx hb dX2_gatherRests_197 (by decide) ?_
          refine r_callVv (ci := 5) (As := [.int (nI k), .int (nI (nC ns k)), .int (nI (sR ss (nG ns (nA ns k))))]) hx hb hml hown hts hK hA hs (15) (by omega) he15q_32 rfl rfl (c_X5_merge l G hdq_32.2.2.2.1 (fr1 := (nC ns k)) (to1 := k) (bt := (sR ss (nG ns (nA ns k)))) (by omega) (by omega) (by omega)) (cwV 3 hts (tbV w_ml_RX2_118 w_im_yX5_merge w_se_yX5_merge w_ini_RX5 w_cd_yX5_merge) rfl rfl rfl (by decide +kernel) ⟨Nat.le_of_ble_eq_true rfl, Nat.le_of_ble_eq_true rfl⟩) rfl hl.1 rfl (Nat.le_of_ble_eq_true rfl) dX2_gatherRests_201 ⟨Nat.le_refl _, Nat.le_refl _⟩ (fun ad_33 en_34 H locs hp_35 hs => ?_)
          obtain ⟨hcq_36, hfq_36⟩ := hp_35
          have hdq_36 := NdAt_upd15 hdq_32 hcq_36 hfq_36
          have kaq_36 : ∀ k, k < n → ad_33 k = ad k := fun k a => (hfq_36.1 k a (fun q => q)).trans (kaq_32 k a)
          have keq_36 : ∀ k, k < n → ¬ (15 ≤ k ∧ k ≤ 16) → en_34 k = en k := fun k a b => (hfq_36.2 k a b).trans (keq_32 k a b)
          have hstq_36 : StAt G n ad_33 en_34 ss := StAt_keep h (fun k a b => kaq_36 k (by omega)) (fun k a b => keq_36 k (by omega) (by omega))
          have he11q_36 := hdq_36.2.1
          obtain ⟨fs12q_36, he12q_36⟩ := KeptAt_recv hdq_36.2.2.1
          obtain ⟨fs15q_36, he15q_36⟩ := SetsAt_recv hdq_36.2.2.2.1
          obtain ⟨fstq_36, hestq_36⟩ : ∃ fs, en_34 3 = .inr (6, fs) := ⟨_, hstq_36.2.1⟩
          have hl : lv_has ls 7 [(6, .int (1)), (5, .int (nI (nT ns k))), (4, .int (nI (nG ns (nA ns k)))), (3, .int (nI (nA ns k))), (2, .int (nI (nG ns k))), (0, .ref (ad_33 11)), (1, .int (nI k))] := by rw [hfq_36.1 11 (by omega) (fun q => q)]; exact hl
          refine r_vret (mc := 0) (ms := 0) hx hb hr hlk hs (Nat.le_refl _) (Nat.le_refl _) dX2_gatherRests_204 hQ ?_
          exact ⟨SetsAt_congr hdq_36.2.2.2.1 (fun r hr x => rest_3y hfr ⟨hAk, hBk, hCk⟩ hok (nz c36) (nz c54) (nq (v := 8) (by omega) c101) (b2i_1 c114)), fun k a b => kaq_36 k a, fun k a b => keq_36 k a b⟩
    · skip
      refine lv_aload_n hx hb dX2_gatherRests_57 rfl (lv_at hl 4 rfl) ?_
      refine r_get (ci := 2) (v := .ref (ad 3)) (C := RX2) (T := TX2) (N := 5) hx hb hts inlX2 hown hK hs (11) (by omega) he11 rfl 0 (by decide) (hts _ w_fl_RX2_35) rfl dX2_gatherRests_58 ?_
      refine lv_iconst (v := 4) hx hb dX2_gatherRests_61 (by decide) ?_
      refine lv_iload_n hx hb dX2_gatherRests_62 rfl (lv_at hl 3 rfl) ?_
      refine r_callViR (ci := 6) (As := [.int (4), .int (nI (nG ns k))]) hx hb hml hown hts hK hA hs (3) (by omega) hest rfl rfl (c_X6_isOfN l G h 4 (nG ns k) (by decide) (by omega)) (cwV 2 hts (tbV w_ml_RX2_110 w_im_yX6_isOf w_se_yX6_isOf w_ini_RX6 w_cd_yX6_isOf) rfl rfl rfl (by decide +kernel) ⟨Nat.le_of_ble_eq_true rfl, Nat.le_of_ble_eq_true rfl⟩) rfl hl.1 rfl (Nat.le_of_ble_eq_true rfl) dX2_gatherRests_63 ⟨Nat.zero_le _, Nat.zero_le _⟩ (fun H locs hs => ?_)
      refine lv_istore (lv' := [(6, .int (b2i (sIs ss 4 (nG ns k)))), (5, .int (nI (nT ns k))), (4, .int (nI (nG ns (nA ns k)))), (3, .int (nI (nA ns k))), (2, .int (nI (nG ns k))), (0, .ref (ad 11)), (1, .int (nI k))]) hx hb dX2_gatherRests_66 hl (by decide) rfl (fun ls hl => ?_)
      refine lv_aload_n hx hb dX2_gatherRests_68 rfl (lv_at hl 5 rfl) ?_
      refine r_get (ci := 2) (v := .ref (ad 15)) (C := RX2) (T := TX2) (N := 5) hx hb hts inlX2 hown hK hs (11) (by omega) he11 rfl 2 (by decide) (hts _ w_fl_RX2_23) rfl dX2_gatherRests_69 ?_
      refine lv_iload_n hx hb dX2_gatherRests_72 rfl (lv_at hl 6 rfl) ?_
      refine lv_iload_n hx hb dX2_gatherRests_73 rfl (lv_at hl 3 rfl) ?_
      refine lv_iload hx hb dX2_gatherRests_74 (lv_at hl 0 rfl) ?_
      refine lv_if_eq (tgt := 90) hx hb dX2_gatherRests_76 (by decide) (fun c76 => ?_) (fun c76 => ?_)
      · skip
        refine lv_iconst (v := 0) hx hb dX2_gatherRests_90 (by decide) ?_
        refine r_callVv (ci := 5) (As := [.int (nI k), .int (nI (nA ns k)), .int (0)]) hx hb hml hown hts hK hA hs (15) (by omega) he15 rfl rfl (c_X5_merge l G hrs (fr1 := (nA ns k)) (to1 := k) (bt := 0) (by omega) (by omega) (by omega)) (cwV 3 hts (tbV w_ml_RX2_118 w_im_yX5_merge w_se_yX5_merge w_ini_RX5 w_cd_yX5_merge) rfl rfl rfl (by decide +kernel) ⟨Nat.le_of_ble_eq_true rfl, Nat.le_of_ble_eq_true rfl⟩) rfl hl.1 rfl (Nat.le_of_ble_eq_true rfl) dX2_gatherRests_91 ⟨Nat.le_refl _, Nat.le_refl _⟩ (fun ad_37 en_38 H locs hp_39 hs => ?_)
        obtain ⟨hcq_40, hfq_40⟩ := hp_39
        have hdq_40 := NdAt_upd15 hd hcq_40 hfq_40
        have kaq_40 : ∀ k, k < n → ad_37 k = ad k := fun k a => (hfq_40.1 k a (fun q => q)).trans (ka0 k a)
        have keq_40 : ∀ k, k < n → ¬ (15 ≤ k ∧ k ≤ 16) → en_38 k = en k := fun k a b => (hfq_40.2 k a b).trans (ke0 k a b)
        have hstq_40 : StAt G n ad_37 en_38 ss := StAt_keep h (fun k a b => kaq_40 k (by omega)) (fun k a b => keq_40 k (by omega) (by omega))
        have he11q_40 := hdq_40.2.1
        obtain ⟨fs12q_40, he12q_40⟩ := KeptAt_recv hdq_40.2.2.1
        obtain ⟨fs15q_40, he15q_40⟩ := SetsAt_recv hdq_40.2.2.2.1
        obtain ⟨fstq_40, hestq_40⟩ : ∃ fs, en_38 3 = .inr (6, fs) := ⟨_, hstq_40.2.1⟩
        have hl : lv_has ls 7 [(6, .int (b2i (sIs ss 4 (nG ns k)))), (5, .int (nI (nT ns k))), (4, .int (nI (nG ns (nA ns k)))), (3, .int (nI (nA ns k))), (2, .int (nI (nG ns k))), (0, .ref (ad_37 11)), (1, .int (nI k))] := by rw [hfq_40.1 11 (by omega) (fun q => q)]; exact hl
        refine lv_goto (tgt := 204) hx hb dX2_gatherRests_94 (by decide) ?_
        refine r_vret (mc := 0) (ms := 0) hx hb hr hlk hs (Nat.le_refl _) (Nat.le_refl _) dX2_gatherRests_204 hQ ?_
        exact ⟨SetsAt_congr hdq_40.2.2.2.1 (fun r hr x => rest_1n hfr hok (nz c36) (nq (by omega) c54) (b2i_0 c76)), fun k a b => kaq_40 k a, fun k a b => keq_40 k a b⟩
      · skip
        refine lv_aload_n hx hb dX2_gatherRests_79 rfl (lv_at hl 5 rfl) ?_
        refine r_get (ci := 2) (v := .ref (ad 3)) (C := RX2) (T := TX2) (N := 5) hx hb hts inlX2 hown hK hs (11) (by omega) he11 rfl 0 (by decide) (hts _ w_fl_RX2_35) rfl dX2_gatherRests_80 ?_
        refine lv_iload_n hx hb dX2_gatherRests_83 rfl (lv_at hl 4 rfl) ?_
        refine r_callViR (ci := 6) (As := [.int (nI (nG ns k))]) hx hb hml hown hts hK hA hs (3) (by omega) hest rfl rfl (c_X6_leftOfN l G h (nG ns k) (by omega)) (cwV 1 hts (tbV w_ml_RX2_98 w_im_yX6_leftOf w_se_yX6_leftOf w_ini_RX6 w_cd_yX6_leftOf) rfl rfl rfl (by decide +kernel) ⟨Nat.le_of_ble_eq_true rfl, Nat.le_of_ble_eq_true rfl⟩) rfl hl.1 rfl (Nat.le_of_ble_eq_true rfl) dX2_gatherRests_84 ⟨Nat.zero_le _, Nat.zero_le _⟩ (fun H locs hs => ?_)
        refine lv_goto (tgt := 91) hx hb dX2_gatherRests_87 (by decide) ?_
        refine r_callVv (ci := 5) (As := [.int (nI k), .int (nI (nA ns k)), .int (nI (sL ss (nG ns k)))]) hx hb hml hown hts hK hA hs (15) (by omega) he15 rfl rfl (c_X5_merge l G hrs (fr1 := (nA ns k)) (to1 := k) (bt := (sL ss (nG ns k))) (by omega) (by omega) (by omega)) (cwV 3 hts (tbV w_ml_RX2_118 w_im_yX5_merge w_se_yX5_merge w_ini_RX5 w_cd_yX5_merge) rfl rfl rfl (by decide +kernel) ⟨Nat.le_of_ble_eq_true rfl, Nat.le_of_ble_eq_true rfl⟩) rfl hl.1 rfl (Nat.le_of_ble_eq_true rfl) dX2_gatherRests_91 ⟨Nat.le_refl _, Nat.le_refl _⟩ (fun ad_41 en_42 H locs hp_43 hs => ?_)
        obtain ⟨hcq_44, hfq_44⟩ := hp_43
        have hdq_44 := NdAt_upd15 hd hcq_44 hfq_44
        have kaq_44 : ∀ k, k < n → ad_41 k = ad k := fun k a => (hfq_44.1 k a (fun q => q)).trans (ka0 k a)
        have keq_44 : ∀ k, k < n → ¬ (15 ≤ k ∧ k ≤ 16) → en_42 k = en k := fun k a b => (hfq_44.2 k a b).trans (ke0 k a b)
        have hstq_44 : StAt G n ad_41 en_42 ss := StAt_keep h (fun k a b => kaq_44 k (by omega)) (fun k a b => keq_44 k (by omega) (by omega))
        have he11q_44 := hdq_44.2.1
        obtain ⟨fs12q_44, he12q_44⟩ := KeptAt_recv hdq_44.2.2.1
        obtain ⟨fs15q_44, he15q_44⟩ := SetsAt_recv hdq_44.2.2.2.1
        obtain ⟨fstq_44, hestq_44⟩ : ∃ fs, en_42 3 = .inr (6, fs) := ⟨_, hstq_44.2.1⟩
        have hl : lv_has ls 7 [(6, .int (b2i (sIs ss 4 (nG ns k)))), (5, .int (nI (nT ns k))), (4, .int (nI (nG ns (nA ns k)))), (3, .int (nI (nA ns k))), (2, .int (nI (nG ns k))), (0, .ref (ad_41 11)), (1, .int (nI k))] := by rw [hfq_44.1 11 (by omega) (fun q => q)]; exact hl
        refine lv_goto (tgt := 204) hx hb dX2_gatherRests_94 (by decide) ?_
        refine r_vret (mc := 0) (ms := 0) hx hb hr hlk hs (Nat.le_refl _) (Nat.le_refl _) dX2_gatherRests_204 hQ ?_
        exact ⟨SetsAt_congr hdq_44.2.2.2.1 (fun r hr x => rest_1y hfr hok (nz c36) (nq (by omega) c54) (b2i_1 c76)), fun k a b => kaq_44 k a, fun k a b => keq_44 k a b⟩
  · skip
    refine lv_aload_n hx hb dX2_gatherRests_39 rfl (lv_at hl 4 rfl) ?_
    refine r_get (ci := 2) (v := .ref (ad 15)) (C := RX2) (T := TX2) (N := 5) hx hb hts inlX2 hown hK hs (11) (by omega) he11 rfl 2 (by decide) (hts _ w_fl_RX2_23) rfl dX2_gatherRests_40 ?_
    refine lv_iload_n hx hb dX2_gatherRests_43 rfl (lv_at hl 5 rfl) ?_
    refine lv_iload_n hx hb dX2_gatherRests_44 rfl (lv_at hl 3 rfl) ?_
    refine r_callVv (ci := 5) (As := [.int (nI k), .int (nI (nG ns k))]) hx hb hml hown hts hK hA hs (15) (by omega) he15 rfl rfl (c_X5_add l G hrs (row := k) (by omega) (nI (nG ns k))) (cwV 2 hts (tbV w_ml_RX2_114 w_im_yX5_add w_se_yX5_add w_ini_RX5 w_cd_yX5_add) rfl rfl rfl (by decide +kernel) ⟨Nat.le_of_ble_eq_true rfl, Nat.le_of_ble_eq_true rfl⟩) rfl hl.1 rfl (Nat.le_of_ble_eq_true rfl) dX2_gatherRests_45 ⟨Nat.le_refl _, Nat.le_refl _⟩ (fun ad_45 en_46 H locs hp_47 hs => ?_)
    obtain ⟨hcq_48, hfq_48⟩ := hp_47
    have hdq_48 := NdAt_upd15 hd hcq_48 hfq_48
    have kaq_48 : ∀ k, k < n → ad_45 k = ad k := fun k a => (hfq_48.1 k a (fun q => q)).trans (ka0 k a)
    have keq_48 : ∀ k, k < n → ¬ (15 ≤ k ∧ k ≤ 16) → en_46 k = en k := fun k a b => (hfq_48.2 k a b).trans (ke0 k a b)
    have hstq_48 : StAt G n ad_45 en_46 ss := StAt_keep h (fun k a b => kaq_48 k (by omega)) (fun k a b => keq_48 k (by omega) (by omega))
    have he11q_48 := hdq_48.2.1
    obtain ⟨fs12q_48, he12q_48⟩ := KeptAt_recv hdq_48.2.2.1
    obtain ⟨fs15q_48, he15q_48⟩ := SetsAt_recv hdq_48.2.2.2.1
    obtain ⟨fstq_48, hestq_48⟩ : ∃ fs, en_46 3 = .inr (6, fs) := ⟨_, hstq_48.2.1⟩
    have hl : lv_has ls 7 [(5, .int (nI (nT ns k))), (4, .int (nI (nG ns (nA ns k)))), (3, .int (nI (nA ns k))), (2, .int (nI (nG ns k))), (0, .ref (ad_45 11)), (1, .int (nI k))] := by rw [hfq_48.1 11 (by omega) (fun q => q)]; exact hl
    refine lv_goto (tgt := 204) hx hb dX2_gatherRests_48 (by decide) ?_
    refine r_vret (mc := 0) (ms := 0) hx hb hr hlk hs (Nat.le_refl _) (Nat.le_refl _) dX2_gatherRests_204 hQ ?_
    exact ⟨SetsAt_congr hdq_48.2.2.2.1 (fun r hr x => rest_0 hfr (by omega) (by omega) (nq (by omega) c36)), fun k a b => kaq_48 k a, fun k a b => keq_48 k a b⟩

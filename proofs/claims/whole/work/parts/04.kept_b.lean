theorem nn {x y : Int32} (h : ¬ ¬ x = y) : x = y := Decidable.of_not_not h
theorem le_of_nI {a b : Nat} (h : nI b ≤ nI a) (hh : a < 2 ^ 31 ∧ b < 2 ^ 31) : b ≤ a := (nI_leI hh.2 hh.1).mp h
theorem lt_of_nI {a b : Nat} (h : ¬ nI b ≤ nI a) (hh : a < 2 ^ 31 ∧ b < 2 ^ 31) : a < b := by
  rcases Nat.lt_or_ge a b with q | q
  · exact q
  · exact absurd ((nI_leI hh.2 hh.1).mpr q) h
theorem zero_of_nI {r : Nat} (h : nI r < 1) (hr : r < 2 ^ 31) : r = 0 := by
  have := (nI_ltI hr (show 1 < 2 ^ 31 by decide)).mp h
  omega
theorem pos_of_nI {r : Nat} (h : ¬ nI r < 1) (hr : r < 2 ^ 31) : 1 ≤ r := by
  rcases Nat.lt_or_ge r 1 with q | q
  · exact absurd ((nI_ltI hr (show 1 < 2 ^ 31 by decide)).mpr q) h
  · exact q
theorem kFU_skip {ks : List Row} {r : Nat} {x : Row} (h : 1 ≤ r) (hn : ¬ kAt ks r = x) : kFU ks x r = kFU ks x (r - 1) := by
  obtain ⟨k, rfl⟩ : ∃ k, r = k + 1 := ⟨r - 1, by omega⟩
  rw [kFU, if_neg hn]; rfl
theorem kFU_hit {ks : List Row} {r : Nat} {x : Row} (h : 1 ≤ r) (hn : kAt ks r = x) : kFU ks x r = r := by
  obtain ⟨k, rfl⟩ : ∃ k, r = k + 1 := ⟨r - 1, by omega⟩
  rw [kFU, if_pos hn]
theorem lastB_hit {ks : List Row} {b r : Nat} : ∀ {k : Nat}, r = lastB ks b k → 1 ≤ r → bktR (kAt ks r) = b
  | 0, h, h1 => by rw [h] at h1; exact absurd h1 (by simp [lastB])
  | k + 1, h, h1 => by
    unfold lastB at h
    by_cases hb : bktR (kAt ks (k + 1)) = b
    · rw [if_pos hb] at h; rw [h]; exact hb
    · rw [if_neg hb] at h; exact lastB_hit h h1
theorem row_eq {x : Row} {a b c d e : Nat} (h0 : rowCol x 0 < 2 ^ 31) (h1 : rowCol x 1 < 2 ^ 31) (h2 : rowCol x 2 < 2 ^ 31) (h3 : rowCol x 3 < 2 ^ 31) (h4 : rowCol x 4 < 2 ^ 31) (hab : a < 2 ^ 31 ∧ b < 2 ^ 31 ∧ c < 2 ^ 31 ∧ d < 2 ^ 31 ∧ e < 2 ^ 31)
    (e0 : nI (rowCol x 0) = nI a) (e1 : nI (rowCol x 1) = nI b) (e2 : nI (rowCol x 2) = nI c) (e3 : nI (rowCol x 3) = nI d) (e4 : nI (rowCol x 4) = nI e) : x = (a, b, c, d, e) := by
  obtain ⟨x0, x1, x2, x3, x4⟩ := x
  have q0 := (nI_eq h0 hab.1).mp e0
  have q1 := (nI_eq h1 hab.2.1).mp e1
  have q2 := (nI_eq h2 hab.2.2.1).mp e2
  have q3 := (nI_eq h3 hab.2.2.2.1).mp e3
  have q4 := (nI_eq h4 hab.2.2.2.2).mp e4
  simp only [rowCol] at q0 q1 q2 q3 q4
  rw [q0, q1, q2, q3, q4]
set_option maxHeartbeats 4000000 in
set_option maxRecDepth 100000 in
theorem c_X1_find (l : Launch) (G : rG) {n p : Nat} {ad : Nat → Nat} {en : Nat → va_E} {most : Nat} {ks : List Row} (h : KeptAt G n p ad en most ks) {a b c1 d e1 : Nat} (hab : a < 2 ^ 31 ∧ b < 2 ^ 31 ∧ c1 < 2 ^ 31 ∧ d < 2 ^ 31 ∧ e1 < 2 ^ 31) : CI l G yX1_find uX1_find (1) (25) (0) (0) [.ref (ad p), .int (nI a), .int (nI b), .int (nI c1), .int (nI d), .int (nI e1)] (n) (n) ad en (roV ad en (nI (kFind ks (a, b, c1, d, e1)))) := by
  intro sz
  refine rMet (Qc := qI G (n) (roV ad en (nI (kFind ks (a, b, c1, d, e1))))) (cc := cX1_find) (maxL := 9) (ret := (some .int)) (by decide) rfl (Nat.le_of_ble_eq_true rfl) ?_
  intro pP eE sS mM aA bB tT cC ls A Q hc hK hsz hA hs hl hQ
  obtain ⟨hx, hb, hr, hts, hown, hlk, hnm, hml⟩ := hc
  have hl : lv_has ls 9 [(0, .ref (ad p)), (1, .int (nI a)), (2, .int (nI b)), (3, .int (nI c1)), (4, .int (nI d)), (5, .int (nI e1))] := hl
  have hkk := h
  obtain ⟨hpn, hlen, hmost, hsm, hd, gg, he0, he1, he2, hrep⟩ := hkk
  have hcap := capOf_ge ks.length
  have hcap2 := capOf_le ks.length
  obtain ⟨hbk, hbl⟩ := bktR_eq a b c1 d e1
  refine lv_aload_n hx hb dX1_find_0 rfl (lv_at hl 0 rfl) ?_
  refine r_get (ci := 1) (v := .ref (ad (p + 1))) (C := RX1) (T := TX1) (N := 4) hx hb hts inlX1 hown hK hs (p) (by omega) he0 rfl 1 (by decide) (hts _ w_fl_RX1_11) rfl dX1_find_1 ?_
  refine lv_iload_n hx hb dX1_find_4 rfl (lv_at hl 1 rfl) ?_
  refine lv_iload_n hx hb dX1_find_5 rfl (lv_at hl 2 rfl) ?_
  refine lv_iload_n hx hb dX1_find_6 rfl (lv_at hl 3 rfl) ?_
  refine lv_iload hx hb dX1_find_7 (lv_at hl 4 rfl) ?_
  refine lv_iload hx hb dX1_find_9 (lv_at hl 5 rfl) ?_
  refine r_callSiR (As := [.int (nI a), .int (nI b), .int (nI c1), .int (nI d), .int (nI e1)]) hx hb hml hown hts hK hA hs (c_X1_bucketOf l G (nI a) (nI b) (nI c1) (nI d) (nI e1)) (va_cwS 5 hts (tbS w_ml_RX1_25 w_sta_yX1_bucketOf w_ini_RX1 w_cd_yX1_bucketOf) rfl rfl rfl (by decide +kernel) ⟨Nat.le_of_ble_eq_true rfl, Nat.le_of_ble_eq_true rfl⟩) rfl hl.1 rfl (Nat.le_of_ble_eq_true rfl) dX1_find_11 ⟨Nat.zero_le _, Nat.zero_le _⟩ (fun H locs hs => ?_)
  refine r_ialdN (t := bktR (a, b, c1, d, e1)) hx hb hK hs (p + 1) (by omega) he1 (hbk) (hbl) (by omega) dX1_find_14 ?_
  refine r_topi (y := nI (lastB ks (bktR (a, b, c1, d, e1)) ks.length)) (hrep.2.2 _ hbl) ?_
  refine lv_istore (lv' := [(6, .int (nI (lastB ks (bktR (a, b, c1, d, e1)) ks.length))), (0, .ref (ad p)), (1, .int (nI a)), (2, .int (nI b)), (3, .int (nI c1)), (4, .int (nI d)), (5, .int (nI e1))]) hx hb dX1_find_15 hl (by decide) rfl (fun ls hl => ?_)
  refine lv_iconst (v := 0) hx hb dX1_find_17 (by decide) ?_
  refine lv_istore (lv' := [(7, .int (0)), (6, .int (nI (lastB ks (bktR (a, b, c1, d, e1)) ks.length))), (0, .ref (ad p)), (1, .int (nI a)), (2, .int (nI b)), (3, .int (nI c1)), (4, .int (nI d)), (5, .int (nI e1))]) hx hb dX1_find_18 hl (by decide) rfl (fun ls hl => ?_)
  
  suffices LOOP20 : ∀ (fu20 : Nat) (r : Nat) (q : Nat) (k : Nat) (H : Heap) (locs : List Loc) (ls : Array Slot), (q + k ≤ ks.length) → (r = lastB ks (bktR (a, b, c1, d, e1)) k) → (kFind ks (a, b, c1, d, e1) = kFU ks (a, b, c1, d, e1) k) → k + (ks.length - q) < fu20 → rS G A sS.heap (n) ad en H locs → lv_has ls 9 [(0, .ref (ad p)), (1, .int (nI a)), (2, .int (nI b)), (3, .int (nI c1)), (4, .int (nI d)), (5, .int (nI e1)), (6, .int (nI r)), (7, .int (nI q))] → W pP l eE (rRm (1) (25) (0) (0)) sS mM aA bB tT cC H locs (0) (0) Q (F0 mM 20 ls []) from LOOP20 _ (lastB ks (bktR (a, b, c1, d, e1)) ks.length) (0) (ks.length) _ _ _ (by omega) (rfl) (rfl) (Nat.lt_succ_self _) hs (lv_sub hl [2, 3, 4, 5, 6, 7, 1, 0] rfl)
  intro fu20
  induction fu20 with
  | zero => intro r q k H locs ls iq ir ik hfu; exact absurd hfu (Nat.not_lt_zero _)
  | succ fu20 ih20 => ?_
  intro r q k H locs ls iq ir ik hfu20 hs hl
  refine lv_iload hx hb dX1_find_20 (lv_at hl 7 rfl) ?_
  refine lv_aload_n hx hb dX1_find_22 rfl (lv_at hl 0 rfl) ?_
  refine r_get (ci := 1) (v := .int (nI ks.length)) (C := RX1) (T := TX1) (N := 4) hx hb hts inlX1 hown hK hs (p) (by omega) he0 rfl 3 (by decide) (hts _ w_fl_RX1_18) rfl dX1_find_23 ?_
  refine lv_icmp_ge (tgt := 136) hx hb dX1_find_26 (by decide) (fun c26 => ?_) (fun c26 => ?_)
  · skip
    have hq0 : ks.length ≤ q := le_of_nI c26 (by omega)
    refine lv_iconst (v := 0) hx hb dX1_find_136 (by decide) ?_
    refine r_iret (v := 0) hx hb hr hlk hs (Nat.le_refl _) (Nat.le_refl _) dX1_find_137 hQ ?_
    exact roV.rf (show (0 : Int32) = nI (kFind ks (a, b, c1, d, e1)) from by rw [ik, kFU_lastB, ← ir]; rw [ir, show k = 0 by omega]; rfl)
  · skip
    have hq1 : q < ks.length := lt_of_nI c26 (by omega)
    refine lv_iload hx hb dX1_find_29 (lv_at hl 6 rfl) ?_
    refine lv_iconst (v := 1) hx hb dX1_find_31 (by decide) ?_
    refine lv_icmp_lt (tgt := 136) hx hb dX1_find_32 (by decide) (fun c32 => ?_) (fun c32 => ?_)
    · skip
      have hr0 : r = 0 := zero_of_nI c32 (by have := lastB_le ks (bktR (a, b, c1, d, e1)) k; omega)
      refine lv_iconst (v := 0) hx hb dX1_find_136 (by decide) ?_
      refine r_iret (v := 0) hx hb hr hlk hs (Nat.le_refl _) (Nat.le_refl _) dX1_find_137 hQ ?_
      exact roV.rf (show (0 : Int32) = nI (kFind ks (a, b, c1, d, e1)) from by rw [ik, kFU_lastB, ← ir]; rw [hr0]; rfl)
    · skip
      have hrk : r ≤ k := by rw [ir]; exact lastB_le _ _ _
      have hr1 : 1 ≤ r := pos_of_nI c32 (by omega)
      have hr2 : r ≤ ks.length := by omega
      refine lv_iload hx hb dX1_find_35 (lv_at hl 6 rfl) ?_
      refine lv_aload_n hx hb dX1_find_37 rfl (lv_at hl 0 rfl) ?_
      refine r_get (ci := 1) (v := .int (nI ks.length)) (C := RX1) (T := TX1) (N := 4) hx hb hts inlX1 hown hK hs (p) (by omega) he0 rfl 3 (by decide) (hts _ w_fl_RX1_18) rfl dX1_find_38 ?_
      refine lv_icmp_gt (tgt := 136) hx hb dX1_find_41 (by decide) (fun c41 => absurd c41 (nI_nlt (by omega) (by omega))) (fun _ => ?_)
      refine lv_iload hx hb dX1_find_44 (lv_at hl 6 rfl) ?_
      refine lv_bipush (v := 6) hx hb dX1_find_46 (by decide) ?_
      refine lv_imul hx hb dX1_find_48 ?_
      refine r_topi (y := nI (6 * r)) (by simp only [ l0, l1, l2, l3, l4, l5, l6, l10, l600, pk_mul, nI_add]; first | done | exact congrArg nI (by omega)) ?_
      refine lv_istore (lv' := [(8, .int (nI (6 * r))), (0, .ref (ad p)), (1, .int (nI a)), (2, .int (nI b)), (3, .int (nI c1)), (4, .int (nI d)), (5, .int (nI e1)), (6, .int (nI r)), (7, .int (nI q))]) hx hb dX1_find_49 hl (by decide) rfl (fun ls hl => ?_)
      refine lv_aload_n hx hb dX1_find_51 rfl (lv_at hl 1 rfl) ?_
      refine r_get (ci := 1) (v := .ref (ad (p + 2))) (C := RX1) (T := TX1) (N := 4) hx hb hts inlX1 hown hK hs (p) (by omega) he0 rfl 2 (by decide) (hts _ w_fl_RX1_15) rfl dX1_find_52 ?_
      refine lv_iload hx hb dX1_find_55 (lv_at hl 0 rfl) ?_
      refine r_ialdN (t := 6 * r + 0) hx hb hK hs (p + 2) (by omega) he2 (rfl) (by omega) (by omega) dX1_find_57 ?_
      refine lv_iload_n hx hb dX1_find_58 rfl (lv_at hl 2 rfl) ?_
      refine lv_icmp_ne (tgt := 119) hx hb dX1_find_59 (by decide) (fun c59 => ?_) (fun c59 => ?_)
      · skip
        have hk1 : kFind ks (a, b, c1, d, e1) = kFU ks (a, b, c1, d, e1) (r - 1) := by rw [ik, kFU_lastB, ← ir]; exact kFU_skip hr1 (fun e => c59 (by rw [hrep.1 r hr1 hr2 0 (by decide), e]; rfl))
        refine lv_aload_n hx hb dX1_find_119 rfl (lv_at hl 1 rfl) ?_
        refine r_get (ci := 1) (v := .ref (ad (p + 2))) (C := RX1) (T := TX1) (N := 4) hx hb hts inlX1 hown hK hs (p) (by omega) he0 rfl 2 (by decide) (hts _ w_fl_RX1_15) rfl dX1_find_120 ?_
        refine lv_iload hx hb dX1_find_123 (lv_at hl 0 rfl) ?_
        refine lv_iconst (v := 5) hx hb dX1_find_125 (by decide) ?_
        refine lv_iadd hx hb dX1_find_126 ?_
        refine r_ialdN (t := 6 * r + 5) hx hb hK hs (p + 2) (by omega) he2 (by simp only [ l0, l1, l2, l3, l4, l5, l6, l10, l600, pk_mul, nI_add]; first | done | exact congrArg nI (by omega)) (by omega) (by omega) dX1_find_127 ?_
        refine r_topi (y := nI (lastB ks (bktR (a, b, c1, d, e1)) (r - 1))) (by rw [hrep.2.1 r hr1 hr2]; exact congrArg (fun b => nI (lastB ks b (r - 1))) (lastB_hit ir hr1)) ?_
        refine lv_istore (lv' := [(6, .int (nI (lastB ks (bktR (a, b, c1, d, e1)) (r - 1)))), (8, .int (nI (6 * r))), (0, .ref (ad p)), (1, .int (nI a)), (2, .int (nI b)), (3, .int (nI c1)), (4, .int (nI d)), (5, .int (nI e1)), (7, .int (nI q))]) hx hb dX1_find_128 hl (by decide) rfl (fun ls hl => ?_)
        refine lv_iinc (v := nI (q + 1)) (lv' := [(7, .int (nI (q + 1))), (6, .int (nI (lastB ks (bktR (a, b, c1, d, e1)) (r - 1)))), (8, .int (nI (6 * r))), (0, .ref (ad p)), (1, .int (nI a)), (2, .int (nI b)), (3, .int (nI c1)), (4, .int (nI d)), (5, .int (nI e1))]) hx hb dX1_find_130 hl (k := 8) rfl (nI_add q 1) (by decide) rfl (fun ls hl => ?_)
        refine lv_goto (tgt := 20) hx hb dX1_find_133 (by decide) ?_
        
        exact ih20 (lastB ks (bktR (a, b, c1, d, e1)) (r - 1)) (q + 1) (r - 1) _ _ _ (by omega) (rfl) (hk1) (by omega) hs (lv_sub hl [3, 4, 5, 6, 7, 8, 1, 0] rfl)
      · skip
        refine lv_aload_n hx hb dX1_find_62 rfl (lv_at hl 1 rfl) ?_
        refine r_get (ci := 1) (v := .ref (ad (p + 2))) (C := RX1) (T := TX1) (N := 4) hx hb hts inlX1 hown hK hs (p) (by omega) he0 rfl 2 (by decide) (hts _ w_fl_RX1_15) rfl dX1_find_63 ?_
        refine lv_iload hx hb dX1_find_66 (lv_at hl 0 rfl) ?_
        refine lv_iconst (v := 1) hx hb dX1_find_68 (by decide) ?_
        refine lv_iadd hx hb dX1_find_69 ?_
        refine r_ialdN (t := 6 * r + 1) hx hb hK hs (p + 2) (by omega) he2 (by simp only [ l0, l1, l2, l3, l4, l5, l6, l10, l600, pk_mul, nI_add]; first | done | exact congrArg nI (by omega)) (by omega) (by omega) dX1_find_70 ?_
        refine lv_iload_n hx hb dX1_find_71 rfl (lv_at hl 3 rfl) ?_
        refine lv_icmp_ne (tgt := 119) hx hb dX1_find_72 (by decide) (fun c72 => ?_) (fun c72 => ?_)
        · skip
          have hk1 : kFind ks (a, b, c1, d, e1) = kFU ks (a, b, c1, d, e1) (r - 1) := by rw [ik, kFU_lastB, ← ir]; exact kFU_skip hr1 (fun e => c72 (by rw [hrep.1 r hr1 hr2 1 (by decide), e]; rfl))
          refine lv_aload_n hx hb dX1_find_119 rfl (lv_at hl 1 rfl) ?_
          refine r_get (ci := 1) (v := .ref (ad (p + 2))) (C := RX1) (T := TX1) (N := 4) hx hb hts inlX1 hown hK hs (p) (by omega) he0 rfl 2 (by decide) (hts _ w_fl_RX1_15) rfl dX1_find_120 ?_
          refine lv_iload hx hb dX1_find_123 (lv_at hl 0 rfl) ?_
          refine lv_iconst (v := 5) hx hb dX1_find_125 (by decide) ?_
          refine lv_iadd hx hb dX1_find_126 ?_
          refine r_ialdN (t := 6 * r + 5) hx hb hK hs (p + 2) (by omega) he2 (by simp only [ l0, l1, l2, l3, l4, l5, l6, l10, l600, pk_mul, nI_add]; first | done | exact congrArg nI (by omega)) (by omega) (by omega) dX1_find_127 ?_
          refine r_topi (y := nI (lastB ks (bktR (a, b, c1, d, e1)) (r - 1))) (by rw [hrep.2.1 r hr1 hr2]; exact congrArg (fun b => nI (lastB ks b (r - 1))) (lastB_hit ir hr1)) ?_
          refine lv_istore (lv' := [(6, .int (nI (lastB ks (bktR (a, b, c1, d, e1)) (r - 1)))), (8, .int (nI (6 * r))), (0, .ref (ad p)), (1, .int (nI a)), (2, .int (nI b)), (3, .int (nI c1)), (4, .int (nI d)), (5, .int (nI e1)), (7, .int (nI q))]) hx hb dX1_find_128 hl (by decide) rfl (fun ls hl => ?_)
          refine lv_iinc (v := nI (q + 1)) (lv' := [(7, .int (nI (q + 1))), (6, .int (nI (lastB ks (bktR (a, b, c1, d, e1)) (r - 1)))), (8, .int (nI (6 * r))), (0, .ref (ad p)), (1, .int (nI a)), (2, .int (nI b)), (3, .int (nI c1)), (4, .int (nI d)), (5, .int (nI e1))]) hx hb dX1_find_130 hl (k := 8) rfl (nI_add q 1) (by decide) rfl (fun ls hl => ?_)
          refine lv_goto (tgt := 20) hx hb dX1_find_133 (by decide) ?_
          
          exact ih20 (lastB ks (bktR (a, b, c1, d, e1)) (r - 1)) (q + 1) (r - 1) _ _ _ (by omega) (rfl) (hk1) (by omega) hs (lv_sub hl [3, 4, 5, 6, 7, 8, 1, 0] rfl)
        · skip
          refine lv_aload_n hx hb dX1_find_75 rfl (lv_at hl 1 rfl) ?_
          refine r_get (ci := 1) (v := .ref (ad (p + 2))) (C := RX1) (T := TX1) (N := 4) hx hb hts inlX1 hown hK hs (p) (by omega) he0 rfl 2 (by decide) (hts _ w_fl_RX1_15) rfl dX1_find_76 ?_
          refine lv_iload hx hb dX1_find_79 (lv_at hl 0 rfl) ?_
          refine lv_iconst (v := 2) hx hb dX1_find_81 (by decide) ?_
          refine lv_iadd hx hb dX1_find_82 ?_
          refine r_ialdN (t := 6 * r + 2) hx hb hK hs (p + 2) (by omega) he2 (by simp only [ l0, l1, l2, l3, l4, l5, l6, l10, l600, pk_mul, nI_add]; first | done | exact congrArg nI (by omega)) (by omega) (by omega) dX1_find_83 ?_
          refine lv_iload_n hx hb dX1_find_84 rfl (lv_at hl 4 rfl) ?_
          refine lv_icmp_ne (tgt := 119) hx hb dX1_find_85 (by decide) (fun c85 => ?_) (fun c85 => ?_)
          · skip
            have hk1 : kFind ks (a, b, c1, d, e1) = kFU ks (a, b, c1, d, e1) (r - 1) := by rw [ik, kFU_lastB, ← ir]; exact kFU_skip hr1 (fun e => c85 (by rw [hrep.1 r hr1 hr2 2 (by decide), e]; rfl))
            refine lv_aload_n hx hb dX1_find_119 rfl (lv_at hl 1 rfl) ?_
            refine r_get (ci := 1) (v := .ref (ad (p + 2))) (C := RX1) (T := TX1) (N := 4) hx hb hts inlX1 hown hK hs (p) (by omega) he0 rfl 2 (by decide) (hts _ w_fl_RX1_15) rfl dX1_find_120 ?_
            refine lv_iload hx hb dX1_find_123 (lv_at hl 0 rfl) ?_
            refine lv_iconst (v := 5) hx hb dX1_find_125 (by decide) ?_
            refine lv_iadd hx hb dX1_find_126 ?_
            refine r_ialdN (t := 6 * r + 5) hx hb hK hs (p + 2) (by omega) he2 (by simp only [ l0, l1, l2, l3, l4, l5, l6, l10, l600, pk_mul, nI_add]; first | done | exact congrArg nI (by omega)) (by omega) (by omega) dX1_find_127 ?_
            refine r_topi (y := nI (lastB ks (bktR (a, b, c1, d, e1)) (r - 1))) (by rw [hrep.2.1 r hr1 hr2]; exact congrArg (fun b => nI (lastB ks b (r - 1))) (lastB_hit ir hr1)) ?_
            refine lv_istore (lv' := [(6, .int (nI (lastB ks (bktR (a, b, c1, d, e1)) (r - 1)))), (8, .int (nI (6 * r))), (0, .ref (ad p)), (1, .int (nI a)), (2, .int (nI b)), (3, .int (nI c1)), (4, .int (nI d)), (5, .int (nI e1)), (7, .int (nI q))]) hx hb dX1_find_128 hl (by decide) rfl (fun ls hl => ?_)
            refine lv_iinc (v := nI (q + 1)) (lv' := [(7, .int (nI (q + 1))), (6, .int (nI (lastB ks (bktR (a, b, c1, d, e1)) (r - 1)))), (8, .int (nI (6 * r))), (0, .ref (ad p)), (1, .int (nI a)), (2, .int (nI b)), (3, .int (nI c1)), (4, .int (nI d)), (5, .int (nI e1))]) hx hb dX1_find_130 hl (k := 8) rfl (nI_add q 1) (by decide) rfl (fun ls hl => ?_)
            refine lv_goto (tgt := 20) hx hb dX1_find_133 (by decide) ?_
            
            exact ih20 (lastB ks (bktR (a, b, c1, d, e1)) (r - 1)) (q + 1) (r - 1) _ _ _ (by omega) (rfl) (hk1) (by omega) hs (lv_sub hl [3, 4, 5, 6, 7, 8, 1, 0] rfl)
          · skip
            refine lv_aload_n hx hb dX1_find_88 rfl (lv_at hl 1 rfl) ?_
            refine r_get (ci := 1) (v := .ref (ad (p + 2))) (C := RX1) (T := TX1) (N := 4) hx hb hts inlX1 hown hK hs (p) (by omega) he0 rfl 2 (by decide) (hts _ w_fl_RX1_15) rfl dX1_find_89 ?_
            refine lv_iload hx hb dX1_find_92 (lv_at hl 0 rfl) ?_
            refine lv_iconst (v := 3) hx hb dX1_find_94 (by decide) ?_
            refine lv_iadd hx hb dX1_find_95 ?_
            refine r_ialdN (t := 6 * r + 3) hx hb hK hs (p + 2) (by omega) he2 (by simp only [ l0, l1, l2, l3, l4, l5, l6, l10, l600, pk_mul, nI_add]; first | done | exact congrArg nI (by omega)) (by omega) (by omega) dX1_find_96 ?_
            refine lv_iload hx hb dX1_find_97 (lv_at hl 5 rfl) ?_
            refine lv_icmp_ne (tgt := 119) hx hb dX1_find_99 (by decide) (fun c99 => ?_) (fun c99 => ?_)
            · skip
              have hk1 : kFind ks (a, b, c1, d, e1) = kFU ks (a, b, c1, d, e1) (r - 1) := by rw [ik, kFU_lastB, ← ir]; exact kFU_skip hr1 (fun e => c99 (by rw [hrep.1 r hr1 hr2 3 (by decide), e]; rfl))
              refine lv_aload_n hx hb dX1_find_119 rfl (lv_at hl 1 rfl) ?_
              refine r_get (ci := 1) (v := .ref (ad (p + 2))) (C := RX1) (T := TX1) (N := 4) hx hb hts inlX1 hown hK hs (p) (by omega) he0 rfl 2 (by decide) (hts _ w_fl_RX1_15) rfl dX1_find_120 ?_
              refine lv_iload hx hb dX1_find_123 (lv_at hl 0 rfl) ?_
              refine lv_iconst (v := 5) hx hb dX1_find_125 (by decide) ?_
              refine lv_iadd hx hb dX1_find_126 ?_
              refine r_ialdN (t := 6 * r + 5) hx hb hK hs (p + 2) (by omega) he2 (by simp only [ l0, l1, l2, l3, l4, l5, l6, l10, l600, pk_mul, nI_add]; first | done | exact congrArg nI (by omega)) (by omega) (by omega) dX1_find_127 ?_
              refine r_topi (y := nI (lastB ks (bktR (a, b, c1, d, e1)) (r - 1))) (by rw [hrep.2.1 r hr1 hr2]; exact congrArg (fun b => nI (lastB ks b (r - 1))) (lastB_hit ir hr1)) ?_
              refine lv_istore (lv' := [(6, .int (nI (lastB ks (bktR (a, b, c1, d, e1)) (r - 1)))), (8, .int (nI (6 * r))), (0, .ref (ad p)), (1, .int (nI a)), (2, .int (nI b)), (3, .int (nI c1)), (4, .int (nI d)), (5, .int (nI e1)), (7, .int (nI q))]) hx hb dX1_find_128 hl (by decide) rfl (fun ls hl => ?_)
              refine lv_iinc (v := nI (q + 1)) (lv' := [(7, .int (nI (q + 1))), (6, .int (nI (lastB ks (bktR (a, b, c1, d, e1)) (r - 1)))), (8, .int (nI (6 * r))), (0, .ref (ad p)), (1, .int (nI a)), (2, .int (nI b)), (3, .int (nI c1)), (4, .int (nI d)), (5, .int (nI e1))]) hx hb dX1_find_130 hl (k := 8) rfl (nI_add q 1) (by decide) rfl (fun ls hl => ?_)
              refine lv_goto (tgt := 20) hx hb dX1_find_133 (by decide) ?_
              
              exact ih20 (lastB ks (bktR (a, b, c1, d, e1)) (r - 1)) (q + 1) (r - 1) _ _ _ (by omega) (rfl) (hk1) (by omega) hs (lv_sub hl [3, 4, 5, 6, 7, 8, 1, 0] rfl)
            · skip
              refine lv_aload_n hx hb dX1_find_102 rfl (lv_at hl 1 rfl) ?_
              refine r_get (ci := 1) (v := .ref (ad (p + 2))) (C := RX1) (T := TX1) (N := 4) hx hb hts inlX1 hown hK hs (p) (by omega) he0 rfl 2 (by decide) (hts _ w_fl_RX1_15) rfl dX1_find_103 ?_
              refine lv_iload hx hb dX1_find_106 (lv_at hl 0 rfl) ?_
              refine lv_iconst (v := 4) hx hb dX1_find_108 (by decide) ?_
              refine lv_iadd hx hb dX1_find_109 ?_
              refine r_ialdN (t := 6 * r + 4) hx hb hK hs (p + 2) (by omega) he2 (by simp only [ l0, l1, l2, l3, l4, l5, l6, l10, l600, pk_mul, nI_add]; first | done | exact congrArg nI (by omega)) (by omega) (by omega) dX1_find_110 ?_
              refine lv_iload hx hb dX1_find_111 (lv_at hl 6 rfl) ?_
              refine lv_icmp_ne (tgt := 119) hx hb dX1_find_113 (by decide) (fun c113 => ?_) (fun c113 => ?_)
              · skip
                have hk1 : kFind ks (a, b, c1, d, e1) = kFU ks (a, b, c1, d, e1) (r - 1) := by rw [ik, kFU_lastB, ← ir]; exact kFU_skip hr1 (fun e => c113 (by rw [hrep.1 r hr1 hr2 4 (by decide), e]; rfl))
                refine lv_aload_n hx hb dX1_find_119 rfl (lv_at hl 1 rfl) ?_
                refine r_get (ci := 1) (v := .ref (ad (p + 2))) (C := RX1) (T := TX1) (N := 4) hx hb hts inlX1 hown hK hs (p) (by omega) he0 rfl 2 (by decide) (hts _ w_fl_RX1_15) rfl dX1_find_120 ?_
                refine lv_iload hx hb dX1_find_123 (lv_at hl 0 rfl) ?_
                refine lv_iconst (v := 5) hx hb dX1_find_125 (by decide) ?_
                refine lv_iadd hx hb dX1_find_126 ?_
                refine r_ialdN (t := 6 * r + 5) hx hb hK hs (p + 2) (by omega) he2 (by simp only [ l0, l1, l2, l3, l4, l5, l6, l10, l600, pk_mul, nI_add]; first | done | exact congrArg nI (by omega)) (by omega) (by omega) dX1_find_127 ?_
                refine r_topi (y := nI (lastB ks (bktR (a, b, c1, d, e1)) (r - 1))) (by rw [hrep.2.1 r hr1 hr2]; exact congrArg (fun b => nI (lastB ks b (r - 1))) (lastB_hit ir hr1)) ?_
                refine lv_istore (lv' := [(6, .int (nI (lastB ks (bktR (a, b, c1, d, e1)) (r - 1)))), (8, .int (nI (6 * r))), (0, .ref (ad p)), (1, .int (nI a)), (2, .int (nI b)), (3, .int (nI c1)), (4, .int (nI d)), (5, .int (nI e1)), (7, .int (nI q))]) hx hb dX1_find_128 hl (by decide) rfl (fun ls hl => ?_)
                refine lv_iinc (v := nI (q + 1)) (lv' := [(7, .int (nI (q + 1))), (6, .int (nI (lastB ks (bktR (a, b, c1, d, e1)) (r - 1)))), (8, .int (nI (6 * r))), (0, .ref (ad p)), (1, .int (nI a)), (2, .int (nI b)), (3, .int (nI c1)), (4, .int (nI d)), (5, .int (nI e1))]) hx hb dX1_find_130 hl (k := 8) rfl (nI_add q 1) (by decide) rfl (fun ls hl => ?_)
                refine lv_goto (tgt := 20) hx hb dX1_find_133 (by decide) ?_
                
                exact ih20 (lastB ks (bktR (a, b, c1, d, e1)) (r - 1)) (q + 1) (r - 1) _ _ _ (by omega) (rfl) (hk1) (by omega) hs (lv_sub hl [3, 4, 5, 6, 7, 8, 1, 0] rfl)
              · skip
                refine lv_iload hx hb dX1_find_116 (lv_at hl 7 rfl) ?_
                refine r_iret (v := nI r) hx hb hr hlk hs (Nat.le_refl _) (Nat.le_refl _) dX1_find_118 hQ ?_
                exact roV.rf (congrArg nI (by rw [ik, kFU_lastB, ← ir]; exact (kFU_hit hr1 (row_eq (kAt_small hsm (by decide)) (kAt_small hsm (by decide)) (kAt_small hsm (by decide)) (kAt_small hsm (by decide)) (kAt_small hsm (by decide)) hab ((hrep.1 r hr1 hr2 0 (by decide)).symm.trans c59) ((hrep.1 r hr1 hr2 1 (by decide)).symm.trans c72) ((hrep.1 r hr1 hr2 2 (by decide)).symm.trans c85) ((hrep.1 r hr1 hr2 3 (by decide)).symm.trans c99) ((hrep.1 r hr1 hr2 4 (by decide)).symm.trans c113))).symm))

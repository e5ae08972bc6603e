def mskW (v : Int64) (b w : Nat) : Int64 := if 0 < b ∧ w = b / 64 then v &&& (((1 : Int64) <<< ((nI b).toInt64 &&& 63)) ^^^ (-1)) else v
def mrgF (f : Nat → Int64) (a b bt w : Nat) : Nat → Int64 := fun t => if 10 * b ≤ t ∧ t < 10 * b + w then f t ||| mskW (f (10 * a + (t - 10 * b))) bt (t - 10 * b) else f t
def sMrg (S : Nat → Nat → Bool) (a b bt : Nat) : Nat → Nat → Bool := fun r y => if r = b then (S b y || (S a y && !(decide (0 < bt ∧ y = bt)))) else S r y
theorem mrgF_0 (f : Nat → Int64) (a b bt : Nat) : mrgF f a b bt 0 = f := by
  funext t
  unfold mrgF
  rw [if_neg (by omega)]
theorem mskW_n1 {v : Int64} {b w : Nat} (h : nI b ≤ 0) (hb : b < 2 ^ 31) : mskW v b w = v := by
  unfold mskW
  rw [if_neg]
  rintro ⟨h1, -⟩
  exact absurd h (nI_nle h1 hb)
theorem mskW_n2 {v : Int64} {b w : Nat} (h : ¬ nI w = nI (b / 64)) (hb : b < 2 ^ 31) : mskW v b w = v := by
  unfold mskW
  rw [if_neg]
  rintro ⟨-, rfl⟩
  exact h rfl
theorem mskW_y {v : Int64} {b w : Nat} (h : ¬ nI b ≤ 0) (h2 : nI w = nI (b / 64)) (hb : b < 2 ^ 31 ∧ w < 2 ^ 31) : mskW v b w = v &&& (((1 : Int64) <<< ((nI b).toInt64 &&& 63)) ^^^ (-1)) := by
  unfold mskW
  rw [if_pos]
  refine ⟨?_, (nI_eq hb.2 (by omega)).mp h2⟩
  rcases Nat.eq_zero_or_pos b with q | q
  · exact absurd (by rw [q]; decide) h
  · exact q
theorem mrgF_at {f : Nat → Int64} {a b bt w : Nat} (hw : w < 10) : mrgF f a b bt w (10 * a + w) = f (10 * a + w) := by
  unfold mrgF
  rw [if_neg (by omega)]
theorem mrgF_to {f : Nat → Int64} {a b bt w : Nat} : mrgF f a b bt w (10 * b + w) = f (10 * b + w) := by
  unfold mrgF
  rw [if_neg (by omega)]
theorem mrgF_s {f : Nat → Int64} {a b bt w : Nat} {x : Int64} (hw : w < 10) (hx : x = mskW (mrgF f a b bt w (10 * a + w)) bt w) : vp_updL (mrgF f a b bt w) (10 * b + w) (mrgF f a b bt w (10 * b + w) ||| x) = mrgF f a b bt (w + 1) := by
  rw [hx, mrgF_at hw, mrgF_to]
  funext t
  by_cases e : t = 10 * b + w
  · subst e
    rw [pk_uLs]
    unfold mrgF
    rw [if_pos (by omega), show 10 * b + w - 10 * b = w by omega]
  · rw [pk_uLn e]
    unfold mrgF
    by_cases e2 : 10 * b ≤ t ∧ t < 10 * b + w
    · rw [if_pos e2, if_pos (by omega)]
    · rw [if_neg e2, if_neg (by omega)]
theorem bit_msk {v : Int64} {b w i : Nat} (hb : b ≤ 600) (hi : i < 64) : bitL (mskW v b w) i = (bitL v i && !(decide (0 < b ∧ 64 * w + i = b))) := by
  unfold mskW
  by_cases h : 0 < b ∧ w = b / 64
  · rw [if_pos h, bit_del (by omega) hi]
    congr 2
    apply decide_eq_decide.mpr
    omega
  · rw [if_neg h, show decide (0 < b ∧ 64 * w + i = b) = false from decide_eq_false (by omega)]
    simp
theorem sRep_mrg {R top a b bt : Nat} {S : Nat → Nat → Bool} {f : Nat → Int64} (h : sRep R S f top) (ha : a < R) (hbt : bt ≤ 600) : sRep R (sMrg S a b bt) (mrgF f a b bt (top + 1)) top := by
  obtain ⟨h3, h4, h5⟩ := h
  refine ⟨h3, ?_, ?_⟩
  · intro r hr w hw i hi
    unfold mrgF sMrg
    by_cases e : r = b
    · subst e
      rw [if_pos rfl]
      by_cases e2 : w ≤ top
      · rw [if_pos (by omega), show 10 * r + w - 10 * r = w by omega, bit_or, bit_msk hbt hi, h4 r hr w hw i hi, h4 a ha w hw i hi]
      · rw [if_neg (by omega), h4 r hr w hw i hi]
        have q : S a (64 * w + i) = false := by
          cases hq : S a (64 * w + i)
          · rfl
          · exact absurd (h5 a ha _ hq) (by omega)
        rw [q, Bool.false_and, Bool.or_false]
    · rw [if_neg e, if_neg (by omega)]
      exact h4 r hr w hw i hi
  · intro r hr x hx
    unfold sMrg at hx
    by_cases e : r = b
    · subst e
      rw [if_pos rfl] at hx
      rcases Bool.or_eq_true_iff.mp hx with q | q
      · exact h5 r hr x q
      · exact h5 a ha x (Bool.and_eq_true_iff.mp q).1
    · rw [if_neg e] at hx
      exact h5 r hr x hx
theorem cnt_word {R top row w : Nat} {S : Nat → Nat → Bool} {f : Nat → Int64} (h : sRep R S f top) (hr : row < R) (hw : w < 10) : nI (cnt (S row) (64 * w)) + nI (popL (f (10 * row + w))) = nI (cnt (S row) (64 * (w + 1))) := by
  rw [nI_add, show 64 * (w + 1) = 64 * w + 64 by omega, cnt_add]
  congr 2
  exact cnt_congr 64 (fun i hi => h.2.1 row hr w hw i hi)
theorem cnt_top {R top row : Nat} {S : Nat → Nat → Bool} {f : Nat → Int64} (h : sRep R S f top) (hr : row < R) : cnt (S row) (64 * (top + 1)) = cnt (S row) 640 := by
  have h3 := h.1
  rw [show 640 = 64 * (top + 1) + (640 - 64 * (top + 1)) by omega, cnt_add, cnt_none (k := 640 - 64 * (top + 1))]
  · rfl
  · intro i hi
    cases hq : S row (64 * (top + 1) + i)
    · rfl
    · exact absurd (h.2.2 row hr _ hq) (by omega)
set_option maxHeartbeats 4000000 in
set_option maxRecDepth 100000 in
theorem c_J13_bitCount_95d88 (l : Launch) (G : rG) {n : Nat} {ad : Nat → Nat} {en : Nat → va_E} (w : Int64) : CI l G yJ13_bitCount_95d88 uJ13_bitCount_95d88 (0) (0) (0) (0) [.long (w)] (n) (n) ad en (roV ad en (nI (popL w))) := by
  intro sz
  refine rMet (Qc := qI G (n) (roV ad en (nI (popL w)))) (cc := cJ13_bitCount_95d88) (maxL := 2) (ret := (some .int)) (by decide) rfl (Nat.le_of_ble_eq_true rfl) ?_
  intro pP eE sS mM aA bB tT cC ls A Q hc hK hsz hA hs hl hQ
  obtain ⟨hx, hb, hr, hts, hown, hlk, hnm, hml⟩ := hc
  have hl : lv_has ls 2 [(0, .long (w))] := hl
  refine lv_lload_n hx hb dJ13_bitCount_95d88_0 rfl (lv_at hl 0 rfl) ?_
  refine lv_lload_n hx hb dJ13_bitCount_95d88_1 rfl (lv_at hl 0 rfl) ?_
  refine lv_iconst (v := 1) hx hb dJ13_bitCount_95d88_2 (by decide) ?_
  refine lv_lushr (v := ((w : Int64).toUInt64 >>> ((1 : Int32).toInt64.toUInt64 &&& Int64.toUInt64 63)).toInt64) hx hb dJ13_bitCount_95d88_3 rfl ?_
  refine lv_ldc2 (v := (6148914691236517205)) hx hb hown (hts _ w_kl_RJ13_314) dJ13_bitCount_95d88_4 ?_
  refine lv_land hx hb dJ13_bitCount_95d88_7 ?_
  refine lv_lsub hx hb dJ13_bitCount_95d88_8 ?_
  refine lv_topl (fun x0_1 ex0_1 => ?_)
  refine lv_lstore_n (lv' := [(0, .long (x0_1))]) hx hb dJ13_bitCount_95d88_9 rfl hl (by decide) rfl (fun ls hl => ?_)
  refine lv_lload_n hx hb dJ13_bitCount_95d88_10 rfl (lv_at hl 0 rfl) ?_
  refine lv_ldc2 (v := (3689348814741910323)) hx hb hown (hts _ w_kl_RJ13_316) dJ13_bitCount_95d88_11 ?_
  refine lv_land hx hb dJ13_bitCount_95d88_14 ?_
  refine lv_lload_n hx hb dJ13_bitCount_95d88_15 rfl (lv_at hl 0 rfl) ?_
  refine lv_iconst (v := 2) hx hb dJ13_bitCount_95d88_16 (by decide) ?_
  refine lv_lushr (v := ((x0_1 : Int64).toUInt64 >>> ((2 : Int32).toInt64.toUInt64 &&& Int64.toUInt64 63)).toInt64) hx hb dJ13_bitCount_95d88_17 rfl ?_
  refine lv_ldc2 (v := (3689348814741910323)) hx hb hown (hts _ w_kl_RJ13_316) dJ13_bitCount_95d88_18 ?_
  refine lv_land hx hb dJ13_bitCount_95d88_21 ?_
  refine lv_ladd hx hb dJ13_bitCount_95d88_22 ?_
  refine lv_topl (fun x0_2 ex0_2 => ?_)
  refine lv_lstore_n (lv' := [(0, .long (x0_2))]) hx hb dJ13_bitCount_95d88_23 rfl hl (by decide) rfl (fun ls hl => ?_)
  refine lv_lload_n hx hb dJ13_bitCount_95d88_24 rfl (lv_at hl 0 rfl) ?_
  refine lv_lload_n hx hb dJ13_bitCount_95d88_25 rfl (lv_at hl 0 rfl) ?_
  refine lv_iconst (v := 4) hx hb dJ13_bitCount_95d88_26 (by decide) ?_
  refine lv_lushr (v := ((x0_2 : Int64).toUInt64 >>> ((4 : Int32).toInt64.toUInt64 &&& Int64.toUInt64 63)).toInt64) hx hb dJ13_bitCount_95d88_27 rfl ?_
  refine lv_ladd hx hb dJ13_bitCount_95d88_28 ?_
  refine lv_ldc2 (v := (1085102592571150095)) hx hb hown (hts _ w_kl_RJ13_318) dJ13_bitCount_95d88_29 ?_
  refine lv_land hx hb dJ13_bitCount_95d88_32 ?_
  refine lv_topl (fun x0_3 ex0_3 => ?_)
  refine lv_lstore_n (lv' := [(0, .long (x0_3))]) hx hb dJ13_bitCount_95d88_33 rfl hl (by decide) rfl (fun ls hl => ?_)
  refine lv_lload_n hx hb dJ13_bitCount_95d88_34 rfl (lv_at hl 0 rfl) ?_
  refine lv_lload_n hx hb dJ13_bitCount_95d88_35 rfl (lv_at hl 0 rfl) ?_
  refine lv_bipush (v := 8) hx hb dJ13_bitCount_95d88_36 (by decide) ?_
  refine lv_lushr (v := ((x0_3 : Int64).toUInt64 >>> ((8 : Int32).toInt64.toUInt64 &&& Int64.toUInt64 63)).toInt64) hx hb dJ13_bitCount_95d88_38 rfl ?_
  refine lv_ladd hx hb dJ13_bitCount_95d88_39 ?_
  refine lv_topl (fun x0_4 ex0_4 => ?_)
  refine lv_lstore_n (lv' := [(0, .long (x0_4))]) hx hb dJ13_bitCount_95d88_40 rfl hl (by decide) rfl (fun ls hl => ?_)
  refine lv_lload_n hx hb dJ13_bitCount_95d88_41 rfl (lv_at hl 0 rfl) ?_
  refine lv_lload_n hx hb dJ13_bitCount_95d88_42 rfl (lv_at hl 0 rfl) ?_
  refine lv_bipush (v := 16) hx hb dJ13_bitCount_95d88_43 (by decide) ?_
  refine lv_lushr (v := ((x0_4 : Int64).toUInt64 >>> ((16 : Int32).toInt64.toUInt64 &&& Int64.toUInt64 63)).toInt64) hx hb dJ13_bitCount_95d88_45 rfl ?_
  refine lv_ladd hx hb dJ13_bitCount_95d88_46 ?_
  refine lv_topl (fun x0_5 ex0_5 => ?_)
  refine lv_lstore_n (lv' := [(0, .long (x0_5))]) hx hb dJ13_bitCount_95d88_47 rfl hl (by decide) rfl (fun ls hl => ?_)
  refine lv_lload_n hx hb dJ13_bitCount_95d88_48 rfl (lv_at hl 0 rfl) ?_
  refine lv_lload_n hx hb dJ13_bitCount_95d88_49 rfl (lv_at hl 0 rfl) ?_
  refine lv_bipush (v := 32) hx hb dJ13_bitCount_95d88_50 (by decide) ?_
  refine lv_lushr (v := ((x0_5 : Int64).toUInt64 >>> ((32 : Int32).toInt64.toUInt64 &&& Int64.toUInt64 63)).toInt64) hx hb dJ13_bitCount_95d88_52 rfl ?_
  refine lv_ladd hx hb dJ13_bitCount_95d88_53 ?_
  refine lv_topl (fun x0_6 ex0_6 => ?_)
  refine lv_lstore_n (lv' := [(0, .long (x0_6))]) hx hb dJ13_bitCount_95d88_54 rfl hl (by decide) rfl (fun ls hl => ?_)
  refine lv_lload_n hx hb dJ13_bitCount_95d88_55 rfl (lv_at hl 0 rfl) ?_
  refine lv_l2i (v := (x0_6 : Int64).toInt32) hx hb dJ13_bitCount_95d88_56 rfl ?_
  refine lv_bipush (v := 127) hx hb dJ13_bitCount_95d88_57 (by decide) ?_
  refine lv_iand hx hb dJ13_bitCount_95d88_59 ?_
  refine r_iret (v := ((x0_6 : Int64).toInt32) &&& (127)) (mc := 0) (ms := 0) hx hb hr hlk hs (Nat.le_refl _) (Nat.le_refl _) dJ13_bitCount_95d88_60 hQ ?_
  exact roV.rf (pop_swar ex0_1 ex0_2 ex0_3 ex0_4 ex0_5 ex0_6)

set_option maxHeartbeats 4000000 in
set_option maxRecDepth 100000 in
theorem c_X5_merge (l : Launch) (G : rG) {n p R : Nat} {ad : Nat → Nat} {en : Nat → va_E} {S : Nat → Nat → Bool} (h : SetsAt G n p ad en R S) {fr1 to1 bt : Nat} (hf : fr1 < R) (ht : to1 < R) (hbt : bt ≤ 600) : CV l G yX5_merge uX5_merge (1) (21) (0) (0) [.ref (ad p), .int (nI to1), .int (nI fr1), .int (nI bt)] (n) (n) ad en (fun ad1 en1 => SetsAt G n p ad1 en1 R (sMrg S fr1 to1 bt) ∧ Fr n (fun k => p ≤ k ∧ k ≤ p + 1) (fun _ => False) ad en ad1 en1) := by
  intro sz
  refine rMet (Qc := qV G (n) (fun ad1 en1 => SetsAt G n p ad1 en1 R (sMrg S fr1 to1 bt) ∧ Fr n (fun k => p ≤ k ∧ k ≤ p + 1) (fun _ => False) ad en ad1 en1)) (cc := cX5_merge) (maxL := 7) (ret := none) (by decide) rfl (Nat.le_of_ble_eq_true rfl) ?_
  intro pP eE sS mM aA bB tT cC ls A Q hc hK hsz hA hs hl hQ
  obtain ⟨hx, hb, hr, hts, hown, hlk, hnm, hml⟩ := hc
  have hl : lv_has ls 7 [(0, .ref (ad p)), (1, .int (nI to1)), (2, .int (nI fr1)), (3, .int (nI bt))] := hl
  have hss := h
  obtain ⟨hpn, hR, f, top, he0, he1, hrep⟩ := hss
  have htop := hrep.1
  refine lv_aload_n hx hb dX5_merge_0 rfl (lv_at hl 0 rfl) ?_
  refine lv_iload_n hx hb dX5_merge_1 rfl (lv_at hl 2 rfl) ?_
  refine r_callViR (ci := 5) (As := [.int (nI fr1)]) hx hb hml hown hts hK hA hs (p) (by omega) he0 rfl rfl (c_X5_isRow l G h hf) (cwV 1 hts (tbV w_ml_RX5_37 w_im_yX5_isRow w_se_yX5_isRow w_ini_RX5 w_cd_yX5_isRow) rfl rfl rfl (by decide +kernel) ⟨Nat.le_of_ble_eq_true rfl, Nat.le_of_ble_eq_true rfl⟩) rfl hl.1 rfl (Nat.le_of_ble_eq_true rfl) dX5_merge_2 ⟨Nat.zero_le _, Nat.zero_le _⟩ (fun H locs hs => ?_)
  refine lv_if_eq (tgt := 16) hx hb dX5_merge_5 (by decide) (fun c5 => absurd c5 (by decide)) (fun _ => ?_)
  refine lv_aload_n hx hb dX5_merge_8 rfl (lv_at hl 0 rfl) ?_
  refine lv_iload_n hx hb dX5_merge_9 rfl (lv_at hl 1 rfl) ?_
  refine r_callViR (ci := 5) (As := [.int (nI to1)]) hx hb hml hown hts hK hA hs (p) (by omega) he0 rfl rfl (c_X5_isRow l G h ht) (cwV 1 hts (tbV w_ml_RX5_37 w_im_yX5_isRow w_se_yX5_isRow w_ini_RX5 w_cd_yX5_isRow) rfl rfl rfl (by decide +kernel) ⟨Nat.le_of_ble_eq_true rfl, Nat.le_of_ble_eq_true rfl⟩) rfl hl.1 rfl (Nat.le_of_ble_eq_true rfl) dX5_merge_10 ⟨Nat.zero_le _, Nat.zero_le _⟩ (fun H locs hs => ?_)
  refine lv_if_ne (tgt := 17) hx hb dX5_merge_13 (by decide) (fun _ => ?_) (fun c13 => absurd c13 (by decide))
  refine lv_iconst (v := 0) hx hb dX5_merge_17 (by decide) ?_
  refine lv_istore (lv' := [(4, .int (0)), (0, .ref (ad p)), (1, .int (nI to1)), (2, .int (nI fr1)), (3, .int (nI bt))]) hx hb dX5_merge_18 hl (by decide) rfl (fun ls hl => ?_)
  suffices LOOP20 : ∀ (fu20 : Nat) (w : Nat) (en2 : Nat → va_E) (H : Heap) (locs : List Loc) (ls : Array Slot), (w ≤ top + 1) → (en2 = va_up en (p + 1) (aJ G (10 * R) (mrgF f fr1 to1 bt w))) → top + 1 - w < fu20 → rS G A sS.heap (n) ad en2 H locs → lv_has ls 7 [(0, .ref (ad p)), (1, .int (nI to1)), (2, .int (nI fr1)), (3, .int (nI bt)), (4, .int (nI w))] → W pP l eE (rRm (1) (21) (0) (0)) sS mM aA bB tT cC H locs (0) (0) Q (F0 mM 20 ls []) from LOOP20 _ (0) (en) _ _ _ (Nat.zero_le _) (by rw [mrgF_0, va_up_id _ _ he1]) (Nat.lt_succ_self _) hs (lv_sub hl [1, 2, 3, 4, 0] rfl)
  intro fu20
  induction fu20 with
  | zero => intro w en2 H locs ls iw ie hfu; exact absurd hfu (Nat.not_lt_zero _)
  | succ fu20 ih20 => ?_
  intro w en2 H locs ls iw ie hfu20 hs hl
  have hf0 : en2 p = .inr (5, [.ref (ad (p + 1)), .int (nI top)]) := by rw [ie]; exact (va_up_ne _ _ (by omega)).trans he0
  have hf1 : en2 (p + 1) = aJ G (10 * R) (mrgF f fr1 to1 bt w) := by rw [ie]; exact va_up_self _ _ _
  refine lv_iload hx hb dX5_merge_20 (lv_at hl 4 rfl) ?_
  refine lv_aload_n hx hb dX5_merge_22 rfl (lv_at hl 0 rfl) ?_
  refine r_get (ci := 5) (v := .int (nI top)) (C := RX5) (T := TX5) (N := 2) hx hb hts inlX5 hown hK hs (p) (by omega) hf0 rfl 1 (by decide) (hts _ w_fl_RX5_9) rfl dX5_merge_23 ?_
  refine lv_icmp_gt (tgt := 91) hx hb dX5_merge_26 (by decide) (fun c26 => ?_) (fun c26 => ?_)
  · skip
    have hwt : w = top + 1 := by have := (nI_ltI (by omega) (by omega)).mp c26; omega
    refine r_vret (mc := 0) (ms := 0) hx hb hr hlk hs (Nat.le_refl _) (Nat.le_refl _) dX5_merge_91 hQ ?_
    exact ⟨⟨hpn, hR, _, top, hf0, hf1, by rw [hwt]; exact sRep_mrg hrep hf hbt⟩, fun _ _ _ => rfl, fun k hk hn => by rw [ie, va_up_ne _ _ (by omega)]⟩
  · skip
    have hwt : w ≤ top := Nat.le_of_not_lt (fun q => c26 ((nI_ltI (by omega) (by omega)).mpr q))
    refine lv_aload_n hx hb dX5_merge_29 rfl (lv_at hl 0 rfl) ?_
    refine r_get (ci := 5) (v := .ref (ad (p + 1))) (C := RX5) (T := TX5) (N := 2) hx hb hts inlX5 hown hK hs (p) (by omega) hf0 rfl 0 (by decide) (hts _ w_fl_RX5_15) rfl dX5_merge_30 ?_
    refine lv_iload_n hx hb dX5_merge_33 rfl (lv_at hl 2 rfl) ?_
    refine lv_bipush (v := 10) hx hb dX5_merge_34 (by decide) ?_
    refine lv_imul hx hb dX5_merge_36 ?_
    refine lv_iload hx hb dX5_merge_37 (lv_at hl 4 rfl) ?_
    refine lv_iadd hx hb dX5_merge_39 ?_
    refine r_lald_N (t := 10 * fr1 + w) hx hb hK hs (p + 1) (by omega) hf1 (by simp only [ l0, l1, l2, l3, l4, l5, l6, l10, l600, pk_mul, nI_add]; first | done | exact congrArg nI (by omega)) (by omega) (by omega) dX5_merge_40 ?_
    refine lv_topl (fun x5a ex5a => ?_)
    refine lv_lstore (lv' := [(5, .long (x5a)), (0, .ref (ad p)), (1, .int (nI to1)), (2, .int (nI fr1)), (3, .int (nI bt)), (4, .int (nI w))]) hx hb dX5_merge_41 hl (by decide) rfl (fun ls hl => ?_)
    refine lv_iload_n hx hb dX5_merge_43 rfl (lv_at hl 4 rfl) ?_
    refine lv_if_le (tgt := 68) hx hb dX5_merge_44 (by decide) (fun c44 => ?_) (fun c44 => ?_)
    · skip
      refine lv_aload_n hx hb dX5_merge_68 rfl (lv_at hl 1 rfl) ?_
      refine r_get (ci := 5) (v := .ref (ad (p + 1))) (C := RX5) (T := TX5) (N := 2) hx hb hts inlX5 hown hK hs (p) (by omega) hf0 rfl 0 (by decide) (hts _ w_fl_RX5_15) rfl dX5_merge_69 ?_
      refine lv_iload_n hx hb dX5_merge_72 rfl (lv_at hl 2 rfl) ?_
      refine lv_bipush (v := 10) hx hb dX5_merge_73 (by decide) ?_
      refine lv_imul hx hb dX5_merge_75 ?_
      refine lv_iload hx hb dX5_merge_76 (lv_at hl 5 rfl) ?_
      refine lv_iadd hx hb dX5_merge_78 ?_
      refine r_topi (y := nI (10 * to1 + w)) (by simp only [ l0, l1, l2, l3, l4, l5, l6, l10, l600, pk_mul, nI_add]; first | done | exact congrArg nI (by omega)) ?_
      refine lv_dup2_11 hx hb dX5_merge_79 rfl rfl ?_
      refine r_lald_N (t := 10 * to1 + w) hx hb hK hs (p + 1) (by omega) hf1 (rfl) (by omega) (by omega) dX5_merge_80 ?_
      refine lv_lload hx hb dX5_merge_81 (lv_at hl 0 rfl) ?_
      refine lv_lor hx hb dX5_merge_83 ?_
      refine r_lastN (t := 10 * to1 + w) hx hb hK hs (p + 1) (by omega) hf1 (rfl) (by omega) (by omega) dX5_merge_84 (fun H locs en_2 hen_2 hs => ?_)
      have he_3 : en_2 (p + 1) = aJ G (10 * R) (vp_updL (mrgF f fr1 to1 bt w) (10 * to1 + w) ((mrgF f fr1 to1 bt w (10 * to1 + w)) ||| (x5a))) := by rw [hen_2]; exact va_up_self _ _ _
      have he_4 : en_2 (p) = .inr (5, [.ref (ad (p + 1)), .int (nI top)]) := by rw [hen_2]; exact (va_up_ne _ _ (by omega)).trans hf0
      refine lv_iinc (v := nI (w + 1)) (lv' := [(4, .int (nI (w + 1))), (5, .long (x5a)), (0, .ref (ad p)), (1, .int (nI to1)), (2, .int (nI fr1)), (3, .int (nI bt))]) hx hb dX5_merge_85 hl (k := 5) rfl (nI_add w 1) (by decide) rfl (fun ls hl => ?_)
      refine lv_goto (tgt := 20) hx hb dX5_merge_88 (by decide) ?_
      exact ih20 (w + 1) (en_2) _ _ _ (by omega) (by rw [hen_2, ie, va_up_up, mrgF_s (by omega) (by rw [ex5a]; exact (mskW_n1 c44 (by omega)).symm)]) (by omega) hs (lv_sub hl [2, 3, 4, 5, 0] rfl)
    · skip
      refine lv_iload hx hb dX5_merge_47 (lv_at hl 5 rfl) ?_
      refine lv_iload_n hx hb dX5_merge_49 rfl (lv_at hl 4 rfl) ?_
      refine lv_bipush (v := 6) hx hb dX5_merge_50 (by decide) ?_
      refine lv_ishr hx hb dX5_merge_52 ?_
      refine r_topi (y := nI (bt / 64)) (pk_shrN (by omega) _ 6 (by decide)) ?_
      refine lv_icmp_ne (tgt := 68) hx hb dX5_merge_53 (by decide) (fun c53 => ?_) (fun c53 => ?_)
      · skip
        refine lv_aload_n hx hb dX5_merge_68 rfl (lv_at hl 1 rfl) ?_
        refine r_get (ci := 5) (v := .ref (ad (p + 1))) (C := RX5) (T := TX5) (N := 2) hx hb hts inlX5 hown hK hs (p) (by omega) hf0 rfl 0 (by decide) (hts _ w_fl_RX5_15) rfl dX5_merge_69 ?_
        refine lv_iload_n hx hb dX5_merge_72 rfl (lv_at hl 2 rfl) ?_
        refine lv_bipush (v := 10) hx hb dX5_merge_73 (by decide) ?_
        refine lv_imul hx hb dX5_merge_75 ?_
        refine lv_iload hx hb dX5_merge_76 (lv_at hl 5 rfl) ?_
        refine lv_iadd hx hb dX5_merge_78 ?_
        refine r_topi (y := nI (10 * to1 + w)) (by simp only [ l0, l1, l2, l3, l4, l5, l6, l10, l600, pk_mul, nI_add]; first | done | exact congrArg nI (by omega)) ?_
        refine lv_dup2_11 hx hb dX5_merge_79 rfl rfl ?_
        refine r_lald_N (t := 10 * to1 + w) hx hb hK hs (p + 1) (by omega) hf1 (rfl) (by omega) (by omega) dX5_merge_80 ?_
        refine lv_lload hx hb dX5_merge_81 (lv_at hl 0 rfl) ?_
        refine lv_lor hx hb dX5_merge_83 ?_
        refine r_lastN (t := 10 * to1 + w) hx hb hK hs (p + 1) (by omega) hf1 (rfl) (by omega) (by omega) dX5_merge_84 (fun H locs en_6 hen_6 hs => ?_)
        have he_7 : en_6 (p + 1) = aJ G (10 * R) (vp_updL (mrgF f fr1 to1 bt w) (10 * to1 + w) ((mrgF f fr1 to1 bt w (10 * to1 + w)) ||| (x5a))) := by rw [hen_6]; exact va_up_self _ _ _
        have he_8 : en_6 (p) = .inr (5, [.ref (ad (p + 1)), .int (nI top)]) := by rw [hen_6]; exact (va_up_ne _ _ (by omega)).trans hf0
        refine lv_iinc (v := nI (w + 1)) (lv' := [(4, .int (nI (w + 1))), (5, .long (x5a)), (0, .ref (ad p)), (1, .int (nI to1)), (2, .int (nI fr1)), (3, .int (nI bt))]) hx hb dX5_merge_85 hl (k := 5) rfl (nI_add w 1) (by decide) rfl (fun ls hl => ?_)
        refine lv_goto (tgt := 20) hx hb dX5_merge_88 (by decide) ?_
        exact ih20 (w + 1) (en_6) _ _ _ (by omega) (by rw [hen_6, ie, va_up_up, mrgF_s (by omega) (by rw [ex5a]; exact (mskW_n2 c53 (by omega)).symm)]) (by omega) hs (lv_sub hl [2, 3, 4, 5, 0] rfl)
      · skip
        refine lv_lload hx hb dX5_merge_56 (lv_at hl 0 rfl) ?_
        refine lv_lconst (v := 1) hx hb dX5_merge_58 (by decide) ?_
        refine lv_iload_n hx hb dX5_merge_59 rfl (lv_at hl 4 rfl) ?_
        refine lv_lshl (v := (1 : Int64) <<< ((nI bt : Int32).toInt64 &&& 63)) hx hb dX5_merge_60 rfl ?_
        refine lv_ldc2 (v := (-1)) hx hb hown (hts _ w_kl_RX5_35) dX5_merge_61 ?_
        refine lv_lxor hx hb dX5_merge_64 ?_
        refine lv_land hx hb dX5_merge_65 ?_
        refine lv_topl (fun x5b ex5b => ?_)
        refine lv_lstore (lv' := [(5, .long (x5b)), (0, .ref (ad p)), (1, .int (nI to1)), (2, .int (nI fr1)), (3, .int (nI bt)), (4, .int (nI w))]) hx hb dX5_merge_66 hl (by decide) rfl (fun ls hl => ?_)
        refine lv_aload_n hx hb dX5_merge_68 rfl (lv_at hl 1 rfl) ?_
        refine r_get (ci := 5) (v := .ref (ad (p + 1))) (C := RX5) (T := TX5) (N := 2) hx hb hts inlX5 hown hK hs (p) (by omega) hf0 rfl 0 (by decide) (hts _ w_fl_RX5_15) rfl dX5_merge_69 ?_
        refine lv_iload_n hx hb dX5_merge_72 rfl (lv_at hl 2 rfl) ?_
        refine lv_bipush (v := 10) hx hb dX5_merge_73 (by decide) ?_
        refine lv_imul hx hb dX5_merge_75 ?_
        refine lv_iload hx hb dX5_merge_76 (lv_at hl 5 rfl) ?_
        refine lv_iadd hx hb dX5_merge_78 ?_
        refine r_topi (y := nI (10 * to1 + w)) (by simp only [ l0, l1, l2, l3, l4, l5, l6, l10, l600, pk_mul, nI_add]; first | done | exact congrArg nI (by omega)) ?_
        refine lv_dup2_11 hx hb dX5_merge_79 rfl rfl ?_
        refine r_lald_N (t := 10 * to1 + w) hx hb hK hs (p + 1) (by omega) hf1 (rfl) (by omega) (by omega) dX5_merge_80 ?_
        refine lv_lload hx hb dX5_merge_81 (lv_at hl 0 rfl) ?_
        refine lv_lor hx hb dX5_merge_83 ?_
        refine r_lastN (t := 10 * to1 + w) hx hb hK hs (p + 1) (by omega) hf1 (rfl) (by omega) (by omega) dX5_merge_84 (fun H locs en_10 hen_10 hs => ?_)
        have he_11 : en_10 (p + 1) = aJ G (10 * R) (vp_updL (mrgF f fr1 to1 bt w) (10 * to1 + w) ((mrgF f fr1 to1 bt w (10 * to1 + w)) ||| (x5b))) := by rw [hen_10]; exact va_up_self _ _ _
        have he_12 : en_10 (p) = .inr (5, [.ref (ad (p + 1)), .int (nI top)]) := by rw [hen_10]; exact (va_up_ne _ _ (by omega)).trans hf0
        refine lv_iinc (v := nI (w + 1)) (lv' := [(4, .int (nI (w + 1))), (5, .long (x5b)), (0, .ref (ad p)), (1, .int (nI to1)), (2, .int (nI fr1)), (3, .int (nI bt))]) hx hb dX5_merge_85 hl (k := 5) rfl (nI_add w 1) (by decide) rfl (fun ls hl => ?_)
        refine lv_goto (tgt := 20) hx hb dX5_merge_88 (by decide) ?_
        exact ih20 (w + 1) (en_10) _ _ _ (by omega) (by rw [hen_10, ie, va_up_up, mrgF_s (by omega) (by rw [ex5b, ex5a]; exact (mskW_y c44 c53 (by omega)).symm)]) (by omega) hs (lv_sub hl [2, 3, 4, 5, 0] rfl)

set_option maxHeartbeats 4000000 in
set_option maxRecDepth 100000 in
theorem c_X5_count (l : Launch) (G : rG) {n p R : Nat} {ad : Nat → Nat} {en : Nat → va_E} {S : Nat → Nat → Bool} (h : SetsAt G n p ad en R S) {row : Nat} (hrow : row < R) : CI l G yX5_count uX5_count (1) (21) (0) (0) [.ref (ad p), .int (nI row)] (n) (n) ad en (roV ad en (nI (cnt (S row) 640))) := by
  intro sz
  refine rMet (Qc := qI G (n) (roV ad en (nI (cnt (S row) 640)))) (cc := cX5_count) (maxL := 4) (ret := (some .int)) (by decide) rfl (Nat.le_of_ble_eq_true rfl) ?_
  intro pP eE sS mM aA bB tT cC ls A Q hc hK hsz hA hs hl hQ
  obtain ⟨hx, hb, hr, hts, hown, hlk, hnm, hml⟩ := hc
  have hl : lv_has ls 4 [(0, .ref (ad p)), (1, .int (nI row))] := hl
  have hss := h
  obtain ⟨hpn, hR, f, top, he0, he1, hrep⟩ := hss
  have htop := hrep.1
  refine lv_iconst (v := 0) hx hb dX5_count_0 (by decide) ?_
  refine lv_istore_n (lv' := [(2, .int (0)), (0, .ref (ad p)), (1, .int (nI row))]) hx hb dX5_count_1 rfl hl (by decide) rfl (fun ls hl => ?_)
  refine lv_iconst (v := 0) hx hb dX5_count_2 (by decide) ?_
  refine lv_istore_n (lv' := [(3, .int (0)), (2, .int (0)), (0, .ref (ad p)), (1, .int (nI row))]) hx hb dX5_count_3 rfl hl (by decide) rfl (fun ls hl => ?_)
  suffices LOOP4 : ∀ (fu4 : Nat) (w : Nat) (H : Heap) (locs : List Loc) (ls : Array Slot), (w ≤ top + 1) → top + 1 - w < fu4 → rS G A sS.heap (n) ad en H locs → lv_has ls 4 [(0, .ref (ad p)), (1, .int (nI row)), (2, .int (nI (cnt (S row) (64 * w)))), (3, .int (nI w))] → W pP l eE (rRm (1) (21) (0) (0)) sS mM aA bB tT cC H locs (0) (0) Q (F0 mM 4 ls []) from LOOP4 _ (0) _ _ _ (Nat.zero_le _) (Nat.lt_succ_self _) hs (lv_sub hl [2, 3, 1, 0] rfl)
  intro fu4
  induction fu4 with
  | zero => intro w H locs ls iw hfu; exact absurd hfu (Nat.not_lt_zero _)
  | succ fu4 ih4 => ?_
  intro w H locs ls iw hfu4 hs hl
  refine lv_iload_n hx hb dX5_count_4 rfl (lv_at hl 3 rfl) ?_
  refine lv_aload_n hx hb dX5_count_5 rfl (lv_at hl 0 rfl) ?_
  refine r_get (ci := 5) (v := .int (nI top)) (C := RX5) (T := TX5) (N := 2) hx hb hts inlX5 hown hK hs (p) (by omega) he0 rfl 1 (by decide) (hts _ w_fl_RX5_9) rfl dX5_count_6 ?_
  refine lv_icmp_gt (tgt := 43) hx hb dX5_count_9 (by decide) (fun c9 => ?_) (fun c9 => ?_)
  · skip
    have hwt : w = top + 1 := by have := (nI_ltI (by omega) (by omega)).mp c9; omega
    refine lv_iload_n hx hb dX5_count_43 rfl (lv_at hl 2 rfl) ?_
    refine r_iret (v := nI (cnt (S row) (64 * w))) (mc := 0) (ms := 0) hx hb hr hlk hs (Nat.le_refl _) (Nat.le_refl _) dX5_count_44 hQ ?_
    exact roV.rf (congrArg nI (by rw [hwt]; exact cnt_top hrep hrow))
  · skip
    have hwt : w ≤ top := Nat.le_of_not_lt (fun q => c9 ((nI_ltI (by omega) (by omega)).mpr q))
    refine lv_aload_n hx hb dX5_count_12 rfl (lv_at hl 0 rfl) ?_
    refine lv_iload_n hx hb dX5_count_13 rfl (lv_at hl 1 rfl) ?_
    refine r_callViR (ci := 5) (As := [.int (nI row)]) hx hb hml hown hts hK hA hs (p) (by omega) he0 rfl rfl (c_X5_isRow l G h hrow) (cwV 1 hts (tbV w_ml_RX5_37 w_im_yX5_isRow w_se_yX5_isRow w_ini_RX5 w_cd_yX5_isRow) rfl rfl rfl (by decide +kernel) ⟨Nat.le_of_ble_eq_true rfl, Nat.le_of_ble_eq_true rfl⟩) rfl hl.1 rfl (Nat.le_of_ble_eq_true rfl) dX5_count_14 ⟨Nat.zero_le _, Nat.zero_le _⟩ (fun H locs hs => ?_)
    refine lv_if_eq (tgt := 43) hx hb dX5_count_17 (by decide) (fun c17 => absurd c17 (by decide)) (fun _ => ?_)
    refine lv_iload_n hx hb dX5_count_20 rfl (lv_at hl 2 rfl) ?_
    refine lv_aload_n hx hb dX5_count_21 rfl (lv_at hl 0 rfl) ?_
    refine r_get (ci := 5) (v := .ref (ad (p + 1))) (C := RX5) (T := TX5) (N := 2) hx hb hts inlX5 hown hK hs (p) (by omega) he0 rfl 0 (by decide) (hts _ w_fl_RX5_15) rfl dX5_count_22 ?_
    refine lv_iload_n hx hb dX5_count_25 rfl (lv_at hl 1 rfl) ?_
    refine lv_bipush (v := 10) hx hb dX5_count_26 (by decide) ?_
    refine lv_imul hx hb dX5_count_28 ?_
    refine lv_iload_n hx hb dX5_count_29 rfl (lv_at hl 3 rfl) ?_
    refine lv_iadd hx hb dX5_count_30 ?_
    refine r_lald_N (t := 10 * row + w) hx hb hK hs (p + 1) (by omega) he1 (by simp only [ l0, l1, l2, l3, l4, l5, l6, l10, l600, pk_mul, nI_add]; first | done | exact congrArg nI (by omega)) (by omega) (by omega) dX5_count_31 ?_
    refine r_callSiR (As := [.long (f (10 * row + w))]) hx hb hml hown hts hK hA hs (c_J13_bitCount_95d88 l G (f (10 * row + w))) (va_cwS 1 hts (tbS w_ml_RX5_51 w_sta_yJ13_bitCount_95d88 w_ini_RJ13 w_cd_yJ13_bitCount_95d88) rfl rfl rfl (by decide +kernel) ⟨Nat.le_of_ble_eq_true rfl, Nat.le_of_ble_eq_true rfl⟩) rfl hl.1 rfl (Nat.le_of_ble_eq_true rfl) dX5_count_32 ⟨Nat.zero_le _, Nat.zero_le _⟩ (fun H locs hs => ?_)
    refine lv_iadd hx hb dX5_count_35 ?_
    refine r_topi (y := nI (cnt (S row) (64 * (w + 1)))) (cnt_word hrep hrow (by omega)) ?_
    refine lv_istore_n (lv' := [(2, .int (nI (cnt (S row) (64 * (w + 1))))), (0, .ref (ad p)), (1, .int (nI row)), (3, .int (nI w))]) hx hb dX5_count_36 rfl hl (by decide) rfl (fun ls hl => ?_)
    refine lv_iinc (v := nI (w + 1)) (lv' := [(3, .int (nI (w + 1))), (2, .int (nI (cnt (S row) (64 * (w + 1))))), (0, .ref (ad p)), (1, .int (nI row))]) hx hb dX5_count_37 hl (k := 3) rfl (nI_add w 1) (by decide) rfl (fun ls hl => ?_)
    refine lv_goto (tgt := 4) hx hb dX5_count_40 (by decide) ?_
    exact ih4 (w + 1) _ _ _ (by omega) (by omega) hs (lv_sub hl [2, 3, 1, 0] rfl)

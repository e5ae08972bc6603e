theorem get_row {row : Int32} {N : Nat} (h1 : ¬ row < 1) (h2 : ¬ nI N < row) (hN : N < 2 ^ 31) : ∃ k : Nat, (1 ≤ k ∧ k ≤ N) ∧ row = nI k := by
  rw [i_lt] at h1 h2
  rw [nI_toInt hN] at h2
  have h3 : (1 : Int32).toInt = 1 := rfl
  refine ⟨row.toInt.toNat, ⟨by omega, by omega⟩, ?_⟩
  rw [i_eq, nI_toInt (by omega)]; omega
theorem get_col {col : Int32} (h1 : ¬ col < 0) (h2 : ¬ 5 ≤ col) : ∃ k : Nat, k < 5 ∧ col = nI k := by
  rw [i_lt] at h1
  rw [i_le] at h2
  have h3 : (5 : Int32).toInt = 5 := rfl
  have h4 : (0 : Int32).toInt = 0 := rfl
  refine ⟨col.toInt.toNat, by omega, ?_⟩
  rw [i_eq, nI_toInt (by omega)]; omega
theorem kGet_in {ks : List Row} {hd g : Nat → Int32} (h : kRep ks hd g) {k c : Nat} (hk : 1 ≤ k ∧ k ≤ ks.length) (hc : c < 5) (hl : ks.length < 2 ^ 31) : kGet ks (nI k) (nI c) = g (6 * k + c) := by
  unfold kGet
  rw [nI_toInt (by omega), nI_toInt (by omega), if_pos (by omega), h.1 k hk.1 hk.2 c hc]
  simp
theorem kGet_out {ks : List Row} {row col : Int32} (hl : ks.length < 2 ^ 31) (h : row < 1 ∨ nI ks.length < row ∨ col < 0 ∨ 5 ≤ col) : kGet ks row col = 0 := by
  unfold kGet
  rw [if_neg]
  rw [i_lt, i_lt, i_lt, i_le, nI_toInt hl] at h
  have h3 : (5 : Int32).toInt = 5 := rfl
  have h4 : (0 : Int32).toInt = 0 := rfl
  have h5 : (1 : Int32).toInt = 1 := rfl
  omega
set_option maxHeartbeats 4000000 in
set_option maxRecDepth 100000 in
theorem c_X1_size (l : Launch) (G : rG) {n p : Nat} {ad : Nat → Nat} {en : Nat → va_E} {most : Nat} {ks : List Row} (h : KeptAt G n p ad en most ks) : CI l G yX1_size uX1_size (0) (0) (0) (0) [.ref (ad p)] (n) (n) ad en (roV ad en (nI ks.length)) := by
  intro sz
  refine rMet (Qc := qI G (n) (roV ad en (nI ks.length))) (cc := cX1_size) (maxL := 1) (ret := (some .int)) (by decide) rfl (Nat.le_of_ble_eq_true rfl) ?_
  intro pP eE sS mM aA bB tT cC ls A Q hc hK hsz hA hs hl hQ
  obtain ⟨hx, hb, hr, hts, hown, hlk, hnm, hml⟩ := hc
  have hl : lv_has ls 1 [(0, .ref (ad p))] := hl
  have hkk := h
  obtain ⟨hpn, hlen, hmost, hsm, hd, gg, he0, he1, he2, hrep⟩ := hkk
  refine lv_aload_n hx hb dX1_size_0 rfl (lv_at hl 0 rfl) ?_
  refine r_get (ci := 1) (v := .int (nI ks.length)) (C := RX1) (T := TX1) (N := 4) hx hb hts inlX1 hown hK hs (p) (by omega) he0 rfl 3 (by decide) (hts _ w_fl_RX1_18) rfl dX1_size_1 ?_
  refine r_iret (v := nI ks.length) hx hb hr hlk hs (Nat.le_refl _) (Nat.le_refl _) dX1_size_4 hQ ?_
  exact roV.rf rfl

set_option maxHeartbeats 4000000 in
set_option maxRecDepth 100000 in
theorem c_X1_get (l : Launch) (G : rG) {n p : Nat} {ad : Nat → Nat} {en : Nat → va_E} {most : Nat} {ks : List Row} (h : KeptAt G n p ad en most ks) (row col : Int32) : CI l G yX1_get uX1_get (0) (0) (0) (0) [.ref (ad p), .int (row), .int (col)] (n) (n) ad en (roV ad en (kGet ks row col)) := by
  intro sz
  refine rMet (Qc := qI G (n) (roV ad en (kGet ks row col))) (cc := cX1_get) (maxL := 4) (ret := (some .int)) (by decide) rfl (Nat.le_of_ble_eq_true rfl) ?_
  intro pP eE sS mM aA bB tT cC ls A Q hc hK hsz hA hs hl hQ
  obtain ⟨hx, hb, hr, hts, hown, hlk, hnm, hml⟩ := hc
  have hl : lv_has ls 4 [(0, .ref (ad p)), (1, .int (row)), (2, .int (col))] := hl
  have hkk := h
  obtain ⟨hpn, hlen, hmost, hsm, hd, gg, he0, he1, he2, hrep⟩ := hkk
  have hcap := capOf_ge ks.length
  have hcap2 := capOf_le ks.length
  have hn2 : ks.length < 2 ^ 31 := by omega
  refine lv_iload_n hx hb dX1_get_0 rfl (lv_at hl 1 rfl) ?_
  refine lv_iconst (v := 1) hx hb dX1_get_1 (by decide) ?_
  refine lv_icmp_lt (tgt := 26) hx hb dX1_get_2 (by decide) (fun c2 => ?_) (fun c2 => ?_)
  · skip
    refine lv_iconst (v := 0) hx hb dX1_get_26 (by decide) ?_
    refine lv_istore_n (lv' := [(3, .int (0)), (0, .ref (ad p)), (1, .int (row)), (2, .int (col))]) hx hb dX1_get_27 rfl hl (by decide) rfl (fun ls hl => ?_)
    refine lv_iload_n hx hb dX1_get_28 rfl (lv_at hl 0 rfl) ?_
    refine lv_if_eq (tgt := 46) hx hb dX1_get_29 (by decide) (fun _ => ?_) (fun c29 => absurd (by decide) c29)
    refine lv_iconst (v := 0) hx hb dX1_get_46 (by decide) ?_
    refine r_iret (v := 0) hx hb hr hlk hs (Nat.le_refl _) (Nat.le_refl _) dX1_get_47 hQ ?_
    exact roV.rf (kGet_out (by omega) (by first | exact Or.inl c2 | exact Or.inr (Or.inl c10) | exact Or.inr (Or.inr (Or.inl c14)) | exact Or.inr (Or.inr (Or.inr c19)))).symm
  · skip
    refine lv_iload_n hx hb dX1_get_5 rfl (lv_at hl 1 rfl) ?_
    refine lv_aload_n hx hb dX1_get_6 rfl (lv_at hl 0 rfl) ?_
    refine r_get (ci := 1) (v := .int (nI ks.length)) (C := RX1) (T := TX1) (N := 4) hx hb hts inlX1 hown hK hs (p) (by omega) he0 rfl 3 (by decide) (hts _ w_fl_RX1_18) rfl dX1_get_7 ?_
    refine lv_icmp_gt (tgt := 26) hx hb dX1_get_10 (by decide) (fun c10 => ?_) (fun c10 => ?_)
    · skip
      refine lv_iconst (v := 0) hx hb dX1_get_26 (by decide) ?_
      refine lv_istore_n (lv' := [(3, .int (0)), (0, .ref (ad p)), (1, .int (row)), (2, .int (col))]) hx hb dX1_get_27 rfl hl (by decide) rfl (fun ls hl => ?_)
      refine lv_iload_n hx hb dX1_get_28 rfl (lv_at hl 0 rfl) ?_
      refine lv_if_eq (tgt := 46) hx hb dX1_get_29 (by decide) (fun _ => ?_) (fun c29 => absurd (by decide) c29)
      refine lv_iconst (v := 0) hx hb dX1_get_46 (by decide) ?_
      refine r_iret (v := 0) hx hb hr hlk hs (Nat.le_refl _) (Nat.le_refl _) dX1_get_47 hQ ?_
      exact roV.rf (kGet_out (by omega) (by first | exact Or.inl c2 | exact Or.inr (Or.inl c10) | exact Or.inr (Or.inr (Or.inl c14)) | exact Or.inr (Or.inr (Or.inr c19)))).symm
    · skip
      refine lv_iload_n hx hb dX1_get_13 rfl (lv_at hl 2 rfl) ?_
      refine lv_if_lt (tgt := 26) hx hb dX1_get_14 (by decide) (fun c14 => ?_) (fun c14 => ?_)
      · skip
        refine lv_iconst (v := 0) hx hb dX1_get_26 (by decide) ?_
        refine lv_istore_n (lv' := [(3, .int (0)), (0, .ref (ad p)), (1, .int (row)), (2, .int (col))]) hx hb dX1_get_27 rfl hl (by decide) rfl (fun ls hl => ?_)
        refine lv_iload_n hx hb dX1_get_28 rfl (lv_at hl 0 rfl) ?_
        refine lv_if_eq (tgt := 46) hx hb dX1_get_29 (by decide) (fun _ => ?_) (fun c29 => absurd (by decide) c29)
        refine lv_iconst (v := 0) hx hb dX1_get_46 (by decide) ?_
        refine r_iret (v := 0) hx hb hr hlk hs (Nat.le_refl _) (Nat.le_refl _) dX1_get_47 hQ ?_
        exact roV.rf (kGet_out (by omega) (by first | exact Or.inl c2 | exact Or.inr (Or.inl c10) | exact Or.inr (Or.inr (Or.inl c14)) | exact Or.inr (Or.inr (Or.inr c19)))).symm
      · skip
        refine lv_iload_n hx hb dX1_get_17 rfl (lv_at hl 2 rfl) ?_
        refine lv_iconst (v := 5) hx hb dX1_get_18 (by decide) ?_
        refine lv_icmp_ge (tgt := 26) hx hb dX1_get_19 (by decide) (fun c19 => ?_) (fun c19 => ?_)
        · skip
          refine lv_iconst (v := 0) hx hb dX1_get_26 (by decide) ?_
          refine lv_istore_n (lv' := [(3, .int (0)), (0, .ref (ad p)), (1, .int (row)), (2, .int (col))]) hx hb dX1_get_27 rfl hl (by decide) rfl (fun ls hl => ?_)
          refine lv_iload_n hx hb dX1_get_28 rfl (lv_at hl 0 rfl) ?_
          refine lv_if_eq (tgt := 46) hx hb dX1_get_29 (by decide) (fun _ => ?_) (fun c29 => absurd (by decide) c29)
          refine lv_iconst (v := 0) hx hb dX1_get_46 (by decide) ?_
          refine r_iret (v := 0) hx hb hr hlk hs (Nat.le_refl _) (Nat.le_refl _) dX1_get_47 hQ ?_
          exact roV.rf (kGet_out (by omega) (by first | exact Or.inl c2 | exact Or.inr (Or.inl c10) | exact Or.inr (Or.inr (Or.inl c14)) | exact Or.inr (Or.inr (Or.inr c19)))).symm
        · skip
          refine lv_iconst (v := 1) hx hb dX1_get_22 (by decide) ?_
          refine lv_goto (tgt := 27) hx hb dX1_get_23 (by decide) ?_
          refine lv_istore_n (lv' := [(3, .int (1)), (0, .ref (ad p)), (1, .int (row)), (2, .int (col))]) hx hb dX1_get_27 rfl hl (by decide) rfl (fun ls hl => ?_)
          refine lv_iload_n hx hb dX1_get_28 rfl (lv_at hl 0 rfl) ?_
          refine lv_if_eq (tgt := 46) hx hb dX1_get_29 (by decide) (fun c29 => absurd c29 (by decide)) (fun _ => ?_)
          refine lv_aload_n hx hb dX1_get_32 rfl (lv_at hl 1 rfl) ?_
          refine r_get (ci := 1) (v := .ref (ad (p + 2))) (C := RX1) (T := TX1) (N := 4) hx hb hts inlX1 hown hK hs (p) (by omega) he0 rfl 2 (by decide) (hts _ w_fl_RX1_15) rfl dX1_get_33 ?_
          refine lv_iload_n hx hb dX1_get_36 rfl (lv_at hl 2 rfl) ?_
          refine lv_bipush (v := 6) hx hb dX1_get_37 (by decide) ?_
          refine lv_imul hx hb dX1_get_39 ?_
          refine lv_iload_n hx hb dX1_get_40 rfl (lv_at hl 3 rfl) ?_
          refine lv_iadd hx hb dX1_get_41 ?_
          obtain ⟨kr, hkr, rfl⟩ : ∃ k : Nat, (1 ≤ k ∧ k ≤ ks.length) ∧ row = nI k := get_row c2 c10 (by omega)
          obtain ⟨kc, hkc, rfl⟩ : ∃ k : Nat, k < 5 ∧ col = nI k := get_col c14 c19
          refine r_ialdN (t := 6 * kr + kc) hx hb hK hs (p + 2) (by omega) he2 (by simp only [ l0, l1, l2, l3, l4, l5, l6, l10, l600, pk_mul, nI_add]; first | done | exact congrArg nI (by omega)) (by omega) (by omega) dX1_get_42 ?_
          refine lv_goto (tgt := 47) hx hb dX1_get_43 (by decide) ?_
          refine r_iret (v := gg (6 * kr + kc)) hx hb hr hlk hs (Nat.le_refl _) (Nat.le_refl _) dX1_get_47 hQ ?_
          exact roV.rf (kGet_in hrep hkr hkc (by omega)).symm

set_option maxHeartbeats 4000000 in
set_option maxRecDepth 100000 in
theorem c_X1_bucketOf (l : Launch) (G : rG) {n : Nat} {ad : Nat → Nat} {en : Nat → va_E} (a b c1 d e1 : Int32) : CI l G yX1_bucketOf uX1_bucketOf (0) (0) (0) (0) [.int (a), .int (b), .int (c1), .int (d), .int (e1)] (n) (n) ad en (roV ad en (bkt a b c1 d e1)) := by
  intro sz
  refine rMet (Qc := qI G (n) (roV ad en (bkt a b c1 d e1))) (cc := cX1_bucketOf) (maxL := 6) (ret := (some .int)) (by decide) rfl (Nat.le_of_ble_eq_true rfl) ?_
  intro pP eE sS mM aA bB tT cC ls A Q hc hK hsz hA hs hl hQ
  obtain ⟨hx, hb, hr, hts, hown, hlk, hnm, hml⟩ := hc
  have hl : lv_has ls 6 [(0, .int (a)), (1, .int (b)), (2, .int (c1)), (3, .int (d)), (4, .int (e1))] := hl
  refine lv_iload_n hx hb dX1_bucketOf_0 rfl (lv_at hl 0 rfl) ?_
  refine lv_bipush (v := 31) hx hb dX1_bucketOf_1 (by decide) ?_
  refine lv_imul hx hb dX1_bucketOf_3 ?_
  refine lv_iload_n hx hb dX1_bucketOf_4 rfl (lv_at hl 1 rfl) ?_
  refine lv_iadd hx hb dX1_bucketOf_5 ?_
  refine lv_bipush (v := 31) hx hb dX1_bucketOf_6 (by decide) ?_
  refine lv_imul hx hb dX1_bucketOf_8 ?_
  refine lv_iload_n hx hb dX1_bucketOf_9 rfl (lv_at hl 2 rfl) ?_
  refine lv_iadd hx hb dX1_bucketOf_10 ?_
  refine lv_bipush (v := 31) hx hb dX1_bucketOf_11 (by decide) ?_
  refine lv_imul hx hb dX1_bucketOf_13 ?_
  refine lv_iload_n hx hb dX1_bucketOf_14 rfl (lv_at hl 3 rfl) ?_
  refine lv_iadd hx hb dX1_bucketOf_15 ?_
  refine lv_bipush (v := 31) hx hb dX1_bucketOf_16 (by decide) ?_
  refine lv_imul hx hb dX1_bucketOf_18 ?_
  refine lv_iload hx hb dX1_bucketOf_19 (lv_at hl 4 rfl) ?_
  refine lv_iadd hx hb dX1_bucketOf_21 ?_
  refine lv_topi (fun x5_1 ex5_1 => ?_)
  refine lv_istore (lv' := [(5, .int (x5_1)), (0, .int (a)), (1, .int (b)), (2, .int (c1)), (3, .int (d)), (4, .int (e1))]) hx hb dX1_bucketOf_22 hl (by decide) rfl (fun ls hl => ?_)
  refine lv_iload hx hb dX1_bucketOf_24 (lv_at hl 0 rfl) ?_
  refine lv_iload hx hb dX1_bucketOf_26 (lv_at hl 0 rfl) ?_
  refine lv_bipush (v := 10) hx hb dX1_bucketOf_28 (by decide) ?_
  refine lv_iushr (v := ((x5_1 : Int32).toUInt32 >>> ((10 : Int32).toUInt32 &&& Int32.toUInt32 31)).toInt32) hx hb dX1_bucketOf_30 rfl ?_
  refine lv_ixor hx hb dX1_bucketOf_31 ?_
  refine lv_sipush (v := 1023) hx hb dX1_bucketOf_32 (by decide) ?_
  refine lv_iand hx hb dX1_bucketOf_35 ?_
  refine r_iret (v := ((x5_1) ^^^ (((x5_1 : Int32).toUInt32 >>> ((10 : Int32).toUInt32 &&& Int32.toUInt32 31)).toInt32)) &&& (1023)) hx hb hr hlk hs (Nat.le_refl _) (Nat.le_refl _) dX1_bucketOf_36 hQ ?_
  exact roV.rf (by rw [ex5_1]; rfl)

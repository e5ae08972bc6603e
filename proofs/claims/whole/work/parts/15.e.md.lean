set_option maxHeartbeats 600000 in
set_option maxRecDepth 100000 in
theorem c_X8_has (l : Launch) (G : rG) {n : Nat} {ad : Nat → Nat} {en : Nat → va_E} {ss ns : List Row} {c : Nat → Nat → Int32} {us : Int32} {ov : Int32} {dp : Int32} {cl : Int32}  (hM : MdW G n ad en ss ns c us ov dp cl) {d f : Nat} (hd : d ≤ 81) (hf : f < 2 ^ 31) {Γ : Nat → Bool} (hR : RowM c d Γ) (hΓ : ∀ y, Γ y = true → 1 ≤ y ∧ y ≤ ss.length) : CI l G yX8_has uX8_has (0) (0) (0) (0) [.ref (ad 22), .int (nI d), .int (nI f)] (n) (n) ad en (roV ad en (b2i (Γ f))) := by
  intro sz
  refine rMet (Qc := qI G (n) (roV ad en (b2i (Γ f)))) (cc := cX8_has) (maxL := 3) (ret := (some .boolean)) (by decide) rfl (Nat.le_of_ble_eq_true rfl) ?_
  intro pP eE sS mM aA bB tT cC ls A Q hc hK hsz hA hs hl hQ
  obtain ⟨hx, hb, hr, hts, hown, hlk, hnm, hml⟩ := hc
  have hl : lv_has ls 3 [(0, .ref (ad 22)), (1, .int (nI d)), (2, .int (nI f))] := hl
  have fr0 : ∀ k, k < 22 → en k = en k := fun _ _ => rfl
  obtain ⟨hn48, -, -, -, hok, hnk⟩ := id hM
  have h6 := hok.1
  have h8 := hnk.1
  
  refine lv_iload_n hx hb dX8_has_0 rfl (lv_at hl 2 rfl) ?_
  refine lv_if_le (tgt := 34) hx hb dX8_has_1 (by decide) (fun c1 => ?_) (fun c1 => ?_)
  · skip
    refine lv_iconst (v := 0) hx hb dX8_has_34 (by decide) ?_
    refine r_zret (v := 0) (mc := 0) (ms := 0) hx hb hr hlk hs (Nat.le_refl _) (Nat.le_refl _) dX8_has_35 ?_ hQ ?_
    · first | exact Or.inl rfl | exact Or.inr rfl | exact b2i_z _
    exact roV.rf (by have z := nI_le0 (by omega) c1; subst z; cases hq : Γ 0 with
      | false => rfl
      | true => have := hΓ _ hq; omega)
  · skip
    obtain ⟨g, rfl⟩ : ∃ g, f = g + 1 := ⟨f - 1, by have : ¬ f = 0 := fun q => c1 (by rw [q]; decide); omega⟩
    refine lv_iload_n hx hb dX8_has_4 rfl (lv_at hl 2 rfl) ?_
    refine lv_aload_n hx hb dX8_has_5 rfl (lv_at hl 0 rfl) ?_
    refine r_get (ci := 8) (v := .int (nI ss.length)) (C := RX8) (T := TX8) (N := 31) hx hb hts inlX8 hown hK hs (22) (by omega) (md22 hM) rfl 3 (by decide) (hts _ w_fl_RX8_88) rfl dX8_has_6 ?_
    refine lv_icmp_gt (tgt := 34) hx hb dX8_has_9 (by decide) (fun c9 => ?_) (fun c9 => ?_)
    · skip
      refine lv_iconst (v := 0) hx hb dX8_has_34 (by decide) ?_
      refine r_zret (v := 0) (mc := 0) (ms := 0) hx hb hr hlk hs (Nat.le_refl _) (Nat.le_refl _) dX8_has_35 ?_ hQ ?_
      · first | exact Or.inl rfl | exact Or.inr rfl | exact b2i_z _
      exact roV.rf (by have z := (nI_ltI (by omega) (by omega)).mp c9; cases hq : Γ (g + 1) with
        | false => rfl
        | true => have := hΓ _ hq; omega)
    · skip
      have hgl : g + 1 ≤ ss.length := Nat.le_of_not_lt (fun q => c9 ((nI_ltI (by omega) (by omega)).mpr q))
      refine lv_aload_n hx hb dX8_has_12 rfl (lv_at hl 0 rfl) ?_
      refine r_get (ci := 8) (v := .ref (ad 31)) (C := RX8) (T := TX8) (N := 31) hx hb hts inlX8 hown hK hs (22) (by omega) (md22 hM) rfl 12 (by decide) (hts _ w_fl_RX8_35) rfl dX8_has_13 ?_
      refine lv_sipush (v := 600) hx hb dX8_has_16 (by decide) ?_
      refine lv_iload_n hx hb dX8_has_19 rfl (lv_at hl 1 rfl) ?_
      refine lv_imul hx hb dX8_has_20 ?_
      refine lv_iload_n hx hb dX8_has_21 rfl (lv_at hl 2 rfl) ?_
      refine lv_iadd hx hb dX8_has_22 ?_
      refine lv_iconst (v := 1) hx hb dX8_has_23 (by decide) ?_
      refine lv_isub hx hb dX8_has_24 ?_
      refine r_baldN (t := 600 * d + g) hx hb hK hs (31) (by omega) (md31 hM) (ix_gv) (by omega) (by omega) dX8_has_25 ?_
      refine lv_iconst (v := 1) hx hb dX8_has_26 (by decide) ?_
      refine lv_icmp_ne (tgt := 34) hx hb dX8_has_27 (by decide) (fun c27 => ?_) (fun c27 => ?_)
      · skip
        refine lv_iconst (v := 0) hx hb dX8_has_34 (by decide) ?_
        refine r_zret (v := 0) (mc := 0) (ms := 0) hx hb hr hlk hs (Nat.le_refl _) (Nat.le_refl _) dX8_has_35 ?_ hQ ?_
        · first | exact Or.inl rfl | exact Or.inr rfl | exact b2i_z _
        exact roV.rf (by have q := hR g (by omega); cases hq : Γ (g + 1) with
          | false => rfl
          | true => rw [hq] at q; exact absurd q c27)
      · skip
        refine lv_iconst (v := 1) hx hb dX8_has_30 (by decide) ?_
        refine lv_goto (tgt := 35) hx hb dX8_has_31 (by decide) ?_
        refine r_zret (v := 1) (mc := 0) (ms := 0) hx hb hr hlk hs (Nat.le_refl _) (Nat.le_refl _) dX8_has_35 ?_ hQ ?_
        · first | exact Or.inl rfl | exact Or.inr rfl | exact b2i_z _
        exact roV.rf (by have q := hR g (by omega); rw [c27] at q; cases hq : Γ (g + 1) with
          | true => rfl
          | false => rw [hq] at q; exact absurd q (by decide))

set_option maxHeartbeats 600000 in
set_option maxRecDepth 100000 in
theorem c_X8_set (l : Launch) (G : rG) {n : Nat} {ad : Nat → Nat} {en : Nat → va_E} {ss ns : List Row} {c : Nat → Nat → Int32} {us : Int32} {ov : Int32} {dp : Int32} {cl : Int32}  (hM : MdW G n ad en ss ns c us ov dp cl) {d f : Nat} (hd : d ≤ 81) (hf : f ≤ 600) (b : Bool) : CV l G yX8_set uX8_set (0) (0) (0) (0) [.ref (ad 22), .int (nI d), .int (nI f), .int (b2i b)] (n) (n) ad en (fun ad1 en1 => mFr ad en ad1 en1 ∧ MdW G n ad en1 ss ns (cSet c d f b) us ov dp cl) := by
  intro sz
  refine rMet (Qc := qV G (n) (fun ad1 en1 => mFr ad en ad1 en1 ∧ MdW G n ad en1 ss ns (cSet c d f b) us ov dp cl)) (cc := cX8_set) (maxL := 4) (ret := none) (by decide) rfl (Nat.le_of_ble_eq_true rfl) ?_
  intro pP eE sS mM aA bB tT cC ls A Q hc hK hsz hA hs hl hQ
  obtain ⟨hx, hb, hr, hts, hown, hlk, hnm, hml⟩ := hc
  have hl : lv_has ls 4 [(0, .ref (ad 22)), (1, .int (nI d)), (2, .int (nI f)), (3, .int (b2i b))] := hl
  have fr0 : ∀ k, k < 22 → en k = en k := fun _ _ => rfl
  obtain ⟨hn48, -, -, -, hok, hnk⟩ := id hM
  have h6 := hok.1
  have h8 := hnk.1
  
  refine lv_iload_n hx hb dX8_set_0 rfl (lv_at hl 2 rfl) ?_
  refine lv_if_le (tgt := 20) hx hb dX8_set_1 (by decide) (fun c1 => ?_) (fun c1 => ?_)
  · skip
    refine r_vret (mc := 0) (ms := 0) hx hb hr hlk hs (Nat.le_refl _) (Nat.le_refl _) dX8_set_20 hQ ?_
    exact ⟨⟨rfl, fun _ _ => rfl⟩, by rw [cSet, if_pos (nI_le0 (by omega) c1)]; exact hM⟩
  · skip
    obtain ⟨g, rfl⟩ : ∃ g, f = g + 1 := ⟨f - 1, by have : ¬ f = 0 := fun q => c1 (by rw [q]; decide); omega⟩
    refine lv_aload_n hx hb dX8_set_4 rfl (lv_at hl 0 rfl) ?_
    refine r_get (ci := 8) (v := .ref (ad 31)) (C := RX8) (T := TX8) (N := 31) hx hb hts inlX8 hown hK hs (22) (by omega) (md22 hM) rfl 12 (by decide) (hts _ w_fl_RX8_35) rfl dX8_set_5 ?_
    refine lv_sipush (v := 600) hx hb dX8_set_8 (by decide) ?_
    refine lv_iload_n hx hb dX8_set_11 rfl (lv_at hl 1 rfl) ?_
    refine lv_imul hx hb dX8_set_12 ?_
    refine lv_iload_n hx hb dX8_set_13 rfl (lv_at hl 2 rfl) ?_
    refine lv_iadd hx hb dX8_set_14 ?_
    refine lv_iconst (v := 1) hx hb dX8_set_15 (by decide) ?_
    refine lv_isub hx hb dX8_set_16 ?_
    refine lv_iload_n hx hb dX8_set_17 rfl (lv_at hl 3 rfl) ?_
    refine lv_i2b (v := (b2i b : Int32).toInt8.toInt32) hx hb dX8_set_18 rfl ?_
    refine r_bastN (t := 600 * d + g) hx hb hK hs (31) (by omega) (md31 hM) (ix_gv) (by omega) (by omega) dX8_set_19 (fun H locs en_2 hen_2 hs => ?_)
    obtain ⟨c_4, ec_4⟩ : ∃ z, z = cU c 31 (600 * d + g) (b2i b) := ⟨_, rfl⟩
    have hM_3 : MdW G n ad en_2 ss ns c_4 us ov dp cl := md_ar (f := upd (c 31) (600 * d + g) (b2i b)) hM 31 (by decide) (by decide) (by rw [hen_2, nar_b]; rfl) ec_4
    have fr_5 : ∀ k, k < 22 → en_2 k = en k := fun k hk => Eq.trans (by rw [hen_2]; exact va_up_ne _ _ (by omega)) (fr0 k hk)
    refine r_vret (mc := 0) (ms := 0) hx hb hr hlk hs (Nat.le_refl _) (Nat.le_refl _) dX8_set_20 hQ ?_
    exact ⟨⟨rfl, fr_5⟩, by rw [cSet, if_neg (by omega), show g + 1 - 1 = g from rfl, ← ec_4]; exact hM_3⟩

set_option maxHeartbeats 600000 in
set_option maxRecDepth 100000 in
theorem c_X8_open (l : Launch) (G : rG) {n : Nat} {ad : Nat → Nat} {en : Nat → va_E} {ss ns : List Row} {c : Nat → Nat → Int32} {us : Int32} {ov : Int32} {cl : Int32} {d : Nat} (hM : MdW G n ad en ss ns c us ov (nI d) cl) {gl : Nat} {Γ : Nat → Bool} (hd : d ≤ 80) (hR : RowM c d Γ) : CV l G yX8_open uX8_open (0) (0) (0) (0) [.ref (ad 22), .int (nI gl)] (n) (n) ad en (fun ad1 en1 => mFr ad en ad1 en1 ∧ MdW G n ad en1 ss ns (cOpn c d (nI gl)) us ov (nI d) cl) := by
  intro sz
  refine rMet (Qc := qV G (n) (fun ad1 en1 => mFr ad en ad1 en1 ∧ MdW G n ad en1 ss ns (cOpn c d (nI gl)) us ov (nI d) cl)) (cc := cX8_open) (maxL := 3) (ret := none) (by decide) rfl (Nat.le_of_ble_eq_true rfl) ?_
  intro pP eE sS mM aA bB tT cC ls A Q hc hK hsz hA hs hl hQ
  obtain ⟨hx, hb, hr, hts, hown, hlk, hnm, hml⟩ := hc
  have hl : lv_has ls 3 [(0, .ref (ad 22)), (1, .int (nI gl))] := hl
  have fr0 : ∀ k, k < 22 → en k = en k := fun _ _ => rfl
  obtain ⟨hn48, -, -, -, hok, hnk⟩ := id hM
  have h6 := hok.1
  have h8 := hnk.1
  
  refine lv_iconst (v := 0) hx hb dX8_open_0 (by decide) ?_
  refine lv_istore_n (lv' := [(2, .int (0)), (0, .ref (ad 22)), (1, .int (nI gl))]) hx hb dX8_open_1 rfl hl (by decide) rfl (fun ls hl => ?_)
  suffices LOOP2 : ∀ (fu2 : Nat) (m : Nat) (c2 : Nat → Nat → Int32) (en2 : Nat → va_E) (H : Heap) (locs : List Loc) (ls : Array Slot), (m ≤ 600) → (c2 = va_up c 31 (cpF (c 31) d m)) → (MdW G n ad en2 ss ns c2 us ov (nI d) cl) → (∀ k, k < 22 → en2 k = en k) → 601 - m < fu2 → rS G A sS.heap (n) ad en2 H locs → lv_has ls 3 [(0, .ref (ad 22)), (1, .int (nI gl)), (2, .int (nI m))] → W pP l eE (rRm (0) (0) (0) (0)) sS mM aA bB tT cC H locs (0) (0) Q (F0 mM 2 ls []) from LOOP2 _ (0) (c) (en) _ _ _ (by decide) (by rw [cpF_0, va_up_id _ _ rfl]) (hM) (fr0) (Nat.lt_succ_self _) hs (lv_sub hl [1, 2, 0] rfl)
  intro fu2
  induction fu2 with
  | zero => intro m c2 en2 H locs ls hm hc2 hM2 fr2 hfu; exact absurd hfu (Nat.not_lt_zero _)
  | succ fu2 ih2 => ?_
  intro m c2 en2 H locs ls hm hc2 hM2 fr2 hfu2 hs hl
  refine lv_iload_n hx hb dX8_open_2 rfl (lv_at hl 2 rfl) ?_
  refine lv_sipush (v := 600) hx hb dX8_open_3 (by decide) ?_
  refine lv_icmp_ge (tgt := 47) hx hb dX8_open_6 (by decide) (fun c6 => ?_) (fun c6 => ?_)
  · skip
    have hm6 : m = 600 := by have := (nI_leI (a := 600) (by decide) (by omega)).mp c6; omega
    refine lv_aload_n hx hb dX8_open_47 rfl (lv_at hl 0 rfl) ?_
    refine r_get (ci := 8) (v := .ref (ad 32)) (C := RX8) (T := TX8) (N := 31) hx hb hts inlX8 hown hK hs (22) (by omega) (md22 hM2) rfl 13 (by decide) (hts _ w_fl_RX8_39) rfl dX8_open_48 ?_
    refine lv_aload_n hx hb dX8_open_51 rfl (lv_at hl 0 rfl) ?_
    refine r_get (ci := 8) (v := .int (nI d)) (C := RX8) (T := TX8) (N := 31) hx hb hts inlX8 hown hK hs (22) (by omega) (md22 hM2) rfl 17 (by decide) (hts _ w_fl_RX8_109) rfl dX8_open_52 ?_
    refine lv_iconst (v := 1) hx hb dX8_open_55 (by decide) ?_
    refine lv_iadd hx hb dX8_open_56 ?_
    refine lv_iload_n hx hb dX8_open_57 rfl (lv_at hl 1 rfl) ?_
    refine r_iastN (t := d + 1) hx hb hK hs (32) (by omega) (md32 hM2) (nI_add _ _) (by omega) (by omega) dX8_open_58 (fun H locs en_2 hen_2 hs => ?_)
    obtain ⟨c_4, ec_4⟩ : ∃ z, z = cU c2 32 (d + 1) (nI gl) := ⟨_, rfl⟩
    have hM_3 : MdW G n ad en_2 ss ns c_4 us ov (nI d) cl := md_ar (f := upd (c2 32) (d + 1) (nI gl)) hM2 32 (by decide) (by decide) hen_2 ec_4
    have fr_5 : ∀ k, k < 22 → en_2 k = en k := fun k hk => Eq.trans (by rw [hen_2]; exact va_up_ne _ _ (by omega)) (fr2 k hk)
    refine r_vret (mc := 0) (ms := 0) hx hb hr hlk hs (Nat.le_refl _) (Nat.le_refl _) dX8_open_59 hQ ?_
    exact ⟨⟨rfl, fr_5⟩, by rw [cOpn, show va_up c 31 (cpF (c 31) d 600) = c2 from by rw [hc2, hm6], ← ec_4]; exact hM_3⟩
  · skip
    have hm6 : m < 600 := lt_of_nI (b := 600) c6 (by omega)
    refine lv_aload_n hx hb dX8_open_9 rfl (lv_at hl 0 rfl) ?_
    refine r_get (ci := 8) (v := .ref (ad 31)) (C := RX8) (T := TX8) (N := 31) hx hb hts inlX8 hown hK hs (22) (by omega) (md22 hM2) rfl 12 (by decide) (hts _ w_fl_RX8_35) rfl dX8_open_10 ?_
    refine lv_sipush (v := 600) hx hb dX8_open_13 (by decide) ?_
    refine lv_aload_n hx hb dX8_open_16 rfl (lv_at hl 0 rfl) ?_
    refine r_get (ci := 8) (v := .int (nI d)) (C := RX8) (T := TX8) (N := 31) hx hb hts inlX8 hown hK hs (22) (by omega) (md22 hM2) rfl 17 (by decide) (hts _ w_fl_RX8_109) rfl dX8_open_17 ?_
    refine lv_iconst (v := 1) hx hb dX8_open_20 (by decide) ?_
    refine lv_iadd hx hb dX8_open_21 ?_
    refine lv_imul hx hb dX8_open_22 ?_
    refine lv_iload_n hx hb dX8_open_23 rfl (lv_at hl 2 rfl) ?_
    refine lv_iadd hx hb dX8_open_24 ?_
    refine lv_aload_n hx hb dX8_open_25 rfl (lv_at hl 0 rfl) ?_
    refine r_get (ci := 8) (v := .ref (ad 31)) (C := RX8) (T := TX8) (N := 31) hx hb hts inlX8 hown hK hs (22) (by omega) (md22 hM2) rfl 12 (by decide) (hts _ w_fl_RX8_35) rfl dX8_open_26 ?_
    refine lv_sipush (v := 600) hx hb dX8_open_29 (by decide) ?_
    refine lv_aload_n hx hb dX8_open_32 rfl (lv_at hl 0 rfl) ?_
    refine r_get (ci := 8) (v := .int (nI d)) (C := RX8) (T := TX8) (N := 31) hx hb hts inlX8 hown hK hs (22) (by omega) (md22 hM2) rfl 17 (by decide) (hts _ w_fl_RX8_109) rfl dX8_open_33 ?_
    refine lv_imul hx hb dX8_open_36 ?_
    refine lv_iload_n hx hb dX8_open_37 rfl (lv_at hl 2 rfl) ?_
    refine lv_iadd hx hb dX8_open_38 ?_
    refine r_baldN (t := 600 * d + m) hx hb hK hs (31) (by omega) (md31 hM2) (by simp only [ l0, l1, l2, l3, l4, l5, l6, l10, l600, pk_mul, nI_add]; first | done | exact congrArg nI (by omega)) (by omega) (by omega) dX8_open_39 ?_
    refine r_bastN (t := 600 * (d + 1) + m) hx hb hK hs (31) (by omega) (md31 hM2) (by simp only [ l0, l1, l2, l3, l4, l5, l6, l10, l600, pk_mul, nI_add]; first | done | exact congrArg nI (by omega)) (by omega) (by omega) dX8_open_40 (fun H locs en_7 hen_7 hs => ?_)
    obtain ⟨c_9, ec_9⟩ : ∃ z, z = cU c2 31 (600 * (d + 1) + m) (c 31 (600 * d + m)) := ⟨_, rfl⟩
    have hM_8 : MdW G n ad en_7 ss ns c_9 us ov (nI d) cl := md_ar (f := upd (c2 31) (600 * (d + 1) + m) (c 31 (600 * d + m))) hM2 31 (by decide) (by decide) (by rw [hen_7, show vp_nar .byte (c2 31 (600 * d + m)) = c 31 (600 * d + m) from by rw [hc2, va_up_self, cpF, if_neg (by omega), hR m hm6, nar_b2]]; rfl) ec_9
    have fr_10 : ∀ k, k < 22 → en_7 k = en k := fun k hk => Eq.trans (by rw [hen_7]; exact va_up_ne _ _ (by omega)) (fr2 k hk)
    refine lv_iinc (v := nI (m + 1)) (lv' := [(2, .int (nI (m + 1))), (0, .ref (ad 22)), (1, .int (nI gl))]) hx hb dX8_open_41 hl (k := 2) rfl (nI_add m 1) (by decide) rfl (fun ls hl => ?_)
    refine lv_goto (tgt := 2) hx hb dX8_open_44 (by decide) ?_
    exact ih2 (m + 1) (c_9) (en_7) _ _ _ (by omega) (by rw [ec_9, cU, hc2, va_up_self, va_up_up, ← cpF_s]) (hM_8) (fr_10) (by omega) hs (lv_sub hl [1, 2, 0] rfl)

set_option maxHeartbeats 600000 in
set_option maxRecDepth 100000 in
theorem c_X8_enter_x (l : Launch) (G : rG) {n : Nat} {ad : Nat → Nat} {en : Nat → va_E} {ss ns : List Row} {c : Nat → Nat → Int32} {us : Int32} {ov : Int32} {dp : Int32} {cl : Int32}  (hM : MdW G n ad en ss ns c us ov dp cl) (x : Int32) (hov : ¬ ov = 0) : CV l G yX8_enter uX8_enter (0) (0) (0) (0) [.ref (ad 22), .int (x)] (n) (n) ad en (roU ad en) := by
  intro sz
  refine rMet (Qc := qV G (n) (roU ad en)) (cc := cX8_enter) (maxL := 2) (ret := none) (by decide) rfl (Nat.le_of_ble_eq_true rfl) ?_
  intro pP eE sS mM aA bB tT cC ls A Q hc hK hsz hA hs hl hQ
  obtain ⟨hx, hb, hr, hts, hown, hlk, hnm, hml⟩ := hc
  have hl : lv_has ls 2 [(0, .ref (ad 22)), (1, .int (x))] := hl
  have fr0 : ∀ k, k < 22 → en k = en k := fun _ _ => rfl
  obtain ⟨hn48, -, -, -, hok, hnk⟩ := id hM
  have h6 := hok.1
  have h8 := hnk.1
  
  refine lv_aload_n hx hb dX8_enter_0 rfl (lv_at hl 0 rfl) ?_
  refine r_get (ci := 8) (v := .int (ov)) (C := RX8) (T := TX8) (N := 31) hx hb hts inlX8 hown hK hs (22) (by omega) (md22 hM) rfl 11 (by decide) (hts _ w_fl_RX8_106) rfl dX8_enter_1 ?_
  refine lv_if_eq (tgt := 8) hx hb dX8_enter_4 (by decide) (fun c4 => absurd c4 (hov)) (fun _ => ?_)
  refine r_vret (mc := 0) (ms := 0) hx hb hr hlk hs (Nat.le_refl _) (Nat.le_refl _) dX8_enter_7 hQ ?_
  exact roU.rf

set_option maxHeartbeats 600000 in
set_option maxRecDepth 100000 in
theorem c_X8_enter_o (l : Launch) (G : rG) {n : Nat} {ad : Nat → Nat} {en : Nat → va_E} {ss ns : List Row} {c : Nat → Nat → Int32} {cl : Int32} {d u : Nat} (hM : MdW G n ad en ss ns c (nI u) 0 (nI d) cl) {fu : Nat} (hd : d ≤ 80) (hu : u ≤ fu ∧ fu ≤ 3000) (ho : d = 80 ∨ u = fu) : CV l G yX8_enter uX8_enter (0) (0) (0) (0) [.ref (ad 22), .int (nI fu)] (n) (n) ad en (fun ad1 en1 => mFr ad en ad1 en1 ∧ MdW G n ad en1 ss ns c (nI u) (-4) (nI d) cl) := by
  intro sz
  refine rMet (Qc := qV G (n) (fun ad1 en1 => mFr ad en ad1 en1 ∧ MdW G n ad en1 ss ns c (nI u) (-4) (nI d) cl)) (cc := cX8_enter) (maxL := 2) (ret := none) (by decide) rfl (Nat.le_of_ble_eq_true rfl) ?_
  intro pP eE sS mM aA bB tT cC ls A Q hc hK hsz hA hs hl hQ
  obtain ⟨hx, hb, hr, hts, hown, hlk, hnm, hml⟩ := hc
  have hl : lv_has ls 2 [(0, .ref (ad 22)), (1, .int (nI fu))] := hl
  have fr0 : ∀ k, k < 22 → en k = en k := fun _ _ => rfl
  obtain ⟨hn48, -, -, -, hok, hnk⟩ := id hM
  have h6 := hok.1
  have h8 := hnk.1
  
  refine lv_aload_n hx hb dX8_enter_0 rfl (lv_at hl 0 rfl) ?_
  refine r_get (ci := 8) (v := .int (0)) (C := RX8) (T := TX8) (N := 31) hx hb hts inlX8 hown hK hs (22) (by omega) (md22 hM) rfl 11 (by decide) (hts _ w_fl_RX8_106) rfl dX8_enter_1 ?_
  refine lv_if_eq (tgt := 8) hx hb dX8_enter_4 (by decide) (fun _ => ?_) (fun c4 => absurd (rfl) c4)
  refine lv_aload_n hx hb dX8_enter_8 rfl (lv_at hl 0 rfl) ?_
  refine r_get (ci := 8) (v := .int (nI d)) (C := RX8) (T := TX8) (N := 31) hx hb hts inlX8 hown hK hs (22) (by omega) (md22 hM) rfl 17 (by decide) (hts _ w_fl_RX8_109) rfl dX8_enter_9 ?_
  refine lv_bipush (v := 80) hx hb dX8_enter_12 (by decide) ?_
  refine lv_icmp_eq (tgt := 25) hx hb dX8_enter_14 (by decide) (fun c14 => ?_) (fun c14 => ?_)
  · skip
    refine lv_aload_n hx hb dX8_enter_25 rfl (lv_at hl 0 rfl) ?_
    refine lv_bipush (v := (-4)) hx hb dX8_enter_26 (by decide) ?_
    refine r_put (ci := 8) (v := .int ((-4))) (ty := .int) (C := RX8) (T := TX8) (N := 31) (fs' := [.ref (ad 23), .ref (ad 24), .ref (ad 25), .int (nI ss.length), .ref (ad 26), .ref (ad 27), .ref (ad 28), .ref (ad 29), .ref (ad 30), .int (nI ns.length), .int (nI u), .int ((-4)), .ref (ad 31), .ref (ad 32), .ref (ad 33), .ref (ad 34), .ref (ad 35), .int (nI d), .ref (ad 36), .ref (ad 37), .ref (ad 38), .ref (ad 39), .ref (ad 40), .int (cl), .ref (ad 41), .ref (ad 42), .ref (ad 43), .ref (ad 44), .ref (ad 45), .ref (ad 46), .ref (ad 47)]) hx hb hts inlX8 tyX8 tyX8_ok nmX8 hown hK hs (22) (by omega) (md22 hM) rfl 11 (by decide) (hts _ w_fl_RX8_106) (Or.inl rfl) (by decide +kernel) rfl rfl (Nat.le_of_ble_eq_true rfl) rfl dX8_enter_28 (fun H locs en_1 hen_1 hs => ?_)
    have hM_2 : MdW G n ad en_1 ss ns c (nI u) ((-4)) (nI d) cl := md_pu hM hen_1
    have fr_3 : ∀ k, k < 22 → en_1 k = en k := fun k hk => Eq.trans (by rw [hen_1]; exact va_up_ne _ _ (by omega)) (fr0 k hk)
    refine r_vret (mc := 0) (ms := 0) hx hb hr hlk hs (Nat.le_refl _) (Nat.le_refl _) dX8_enter_31 hQ ?_
    exact ⟨⟨rfl, fr_3⟩, hM_2⟩
  · skip
    refine lv_aload_n hx hb dX8_enter_17 rfl (lv_at hl 0 rfl) ?_
    refine r_get (ci := 8) (v := .int (nI u)) (C := RX8) (T := TX8) (N := 31) hx hb hts inlX8 hown hK hs (22) (by omega) (md22 hM) rfl 10 (by decide) (hts _ w_fl_RX8_112) rfl dX8_enter_18 ?_
    refine lv_iload_n hx hb dX8_enter_21 rfl (lv_at hl 1 rfl) ?_
    refine lv_icmp_ne (tgt := 32) hx hb dX8_enter_22 (by decide) (fun c22 => absurd (by rw [ho.resolve_left (fun z => c14 (by rw [z]; rfl))]) c22) (fun _ => ?_)
    refine lv_aload_n hx hb dX8_enter_25 rfl (lv_at hl 0 rfl) ?_
    refine lv_bipush (v := (-4)) hx hb dX8_enter_26 (by decide) ?_
    refine r_put (ci := 8) (v := .int ((-4))) (ty := .int) (C := RX8) (T := TX8) (N := 31) (fs' := [.ref (ad 23), .ref (ad 24), .ref (ad 25), .int (nI ss.length), .ref (ad 26), .ref (ad 27), .ref (ad 28), .ref (ad 29), .ref (ad 30), .int (nI ns.length), .int (nI u), .int ((-4)), .ref (ad 31), .ref (ad 32), .ref (ad 33), .ref (ad 34), .ref (ad 35), .int (nI d), .ref (ad 36), .ref (ad 37), .ref (ad 38), .ref (ad 39), .ref (ad 40), .int (cl), .ref (ad 41), .ref (ad 42), .ref (ad 43), .ref (ad 44), .ref (ad 45), .ref (ad 46), .ref (ad 47)]) hx hb hts inlX8 tyX8 tyX8_ok nmX8 hown hK hs (22) (by omega) (md22 hM) rfl 11 (by decide) (hts _ w_fl_RX8_106) (Or.inl rfl) (by decide +kernel) rfl rfl (Nat.le_of_ble_eq_true rfl) rfl dX8_enter_28 (fun H locs en_4 hen_4 hs => ?_)
    have hM_5 : MdW G n ad en_4 ss ns c (nI u) ((-4)) (nI d) cl := md_pu hM hen_4
    have fr_6 : ∀ k, k < 22 → en_4 k = en k := fun k hk => Eq.trans (by rw [hen_4]; exact va_up_ne _ _ (by omega)) (fr0 k hk)
    refine r_vret (mc := 0) (ms := 0) hx hb hr hlk hs (Nat.le_refl _) (Nat.le_refl _) dX8_enter_31 hQ ?_
    exact ⟨⟨rfl, fr_6⟩, hM_5⟩

set_option maxHeartbeats 600000 in
set_option maxRecDepth 100000 in
theorem c_X8_enter_y (l : Launch) (G : rG) {n : Nat} {ad : Nat → Nat} {en : Nat → va_E} {ss ns : List Row} {c : Nat → Nat → Int32} {cl : Int32} {d u : Nat} (hM : MdW G n ad en ss ns c (nI u) 0 (nI d) cl) {fu : Nat} (hd : d < 80) (hu : u < fu ∧ fu ≤ 3000) : CV l G yX8_enter uX8_enter (0) (0) (0) (0) [.ref (ad 22), .int (nI fu)] (n) (n) ad en (fun ad1 en1 => mFr ad en ad1 en1 ∧ MdW G n ad en1 ss ns (cEnt c d u) (nI (u + 1)) 0 (nI (d + 1)) cl) := by
  intro sz
  refine rMet (Qc := qV G (n) (fun ad1 en1 => mFr ad en ad1 en1 ∧ MdW G n ad en1 ss ns (cEnt c d u) (nI (u + 1)) 0 (nI (d + 1)) cl)) (cc := cX8_enter) (maxL := 2) (ret := none) (by decide) rfl (Nat.le_of_ble_eq_true rfl) ?_
  intro pP eE sS mM aA bB tT cC ls A Q hc hK hsz hA hs hl hQ
  obtain ⟨hx, hb, hr, hts, hown, hlk, hnm, hml⟩ := hc
  have hl : lv_has ls 2 [(0, .ref (ad 22)), (1, .int (nI fu))] := hl
  have fr0 : ∀ k, k < 22 → en k = en k := fun _ _ => rfl
  obtain ⟨hn48, -, -, -, hok, hnk⟩ := id hM
  have h6 := hok.1
  have h8 := hnk.1
  
  refine lv_aload_n hx hb dX8_enter_0 rfl (lv_at hl 0 rfl) ?_
  refine r_get (ci := 8) (v := .int (0)) (C := RX8) (T := TX8) (N := 31) hx hb hts inlX8 hown hK hs (22) (by omega) (md22 hM) rfl 11 (by decide) (hts _ w_fl_RX8_106) rfl dX8_enter_1 ?_
  refine lv_if_eq (tgt := 8) hx hb dX8_enter_4 (by decide) (fun _ => ?_) (fun c4 => absurd (rfl) c4)
  refine lv_aload_n hx hb dX8_enter_8 rfl (lv_at hl 0 rfl) ?_
  refine r_get (ci := 8) (v := .int (nI d)) (C := RX8) (T := TX8) (N := 31) hx hb hts inlX8 hown hK hs (22) (by omega) (md22 hM) rfl 17 (by decide) (hts _ w_fl_RX8_109) rfl dX8_enter_9 ?_
  refine lv_bipush (v := 80) hx hb dX8_enter_12 (by decide) ?_
  refine lv_icmp_eq (tgt := 25) hx hb dX8_enter_14 (by decide) (fun c14 => absurd c14 (fun q => by have := sw_nI (v := 80) q rfl (by omega) (by decide); omega)) (fun _ => ?_)
  refine lv_aload_n hx hb dX8_enter_17 rfl (lv_at hl 0 rfl) ?_
  refine r_get (ci := 8) (v := .int (nI u)) (C := RX8) (T := TX8) (N := 31) hx hb hts inlX8 hown hK hs (22) (by omega) (md22 hM) rfl 10 (by decide) (hts _ w_fl_RX8_112) rfl dX8_enter_18 ?_
  refine lv_iload_n hx hb dX8_enter_21 rfl (lv_at hl 1 rfl) ?_
  refine lv_icmp_ne (tgt := 32) hx hb dX8_enter_22 (by decide) (fun _ => ?_) (fun c22 => absurd c22 (fun q => by have := (nI_eq (by omega) (by omega)).mp q; omega))
  refine lv_aload_n hx hb dX8_enter_32 rfl (lv_at hl 0 rfl) ?_
  refine lv_dup hx hb dX8_enter_33 rfl ?_
  refine r_get (ci := 8) (v := .int (nI u)) (C := RX8) (T := TX8) (N := 31) hx hb hts inlX8 hown hK hs (22) (by omega) (md22 hM) rfl 10 (by decide) (hts _ w_fl_RX8_112) rfl dX8_enter_34 ?_
  refine lv_iconst (v := 1) hx hb dX8_enter_37 (by decide) ?_
  refine lv_iadd hx hb dX8_enter_38 ?_
  refine r_topi (y := nI (u + 1)) (nI_add _ _) ?_
  refine r_put (ci := 8) (v := .int (nI (u + 1))) (ty := .int) (C := RX8) (T := TX8) (N := 31) (fs' := [.ref (ad 23), .ref (ad 24), .ref (ad 25), .int (nI ss.length), .ref (ad 26), .ref (ad 27), .ref (ad 28), .ref (ad 29), .ref (ad 30), .int (nI ns.length), .int (nI (u + 1)), .int (0), .ref (ad 31), .ref (ad 32), .ref (ad 33), .ref (ad 34), .ref (ad 35), .int (nI d), .ref (ad 36), .ref (ad 37), .ref (ad 38), .ref (ad 39), .ref (ad 40), .int (cl), .ref (ad 41), .ref (ad 42), .ref (ad 43), .ref (ad 44), .ref (ad 45), .ref (ad 46), .ref (ad 47)]) hx hb hts inlX8 tyX8 tyX8_ok nmX8 hown hK hs (22) (by omega) (md22 hM) rfl 10 (by decide) (hts _ w_fl_RX8_112) (Or.inl rfl) (by decide +kernel) rfl rfl (Nat.le_of_ble_eq_true rfl) rfl dX8_enter_39 (fun H locs en_1 hen_1 hs => ?_)
  have hM_2 : MdW G n ad en_1 ss ns c (nI (u + 1)) 0 (nI d) cl := md_pu hM hen_1
  have fr_3 : ∀ k, k < 22 → en_1 k = en k := fun k hk => Eq.trans (by rw [hen_1]; exact va_up_ne _ _ (by omega)) (fr0 k hk)
  refine lv_aload_n hx hb dX8_enter_42 rfl (lv_at hl 0 rfl) ?_
  refine lv_dup hx hb dX8_enter_43 rfl ?_
  refine r_get (ci := 8) (v := .int (nI d)) (C := RX8) (T := TX8) (N := 31) hx hb hts inlX8 hown hK hs (22) (by omega) (md22 hM_2) rfl 17 (by decide) (hts _ w_fl_RX8_109) rfl dX8_enter_44 ?_
  refine lv_iconst (v := 1) hx hb dX8_enter_47 (by decide) ?_
  refine lv_iadd hx hb dX8_enter_48 ?_
  refine r_topi (y := nI (d + 1)) (nI_add _ _) ?_
  refine r_put (ci := 8) (v := .int (nI (d + 1))) (ty := .int) (C := RX8) (T := TX8) (N := 31) (fs' := [.ref (ad 23), .ref (ad 24), .ref (ad 25), .int (nI ss.length), .ref (ad 26), .ref (ad 27), .ref (ad 28), .ref (ad 29), .ref (ad 30), .int (nI ns.length), .int (nI (u + 1)), .int (0), .ref (ad 31), .ref (ad 32), .ref (ad 33), .ref (ad 34), .ref (ad 35), .int (nI (d + 1)), .ref (ad 36), .ref (ad 37), .ref (ad 38), .ref (ad 39), .ref (ad 40), .int (cl), .ref (ad 41), .ref (ad 42), .ref (ad 43), .ref (ad 44), .ref (ad 45), .ref (ad 46), .ref (ad 47)]) hx hb hts inlX8 tyX8 tyX8_ok nmX8 hown hK hs (22) (by omega) (md22 hM_2) rfl 17 (by decide) (hts _ w_fl_RX8_109) (Or.inl rfl) (by decide +kernel) rfl rfl (Nat.le_of_ble_eq_true rfl) rfl dX8_enter_49 (fun H locs en_4 hen_4 hs => ?_)
  have hM_5 : MdW G n ad en_4 ss ns c (nI (u + 1)) 0 (nI (d + 1)) cl := md_pu hM_2 hen_4
  have fr_6 : ∀ k, k < 22 → en_4 k = en k := fun k hk => Eq.trans (by rw [hen_4]; exact va_up_ne _ _ (by omega)) (fr_3 k hk)
  refine lv_aload_n hx hb dX8_enter_52 rfl (lv_at hl 0 rfl) ?_
  refine r_get (ci := 8) (v := .ref (ad 33)) (C := RX8) (T := TX8) (N := 31) hx hb hts inlX8 hown hK hs (22) (by omega) (md22 hM_5) rfl 14 (by decide) (hts _ w_fl_RX8_42) rfl dX8_enter_53 ?_
  refine lv_aload_n hx hb dX8_enter_56 rfl (lv_at hl 0 rfl) ?_
  refine r_get (ci := 8) (v := .int (nI (d + 1))) (C := RX8) (T := TX8) (N := 31) hx hb hts inlX8 hown hK hs (22) (by omega) (md22 hM_5) rfl 17 (by decide) (hts _ w_fl_RX8_109) rfl dX8_enter_57 ?_
  refine lv_aload_n hx hb dX8_enter_60 rfl (lv_at hl 0 rfl) ?_
  refine r_get (ci := 8) (v := .int (nI (u + 1))) (C := RX8) (T := TX8) (N := 31) hx hb hts inlX8 hown hK hs (22) (by omega) (md22 hM_5) rfl 10 (by decide) (hts _ w_fl_RX8_112) rfl dX8_enter_61 ?_
  refine r_iastN (t := d + 1) hx hb hK hs (33) (by omega) (md33 hM_5) (rfl) (by omega) (by omega) dX8_enter_64 (fun H locs en_8 hen_8 hs => ?_)
  obtain ⟨c_10, ec_10⟩ : ∃ z, z = cU c 33 (d + 1) (nI (u + 1)) := ⟨_, rfl⟩
  have hM_9 : MdW G n ad en_8 ss ns c_10 (nI (u + 1)) 0 (nI (d + 1)) cl := md_ar (f := upd (c 33) (d + 1) (nI (u + 1))) hM_5 33 (by decide) (by decide) hen_8 ec_10
  have fr_11 : ∀ k, k < 22 → en_8 k = en k := fun k hk => Eq.trans (by rw [hen_8]; exact va_up_ne _ _ (by omega)) (fr_6 k hk)
  refine lv_aload_n hx hb dX8_enter_65 rfl (lv_at hl 0 rfl) ?_
  refine r_get (ci := 8) (v := .ref (ad 34)) (C := RX8) (T := TX8) (N := 31) hx hb hts inlX8 hown hK hs (22) (by omega) (md22 hM_9) rfl 15 (by decide) (hts _ w_fl_RX8_45) rfl dX8_enter_66 ?_
  refine lv_aload_n hx hb dX8_enter_69 rfl (lv_at hl 0 rfl) ?_
  refine r_get (ci := 8) (v := .int (nI (d + 1))) (C := RX8) (T := TX8) (N := 31) hx hb hts inlX8 hown hK hs (22) (by omega) (md22 hM_9) rfl 17 (by decide) (hts _ w_fl_RX8_109) rfl dX8_enter_70 ?_
  refine lv_iconst (v := 0) hx hb dX8_enter_73 (by decide) ?_
  refine r_iastN (t := d + 1) hx hb hK hs (34) (by omega) (md34 hM_9) (rfl) (by omega) (by omega) dX8_enter_74 (fun H locs en_13 hen_13 hs => ?_)
  obtain ⟨c_15, ec_15⟩ : ∃ z, z = cU c_10 34 (d + 1) (0) := ⟨_, rfl⟩
  have hM_14 : MdW G n ad en_13 ss ns c_15 (nI (u + 1)) 0 (nI (d + 1)) cl := md_ar (f := upd (c_10 34) (d + 1) (0)) hM_9 34 (by decide) (by decide) hen_13 ec_15
  have fr_16 : ∀ k, k < 22 → en_13 k = en k := fun k hk => Eq.trans (by rw [hen_13]; exact va_up_ne _ _ (by omega)) (fr_11 k hk)
  refine lv_aload_n hx hb dX8_enter_75 rfl (lv_at hl 0 rfl) ?_
  refine r_get (ci := 8) (v := .ref (ad 35)) (C := RX8) (T := TX8) (N := 31) hx hb hts inlX8 hown hK hs (22) (by omega) (md22 hM_14) rfl 16 (by decide) (hts _ w_fl_RX8_48) rfl dX8_enter_76 ?_
  refine lv_aload_n hx hb dX8_enter_79 rfl (lv_at hl 0 rfl) ?_
  refine r_get (ci := 8) (v := .int (nI (d + 1))) (C := RX8) (T := TX8) (N := 31) hx hb hts inlX8 hown hK hs (22) (by omega) (md22 hM_14) rfl 17 (by decide) (hts _ w_fl_RX8_109) rfl dX8_enter_80 ?_
  refine lv_iconst (v := 0) hx hb dX8_enter_83 (by decide) ?_
  refine r_iastN (t := d + 1) hx hb hK hs (35) (by omega) (md35 hM_14) (rfl) (by omega) (by omega) dX8_enter_84 (fun H locs en_18 hen_18 hs => ?_)
  obtain ⟨c_20, ec_20⟩ : ∃ z, z = cU c_15 35 (d + 1) (0) := ⟨_, rfl⟩
  have hM_19 : MdW G n ad en_18 ss ns c_20 (nI (u + 1)) 0 (nI (d + 1)) cl := md_ar (f := upd (c_15 35) (d + 1) (0)) hM_14 35 (by decide) (by decide) hen_18 ec_20
  have fr_21 : ∀ k, k < 22 → en_18 k = en k := fun k hk => Eq.trans (by rw [hen_18]; exact va_up_ne _ _ (by omega)) (fr_16 k hk)
  refine lv_aload_n hx hb dX8_enter_85 rfl (lv_at hl 0 rfl) ?_
  refine r_get (ci := 8) (v := .ref (ad 36)) (C := RX8) (T := TX8) (N := 31) hx hb hts inlX8 hown hK hs (22) (by omega) (md22 hM_19) rfl 18 (by decide) (hts _ w_fl_RX8_51) rfl dX8_enter_86 ?_
  refine lv_aload_n hx hb dX8_enter_89 rfl (lv_at hl 0 rfl) ?_
  refine r_get (ci := 8) (v := .int (nI (u + 1))) (C := RX8) (T := TX8) (N := 31) hx hb hts inlX8 hown hK hs (22) (by omega) (md22 hM_19) rfl 10 (by decide) (hts _ w_fl_RX8_112) rfl dX8_enter_90 ?_
  refine lv_iconst (v := 0) hx hb dX8_enter_93 (by decide) ?_
  refine r_iastN (t := u + 1) hx hb hK hs (36) (by omega) (md36 hM_19) (rfl) (by omega) (by omega) dX8_enter_94 (fun H locs en_23 hen_23 hs => ?_)
  obtain ⟨c_25, ec_25⟩ : ∃ z, z = cU c_20 36 (u + 1) (0) := ⟨_, rfl⟩
  have hM_24 : MdW G n ad en_23 ss ns c_25 (nI (u + 1)) 0 (nI (d + 1)) cl := md_ar (f := upd (c_20 36) (u + 1) (0)) hM_19 36 (by decide) (by decide) hen_23 ec_25
  have fr_26 : ∀ k, k < 22 → en_23 k = en k := fun k hk => Eq.trans (by rw [hen_23]; exact va_up_ne _ _ (by omega)) (fr_21 k hk)
  refine lv_aload_n hx hb dX8_enter_95 rfl (lv_at hl 0 rfl) ?_
  refine r_get (ci := 8) (v := .ref (ad 38)) (C := RX8) (T := TX8) (N := 31) hx hb hts inlX8 hown hK hs (22) (by omega) (md22 hM_24) rfl 20 (by decide) (hts _ w_fl_RX8_57) rfl dX8_enter_96 ?_
  refine lv_aload_n hx hb dX8_enter_99 rfl (lv_at hl 0 rfl) ?_
  refine r_get (ci := 8) (v := .int (nI (u + 1))) (C := RX8) (T := TX8) (N := 31) hx hb hts inlX8 hown hK hs (22) (by omega) (md22 hM_24) rfl 10 (by decide) (hts _ w_fl_RX8_112) rfl dX8_enter_100 ?_
  refine lv_aload_n hx hb dX8_enter_103 rfl (lv_at hl 0 rfl) ?_
  refine r_get (ci := 8) (v := .ref (ad 32)) (C := RX8) (T := TX8) (N := 31) hx hb hts inlX8 hown hK hs (22) (by omega) (md22 hM_24) rfl 13 (by decide) (hts _ w_fl_RX8_39) rfl dX8_enter_104 ?_
  refine lv_aload_n hx hb dX8_enter_107 rfl (lv_at hl 0 rfl) ?_
  refine r_get (ci := 8) (v := .int (nI (d + 1))) (C := RX8) (T := TX8) (N := 31) hx hb hts inlX8 hown hK hs (22) (by omega) (md22 hM_24) rfl 17 (by decide) (hts _ w_fl_RX8_109) rfl dX8_enter_108 ?_
  refine r_ialdN (t := d + 1) hx hb hK hs (32) (by omega) (md32 hM_24) (rfl) (by omega) (by omega) dX8_enter_111 ?_
  refine r_topi (y := c 32 (d + 1)) (by rw [ec_25, cU_o (by omega), ec_20, cU_o (by omega), ec_15, cU_o (by omega), ec_10, cU_o (by omega)]) ?_
  refine r_iastN (t := u + 1) hx hb hK hs (38) (by omega) (md38 hM_24) (rfl) (by omega) (by omega) dX8_enter_112 (fun H locs en_28 hen_28 hs => ?_)
  obtain ⟨c_30, ec_30⟩ : ∃ z, z = cU c_25 38 (u + 1) (c 32 (d + 1)) := ⟨_, rfl⟩
  have hM_29 : MdW G n ad en_28 ss ns c_30 (nI (u + 1)) 0 (nI (d + 1)) cl := md_ar (f := upd (c_25 38) (u + 1) (c 32 (d + 1))) hM_24 38 (by decide) (by decide) hen_28 ec_30
  have fr_31 : ∀ k, k < 22 → en_28 k = en k := fun k hk => Eq.trans (by rw [hen_28]; exact va_up_ne _ _ (by omega)) (fr_26 k hk)
  refine lv_aload_n hx hb dX8_enter_113 rfl (lv_at hl 0 rfl) ?_
  refine r_get (ci := 8) (v := .ref (ad 39)) (C := RX8) (T := TX8) (N := 31) hx hb hts inlX8 hown hK hs (22) (by omega) (md22 hM_29) rfl 21 (by decide) (hts _ w_fl_RX8_60) rfl dX8_enter_114 ?_
  refine lv_aload_n hx hb dX8_enter_117 rfl (lv_at hl 0 rfl) ?_
  refine r_get (ci := 8) (v := .int (nI (u + 1))) (C := RX8) (T := TX8) (N := 31) hx hb hts inlX8 hown hK hs (22) (by omega) (md22 hM_29) rfl 10 (by decide) (hts _ w_fl_RX8_112) rfl dX8_enter_118 ?_
  refine lv_iconst (v := 0) hx hb dX8_enter_121 (by decide) ?_
  refine r_iastN (t := u + 1) hx hb hK hs (39) (by omega) (md39 hM_29) (rfl) (by omega) (by omega) dX8_enter_122 (fun H locs en_33 hen_33 hs => ?_)
  obtain ⟨c_35, ec_35⟩ : ∃ z, z = cU c_30 39 (u + 1) (0) := ⟨_, rfl⟩
  have hM_34 : MdW G n ad en_33 ss ns c_35 (nI (u + 1)) 0 (nI (d + 1)) cl := md_ar (f := upd (c_30 39) (u + 1) (0)) hM_29 39 (by decide) (by decide) hen_33 ec_35
  have fr_36 : ∀ k, k < 22 → en_33 k = en k := fun k hk => Eq.trans (by rw [hen_33]; exact va_up_ne _ _ (by omega)) (fr_31 k hk)
  refine lv_aload_n hx hb dX8_enter_123 rfl (lv_at hl 0 rfl) ?_
  refine r_get (ci := 8) (v := .ref (ad 40)) (C := RX8) (T := TX8) (N := 31) hx hb hts inlX8 hown hK hs (22) (by omega) (md22 hM_34) rfl 22 (by decide) (hts _ w_fl_RX8_63) rfl dX8_enter_124 ?_
  refine lv_aload_n hx hb dX8_enter_127 rfl (lv_at hl 0 rfl) ?_
  refine r_get (ci := 8) (v := .int (nI (u + 1))) (C := RX8) (T := TX8) (N := 31) hx hb hts inlX8 hown hK hs (22) (by omega) (md22 hM_34) rfl 10 (by decide) (hts _ w_fl_RX8_112) rfl dX8_enter_128 ?_
  refine lv_iconst (v := 0) hx hb dX8_enter_131 (by decide) ?_
  refine r_iastN (t := u + 1) hx hb hK hs (40) (by omega) (md40 hM_34) (rfl) (by omega) (by omega) dX8_enter_132 (fun H locs en_38 hen_38 hs => ?_)
  obtain ⟨c_40, ec_40⟩ : ∃ z, z = cU c_35 40 (u + 1) (0) := ⟨_, rfl⟩
  have hM_39 : MdW G n ad en_38 ss ns c_40 (nI (u + 1)) 0 (nI (d + 1)) cl := md_ar (f := upd (c_35 40) (u + 1) (0)) hM_34 40 (by decide) (by decide) hen_38 ec_40
  have fr_41 : ∀ k, k < 22 → en_38 k = en k := fun k hk => Eq.trans (by rw [hen_38]; exact va_up_ne _ _ (by omega)) (fr_36 k hk)
  refine r_vret (mc := 0) (ms := 0) hx hb hr hlk hs (Nat.le_refl _) (Nat.le_refl _) dX8_enter_133 hQ ?_
  exact ⟨⟨rfl, fr_41⟩, by rw [cEnt, ← ec_10, ← ec_15, ← ec_20, ← ec_25, ← ec_30, ← ec_35, ← ec_40]; exact hM_39⟩

set_option maxHeartbeats 600000 in
set_option maxRecDepth 100000 in
theorem c_X8_close (l : Launch) (G : rG) {n : Nat} {ad : Nat → Nat} {en : Nat → va_E} {ss ns : List Row} {c : Nat → Nat → Int32} {us : Int32} {ov : Int32} {cl : Int32} {d : Nat} (hM : MdW G n ad en ss ns c us ov (nI (d + 1)) cl) (b : Bool) (hd : d < 80) : CV l G yX8_close uX8_close (0) (0) (0) (0) [.ref (ad 22), .int (b2i b)] (n) (n) ad en (fun ad1 en1 => mFr ad en ad1 en1 ∧ MdW G n ad en1 ss ns c us ov (nI d) (if b then c 33 (d + 1) else 0)) := by
  intro sz
  refine rMet (Qc := qV G (n) (fun ad1 en1 => mFr ad en ad1 en1 ∧ MdW G n ad en1 ss ns c us ov (nI d) (if b then c 33 (d + 1) else 0))) (cc := cX8_close) (maxL := 2) (ret := none) (by decide) rfl (Nat.le_of_ble_eq_true rfl) ?_
  intro pP eE sS mM aA bB tT cC ls A Q hc hK hsz hA hs hl hQ
  obtain ⟨hx, hb, hr, hts, hown, hlk, hnm, hml⟩ := hc
  have hl : lv_has ls 2 [(0, .ref (ad 22)), (1, .int (b2i b))] := hl
  have fr0 : ∀ k, k < 22 → en k = en k := fun _ _ => rfl
  obtain ⟨hn48, -, -, -, hok, hnk⟩ := id hM
  have h6 := hok.1
  have h8 := hnk.1
  
  refine lv_aload_n hx hb dX8_close_0 rfl (lv_at hl 0 rfl) ?_
  refine lv_iload_n hx hb dX8_close_1 rfl (lv_at hl 1 rfl) ?_
  refine lv_if_eq (tgt := 17) hx hb dX8_close_2 (by decide) (fun c2 => ?_) (fun c2 => ?_)
  · skip
    have hb0 := b2i_0 c2
    refine lv_iconst (v := 0) hx hb dX8_close_17 (by decide) ?_
    refine r_put (ci := 8) (v := .int (0)) (ty := .int) (C := RX8) (T := TX8) (N := 31) (fs' := [.ref (ad 23), .ref (ad 24), .ref (ad 25), .int (nI ss.length), .ref (ad 26), .ref (ad 27), .ref (ad 28), .ref (ad 29), .ref (ad 30), .int (nI ns.length), .int (us), .int (ov), .ref (ad 31), .ref (ad 32), .ref (ad 33), .ref (ad 34), .ref (ad 35), .int (nI (d + 1)), .ref (ad 36), .ref (ad 37), .ref (ad 38), .ref (ad 39), .ref (ad 40), .int (0), .ref (ad 41), .ref (ad 42), .ref (ad 43), .ref (ad 44), .ref (ad 45), .ref (ad 46), .ref (ad 47)]) hx hb hts inlX8 tyX8 tyX8_ok nmX8 hown hK hs (22) (by omega) (md22 hM) rfl 23 (by decide) (hts _ w_fl_RX8_115) (Or.inl rfl) (by decide +kernel) rfl rfl (Nat.le_of_ble_eq_true rfl) rfl dX8_close_18 (fun H locs en_1 hen_1 hs => ?_)
    have hM_2 : MdW G n ad en_1 ss ns c us ov (nI (d + 1)) 0 := md_pu hM hen_1
    have fr_3 : ∀ k, k < 22 → en_1 k = en k := fun k hk => Eq.trans (by rw [hen_1]; exact va_up_ne _ _ (by omega)) (fr0 k hk)
    refine lv_aload_n hx hb dX8_close_21 rfl (lv_at hl 0 rfl) ?_
    refine lv_dup hx hb dX8_close_22 rfl ?_
    refine r_get (ci := 8) (v := .int (nI (d + 1))) (C := RX8) (T := TX8) (N := 31) hx hb hts inlX8 hown hK hs (22) (by omega) (md22 hM_2) rfl 17 (by decide) (hts _ w_fl_RX8_109) rfl dX8_close_23 ?_
    refine lv_iconst (v := 1) hx hb dX8_close_26 (by decide) ?_
    refine lv_isub hx hb dX8_close_27 ?_
    refine r_topi (y := nI d) (nI_pre d) ?_
    refine r_put (ci := 8) (v := .int (nI d)) (ty := .int) (C := RX8) (T := TX8) (N := 31) (fs' := [.ref (ad 23), .ref (ad 24), .ref (ad 25), .int (nI ss.length), .ref (ad 26), .ref (ad 27), .ref (ad 28), .ref (ad 29), .ref (ad 30), .int (nI ns.length), .int (us), .int (ov), .ref (ad 31), .ref (ad 32), .ref (ad 33), .ref (ad 34), .ref (ad 35), .int (nI d), .ref (ad 36), .ref (ad 37), .ref (ad 38), .ref (ad 39), .ref (ad 40), .int (0), .ref (ad 41), .ref (ad 42), .ref (ad 43), .ref (ad 44), .ref (ad 45), .ref (ad 46), .ref (ad 47)]) hx hb hts inlX8 tyX8 tyX8_ok nmX8 hown hK hs (22) (by omega) (md22 hM_2) rfl 17 (by decide) (hts _ w_fl_RX8_109) (Or.inl rfl) (by decide +kernel) rfl rfl (Nat.le_of_ble_eq_true rfl) rfl dX8_close_28 (fun H locs en_4 hen_4 hs => ?_)
    have hM_5 : MdW G n ad en_4 ss ns c us ov (nI d) 0 := md_pu hM_2 hen_4
    have fr_6 : ∀ k, k < 22 → en_4 k = en k := fun k hk => Eq.trans (by rw [hen_4]; exact va_up_ne _ _ (by omega)) (fr_3 k hk)
    refine r_vret (mc := 0) (ms := 0) hx hb hr hlk hs (Nat.le_refl _) (Nat.le_refl _) dX8_close_31 hQ ?_
    exact ⟨⟨rfl, fr_6⟩, by rw [hb0, if_neg (by decide)]; exact hM_5⟩
  · skip
    have hb1 := b2i_1 c2
    refine lv_aload_n hx hb dX8_close_5 rfl (lv_at hl 0 rfl) ?_
    refine r_get (ci := 8) (v := .ref (ad 33)) (C := RX8) (T := TX8) (N := 31) hx hb hts inlX8 hown hK hs (22) (by omega) (md22 hM) rfl 14 (by decide) (hts _ w_fl_RX8_42) rfl dX8_close_6 ?_
    refine lv_aload_n hx hb dX8_close_9 rfl (lv_at hl 0 rfl) ?_
    refine r_get (ci := 8) (v := .int (nI (d + 1))) (C := RX8) (T := TX8) (N := 31) hx hb hts inlX8 hown hK hs (22) (by omega) (md22 hM) rfl 17 (by decide) (hts _ w_fl_RX8_109) rfl dX8_close_10 ?_
    refine r_ialdN (t := d + 1) hx hb hK hs (33) (by omega) (md33 hM) (rfl) (by omega) (by omega) dX8_close_13 ?_
    refine lv_goto (tgt := 18) hx hb dX8_close_14 (by decide) ?_
    refine r_put (ci := 8) (v := .int (c 33 (d + 1))) (ty := .int) (C := RX8) (T := TX8) (N := 31) (fs' := [.ref (ad 23), .ref (ad 24), .ref (ad 25), .int (nI ss.length), .ref (ad 26), .ref (ad 27), .ref (ad 28), .ref (ad 29), .ref (ad 30), .int (nI ns.length), .int (us), .int (ov), .ref (ad 31), .ref (ad 32), .ref (ad 33), .ref (ad 34), .ref (ad 35), .int (nI (d + 1)), .ref (ad 36), .ref (ad 37), .ref (ad 38), .ref (ad 39), .ref (ad 40), .int (c 33 (d + 1)), .ref (ad 41), .ref (ad 42), .ref (ad 43), .ref (ad 44), .ref (ad 45), .ref (ad 46), .ref (ad 47)]) hx hb hts inlX8 tyX8 tyX8_ok nmX8 hown hK hs (22) (by omega) (md22 hM) rfl 23 (by decide) (hts _ w_fl_RX8_115) (Or.inl rfl) (by decide +kernel) rfl rfl (Nat.le_of_ble_eq_true rfl) rfl dX8_close_18 (fun H locs en_7 hen_7 hs => ?_)
    have hM_8 : MdW G n ad en_7 ss ns c us ov (nI (d + 1)) (c 33 (d + 1)) := md_pu hM hen_7
    have fr_9 : ∀ k, k < 22 → en_7 k = en k := fun k hk => Eq.trans (by rw [hen_7]; exact va_up_ne _ _ (by omega)) (fr0 k hk)
    refine lv_aload_n hx hb dX8_close_21 rfl (lv_at hl 0 rfl) ?_
    refine lv_dup hx hb dX8_close_22 rfl ?_
    refine r_get (ci := 8) (v := .int (nI (d + 1))) (C := RX8) (T := TX8) (N := 31) hx hb hts inlX8 hown hK hs (22) (by omega) (md22 hM_8) rfl 17 (by decide) (hts _ w_fl_RX8_109) rfl dX8_close_23 ?_
    refine lv_iconst (v := 1) hx hb dX8_close_26 (by decide) ?_
    refine lv_isub hx hb dX8_close_27 ?_
    refine r_topi (y := nI d) (nI_pre d) ?_
    refine r_put (ci := 8) (v := .int (nI d)) (ty := .int) (C := RX8) (T := TX8) (N := 31) (fs' := [.ref (ad 23), .ref (ad 24), .ref (ad 25), .int (nI ss.length), .ref (ad 26), .ref (ad 27), .ref (ad 28), .ref (ad 29), .ref (ad 30), .int (nI ns.length), .int (us), .int (ov), .ref (ad 31), .ref (ad 32), .ref (ad 33), .ref (ad 34), .ref (ad 35), .int (nI d), .ref (ad 36), .ref (ad 37), .ref (ad 38), .ref (ad 39), .ref (ad 40), .int (c 33 (d + 1)), .ref (ad 41), .ref (ad 42), .ref (ad 43), .ref (ad 44), .ref (ad 45), .ref (ad 46), .ref (ad 47)]) hx hb hts inlX8 tyX8 tyX8_ok nmX8 hown hK hs (22) (by omega) (md22 hM_8) rfl 17 (by decide) (hts _ w_fl_RX8_109) (Or.inl rfl) (by decide +kernel) rfl rfl (Nat.le_of_ble_eq_true rfl) rfl dX8_close_28 (fun H locs en_10 hen_10 hs => ?_)
    have hM_11 : MdW G n ad en_10 ss ns c us ov (nI d) (c 33 (d + 1)) := md_pu hM_8 hen_10
    have fr_12 : ∀ k, k < 22 → en_10 k = en k := fun k hk => Eq.trans (by rw [hen_10]; exact va_up_ne _ _ (by omega)) (fr_9 k hk)
    refine r_vret (mc := 0) (ms := 0) hx hb hr hlk hs (Nat.le_refl _) (Nat.le_refl _) dX8_close_31 hQ ?_
    exact ⟨⟨rfl, fr_12⟩, by rw [hb1, if_pos rfl]; exact hM_11⟩

set_option maxHeartbeats 600000 in
set_option maxRecDepth 100000 in
theorem c_X8_isA (l : Launch) (G : rG) {n : Nat} {ad : Nat → Nat} {en : Nat → va_E} {ss ns : List Row} {c : Nat → Nat → Int32} {us : Int32} {ov : Int32} {dp : Int32} {cl : Int32}  (hM : MdW G n ad en ss ns c us ov dp cl) {f so : Nat} (hf : f ≤ 600) (hso : so < 2 ^ 31) : CI l G yX8_isA uX8_isA (0) (0) (0) (0) [.ref (ad 22), .int (nI f), .int (nI so)] (n) (n) ad en (roV ad en (b2i (isK ss f so))) := by
  intro sz
  refine rMet (Qc := qI G (n) (roV ad en (b2i (isK ss f so)))) (cc := cX8_isA) (maxL := 3) (ret := (some .boolean)) (by decide) rfl (Nat.le_of_ble_eq_true rfl) ?_
  intro pP eE sS mM aA bB tT cC ls A Q hc hK hsz hA hs hl hQ
  obtain ⟨hx, hb, hr, hts, hown, hlk, hnm, hml⟩ := hc
  have hl : lv_has ls 3 [(0, .ref (ad 22)), (1, .int (nI f)), (2, .int (nI so))] := hl
  have fr0 : ∀ k, k < 22 → en k = en k := fun _ _ => rfl
  obtain ⟨hn48, -, -, -, hok, hnk⟩ := id hM
  have h6 := hok.1
  have h8 := hnk.1
  
  refine lv_iload_n hx hb dX8_isA_0 rfl (lv_at hl 1 rfl) ?_
  refine lv_if_le (tgt := 18) hx hb dX8_isA_1 (by decide) (fun c1 => ?_) (fun c1 => ?_)
  · skip
    refine lv_iconst (v := 0) hx hb dX8_isA_18 (by decide) ?_
    refine r_zret (v := 0) (mc := 0) (ms := 0) hx hb hr hlk hs (Nat.le_refl _) (Nat.le_refl _) dX8_isA_19 ?_ hQ ?_
    · first | exact Or.inl rfl | exact Or.inr rfl | exact b2i_z _
    exact roV.rf (by rw [show isK ss f so = false from decide_eq_false (fun q => by have := nI_le0 (by omega) c1; omega)]; rfl)
  · skip
    refine lv_aload_n hx hb dX8_isA_4 rfl (lv_at hl 0 rfl) ?_
    refine r_get (ci := 8) (v := .ref (ad 23)) (C := RX8) (T := TX8) (N := 31) hx hb hts inlX8 hown hK hs (22) (by omega) (md22 hM) rfl 0 (by decide) (hts _ w_fl_RX8_7) rfl dX8_isA_5 ?_
    refine lv_iload_n hx hb dX8_isA_8 rfl (lv_at hl 1 rfl) ?_
    refine r_ialdN (t := f) hx hb hK hs (23) (by omega) (md23 hM) (rfl) (by omega) (by omega) dX8_isA_9 ?_
    refine r_topi (y := nI (sSort ss (f))) rfl ?_
    refine lv_iload_n hx hb dX8_isA_10 rfl (lv_at hl 2 rfl) ?_
    refine lv_icmp_ne (tgt := 18) hx hb dX8_isA_11 (by decide) (fun c11 => ?_) (fun c11 => ?_)
    · skip
      refine lv_iconst (v := 0) hx hb dX8_isA_18 (by decide) ?_
      refine r_zret (v := 0) (mc := 0) (ms := 0) hx hb hr hlk hs (Nat.le_refl _) (Nat.le_refl _) dX8_isA_19 ?_ hQ ?_
      · first | exact Or.inl rfl | exact Or.inr rfl | exact b2i_z _
      exact roV.rf (by rw [show isK ss f so = false from decide_eq_false (fun q => c11 (by rw [q.2]))]; rfl)
    · skip
      refine lv_iconst (v := 1) hx hb dX8_isA_14 (by decide) ?_
      refine lv_goto (tgt := 19) hx hb dX8_isA_15 (by decide) ?_
      refine r_zret (v := 1) (mc := 0) (ms := 0) hx hb hr hlk hs (Nat.le_refl _) (Nat.le_refl _) dX8_isA_19 ?_ hQ ?_
      · first | exact Or.inl rfl | exact Or.inr rfl | exact b2i_z _
      exact roV.rf (by rw [show isK ss f so = true from decide_eq_true ⟨by have : ¬ f = 0 := fun q => c1 (by rw [q]; decide); omega, (nI_eq (by have := sort_le hok (k := f); omega) hso).mp c11⟩]; rfl)

set_option maxHeartbeats 600000 in
set_option maxRecDepth 100000 in
theorem c_X8_falseOne (l : Launch) (G : rG) {n : Nat} {ad : Nat → Nat} {en : Nat → va_E} {ss ns : List Row} {c : Nat → Nat → Int32} {us : Int32} {ov : Int32} {dp : Int32} {cl : Int32}  (hM : MdW G n ad en ss ns c us ov dp cl)  : CI l G yX8_falseOne uX8_falseOne (1) (24) (0) (0) [.ref (ad 22)] (n) (n) ad en (roV ad en (nI (kFind ss (1, 0, 0, 0, 0)))) := by
  intro sz
  refine rMet (Qc := qI G (n) (roV ad en (nI (kFind ss (1, 0, 0, 0, 0))))) (cc := cX8_falseOne) (maxL := 2) (ret := (some .int)) (by decide) rfl (Nat.le_of_ble_eq_true rfl) ?_
  intro pP eE sS mM aA bB tT cC ls A Q hc hK hsz hA hs hl hQ
  obtain ⟨hx, hb, hr, hts, hown, hlk, hnm, hml⟩ := hc
  have hl : lv_has ls 2 [(0, .ref (ad 22))] := hl
  have fr0 : ∀ k, k < 22 → en k = en k := fun _ _ => rfl
  obtain ⟨hn48, -, -, -, hok, hnk⟩ := id hM
  have h6 := hok.1
  have h8 := hnk.1
  have hfm := fM_le (ss := ss) (1, 0, 0, 0, 0)
  have hkl : kFind ss (1, 0, 0, 0, 0) ≤ ss.length := kFU_le _ _ _
  refine lv_aload_n hx hb dX8_falseOne_0 rfl (lv_at hl 0 rfl) ?_
  refine lv_iconst (v := 1) hx hb dX8_falseOne_1 (by decide) ?_
  refine lv_iconst (v := 0) hx hb dX8_falseOne_2 (by decide) ?_
  refine lv_iconst (v := 0) hx hb dX8_falseOne_3 (by decide) ?_
  refine r_callViR (ci := 8) (As := [.int (1), .int (0), .int (0)]) hx hb hml hown hts hK hA hs (22) (by omega) (md22 hM) rfl rfl (c_X8_find l G hM (so := 1) (a := 0) (b := 0) (by decide)) (cwV 3 hts (tbV w_ml_RX8_92 w_im_yX8_find w_se_yX8_find w_ini_RX8 w_cd_yX8_find) rfl rfl rfl (by decide +kernel) ⟨Nat.le_of_ble_eq_true rfl, Nat.le_of_ble_eq_true rfl⟩) rfl hl.1 rfl (Nat.le_of_ble_eq_true rfl) dX8_falseOne_4 ⟨Nat.zero_le _, Nat.zero_le _⟩ (fun H locs hs => ?_)
  refine lv_istore_n (lv' := [(1, .int (nI (fM ss (1, 0, 0, 0, 0)))), (0, .ref (ad 22))]) hx hb dX8_falseOne_7 rfl hl (by decide) rfl (fun ls hl => ?_)
  refine lv_iload_n hx hb dX8_falseOne_8 rfl (lv_at hl 0 rfl) ?_
  refine lv_aload_n hx hb dX8_falseOne_9 rfl (lv_at hl 1 rfl) ?_
  refine r_get (ci := 8) (v := .int (nI ss.length)) (C := RX8) (T := TX8) (N := 31) hx hb hts inlX8 hown hK hs (22) (by omega) (md22 hM) rfl 3 (by decide) (hts _ w_fl_RX8_88) rfl dX8_falseOne_10 ?_
  refine lv_icmp_gt (tgt := 20) hx hb dX8_falseOne_13 (by decide) (fun c13 => ?_) (fun c13 => ?_)
  · skip
    refine lv_iconst (v := 0) hx hb dX8_falseOne_20 (by decide) ?_
    refine r_iret (v := 0) (mc := 0) (ms := 0) hx hb hr hlk hs (Nat.le_refl _) (Nat.le_refl _) dX8_falseOne_21 hQ ?_
    exact roV.rf (by
      have z := (nI_ltI (by omega) (by omega)).mp c13
      by_cases q : kFind ss (1, 0, 0, 0, 0) = 0
      · rw [q]; rfl
      · have e : fM ss (1, 0, 0, 0, 0) = kFind ss (1, 0, 0, 0, 0) := if_neg q
        omega)
  · skip
    refine lv_iload_n hx hb dX8_falseOne_16 rfl (lv_at hl 0 rfl) ?_
    refine lv_goto (tgt := 21) hx hb dX8_falseOne_17 (by decide) ?_
    refine r_iret (v := nI (fM ss (1, 0, 0, 0, 0))) (mc := 0) (ms := 0) hx hb hr hlk hs (Nat.le_refl _) (Nat.le_refl _) dX8_falseOne_21 hQ ?_
    exact roV.rf (congrArg nI (by
      by_cases q : kFind ss (1, 0, 0, 0, 0) = 0
      · have e : fM ss (1, 0, 0, 0, 0) = ss.length + 1 := if_pos q
        exact absurd ((nI_ltI (by omega) (by omega)).mpr (by omega)) c13
      · exact if_neg q))

set_option maxHeartbeats 600000 in
set_option maxRecDepth 100000 in
theorem c_X8_mark (l : Launch) (G : rG) {n : Nat} {ad : Nat → Nat} {en : Nat → va_E} {ss ns : List Row} {c : Nat → Nat → Int32} {us : Int32} {ov : Int32} {dp : Int32} {cl : Int32}  (hM : MdW G n ad en ss ns c us ov dp cl) {k : Nat} (hk : 1 ≤ k ∧ k ≤ ns.length) : CV l G yX8_mark uX8_mark (0) (0) (0) (0) [.ref (ad 22), .int (nI k)] (n) (n) ad en (fun ad1 en1 => mFr ad en ad1 en1 ∧ ∃ c1, MdW G n ad en1 ss ns c1 us ov dp cl ∧ MkI ns c1 k 0) := by
  intro sz
  refine rMet (Qc := qV G (n) (fun ad1 en1 => mFr ad en ad1 en1 ∧ ∃ c1, MdW G n ad en1 ss ns c1 us ov dp cl ∧ MkI ns c1 k 0)) (cc := cX8_mark) (maxL := 3) (ret := none) (by decide) rfl (Nat.le_of_ble_eq_true rfl) ?_
  intro pP eE sS mM aA bB tT cC ls A Q hc hK hsz hA hs hl hQ
  obtain ⟨hx, hb, hr, hts, hown, hlk, hnm, hml⟩ := hc
  have hl : lv_has ls 3 [(0, .ref (ad 22)), (1, .int (nI k))] := hl
  have fr0 : ∀ k, k < 22 → en k = en k := fun _ _ => rfl
  obtain ⟨hn48, -, -, -, hok, hnk⟩ := id hM
  have h6 := hok.1
  have h8 := hnk.1
  
  refine lv_iconst (v := 1) hx hb dX8_mark_0 (by decide) ?_
  refine r_topi (y := nI 1) (rfl) ?_
  refine lv_istore_n (lv' := [(2, .int (nI 1)), (0, .ref (ad 22)), (1, .int (nI k))]) hx hb dX8_mark_1 rfl hl (by decide) rfl (fun ls hl => ?_)
  suffices LOOP2 : ∀ (fu2 : Nat) (j : Nat) (c2 : Nat → Nat → Int32) (en2 : Nat → va_E) (H : Heap) (locs : List Loc) (ls : Array Slot), (1 ≤ j ∧ j ≤ k + 1) → (∀ i, 1 ≤ i → i < j → c2 45 i = if i = k then 1 else 0) → (MdW G n ad en2 ss ns c2 us ov dp cl) → (∀ k, k < 22 → en2 k = en k) → k + 2 - j < fu2 → rS G A sS.heap (n) ad en2 H locs → lv_has ls 3 [(0, .ref (ad 22)), (1, .int (nI k)), (2, .int (nI j))] → W pP l eE (rRm (0) (0) (0) (0)) sS mM aA bB tT cC H locs (0) (0) Q (F0 mM 2 ls []) from LOOP2 _ (1) (c) (en) _ _ _ (by omega) (fun i a b => by omega) (hM) (fr0) (Nat.lt_succ_self _) hs (lv_sub hl [1, 2, 0] rfl)
  intro fu2
  induction fu2 with
  | zero => intro j c2 en2 H locs ls hj hz hM2 fr2 hfu; exact absurd hfu (Nat.not_lt_zero _)
  | succ fu2 ih2 => ?_
  intro j c2 en2 H locs ls hj hz hM2 fr2 hfu2 hs hl
  refine lv_iload_n hx hb dX8_mark_2 rfl (lv_at hl 2 rfl) ?_
  refine lv_iload_n hx hb dX8_mark_3 rfl (lv_at hl 1 rfl) ?_
  refine lv_icmp_gt (tgt := 29) hx hb dX8_mark_4 (by decide) (fun c4 => ?_) (fun c4 => ?_)
  · skip
    have hjk : j = k + 1 := by have := (nI_ltI (by omega) (by omega)).mp c4; omega
    refine lv_iload_n hx hb dX8_mark_29 rfl (lv_at hl 1 rfl) ?_
    refine lv_istore_n (lv' := [(2, .int (nI k)), (0, .ref (ad 22)), (1, .int (nI k))]) hx hb dX8_mark_30 rfl hl (by decide) rfl (fun ls hl => ?_)
    suffices LOOP31 : ∀ (fu31 : Nat) (i : Nat) (c2 : Nat → Nat → Int32) (en2 : Nat → va_E) (H : Heap) (locs : List Loc) (ls : Array Slot), (i ≤ k) → (MkI ns c2 k i) → (MdW G n ad en2 ss ns c2 us ov dp cl) → (∀ k, k < 22 → en2 k = en k) → i + 1 < fu31 → rS G A sS.heap (n) ad en2 H locs → lv_has ls 3 [(0, .ref (ad 22)), (1, .int (nI k)), (2, .int (nI i))] → W pP l eE (rRm (0) (0) (0) (0)) sS mM aA bB tT cC H locs (0) (0) Q (F0 mM 31 ls []) from LOOP31 _ (k) (c2) (en2) _ _ _ (Nat.le_refl _) (mk_start hk.1 (by rw [show k + 1 = j by omega]; exact hz)) (hM2) (fr2) (Nat.lt_succ_self _) hs (lv_sub hl [1, 2, 0] rfl)
    intro fu31
    induction fu31 with
    | zero => intro i c2 en2 H locs ls hi hmk hM2 fr2 hfu; exact absurd hfu (Nat.not_lt_zero _)
    | succ fu31 ih31 => ?_
    intro i c2 en2 H locs ls hi hmk hM2 fr2 hfu31 hs hl
    refine lv_iload_n hx hb dX8_mark_31 rfl (lv_at hl 2 rfl) ?_
    refine lv_if_le (tgt := 89) hx hb dX8_mark_32 (by decide) (fun c32 => ?_) (fun c32 => ?_)
    · skip
      have hi0 : i = 0 := nI_le0 (by omega) c32
      subst hi0
      refine lv_aload_n hx hb dX8_mark_89 rfl (lv_at hl 0 rfl) ?_
      refine r_get (ci := 8) (v := .ref (ad 45)) (C := RX8) (T := TX8) (N := 31) hx hb hts inlX8 hown hK hs (22) (by omega) (md22 hM2) rfl 28 (by decide) (hts _ w_fl_RX8_78) rfl dX8_mark_90 ?_
      refine lv_iconst (v := 0) hx hb dX8_mark_93 (by decide) ?_
      refine lv_iconst (v := 0) hx hb dX8_mark_94 (by decide) ?_
      refine r_zastN (t := 0) hx hb hK hs (45) (by omega) (md45 hM2) (rfl) (by decide) (by decide) dX8_mark_95 (fun H locs en_2 hen_2 hs => ?_)
      obtain ⟨c_4, ec_4⟩ : ∃ z, z = cU c2 45 (0) (0) := ⟨_, rfl⟩
      have hM_3 : MdW G n ad en_2 ss ns c_4 us ov dp cl := md_ar (f := upd (c2 45) (0) (0)) hM2 45 (by decide) (by decide) (by rw [hen_2, show vp_nar .boolean 0 = 0 from rfl]; rfl) ec_4
      have fr_5 : ∀ k, k < 22 → en_2 k = en k := fun k hk => Eq.trans (by rw [hen_2]; exact va_up_ne _ _ (by omega)) (fr2 k hk)
      refine r_vret (mc := 0) (ms := 0) hx hb hr hlk hs (Nat.le_refl _) (Nat.le_refl _) dX8_mark_96 hQ ?_
      exact ⟨⟨rfl, fr_5⟩, _, hM_3, by rw [ec_4]; exact mk_0 hk.1 hmk _⟩
    · skip
      obtain ⟨q, rfl⟩ : ∃ q, i = q + 1 := ⟨i - 1, by have : ¬ i = 0 := fun z => c32 (by rw [z]; decide); omega⟩
      obtain ⟨p1, p2, p3, p4, p5⟩ := part_lt hnk (k := q + 1) ⟨by omega, by omega⟩
      refine lv_aload_n hx hb dX8_mark_35 rfl (lv_at hl 0 rfl) ?_
      refine r_get (ci := 8) (v := .ref (ad 45)) (C := RX8) (T := TX8) (N := 31) hx hb hts inlX8 hown hK hs (22) (by omega) (md22 hM2) rfl 28 (by decide) (hts _ w_fl_RX8_78) rfl dX8_mark_36 ?_
      refine lv_iload_n hx hb dX8_mark_39 rfl (lv_at hl 2 rfl) ?_
      refine r_zaldN (t := q + 1) hx hb hK hs (45) (by omega) (md45 hM2) (rfl) (by omega) (by omega) dX8_mark_40 ?_
      refine lv_if_ne (tgt := 47) hx hb dX8_mark_41 (by decide) (fun c41 => ?_) (fun c41 => ?_)
      · skip
        have hm1 : c2 45 (q + 1) = 1 := (hmk.1 (q + 1) (by omega) hi).resolve_left c41
        refine lv_aload_n hx hb dX8_mark_47 rfl (lv_at hl 0 rfl) ?_
        refine r_get (ci := 8) (v := .ref (ad 45)) (C := RX8) (T := TX8) (N := 31) hx hb hts inlX8 hown hK hs (22) (by omega) (md22 hM2) rfl 28 (by decide) (hts _ w_fl_RX8_78) rfl dX8_mark_48 ?_
        refine lv_aload_n hx hb dX8_mark_51 rfl (lv_at hl 0 rfl) ?_
        refine r_get (ci := 8) (v := .ref (ad 28)) (C := RX8) (T := TX8) (N := 31) hx hb hts inlX8 hown hK hs (22) (by omega) (md22 hM2) rfl 6 (by decide) (hts _ w_fl_RX8_25) rfl dX8_mark_52 ?_
        refine lv_iload_n hx hb dX8_mark_55 rfl (lv_at hl 2 rfl) ?_
        refine r_ialdN (t := q + 1) hx hb hK hs (28) (by omega) (md28 hM2) (rfl) (by omega) (by omega) dX8_mark_56 ?_
        refine r_topi (y := nI (nA ns (q + 1))) rfl ?_
        refine lv_iconst (v := 1) hx hb dX8_mark_57 (by decide) ?_
        refine r_zastN (t := nA ns (q + 1)) hx hb hK hs (45) (by omega) (md45 hM2) (rfl) (by omega) (by omega) dX8_mark_58 (fun H locs en_7 hen_7 hs => ?_)
        obtain ⟨c_9, ec_9⟩ : ∃ z, z = cU c2 45 (nA ns (q + 1)) (1) := ⟨_, rfl⟩
        have hM_8 : MdW G n ad en_7 ss ns c_9 us ov dp cl := md_ar (f := upd (c2 45) (nA ns (q + 1)) (1)) hM2 45 (by decide) (by decide) (by rw [hen_7, show vp_nar .boolean 1 = 1 from rfl]; rfl) ec_9
        have fr_10 : ∀ k, k < 22 → en_7 k = en k := fun k hk => Eq.trans (by rw [hen_7]; exact va_up_ne _ _ (by omega)) (fr2 k hk)
        refine lv_aload_n hx hb dX8_mark_59 rfl (lv_at hl 0 rfl) ?_
        refine r_get (ci := 8) (v := .ref (ad 45)) (C := RX8) (T := TX8) (N := 31) hx hb hts inlX8 hown hK hs (22) (by omega) (md22 hM_8) rfl 28 (by decide) (hts _ w_fl_RX8_78) rfl dX8_mark_60 ?_
        refine lv_aload_n hx hb dX8_mark_63 rfl (lv_at hl 0 rfl) ?_
        refine r_get (ci := 8) (v := .ref (ad 29)) (C := RX8) (T := TX8) (N := 31) hx hb hts inlX8 hown hK hs (22) (by omega) (md22 hM_8) rfl 7 (by decide) (hts _ w_fl_RX8_28) rfl dX8_mark_64 ?_
        refine lv_iload_n hx hb dX8_mark_67 rfl (lv_at hl 2 rfl) ?_
        refine r_ialdN (t := q + 1) hx hb hK hs (29) (by omega) (md29 hM_8) (rfl) (by omega) (by omega) dX8_mark_68 ?_
        refine r_topi (y := nI (nB ns (q + 1))) rfl ?_
        refine lv_iconst (v := 1) hx hb dX8_mark_69 (by decide) ?_
        refine r_zastN (t := nB ns (q + 1)) hx hb hK hs (45) (by omega) (md45 hM_8) (rfl) (by omega) (by omega) dX8_mark_70 (fun H locs en_12 hen_12 hs => ?_)
        obtain ⟨c_14, ec_14⟩ : ∃ z, z = cU c_9 45 (nB ns (q + 1)) (1) := ⟨_, rfl⟩
        have hM_13 : MdW G n ad en_12 ss ns c_14 us ov dp cl := md_ar (f := upd (c_9 45) (nB ns (q + 1)) (1)) hM_8 45 (by decide) (by decide) (by rw [hen_12, show vp_nar .boolean 1 = 1 from rfl]; rfl) ec_14
        have fr_15 : ∀ k, k < 22 → en_12 k = en k := fun k hk => Eq.trans (by rw [hen_12]; exact va_up_ne _ _ (by omega)) (fr_10 k hk)
        refine lv_aload_n hx hb dX8_mark_71 rfl (lv_at hl 0 rfl) ?_
        refine r_get (ci := 8) (v := .ref (ad 45)) (C := RX8) (T := TX8) (N := 31) hx hb hts inlX8 hown hK hs (22) (by omega) (md22 hM_13) rfl 28 (by decide) (hts _ w_fl_RX8_78) rfl dX8_mark_72 ?_
        refine lv_aload_n hx hb dX8_mark_75 rfl (lv_at hl 0 rfl) ?_
        refine r_get (ci := 8) (v := .ref (ad 30)) (C := RX8) (T := TX8) (N := 31) hx hb hts inlX8 hown hK hs (22) (by omega) (md22 hM_13) rfl 8 (by decide) (hts _ w_fl_RX8_31) rfl dX8_mark_76 ?_
        refine lv_iload_n hx hb dX8_mark_79 rfl (lv_at hl 2 rfl) ?_
        refine r_ialdN (t := q + 1) hx hb hK hs (30) (by omega) (md30 hM_13) (rfl) (by omega) (by omega) dX8_mark_80 ?_
        refine r_topi (y := nI (nC ns (q + 1))) rfl ?_
        refine lv_iconst (v := 1) hx hb dX8_mark_81 (by decide) ?_
        refine r_zastN (t := nC ns (q + 1)) hx hb hK hs (45) (by omega) (md45 hM_13) (rfl) (by omega) (by omega) dX8_mark_82 (fun H locs en_17 hen_17 hs => ?_)
        obtain ⟨c_19, ec_19⟩ : ∃ z, z = cU c_14 45 (nC ns (q + 1)) (1) := ⟨_, rfl⟩
        have hM_18 : MdW G n ad en_17 ss ns c_19 us ov dp cl := md_ar (f := upd (c_14 45) (nC ns (q + 1)) (1)) hM_13 45 (by decide) (by decide) (by rw [hen_17, show vp_nar .boolean 1 = 1 from rfl]; rfl) ec_19
        have fr_20 : ∀ k, k < 22 → en_17 k = en k := fun k hk => Eq.trans (by rw [hen_17]; exact va_up_ne _ _ (by omega)) (fr_15 k hk)
        obtain ⟨x2_21, ex2_21⟩ : ∃ y : Int32, y = nI (q + 1) + (-1) := ⟨_, rfl⟩
        refine lv_iinc (v := x2_21) (lv' := [(2, .int (x2_21)), (0, .ref (ad 22)), (1, .int (nI k))]) hx hb dX8_mark_83 hl (k := 2) rfl (by rw [ex2_21]; rfl) (by decide) rfl (fun ls hl => ?_)
        rw [ex2_21, nI_dec1] at hl
        refine lv_goto (tgt := 31) hx hb dX8_mark_86 (by decide) ?_
        exact ih31 (q) (c_19) (en_17) _ _ _ (by omega) (by rw [show c_19 = m3 c2 _ _ _ from by rw [ec_19, ec_14, ec_9]; rfl]; exact mk_do hmk hi hm1 ⟨p3, p4, p5⟩) (hM_18) (fr_20) (by omega) hs (lv_sub hl [1, 2, 0] rfl)
      · skip
        refine lv_goto (tgt := 83) hx hb dX8_mark_44 (by decide) ?_
        obtain ⟨x2_22, ex2_22⟩ : ∃ y : Int32, y = nI (q + 1) + (-1) := ⟨_, rfl⟩
        refine lv_iinc (v := x2_22) (lv' := [(2, .int (x2_22)), (0, .ref (ad 22)), (1, .int (nI k))]) hx hb dX8_mark_83 hl (k := 2) rfl (by rw [ex2_22]; rfl) (by decide) rfl (fun ls hl => ?_)
        rw [ex2_22, nI_dec1] at hl
        refine lv_goto (tgt := 31) hx hb dX8_mark_86 (by decide) ?_
        exact ih31 (q) (c2) (en2) _ _ _ (by omega) (mk_skip hmk c41) (hM2) (fr2) (by omega) hs (lv_sub hl [1, 2, 0] rfl)
  · skip
    have hjk : j ≤ k := Nat.le_of_not_lt (fun q => c4 ((nI_ltI (by omega) (by omega)).mpr q))
    refine lv_aload_n hx hb dX8_mark_7 rfl (lv_at hl 0 rfl) ?_
    refine r_get (ci := 8) (v := .ref (ad 45)) (C := RX8) (T := TX8) (N := 31) hx hb hts inlX8 hown hK hs (22) (by omega) (md22 hM2) rfl 28 (by decide) (hts _ w_fl_RX8_78) rfl dX8_mark_8 ?_
    refine lv_iload_n hx hb dX8_mark_11 rfl (lv_at hl 2 rfl) ?_
    refine lv_iload_n hx hb dX8_mark_12 rfl (lv_at hl 2 rfl) ?_
    refine lv_iload_n hx hb dX8_mark_13 rfl (lv_at hl 1 rfl) ?_
    refine lv_icmp_ne (tgt := 21) hx hb dX8_mark_14 (by decide) (fun c14 => ?_) (fun c14 => ?_)
    · skip
      refine lv_iconst (v := 0) hx hb dX8_mark_21 (by decide) ?_
      refine r_zastN (t := j) hx hb hK hs (45) (by omega) (md45 hM2) (rfl) (by omega) (by omega) dX8_mark_22 (fun H locs en_24 hen_24 hs => ?_)
      obtain ⟨c_26, ec_26⟩ : ∃ z, z = cU c2 45 (j) (0) := ⟨_, rfl⟩
      have hM_25 : MdW G n ad en_24 ss ns c_26 us ov dp cl := md_ar (f := upd (c2 45) (j) (0)) hM2 45 (by decide) (by decide) (by rw [hen_24, show vp_nar .boolean 0 = 0 from rfl]; rfl) ec_26
      have fr_27 : ∀ k, k < 22 → en_24 k = en k := fun k hk => Eq.trans (by rw [hen_24]; exact va_up_ne _ _ (by omega)) (fr2 k hk)
      refine lv_iinc (v := nI (j + 1)) (lv' := [(2, .int (nI (j + 1))), (0, .ref (ad 22)), (1, .int (nI k))]) hx hb dX8_mark_23 hl (k := 2) rfl (nI_add j 1) (by decide) rfl (fun ls hl => ?_)
      refine lv_goto (tgt := 2) hx hb dX8_mark_26 (by decide) ?_
      exact ih2 (j + 1) (c_26) (en_24) _ _ _ (by omega) (by rw [ec_26]; exact cu_step (v := fun i => if i = k then 1 else 0) hz ((if_neg (fun z => c14 (by rw [z]))).symm)) (hM_25) (fr_27) (by omega) hs (lv_sub hl [1, 2, 0] rfl)
    · skip
      refine lv_iconst (v := 1) hx hb dX8_mark_17 (by decide) ?_
      refine lv_goto (tgt := 22) hx hb dX8_mark_18 (by decide) ?_
      refine r_zastN (t := j) hx hb hK hs (45) (by omega) (md45 hM2) (rfl) (by omega) (by omega) dX8_mark_22 (fun H locs en_29 hen_29 hs => ?_)
      obtain ⟨c_31, ec_31⟩ : ∃ z, z = cU c2 45 (j) (1) := ⟨_, rfl⟩
      have hM_30 : MdW G n ad en_29 ss ns c_31 us ov dp cl := md_ar (f := upd (c2 45) (j) (1)) hM2 45 (by decide) (by decide) (by rw [hen_29, show vp_nar .boolean 1 = 1 from rfl]; rfl) ec_31
      have fr_32 : ∀ k, k < 22 → en_29 k = en k := fun k hk => Eq.trans (by rw [hen_29]; exact va_up_ne _ _ (by omega)) (fr2 k hk)
      refine lv_iinc (v := nI (j + 1)) (lv' := [(2, .int (nI (j + 1))), (0, .ref (ad 22)), (1, .int (nI k))]) hx hb dX8_mark_23 hl (k := 2) rfl (nI_add j 1) (by decide) rfl (fun ls hl => ?_)
      refine lv_goto (tgt := 2) hx hb dX8_mark_26 (by decide) ?_
      exact ih2 (j + 1) (c_31) (en_29) _ _ _ (by omega) (by rw [ec_31]; exact cu_step (v := fun i => if i = k then 1 else 0) hz ((if_pos ((nI_eq (by omega) (by omega)).mp c14)).symm)) (hM_30) (fr_32) (by omega) hs (lv_sub hl [1, 2, 0] rfl)

set_option maxHeartbeats 600000 in
set_option maxRecDepth 100000 in
theorem c_X8_isWell (l : Launch) (G : rG) {n : Nat} {ad : Nat → Nat} {en : Nat → va_E} {ss ns : List Row} {c : Nat → Nat → Int32} {us : Int32} {ov : Int32} {dp : Int32} {cl : Int32}  (hM : MdW G n ad en ss ns c us ov dp cl) {k : Nat} (hk : 1 ≤ k ∧ k ≤ ns.length) : CI l G yX8_isWell uX8_isWell (2) (48) (0) (0) [.ref (ad 22), .int (nI k)] (n) (n) ad en (mkPost G n ad en (b2i (wellB ss ns k)) ss ns us ov dp cl k) := by
  intro sz
  refine rMet (Qc := qI G (n) (mkPost G n ad en (b2i (wellB ss ns k)) ss ns us ov dp cl k)) (cc := cX8_isWell) (maxL := 4) (ret := (some .boolean)) (by decide) rfl (Nat.le_of_ble_eq_true rfl) ?_
  intro pP eE sS mM aA bB tT cC ls A Q hc hK hsz hA hs hl hQ
  obtain ⟨hx, hb, hr, hts, hown, hlk, hnm, hml⟩ := hc
  have hl : lv_has ls 4 [(0, .ref (ad 22)), (1, .int (nI k))] := hl
  have fr0 : ∀ k, k < 22 → en k = en k := fun _ _ => rfl
  obtain ⟨hn48, -, -, -, hok, hnk⟩ := id hM
  have h6 := hok.1
  have h8 := hnk.1
  
  refine lv_aload_n hx hb dX8_isWell_0 rfl (lv_at hl 0 rfl) ?_
  refine lv_iload_n hx hb dX8_isWell_1 rfl (lv_at hl 1 rfl) ?_
  refine r_callVv (ci := 8) (As := [.int (nI k)]) hx hb hml hown hts hK hA hs (22) (by omega) (md22 hM) rfl rfl (c_X8_mark l G hM (k := k) hk) (cwV 1 hts (tbV w_ml_RX8_206 w_im_yX8_mark w_se_yX8_mark w_ini_RX8 w_cd_yX8_mark) rfl rfl rfl (by decide +kernel) ⟨Nat.le_of_ble_eq_true rfl, Nat.le_of_ble_eq_true rfl⟩) rfl hl.1 rfl (Nat.le_of_ble_eq_true rfl) dX8_isWell_2 ⟨Nat.le_refl _, Nat.le_refl _⟩ (fun ad_2 en_3 H locs hp_4 hs => ?_)
  obtain ⟨⟨hAm_5, hFm_5⟩, c_1, hMm_5, hmk⟩ := hp_4
  subst hAm_5
  have fr_6 : ∀ k, k < 22 → en_3 k = en k := fun k hk => Eq.trans (hFm_5 k hk) (fr0 k hk)
  refine lv_iconst (v := 1) hx hb dX8_isWell_5 (by decide) ?_
  refine r_topi (y := b2i true) (rfl) ?_
  refine lv_istore_n (lv' := [(2, .int (b2i true)), (0, .ref (ad 22)), (1, .int (nI k))]) hx hb dX8_isWell_6 rfl hl (by decide) rfl (fun ls hl => ?_)
  refine lv_iconst (v := 1) hx hb dX8_isWell_7 (by decide) ?_
  refine r_topi (y := nI 1) (rfl) ?_
  refine lv_istore_n (lv' := [(3, .int (nI 1)), (2, .int (b2i true)), (0, .ref (ad 22)), (1, .int (nI k))]) hx hb dX8_isWell_8 rfl hl (by decide) rfl (fun ls hl => ?_)
  suffices LOOP9 : ∀ (fu9 : Nat) (j : Nat) (b : Bool) (H : Heap) (locs : List Loc) (ls : Array Slot), (1 ≤ j ∧ j ≤ k + 1) → (b = false → ∃ i, (1 ≤ i ∧ i ≤ k) ∧ c_1 45 i = 1 ∧ fitN ss ns i = false) → (b = true → ∀ i, 1 ≤ i → i < j → c_1 45 i = 1 → fitN ss ns i = true) → k + 2 - j < fu9 → rS G A sS.heap (n) ad en_3 H locs → lv_has ls 4 [(0, .ref (ad 22)), (1, .int (nI k)), (2, .int (b2i b)), (3, .int (nI j))] → W pP l eE (rRm (2) (48) (0) (0)) sS mM aA bB tT cC H locs (0) (0) Q (F0 mM 9 ls []) from LOOP9 _ (1) (true) _ _ _ (by omega) (fun q => by cases q) (fun _ i a b => by omega) (Nat.lt_succ_self _) hs (lv_sub hl [2, 3, 1, 0] rfl)
  intro fu9
  induction fu9 with
  | zero => intro j b H locs ls hj hbf hbt hfu; exact absurd hfu (Nat.not_lt_zero _)
  | succ fu9 ih9 => ?_
  intro j b H locs ls hj hbf hbt hfu9 hs hl
  refine lv_iload_n hx hb dX8_isWell_9 rfl (lv_at hl 3 rfl) ?_
  refine lv_iload_n hx hb dX8_isWell_10 rfl (lv_at hl 1 rfl) ?_
  refine lv_icmp_gt (tgt := 47) hx hb dX8_isWell_11 (by decide) (fun c11 => ?_) (fun c11 => ?_)
  · skip
    have hjk : j = k + 1 := by have := (nI_ltI (by omega) (by omega)).mp c11; omega
    refine lv_iload_n hx hb dX8_isWell_47 rfl (lv_at hl 2 rfl) ?_
    refine r_zret (v := b2i b) (mc := 0) (ms := 0) hx hb hr hlk hs (Nat.le_refl _) (Nat.le_refl _) dX8_isWell_48 ?_ hQ ?_
    · first | exact Or.inl rfl | exact Or.inr rfl | exact b2i_z _
    have hbw : b = wellB ss ns k := by
      cases hb2 : b with
      | true => exact (fit_well hnk hk hmk (fun i a d e => hbt hb2 i a (by omega) e)).symm
      | false =>
        obtain ⟨i, hi, e1, e2⟩ := hbf hb2
        cases hw : wellB ss ns k with
        | false => rfl
        | true => rw [well_fit hnk hk hmk hw i hi.1 hi.2 e1] at e2; cases e2
    exact ⟨⟨rfl, fr_6⟩, by rw [hbw], _, hMm_5, hmk⟩
  · skip
    have hjk : j ≤ k := Nat.le_of_not_lt (fun q => c11 ((nI_ltI (by omega) (by omega)).mpr q))
    refine lv_iload_n hx hb dX8_isWell_14 rfl (lv_at hl 2 rfl) ?_
    refine lv_if_eq (tgt := 47) hx hb dX8_isWell_15 (by decide) (fun c15 => ?_) (fun c15 => ?_)
    · skip
      refine lv_iload_n hx hb dX8_isWell_47 rfl (lv_at hl 2 rfl) ?_
      refine r_zret (v := b2i b) (mc := 0) (ms := 0) hx hb hr hlk hs (Nat.le_refl _) (Nat.le_refl _) dX8_isWell_48 ?_ hQ ?_
      · first | exact Or.inl rfl | exact Or.inr rfl | exact b2i_z _
      have hbw : b = wellB ss ns k := by
        rw [b2i_0 c15]
        obtain ⟨i, hi, e1, e2⟩ := hbf (b2i_0 c15)
        cases hw : wellB ss ns k with
        | false => rfl
        | true => rw [well_fit hnk hk hmk hw i hi.1 hi.2 e1] at e2; cases e2
      exact ⟨⟨rfl, fr_6⟩, by rw [hbw], _, hMm_5, hmk⟩
    · skip
      refine lv_aload_n hx hb dX8_isWell_18 rfl (lv_at hl 0 rfl) ?_
      refine r_get (ci := 8) (v := .ref (ad 45)) (C := RX8) (T := TX8) (N := 31) hx hb hts inlX8 hown hK hs (22) (by omega) (md22 hMm_5) rfl 28 (by decide) (hts _ w_fl_RX8_78) rfl dX8_isWell_19 ?_
      refine lv_iload_n hx hb dX8_isWell_22 rfl (lv_at hl 3 rfl) ?_
      refine r_zaldN (t := j) hx hb hK hs (45) (by omega) (md45 hMm_5) (rfl) (by omega) (by omega) dX8_isWell_23 ?_
      refine lv_if_eq (tgt := 35) hx hb dX8_isWell_24 (by decide) (fun c24 => ?_) (fun c24 => ?_)
      · skip
        refine lv_iconst (v := 1) hx hb dX8_isWell_35 (by decide) ?_
        refine lv_goto (tgt := 40) hx hb dX8_isWell_36 (by decide) ?_
        refine r_topi (y := b2i true) (rfl) ?_
        refine lv_istore_n (lv' := [(2, .int (b2i true)), (0, .ref (ad 22)), (1, .int (nI k)), (3, .int (nI j))]) hx hb dX8_isWell_40 rfl hl (by decide) rfl (fun ls hl => ?_)
        refine lv_iinc (v := nI (j + 1)) (lv' := [(3, .int (nI (j + 1))), (2, .int (b2i true)), (0, .ref (ad 22)), (1, .int (nI k))]) hx hb dX8_isWell_41 hl (k := 3) rfl (nI_add j 1) (by decide) rfl (fun ls hl => ?_)
        refine lv_goto (tgt := 9) hx hb dX8_isWell_44 (by decide) ?_
        exact ih9 (j + 1) (true) _ _ _ (by omega) (fun q => by cases q) (fun _ i a b e => if q : i = j then by rw [q] at e; exact absurd (c24.symm.trans e) (by decide) else hbt (b2i_1 c15) i a (by omega) e) (by omega) hs (lv_sub hl [2, 3, 1, 0] rfl)
      · skip
        refine lv_aload_n hx hb dX8_isWell_27 rfl (lv_at hl 0 rfl) ?_
        refine lv_iload_n hx hb dX8_isWell_28 rfl (lv_at hl 3 rfl) ?_
        refine r_callViR (ci := 8) (As := [.int (nI j)]) hx hb hml hown hts hK hA hs (22) (by omega) (md22 hMm_5) rfl rfl (c_X8_fits l G hMm_5 (k := j) (⟨hj.1, by omega⟩)) (cwV 1 hts (tbV w_ml_RX8_209 w_im_yX8_fits w_se_yX8_fits w_ini_RX8 w_cd_yX8_fits) rfl rfl rfl (by decide +kernel) ⟨Nat.le_of_ble_eq_true rfl, Nat.le_of_ble_eq_true rfl⟩) rfl hl.1 rfl (Nat.le_of_ble_eq_true rfl) dX8_isWell_29 ⟨Nat.zero_le _, Nat.zero_le _⟩ (fun H locs hs => ?_)
        refine lv_if_eq (tgt := 39) hx hb dX8_isWell_32 (by decide) (fun c32 => ?_) (fun c32 => ?_)
        · skip
          refine lv_iconst (v := 0) hx hb dX8_isWell_39 (by decide) ?_
          refine r_topi (y := b2i false) (rfl) ?_
          refine lv_istore_n (lv' := [(2, .int (b2i false)), (0, .ref (ad 22)), (1, .int (nI k)), (3, .int (nI j))]) hx hb dX8_isWell_40 rfl hl (by decide) rfl (fun ls hl => ?_)
          refine lv_iinc (v := nI (j + 1)) (lv' := [(3, .int (nI (j + 1))), (2, .int (b2i false)), (0, .ref (ad 22)), (1, .int (nI k))]) hx hb dX8_isWell_41 hl (k := 3) rfl (nI_add j 1) (by decide) rfl (fun ls hl => ?_)
          refine lv_goto (tgt := 9) hx hb dX8_isWell_44 (by decide) ?_
          exact ih9 (j + 1) (false) _ _ _ (by omega) (fun _ => ⟨j, ⟨hj.1, by omega⟩, (hmk.1 j hj.1 (by omega)).resolve_left c24, b2i_0 c32⟩) (fun q => by cases q) (by omega) hs (lv_sub hl [2, 3, 1, 0] rfl)
        · skip
          refine lv_iconst (v := 1) hx hb dX8_isWell_35 (by decide) ?_
          refine lv_goto (tgt := 40) hx hb dX8_isWell_36 (by decide) ?_
          refine r_topi (y := b2i true) (rfl) ?_
          refine lv_istore_n (lv' := [(2, .int (b2i true)), (0, .ref (ad 22)), (1, .int (nI k)), (3, .int (nI j))]) hx hb dX8_isWell_40 rfl hl (by decide) rfl (fun ls hl => ?_)
          refine lv_iinc (v := nI (j + 1)) (lv' := [(3, .int (nI (j + 1))), (2, .int (b2i true)), (0, .ref (ad 22)), (1, .int (nI k))]) hx hb dX8_isWell_41 hl (k := 3) rfl (nI_add j 1) (by decide) rfl (fun ls hl => ?_)
          refine lv_goto (tgt := 9) hx hb dX8_isWell_44 (by decide) ?_
          exact ih9 (j + 1) (true) _ _ _ (by omega) (fun q => by cases q) (fun _ i a b e => if q : i = j then by rw [q]; exact b2i_1 c32 else hbt (b2i_1 c15) i a (by omega) e) (by omega) hs (lv_sub hl [2, 3, 1, 0] rfl)

set_option maxHeartbeats 600000 in
set_option maxRecDepth 100000 in
theorem c_X8_wellMade (l : Launch) (G : rG) {n : Nat} {ad : Nat → Nat} {en : Nat → va_E} {ss ns : List Row} {c : Nat → Nat → Int32} {us : Int32} {ov : Int32} {dp : Int32} {cl : Int32}  (hM : MdW G n ad en ss ns c us ov dp cl) (x : Int32) : CI l G yX8_wellMade uX8_wellMade (3) (71) (0) (0) [.ref (ad 22), .int (x)] (n) (n) ad en (mxPost G n ad en (fWell (ss, ns) x) ss ns us ov dp cl) := by
  intro sz
  refine rMet (Qc := qI G (n) (mxPost G n ad en (fWell (ss, ns) x) ss ns us ov dp cl)) (cc := cX8_wellMade) (maxL := 2) (ret := (some .int)) (by decide) rfl (Nat.le_of_ble_eq_true rfl) ?_
  intro pP eE sS mM aA bB tT cC ls A Q hc hK hsz hA hs hl hQ
  obtain ⟨hx, hb, hr, hts, hown, hlk, hnm, hml⟩ := hc
  have hl : lv_has ls 2 [(0, .ref (ad 22)), (1, .int (x))] := hl
  have fr0 : ∀ k, k < 22 → en k = en k := fun _ _ => rfl
  obtain ⟨hn48, -, -, -, hok, hnk⟩ := id hM
  have h6 := hok.1
  have h8 := hnk.1
  
  refine lv_aload_n hx hb dX8_wellMade_0 rfl (lv_at hl 0 rfl) ?_
  refine lv_iload_n hx hb dX8_wellMade_1 rfl (lv_at hl 1 rfl) ?_
  refine r_callViR (ci := 8) (As := [.int (x)]) hx hb hml hown hts hK hA hs (22) (by omega) (md22 hM) rfl rfl (c_X8_isNode l G hM (x)) (cwV 1 hts (tbV w_ml_RX8_199 w_im_yX8_isNode w_se_yX8_isNode w_ini_RX8 w_cd_yX8_isNode) rfl rfl rfl (by decide +kernel) ⟨Nat.le_of_ble_eq_true rfl, Nat.le_of_ble_eq_true rfl⟩) rfl hl.1 rfl (Nat.le_of_ble_eq_true rfl) dX8_wellMade_2 ⟨Nat.zero_le _, Nat.zero_le _⟩ (fun H locs hs => ?_)
  refine lv_if_eq (tgt := 24) hx hb dX8_wellMade_5 (by decide) (fun c5 => ?_) (fun c5 => ?_)
  · skip
    refine lv_iconst (v := (-1)) hx hb dX8_wellMade_24 (by decide) ?_
    refine r_iret (v := (-1)) (mc := 0) (ms := 0) hx hb hr hlk hs (Nat.le_refl _) (Nat.le_refl _) dX8_wellMade_25 hQ ?_
    exact ⟨⟨rfl, fun _ _ => rfl⟩, by rw [fWell, if_neg (by rw [b2i_0 c5]; decide)], _, hM⟩
  · skip
    obtain ⟨k, hk0, hk1, hk2⟩ := holds_ex (b2i_1 c5)
    have hHk := b2i_1 c5
    subst hk0
    refine lv_aload_n hx hb dX8_wellMade_8 rfl (lv_at hl 0 rfl) ?_
    refine lv_iload_n hx hb dX8_wellMade_9 rfl (lv_at hl 1 rfl) ?_
    refine r_callVi (ci := 8) (As := [.int (nI k)]) hx hb hml hown hts hK hA hs (22) (by omega) (md22 hM) rfl rfl (c_X8_isWell l G hM (k := k) ⟨hk1, hk2⟩ ) (cwV 1 hts (tbV w_ml_RX8_212 w_im_yX8_isWell w_se_yX8_isWell w_ini_RX8 w_cd_yX8_isWell) rfl rfl rfl (by decide +kernel) ⟨Nat.le_of_ble_eq_true rfl, Nat.le_of_ble_eq_true rfl⟩) rfl hl.1 rfl (Nat.le_of_ble_eq_true rfl) dX8_wellMade_10 ⟨Nat.le_refl _, Nat.le_refl _⟩ (fun r_5 ad_2 en_3 H locs hp_4 hs => ?_)
    obtain ⟨⟨hAm_6, hFm_6⟩, hrm_6, c_1, hMm_6, hmk_7⟩ := hp_4
    subst hAm_6
    rw [hrm_6]
    have fr_8 : ∀ k, k < 22 → en_3 k = en k := fun k hk => Eq.trans (hFm_6 k hk) (fr0 k hk)
    refine lv_if_eq (tgt := 20) hx hb dX8_wellMade_13 (by decide) (fun c13 => ?_) (fun c13 => ?_)
    · skip
      refine lv_iconst (v := 0) hx hb dX8_wellMade_20 (by decide) ?_
      refine lv_goto (tgt := 25) hx hb dX8_wellMade_21 (by decide) ?_
      refine r_iret (v := 0) (mc := 0) (ms := 0) hx hb hr hlk hs (Nat.le_refl _) (Nat.le_refl _) dX8_wellMade_25 hQ ?_
      exact ⟨⟨rfl, fr_8⟩, by rw [fWell, if_pos hHk, tN_nI (by omega)]; rw [show wellB ss ns k = false from b2i_0 c13]; rfl, _, hMm_6⟩
    · skip
      refine lv_iconst (v := 1) hx hb dX8_wellMade_16 (by decide) ?_
      refine lv_goto (tgt := 25) hx hb dX8_wellMade_17 (by decide) ?_
      refine r_iret (v := 1) (mc := 0) (ms := 0) hx hb hr hlk hs (Nat.le_refl _) (Nat.le_refl _) dX8_wellMade_25 hQ ?_
      exact ⟨⟨rfl, fr_8⟩, by rw [fWell, if_pos hHk, tN_nI (by omega)]; rw [show wellB ss ns k = true from b2i_1 c13]; rfl, _, hMm_6⟩

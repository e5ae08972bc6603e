def tvE (ss : List Row) (at1 : Int32) (T : Nat → Bool) (k : Nat) : Bool := if sSort ss k = 0 then at1.toBitVec.getLsbD (sL ss k) else if sSort ss k = 2 then T (sL ss k) && T (sR ss k) else if sSort ss k = 3 then T (sL ss k) || T (sR ss k) else if sSort ss k = 4 then !T (sL ss k) || T (sR ss k) else false
def tvT (ss : List Row) (at1 : Int32) : Nat → Nat → Bool
  | 0 => fun _ => false
  | k + 1 => fun j => if j = k + 1 then tvE ss at1 (tvT ss at1 k) (k + 1) else tvT ss at1 k j
def StAtT (G : rG) (n : Nat) (ad : Nat → Nat) (en : Nat → va_E) (ss : List Row) (T : Nat → Nat → Bool) : Prop :=
  11 ≤ n ∧ en 3 = .inr (6, [.ref (ad 4), .ref (ad 7), .ref (ad 9)]) ∧ KeptAt G n 4 ad en 600 ss ∧ SetsAt G n 7 ad en 10 (kindS ss) ∧ SetsAt G n 9 ad en 1 T ∧ ssOK ss
theorem StAtT.st {G : rG} {n : Nat} {ad : Nat → Nat} {en : Nat → va_E} {ss : List Row} {T : Nat → Nat → Bool} (h : StAtT G n ad en ss T) : StAt G n ad en ss := ⟨h.1, h.2.1, h.2.2.1, h.2.2.2.1, ⟨T, h.2.2.2.2.1⟩, h.2.2.2.2.2⟩
theorem StAtT_upd {G : rG} {n : Nat} {ad ad1 : Nat → Nat} {en en1 : Nat → va_E} {ss : List Row} {T T1 : Nat → Nat → Bool} (h : StAtT G n ad en ss T) (h1 : SetsAt G n 9 ad1 en1 1 T1) (hf : Fr n (fun k => 9 ≤ k ∧ k ≤ 9 + 1) (fun _ => False) ad en ad1 en1) : StAtT G n ad1 en1 ss T1 := by
  obtain ⟨hn, he3, hk, hkd, htr, hok⟩ := h
  have ka : ∀ k, k < n → ad1 k = ad k := fun k a => hf.1 k a (fun q => q)
  have ke : ∀ k, k < n → ¬ (9 ≤ k ∧ k ≤ 10) → en1 k = en k := fun k a b => hf.2 k a b
  refine ⟨hn, ?_, KeptAt_keep hk (fun k a b => ka k (by omega)) (fun k a b => ke k (by omega) (by omega)), SetsAt_keep hkd (fun k a b => ka k (by omega)) (fun k a b => ke k (by omega) (by omega)), h1, hok⟩
  rw [ka 4 (by omega), ka 7 (by omega), ka 9 (by omega)]; exact (ke 3 (by omega) (by omega)).trans he3
theorem bit32 {w : Int32} {j : Nat} (hj : j < 32) : ((w.toUInt32 >>> ((nI j).toUInt32 &&& Int32.toUInt32 31)).toInt32 &&& 1) = b2i (w.toBitVec.getLsbD j) := by
  have hs : ∀ j, j < 32 → ((nI j).toUInt32 &&& Int32.toUInt32 31).toNat = j := by decide +kernel
  have e : (w.toUInt32 >>> ((nI j).toUInt32 &&& Int32.toUInt32 31)).toInt32.toBitVec = w.toBitVec >>> j := by
    apply BitVec.eq_of_toNat_eq
    show (w.toUInt32 >>> ((nI j).toUInt32 &&& Int32.toUInt32 31)).toNat = _
    rw [UInt32.toNat_shiftRight, hs j hj, Nat.mod_eq_of_lt hj, BitVec.toNat_ushiftRight]
    rfl
  rw [← Int32.toBitVec_inj, Int32.toBitVec_and, e]
  show w.toBitVec >>> j &&& 1#32 = (b2i (w.toBitVec.getLsbD j)).toBitVec
  apply BitVec.eq_of_getLsbD_eq
  intro i hi
  cases hb : w.toBitVec.getLsbD j
  · show _ = (0#32).getLsbD i
    by_cases h0 : i = 0
    · subst h0; simp [hb]
    · simp [h0]
  · show _ = (1#32).getLsbD i
    by_cases h0 : i = 0
    · subst h0; simp [hb]
    · simp [h0]
theorem b2i_t {b : Bool} (h : b2i b = 1) : b = true := by cases b <;> first | rfl | exact absurd h (by decide)
theorem b2i_f {b : Bool} (h : ¬ b2i b = 1) : b = false := by cases b <;> first | rfl | exact absurd rfl h
theorem parts_lt {ss : List Row} (h : ssOK ss) {k : Nat} (hk : 1 ≤ k ∧ k ≤ ss.length) : ((sSort ss k = 0 → sL ss k < 32) ∧ sL ss k < 2 ^ 31 ∧ sR ss k < 2 ^ 31) ∧ (sSort ss k = 2 ∨ sSort ss k = 3 ∨ sSort ss k = 4 → (1 ≤ sL ss k ∧ sL ss k ≤ 600) ∧ (1 ≤ sR ss k ∧ sR ss k ≤ 600)) := by
  have h6 := h.1
  have q := h.2.1 k hk.1 hk.2
  unfold sSort sL sR
  obtain ⟨-, q | q | q⟩ := q <;> omega
theorem sq {ss : List Row} (h : ssOK ss) {k v : Nat} {x : Int32} (e : nI (sSort ss k) = x) (hv : x = nI v := by rfl) (hl : v < 2 ^ 31 := by decide) : sSort ss k = v := by
  have := sort_le h (k := k)
  exact (nI_eq (by omega) hl).mp (e.trans hv)
theorem sn {ss : List Row} {k v : Nat} {x : Int32} (e : ¬ nI (sSort ss k) = x) (hv : x = nI v := by rfl) : ¬ sSort ss k = v := fun q => e (by rw [q, hv])
theorem hasT {T : Nat → Nat → Bool} {x : Nat} (h : 1 ≤ x ∧ x ≤ 600) : (inS (nI x) && T 0 (nI x).toInt.toNat) = T 0 x := by
  rw [inS_nI h.1 h.2, nI_toInt (by omega)]; rfl
set_option maxHeartbeats 4000000 in
set_option maxRecDepth 100000 in
theorem c_X6_followsFromParts (l : Launch) (G : rG) {n : Nat} {ad : Nat → Nat} {en : Nat → va_E} {ss : List Row} {T : Nat → Nat → Bool} (ht : StAtT G n ad en ss T) {k : Nat} (hk1 : 1 ≤ k ∧ k ≤ ss.length) (at1 : Int32) : CI l G yX6_followsFromParts uX6_followsFromParts (2) (44) (0) (0) [.ref (ad 3), .int (nI k), .int (at1)] (n) (n) ad en (roV ad en (b2i (tvE ss at1 (T 0) k))) := by
  intro sz
  refine rMet (Qc := qI G (n) (roV ad en (b2i (tvE ss at1 (T 0) k)))) (cc := cX6_followsFromParts) (maxL := 5) (ret := (some .boolean)) (by decide) rfl (Nat.le_of_ble_eq_true rfl) ?_
  intro pP eE sS mM aA bB tT cC ls A Q hc hK hsz hA hs hl hQ
  obtain ⟨hx, hb, hr, hts, hown, hlk, hnm, hml⟩ := hc
  have hl : lv_has ls 5 [(0, .ref (ad 3)), (1, .int (nI k)), (2, .int (at1))] := hl
  have h := ht.st
  obtain ⟨hn, he3, hk, hkd, htr, hok⟩ := ht
  obtain ⟨fs4, he4⟩ := KeptAt_recv hk
  obtain ⟨fs9, he9⟩ := SetsAt_recv htr
  have hle6 := hok.1
  have hlen : ss.length < 2 ^ 31 := by omega
  obtain ⟨hLb, hRb⟩ := parts_lt hok hk1
  refine lv_aload_n hx hb dX6_followsFromParts_0 rfl (lv_at hl 0 rfl) ?_
  refine lv_iload_n hx hb dX6_followsFromParts_1 rfl (lv_at hl 1 rfl) ?_
  refine r_callViR (ci := 6) (As := [.int (nI k)]) hx hb hml hown hts hK hA hs (3) (by omega) he3 rfl rfl (c_X6_leftOfN l G h k (by omega)) (cwV 1 hts (tbV w_ml_RX6_59 w_im_yX6_leftOf w_se_yX6_leftOf w_ini_RX6 w_cd_yX6_leftOf) rfl rfl rfl (by decide +kernel) ⟨Nat.le_of_ble_eq_true rfl, Nat.le_of_ble_eq_true rfl⟩) rfl hl.1 rfl (Nat.le_of_ble_eq_true rfl) dX6_followsFromParts_2 ⟨Nat.zero_le _, Nat.zero_le _⟩ (fun H locs hs => ?_)
  refine lv_istore_n (lv' := [(3, .int (nI (sL ss k))), (0, .ref (ad 3)), (1, .int (nI k)), (2, .int (at1))]) hx hb dX6_followsFromParts_5 rfl hl (by decide) rfl (fun ls hl => ?_)
  refine lv_aload_n hx hb dX6_followsFromParts_6 rfl (lv_at hl 1 rfl) ?_
  refine lv_iload_n hx hb dX6_followsFromParts_7 rfl (lv_at hl 2 rfl) ?_
  refine r_callViR (ci := 6) (As := [.int (nI k)]) hx hb hml hown hts hK hA hs (3) (by omega) he3 rfl rfl (c_X6_rightOfN l G h k (by omega)) (cwV 1 hts (tbV w_ml_RX6_63 w_im_yX6_rightOf w_se_yX6_rightOf w_ini_RX6 w_cd_yX6_rightOf) rfl rfl rfl (by decide +kernel) ⟨Nat.le_of_ble_eq_true rfl, Nat.le_of_ble_eq_true rfl⟩) rfl hl.1 rfl (Nat.le_of_ble_eq_true rfl) dX6_followsFromParts_8 ⟨Nat.zero_le _, Nat.zero_le _⟩ (fun H locs hs => ?_)
  refine lv_istore (lv' := [(4, .int (nI (sR ss k))), (3, .int (nI (sL ss k))), (0, .ref (ad 3)), (1, .int (nI k)), (2, .int (at1))]) hx hb dX6_followsFromParts_11 hl (by decide) rfl (fun ls hl => ?_)
  refine lv_aload_n hx hb dX6_followsFromParts_13 rfl (lv_at hl 2 rfl) ?_
  refine lv_iload_n hx hb dX6_followsFromParts_14 rfl (lv_at hl 3 rfl) ?_
  refine r_callViR (ci := 6) (As := [.int (nI k)]) hx hb hml hown hts hK hA hs (3) (by omega) he3 rfl rfl (c_X6_sortOfN l G h k (by omega)) (cwV 1 hts (tbV w_ml_RX6_66 w_im_yX6_sortOf w_se_yX6_sortOf w_ini_RX6 w_cd_yX6_sortOf) rfl rfl rfl (by decide +kernel) ⟨Nat.le_of_ble_eq_true rfl, Nat.le_of_ble_eq_true rfl⟩) rfl hl.1 rfl (Nat.le_of_ble_eq_true rfl) dX6_followsFromParts_15 ⟨Nat.zero_le _, Nat.zero_le _⟩ (fun H locs hs => ?_)
  by_cases k18_0 : nI (sSort ss k) = 0
  · skip
    refine lv_tableIn (off := 34) (tgt := 52) hx hb dX6_followsFromParts_18 (by rw [k18_0]; decide) (by rw [k18_0]; decide) (by rw [k18_0]; decide) (by decide) ?_
    refine lv_iload_n hx hb dX6_followsFromParts_52 rfl (lv_at hl 4 rfl) ?_
    refine lv_iload_n hx hb dX6_followsFromParts_53 rfl (lv_at hl 1 rfl) ?_
    refine lv_iushr (v := ((at1 : Int32).toUInt32 >>> ((nI (sL ss k) : Int32).toUInt32 &&& Int32.toUInt32 31)).toInt32) hx hb dX6_followsFromParts_54 rfl ?_
    refine lv_iconst (v := 1) hx hb dX6_followsFromParts_55 (by decide) ?_
    refine lv_iand hx hb dX6_followsFromParts_56 ?_
    refine r_topi (y := b2i (at1.toBitVec.getLsbD (sL ss k))) (bit32 (hLb.1 ((nI_eq (by have := sort_le hok (k := k); omega) (by decide)).mp k18_0))) ?_
    refine lv_iconst (v := 1) hx hb dX6_followsFromParts_57 (by decide) ?_
    refine lv_icmp_ne (tgt := 65) hx hb dX6_followsFromParts_58 (by decide) (fun c58 => ?_) (fun c58 => ?_)
    · skip
      refine lv_iconst (v := 0) hx hb dX6_followsFromParts_65 (by decide) ?_
      refine r_zret (v := 0) (mc := 0) (ms := 0) hx hb hr hlk hs (Nat.le_refl _) (Nat.le_refl _) dX6_followsFromParts_66 ?_ hQ ?_
      · first | exact Or.inl rfl | exact Or.inr rfl | exact b2i_z _
      exact roV.rf (by rw [tvE, if_pos (sq hok k18_0), b2i_f c58]; rfl)
    · skip
      refine lv_iconst (v := 1) hx hb dX6_followsFromParts_61 (by decide) ?_
      refine lv_goto (tgt := 66) hx hb dX6_followsFromParts_62 (by decide) ?_
      refine r_zret (v := 1) (mc := 0) (ms := 0) hx hb hr hlk hs (Nat.le_refl _) (Nat.le_refl _) dX6_followsFromParts_66 ?_ hQ ?_
      · first | exact Or.inl rfl | exact Or.inr rfl | exact b2i_z _
      exact roV.rf (by rw [tvE, if_pos (sq hok k18_0), b2i_t c58]; rfl)
  by_cases k18_1 : nI (sSort ss k) = 1
  · skip
    refine lv_tableIn (off := 142) (tgt := 160) hx hb dX6_followsFromParts_18 (by rw [k18_1]; decide) (by rw [k18_1]; decide) (by rw [k18_1]; decide) (by decide) ?_
    refine lv_iconst (v := 0) hx hb dX6_followsFromParts_160 (by decide) ?_
    refine r_zret (v := 0) (mc := 0) (ms := 0) hx hb hr hlk hs (Nat.le_refl _) (Nat.le_refl _) dX6_followsFromParts_161 ?_ hQ ?_
    · first | exact Or.inl rfl | exact Or.inr rfl | exact b2i_z _
    exact roV.rf (by rw [tvE, if_neg (sn k18_0), if_neg (fun q => absurd ((sq hok k18_1).symm.trans q) (by decide)), if_neg (fun q => absurd ((sq hok k18_1).symm.trans q) (by decide)), if_neg (fun q => absurd ((sq hok k18_1).symm.trans q) (by decide))]; rfl)
  by_cases k18_2 : nI (sSort ss k) = 2
  · skip
    refine lv_tableIn (off := 49) (tgt := 67) hx hb dX6_followsFromParts_18 (by rw [k18_2]; decide) (by rw [k18_2]; decide) (by rw [k18_2]; decide) (by decide) ?_
    refine lv_aload_n hx hb dX6_followsFromParts_67 rfl (lv_at hl 2 rfl) ?_
    refine r_get (ci := 6) (v := .ref (ad 9)) (C := RX6) (T := TX6) (N := 3) hx hb hts inlX6 hown hK hs (3) (by omega) he3 rfl 2 (by decide) (hts _ w_fl_RX6_27) rfl dX6_followsFromParts_68 ?_
    refine lv_iconst (v := 0) hx hb dX6_followsFromParts_71 (by decide) ?_
    refine lv_iload_n hx hb dX6_followsFromParts_72 rfl (lv_at hl 1 rfl) ?_
    refine r_callViR (ci := 5) (As := [.int (0), .int (nI (sL ss k))]) hx hb hml hown hts hK hA hs (9) (by omega) he9 rfl rfl (c_X5_has l G htr (row := 0) (by decide) (nI (sL ss k))) (cwV 2 hts (tbV w_ml_RX6_56 w_im_yX5_has w_se_yX5_has w_ini_RX5 w_cd_yX5_has) rfl rfl rfl (by decide +kernel) ⟨Nat.le_of_ble_eq_true rfl, Nat.le_of_ble_eq_true rfl⟩) rfl hl.1 rfl (Nat.le_of_ble_eq_true rfl) dX6_followsFromParts_73 ⟨Nat.zero_le _, Nat.zero_le _⟩ (fun H locs hs => ?_)
    refine lv_if_eq (tgt := 96) hx hb dX6_followsFromParts_76 (by decide) (fun c76 => ?_) (fun c76 => ?_)
    · skip
      refine lv_iconst (v := 0) hx hb dX6_followsFromParts_96 (by decide) ?_
      refine r_zret (v := 0) (mc := 0) (ms := 0) hx hb hr hlk hs (Nat.le_refl _) (Nat.le_refl _) dX6_followsFromParts_97 ?_ hQ ?_
      · first | exact Or.inl rfl | exact Or.inr rfl | exact b2i_z _
      exact roV.rf (by rw [tvE, if_neg (sn k18_0), if_pos (sq hok k18_2), ← hasT (T := T) (hRb (Or.inl (sq hok k18_2))).1, ← hasT (T := T) (hRb (Or.inl (sq hok k18_2))).2, b2i_0 c76]; rfl)
    · skip
      refine lv_aload_n hx hb dX6_followsFromParts_79 rfl (lv_at hl 2 rfl) ?_
      refine r_get (ci := 6) (v := .ref (ad 9)) (C := RX6) (T := TX6) (N := 3) hx hb hts inlX6 hown hK hs (3) (by omega) he3 rfl 2 (by decide) (hts _ w_fl_RX6_27) rfl dX6_followsFromParts_80 ?_
      refine lv_iconst (v := 0) hx hb dX6_followsFromParts_83 (by decide) ?_
      refine lv_iload hx hb dX6_followsFromParts_84 (lv_at hl 0 rfl) ?_
      refine r_callViR (ci := 5) (As := [.int (0), .int (nI (sR ss k))]) hx hb hml hown hts hK hA hs (9) (by omega) he9 rfl rfl (c_X5_has l G htr (row := 0) (by decide) (nI (sR ss k))) (cwV 2 hts (tbV w_ml_RX6_56 w_im_yX5_has w_se_yX5_has w_ini_RX5 w_cd_yX5_has) rfl rfl rfl (by decide +kernel) ⟨Nat.le_of_ble_eq_true rfl, Nat.le_of_ble_eq_true rfl⟩) rfl hl.1 rfl (Nat.le_of_ble_eq_true rfl) dX6_followsFromParts_86 ⟨Nat.zero_le _, Nat.zero_le _⟩ (fun H locs hs => ?_)
      refine lv_if_eq (tgt := 96) hx hb dX6_followsFromParts_89 (by decide) (fun c89 => ?_) (fun c89 => ?_)
      · skip
        refine lv_iconst (v := 0) hx hb dX6_followsFromParts_96 (by decide) ?_
        refine r_zret (v := 0) (mc := 0) (ms := 0) hx hb hr hlk hs (Nat.le_refl _) (Nat.le_refl _) dX6_followsFromParts_97 ?_ hQ ?_
        · first | exact Or.inl rfl | exact Or.inr rfl | exact b2i_z _
        exact roV.rf (by rw [tvE, if_neg (sn k18_0), if_pos (sq hok k18_2), ← hasT (T := T) (hRb (Or.inl (sq hok k18_2))).1, ← hasT (T := T) (hRb (Or.inl (sq hok k18_2))).2, b2i_1 c76, b2i_0 c89]; rfl)
      · skip
        refine lv_iconst (v := 1) hx hb dX6_followsFromParts_92 (by decide) ?_
        refine lv_goto (tgt := 97) hx hb dX6_followsFromParts_93 (by decide) ?_
        refine r_zret (v := 1) (mc := 0) (ms := 0) hx hb hr hlk hs (Nat.le_refl _) (Nat.le_refl _) dX6_followsFromParts_97 ?_ hQ ?_
        · first | exact Or.inl rfl | exact Or.inr rfl | exact b2i_z _
        exact roV.rf (by rw [tvE, if_neg (sn k18_0), if_pos (sq hok k18_2), ← hasT (T := T) (hRb (Or.inl (sq hok k18_2))).1, ← hasT (T := T) (hRb (Or.inl (sq hok k18_2))).2, b2i_1 c76, b2i_1 c89]; rfl)
  by_cases k18_3 : nI (sSort ss k) = 3
  · skip
    refine lv_tableIn (off := 80) (tgt := 98) hx hb dX6_followsFromParts_18 (by rw [k18_3]; decide) (by rw [k18_3]; decide) (by rw [k18_3]; decide) (by decide) ?_
    refine lv_aload_n hx hb dX6_followsFromParts_98 rfl (lv_at hl 2 rfl) ?_
    refine r_get (ci := 6) (v := .ref (ad 9)) (C := RX6) (T := TX6) (N := 3) hx hb hts inlX6 hown hK hs (3) (by omega) he3 rfl 2 (by decide) (hts _ w_fl_RX6_27) rfl dX6_followsFromParts_99 ?_
    refine lv_iconst (v := 0) hx hb dX6_followsFromParts_102 (by decide) ?_
    refine lv_iload_n hx hb dX6_followsFromParts_103 rfl (lv_at hl 1 rfl) ?_
    refine r_callViR (ci := 5) (As := [.int (0), .int (nI (sL ss k))]) hx hb hml hown hts hK hA hs (9) (by omega) he9 rfl rfl (c_X5_has l G htr (row := 0) (by decide) (nI (sL ss k))) (cwV 2 hts (tbV w_ml_RX6_56 w_im_yX5_has w_se_yX5_has w_ini_RX5 w_cd_yX5_has) rfl rfl rfl (by decide +kernel) ⟨Nat.le_of_ble_eq_true rfl, Nat.le_of_ble_eq_true rfl⟩) rfl hl.1 rfl (Nat.le_of_ble_eq_true rfl) dX6_followsFromParts_104 ⟨Nat.zero_le _, Nat.zero_le _⟩ (fun H locs hs => ?_)
    refine lv_if_ne (tgt := 123) hx hb dX6_followsFromParts_107 (by decide) (fun c107 => ?_) (fun c107 => ?_)
    · skip
      refine lv_iconst (v := 1) hx hb dX6_followsFromParts_123 (by decide) ?_
      refine lv_goto (tgt := 128) hx hb dX6_followsFromParts_124 (by decide) ?_
      refine r_zret (v := 1) (mc := 0) (ms := 0) hx hb hr hlk hs (Nat.le_refl _) (Nat.le_refl _) dX6_followsFromParts_128 ?_ hQ ?_
      · first | exact Or.inl rfl | exact Or.inr rfl | exact b2i_z _
      exact roV.rf (by rw [tvE, if_neg (sn k18_0), if_neg (sn k18_2), if_pos (sq hok k18_3), ← hasT (T := T) (hRb (Or.inr (Or.inl (sq hok k18_3)))).1, ← hasT (T := T) (hRb (Or.inr (Or.inl (sq hok k18_3)))).2, b2i_1 c107]; rfl)
    · skip
      refine lv_aload_n hx hb dX6_followsFromParts_110 rfl (lv_at hl 2 rfl) ?_
      refine r_get (ci := 6) (v := .ref (ad 9)) (C := RX6) (T := TX6) (N := 3) hx hb hts inlX6 hown hK hs (3) (by omega) he3 rfl 2 (by decide) (hts _ w_fl_RX6_27) rfl dX6_followsFromParts_111 ?_
      refine lv_iconst (v := 0) hx hb dX6_followsFromParts_114 (by decide) ?_
      refine lv_iload hx hb dX6_followsFromParts_115 (lv_at hl 0 rfl) ?_
      refine r_callViR (ci := 5) (As := [.int (0), .int (nI (sR ss k))]) hx hb hml hown hts hK hA hs (9) (by omega) he9 rfl rfl (c_X5_has l G htr (row := 0) (by decide) (nI (sR ss k))) (cwV 2 hts (tbV w_ml_RX6_56 w_im_yX5_has w_se_yX5_has w_ini_RX5 w_cd_yX5_has) rfl rfl rfl (by decide +kernel) ⟨Nat.le_of_ble_eq_true rfl, Nat.le_of_ble_eq_true rfl⟩) rfl hl.1 rfl (Nat.le_of_ble_eq_true rfl) dX6_followsFromParts_117 ⟨Nat.zero_le _, Nat.zero_le _⟩ (fun H locs hs => ?_)
      refine lv_if_eq (tgt := 127) hx hb dX6_followsFromParts_120 (by decide) (fun c120 => ?_) (fun c120 => ?_)
      · skip
        refine lv_iconst (v := 0) hx hb dX6_followsFromParts_127 (by decide) ?_
        refine r_zret (v := 0) (mc := 0) (ms := 0) hx hb hr hlk hs (Nat.le_refl _) (Nat.le_refl _) dX6_followsFromParts_128 ?_ hQ ?_
        · first | exact Or.inl rfl | exact Or.inr rfl | exact b2i_z _
        exact roV.rf (by rw [tvE, if_neg (sn k18_0), if_neg (sn k18_2), if_pos (sq hok k18_3), ← hasT (T := T) (hRb (Or.inr (Or.inl (sq hok k18_3)))).1, ← hasT (T := T) (hRb (Or.inr (Or.inl (sq hok k18_3)))).2, b2i_0 c107, b2i_0 c120]; rfl)
      · skip
        refine lv_iconst (v := 1) hx hb dX6_followsFromParts_123 (by decide) ?_
        refine lv_goto (tgt := 128) hx hb dX6_followsFromParts_124 (by decide) ?_
        refine r_zret (v := 1) (mc := 0) (ms := 0) hx hb hr hlk hs (Nat.le_refl _) (Nat.le_refl _) dX6_followsFromParts_128 ?_ hQ ?_
        · first | exact Or.inl rfl | exact Or.inr rfl | exact b2i_z _
        exact roV.rf (by rw [tvE, if_neg (sn k18_0), if_neg (sn k18_2), if_pos (sq hok k18_3), ← hasT (T := T) (hRb (Or.inr (Or.inl (sq hok k18_3)))).1, ← hasT (T := T) (hRb (Or.inr (Or.inl (sq hok k18_3)))).2, b2i_0 c107, b2i_1 c120]; rfl)
  by_cases k18_4 : nI (sSort ss k) = 4
  · skip
    refine lv_tableIn (off := 111) (tgt := 129) hx hb dX6_followsFromParts_18 (by rw [k18_4]; decide) (by rw [k18_4]; decide) (by rw [k18_4]; decide) (by decide) ?_
    refine lv_aload_n hx hb dX6_followsFromParts_129 rfl (lv_at hl 2 rfl) ?_
    refine r_get (ci := 6) (v := .ref (ad 9)) (C := RX6) (T := TX6) (N := 3) hx hb hts inlX6 hown hK hs (3) (by omega) he3 rfl 2 (by decide) (hts _ w_fl_RX6_27) rfl dX6_followsFromParts_130 ?_
    refine lv_iconst (v := 0) hx hb dX6_followsFromParts_133 (by decide) ?_
    refine lv_iload_n hx hb dX6_followsFromParts_134 rfl (lv_at hl 1 rfl) ?_
    refine r_callViR (ci := 5) (As := [.int (0), .int (nI (sL ss k))]) hx hb hml hown hts hK hA hs (9) (by omega) he9 rfl rfl (c_X5_has l G htr (row := 0) (by decide) (nI (sL ss k))) (cwV 2 hts (tbV w_ml_RX6_56 w_im_yX5_has w_se_yX5_has w_ini_RX5 w_cd_yX5_has) rfl rfl rfl (by decide +kernel) ⟨Nat.le_of_ble_eq_true rfl, Nat.le_of_ble_eq_true rfl⟩) rfl hl.1 rfl (Nat.le_of_ble_eq_true rfl) dX6_followsFromParts_135 ⟨Nat.zero_le _, Nat.zero_le _⟩ (fun H locs hs => ?_)
    refine lv_if_eq (tgt := 154) hx hb dX6_followsFromParts_138 (by decide) (fun c138 => ?_) (fun c138 => ?_)
    · skip
      refine lv_iconst (v := 1) hx hb dX6_followsFromParts_154 (by decide) ?_
      refine lv_goto (tgt := 159) hx hb dX6_followsFromParts_155 (by decide) ?_
      refine r_zret (v := 1) (mc := 0) (ms := 0) hx hb hr hlk hs (Nat.le_refl _) (Nat.le_refl _) dX6_followsFromParts_159 ?_ hQ ?_
      · first | exact Or.inl rfl | exact Or.inr rfl | exact b2i_z _
      exact roV.rf (by rw [tvE, if_neg (sn k18_0), if_neg (sn k18_2), if_neg (sn k18_3), if_pos (sq hok k18_4), ← hasT (T := T) (hRb (Or.inr (Or.inr (sq hok k18_4)))).1, ← hasT (T := T) (hRb (Or.inr (Or.inr (sq hok k18_4)))).2, b2i_0 c138]; rfl)
    · skip
      refine lv_aload_n hx hb dX6_followsFromParts_141 rfl (lv_at hl 2 rfl) ?_
      refine r_get (ci := 6) (v := .ref (ad 9)) (C := RX6) (T := TX6) (N := 3) hx hb hts inlX6 hown hK hs (3) (by omega) he3 rfl 2 (by decide) (hts _ w_fl_RX6_27) rfl dX6_followsFromParts_142 ?_
      refine lv_iconst (v := 0) hx hb dX6_followsFromParts_145 (by decide) ?_
      refine lv_iload hx hb dX6_followsFromParts_146 (lv_at hl 0 rfl) ?_
      refine r_callViR (ci := 5) (As := [.int (0), .int (nI (sR ss k))]) hx hb hml hown hts hK hA hs (9) (by omega) he9 rfl rfl (c_X5_has l G htr (row := 0) (by decide) (nI (sR ss k))) (cwV 2 hts (tbV w_ml_RX6_56 w_im_yX5_has w_se_yX5_has w_ini_RX5 w_cd_yX5_has) rfl rfl rfl (by decide +kernel) ⟨Nat.le_of_ble_eq_true rfl, Nat.le_of_ble_eq_true rfl⟩) rfl hl.1 rfl (Nat.le_of_ble_eq_true rfl) dX6_followsFromParts_148 ⟨Nat.zero_le _, Nat.zero_le _⟩ (fun H locs hs => ?_)
      refine lv_if_eq (tgt := 158) hx hb dX6_followsFromParts_151 (by decide) (fun c151 => ?_) (fun c151 => ?_)
      · skip
        refine lv_iconst (v := 0) hx hb dX6_followsFromParts_158 (by decide) ?_
        refine r_zret (v := 0) (mc := 0) (ms := 0) hx hb hr hlk hs (Nat.le_refl _) (Nat.le_refl _) dX6_followsFromParts_159 ?_ hQ ?_
        · first | exact Or.inl rfl | exact Or.inr rfl | exact b2i_z _
        exact roV.rf (by rw [tvE, if_neg (sn k18_0), if_neg (sn k18_2), if_neg (sn k18_3), if_pos (sq hok k18_4), ← hasT (T := T) (hRb (Or.inr (Or.inr (sq hok k18_4)))).1, ← hasT (T := T) (hRb (Or.inr (Or.inr (sq hok k18_4)))).2, b2i_1 c138, b2i_0 c151]; rfl)
      · skip
        refine lv_iconst (v := 1) hx hb dX6_followsFromParts_154 (by decide) ?_
        refine lv_goto (tgt := 159) hx hb dX6_followsFromParts_155 (by decide) ?_
        refine r_zret (v := 1) (mc := 0) (ms := 0) hx hb hr hlk hs (Nat.le_refl _) (Nat.le_refl _) dX6_followsFromParts_159 ?_ hQ ?_
        · first | exact Or.inl rfl | exact Or.inr rfl | exact b2i_z _
        exact roV.rf (by rw [tvE, if_neg (sn k18_0), if_neg (sn k18_2), if_neg (sn k18_3), if_pos (sq hok k18_4), ← hasT (T := T) (hRb (Or.inr (Or.inr (sq hok k18_4)))).1, ← hasT (T := T) (hRb (Or.inr (Or.inr (sq hok k18_4)))).2, b2i_1 c138, b2i_1 c151]; rfl)
  refine lv_tableOut (tgt := 160) hx hb dX6_followsFromParts_18 (by have q0 : (nI (sSort ss k) : Int32).toInt ≠ 0 := sw_ne k18_0; have q1 : (nI (sSort ss k) : Int32).toInt ≠ 1 := sw_ne k18_1; have q2 : (nI (sSort ss k) : Int32).toInt ≠ 2 := sw_ne k18_2; have q3 : (nI (sSort ss k) : Int32).toInt ≠ 3 := sw_ne k18_3; have q4 : (nI (sSort ss k) : Int32).toInt ≠ 4 := sw_ne k18_4; omega) (by decide) ?_
  refine lv_iconst (v := 0) hx hb dX6_followsFromParts_160 (by decide) ?_
  refine r_zret (v := 0) (mc := 0) (ms := 0) hx hb hr hlk hs (Nat.le_refl _) (Nat.le_refl _) dX6_followsFromParts_161 ?_ hQ ?_
  · first | exact Or.inl rfl | exact Or.inr rfl | exact b2i_z _
  exact roV.rf (by rw [tvE, if_neg (sn k18_0), if_neg (sn k18_2), if_neg (sn k18_3), if_neg (sn k18_4)]; rfl)

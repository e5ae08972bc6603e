theorem wid_1 {k : Nat} (hk : k ≤ 9) (h0 : ¬ k = 0) (h2 : ¬ k = 2) (h3 : ¬ k = 3) (h8 : ¬ k = 8) : rPartL.getD k 0 = 1 := by
  have : k = 1 ∨ k = 4 ∨ k = 5 ∨ k = 6 ∨ k = 7 ∨ k = 9 := by omega
  rcases this with rfl | rfl | rfl | rfl | rfl | rfl <;> rfl
theorem of_no {y : Int32} (h0 : ¬ y = 0) (h1 : ¬ y = 1) (h2 : ¬ y = 2) (h3 : ¬ y = 3) (h4 : ¬ y = 4) (h : 0 ≤ y ∧ y ≤ 4) : False := by
  rw [i_le, i_le] at h
  rw [i_eq] at h0 h1 h2 h3 h4
  have e0 : (0 : Int32).toInt = 0 := rfl
  have e1 : (1 : Int32).toInt = 1 := rfl
  have e2 : (2 : Int32).toInt = 2 := rfl
  have e3 : (3 : Int32).toInt = 3 := rfl
  have e4 : (4 : Int32).toInt = 4 := rfl
  omega
theorem sIs_in {ss : List Row} {so k : Nat} (h : 1 ≤ k ∧ k ≤ ss.length) : sIs ss so k = decide (sSort ss k = so) := decide_eq_decide.mpr ⟨fun q => q.2.2, fun q => ⟨h.1, h.2, q⟩⟩
theorem nA_pos {ss ns : List Row} (h : nsOK ss ns) {k : Nat} (hk : 1 ≤ k ∧ k ≤ ns.length) (ht : ¬ nT ns k = 0) : 1 ≤ nA ns k ∧ nA ns k < k := by
  obtain ⟨h1, h2, h3, h4, h5, h6⟩ := h.2.1 k hk.1 hk.2
  have hp : ∀ t, t ≤ 9 → ¬ t = 0 → 1 ≤ rPartL.getD t 0 := by decide
  rw [if_pos (hp _ h1 ht)] at h4
  exact h4
def fitD (ss ns : List Row) (k : Nat) : Bool :=
  if nT ns k = 0 then true
  else if nT ns k = 1 then decide (sSort ss (nG ns k) = 4 ∧ sR ss (nG ns k) = nG ns (nA ns k))
  else if nT ns k = 2 then decide (sSort ss (nG ns (nA ns k)) = 4 ∧ sL ss (nG ns (nA ns k)) = nG ns (nB ns k) ∧ sR ss (nG ns (nA ns k)) = nG ns k)
  else if nT ns k = 3 then decide (sSort ss (nG ns k) = 2 ∧ sL ss (nG ns k) = nG ns (nA ns k) ∧ sR ss (nG ns k) = nG ns (nB ns k))
  else if nT ns k = 4 then decide (sSort ss (nG ns (nA ns k)) = 2 ∧ sL ss (nG ns (nA ns k)) = nG ns k)
  else if nT ns k = 5 then decide (sSort ss (nG ns (nA ns k)) = 2 ∧ sR ss (nG ns (nA ns k)) = nG ns k)
  else if nT ns k = 6 then decide (sSort ss (nG ns k) = 3 ∧ sL ss (nG ns k) = nG ns (nA ns k))
  else if nT ns k = 7 then decide (sSort ss (nG ns k) = 3 ∧ sR ss (nG ns k) = nG ns (nA ns k))
  else if nT ns k = 8 then decide (sSort ss (nG ns (nA ns k)) = 3 ∧ nG ns (nB ns k) = nG ns k ∧ nG ns (nC ns k) = nG ns k)
  else decide (sSort ss (nG ns (nA ns k)) = 1)
theorem fitD_eq {ss ns : List Row} (h : nsOK ss ns) {k : Nat} (hk : 1 ≤ k ∧ k ≤ ns.length) : fitN ss ns k = fitD ss ns k := by
  obtain ⟨p1, p2, -⟩ := part_lt h hk
  have hA : ¬ nT ns k = 0 → 1 ≤ nG ns (nA ns k) ∧ nG ns (nA ns k) ≤ ss.length := fun q => (part_lt h (k := nA ns k) (by have := nA_pos h hk q; omega)).2.1
  have hG : ∀ so, sIs ss so (nG ns k) = decide (sSort ss (nG ns k) = so) := fun so => sIs_in p2
  unfold fitN fitD
  by_cases t0 : nT ns k = 0
  · rw [if_pos t0, if_pos t0]
  have hB : ∀ so, sIs ss so (nG ns (nA ns k)) = decide (sSort ss (nG ns (nA ns k)) = so) := fun so => sIs_in (hA t0)
  rw [if_neg t0, if_neg t0]
  unfold sWh
  rw [hG, hG, hG, hB, hB, hB, hB]
  by_cases t1 : nT ns k = 1
  · rw [if_pos t1, if_pos t1]; simp
  rw [if_neg t1, if_neg t1]
  by_cases t2 : nT ns k = 2
  · rw [if_pos t2, if_pos t2]; simp [Bool.and_assoc]
  rw [if_neg t2, if_neg t2]
  by_cases t3 : nT ns k = 3
  · rw [if_pos t3, if_pos t3]; simp [Bool.and_assoc]
  rw [if_neg t3, if_neg t3]
  by_cases t4 : nT ns k = 4
  · rw [if_pos t4, if_pos t4]; simp
  rw [if_neg t4, if_neg t4]
  by_cases t5 : nT ns k = 5
  · rw [if_pos t5, if_pos t5]; simp
  rw [if_neg t5, if_neg t5]
  by_cases t6 : nT ns k = 6
  · rw [if_pos t6, if_pos t6]; simp
  rw [if_neg t6, if_neg t6]
  by_cases t7 : nT ns k = 7
  · rw [if_pos t7, if_pos t7]; simp
  rw [if_neg t7, if_neg t7]
  by_cases t8 : nT ns k = 8
  · rw [if_pos t8, if_pos t8]; simp [Bool.and_assoc]
  rw [if_neg t8, if_neg t8, if_pos (by omega)]
theorem ofRow (ns : List Row) (k : Nat) : nI (nT ns k) = nI (rowCol (kAt ns k) 0) ∧ nI (nG ns k) = nI (rowCol (kAt ns k) 1) ∧ nI (nA ns k) = nI (rowCol (kAt ns k) 2) ∧ nI (nB ns k) = nI (rowCol (kAt ns k) 3) ∧ nI (nC ns k) = nI (rowCol (kAt ns k) 4) := ⟨rfl, rfl, rfl, rfl, rfl⟩
set_option maxHeartbeats 600000 in
set_option maxRecDepth 100000 in
theorem c_X8_width (l : Launch) (G : rG) {n : Nat} {ad : Nat → Nat} {en : Nat → va_E} {k : Nat} (hk : k ≤ 9) : CI l G yX8_width uX8_width (0) (0) (0) (0) [.int (nI k)] (n) (n) ad en (roV ad en (nI (rPartL.getD (k) 0))) := by
  intro sz
  refine rMet (Qc := qI G (n) (roV ad en (nI (rPartL.getD (k) 0)))) (cc := cX8_width) (maxL := 1) (ret := (some .int)) (by decide) rfl (Nat.le_of_ble_eq_true rfl) ?_
  intro pP eE sS mM aA bB tT cC ls A Q hc hK hsz hA hs hl hQ
  obtain ⟨hx, hb, hr, hts, hown, hlk, hnm, hml⟩ := hc
  have hl : lv_has ls 1 [(0, .int (nI k))] := hl
  refine lv_iload_n hx hb dX8_width_0 rfl (lv_at hl 0 rfl) ?_
  refine lv_if_ne (tgt := 8) hx hb dX8_width_1 (by decide) (fun c1 => ?_) (fun c1 => ?_)
  · skip
    have t0 : ¬ k = 0 := fun q => c1 (by rw [q]; rfl)
    refine lv_iload_n hx hb dX8_width_8 rfl (lv_at hl 0 rfl) ?_
    refine lv_iconst (v := 2) hx hb dX8_width_9 (by decide) ?_
    refine lv_icmp_eq (tgt := 18) hx hb dX8_width_10 (by decide) (fun c10 => ?_) (fun c10 => ?_)
    · skip
      have t2 : k = 2 := sw_nI c10 rfl (by omega) (by decide)
      refine lv_iconst (v := 2) hx hb dX8_width_18 (by decide) ?_
      refine lv_goto (tgt := 33) hx hb dX8_width_19 (by decide) ?_
      refine r_iret (v := 2) (mc := 0) (ms := 0) hx hb hr hlk hs (Nat.le_refl _) (Nat.le_refl _) dX8_width_33 hQ ?_
      exact roV.rf (by rw [t2]; rfl)
    · skip
      have t2 : ¬ k = 2 := fun q => c10 (by rw [q]; rfl)
      refine lv_iload_n hx hb dX8_width_13 rfl (lv_at hl 0 rfl) ?_
      refine lv_iconst (v := 3) hx hb dX8_width_14 (by decide) ?_
      refine lv_icmp_ne (tgt := 22) hx hb dX8_width_15 (by decide) (fun c15 => ?_) (fun c15 => ?_)
      · skip
        have t3 : ¬ k = 3 := fun q => c15 (by rw [q]; rfl)
        refine lv_iload_n hx hb dX8_width_22 rfl (lv_at hl 0 rfl) ?_
        refine lv_bipush (v := 8) hx hb dX8_width_23 (by decide) ?_
        refine lv_icmp_ne (tgt := 32) hx hb dX8_width_25 (by decide) (fun c25 => ?_) (fun c25 => ?_)
        · skip
          have t8 : ¬ k = 8 := fun q => c25 (by rw [q]; rfl)
          refine lv_iconst (v := 1) hx hb dX8_width_32 (by decide) ?_
          refine r_iret (v := 1) (mc := 0) (ms := 0) hx hb hr hlk hs (Nat.le_refl _) (Nat.le_refl _) dX8_width_33 hQ ?_
          exact roV.rf (by rw [wid_1 hk t0 t2 t3 t8]; rfl)
        · skip
          have t8 : k = 8 := sw_nI c25 rfl (by omega) (by decide)
          refine lv_iconst (v := 3) hx hb dX8_width_28 (by decide) ?_
          refine lv_goto (tgt := 33) hx hb dX8_width_29 (by decide) ?_
          refine r_iret (v := 3) (mc := 0) (ms := 0) hx hb hr hlk hs (Nat.le_refl _) (Nat.le_refl _) dX8_width_33 hQ ?_
          exact roV.rf (by rw [t8]; rfl)
      · skip
        have t3 : k = 3 := sw_nI c15 rfl (by omega) (by decide)
        refine lv_iconst (v := 2) hx hb dX8_width_18 (by decide) ?_
        refine lv_goto (tgt := 33) hx hb dX8_width_19 (by decide) ?_
        refine r_iret (v := 2) (mc := 0) (ms := 0) hx hb hr hlk hs (Nat.le_refl _) (Nat.le_refl _) dX8_width_33 hQ ?_
        exact roV.rf (by rw [t3]; rfl)
  · skip
    have t0 : k = 0 := sw_nI c1 rfl (by omega) (by decide)
    refine lv_iconst (v := 0) hx hb dX8_width_4 (by decide) ?_
    refine lv_goto (tgt := 33) hx hb dX8_width_5 (by decide) ?_
    refine r_iret (v := 0) (mc := 0) (ms := 0) hx hb hr hlk hs (Nat.le_refl _) (Nat.le_refl _) dX8_width_33 hQ ?_
    exact roV.rf (by rw [t0]; rfl)

set_option maxHeartbeats 600000 in
set_option maxRecDepth 100000 in
theorem c_X8_isNode (l : Launch) (G : rG) {n : Nat} {ad : Nat → Nat} {en : Nat → va_E} {ss ns : List Row} {c : Nat → Nat → Int32} {us : Int32} {ov : Int32} {dp : Int32} {cl : Int32}  (hM : MdW G n ad en ss ns c us ov dp cl) (x : Int32) : CI l G yX8_isNode uX8_isNode (0) (0) (0) (0) [.ref (ad 22), .int (x)] (n) (n) ad en (roV ad en (b2i (kHolds ns x))) := by
  intro sz
  refine rMet (Qc := qI G (n) (roV ad en (b2i (kHolds ns x)))) (cc := cX8_isNode) (maxL := 2) (ret := (some .boolean)) (by decide) rfl (Nat.le_of_ble_eq_true rfl) ?_
  intro pP eE sS mM aA bB tT cC ls A Q hc hK hsz hA hs hl hQ
  obtain ⟨hx, hb, hr, hts, hown, hlk, hnm, hml⟩ := hc
  have hl : lv_has ls 2 [(0, .ref (ad 22)), (1, .int (x))] := hl
  have fr0 : ∀ k, k < 22 → en k = en k := fun _ _ => rfl
  obtain ⟨hn48, -, -, -, hok, hnk⟩ := id hM
  have h6 := hok.1
  have h8 := hnk.1
  
  refine lv_iload_n hx hb dX8_isNode_0 rfl (lv_at hl 1 rfl) ?_
  refine lv_if_le (tgt := 16) hx hb dX8_isNode_1 (by decide) (fun c1 => ?_) (fun c1 => ?_)
  · skip
    refine lv_iconst (v := 0) hx hb dX8_isNode_16 (by decide) ?_
    refine r_zret (v := 0) (mc := 0) (ms := 0) hx hb hr hlk hs (Nat.le_refl _) (Nat.le_refl _) dX8_isNode_17 ?_ hQ ?_
    · first | exact Or.inl rfl | exact Or.inr rfl | exact b2i_z _
    exact roV.rf (by rw [holds_n (by omega) (Or.inl (le0_lt c1))]; rfl)
  · skip
    refine lv_iload_n hx hb dX8_isNode_4 rfl (lv_at hl 1 rfl) ?_
    refine lv_aload_n hx hb dX8_isNode_5 rfl (lv_at hl 0 rfl) ?_
    refine r_get (ci := 8) (v := .int (nI ns.length)) (C := RX8) (T := TX8) (N := 31) hx hb hts inlX8 hown hK hs (22) (by omega) (md22 hM) rfl 9 (by decide) (hts _ w_fl_RX8_103) rfl dX8_isNode_6 ?_
    refine lv_icmp_gt (tgt := 16) hx hb dX8_isNode_9 (by decide) (fun c9 => ?_) (fun c9 => ?_)
    · skip
      refine lv_iconst (v := 0) hx hb dX8_isNode_16 (by decide) ?_
      refine r_zret (v := 0) (mc := 0) (ms := 0) hx hb hr hlk hs (Nat.le_refl _) (Nat.le_refl _) dX8_isNode_17 ?_ hQ ?_
      · first | exact Or.inl rfl | exact Or.inr rfl | exact b2i_z _
      exact roV.rf (by rw [holds_n (by omega) (Or.inr c9)]; rfl)
    · skip
      refine lv_iconst (v := 1) hx hb dX8_isNode_12 (by decide) ?_
      refine lv_goto (tgt := 17) hx hb dX8_isNode_13 (by decide) ?_
      refine r_zret (v := 1) (mc := 0) (ms := 0) hx hb hr hlk hs (Nat.le_refl _) (Nat.le_refl _) dX8_isNode_17 ?_ hQ ?_
      · first | exact Or.inl rfl | exact Or.inr rfl | exact b2i_z _
      exact roV.rf (by rw [holds_y (by omega) (fun q => c1 (lt1_le q)) c9]; rfl)

set_option maxHeartbeats 600000 in
set_option maxRecDepth 100000 in
theorem c_X8_of (l : Launch) (G : rG) {n : Nat} {ad : Nat → Nat} {en : Nat → va_E} {ss ns : List Row} {c : Nat → Nat → Int32} {us : Int32} {ov : Int32} {dp : Int32} {cl : Int32}  (hM : MdW G n ad en ss ns c us ov dp cl) (x y : Int32) : CI l G yX8_of uX8_of (1) (21) (0) (0) [.ref (ad 22), .int (x), .int (y)] (n) (n) ad en (roV ad en (fOf ns x y)) := by
  intro sz
  refine rMet (Qc := qI G (n) (roV ad en (fOf ns x y))) (cc := cX8_of) (maxL := 3) (ret := (some .int)) (by decide) rfl (Nat.le_of_ble_eq_true rfl) ?_
  intro pP eE sS mM aA bB tT cC ls A Q hc hK hsz hA hs hl hQ
  obtain ⟨hx, hb, hr, hts, hown, hlk, hnm, hml⟩ := hc
  have hl : lv_has ls 3 [(0, .ref (ad 22)), (1, .int (x)), (2, .int (y))] := hl
  have fr0 : ∀ k, k < 22 → en k = en k := fun _ _ => rfl
  obtain ⟨hn48, -, -, -, hok, hnk⟩ := id hM
  have h6 := hok.1
  have h8 := hnk.1
  
  refine lv_aload_n hx hb dX8_of_0 rfl (lv_at hl 0 rfl) ?_
  refine lv_iload_n hx hb dX8_of_1 rfl (lv_at hl 1 rfl) ?_
  refine r_callViR (ci := 8) (As := [.int (x)]) hx hb hml hown hts hK hA hs (22) (by omega) (md22 hM) rfl rfl (c_X8_isNode l G hM (x)) (cwV 1 hts (tbV w_ml_RX8_199 w_im_yX8_isNode w_se_yX8_isNode w_ini_RX8 w_cd_yX8_isNode) rfl rfl rfl (by decide +kernel) ⟨Nat.le_of_ble_eq_true rfl, Nat.le_of_ble_eq_true rfl⟩) rfl hl.1 rfl (Nat.le_of_ble_eq_true rfl) dX8_of_2 ⟨Nat.zero_le _, Nat.zero_le _⟩ (fun H locs hs => ?_)
  refine lv_if_ne (tgt := 10) hx hb dX8_of_5 (by decide) (fun c5 => ?_) (fun c5 => ?_)
  · skip
    obtain ⟨k, hk0, hk1, hk2⟩ := holds_ex (b2i_1 c5)
    have hHk := b2i_1 c5
    subst hk0
    refine lv_iload_n hx hb dX8_of_10 rfl (lv_at hl 2 rfl) ?_
    by_cases k11_0 : y = 0
    · skip
      refine lv_tableIn (off := 33) (tgt := 44) hx hb dX8_of_11 (by rw [k11_0]; decide) (by rw [k11_0]; decide) (by rw [k11_0]; decide) (by decide) ?_
      refine lv_aload_n hx hb dX8_of_44 rfl (lv_at hl 0 rfl) ?_
      refine r_get (ci := 8) (v := .ref (ad 26)) (C := RX8) (T := TX8) (N := 31) hx hb hts inlX8 hown hK hs (22) (by omega) (md22 hM) rfl 4 (by decide) (hts _ w_fl_RX8_19) rfl dX8_of_45 ?_
      refine lv_iload_n hx hb dX8_of_48 rfl (lv_at hl 1 rfl) ?_
      refine r_ialdN (t := k) hx hb hK hs (26) (by omega) (md26 hM) (rfl) (by omega) (by omega) dX8_of_49 ?_
      refine r_topi (y := nI (nT ns (k))) rfl ?_
      refine r_iret (v := nI (nT ns (k))) (mc := 0) (ms := 0) hx hb hr hlk hs (Nat.le_refl _) (Nat.le_refl _) dX8_of_50 hQ ?_
      exact roV.rf (by rw [fOf, k11_0, if_pos ⟨hHk, by decide, by decide⟩]; exact (kGet_nI (c := 0) (by omega) (by omega) (by decide)).symm)
    by_cases k11_1 : y = 1
    · skip
      refine lv_tableIn (off := 40) (tgt := 51) hx hb dX8_of_11 (by rw [k11_1]; decide) (by rw [k11_1]; decide) (by rw [k11_1]; decide) (by decide) ?_
      refine lv_aload_n hx hb dX8_of_51 rfl (lv_at hl 0 rfl) ?_
      refine r_get (ci := 8) (v := .ref (ad 27)) (C := RX8) (T := TX8) (N := 31) hx hb hts inlX8 hown hK hs (22) (by omega) (md22 hM) rfl 5 (by decide) (hts _ w_fl_RX8_22) rfl dX8_of_52 ?_
      refine lv_iload_n hx hb dX8_of_55 rfl (lv_at hl 1 rfl) ?_
      refine r_ialdN (t := k) hx hb hK hs (27) (by omega) (md27 hM) (rfl) (by omega) (by omega) dX8_of_56 ?_
      refine r_topi (y := nI (nG ns (k))) rfl ?_
      refine r_iret (v := nI (nG ns (k))) (mc := 0) (ms := 0) hx hb hr hlk hs (Nat.le_refl _) (Nat.le_refl _) dX8_of_57 hQ ?_
      exact roV.rf (by rw [fOf, k11_1, if_pos ⟨hHk, by decide, by decide⟩]; exact (kGet_nI (c := 1) (by omega) (by omega) (by decide)).symm)
    by_cases k11_2 : y = 2
    · skip
      refine lv_tableIn (off := 47) (tgt := 58) hx hb dX8_of_11 (by rw [k11_2]; decide) (by rw [k11_2]; decide) (by rw [k11_2]; decide) (by decide) ?_
      refine lv_aload_n hx hb dX8_of_58 rfl (lv_at hl 0 rfl) ?_
      refine r_get (ci := 8) (v := .ref (ad 28)) (C := RX8) (T := TX8) (N := 31) hx hb hts inlX8 hown hK hs (22) (by omega) (md22 hM) rfl 6 (by decide) (hts _ w_fl_RX8_25) rfl dX8_of_59 ?_
      refine lv_iload_n hx hb dX8_of_62 rfl (lv_at hl 1 rfl) ?_
      refine r_ialdN (t := k) hx hb hK hs (28) (by omega) (md28 hM) (rfl) (by omega) (by omega) dX8_of_63 ?_
      refine r_topi (y := nI (nA ns (k))) rfl ?_
      refine r_iret (v := nI (nA ns (k))) (mc := 0) (ms := 0) hx hb hr hlk hs (Nat.le_refl _) (Nat.le_refl _) dX8_of_64 hQ ?_
      exact roV.rf (by rw [fOf, k11_2, if_pos ⟨hHk, by decide, by decide⟩]; exact (kGet_nI (c := 2) (by omega) (by omega) (by decide)).symm)
    by_cases k11_3 : y = 3
    · skip
      refine lv_tableIn (off := 54) (tgt := 65) hx hb dX8_of_11 (by rw [k11_3]; decide) (by rw [k11_3]; decide) (by rw [k11_3]; decide) (by decide) ?_
      refine lv_aload_n hx hb dX8_of_65 rfl (lv_at hl 0 rfl) ?_
      refine r_get (ci := 8) (v := .ref (ad 29)) (C := RX8) (T := TX8) (N := 31) hx hb hts inlX8 hown hK hs (22) (by omega) (md22 hM) rfl 7 (by decide) (hts _ w_fl_RX8_28) rfl dX8_of_66 ?_
      refine lv_iload_n hx hb dX8_of_69 rfl (lv_at hl 1 rfl) ?_
      refine r_ialdN (t := k) hx hb hK hs (29) (by omega) (md29 hM) (rfl) (by omega) (by omega) dX8_of_70 ?_
      refine r_topi (y := nI (nB ns (k))) rfl ?_
      refine r_iret (v := nI (nB ns (k))) (mc := 0) (ms := 0) hx hb hr hlk hs (Nat.le_refl _) (Nat.le_refl _) dX8_of_71 hQ ?_
      exact roV.rf (by rw [fOf, k11_3, if_pos ⟨hHk, by decide, by decide⟩]; exact (kGet_nI (c := 3) (by omega) (by omega) (by decide)).symm)
    by_cases k11_4 : y = 4
    · skip
      refine lv_tableIn (off := 61) (tgt := 72) hx hb dX8_of_11 (by rw [k11_4]; decide) (by rw [k11_4]; decide) (by rw [k11_4]; decide) (by decide) ?_
      refine lv_aload_n hx hb dX8_of_72 rfl (lv_at hl 0 rfl) ?_
      refine r_get (ci := 8) (v := .ref (ad 30)) (C := RX8) (T := TX8) (N := 31) hx hb hts inlX8 hown hK hs (22) (by omega) (md22 hM) rfl 8 (by decide) (hts _ w_fl_RX8_31) rfl dX8_of_73 ?_
      refine lv_iload_n hx hb dX8_of_76 rfl (lv_at hl 1 rfl) ?_
      refine r_ialdN (t := k) hx hb hK hs (30) (by omega) (md30 hM) (rfl) (by omega) (by omega) dX8_of_77 ?_
      refine r_topi (y := nI (nC ns (k))) rfl ?_
      refine r_iret (v := nI (nC ns (k))) (mc := 0) (ms := 0) hx hb hr hlk hs (Nat.le_refl _) (Nat.le_refl _) dX8_of_78 hQ ?_
      exact roV.rf (by rw [fOf, k11_4, if_pos ⟨hHk, by decide, by decide⟩]; exact (kGet_nI (c := 4) (by omega) (by omega) (by decide)).symm)
    refine lv_tableOut (tgt := 79) hx hb dX8_of_11 (by have q0 : (y : Int32).toInt ≠ 0 := sw_ne k11_0; have q1 : (y : Int32).toInt ≠ 1 := sw_ne k11_1; have q2 : (y : Int32).toInt ≠ 2 := sw_ne k11_2; have q3 : (y : Int32).toInt ≠ 3 := sw_ne k11_3; have q4 : (y : Int32).toInt ≠ 4 := sw_ne k11_4; omega) (by decide) ?_
    refine lv_iconst (v := (-1)) hx hb dX8_of_79 (by decide) ?_
    refine r_iret (v := (-1)) (mc := 0) (ms := 0) hx hb hr hlk hs (Nat.le_refl _) (Nat.le_refl _) dX8_of_80 hQ ?_
    exact roV.rf (by rw [fOf, if_neg (fun q => of_no k11_0 k11_1 k11_2 k11_3 k11_4 q.2)])
  · skip
    refine lv_iconst (v := (-1)) hx hb dX8_of_8 (by decide) ?_
    refine r_iret (v := (-1)) (mc := 0) (ms := 0) hx hb hr hlk hs (Nat.le_refl _) (Nat.le_refl _) dX8_of_9 hQ ?_
    exact roV.rf (by rw [fOf, if_neg (fun q => absurd q.1 (by rw [b2i_0 c5]; decide))])

set_option maxHeartbeats 600000 in
set_option maxRecDepth 100000 in
theorem c_X8_isThat (l : Launch) (G : rG) {n : Nat} {ad : Nat → Nat} {en : Nat → va_E} {ss ns : List Row} {c : Nat → Nat → Int32} {us : Int32} {ov : Int32} {dp : Int32} {cl : Int32}  (hM : MdW G n ad en ss ns c us ov dp cl) {f so a b : Nat} (hf : f ≤ 600) (h3 : so < 2 ^ 31 ∧ a < 2 ^ 31 ∧ b < 2 ^ 31) : CI l G yX8_isThat uX8_isThat (0) (0) (0) (0) [.ref (ad 22), .int (nI f), .int (nI so), .int (nI a), .int (nI b)] (n) (n) ad en (roV ad en (b2i (decide (sSort ss f = so ∧ sL ss f = a ∧ sR ss f = b)))) := by
  intro sz
  refine rMet (Qc := qI G (n) (roV ad en (b2i (decide (sSort ss f = so ∧ sL ss f = a ∧ sR ss f = b))))) (cc := cX8_isThat) (maxL := 5) (ret := (some .boolean)) (by decide) rfl (Nat.le_of_ble_eq_true rfl) ?_
  intro pP eE sS mM aA bB tT cC ls A Q hc hK hsz hA hs hl hQ
  obtain ⟨hx, hb, hr, hts, hown, hlk, hnm, hml⟩ := hc
  have hl : lv_has ls 5 [(0, .ref (ad 22)), (1, .int (nI f)), (2, .int (nI so)), (3, .int (nI a)), (4, .int (nI b))] := hl
  have fr0 : ∀ k, k < 22 → en k = en k := fun _ _ => rfl
  obtain ⟨hn48, -, -, -, hok, hnk⟩ := id hM
  have h6 := hok.1
  have h8 := hnk.1
  
  refine lv_aload_n hx hb dX8_isThat_0 rfl (lv_at hl 0 rfl) ?_
  refine r_get (ci := 8) (v := .ref (ad 23)) (C := RX8) (T := TX8) (N := 31) hx hb hts inlX8 hown hK hs (22) (by omega) (md22 hM) rfl 0 (by decide) (hts _ w_fl_RX8_7) rfl dX8_isThat_1 ?_
  refine lv_iload_n hx hb dX8_isThat_4 rfl (lv_at hl 1 rfl) ?_
  refine r_ialdN (t := f) hx hb hK hs (23) (by omega) (md23 hM) (rfl) (by omega) (by omega) dX8_isThat_5 ?_
  refine r_topi (y := nI (sSort ss (f))) rfl ?_
  refine lv_iload_n hx hb dX8_isThat_6 rfl (lv_at hl 2 rfl) ?_
  refine lv_icmp_ne (tgt := 35) hx hb dX8_isThat_7 (by decide) (fun c7 => ?_) (fun c7 => ?_)
  · skip
    refine lv_iconst (v := 0) hx hb dX8_isThat_35 (by decide) ?_
    refine r_zret (v := 0) (mc := 0) (ms := 0) hx hb hr hlk hs (Nat.le_refl _) (Nat.le_refl _) dX8_isThat_36 ?_ hQ ?_
    · first | exact Or.inl rfl | exact Or.inr rfl | exact b2i_z _
    exact roV.rf (by rw [decide_eq_false (fun q => c7 (by rw [q.1]))]; rfl)
  · skip
    refine lv_aload_n hx hb dX8_isThat_10 rfl (lv_at hl 0 rfl) ?_
    refine r_get (ci := 8) (v := .ref (ad 24)) (C := RX8) (T := TX8) (N := 31) hx hb hts inlX8 hown hK hs (22) (by omega) (md22 hM) rfl 1 (by decide) (hts _ w_fl_RX8_13) rfl dX8_isThat_11 ?_
    refine lv_iload_n hx hb dX8_isThat_14 rfl (lv_at hl 1 rfl) ?_
    refine r_ialdN (t := f) hx hb hK hs (24) (by omega) (md24 hM) (rfl) (by omega) (by omega) dX8_isThat_15 ?_
    refine r_topi (y := nI (sL ss (f))) rfl ?_
    refine lv_iload_n hx hb dX8_isThat_16 rfl (lv_at hl 3 rfl) ?_
    refine lv_icmp_ne (tgt := 35) hx hb dX8_isThat_17 (by decide) (fun c17 => ?_) (fun c17 => ?_)
    · skip
      refine lv_iconst (v := 0) hx hb dX8_isThat_35 (by decide) ?_
      refine r_zret (v := 0) (mc := 0) (ms := 0) hx hb hr hlk hs (Nat.le_refl _) (Nat.le_refl _) dX8_isThat_36 ?_ hQ ?_
      · first | exact Or.inl rfl | exact Or.inr rfl | exact b2i_z _
      exact roV.rf (by rw [decide_eq_false (fun q => c17 (by rw [q.2.1]))]; rfl)
    · skip
      refine lv_aload_n hx hb dX8_isThat_20 rfl (lv_at hl 0 rfl) ?_
      refine r_get (ci := 8) (v := .ref (ad 25)) (C := RX8) (T := TX8) (N := 31) hx hb hts inlX8 hown hK hs (22) (by omega) (md22 hM) rfl 2 (by decide) (hts _ w_fl_RX8_16) rfl dX8_isThat_21 ?_
      refine lv_iload_n hx hb dX8_isThat_24 rfl (lv_at hl 1 rfl) ?_
      refine r_ialdN (t := f) hx hb hK hs (25) (by omega) (md25 hM) (rfl) (by omega) (by omega) dX8_isThat_25 ?_
      refine r_topi (y := nI (sR ss (f))) rfl ?_
      refine lv_iload hx hb dX8_isThat_26 (lv_at hl 4 rfl) ?_
      refine lv_icmp_ne (tgt := 35) hx hb dX8_isThat_28 (by decide) (fun c28 => ?_) (fun c28 => ?_)
      · skip
        refine lv_iconst (v := 0) hx hb dX8_isThat_35 (by decide) ?_
        refine r_zret (v := 0) (mc := 0) (ms := 0) hx hb hr hlk hs (Nat.le_refl _) (Nat.le_refl _) dX8_isThat_36 ?_ hQ ?_
        · first | exact Or.inl rfl | exact Or.inr rfl | exact b2i_z _
        exact roV.rf (by rw [decide_eq_false (fun q => c28 (by rw [q.2.2]))]; rfl)
      · skip
        refine lv_iconst (v := 1) hx hb dX8_isThat_31 (by decide) ?_
        refine lv_goto (tgt := 36) hx hb dX8_isThat_32 (by decide) ?_
        refine r_zret (v := 1) (mc := 0) (ms := 0) hx hb hr hlk hs (Nat.le_refl _) (Nat.le_refl _) dX8_isThat_36 ?_ hQ ?_
        · first | exact Or.inl rfl | exact Or.inr rfl | exact b2i_z _
        exact roV.rf (by rw [decide_eq_true ⟨(nI_eq (by have := sort_le hok (k := f); omega) h3.1).mp c7, (nI_eq (sLR_lt2 hok f).1 h3.2.1).mp c17, (nI_eq (sLR_lt2 hok f).2 h3.2.2).mp c28⟩]; rfl)

set_option maxHeartbeats 600000 in
set_option maxRecDepth 100000 in
theorem c_X8_fits (l : Launch) (G : rG) {n : Nat} {ad : Nat → Nat} {en : Nat → va_E} {ss ns : List Row} {c : Nat → Nat → Int32} {us : Int32} {ov : Int32} {dp : Int32} {cl : Int32}  (hM : MdW G n ad en ss ns c us ov dp cl) {k : Nat} (hk : 1 ≤ k ∧ k ≤ ns.length) : CI l G yX8_fits uX8_fits (1) (24) (0) (0) [.ref (ad 22), .int (nI k)] (n) (n) ad en (roV ad en (b2i (fitN ss ns k))) := by
  intro sz
  refine rMet (Qc := qI G (n) (roV ad en (b2i (fitN ss ns k)))) (cc := cX8_fits) (maxL := 5) (ret := (some .boolean)) (by decide) rfl (Nat.le_of_ble_eq_true rfl) ?_
  intro pP eE sS mM aA bB tT cC ls A Q hc hK hsz hA hs hl hQ
  obtain ⟨hx, hb, hr, hts, hown, hlk, hnm, hml⟩ := hc
  have hl : lv_has ls 5 [(0, .ref (ad 22)), (1, .int (nI k))] := hl
  have fr0 : ∀ k, k < 22 → en k = en k := fun _ _ => rfl
  obtain ⟨hn48, -, -, -, hok, hnk⟩ := id hM
  have h6 := hok.1
  have h8 := hnk.1
  obtain ⟨p1, p2, p3, p4, p5⟩ := part_lt hnk hk
  have hgA := nG_le hnk (nA ns k)
  have hgB := nG_le hnk (nB ns k)
  have hgC := nG_le hnk (nC ns k)
  refine lv_aload_n hx hb dX8_fits_0 rfl (lv_at hl 0 rfl) ?_
  refine r_get (ci := 8) (v := .ref (ad 27)) (C := RX8) (T := TX8) (N := 31) hx hb hts inlX8 hown hK hs (22) (by omega) (md22 hM) rfl 5 (by decide) (hts _ w_fl_RX8_22) rfl dX8_fits_1 ?_
  refine lv_iload_n hx hb dX8_fits_4 rfl (lv_at hl 1 rfl) ?_
  refine r_ialdN (t := k) hx hb hK hs (27) (by omega) (md27 hM) (rfl) (by omega) (by omega) dX8_fits_5 ?_
  refine r_topi (y := nI (nG ns (k))) rfl ?_
  refine lv_istore_n (lv' := [(2, .int (nI (nG ns (k)))), (0, .ref (ad 22)), (1, .int (nI k))]) hx hb dX8_fits_6 rfl hl (by decide) rfl (fun ls hl => ?_)
  refine lv_aload_n hx hb dX8_fits_7 rfl (lv_at hl 1 rfl) ?_
  refine r_get (ci := 8) (v := .ref (ad 27)) (C := RX8) (T := TX8) (N := 31) hx hb hts inlX8 hown hK hs (22) (by omega) (md22 hM) rfl 5 (by decide) (hts _ w_fl_RX8_22) rfl dX8_fits_8 ?_
  refine lv_aload_n hx hb dX8_fits_11 rfl (lv_at hl 1 rfl) ?_
  refine r_get (ci := 8) (v := .ref (ad 28)) (C := RX8) (T := TX8) (N := 31) hx hb hts inlX8 hown hK hs (22) (by omega) (md22 hM) rfl 6 (by decide) (hts _ w_fl_RX8_25) rfl dX8_fits_12 ?_
  refine lv_iload_n hx hb dX8_fits_15 rfl (lv_at hl 2 rfl) ?_
  refine r_ialdN (t := k) hx hb hK hs (28) (by omega) (md28 hM) (rfl) (by omega) (by omega) dX8_fits_16 ?_
  refine r_topi (y := nI (nA ns (k))) rfl ?_
  refine r_ialdN (t := nA ns (k)) hx hb hK hs (27) (by omega) (md27 hM) (rfl) (by omega) (by omega) dX8_fits_17 ?_
  refine r_topi (y := nI (nG ns (nA ns (k)))) rfl ?_
  refine lv_istore_n (lv' := [(3, .int (nI (nG ns (nA ns (k))))), (2, .int (nI (nG ns (k)))), (0, .ref (ad 22)), (1, .int (nI k))]) hx hb dX8_fits_18 rfl hl (by decide) rfl (fun ls hl => ?_)
  refine lv_aload_n hx hb dX8_fits_19 rfl (lv_at hl 2 rfl) ?_
  refine r_get (ci := 8) (v := .ref (ad 27)) (C := RX8) (T := TX8) (N := 31) hx hb hts inlX8 hown hK hs (22) (by omega) (md22 hM) rfl 5 (by decide) (hts _ w_fl_RX8_22) rfl dX8_fits_20 ?_
  refine lv_aload_n hx hb dX8_fits_23 rfl (lv_at hl 2 rfl) ?_
  refine r_get (ci := 8) (v := .ref (ad 29)) (C := RX8) (T := TX8) (N := 31) hx hb hts inlX8 hown hK hs (22) (by omega) (md22 hM) rfl 7 (by decide) (hts _ w_fl_RX8_28) rfl dX8_fits_24 ?_
  refine lv_iload_n hx hb dX8_fits_27 rfl (lv_at hl 3 rfl) ?_
  refine r_ialdN (t := k) hx hb hK hs (29) (by omega) (md29 hM) (rfl) (by omega) (by omega) dX8_fits_28 ?_
  refine r_topi (y := nI (nB ns (k))) rfl ?_
  refine r_ialdN (t := nB ns (k)) hx hb hK hs (27) (by omega) (md27 hM) (rfl) (by omega) (by omega) dX8_fits_29 ?_
  refine r_topi (y := nI (nG ns (nB ns (k)))) rfl ?_
  refine lv_istore (lv' := [(4, .int (nI (nG ns (nB ns (k))))), (3, .int (nI (nG ns (nA ns (k))))), (2, .int (nI (nG ns (k)))), (0, .ref (ad 22)), (1, .int (nI k))]) hx hb dX8_fits_30 hl (by decide) rfl (fun ls hl => ?_)
  refine lv_aload_n hx hb dX8_fits_32 rfl (lv_at hl 3 rfl) ?_
  refine r_get (ci := 8) (v := .ref (ad 26)) (C := RX8) (T := TX8) (N := 31) hx hb hts inlX8 hown hK hs (22) (by omega) (md22 hM) rfl 4 (by decide) (hts _ w_fl_RX8_19) rfl dX8_fits_33 ?_
  refine lv_iload_n hx hb dX8_fits_36 rfl (lv_at hl 4 rfl) ?_
  refine r_ialdN (t := k) hx hb hK hs (26) (by omega) (md26 hM) (rfl) (by omega) (by omega) dX8_fits_37 ?_
  refine r_topi (y := nI (nT ns (k))) rfl ?_
  by_cases k38_0 : nI (nT ns (k)) = 0
  · skip
    refine lv_tableIn (off := 50) (tgt := 88) hx hb dX8_fits_38 (by rw [k38_0]; decide) (by rw [k38_0]; decide) (by rw [k38_0]; decide) (by decide) ?_
    refine lv_iconst (v := 1) hx hb dX8_fits_88 (by decide) ?_
    refine r_zret (v := 1) (mc := 0) (ms := 0) hx hb hr hlk hs (Nat.le_refl _) (Nat.le_refl _) dX8_fits_89 ?_ hQ ?_
    · first | exact Or.inl rfl | exact Or.inr rfl | exact b2i_z _
    exact roV.rf (by rw [fitD_eq hnk hk, fitD, if_pos (sw_nI k38_0 rfl (by omega) (by decide))]; rfl)
  by_cases k38_1 : nI (nT ns (k)) = 1
  · skip
    refine lv_tableIn (off := 52) (tgt := 90) hx hb dX8_fits_38 (by rw [k38_1]; decide) (by rw [k38_1]; decide) (by rw [k38_1]; decide) (by decide) ?_
    refine lv_aload_n hx hb dX8_fits_90 rfl (lv_at hl 3 rfl) ?_
    refine r_get (ci := 8) (v := .ref (ad 23)) (C := RX8) (T := TX8) (N := 31) hx hb hts inlX8 hown hK hs (22) (by omega) (md22 hM) rfl 0 (by decide) (hts _ w_fl_RX8_7) rfl dX8_fits_91 ?_
    refine lv_iload_n hx hb dX8_fits_94 rfl (lv_at hl 2 rfl) ?_
    refine r_ialdN (t := nG ns (k)) hx hb hK hs (23) (by omega) (md23 hM) (rfl) (by omega) (by omega) dX8_fits_95 ?_
    refine r_topi (y := nI (sSort ss (nG ns (k)))) rfl ?_
    refine lv_iconst (v := 4) hx hb dX8_fits_96 (by decide) ?_
    refine lv_icmp_ne (tgt := 114) hx hb dX8_fits_97 (by decide) (fun c97 => ?_) (fun c97 => ?_)
    · skip
      refine lv_iconst (v := 0) hx hb dX8_fits_114 (by decide) ?_
      refine r_zret (v := 0) (mc := 0) (ms := 0) hx hb hr hlk hs (Nat.le_refl _) (Nat.le_refl _) dX8_fits_115 ?_ hQ ?_
      · first | exact Or.inl rfl | exact Or.inr rfl | exact b2i_z _
      exact roV.rf (by rw [fitD_eq hnk hk, fitD, if_neg (fun q => k38_0 (by rw [q]; rfl)), if_pos (sw_nI k38_1 rfl (by omega) (by decide))]; rw [decide_eq_false (fun q => c97 (by rw [q.1]; rfl))]; rfl)
    · skip
      refine lv_aload_n hx hb dX8_fits_100 rfl (lv_at hl 3 rfl) ?_
      refine r_get (ci := 8) (v := .ref (ad 25)) (C := RX8) (T := TX8) (N := 31) hx hb hts inlX8 hown hK hs (22) (by omega) (md22 hM) rfl 2 (by decide) (hts _ w_fl_RX8_16) rfl dX8_fits_101 ?_
      refine lv_iload_n hx hb dX8_fits_104 rfl (lv_at hl 2 rfl) ?_
      refine r_ialdN (t := nG ns (k)) hx hb hK hs (25) (by omega) (md25 hM) (rfl) (by omega) (by omega) dX8_fits_105 ?_
      refine r_topi (y := nI (sR ss (nG ns (k)))) rfl ?_
      refine lv_iload_n hx hb dX8_fits_106 rfl (lv_at hl 1 rfl) ?_
      refine lv_icmp_ne (tgt := 114) hx hb dX8_fits_107 (by decide) (fun c107 => ?_) (fun c107 => ?_)
      · skip
        refine lv_iconst (v := 0) hx hb dX8_fits_114 (by decide) ?_
        refine r_zret (v := 0) (mc := 0) (ms := 0) hx hb hr hlk hs (Nat.le_refl _) (Nat.le_refl _) dX8_fits_115 ?_ hQ ?_
        · first | exact Or.inl rfl | exact Or.inr rfl | exact b2i_z _
        exact roV.rf (by rw [fitD_eq hnk hk, fitD, if_neg (fun q => k38_0 (by rw [q]; rfl)), if_pos (sw_nI k38_1 rfl (by omega) (by decide))]; rw [decide_eq_false (fun q => c107 (by rw [q.2]))]; rfl)
      · skip
        refine lv_iconst (v := 1) hx hb dX8_fits_110 (by decide) ?_
        refine lv_goto (tgt := 115) hx hb dX8_fits_111 (by decide) ?_
        refine r_zret (v := 1) (mc := 0) (ms := 0) hx hb hr hlk hs (Nat.le_refl _) (Nat.le_refl _) dX8_fits_115 ?_ hQ ?_
        · first | exact Or.inl rfl | exact Or.inr rfl | exact b2i_z _
        have hsl := sLR_lt hok (nG ns k)
        exact roV.rf (by rw [fitD_eq hnk hk, fitD, if_neg (fun q => k38_0 (by rw [q]; rfl)), if_pos (sw_nI k38_1 rfl (by omega) (by decide))]; rw [decide_eq_true (⟨sq hok (v := 4) c97, (nI_eq (by omega) (by omega)).mp c107⟩)]; rfl)
  by_cases k38_2 : nI (nT ns (k)) = 2
  · skip
    refine lv_tableIn (off := 78) (tgt := 116) hx hb dX8_fits_38 (by rw [k38_2]; decide) (by rw [k38_2]; decide) (by rw [k38_2]; decide) (by decide) ?_
    refine lv_aload_n hx hb dX8_fits_116 rfl (lv_at hl 3 rfl) ?_
    refine lv_iload_n hx hb dX8_fits_117 rfl (lv_at hl 1 rfl) ?_
    refine lv_iconst (v := 4) hx hb dX8_fits_118 (by decide) ?_
    refine r_topi (y := nI 4) (rfl) ?_
    refine lv_iload hx hb dX8_fits_119 (lv_at hl 0 rfl) ?_
    refine lv_iload_n hx hb dX8_fits_121 rfl (lv_at hl 2 rfl) ?_
    refine r_callViR (ci := 8) (As := [.int (nI (nG ns (nA ns (k)))), .int (nI 4), .int (nI (nG ns (nB ns (k)))), .int (nI (nG ns (k)))]) hx hb hml hown hts hK hA hs (22) (by omega) (md22 hM) rfl rfl (c_X8_isThat l G hM (f := (nG ns (nA ns (k)))) (so := 4) (a := (nG ns (nB ns (k)))) (b := (nG ns (k))) (by omega) ⟨by decide, by omega, by omega⟩) (cwV 4 hts (tbV w_ml_RX8_202 w_im_yX8_isThat w_se_yX8_isThat w_ini_RX8 w_cd_yX8_isThat) rfl rfl rfl (by decide +kernel) ⟨Nat.le_of_ble_eq_true rfl, Nat.le_of_ble_eq_true rfl⟩) rfl hl.1 rfl (Nat.le_of_ble_eq_true rfl) dX8_fits_122 ⟨Nat.zero_le _, Nat.zero_le _⟩ (fun H locs hs => ?_)
    refine r_zret (v := b2i (decide (sSort ss ((nG ns (nA ns (k)))) = 4 ∧ sL ss ((nG ns (nA ns (k)))) = (nG ns (nB ns (k))) ∧ sR ss ((nG ns (nA ns (k)))) = (nG ns (k))))) (mc := 0) (ms := 0) hx hb hr hlk hs (Nat.le_refl _) (Nat.le_refl _) dX8_fits_125 ?_ hQ ?_
    · first | exact Or.inl rfl | exact Or.inr rfl | exact b2i_z _
    exact roV.rf (by rw [fitD_eq hnk hk, fitD, if_neg (fun q => k38_0 (by rw [q]; rfl)), if_neg (fun q => k38_1 (by rw [q]; rfl)), if_pos (sw_nI k38_2 rfl (by omega) (by decide))])
  by_cases k38_3 : nI (nT ns (k)) = 3
  · skip
    refine lv_tableIn (off := 88) (tgt := 126) hx hb dX8_fits_38 (by rw [k38_3]; decide) (by rw [k38_3]; decide) (by rw [k38_3]; decide) (by decide) ?_
    refine lv_aload_n hx hb dX8_fits_126 rfl (lv_at hl 3 rfl) ?_
    refine lv_iload_n hx hb dX8_fits_127 rfl (lv_at hl 2 rfl) ?_
    refine lv_iconst (v := 2) hx hb dX8_fits_128 (by decide) ?_
    refine r_topi (y := nI 2) (rfl) ?_
    refine lv_iload_n hx hb dX8_fits_129 rfl (lv_at hl 1 rfl) ?_
    refine lv_iload hx hb dX8_fits_130 (lv_at hl 0 rfl) ?_
    refine r_callViR (ci := 8) (As := [.int (nI (nG ns (k))), .int (nI 2), .int (nI (nG ns (nA ns (k)))), .int (nI (nG ns (nB ns (k))))]) hx hb hml hown hts hK hA hs (22) (by omega) (md22 hM) rfl rfl (c_X8_isThat l G hM (f := (nG ns (k))) (so := 2) (a := (nG ns (nA ns (k)))) (b := (nG ns (nB ns (k)))) (by omega) ⟨by decide, by omega, by omega⟩) (cwV 4 hts (tbV w_ml_RX8_202 w_im_yX8_isThat w_se_yX8_isThat w_ini_RX8 w_cd_yX8_isThat) rfl rfl rfl (by decide +kernel) ⟨Nat.le_of_ble_eq_true rfl, Nat.le_of_ble_eq_true rfl⟩) rfl hl.1 rfl (Nat.le_of_ble_eq_true rfl) dX8_fits_132 ⟨Nat.zero_le _, Nat.zero_le _⟩ (fun H locs hs => ?_)
    refine r_zret (v := b2i (decide (sSort ss ((nG ns (k))) = 2 ∧ sL ss ((nG ns (k))) = (nG ns (nA ns (k))) ∧ sR ss ((nG ns (k))) = (nG ns (nB ns (k)))))) (mc := 0) (ms := 0) hx hb hr hlk hs (Nat.le_refl _) (Nat.le_refl _) dX8_fits_135 ?_ hQ ?_
    · first | exact Or.inl rfl | exact Or.inr rfl | exact b2i_z _
    exact roV.rf (by rw [fitD_eq hnk hk, fitD, if_neg (fun q => k38_0 (by rw [q]; rfl)), if_neg (fun q => k38_1 (by rw [q]; rfl)), if_neg (fun q => k38_2 (by rw [q]; rfl)), if_pos (sw_nI k38_3 rfl (by omega) (by decide))])
  by_cases k38_4 : nI (nT ns (k)) = 4
  · skip
    refine lv_tableIn (off := 98) (tgt := 136) hx hb dX8_fits_38 (by rw [k38_4]; decide) (by rw [k38_4]; decide) (by rw [k38_4]; decide) (by decide) ?_
    refine lv_aload_n hx hb dX8_fits_136 rfl (lv_at hl 3 rfl) ?_
    refine r_get (ci := 8) (v := .ref (ad 23)) (C := RX8) (T := TX8) (N := 31) hx hb hts inlX8 hown hK hs (22) (by omega) (md22 hM) rfl 0 (by decide) (hts _ w_fl_RX8_7) rfl dX8_fits_137 ?_
    refine lv_iload_n hx hb dX8_fits_140 rfl (lv_at hl 1 rfl) ?_
    refine r_ialdN (t := nG ns (nA ns (k))) hx hb hK hs (23) (by omega) (md23 hM) (rfl) (by omega) (by omega) dX8_fits_141 ?_
    refine r_topi (y := nI (sSort ss (nG ns (nA ns (k))))) rfl ?_
    refine lv_iconst (v := 2) hx hb dX8_fits_142 (by decide) ?_
    refine lv_icmp_ne (tgt := 160) hx hb dX8_fits_143 (by decide) (fun c143 => ?_) (fun c143 => ?_)
    · skip
      refine lv_iconst (v := 0) hx hb dX8_fits_160 (by decide) ?_
      refine r_zret (v := 0) (mc := 0) (ms := 0) hx hb hr hlk hs (Nat.le_refl _) (Nat.le_refl _) dX8_fits_161 ?_ hQ ?_
      · first | exact Or.inl rfl | exact Or.inr rfl | exact b2i_z _
      exact roV.rf (by rw [fitD_eq hnk hk, fitD, if_neg (fun q => k38_0 (by rw [q]; rfl)), if_neg (fun q => k38_1 (by rw [q]; rfl)), if_neg (fun q => k38_2 (by rw [q]; rfl)), if_neg (fun q => k38_3 (by rw [q]; rfl)), if_pos (sw_nI k38_4 rfl (by omega) (by decide))]; rw [decide_eq_false (fun q => c143 (by rw [q.1]; rfl))]; rfl)
    · skip
      refine lv_aload_n hx hb dX8_fits_146 rfl (lv_at hl 3 rfl) ?_
      refine r_get (ci := 8) (v := .ref (ad 24)) (C := RX8) (T := TX8) (N := 31) hx hb hts inlX8 hown hK hs (22) (by omega) (md22 hM) rfl 1 (by decide) (hts _ w_fl_RX8_13) rfl dX8_fits_147 ?_
      refine lv_iload_n hx hb dX8_fits_150 rfl (lv_at hl 1 rfl) ?_
      refine r_ialdN (t := nG ns (nA ns (k))) hx hb hK hs (24) (by omega) (md24 hM) (rfl) (by omega) (by omega) dX8_fits_151 ?_
      refine r_topi (y := nI (sL ss (nG ns (nA ns (k))))) rfl ?_
      refine lv_iload_n hx hb dX8_fits_152 rfl (lv_at hl 2 rfl) ?_
      refine lv_icmp_ne (tgt := 160) hx hb dX8_fits_153 (by decide) (fun c153 => ?_) (fun c153 => ?_)
      · skip
        refine lv_iconst (v := 0) hx hb dX8_fits_160 (by decide) ?_
        refine r_zret (v := 0) (mc := 0) (ms := 0) hx hb hr hlk hs (Nat.le_refl _) (Nat.le_refl _) dX8_fits_161 ?_ hQ ?_
        · first | exact Or.inl rfl | exact Or.inr rfl | exact b2i_z _
        exact roV.rf (by rw [fitD_eq hnk hk, fitD, if_neg (fun q => k38_0 (by rw [q]; rfl)), if_neg (fun q => k38_1 (by rw [q]; rfl)), if_neg (fun q => k38_2 (by rw [q]; rfl)), if_neg (fun q => k38_3 (by rw [q]; rfl)), if_pos (sw_nI k38_4 rfl (by omega) (by decide))]; rw [decide_eq_false (fun q => c153 (by rw [q.2]))]; rfl)
      · skip
        refine lv_iconst (v := 1) hx hb dX8_fits_156 (by decide) ?_
        refine lv_goto (tgt := 161) hx hb dX8_fits_157 (by decide) ?_
        refine r_zret (v := 1) (mc := 0) (ms := 0) hx hb hr hlk hs (Nat.le_refl _) (Nat.le_refl _) dX8_fits_161 ?_ hQ ?_
        · first | exact Or.inl rfl | exact Or.inr rfl | exact b2i_z _
        have hsl := sLR_lt hok (nG ns (nA ns k))
        exact roV.rf (by rw [fitD_eq hnk hk, fitD, if_neg (fun q => k38_0 (by rw [q]; rfl)), if_neg (fun q => k38_1 (by rw [q]; rfl)), if_neg (fun q => k38_2 (by rw [q]; rfl)), if_neg (fun q => k38_3 (by rw [q]; rfl)), if_pos (sw_nI k38_4 rfl (by omega) (by decide))]; rw [decide_eq_true (⟨sq hok (v := 2) c143, (nI_eq (by omega) (by omega)).mp c153⟩)]; rfl)
  by_cases k38_5 : nI (nT ns (k)) = 5
  · skip
    refine lv_tableIn (off := 124) (tgt := 162) hx hb dX8_fits_38 (by rw [k38_5]; decide) (by rw [k38_5]; decide) (by rw [k38_5]; decide) (by decide) ?_
    refine lv_aload_n hx hb dX8_fits_162 rfl (lv_at hl 3 rfl) ?_
    refine r_get (ci := 8) (v := .ref (ad 23)) (C := RX8) (T := TX8) (N := 31) hx hb hts inlX8 hown hK hs (22) (by omega) (md22 hM) rfl 0 (by decide) (hts _ w_fl_RX8_7) rfl dX8_fits_163 ?_
    refine lv_iload_n hx hb dX8_fits_166 rfl (lv_at hl 1 rfl) ?_
    refine r_ialdN (t := nG ns (nA ns (k))) hx hb hK hs (23) (by omega) (md23 hM) (rfl) (by omega) (by omega) dX8_fits_167 ?_
    refine r_topi (y := nI (sSort ss (nG ns (nA ns (k))))) rfl ?_
    refine lv_iconst (v := 2) hx hb dX8_fits_168 (by decide) ?_
    refine lv_icmp_ne (tgt := 186) hx hb dX8_fits_169 (by decide) (fun c169 => ?_) (fun c169 => ?_)
    · skip
      refine lv_iconst (v := 0) hx hb dX8_fits_186 (by decide) ?_
      refine r_zret (v := 0) (mc := 0) (ms := 0) hx hb hr hlk hs (Nat.le_refl _) (Nat.le_refl _) dX8_fits_187 ?_ hQ ?_
      · first | exact Or.inl rfl | exact Or.inr rfl | exact b2i_z _
      exact roV.rf (by rw [fitD_eq hnk hk, fitD, if_neg (fun q => k38_0 (by rw [q]; rfl)), if_neg (fun q => k38_1 (by rw [q]; rfl)), if_neg (fun q => k38_2 (by rw [q]; rfl)), if_neg (fun q => k38_3 (by rw [q]; rfl)), if_neg (fun q => k38_4 (by rw [q]; rfl)), if_pos (sw_nI k38_5 rfl (by omega) (by decide))]; rw [decide_eq_false (fun q => c169 (by rw [q.1]; rfl))]; rfl)
    · skip
      refine lv_aload_n hx hb dX8_fits_172 rfl (lv_at hl 3 rfl) ?_
      refine r_get (ci := 8) (v := .ref (ad 25)) (C := RX8) (T := TX8) (N := 31) hx hb hts inlX8 hown hK hs (22) (by omega) (md22 hM) rfl 2 (by decide) (hts _ w_fl_RX8_16) rfl dX8_fits_173 ?_
      refine lv_iload_n hx hb dX8_fits_176 rfl (lv_at hl 1 rfl) ?_
      refine r_ialdN (t := nG ns (nA ns (k))) hx hb hK hs (25) (by omega) (md25 hM) (rfl) (by omega) (by omega) dX8_fits_177 ?_
      refine r_topi (y := nI (sR ss (nG ns (nA ns (k))))) rfl ?_
      refine lv_iload_n hx hb dX8_fits_178 rfl (lv_at hl 2 rfl) ?_
      refine lv_icmp_ne (tgt := 186) hx hb dX8_fits_179 (by decide) (fun c179 => ?_) (fun c179 => ?_)
      · skip
        refine lv_iconst (v := 0) hx hb dX8_fits_186 (by decide) ?_
        refine r_zret (v := 0) (mc := 0) (ms := 0) hx hb hr hlk hs (Nat.le_refl _) (Nat.le_refl _) dX8_fits_187 ?_ hQ ?_
        · first | exact Or.inl rfl | exact Or.inr rfl | exact b2i_z _
        exact roV.rf (by rw [fitD_eq hnk hk, fitD, if_neg (fun q => k38_0 (by rw [q]; rfl)), if_neg (fun q => k38_1 (by rw [q]; rfl)), if_neg (fun q => k38_2 (by rw [q]; rfl)), if_neg (fun q => k38_3 (by rw [q]; rfl)), if_neg (fun q => k38_4 (by rw [q]; rfl)), if_pos (sw_nI k38_5 rfl (by omega) (by decide))]; rw [decide_eq_false (fun q => c179 (by rw [q.2]))]; rfl)
      · skip
        refine lv_iconst (v := 1) hx hb dX8_fits_182 (by decide) ?_
        refine lv_goto (tgt := 187) hx hb dX8_fits_183 (by decide) ?_
        refine r_zret (v := 1) (mc := 0) (ms := 0) hx hb hr hlk hs (Nat.le_refl _) (Nat.le_refl _) dX8_fits_187 ?_ hQ ?_
        · first | exact Or.inl rfl | exact Or.inr rfl | exact b2i_z _
        have hsl := sLR_lt hok (nG ns (nA ns k))
        exact roV.rf (by rw [fitD_eq hnk hk, fitD, if_neg (fun q => k38_0 (by rw [q]; rfl)), if_neg (fun q => k38_1 (by rw [q]; rfl)), if_neg (fun q => k38_2 (by rw [q]; rfl)), if_neg (fun q => k38_3 (by rw [q]; rfl)), if_neg (fun q => k38_4 (by rw [q]; rfl)), if_pos (sw_nI k38_5 rfl (by omega) (by decide))]; rw [decide_eq_true (⟨sq hok (v := 2) c169, (nI_eq (by omega) (by omega)).mp c179⟩)]; rfl)
  by_cases k38_6 : nI (nT ns (k)) = 6
  · skip
    refine lv_tableIn (off := 150) (tgt := 188) hx hb dX8_fits_38 (by rw [k38_6]; decide) (by rw [k38_6]; decide) (by rw [k38_6]; decide) (by decide) ?_
    refine lv_aload_n hx hb dX8_fits_188 rfl (lv_at hl 3 rfl) ?_
    refine r_get (ci := 8) (v := .ref (ad 23)) (C := RX8) (T := TX8) (N := 31) hx hb hts inlX8 hown hK hs (22) (by omega) (md22 hM) rfl 0 (by decide) (hts _ w_fl_RX8_7) rfl dX8_fits_189 ?_
    refine lv_iload_n hx hb dX8_fits_192 rfl (lv_at hl 2 rfl) ?_
    refine r_ialdN (t := nG ns (k)) hx hb hK hs (23) (by omega) (md23 hM) (rfl) (by omega) (by omega) dX8_fits_193 ?_
    refine r_topi (y := nI (sSort ss (nG ns (k)))) rfl ?_
    refine lv_iconst (v := 3) hx hb dX8_fits_194 (by decide) ?_
    refine lv_icmp_ne (tgt := 212) hx hb dX8_fits_195 (by decide) (fun c195 => ?_) (fun c195 => ?_)
    · skip
      refine lv_iconst (v := 0) hx hb dX8_fits_212 (by decide) ?_
      refine r_zret (v := 0) (mc := 0) (ms := 0) hx hb hr hlk hs (Nat.le_refl _) (Nat.le_refl _) dX8_fits_213 ?_ hQ ?_
      · first | exact Or.inl rfl | exact Or.inr rfl | exact b2i_z _
      exact roV.rf (by rw [fitD_eq hnk hk, fitD, if_neg (fun q => k38_0 (by rw [q]; rfl)), if_neg (fun q => k38_1 (by rw [q]; rfl)), if_neg (fun q => k38_2 (by rw [q]; rfl)), if_neg (fun q => k38_3 (by rw [q]; rfl)), if_neg (fun q => k38_4 (by rw [q]; rfl)), if_neg (fun q => k38_5 (by rw [q]; rfl)), if_pos (sw_nI k38_6 rfl (by omega) (by decide))]; rw [decide_eq_false (fun q => c195 (by rw [q.1]; rfl))]; rfl)
    · skip
      refine lv_aload_n hx hb dX8_fits_198 rfl (lv_at hl 3 rfl) ?_
      refine r_get (ci := 8) (v := .ref (ad 24)) (C := RX8) (T := TX8) (N := 31) hx hb hts inlX8 hown hK hs (22) (by omega) (md22 hM) rfl 1 (by decide) (hts _ w_fl_RX8_13) rfl dX8_fits_199 ?_
      refine lv_iload_n hx hb dX8_fits_202 rfl (lv_at hl 2 rfl) ?_
      refine r_ialdN (t := nG ns (k)) hx hb hK hs (24) (by omega) (md24 hM) (rfl) (by omega) (by omega) dX8_fits_203 ?_
      refine r_topi (y := nI (sL ss (nG ns (k)))) rfl ?_
      refine lv_iload_n hx hb dX8_fits_204 rfl (lv_at hl 1 rfl) ?_
      refine lv_icmp_ne (tgt := 212) hx hb dX8_fits_205 (by decide) (fun c205 => ?_) (fun c205 => ?_)
      · skip
        refine lv_iconst (v := 0) hx hb dX8_fits_212 (by decide) ?_
        refine r_zret (v := 0) (mc := 0) (ms := 0) hx hb hr hlk hs (Nat.le_refl _) (Nat.le_refl _) dX8_fits_213 ?_ hQ ?_
        · first | exact Or.inl rfl | exact Or.inr rfl | exact b2i_z _
        exact roV.rf (by rw [fitD_eq hnk hk, fitD, if_neg (fun q => k38_0 (by rw [q]; rfl)), if_neg (fun q => k38_1 (by rw [q]; rfl)), if_neg (fun q => k38_2 (by rw [q]; rfl)), if_neg (fun q => k38_3 (by rw [q]; rfl)), if_neg (fun q => k38_4 (by rw [q]; rfl)), if_neg (fun q => k38_5 (by rw [q]; rfl)), if_pos (sw_nI k38_6 rfl (by omega) (by decide))]; rw [decide_eq_false (fun q => c205 (by rw [q.2]))]; rfl)
      · skip
        refine lv_iconst (v := 1) hx hb dX8_fits_208 (by decide) ?_
        refine lv_goto (tgt := 213) hx hb dX8_fits_209 (by decide) ?_
        refine r_zret (v := 1) (mc := 0) (ms := 0) hx hb hr hlk hs (Nat.le_refl _) (Nat.le_refl _) dX8_fits_213 ?_ hQ ?_
        · first | exact Or.inl rfl | exact Or.inr rfl | exact b2i_z _
        have hsl := sLR_lt hok (nG ns k)
        exact roV.rf (by rw [fitD_eq hnk hk, fitD, if_neg (fun q => k38_0 (by rw [q]; rfl)), if_neg (fun q => k38_1 (by rw [q]; rfl)), if_neg (fun q => k38_2 (by rw [q]; rfl)), if_neg (fun q => k38_3 (by rw [q]; rfl)), if_neg (fun q => k38_4 (by rw [q]; rfl)), if_neg (fun q => k38_5 (by rw [q]; rfl)), if_pos (sw_nI k38_6 rfl (by omega) (by decide))]; rw [decide_eq_true (⟨sq hok (v := 3) c195, (nI_eq (by omega) (by omega)).mp c205⟩)]; rfl)
  by_cases k38_7 : nI (nT ns (k)) = 7
  · skip
    refine lv_tableIn (off := 176) (tgt := 214) hx hb dX8_fits_38 (by rw [k38_7]; decide) (by rw [k38_7]; decide) (by rw [k38_7]; decide) (by decide) ?_
    refine lv_aload_n hx hb dX8_fits_214 rfl (lv_at hl 3 rfl) ?_
    refine r_get (ci := 8) (v := .ref (ad 23)) (C := RX8) (T := TX8) (N := 31) hx hb hts inlX8 hown hK hs (22) (by omega) (md22 hM) rfl 0 (by decide) (hts _ w_fl_RX8_7) rfl dX8_fits_215 ?_
    refine lv_iload_n hx hb dX8_fits_218 rfl (lv_at hl 2 rfl) ?_
    refine r_ialdN (t := nG ns (k)) hx hb hK hs (23) (by omega) (md23 hM) (rfl) (by omega) (by omega) dX8_fits_219 ?_
    refine r_topi (y := nI (sSort ss (nG ns (k)))) rfl ?_
    refine lv_iconst (v := 3) hx hb dX8_fits_220 (by decide) ?_
    refine lv_icmp_ne (tgt := 238) hx hb dX8_fits_221 (by decide) (fun c221 => ?_) (fun c221 => ?_)
    · skip
      refine lv_iconst (v := 0) hx hb dX8_fits_238 (by decide) ?_
      refine r_zret (v := 0) (mc := 0) (ms := 0) hx hb hr hlk hs (Nat.le_refl _) (Nat.le_refl _) dX8_fits_239 ?_ hQ ?_
      · first | exact Or.inl rfl | exact Or.inr rfl | exact b2i_z _
      exact roV.rf (by rw [fitD_eq hnk hk, fitD, if_neg (fun q => k38_0 (by rw [q]; rfl)), if_neg (fun q => k38_1 (by rw [q]; rfl)), if_neg (fun q => k38_2 (by rw [q]; rfl)), if_neg (fun q => k38_3 (by rw [q]; rfl)), if_neg (fun q => k38_4 (by rw [q]; rfl)), if_neg (fun q => k38_5 (by rw [q]; rfl)), if_neg (fun q => k38_6 (by rw [q]; rfl)), if_pos (sw_nI k38_7 rfl (by omega) (by decide))]; rw [decide_eq_false (fun q => c221 (by rw [q.1]; rfl))]; rfl)
    · skip
      refine lv_aload_n hx hb dX8_fits_224 rfl (lv_at hl 3 rfl) ?_
      refine r_get (ci := 8) (v := .ref (ad 25)) (C := RX8) (T := TX8) (N := 31) hx hb hts inlX8 hown hK hs (22) (by omega) (md22 hM) rfl 2 (by decide) (hts _ w_fl_RX8_16) rfl dX8_fits_225 ?_
      refine lv_iload_n hx hb dX8_fits_228 rfl (lv_at hl 2 rfl) ?_
      refine r_ialdN (t := nG ns (k)) hx hb hK hs (25) (by omega) (md25 hM) (rfl) (by omega) (by omega) dX8_fits_229 ?_
      refine r_topi (y := nI (sR ss (nG ns (k)))) rfl ?_
      refine lv_iload_n hx hb dX8_fits_230 rfl (lv_at hl 1 rfl) ?_
      refine lv_icmp_ne (tgt := 238) hx hb dX8_fits_231 (by decide) (fun c231 => ?_) (fun c231 => ?_)
      · skip
        refine lv_iconst (v := 0) hx hb dX8_fits_238 (by decide) ?_
        refine r_zret (v := 0) (mc := 0) (ms := 0) hx hb hr hlk hs (Nat.le_refl _) (Nat.le_refl _) dX8_fits_239 ?_ hQ ?_
        · first | exact Or.inl rfl | exact Or.inr rfl | exact b2i_z _
        exact roV.rf (by rw [fitD_eq hnk hk, fitD, if_neg (fun q => k38_0 (by rw [q]; rfl)), if_neg (fun q => k38_1 (by rw [q]; rfl)), if_neg (fun q => k38_2 (by rw [q]; rfl)), if_neg (fun q => k38_3 (by rw [q]; rfl)), if_neg (fun q => k38_4 (by rw [q]; rfl)), if_neg (fun q => k38_5 (by rw [q]; rfl)), if_neg (fun q => k38_6 (by rw [q]; rfl)), if_pos (sw_nI k38_7 rfl (by omega) (by decide))]; rw [decide_eq_false (fun q => c231 (by rw [q.2]))]; rfl)
      · skip
        refine lv_iconst (v := 1) hx hb dX8_fits_234 (by decide) ?_
        refine lv_goto (tgt := 239) hx hb dX8_fits_235 (by decide) ?_
        refine r_zret (v := 1) (mc := 0) (ms := 0) hx hb hr hlk hs (Nat.le_refl _) (Nat.le_refl _) dX8_fits_239 ?_ hQ ?_
        · first | exact Or.inl rfl | exact Or.inr rfl | exact b2i_z _
        have hsl := sLR_lt hok (nG ns k)
        exact roV.rf (by rw [fitD_eq hnk hk, fitD, if_neg (fun q => k38_0 (by rw [q]; rfl)), if_neg (fun q => k38_1 (by rw [q]; rfl)), if_neg (fun q => k38_2 (by rw [q]; rfl)), if_neg (fun q => k38_3 (by rw [q]; rfl)), if_neg (fun q => k38_4 (by rw [q]; rfl)), if_neg (fun q => k38_5 (by rw [q]; rfl)), if_neg (fun q => k38_6 (by rw [q]; rfl)), if_pos (sw_nI k38_7 rfl (by omega) (by decide))]; rw [decide_eq_true (⟨sq hok (v := 3) c221, (nI_eq (by omega) (by omega)).mp c231⟩)]; rfl)
  by_cases k38_8 : nI (nT ns (k)) = 8
  · skip
    refine lv_tableIn (off := 202) (tgt := 240) hx hb dX8_fits_38 (by rw [k38_8]; decide) (by rw [k38_8]; decide) (by rw [k38_8]; decide) (by decide) ?_
    refine lv_aload_n hx hb dX8_fits_240 rfl (lv_at hl 3 rfl) ?_
    refine r_get (ci := 8) (v := .ref (ad 23)) (C := RX8) (T := TX8) (N := 31) hx hb hts inlX8 hown hK hs (22) (by omega) (md22 hM) rfl 0 (by decide) (hts _ w_fl_RX8_7) rfl dX8_fits_241 ?_
    refine lv_iload_n hx hb dX8_fits_244 rfl (lv_at hl 1 rfl) ?_
    refine r_ialdN (t := nG ns (nA ns (k))) hx hb hK hs (23) (by omega) (md23 hM) (rfl) (by omega) (by omega) dX8_fits_245 ?_
    refine r_topi (y := nI (sSort ss (nG ns (nA ns (k))))) rfl ?_
    refine lv_iconst (v := 3) hx hb dX8_fits_246 (by decide) ?_
    refine lv_icmp_ne (tgt := 275) hx hb dX8_fits_247 (by decide) (fun c247 => ?_) (fun c247 => ?_)
    · skip
      refine lv_iconst (v := 0) hx hb dX8_fits_275 (by decide) ?_
      refine r_zret (v := 0) (mc := 0) (ms := 0) hx hb hr hlk hs (Nat.le_refl _) (Nat.le_refl _) dX8_fits_276 ?_ hQ ?_
      · first | exact Or.inl rfl | exact Or.inr rfl | exact b2i_z _
      exact roV.rf (by rw [fitD_eq hnk hk, fitD, if_neg (fun q => k38_0 (by rw [q]; rfl)), if_neg (fun q => k38_1 (by rw [q]; rfl)), if_neg (fun q => k38_2 (by rw [q]; rfl)), if_neg (fun q => k38_3 (by rw [q]; rfl)), if_neg (fun q => k38_4 (by rw [q]; rfl)), if_neg (fun q => k38_5 (by rw [q]; rfl)), if_neg (fun q => k38_6 (by rw [q]; rfl)), if_neg (fun q => k38_7 (by rw [q]; rfl)), if_pos (sw_nI k38_8 rfl (by omega) (by decide))]; rw [decide_eq_false (fun q => c247 (by rw [q.1]; rfl))]; rfl)
    · skip
      refine lv_iload hx hb dX8_fits_250 (lv_at hl 0 rfl) ?_
      refine lv_iload_n hx hb dX8_fits_252 rfl (lv_at hl 2 rfl) ?_
      refine lv_icmp_ne (tgt := 275) hx hb dX8_fits_253 (by decide) (fun c253 => ?_) (fun c253 => ?_)
      · skip
        refine lv_iconst (v := 0) hx hb dX8_fits_275 (by decide) ?_
        refine r_zret (v := 0) (mc := 0) (ms := 0) hx hb hr hlk hs (Nat.le_refl _) (Nat.le_refl _) dX8_fits_276 ?_ hQ ?_
        · first | exact Or.inl rfl | exact Or.inr rfl | exact b2i_z _
        exact roV.rf (by rw [fitD_eq hnk hk, fitD, if_neg (fun q => k38_0 (by rw [q]; rfl)), if_neg (fun q => k38_1 (by rw [q]; rfl)), if_neg (fun q => k38_2 (by rw [q]; rfl)), if_neg (fun q => k38_3 (by rw [q]; rfl)), if_neg (fun q => k38_4 (by rw [q]; rfl)), if_neg (fun q => k38_5 (by rw [q]; rfl)), if_neg (fun q => k38_6 (by rw [q]; rfl)), if_neg (fun q => k38_7 (by rw [q]; rfl)), if_pos (sw_nI k38_8 rfl (by omega) (by decide))]; rw [decide_eq_false (fun q => c253 (by rw [q.2.1]))]; rfl)
      · skip
        refine lv_aload_n hx hb dX8_fits_256 rfl (lv_at hl 3 rfl) ?_
        refine r_get (ci := 8) (v := .ref (ad 27)) (C := RX8) (T := TX8) (N := 31) hx hb hts inlX8 hown hK hs (22) (by omega) (md22 hM) rfl 5 (by decide) (hts _ w_fl_RX8_22) rfl dX8_fits_257 ?_
        refine lv_aload_n hx hb dX8_fits_260 rfl (lv_at hl 3 rfl) ?_
        refine r_get (ci := 8) (v := .ref (ad 30)) (C := RX8) (T := TX8) (N := 31) hx hb hts inlX8 hown hK hs (22) (by omega) (md22 hM) rfl 8 (by decide) (hts _ w_fl_RX8_31) rfl dX8_fits_261 ?_
        refine lv_iload_n hx hb dX8_fits_264 rfl (lv_at hl 4 rfl) ?_
        refine r_ialdN (t := k) hx hb hK hs (30) (by omega) (md30 hM) (rfl) (by omega) (by omega) dX8_fits_265 ?_
        refine r_topi (y := nI (nC ns (k))) rfl ?_
        refine r_ialdN (t := nC ns (k)) hx hb hK hs (27) (by omega) (md27 hM) (rfl) (by omega) (by omega) dX8_fits_266 ?_
        refine r_topi (y := nI (nG ns (nC ns (k)))) rfl ?_
        refine lv_iload_n hx hb dX8_fits_267 rfl (lv_at hl 2 rfl) ?_
        refine lv_icmp_ne (tgt := 275) hx hb dX8_fits_268 (by decide) (fun c268 => ?_) (fun c268 => ?_)
        · skip
          refine lv_iconst (v := 0) hx hb dX8_fits_275 (by decide) ?_
          refine r_zret (v := 0) (mc := 0) (ms := 0) hx hb hr hlk hs (Nat.le_refl _) (Nat.le_refl _) dX8_fits_276 ?_ hQ ?_
          · first | exact Or.inl rfl | exact Or.inr rfl | exact b2i_z _
          exact roV.rf (by rw [fitD_eq hnk hk, fitD, if_neg (fun q => k38_0 (by rw [q]; rfl)), if_neg (fun q => k38_1 (by rw [q]; rfl)), if_neg (fun q => k38_2 (by rw [q]; rfl)), if_neg (fun q => k38_3 (by rw [q]; rfl)), if_neg (fun q => k38_4 (by rw [q]; rfl)), if_neg (fun q => k38_5 (by rw [q]; rfl)), if_neg (fun q => k38_6 (by rw [q]; rfl)), if_neg (fun q => k38_7 (by rw [q]; rfl)), if_pos (sw_nI k38_8 rfl (by omega) (by decide))]; rw [decide_eq_false (fun q => c268 (by rw [q.2.2]))]; rfl)
        · skip
          refine lv_iconst (v := 1) hx hb dX8_fits_271 (by decide) ?_
          refine lv_goto (tgt := 276) hx hb dX8_fits_272 (by decide) ?_
          refine r_zret (v := 1) (mc := 0) (ms := 0) hx hb hr hlk hs (Nat.le_refl _) (Nat.le_refl _) dX8_fits_276 ?_ hQ ?_
          · first | exact Or.inl rfl | exact Or.inr rfl | exact b2i_z _
          have hsl := sLR_lt hok (nG ns (nA ns k))
          exact roV.rf (by rw [fitD_eq hnk hk, fitD, if_neg (fun q => k38_0 (by rw [q]; rfl)), if_neg (fun q => k38_1 (by rw [q]; rfl)), if_neg (fun q => k38_2 (by rw [q]; rfl)), if_neg (fun q => k38_3 (by rw [q]; rfl)), if_neg (fun q => k38_4 (by rw [q]; rfl)), if_neg (fun q => k38_5 (by rw [q]; rfl)), if_neg (fun q => k38_6 (by rw [q]; rfl)), if_neg (fun q => k38_7 (by rw [q]; rfl)), if_pos (sw_nI k38_8 rfl (by omega) (by decide))]; rw [decide_eq_true (⟨sq hok (v := 3) c247, (nI_eq (by omega) (by omega)).mp c253, (nI_eq (by omega) (by omega)).mp c268⟩)]; rfl)
  refine lv_tableOut (tgt := 277) hx hb dX8_fits_38 (by have q0 : (nI (nT ns (k)) : Int32).toInt ≠ 0 := sw_ne k38_0; have q1 : (nI (nT ns (k)) : Int32).toInt ≠ 1 := sw_ne k38_1; have q2 : (nI (nT ns (k)) : Int32).toInt ≠ 2 := sw_ne k38_2; have q3 : (nI (nT ns (k)) : Int32).toInt ≠ 3 := sw_ne k38_3; have q4 : (nI (nT ns (k)) : Int32).toInt ≠ 4 := sw_ne k38_4; have q5 : (nI (nT ns (k)) : Int32).toInt ≠ 5 := sw_ne k38_5; have q6 : (nI (nT ns (k)) : Int32).toInt ≠ 6 := sw_ne k38_6; have q7 : (nI (nT ns (k)) : Int32).toInt ≠ 7 := sw_ne k38_7; have q8 : (nI (nT ns (k)) : Int32).toInt ≠ 8 := sw_ne k38_8; omega) (by decide) ?_
  refine lv_aload_n hx hb dX8_fits_277 rfl (lv_at hl 3 rfl) ?_
  refine r_get (ci := 8) (v := .ref (ad 23)) (C := RX8) (T := TX8) (N := 31) hx hb hts inlX8 hown hK hs (22) (by omega) (md22 hM) rfl 0 (by decide) (hts _ w_fl_RX8_7) rfl dX8_fits_278 ?_
  refine lv_iload_n hx hb dX8_fits_281 rfl (lv_at hl 1 rfl) ?_
  refine r_ialdN (t := nG ns (nA ns (k))) hx hb hK hs (23) (by omega) (md23 hM) (rfl) (by omega) (by omega) dX8_fits_282 ?_
  refine r_topi (y := nI (sSort ss (nG ns (nA ns (k))))) rfl ?_
  refine lv_iconst (v := 1) hx hb dX8_fits_283 (by decide) ?_
  refine lv_icmp_ne (tgt := 291) hx hb dX8_fits_284 (by decide) (fun c284 => ?_) (fun c284 => ?_)
  · skip
    refine lv_iconst (v := 0) hx hb dX8_fits_291 (by decide) ?_
    refine r_zret (v := 0) (mc := 0) (ms := 0) hx hb hr hlk hs (Nat.le_refl _) (Nat.le_refl _) dX8_fits_292 ?_ hQ ?_
    · first | exact Or.inl rfl | exact Or.inr rfl | exact b2i_z _
    exact roV.rf (by rw [fitD_eq hnk hk, fitD, if_neg (fun q => k38_0 (by rw [q]; rfl)), if_neg (fun q => k38_1 (by rw [q]; rfl)), if_neg (fun q => k38_2 (by rw [q]; rfl)), if_neg (fun q => k38_3 (by rw [q]; rfl)), if_neg (fun q => k38_4 (by rw [q]; rfl)), if_neg (fun q => k38_5 (by rw [q]; rfl)), if_neg (fun q => k38_6 (by rw [q]; rfl)), if_neg (fun q => k38_7 (by rw [q]; rfl)), if_neg (fun q => k38_8 (by rw [q]; rfl))]; rw [decide_eq_false (fun q => c284 (by rw [q]; rfl))]; rfl)
  · skip
    refine lv_iconst (v := 1) hx hb dX8_fits_287 (by decide) ?_
    refine lv_goto (tgt := 292) hx hb dX8_fits_288 (by decide) ?_
    refine r_zret (v := 1) (mc := 0) (ms := 0) hx hb hr hlk hs (Nat.le_refl _) (Nat.le_refl _) dX8_fits_292 ?_ hQ ?_
    · first | exact Or.inl rfl | exact Or.inr rfl | exact b2i_z _
    have hsl := sLR_lt hok (nG ns (nA ns k))
    exact roV.rf (by rw [fitD_eq hnk hk, fitD, if_neg (fun q => k38_0 (by rw [q]; rfl)), if_neg (fun q => k38_1 (by rw [q]; rfl)), if_neg (fun q => k38_2 (by rw [q]; rfl)), if_neg (fun q => k38_3 (by rw [q]; rfl)), if_neg (fun q => k38_4 (by rw [q]; rfl)), if_neg (fun q => k38_5 (by rw [q]; rfl)), if_neg (fun q => k38_6 (by rw [q]; rfl)), if_neg (fun q => k38_7 (by rw [q]; rfl)), if_neg (fun q => k38_8 (by rw [q]; rfl))]; rw [decide_eq_true (sq hok (v := 1) c284)]; rfl)

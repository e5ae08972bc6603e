theorem plv {ss : List Row} (h : ssOK ss) {Γ : Nat → Bool} {r f : Nat} (hr : 5 ≤ r ∧ r ≤ 10) (hf : 1 ≤ f ∧ f ≤ ss.length) (hG : Γ f = true) : PL ss Γ r f = (if r = 5 then decide (sSort ss f = 2) else if r = 6 then decide (sSort ss f = 3) else decide (sSort ss f = 4) && (if r = 7 then Γ (sL ss f) else isK ss (sL ss f) (if r = 8 then 1 else if r = 9 then 2 else 3))) := by
  have hk : ∀ j, (decide (sSort ss f = 4) && decide (sSort ss (sL ss f) = j)) = (decide (sSort ss f = 4) && isK ss (sL ss f) j) := by
    intro j
    by_cases q : sSort ss f = 4
    · have := (parts_of h hf (by omega)).1.1
      unfold isK
      congr 1
      apply decide_eq_decide.mpr
      omega
    · rw [decide_eq_false q]; rfl
  have : r = 5 ∨ r = 6 ∨ r = 7 ∨ r = 8 ∨ r = 9 ∨ r = 10 := by omega
  rcases this with rfl | rfl | rfl | rfl | rfl | rfl
  · show (Γ f && kindS ss 2 f) = _
    rw [hG, kind_lo h (by decide) hf]; rfl
  · show (Γ f && kindS ss 3 f) = _
    rw [hG, kind_lo h (by decide) hf]; rfl
  · show ((Γ f && kindS ss 4 f) && Γ (sL ss f)) = _
    rw [hG, kind_lo h (by decide) hf]; rfl
  · show (Γ f && kindS ss (5 + 1) f) = _
    rw [hG, kind_hi h hf, hk]; rfl
  · show (Γ f && kindS ss (5 + 2) f) = _
    rw [hG, kind_hi h hf, hk]; rfl
  · show (Γ f && kindS ss (5 + 3) f) = _
    rw [hG, kind_hi h hf, hk]; rfl
theorem pl_next {P : Nat → Bool} {f : Nat} (hno : ∀ y, 1 ≤ y → y < f → P y = false) (h : P f = false) : ∀ y, 1 ≤ y → y < f + 1 → P y = false := by
  intro y a b
  by_cases e : y = f
  · rw [e]; exact h
  · exact hno y a (by omega)
theorem row_cU {c : Nat → Nat → Int32} {d r t : Nat} {x : Int32} {Γ : Nat → Bool} (h : RowM c d Γ) (hr : r ≠ 31) : RowM (cU c r t x) d Γ := fun g hg => (cU_o (Or.inl (Ne.symm hr))).trans (h g hg)
def chR (w : Nat) : Nat := if w % 16 = 0 ∨ 10 < w % 16 then 11 else w % 16
def chA (w goal : Nat) : Nat := if 5 ≤ w % 16 ∧ w % 16 ≤ 10 then w / 16 else goal
theorem ch_1 {ss : List Row} {Γ : Nat → Bool} {goal : Nat} (h : Γ goal = true) : fstW ss Γ goal = 1 := by
  have e : goW ss Γ goal = 1 := by rw [goW, if_pos h]
  rw [fstW, e]; rfl
theorem bot_eq {ss : List Row} (hk : ssOK ss) {Γ : Nat → Bool} (hΓ : ∀ y, Γ y = true → 1 ≤ y ∧ y ≤ ss.length) : (Γ (kFind ss (1, 0, 0, 0, 0)) = true → lstK ss Γ 1 0 ≠ 0) ∧ (Γ (kFind ss (1, 0, 0, 0, 0)) = false → lstK ss Γ 1 0 = 0) := by
  have hrow : ∀ y, 1 ≤ y → y ≤ ss.length → sSort ss y = 1 → kFind ss (1, 0, 0, 0, 0) = y := by
    intro y a b q
    refine kFind_of hk ⟨a, b, ?_⟩
    have z := hk.2.1 y a b
    refine row_of hk ⟨a, b⟩ q ?_ ?_
    · obtain ⟨-, z | z | z⟩ := z <;> unfold sL <;> unfold sSort at q <;> omega
    · obtain ⟨-, z | z | z⟩ := z <;> unfold sR <;> unfold sSort at q <;> omega
  refine ⟨fun h q => ?_, fun h => ?_⟩
  · have hy := hΓ _ h
    have hat : kAt ss (kFind ss (1, 0, 0, 0, 0)) = (1, 0, 0, 0, 0) := kFU_at (by show kFind ss _ ≠ 0; omega)
    have := sLeast_n (by decide) q (kFind ss (1, 0, 0, 0, 0)) (by omega) (by have := hk.1; omega)
    rw [h, kind_lo hk (by decide) hy, show sSort ss (kFind ss (1, 0, 0, 0, 0)) = 1 from by unfold sSort; rw [hat]] at this
    exact absurd this (by decide)
  · refine Decidable.byContradiction (fun q => ?_)
    obtain ⟨a, b, -, d, -⟩ := lstK_y hk (by decide) q
    rw [hrow _ b.1 b.2 (d (by decide))] at h
    rw [h] at a; cases a
theorem ch_2 {ss : List Row} (hk : ssOK ss) {Γ : Nat → Bool} {goal : Nat} (hΓ : ∀ y, Γ y = true → 1 ≤ y ∧ y ≤ ss.length) (h1 : Γ goal = false) (h2 : Γ (kFind ss (1, 0, 0, 0, 0)) = true) : fstW ss Γ goal = 16 * lstK ss Γ 1 0 + 2 := by
  have e : goW ss Γ goal = 16 * lstK ss Γ 1 0 + 2 := by rw [goW, if_neg (by rw [h1]; decide), if_pos ((bot_eq hk hΓ).1 h2)]
  rw [fstW, e, if_pos (by omega)]
theorem ch_34 {ss : List Row} (hk : ssOK ss) {Γ : Nat → Bool} {goal : Nat} (hΓ : ∀ y, Γ y = true → 1 ≤ y ∧ y ≤ ss.length) (h1 : Γ goal = false) (h2 : Γ (kFind ss (1, 0, 0, 0, 0)) = false) : goW ss Γ goal = if sSort ss goal = 2 then 3 else if sSort ss goal = 4 then 4 else 0 := by
  rw [goW, if_neg (by rw [h1]; decide), if_neg (fun q => q ((bot_eq hk hΓ).2 h2))]
theorem ch_go {ss : List Row} {Γ : Nat → Bool} {goal w : Nat} (h : goW ss Γ goal = w) (hw : w ≠ 0) : fstW ss Γ goal = w := by rw [fstW, h, if_pos hw]
theorem ch_gi {ss : List Row} {Γ : Nat → Bool} {goal w : Nat} (h : goW ss Γ goal = 0) (h2 : giW ss Γ = w) (hw : w ≠ 0) : fstW ss Γ goal = w := by rw [fstW, h, if_neg (fun q => q rfl), h2, if_pos hw]
theorem ch_11 {ss : List Row} (hk : ssOK ss) {Γ : Nat → Bool} {goal : Nat} (h : goW ss Γ goal = 0) (h2 : giW ss Γ = 0) : fstW ss Γ goal = (if sSort ss goal = 3 then 11 else nsW ss Γ 0) ∧ chR (fstW ss Γ goal) = 11 ∧ ∀ g, chA (fstW ss Γ goal) g = g := by
  have e : fstW ss Γ goal = (if sSort ss goal = 3 then 11 else nsW ss Γ 0) := by rw [fstW, h, if_neg (fun q => q rfl), h2, if_neg (fun q => q rfl)]
  have e2 : fstW ss Γ goal % 16 = 11 ∨ fstW ss Γ goal % 16 = 13 ∨ fstW ss Γ goal % 16 = 0 := by
    rw [e]
    by_cases c : sSort ss goal = 3
    · rw [if_pos c]; exact Or.inl rfl
    · rw [if_neg c, nsW]
      split
      · omega
      · omega
  exact ⟨e, if_pos (by omega), fun g => if_neg (by omega)⟩
theorem chR_lo {f r : Nat} (h : 1 ≤ r ∧ r ≤ 10) : chR (16 * f + r) = r := by
  unfold chR; rw [if_neg (by omega)]; omega
theorem chA_lo {f r g : Nat} (h : 1 ≤ r ∧ r ≤ 4) : chA (16 * f + r) g = g := by
  unfold chA; rw [if_neg (by omega)]
theorem chA_hi {f r g : Nat} (h : 5 ≤ r ∧ r ≤ 10) : chA (16 * f + r) g = f := by
  unfold chA; rw [if_pos (by omega)]; omega
def chPost (G : rG) (n : Nat) (ad : Nat → Nat) (en : Nat → va_E) (ss ns : List Row) (c : Nat → Nat → Int32) (us ov dp cl : Int32) (s w goal : Nat) : (Nat → Nat) → (Nat → va_E) → Prop := fun ad1 en1 => mFr ad en ad1 en1 ∧ ∃ c1, MdW G n ad en1 ss ns c1 us ov dp cl ∧ c1 36 s = nI (chR w) ∧ c1 37 s = nI (chA w goal) ∧ ∀ r t, ¬ ((r = 36 ∨ r = 37) ∧ t = s) → c1 r t = c r t
theorem isK_ne {ss : List Row} {f so : Nat} (h : isK ss f so = false) (hf : 1 ≤ f) : ¬ sSort ss f = so := fun q => of_decide_eq_false h ⟨hf, q⟩
theorem lstR_lt (ss : List Row) (Γ : Nat → Bool) (r : Nat) : lstR ss Γ r < 640 := sLeast_lt
set_option maxHeartbeats 600000 in
set_option maxRecDepth 100000 in
theorem c_X8_least (l : Launch) (G : rG) {n : Nat} {ad : Nat → Nat} {en : Nat → va_E} {ss ns : List Row} {c : Nat → Nat → Int32} {us : Int32} {ov : Int32} {cl : Int32} {d : Nat} (hM : MdW G n ad en ss ns c us ov (nI d) cl) {r : Nat} (hr5 : 5 ≤ r ∧ r ≤ 10) (hd : d ≤ 81) {Γ : Nat → Bool} (hR : RowM c d Γ) (hΓ : ∀ y, Γ y = true → 1 ≤ y ∧ y ≤ ss.length) : CI l G yX8_least uX8_least (1) (22) (0) (0) [.ref (ad 22), .int (nI r)] (n) (n) ad en (roV ad en (nI (lstR ss Γ r))) := by
  intro sz
  refine rMet (Qc := qI G (n) (roV ad en (nI (lstR ss Γ r)))) (cc := cX8_least) (maxL := 6) (ret := (some .int)) (by decide) rfl (Nat.le_of_ble_eq_true rfl) ?_
  intro pP eE sS mM aA bB tT cC ls A Q hc hK hsz hA hs hl hQ
  obtain ⟨hx, hb, hr, hts, hown, hlk, hnm, hml⟩ := hc
  have hl : lv_has ls 6 [(0, .ref (ad 22)), (1, .int (nI r))] := hl
  have fr0 : ∀ k, k < 22 → en k = en k := fun _ _ => rfl
  obtain ⟨hn48, -, -, -, hok, hnk⟩ := id hM
  have h6 := hok.1
  have h8 := hnk.1
  
  refine lv_iconst (v := 1) hx hb dX8_least_0 (by decide) ?_
  refine lv_istore_n (lv' := [(2, .int (1)), (0, .ref (ad 22)), (1, .int (nI r))]) hx hb dX8_least_1 rfl hl (by decide) rfl (fun ls hl => ?_)
  suffices LOOP2 : ∀ (fu2 : Nat) (f : Nat) (H : Heap) (locs : List Loc) (ls : Array Slot), (1 ≤ f ∧ f ≤ ss.length + 1) → (∀ y, 1 ≤ y → y < f → PL ss Γ r y = false) → ss.length + 2 - f < fu2 → rS G A sS.heap (n) ad en H locs → lv_has ls 6 [(0, .ref (ad 22)), (1, .int (nI r)), (2, .int (nI f))] → W pP l eE (rRm (1) (22) (0) (0)) sS mM aA bB tT cC H locs (0) (0) Q (F0 mM 2 ls []) from LOOP2 _ (1) _ _ _ (by omega) (fun y a b => by omega) (Nat.lt_succ_self _) hs (lv_sub hl [1, 2, 0] rfl)
  intro fu2
  induction fu2 with
  | zero => intro f H locs ls hf hno hfu; exact absurd hfu (Nat.not_lt_zero _)
  | succ fu2 ih2 => ?_
  intro f H locs ls hf hno hfu2 hs hl
  refine lv_iload_n hx hb dX8_least_2 rfl (lv_at hl 2 rfl) ?_
  refine lv_aload_n hx hb dX8_least_3 rfl (lv_at hl 0 rfl) ?_
  refine r_get (ci := 8) (v := .int (nI ss.length)) (C := RX8) (T := TX8) (N := 31) hx hb hts inlX8 hown hK hs (22) (by omega) (md22 hM) rfl 3 (by decide) (hts _ w_fl_RX8_88) rfl dX8_least_4 ?_
  refine lv_icmp_gt (tgt := 165) hx hb dX8_least_7 (by decide) (fun c7 => ?_) (fun c7 => ?_)
  · skip
    have hfl : f = ss.length + 1 := by have := (nI_ltI (by omega) (by omega)).mp c7; omega
    refine lv_iconst (v := 0) hx hb dX8_least_165 (by decide) ?_
    refine r_iret (v := 0) (mc := 0) (ms := 0) hx hb hr hlk hs (Nat.le_refl _) (Nat.le_refl _) dX8_least_166 hQ ?_
    exact roV.rf (by rw [lstR, lst_none (fun y hy => if q : y ≤ ss.length then hno y hy (by omega) else PL_out hΓ (by omega))]; rfl)
  · skip
    have hfl : f ≤ ss.length := Nat.le_of_not_lt (fun q => c7 ((nI_ltI (by omega) (by omega)).mpr q))
    have hLf := sLR_lt hok f
    refine lv_aload_n hx hb dX8_least_10 rfl (lv_at hl 0 rfl) ?_
    refine lv_aload_n hx hb dX8_least_11 rfl (lv_at hl 0 rfl) ?_
    refine r_get (ci := 8) (v := .int (nI d)) (C := RX8) (T := TX8) (N := 31) hx hb hts inlX8 hown hK hs (22) (by omega) (md22 hM) rfl 17 (by decide) (hts _ w_fl_RX8_109) rfl dX8_least_12 ?_
    refine lv_iload_n hx hb dX8_least_15 rfl (lv_at hl 2 rfl) ?_
    refine r_callViR (ci := 8) (As := [.int (nI d), .int (nI f)]) hx hb hml hown hts hK hA hs (22) (by omega) (md22 hM) rfl rfl (c_X8_has l G hM (d := d) (f := f) (by omega) (by omega) hR hΓ) (cwV 2 hts (tbV w_ml_RX8_118 w_im_yX8_has w_se_yX8_has w_ini_RX8 w_cd_yX8_has) rfl rfl rfl (by decide +kernel) ⟨Nat.le_of_ble_eq_true rfl, Nat.le_of_ble_eq_true rfl⟩) rfl hl.1 rfl (Nat.le_of_ble_eq_true rfl) dX8_least_16 ⟨Nat.zero_le _, Nat.zero_le _⟩ (fun H locs hs => ?_)
    refine lv_if_ne (tgt := 25) hx hb dX8_least_19 (by decide) (fun c19 => ?_) (fun c19 => ?_)
    · skip
      refine lv_aload_n hx hb dX8_least_25 rfl (lv_at hl 0 rfl) ?_
      refine r_get (ci := 8) (v := .ref (ad 23)) (C := RX8) (T := TX8) (N := 31) hx hb hts inlX8 hown hK hs (22) (by omega) (md22 hM) rfl 0 (by decide) (hts _ w_fl_RX8_7) rfl dX8_least_26 ?_
      refine lv_iload_n hx hb dX8_least_29 rfl (lv_at hl 2 rfl) ?_
      refine r_ialdN (t := f) hx hb hK hs (23) (by omega) (md23 hM) (rfl) (by omega) (by omega) dX8_least_30 ?_
      refine r_topi (y := nI (sSort ss (f))) rfl ?_
      refine lv_iconst (v := 4) hx hb dX8_least_31 (by decide) ?_
      refine lv_icmp_ne (tgt := 39) hx hb dX8_least_32 (by decide) (fun c32 => ?_) (fun c32 => ?_)
      · skip
        have a4 : ¬ sSort ss f = 4 := fun q => c32 (by rw [q]; rfl)
        refine lv_iconst (v := 0) hx hb dX8_least_39 (by decide) ?_
        refine lv_istore_n (lv' := [(3, .int (0)), (0, .ref (ad 22)), (1, .int (nI r)), (2, .int (nI f))]) hx hb dX8_least_40 rfl hl (by decide) rfl (fun ls hl => ?_)
        refine lv_aload_n hx hb dX8_least_41 rfl (lv_at hl 1 rfl) ?_
        refine r_get (ci := 8) (v := .ref (ad 24)) (C := RX8) (T := TX8) (N := 31) hx hb hts inlX8 hown hK hs (22) (by omega) (md22 hM) rfl 1 (by decide) (hts _ w_fl_RX8_13) rfl dX8_least_42 ?_
        refine lv_iload_n hx hb dX8_least_45 rfl (lv_at hl 3 rfl) ?_
        refine r_ialdN (t := f) hx hb hK hs (24) (by omega) (md24 hM) (rfl) (by omega) (by omega) dX8_least_46 ?_
        refine r_topi (y := nI (sL ss (f))) rfl ?_
        refine lv_istore (lv' := [(4, .int (nI (sL ss (f)))), (3, .int (0)), (0, .ref (ad 22)), (1, .int (nI r)), (2, .int (nI f))]) hx hb dX8_least_47 hl (by decide) rfl (fun ls hl => ?_)
        refine lv_iload_n hx hb dX8_least_49 rfl (lv_at hl 3 rfl) ?_
        refine lv_iconst (v := 5) hx hb dX8_least_50 (by decide) ?_
        refine lv_icmp_ne (tgt := 72) hx hb dX8_least_51 (by decide) (fun c51 => ?_) (fun c51 => ?_)
        · skip
          have r5 : ¬ r = 5 := fun q => c51 (by rw [q]; rfl)
          refine lv_iload_n hx hb dX8_least_72 rfl (lv_at hl 3 rfl) ?_
          refine lv_bipush (v := 6) hx hb dX8_least_73 (by decide) ?_
          refine lv_icmp_ne (tgt := 96) hx hb dX8_least_75 (by decide) (fun c75 => ?_) (fun c75 => ?_)
          · skip
            have r6 : ¬ r = 6 := fun q => c75 (by rw [q]; rfl)
            refine lv_iload_n hx hb dX8_least_96 rfl (lv_at hl 1 rfl) ?_
            refine lv_if_ne (tgt := 104) hx hb dX8_least_97 (by decide) (fun c97 => absurd (by decide) c97) (fun _ => ?_)
            refine lv_iconst (v := 0) hx hb dX8_least_100 (by decide) ?_
            refine lv_goto (tgt := 150) hx hb dX8_least_101 (by decide) ?_
            refine lv_istore (lv' := [(5, .int (0)), (4, .int (nI (sL ss (f)))), (3, .int (0)), (0, .ref (ad 22)), (1, .int (nI r)), (2, .int (nI f))]) hx hb dX8_least_150 hl (by decide) rfl (fun ls hl => ?_)
            refine lv_iload hx hb dX8_least_152 (lv_at hl 0 rfl) ?_
            refine lv_if_eq (tgt := 159) hx hb dX8_least_154 (by decide) (fun _ => ?_) (fun c154 => absurd (by decide) c154)
            refine lv_iinc (v := nI (f + 1)) (lv' := [(2, .int (nI (f + 1))), (5, .int (0)), (4, .int (nI (sL ss (f)))), (3, .int (0)), (0, .ref (ad 22)), (1, .int (nI r))]) hx hb dX8_least_159 hl (k := 5) rfl (nI_add f 1) (by decide) rfl (fun ls hl => ?_)
            refine lv_goto (tgt := 2) hx hb dX8_least_162 (by decide) ?_
            exact ih2 (f + 1) _ _ _ (by omega) (pl_next hno ((plv hok hr5 ⟨hf.1, hfl⟩ (b2i_1 c19)).trans (by rw [if_neg r5, if_neg r6, decide_eq_false a4]; rfl))) (by omega) hs (lv_sub hl [4, 5, 0] rfl)
          · skip
            have r6 : r = 6 := sw_nI c75 rfl (by omega) (by decide)
            refine lv_aload_n hx hb dX8_least_78 rfl (lv_at hl 2 rfl) ?_
            refine r_get (ci := 8) (v := .ref (ad 23)) (C := RX8) (T := TX8) (N := 31) hx hb hts inlX8 hown hK hs (22) (by omega) (md22 hM) rfl 0 (by decide) (hts _ w_fl_RX8_7) rfl dX8_least_79 ?_
            refine lv_iload_n hx hb dX8_least_82 rfl (lv_at hl 4 rfl) ?_
            refine r_ialdN (t := f) hx hb hK hs (23) (by omega) (md23 hM) (rfl) (by omega) (by omega) dX8_least_83 ?_
            refine r_topi (y := nI (sSort ss (f))) rfl ?_
            refine lv_iconst (v := 3) hx hb dX8_least_84 (by decide) ?_
            refine lv_icmp_ne (tgt := 92) hx hb dX8_least_85 (by decide) (fun c85 => ?_) (fun c85 => ?_)
            · skip
              have s3 : ¬ sSort ss f = 3 := fun q => c85 (by rw [q]; rfl)
              refine lv_iconst (v := 0) hx hb dX8_least_92 (by decide) ?_
              refine lv_goto (tgt := 150) hx hb dX8_least_93 (by decide) ?_
              refine lv_istore (lv' := [(5, .int (0)), (4, .int (nI (sL ss (f)))), (3, .int (0)), (0, .ref (ad 22)), (1, .int (nI r)), (2, .int (nI f))]) hx hb dX8_least_150 hl (by decide) rfl (fun ls hl => ?_)
              refine lv_iload hx hb dX8_least_152 (lv_at hl 0 rfl) ?_
              refine lv_if_eq (tgt := 159) hx hb dX8_least_154 (by decide) (fun _ => ?_) (fun c154 => absurd (by decide) c154)
              refine lv_iinc (v := nI (f + 1)) (lv' := [(2, .int (nI (f + 1))), (5, .int (0)), (4, .int (nI (sL ss (f)))), (3, .int (0)), (0, .ref (ad 22)), (1, .int (nI r))]) hx hb dX8_least_159 hl (k := 5) rfl (nI_add f 1) (by decide) rfl (fun ls hl => ?_)
              refine lv_goto (tgt := 2) hx hb dX8_least_162 (by decide) ?_
              exact ih2 (f + 1) _ _ _ (by omega) (pl_next hno ((plv hok hr5 ⟨hf.1, hfl⟩ (b2i_1 c19)).trans (by rw [if_neg r5, if_pos r6]; exact decide_eq_false s3))) (by omega) hs (lv_sub hl [4, 5, 0] rfl)
            · skip
              have s3 : sSort ss f = 3 := sq hok c85
              refine lv_iconst (v := 1) hx hb dX8_least_88 (by decide) ?_
              refine lv_goto (tgt := 150) hx hb dX8_least_89 (by decide) ?_
              refine lv_istore (lv' := [(5, .int (1)), (4, .int (nI (sL ss (f)))), (3, .int (0)), (0, .ref (ad 22)), (1, .int (nI r)), (2, .int (nI f))]) hx hb dX8_least_150 hl (by decide) rfl (fun ls hl => ?_)
              refine lv_iload hx hb dX8_least_152 (lv_at hl 0 rfl) ?_
              refine lv_if_eq (tgt := 159) hx hb dX8_least_154 (by decide) (fun c154 => absurd c154 (by decide)) (fun _ => ?_)
              refine lv_iload_n hx hb dX8_least_157 rfl (lv_at hl 5 rfl) ?_
              refine r_iret (v := nI f) (mc := 0) (ms := 0) hx hb hr hlk hs (Nat.le_refl _) (Nat.le_refl _) dX8_least_158 hQ ?_
              exact roV.rf (congrArg nI (lst_hit hf.1 (by omega) ((plv hok hr5 ⟨hf.1, hfl⟩ (b2i_1 c19)).trans (by rw [if_neg r5, if_pos r6]; exact decide_eq_true s3)) hno).symm)
        · skip
          have r5 : r = 5 := sw_nI c51 rfl (by omega) (by decide)
          refine lv_aload_n hx hb dX8_least_54 rfl (lv_at hl 2 rfl) ?_
          refine r_get (ci := 8) (v := .ref (ad 23)) (C := RX8) (T := TX8) (N := 31) hx hb hts inlX8 hown hK hs (22) (by omega) (md22 hM) rfl 0 (by decide) (hts _ w_fl_RX8_7) rfl dX8_least_55 ?_
          refine lv_iload_n hx hb dX8_least_58 rfl (lv_at hl 4 rfl) ?_
          refine r_ialdN (t := f) hx hb hK hs (23) (by omega) (md23 hM) (rfl) (by omega) (by omega) dX8_least_59 ?_
          refine r_topi (y := nI (sSort ss (f))) rfl ?_
          refine lv_iconst (v := 2) hx hb dX8_least_60 (by decide) ?_
          refine lv_icmp_ne (tgt := 68) hx hb dX8_least_61 (by decide) (fun c61 => ?_) (fun c61 => ?_)
          · skip
            have s2 : ¬ sSort ss f = 2 := fun q => c61 (by rw [q]; rfl)
            refine lv_iconst (v := 0) hx hb dX8_least_68 (by decide) ?_
            refine lv_goto (tgt := 150) hx hb dX8_least_69 (by decide) ?_
            refine lv_istore (lv' := [(5, .int (0)), (4, .int (nI (sL ss (f)))), (3, .int (0)), (0, .ref (ad 22)), (1, .int (nI r)), (2, .int (nI f))]) hx hb dX8_least_150 hl (by decide) rfl (fun ls hl => ?_)
            refine lv_iload hx hb dX8_least_152 (lv_at hl 0 rfl) ?_
            refine lv_if_eq (tgt := 159) hx hb dX8_least_154 (by decide) (fun _ => ?_) (fun c154 => absurd (by decide) c154)
            refine lv_iinc (v := nI (f + 1)) (lv' := [(2, .int (nI (f + 1))), (5, .int (0)), (4, .int (nI (sL ss (f)))), (3, .int (0)), (0, .ref (ad 22)), (1, .int (nI r))]) hx hb dX8_least_159 hl (k := 5) rfl (nI_add f 1) (by decide) rfl (fun ls hl => ?_)
            refine lv_goto (tgt := 2) hx hb dX8_least_162 (by decide) ?_
            exact ih2 (f + 1) _ _ _ (by omega) (pl_next hno ((plv hok hr5 ⟨hf.1, hfl⟩ (b2i_1 c19)).trans (by rw [if_pos r5]; exact decide_eq_false s2))) (by omega) hs (lv_sub hl [4, 5, 0] rfl)
          · skip
            have s2 : sSort ss f = 2 := sq hok c61
            refine lv_iconst (v := 1) hx hb dX8_least_64 (by decide) ?_
            refine lv_goto (tgt := 150) hx hb dX8_least_65 (by decide) ?_
            refine lv_istore (lv' := [(5, .int (1)), (4, .int (nI (sL ss (f)))), (3, .int (0)), (0, .ref (ad 22)), (1, .int (nI r)), (2, .int (nI f))]) hx hb dX8_least_150 hl (by decide) rfl (fun ls hl => ?_)
            refine lv_iload hx hb dX8_least_152 (lv_at hl 0 rfl) ?_
            refine lv_if_eq (tgt := 159) hx hb dX8_least_154 (by decide) (fun c154 => absurd c154 (by decide)) (fun _ => ?_)
            refine lv_iload_n hx hb dX8_least_157 rfl (lv_at hl 5 rfl) ?_
            refine r_iret (v := nI f) (mc := 0) (ms := 0) hx hb hr hlk hs (Nat.le_refl _) (Nat.le_refl _) dX8_least_158 hQ ?_
            exact roV.rf (congrArg nI (lst_hit hf.1 (by omega) ((plv hok hr5 ⟨hf.1, hfl⟩ (b2i_1 c19)).trans (by rw [if_pos r5]; exact decide_eq_true s2)) hno).symm)
      · skip
        have a4 : sSort ss f = 4 := sq hok c32
        refine lv_iconst (v := 1) hx hb dX8_least_35 (by decide) ?_
        refine lv_goto (tgt := 40) hx hb dX8_least_36 (by decide) ?_
        refine lv_istore_n (lv' := [(3, .int (1)), (0, .ref (ad 22)), (1, .int (nI r)), (2, .int (nI f))]) hx hb dX8_least_40 rfl hl (by decide) rfl (fun ls hl => ?_)
        refine lv_aload_n hx hb dX8_least_41 rfl (lv_at hl 1 rfl) ?_
        refine r_get (ci := 8) (v := .ref (ad 24)) (C := RX8) (T := TX8) (N := 31) hx hb hts inlX8 hown hK hs (22) (by omega) (md22 hM) rfl 1 (by decide) (hts _ w_fl_RX8_13) rfl dX8_least_42 ?_
        refine lv_iload_n hx hb dX8_least_45 rfl (lv_at hl 3 rfl) ?_
        refine r_ialdN (t := f) hx hb hK hs (24) (by omega) (md24 hM) (rfl) (by omega) (by omega) dX8_least_46 ?_
        refine r_topi (y := nI (sL ss (f))) rfl ?_
        refine lv_istore (lv' := [(4, .int (nI (sL ss (f)))), (3, .int (1)), (0, .ref (ad 22)), (1, .int (nI r)), (2, .int (nI f))]) hx hb dX8_least_47 hl (by decide) rfl (fun ls hl => ?_)
        refine lv_iload_n hx hb dX8_least_49 rfl (lv_at hl 3 rfl) ?_
        refine lv_iconst (v := 5) hx hb dX8_least_50 (by decide) ?_
        refine lv_icmp_ne (tgt := 72) hx hb dX8_least_51 (by decide) (fun c51 => ?_) (fun c51 => ?_)
        · skip
          have r5 : ¬ r = 5 := fun q => c51 (by rw [q]; rfl)
          refine lv_iload_n hx hb dX8_least_72 rfl (lv_at hl 3 rfl) ?_
          refine lv_bipush (v := 6) hx hb dX8_least_73 (by decide) ?_
          refine lv_icmp_ne (tgt := 96) hx hb dX8_least_75 (by decide) (fun c75 => ?_) (fun c75 => ?_)
          · skip
            have r6 : ¬ r = 6 := fun q => c75 (by rw [q]; rfl)
            refine lv_iload_n hx hb dX8_least_96 rfl (lv_at hl 1 rfl) ?_
            refine lv_if_ne (tgt := 104) hx hb dX8_least_97 (by decide) (fun _ => ?_) (fun c97 => absurd c97 (by decide))
            refine lv_iload_n hx hb dX8_least_104 rfl (lv_at hl 3 rfl) ?_
            refine lv_bipush (v := 7) hx hb dX8_least_105 (by decide) ?_
            refine lv_icmp_ne (tgt := 123) hx hb dX8_least_107 (by decide) (fun c107 => ?_) (fun c107 => ?_)
            · skip
              have r7 : ¬ r = 7 := fun q => c107 (by rw [q]; rfl)
              refine lv_aload_n hx hb dX8_least_123 rfl (lv_at hl 2 rfl) ?_
              refine lv_iload hx hb dX8_least_124 (lv_at hl 0 rfl) ?_
              refine lv_iload_n hx hb dX8_least_126 rfl (lv_at hl 3 rfl) ?_
              refine lv_bipush (v := 8) hx hb dX8_least_127 (by decide) ?_
              refine lv_icmp_ne (tgt := 136) hx hb dX8_least_129 (by decide) (fun c129 => ?_) (fun c129 => ?_)
              · skip
                have r8 : ¬ r = 8 := fun q => c129 (by rw [q]; rfl)
                refine lv_iload_n hx hb dX8_least_136 rfl (lv_at hl 3 rfl) ?_
                refine lv_bipush (v := 9) hx hb dX8_least_137 (by decide) ?_
                refine lv_icmp_ne (tgt := 146) hx hb dX8_least_139 (by decide) (fun c139 => ?_) (fun c139 => ?_)
                · skip
                  have r9 : ¬ r = 9 := fun q => c139 (by rw [q]; rfl)
                  refine lv_iconst (v := 3) hx hb dX8_least_146 (by decide) ?_
                  refine r_callViR (ci := 8) (As := [.int (nI (sL ss (f))), .int (3)]) hx hb hml hown hts hK hA hs (22) (by omega) (md22 hM) rfl rfl (c_X8_isA l G hM (f := (sL ss (f))) (so := 3) (by omega) (by decide)) (cwV 2 hts (tbV w_ml_RX8_122 w_im_yX8_isA w_se_yX8_isA w_ini_RX8 w_cd_yX8_isA) rfl rfl rfl (by decide +kernel) ⟨Nat.le_of_ble_eq_true rfl, Nat.le_of_ble_eq_true rfl⟩) rfl hl.1 rfl (Nat.le_of_ble_eq_true rfl) dX8_least_147 ⟨Nat.zero_le _, Nat.zero_le _⟩ (fun H locs hs => ?_)
                  refine lv_istore (lv' := [(5, .int (b2i (isK ss (sL ss (f)) 3))), (4, .int (nI (sL ss (f)))), (3, .int (1)), (0, .ref (ad 22)), (1, .int (nI r)), (2, .int (nI f))]) hx hb dX8_least_150 hl (by decide) rfl (fun ls hl => ?_)
                  refine lv_iload hx hb dX8_least_152 (lv_at hl 0 rfl) ?_
                  refine lv_if_eq (tgt := 159) hx hb dX8_least_154 (by decide) (fun c154 => ?_) (fun c154 => ?_)
                  · skip
                    refine lv_iinc (v := nI (f + 1)) (lv' := [(2, .int (nI (f + 1))), (5, .int (b2i (isK ss (sL ss (f)) 3))), (4, .int (nI (sL ss (f)))), (3, .int (1)), (0, .ref (ad 22)), (1, .int (nI r))]) hx hb dX8_least_159 hl (k := 5) rfl (nI_add f 1) (by decide) rfl (fun ls hl => ?_)
                    refine lv_goto (tgt := 2) hx hb dX8_least_162 (by decide) ?_
                    exact ih2 (f + 1) _ _ _ (by omega) (pl_next hno ((plv hok hr5 ⟨hf.1, hfl⟩ (b2i_1 c19)).trans (by first | (rw [if_neg r5, if_neg r6, decide_eq_true a4, if_neg r7, if_neg r8, if_pos r9, b2i_0 c154]; rfl) | (rw [if_neg r5, if_neg r6, decide_eq_true a4, if_neg r7, if_neg r8, if_neg r9, b2i_0 c154]; rfl)))) (by omega) hs (lv_sub hl [4, 5, 0] rfl)
                  · skip
                    refine lv_iload_n hx hb dX8_least_157 rfl (lv_at hl 5 rfl) ?_
                    refine r_iret (v := nI f) (mc := 0) (ms := 0) hx hb hr hlk hs (Nat.le_refl _) (Nat.le_refl _) dX8_least_158 hQ ?_
                    exact roV.rf (congrArg nI (lst_hit hf.1 (by omega) ((plv hok hr5 ⟨hf.1, hfl⟩ (b2i_1 c19)).trans (by first | (rw [if_neg r5, if_neg r6, decide_eq_true a4, if_neg r7, if_neg r8, if_pos r9, b2i_1 c154]; rfl) | (rw [if_neg r5, if_neg r6, decide_eq_true a4, if_neg r7, if_neg r8, if_neg r9, b2i_1 c154]; rfl))) hno).symm)
                · skip
                  have r9 : r = 9 := sw_nI c139 rfl (by omega) (by decide)
                  refine lv_iconst (v := 2) hx hb dX8_least_142 (by decide) ?_
                  refine lv_goto (tgt := 147) hx hb dX8_least_143 (by decide) ?_
                  refine r_callViR (ci := 8) (As := [.int (nI (sL ss (f))), .int (2)]) hx hb hml hown hts hK hA hs (22) (by omega) (md22 hM) rfl rfl (c_X8_isA l G hM (f := (sL ss (f))) (so := 2) (by omega) (by decide)) (cwV 2 hts (tbV w_ml_RX8_122 w_im_yX8_isA w_se_yX8_isA w_ini_RX8 w_cd_yX8_isA) rfl rfl rfl (by decide +kernel) ⟨Nat.le_of_ble_eq_true rfl, Nat.le_of_ble_eq_true rfl⟩) rfl hl.1 rfl (Nat.le_of_ble_eq_true rfl) dX8_least_147 ⟨Nat.zero_le _, Nat.zero_le _⟩ (fun H locs hs => ?_)
                  refine lv_istore (lv' := [(5, .int (b2i (isK ss (sL ss (f)) 2))), (4, .int (nI (sL ss (f)))), (3, .int (1)), (0, .ref (ad 22)), (1, .int (nI r)), (2, .int (nI f))]) hx hb dX8_least_150 hl (by decide) rfl (fun ls hl => ?_)
                  refine lv_iload hx hb dX8_least_152 (lv_at hl 0 rfl) ?_
                  refine lv_if_eq (tgt := 159) hx hb dX8_least_154 (by decide) (fun c154 => ?_) (fun c154 => ?_)
                  · skip
                    refine lv_iinc (v := nI (f + 1)) (lv' := [(2, .int (nI (f + 1))), (5, .int (b2i (isK ss (sL ss (f)) 2))), (4, .int (nI (sL ss (f)))), (3, .int (1)), (0, .ref (ad 22)), (1, .int (nI r))]) hx hb dX8_least_159 hl (k := 5) rfl (nI_add f 1) (by decide) rfl (fun ls hl => ?_)
                    refine lv_goto (tgt := 2) hx hb dX8_least_162 (by decide) ?_
                    exact ih2 (f + 1) _ _ _ (by omega) (pl_next hno ((plv hok hr5 ⟨hf.1, hfl⟩ (b2i_1 c19)).trans (by first | (rw [if_neg r5, if_neg r6, decide_eq_true a4, if_neg r7, if_neg r8, if_pos r9, b2i_0 c154]; rfl) | (rw [if_neg r5, if_neg r6, decide_eq_true a4, if_neg r7, if_neg r8, if_neg r9, b2i_0 c154]; rfl)))) (by omega) hs (lv_sub hl [4, 5, 0] rfl)
                  · skip
                    refine lv_iload_n hx hb dX8_least_157 rfl (lv_at hl 5 rfl) ?_
                    refine r_iret (v := nI f) (mc := 0) (ms := 0) hx hb hr hlk hs (Nat.le_refl _) (Nat.le_refl _) dX8_least_158 hQ ?_
                    exact roV.rf (congrArg nI (lst_hit hf.1 (by omega) ((plv hok hr5 ⟨hf.1, hfl⟩ (b2i_1 c19)).trans (by first | (rw [if_neg r5, if_neg r6, decide_eq_true a4, if_neg r7, if_neg r8, if_pos r9, b2i_1 c154]; rfl) | (rw [if_neg r5, if_neg r6, decide_eq_true a4, if_neg r7, if_neg r8, if_neg r9, b2i_1 c154]; rfl))) hno).symm)
              · skip
                have r8 : r = 8 := sw_nI c129 rfl (by omega) (by decide)
                refine lv_iconst (v := 1) hx hb dX8_least_132 (by decide) ?_
                refine lv_goto (tgt := 147) hx hb dX8_least_133 (by decide) ?_
                refine r_callViR (ci := 8) (As := [.int (nI (sL ss (f))), .int (1)]) hx hb hml hown hts hK hA hs (22) (by omega) (md22 hM) rfl rfl (c_X8_isA l G hM (f := (sL ss (f))) (so := 1) (by omega) (by decide)) (cwV 2 hts (tbV w_ml_RX8_122 w_im_yX8_isA w_se_yX8_isA w_ini_RX8 w_cd_yX8_isA) rfl rfl rfl (by decide +kernel) ⟨Nat.le_of_ble_eq_true rfl, Nat.le_of_ble_eq_true rfl⟩) rfl hl.1 rfl (Nat.le_of_ble_eq_true rfl) dX8_least_147 ⟨Nat.zero_le _, Nat.zero_le _⟩ (fun H locs hs => ?_)
                refine lv_istore (lv' := [(5, .int (b2i (isK ss (sL ss (f)) 1))), (4, .int (nI (sL ss (f)))), (3, .int (1)), (0, .ref (ad 22)), (1, .int (nI r)), (2, .int (nI f))]) hx hb dX8_least_150 hl (by decide) rfl (fun ls hl => ?_)
                refine lv_iload hx hb dX8_least_152 (lv_at hl 0 rfl) ?_
                refine lv_if_eq (tgt := 159) hx hb dX8_least_154 (by decide) (fun c154 => ?_) (fun c154 => ?_)
                · skip
                  refine lv_iinc (v := nI (f + 1)) (lv' := [(2, .int (nI (f + 1))), (5, .int (b2i (isK ss (sL ss (f)) 1))), (4, .int (nI (sL ss (f)))), (3, .int (1)), (0, .ref (ad 22)), (1, .int (nI r))]) hx hb dX8_least_159 hl (k := 5) rfl (nI_add f 1) (by decide) rfl (fun ls hl => ?_)
                  refine lv_goto (tgt := 2) hx hb dX8_least_162 (by decide) ?_
                  exact ih2 (f + 1) _ _ _ (by omega) (pl_next hno ((plv hok hr5 ⟨hf.1, hfl⟩ (b2i_1 c19)).trans (by rw [if_neg r5, if_neg r6, decide_eq_true a4, if_neg r7, if_pos r8, b2i_0 c154]; rfl))) (by omega) hs (lv_sub hl [4, 5, 0] rfl)
                · skip
                  refine lv_iload_n hx hb dX8_least_157 rfl (lv_at hl 5 rfl) ?_
                  refine r_iret (v := nI f) (mc := 0) (ms := 0) hx hb hr hlk hs (Nat.le_refl _) (Nat.le_refl _) dX8_least_158 hQ ?_
                  exact roV.rf (congrArg nI (lst_hit hf.1 (by omega) ((plv hok hr5 ⟨hf.1, hfl⟩ (b2i_1 c19)).trans (by rw [if_neg r5, if_neg r6, decide_eq_true a4, if_neg r7, if_pos r8, b2i_1 c154]; rfl)) hno).symm)
            · skip
              have r7 : r = 7 := sw_nI c107 rfl (by omega) (by decide)
              refine lv_aload_n hx hb dX8_least_110 rfl (lv_at hl 2 rfl) ?_
              refine lv_aload_n hx hb dX8_least_111 rfl (lv_at hl 2 rfl) ?_
              refine r_get (ci := 8) (v := .int (nI d)) (C := RX8) (T := TX8) (N := 31) hx hb hts inlX8 hown hK hs (22) (by omega) (md22 hM) rfl 17 (by decide) (hts _ w_fl_RX8_109) rfl dX8_least_112 ?_
              refine lv_iload hx hb dX8_least_115 (lv_at hl 0 rfl) ?_
              refine r_callViR (ci := 8) (As := [.int (nI d), .int (nI (sL ss (f)))]) hx hb hml hown hts hK hA hs (22) (by omega) (md22 hM) rfl rfl (c_X8_has l G hM (d := d) (f := (sL ss (f))) (by omega) (by omega) hR hΓ) (cwV 2 hts (tbV w_ml_RX8_118 w_im_yX8_has w_se_yX8_has w_ini_RX8 w_cd_yX8_has) rfl rfl rfl (by decide +kernel) ⟨Nat.le_of_ble_eq_true rfl, Nat.le_of_ble_eq_true rfl⟩) rfl hl.1 rfl (Nat.le_of_ble_eq_true rfl) dX8_least_117 ⟨Nat.zero_le _, Nat.zero_le _⟩ (fun H locs hs => ?_)
              refine lv_goto (tgt := 150) hx hb dX8_least_120 (by decide) ?_
              refine lv_istore (lv' := [(5, .int (b2i (Γ (sL ss (f))))), (4, .int (nI (sL ss (f)))), (3, .int (1)), (0, .ref (ad 22)), (1, .int (nI r)), (2, .int (nI f))]) hx hb dX8_least_150 hl (by decide) rfl (fun ls hl => ?_)
              refine lv_iload hx hb dX8_least_152 (lv_at hl 0 rfl) ?_
              refine lv_if_eq (tgt := 159) hx hb dX8_least_154 (by decide) (fun c154 => ?_) (fun c154 => ?_)
              · skip
                refine lv_iinc (v := nI (f + 1)) (lv' := [(2, .int (nI (f + 1))), (5, .int (b2i (Γ (sL ss (f))))), (4, .int (nI (sL ss (f)))), (3, .int (1)), (0, .ref (ad 22)), (1, .int (nI r))]) hx hb dX8_least_159 hl (k := 5) rfl (nI_add f 1) (by decide) rfl (fun ls hl => ?_)
                refine lv_goto (tgt := 2) hx hb dX8_least_162 (by decide) ?_
                exact ih2 (f + 1) _ _ _ (by omega) (pl_next hno ((plv hok hr5 ⟨hf.1, hfl⟩ (b2i_1 c19)).trans (by rw [if_neg r5, if_neg r6, decide_eq_true a4, if_pos r7, b2i_0 c154]; rfl))) (by omega) hs (lv_sub hl [4, 5, 0] rfl)
              · skip
                refine lv_iload_n hx hb dX8_least_157 rfl (lv_at hl 5 rfl) ?_
                refine r_iret (v := nI f) (mc := 0) (ms := 0) hx hb hr hlk hs (Nat.le_refl _) (Nat.le_refl _) dX8_least_158 hQ ?_
                exact roV.rf (congrArg nI (lst_hit hf.1 (by omega) ((plv hok hr5 ⟨hf.1, hfl⟩ (b2i_1 c19)).trans (by rw [if_neg r5, if_neg r6, decide_eq_true a4, if_pos r7, b2i_1 c154]; rfl)) hno).symm)
          · skip
            have r6 : r = 6 := sw_nI c75 rfl (by omega) (by decide)
            refine lv_aload_n hx hb dX8_least_78 rfl (lv_at hl 2 rfl) ?_
            refine r_get (ci := 8) (v := .ref (ad 23)) (C := RX8) (T := TX8) (N := 31) hx hb hts inlX8 hown hK hs (22) (by omega) (md22 hM) rfl 0 (by decide) (hts _ w_fl_RX8_7) rfl dX8_least_79 ?_
            refine lv_iload_n hx hb dX8_least_82 rfl (lv_at hl 4 rfl) ?_
            refine r_ialdN (t := f) hx hb hK hs (23) (by omega) (md23 hM) (rfl) (by omega) (by omega) dX8_least_83 ?_
            refine r_topi (y := nI (sSort ss (f))) rfl ?_
            refine lv_iconst (v := 3) hx hb dX8_least_84 (by decide) ?_
            refine lv_icmp_ne (tgt := 92) hx hb dX8_least_85 (by decide) (fun c85 => ?_) (fun c85 => ?_)
            · skip
              have s3 : ¬ sSort ss f = 3 := fun q => c85 (by rw [q]; rfl)
              refine lv_iconst (v := 0) hx hb dX8_least_92 (by decide) ?_
              refine lv_goto (tgt := 150) hx hb dX8_least_93 (by decide) ?_
              refine lv_istore (lv' := [(5, .int (0)), (4, .int (nI (sL ss (f)))), (3, .int (1)), (0, .ref (ad 22)), (1, .int (nI r)), (2, .int (nI f))]) hx hb dX8_least_150 hl (by decide) rfl (fun ls hl => ?_)
              refine lv_iload hx hb dX8_least_152 (lv_at hl 0 rfl) ?_
              refine lv_if_eq (tgt := 159) hx hb dX8_least_154 (by decide) (fun _ => ?_) (fun c154 => absurd (by decide) c154)
              refine lv_iinc (v := nI (f + 1)) (lv' := [(2, .int (nI (f + 1))), (5, .int (0)), (4, .int (nI (sL ss (f)))), (3, .int (1)), (0, .ref (ad 22)), (1, .int (nI r))]) hx hb dX8_least_159 hl (k := 5) rfl (nI_add f 1) (by decide) rfl (fun ls hl => ?_)
              refine lv_goto (tgt := 2) hx hb dX8_least_162 (by decide) ?_
              exact ih2 (f + 1) _ _ _ (by omega) (pl_next hno ((plv hok hr5 ⟨hf.1, hfl⟩ (b2i_1 c19)).trans (by rw [if_neg r5, if_pos r6]; exact decide_eq_false s3))) (by omega) hs (lv_sub hl [4, 5, 0] rfl)
            · skip
              have s3 : sSort ss f = 3 := sq hok c85
              refine lv_iconst (v := 1) hx hb dX8_least_88 (by decide) ?_
              refine lv_goto (tgt := 150) hx hb dX8_least_89 (by decide) ?_
              refine lv_istore (lv' := [(5, .int (1)), (4, .int (nI (sL ss (f)))), (3, .int (1)), (0, .ref (ad 22)), (1, .int (nI r)), (2, .int (nI f))]) hx hb dX8_least_150 hl (by decide) rfl (fun ls hl => ?_)
              refine lv_iload hx hb dX8_least_152 (lv_at hl 0 rfl) ?_
              refine lv_if_eq (tgt := 159) hx hb dX8_least_154 (by decide) (fun c154 => absurd c154 (by decide)) (fun _ => ?_)
              refine lv_iload_n hx hb dX8_least_157 rfl (lv_at hl 5 rfl) ?_
              refine r_iret (v := nI f) (mc := 0) (ms := 0) hx hb hr hlk hs (Nat.le_refl _) (Nat.le_refl _) dX8_least_158 hQ ?_
              exact roV.rf (congrArg nI (lst_hit hf.1 (by omega) ((plv hok hr5 ⟨hf.1, hfl⟩ (b2i_1 c19)).trans (by rw [if_neg r5, if_pos r6]; exact decide_eq_true s3)) hno).symm)
        · skip
          have r5 : r = 5 := sw_nI c51 rfl (by omega) (by decide)
          refine lv_aload_n hx hb dX8_least_54 rfl (lv_at hl 2 rfl) ?_
          refine r_get (ci := 8) (v := .ref (ad 23)) (C := RX8) (T := TX8) (N := 31) hx hb hts inlX8 hown hK hs (22) (by omega) (md22 hM) rfl 0 (by decide) (hts _ w_fl_RX8_7) rfl dX8_least_55 ?_
          refine lv_iload_n hx hb dX8_least_58 rfl (lv_at hl 4 rfl) ?_
          refine r_ialdN (t := f) hx hb hK hs (23) (by omega) (md23 hM) (rfl) (by omega) (by omega) dX8_least_59 ?_
          refine r_topi (y := nI (sSort ss (f))) rfl ?_
          refine lv_iconst (v := 2) hx hb dX8_least_60 (by decide) ?_
          refine lv_icmp_ne (tgt := 68) hx hb dX8_least_61 (by decide) (fun c61 => ?_) (fun c61 => ?_)
          · skip
            have s2 : ¬ sSort ss f = 2 := fun q => c61 (by rw [q]; rfl)
            refine lv_iconst (v := 0) hx hb dX8_least_68 (by decide) ?_
            refine lv_goto (tgt := 150) hx hb dX8_least_69 (by decide) ?_
            refine lv_istore (lv' := [(5, .int (0)), (4, .int (nI (sL ss (f)))), (3, .int (1)), (0, .ref (ad 22)), (1, .int (nI r)), (2, .int (nI f))]) hx hb dX8_least_150 hl (by decide) rfl (fun ls hl => ?_)
            refine lv_iload hx hb dX8_least_152 (lv_at hl 0 rfl) ?_
            refine lv_if_eq (tgt := 159) hx hb dX8_least_154 (by decide) (fun _ => ?_) (fun c154 => absurd (by decide) c154)
            refine lv_iinc (v := nI (f + 1)) (lv' := [(2, .int (nI (f + 1))), (5, .int (0)), (4, .int (nI (sL ss (f)))), (3, .int (1)), (0, .ref (ad 22)), (1, .int (nI r))]) hx hb dX8_least_159 hl (k := 5) rfl (nI_add f 1) (by decide) rfl (fun ls hl => ?_)
            refine lv_goto (tgt := 2) hx hb dX8_least_162 (by decide) ?_
            exact ih2 (f + 1) _ _ _ (by omega) (pl_next hno ((plv hok hr5 ⟨hf.1, hfl⟩ (b2i_1 c19)).trans (by rw [if_pos r5]; exact decide_eq_false s2))) (by omega) hs (lv_sub hl [4, 5, 0] rfl)
          · skip
            have s2 : sSort ss f = 2 := sq hok c61
            refine lv_iconst (v := 1) hx hb dX8_least_64 (by decide) ?_
            refine lv_goto (tgt := 150) hx hb dX8_least_65 (by decide) ?_
            refine lv_istore (lv' := [(5, .int (1)), (4, .int (nI (sL ss (f)))), (3, .int (1)), (0, .ref (ad 22)), (1, .int (nI r)), (2, .int (nI f))]) hx hb dX8_least_150 hl (by decide) rfl (fun ls hl => ?_)
            refine lv_iload hx hb dX8_least_152 (lv_at hl 0 rfl) ?_
            refine lv_if_eq (tgt := 159) hx hb dX8_least_154 (by decide) (fun c154 => absurd c154 (by decide)) (fun _ => ?_)
            refine lv_iload_n hx hb dX8_least_157 rfl (lv_at hl 5 rfl) ?_
            refine r_iret (v := nI f) (mc := 0) (ms := 0) hx hb hr hlk hs (Nat.le_refl _) (Nat.le_refl _) dX8_least_158 hQ ?_
            exact roV.rf (congrArg nI (lst_hit hf.1 (by omega) ((plv hok hr5 ⟨hf.1, hfl⟩ (b2i_1 c19)).trans (by rw [if_pos r5]; exact decide_eq_true s2)) hno).symm)
    · skip
      refine lv_goto (tgt := 159) hx hb dX8_least_22 (by decide) ?_
      refine lv_iinc (v := nI (f + 1)) (lv' := [(2, .int (nI (f + 1))), (0, .ref (ad 22)), (1, .int (nI r))]) hx hb dX8_least_159 hl (k := 2) rfl (nI_add f 1) (by decide) rfl (fun ls hl => ?_)
      refine lv_goto (tgt := 2) hx hb dX8_least_162 (by decide) ?_
      exact ih2 (f + 1) _ _ _ (by omega) (pl_next hno (PL_G (b2i_0 c19))) (by omega) hs (lv_sub hl [1, 2, 0] rfl)

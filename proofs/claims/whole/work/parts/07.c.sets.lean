def fillF (f : Nat → Int64) (a b : Nat) (v : Int64) : Nat → Int64 := fun t => if a ≤ t ∧ t < b then v else f t
theorem fillF_0 (f : Nat → Int64) (a : Nat) (v : Int64) : fillF f a a v = f := by
  funext t
  unfold fillF
  rw [if_neg (by omega)]
theorem fillF_s {f : Nat → Int64} {a j : Nat} {v : Int64} (h : a ≤ j) : vp_updL (fillF f a j v) j v = fillF f a (j + 1) v := by
  funext t
  unfold vp_updL fillF
  by_cases e : t = j
  · rw [if_pos e, if_pos (by omega)]
  · rw [if_neg e]
    by_cases e2 : a ≤ t ∧ t < j
    · rw [if_pos e2, if_pos (by omega)]
    · rw [if_neg e2, if_neg (by omega)]
def sClr (S : Nat → Nat → Bool) (row : Nat) : Nat → Nat → Bool := fun r y => if r = row then false else S r y
def sCpy (S : Nat → Nat → Bool) (a b : Nat) : Nat → Nat → Bool := fun r y => if r = b then S a y else S r y
def sCut (S : Nat → Nat → Bool) (R : Nat) : Nat → Nat → Bool := fun r y => if r < R then S r y else false
def reachR (R row : Nat) : Nat := if row < R then R else max (row + 1) (2 * R)
def rchC (R row : Nat) : Nat := if row < R then 0 else 1
def rchS (R row : Nat) : Nat := if row < R then 0 else 10 * max (row + 1) (2 * R)
theorem sRep_clr {R top row : Nat} {S : Nat → Nat → Bool} {f : Nat → Int64} (h : sRep R S f top) : sRep R (sClr S row) (fillF f (10 * row) (10 * (row + 1)) 0) top := by
  obtain ⟨h3, h4, h5⟩ := h
  refine ⟨h3, ?_, ?_⟩
  · intro r hr w hw i hi
    unfold fillF sClr
    by_cases e : r = row
    · subst e
      rw [if_pos (by omega), if_pos rfl, bitL_0]
    · rw [if_neg (by omega), if_neg e]
      exact h4 r hr w hw i hi
  · intro r hr x hx
    unfold sClr at hx
    by_cases e : r = row
    · rw [if_pos e] at hx; cases hx
    · rw [if_neg e] at hx; exact h5 r hr x hx
theorem sRep_cpy {R top a b : Nat} {S : Nat → Nat → Bool} {f : Nat → Int64} (h : sRep R S f top) (ha : a < R) : sRep R (sCpy S a b) (va_cpy f f (10 * a) (10 * b) 10) top := by
  obtain ⟨h3, h4, h5⟩ := h
  refine ⟨h3, ?_, ?_⟩
  · intro r hr w hw i hi
    unfold sCpy
    by_cases e : r = b
    · subst e
      rw [if_pos rfl, pk_cpy_in (by omega) (by omega), show 10 * a + (10 * r + w - 10 * r) = 10 * a + w by omega]
      exact h4 a ha w hw i hi
    · rw [if_neg e, pk_cpy_out (by omega)]
      exact h4 r hr w hw i hi
  · intro r hr x hx
    unfold sCpy at hx
    by_cases e : r = b
    · rw [if_pos e] at hx; exact h5 a ha x hx
    · rw [if_neg e] at hx; exact h5 r hr x hx
theorem sRep_nil (R : Nat) : sRep R (fun _ _ => false) (fun _ => 0) 0 := ⟨by decide, fun _ _ _ _ i _ => bitL_0 i, fun _ _ _ h => by cases h⟩
theorem sRep_cut {R R1 top : Nat} {S : Nat → Nat → Bool} {f : Nat → Int64} (h : sRep R S f top) (hR : R1 ≤ R) : sRep R1 (sCut S R) f top := by
  obtain ⟨h3, h4, h5⟩ := h
  refine ⟨h3, ?_, ?_⟩
  · intro r hr w hw i hi
    unfold sCut
    rw [if_pos (by omega)]
    exact h4 r (by omega) w hw i hi
  · intro r hr x hx
    unfold sCut at hx
    rw [if_pos (by omega)] at hx
    exact h5 r (by omega) x hx
theorem sRep_grow {R R1 top : Nat} {S : Nat → Nat → Bool} {f : Nat → Int64} (h : sRep R S f top) (hR : R ≤ R1) : sRep R1 (sCut S R) (va_cpy f (fun _ => 0) 0 0 (10 * R)) top := by
  obtain ⟨h3, h4, h5⟩ := h
  refine ⟨h3, ?_, ?_⟩
  · intro r hr w hw i hi
    unfold sCut
    by_cases e : r < R
    · rw [if_pos e, pk_cpy_in (by omega) (by omega), show 0 + (10 * r + w - 0) = 10 * r + w by omega]
      exact h4 r e w hw i hi
    · rw [if_neg e, pk_cpy_out (by omega)]
      exact bitL_0 i
  · intro r hr x hx
    unfold sCut at hx
    by_cases e : r < R
    · rw [if_pos e] at hx; exact h5 r e x hx
    · rw [if_neg e] at hx; cases hx
set_option maxHeartbeats 4000000 in
set_option maxRecDepth 100000 in
theorem c_J7_rangeCheck_23922 (l : Launch) (G : rG) {n N a b : Nat} {ad : Nat → Nat} {en : Nat → va_E} (h1 : a ≤ b) (h2 : b ≤ N) (h3 : N < 2 ^ 31) : CV l G yJ7_rangeCheck_23922 uJ7_rangeCheck_23922 (0) (0) (0) (0) [.int (nI N), .int (nI a), .int (nI b)] (n) (n) ad en (roU ad en) := by
  intro sz
  refine rMet (Qc := qV G (n) (roU ad en)) (cc := cJ7_rangeCheck_23922) (maxL := 3) (ret := none) (by decide) rfl (Nat.le_of_ble_eq_true rfl) ?_
  intro pP eE sS mM aA bB tT cC ls A Q hc hK hsz hA hs hl hQ
  obtain ⟨hx, hb, hr, hts, hown, hlk, hnm, hml⟩ := hc
  have hl : lv_has ls 3 [(0, .int (nI N)), (1, .int (nI a)), (2, .int (nI b))] := hl
  refine lv_iload_n hx hb dJ7_rangeCheck_23922_0 rfl (lv_at hl 1 rfl) ?_
  refine lv_iload_n hx hb dJ7_rangeCheck_23922_1 rfl (lv_at hl 2 rfl) ?_
  refine lv_icmp_le (tgt := 46) hx hb dJ7_rangeCheck_23922_2 (by decide) (fun _ => ?_) (fun c2 => absurd (nI_le h1 (by omega)) c2)
  refine lv_iload_n hx hb dJ7_rangeCheck_23922_46 rfl (lv_at hl 1 rfl) ?_
  refine lv_if_ge (tgt := 59) hx hb dJ7_rangeCheck_23922_47 (by decide) (fun _ => ?_) (fun c47 => absurd (nI_pos' (by omega)) c47)
  refine lv_iload_n hx hb dJ7_rangeCheck_23922_59 rfl (lv_at hl 2 rfl) ?_
  refine lv_iload_n hx hb dJ7_rangeCheck_23922_60 rfl (lv_at hl 0 rfl) ?_
  refine lv_icmp_le (tgt := 73) hx hb dJ7_rangeCheck_23922_61 (by decide) (fun _ => ?_) (fun c61 => absurd (nI_le h2 (by omega)) c61)
  refine r_vret (mc := 0) (ms := 0) hx hb hr hlk hs (Nat.le_refl _) (Nat.le_refl _) dJ7_rangeCheck_23922_73 hQ ?_
  exact roU.rf

set_option maxHeartbeats 4000000 in
set_option maxRecDepth 100000 in
theorem c_J7_fill_bad5a (l : Launch) (G : rG) {n i N a b : Nat} {ad : Nat → Nat} {en : Nat → va_E} {f : Nat → Int64} (v : Int64) (hi : i < n) (he : en i = aJ G N f) (h1 : a ≤ b) (h2 : b ≤ N) (h3 : N < 2 ^ 31) : CV l G yJ7_fill_bad5a uJ7_fill_bad5a (1) (22) (0) (0) [.ref (ad i), .int (nI a), .int (nI b), .long (v)] (n) (n) ad en (fun ad1 en1 => ad1 = ad ∧ en1 = va_up en i (aJ G N (fillF f a b v))) := by
  intro sz
  refine rMet (Qc := qV G (n) (fun ad1 en1 => ad1 = ad ∧ en1 = va_up en i (aJ G N (fillF f a b v)))) (cc := cJ7_fill_bad5a) (maxL := 6) (ret := none) (by decide) rfl (Nat.le_of_ble_eq_true rfl) ?_
  intro pP eE sS mM aA bB tT cC ls A Q hc hK hsz hA hs hl hQ
  obtain ⟨hx, hb, hr, hts, hown, hlk, hnm, hml⟩ := hc
  have hl : lv_has ls 6 [(0, .ref (ad i)), (1, .int (nI a)), (2, .int (nI b)), (3, .long (v))] := hl
  refine lv_aload_n hx hb dJ7_fill_bad5a_0 rfl (lv_at hl 0 rfl) ?_
  refine r_alen (v := nI (N)) hx hb hK hs (i) 2 (by omega) he rfl rfl dJ7_fill_bad5a_1 ?_
  refine lv_iload_n hx hb dJ7_fill_bad5a_2 rfl (lv_at hl 1 rfl) ?_
  refine lv_iload_n hx hb dJ7_fill_bad5a_3 rfl (lv_at hl 2 rfl) ?_
  refine r_callSvR (As := [.int (nI (N)), .int (nI a), .int (nI b)]) hx hb hml hown hts hK hA hs (c_J7_rangeCheck_23922 l G (N := N) (a := a) (b := b) h1 h2 h3) (va_cwS 3 hts (tbS w_ml_RJ7_13 w_sta_yJ7_rangeCheck_23922 w_ini_RJ7 w_cd_yJ7_rangeCheck_23922) rfl rfl rfl (by decide +kernel) ⟨Nat.le_of_ble_eq_true rfl, Nat.le_of_ble_eq_true rfl⟩) rfl hl.1 rfl (Nat.le_of_ble_eq_true rfl) dJ7_fill_bad5a_4 ⟨Nat.zero_le _, Nat.zero_le _⟩ (fun H locs hs => ?_)
  refine lv_iload_n hx hb dJ7_fill_bad5a_7 rfl (lv_at hl 1 rfl) ?_
  refine lv_istore (lv' := [(5, .int (nI a)), (0, .ref (ad i)), (1, .int (nI a)), (2, .int (nI b)), (3, .long (v))]) hx hb dJ7_fill_bad5a_8 hl (by decide) rfl (fun ls hl => ?_)
  suffices LOOP10 : ∀ (fu10 : Nat) (j : Nat) (en2 : Nat → va_E) (H : Heap) (locs : List Loc) (ls : Array Slot), (a ≤ j ∧ j ≤ b) → (en2 = va_up en i (aJ G N (fillF f a j v))) → b - j < fu10 → rS G A sS.heap (n) ad en2 H locs → lv_has ls 6 [(0, .ref (ad i)), (1, .int (nI a)), (2, .int (nI b)), (3, .long (v)), (5, .int (nI j))] → W pP l eE (rRm (1) (22) (0) (0)) sS mM aA bB tT cC H locs (0) (0) Q (F0 mM 10 ls []) from LOOP10 _ (a) (en) _ _ _ (⟨Nat.le_refl _, h1⟩) (by rw [fillF_0, va_up_id _ _ he]) (Nat.lt_succ_self _) hs (lv_sub hl [1, 2, 3, 4, 0] rfl)
  intro fu10
  induction fu10 with
  | zero => intro j en2 H locs ls ij ie hfu; exact absurd hfu (Nat.not_lt_zero _)
  | succ fu10 ih10 => ?_
  intro j en2 H locs ls ij ie hfu10 hs hl
  have hef : en2 i = aJ G N (fillF f a j v) := by rw [ie]; exact va_up_self _ _ _
  refine lv_iload hx hb dJ7_fill_bad5a_10 (lv_at hl 4 rfl) ?_
  refine lv_iload_n hx hb dJ7_fill_bad5a_12 rfl (lv_at hl 2 rfl) ?_
  refine lv_icmp_ge (tgt := 27) hx hb dJ7_fill_bad5a_13 (by decide) (fun c13 => ?_) (fun c13 => ?_)
  · skip
    have hjb : j = b := by have := (nI_leI (by omega) (by omega)).mp c13; omega
    refine r_vret (mc := 0) (ms := 0) hx hb hr hlk hs (Nat.le_refl _) (Nat.le_refl _) dJ7_fill_bad5a_27 hQ ?_
    exact ⟨rfl, by rw [ie, hjb]⟩
  · skip
    have hjb : j < b := lt_of_nI c13 (by omega)
    refine lv_aload_n hx hb dJ7_fill_bad5a_16 rfl (lv_at hl 0 rfl) ?_
    refine lv_iload hx hb dJ7_fill_bad5a_17 (lv_at hl 4 rfl) ?_
    refine lv_lload_n hx hb dJ7_fill_bad5a_19 rfl (lv_at hl 3 rfl) ?_
    refine r_lastN (t := j) hx hb hK hs (i) (by omega) hef (rfl) (by omega) (by omega) dJ7_fill_bad5a_20 (fun H locs en_2 hen_2 hs => ?_)
    have he_3 : en_2 (i) = aJ G (N) (vp_updL (fillF f a j v) (j) (v)) := by rw [hen_2]; exact va_up_self _ _ _
    refine lv_iinc (v := nI (j + 1)) (lv' := [(5, .int (nI (j + 1))), (0, .ref (ad i)), (1, .int (nI a)), (2, .int (nI b)), (3, .long (v))]) hx hb dJ7_fill_bad5a_21 hl (k := 4) rfl (nI_add j 1) (by decide) rfl (fun ls hl => ?_)
    refine lv_goto (tgt := 10) hx hb dJ7_fill_bad5a_24 (by decide) ?_
    exact ih10 (j + 1) (en_2) _ _ _ (⟨by omega, by omega⟩) (by rw [hen_2, ie, va_up_up, fillF_s ij.1]) (by omega) hs (lv_sub hl [1, 2, 3, 4, 0] rfl)

set_option maxHeartbeats 4000000 in
set_option maxRecDepth 100000 in
theorem c_X5_clear (l : Launch) (G : rG) {n p R : Nat} {ad : Nat → Nat} {en : Nat → va_E} {S : Nat → Nat → Bool} (h : SetsAt G n p ad en R S) {row : Nat} (hrow : row < R) : CV l G yX5_clear uX5_clear (2) (47) (0) (0) [.ref (ad p), .int (nI row)] (n) (n) ad en (fun ad1 en1 => SetsAt G n p ad1 en1 R (sClr S row) ∧ Fr n (fun k => p ≤ k ∧ k ≤ p + 1) (fun _ => False) ad en ad1 en1) := by
  intro sz
  refine rMet (Qc := qV G (n) (fun ad1 en1 => SetsAt G n p ad1 en1 R (sClr S row) ∧ Fr n (fun k => p ≤ k ∧ k ≤ p + 1) (fun _ => False) ad en ad1 en1)) (cc := cX5_clear) (maxL := 2) (ret := none) (by decide) rfl (Nat.le_of_ble_eq_true rfl) ?_
  intro pP eE sS mM aA bB tT cC ls A Q hc hK hsz hA hs hl hQ
  obtain ⟨hx, hb, hr, hts, hown, hlk, hnm, hml⟩ := hc
  have hl : lv_has ls 2 [(0, .ref (ad p)), (1, .int (nI row))] := hl
  have hss := h
  obtain ⟨hpn, hR, f, top, he0, he1, hrep⟩ := hss
  have htop := hrep.1
  refine lv_aload_n hx hb dX5_clear_0 rfl (lv_at hl 0 rfl) ?_
  refine lv_iload_n hx hb dX5_clear_1 rfl (lv_at hl 1 rfl) ?_
  refine r_callViR (ci := 5) (As := [.int (nI row)]) hx hb hml hown hts hK hA hs (p) (by omega) he0 rfl rfl (c_X5_isRow l G h hrow) (cwV 1 hts (tbV w_ml_RX5_37 w_im_yX5_isRow w_se_yX5_isRow w_ini_RX5 w_cd_yX5_isRow) rfl rfl rfl (by decide +kernel) ⟨Nat.le_of_ble_eq_true rfl, Nat.le_of_ble_eq_true rfl⟩) rfl hl.1 rfl (Nat.le_of_ble_eq_true rfl) dX5_clear_2 ⟨Nat.zero_le _, Nat.zero_le _⟩ (fun H locs hs => ?_)
  refine lv_if_eq (tgt := 26) hx hb dX5_clear_5 (by decide) (fun c5 => absurd c5 (by decide)) (fun _ => ?_)
  refine lv_aload_n hx hb dX5_clear_8 rfl (lv_at hl 0 rfl) ?_
  refine r_get (ci := 5) (v := .ref (ad (p + 1))) (C := RX5) (T := TX5) (N := 2) hx hb hts inlX5 hown hK hs (p) (by omega) he0 rfl 0 (by decide) (hts _ w_fl_RX5_15) rfl dX5_clear_9 ?_
  refine lv_iload_n hx hb dX5_clear_12 rfl (lv_at hl 1 rfl) ?_
  refine lv_bipush (v := 10) hx hb dX5_clear_13 (by decide) ?_
  refine lv_imul hx hb dX5_clear_15 ?_
  refine r_topi (y := nI (10 * row)) (by simp only [ l0, l1, l2, l3, l4, l5, l6, l10, l600, pk_mul, nI_add]; first | done | exact congrArg nI (by omega)) ?_
  refine lv_iload_n hx hb dX5_clear_16 rfl (lv_at hl 1 rfl) ?_
  refine lv_iconst (v := 1) hx hb dX5_clear_17 (by decide) ?_
  refine lv_iadd hx hb dX5_clear_18 ?_
  refine lv_bipush (v := 10) hx hb dX5_clear_19 (by decide) ?_
  refine lv_imul hx hb dX5_clear_21 ?_
  refine r_topi (y := nI (10 * (row + 1))) (by simp only [ l0, l1, l2, l3, l4, l5, l6, l10, l600, pk_mul, nI_add]; first | done | exact congrArg nI (by omega)) ?_
  refine lv_lconst (v := 0) hx hb dX5_clear_22 (by decide) ?_
  refine r_callSv (As := [.ref (ad (p + 1)), .int (nI (10 * row)), .int (nI (10 * (row + 1))), .long (0)]) hx hb hml hown hts hK hA hs (c_J7_fill_bad5a l G (a := 10 * row) (b := 10 * (row + 1)) 0 (by omega) he1 (by omega) (by omega) (by omega)) (va_cwS 4 hts (tbS w_ml_RX5_41 w_sta_yJ7_fill_bad5a w_ini_RJ7 w_cd_yJ7_fill_bad5a) rfl rfl rfl (by decide +kernel) ⟨Nat.le_of_ble_eq_true rfl, Nat.le_of_ble_eq_true rfl⟩) rfl hl.1 rfl (Nat.le_of_ble_eq_true rfl) dX5_clear_23 ⟨Nat.le_refl _, Nat.le_refl _⟩ (fun ad_1 en_2 H locs hp_3 hs => ?_)
  obtain ⟨had_1, hen_2⟩ := hp_3
  rw [had_1] at hs
  obtain ⟨g_4, eg_4⟩ : ∃ z, z = fillF f (10 * row) (10 * (row + 1)) 0 := ⟨_, rfl⟩
  have he_5 : en_2 (p + 1) = aJ G (10 * R) (g_4) := by rw [hen_2, eg_4]; exact va_up_self _ _ _
  have he_6 : en_2 (p) = .inr (5, [.ref (ad (p + 1)), .int (nI top)]) := by rw [hen_2]; exact (va_up_ne _ _ (by omega)).trans he0
  refine r_vret (mc := 0) (ms := 0) hx hb hr hlk hs (Nat.le_refl _) (Nat.le_refl _) dX5_clear_26 hQ ?_
  exact ⟨⟨hpn, hR, _, top, he_6, he_5, by rw [eg_4]; exact sRep_clr hrep⟩, ⟨fun _ _ _ => rfl, fun k hk hn => by rw [hen_2, va_up_ne _ _ (by omega)]⟩⟩

set_option maxHeartbeats 4000000 in
set_option maxRecDepth 100000 in
theorem c_X5_copy (l : Launch) (G : rG) {n p R : Nat} {ad : Nat → Nat} {en : Nat → va_E} {S : Nat → Nat → Bool} (h : SetsAt G n p ad en R S) {fr1 to1 : Nat} (hf : fr1 < R) (ht : to1 < R) : CV l G yX5_copy uX5_copy (1) (60) (0) (0) [.ref (ad p), .int (nI fr1), .int (nI to1)] (n) (n) ad en (fun ad1 en1 => SetsAt G n p ad1 en1 R (sCpy S fr1 to1) ∧ Fr n (fun k => p ≤ k ∧ k ≤ p + 1) (fun _ => False) ad en ad1 en1) := by
  intro sz
  refine rMet (Qc := qV G (n) (fun ad1 en1 => SetsAt G n p ad1 en1 R (sCpy S fr1 to1) ∧ Fr n (fun k => p ≤ k ∧ k ≤ p + 1) (fun _ => False) ad en ad1 en1)) (cc := cX5_copy) (maxL := 3) (ret := none) (by decide) rfl (Nat.le_of_ble_eq_true rfl) ?_
  intro pP eE sS mM aA bB tT cC ls A Q hc hK hsz hA hs hl hQ
  obtain ⟨hx, hb, hr, hts, hown, hlk, hnm, hml⟩ := hc
  have hl : lv_has ls 3 [(0, .ref (ad p)), (1, .int (nI fr1)), (2, .int (nI to1))] := hl
  have hss := h
  obtain ⟨hpn, hR, f, top, he0, he1, hrep⟩ := hss
  have htop := hrep.1
  refine lv_aload_n hx hb dX5_copy_0 rfl (lv_at hl 0 rfl) ?_
  refine lv_iload_n hx hb dX5_copy_1 rfl (lv_at hl 1 rfl) ?_
  refine r_callViR (ci := 5) (As := [.int (nI fr1)]) hx hb hml hown hts hK hA hs (p) (by omega) he0 rfl rfl (c_X5_isRow l G h hf) (cwV 1 hts (tbV w_ml_RX5_37 w_im_yX5_isRow w_se_yX5_isRow w_ini_RX5 w_cd_yX5_isRow) rfl rfl rfl (by decide +kernel) ⟨Nat.le_of_ble_eq_true rfl, Nat.le_of_ble_eq_true rfl⟩) rfl hl.1 rfl (Nat.le_of_ble_eq_true rfl) dX5_copy_2 ⟨Nat.zero_le _, Nat.zero_le _⟩ (fun H locs hs => ?_)
  refine lv_if_eq (tgt := 37) hx hb dX5_copy_5 (by decide) (fun c5 => absurd c5 (by decide)) (fun _ => ?_)
  refine lv_aload_n hx hb dX5_copy_8 rfl (lv_at hl 0 rfl) ?_
  refine lv_iload_n hx hb dX5_copy_9 rfl (lv_at hl 2 rfl) ?_
  refine r_callViR (ci := 5) (As := [.int (nI to1)]) hx hb hml hown hts hK hA hs (p) (by omega) he0 rfl rfl (c_X5_isRow l G h ht) (cwV 1 hts (tbV w_ml_RX5_37 w_im_yX5_isRow w_se_yX5_isRow w_ini_RX5 w_cd_yX5_isRow) rfl rfl rfl (by decide +kernel) ⟨Nat.le_of_ble_eq_true rfl, Nat.le_of_ble_eq_true rfl⟩) rfl hl.1 rfl (Nat.le_of_ble_eq_true rfl) dX5_copy_10 ⟨Nat.zero_le _, Nat.zero_le _⟩ (fun H locs hs => ?_)
  refine lv_if_eq (tgt := 37) hx hb dX5_copy_13 (by decide) (fun c13 => absurd c13 (by decide)) (fun _ => ?_)
  refine lv_aload_n hx hb dX5_copy_16 rfl (lv_at hl 0 rfl) ?_
  refine r_get (ci := 5) (v := .ref (ad (p + 1))) (C := RX5) (T := TX5) (N := 2) hx hb hts inlX5 hown hK hs (p) (by omega) he0 rfl 0 (by decide) (hts _ w_fl_RX5_15) rfl dX5_copy_17 ?_
  refine lv_iload_n hx hb dX5_copy_20 rfl (lv_at hl 1 rfl) ?_
  refine lv_bipush (v := 10) hx hb dX5_copy_21 (by decide) ?_
  refine lv_imul hx hb dX5_copy_23 ?_
  refine r_topi (y := nI (10 * fr1)) (by simp only [ l0, l1, l2, l3, l4, l5, l6, l10, l600, pk_mul, nI_add]; first | done | exact congrArg nI (by omega)) ?_
  refine lv_aload_n hx hb dX5_copy_24 rfl (lv_at hl 0 rfl) ?_
  refine r_get (ci := 5) (v := .ref (ad (p + 1))) (C := RX5) (T := TX5) (N := 2) hx hb hts inlX5 hown hK hs (p) (by omega) he0 rfl 0 (by decide) (hts _ w_fl_RX5_15) rfl dX5_copy_25 ?_
  refine lv_iload_n hx hb dX5_copy_28 rfl (lv_at hl 2 rfl) ?_
  refine lv_bipush (v := 10) hx hb dX5_copy_29 (by decide) ?_
  refine lv_imul hx hb dX5_copy_31 ?_
  refine r_topi (y := nI (10 * to1)) (by simp only [ l0, l1, l2, l3, l4, l5, l6, l10, l600, pk_mul, nI_add]; first | done | exact congrArg nI (by omega)) ?_
  refine lv_bipush (v := 10) hx hb dX5_copy_32 (by decide) ?_
  refine r_topi (y := nI 10) rfl ?_
  refine r_copyl (sp := 10 * fr1) (dp := 10 * to1) (k := 10) hx hb (hml.trans hl.1.symm) hown (hts _ w_ml_RX5_45) (hts _ w_nat_arraycopyName) (hts _ w_sta_arraycopyName) (hts _ w_ini_java_lang_System) hK hs (p + 1) (p + 1) (by omega) (by omega) he1 he1 ⟨by omega, by omega, by decide⟩ (by omega) (by omega) (Nat.le_of_ble_eq_true rfl) (Nat.le_of_ble_eq_true rfl) dX5_copy_34 (fun H locs en_1 hen_1 hs => ?_)
  obtain ⟨g_2, eg_2⟩ : ∃ z, z = va_cpy f f (10 * fr1) (10 * to1) 10 := ⟨_, rfl⟩
  have he_3 : en_1 (p + 1) = aJ G (10 * R) (g_2) := by rw [hen_1, eg_2]; exact va_up_self _ _ _
  have he_4 : en_1 (p) = .inr (5, [.ref (ad (p + 1)), .int (nI top)]) := by rw [hen_1]; exact (va_up_ne _ _ (by omega)).trans he0
  refine r_vret (mc := 0) (ms := 0) hx hb hr hlk hs (Nat.le_refl _) (Nat.le_refl _) dX5_copy_37 hQ ?_
  exact ⟨⟨hpn, hR, _, top, he_4, he_3, by rw [eg_2]; exact sRep_cpy hrep hf⟩, ⟨fun _ _ _ => rfl, fun k hk hn => by rw [hen_1, va_up_ne _ _ (by omega)]⟩⟩

set_option maxHeartbeats 4000000 in
set_option maxRecDepth 100000 in
theorem c_X5_init (l : Launch) (G : rG) {p R : Nat} {ad : Nat → Nat} {en : Nat → va_E} (hR : R ≤ 20000) (h : en p = .inr (5, [.null, .int 0])) : CV l G yX5_init uX5_init (1) (20) (1) (10 * R) [.ref (ad p), .int (nI R)] (p + 1) (p + 2) ad en (fun ad1 en1 => SetsAt G (p + 2) p ad1 en1 R (fun _ _ => false) ∧ (∀ k, k < p + 1 → ad1 k = ad k) ∧ (∀ k, k < p → en1 k = en k)) := by
  intro sz
  refine rMet (Qc := qV G (p + 2) (fun ad1 en1 => SetsAt G (p + 2) p ad1 en1 R (fun _ _ => false) ∧ (∀ k, k < p + 1 → ad1 k = ad k) ∧ (∀ k, k < p → en1 k = en k))) (cc := cX5_init) (maxL := 2) (ret := none) (by decide) rfl (Nat.le_of_ble_eq_true rfl) ?_
  intro pP eE sS mM aA bB tT cC ls A Q hc hK hsz hA hs hl hQ
  obtain ⟨hx, hb, hr, hts, hown, hlk, hnm, hml⟩ := hc
  have hl : lv_has ls 2 [(0, .ref (ad p)), (1, .int (nI R))] := hl
  refine lv_aload_n hx hb dX5_init_0 rfl (lv_at hl 0 rfl) ?_
  refine W.objInit hx hb hown (hts _ w_ml_RX5_3) (hts _ w_im_objectInit) (hts _ w_cd_objectInit) rfl (by rw [hml]; exact hl.1) rfl dX5_init_1 (Nat.le_of_ble_eq_true rfl) (Nat.le_of_ble_eq_true rfl) ?_
  refine W.eq (g2 := F0 mM 4 ls []) rfl ?_
  refine lv_aload_n hx hb dX5_init_4 rfl (lv_at hl 0 rfl) ?_
  refine lv_iconst (v := 0) hx hb dX5_init_5 (by decide) ?_
  refine r_put (ci := 5) (v := .int (0)) (ty := .int) (C := RX5) (T := TX5) (N := 2) (fs' := [.null, .int (0)]) hx hb hts inlX5 tyX5 tyX5_ok nmX5 hown hK hs (p) (by omega) h rfl 1 (by decide) (hts _ w_fl_RX5_9) (Or.inl rfl) (by decide +kernel) rfl rfl (Nat.le_of_ble_eq_true rfl) rfl dX5_init_6 (fun H locs en_1 hen_1 hs => ?_)
  have he_2 : en_1 (p) = .inr (5, [.null, .int (0)]) := by rw [hen_1]; exact va_up_self _ _ _
  refine lv_aload_n hx hb dX5_init_9 rfl (lv_at hl 0 rfl) ?_
  refine lv_iload_n hx hb dX5_init_10 rfl (lv_at hl 1 rfl) ?_
  refine lv_bipush (v := 10) hx hb dX5_init_11 (by decide) ?_
  refine lv_imul hx hb dX5_init_13 ?_
  refine r_topi (y := nI (10 * R)) (by simp only [ l0, l1, l2, l3, l4, l5, l6, l10, l600, pk_mul, nI_add]; first | done | exact congrArg nI (by omega)) ?_
  refine r_newa (atype := .long) (ty := .long) (a0 := (10 * R, .inr (.inl (fun _ => 0)))) (N' := 10 * R) hx hb (hts _ w_ac_long) rfl hK hs hA 2 rfl (fun _ h9 => h9) (fun _ => rfl) (nI_pos (by omega)) (nI_clamp (by omega)) (show (10 * R) * 8 ≤ 536870912 by omega) (Nat.le_refl _) (by show 0 + 10 * R ≤ 10 * R; omega) dX5_init_14 (fun qq H ad_3 en_4 had_3 hen_4 hq hs => ?_)
  subst hq
  have kad_3 : ∀ k, k < p + 1 → ad_3 k = ad k := fun k hk => by rw [had_3]; exact va_up_ne _ _ (by omega)
  have ken_4 : ∀ k, k < p + 1 → en_4 k = en_1 k := fun k hk => by rw [hen_4]; exact va_up_ne _ _ (by omega)
  have he_5 : en_4 (p + 1) = aJ G (10 * R) (fun _ => 0) := by rw [hen_4]; exact va_up_self _ _ _
  have he_6 : en_4 (p) = .inr (5, [.null, .int (0)]) := (ken_4 (p) (by omega)).trans he_2
  have hl : lv_has ls 2 [(0, .ref (ad_3 p)), (1, .int (nI R))] := by rw [(kad_3 (p) (by omega))]; exact hl
  rw [← (kad_3 (p) (by omega))]
  refine r_put (ci := 5) (v := .ref (ad_3 (p + 1))) (ty := .array .long) (C := RX5) (T := TX5) (N := 2) (fs' := [.ref (ad_3 (p + 1)), .int (0)]) hx hb hts inlX5 tyX5 tyX5_ok nmX5 hown hK hs (p) (by omega) he_6 rfl 0 (by decide) (hts _ w_fl_RX5_15) (Or.inl rfl) (by decide +kernel) rfl rfl (Nat.le_of_ble_eq_true rfl) rfl dX5_init_16 (fun H locs en_7 hen_7 hs => ?_)
  have he_8 : en_7 (p) = .inr (5, [.ref (ad_3 (p + 1)), .int (0)]) := by rw [hen_7]; exact va_up_self _ _ _
  have he_9 : en_7 (p + 1) = aJ G (10 * R) (fun _ => 0) := by rw [hen_7]; exact (va_up_ne _ _ (by omega)).trans he_5
  refine r_vret (mc := 1) (ms := 10 * R) hx hb hr hlk hs (Nat.le_refl _) (by omega) dX5_init_19 hQ ?_
  exact ⟨⟨Nat.le_refl _, hR, (fun _ => 0), 0, he_8, he_9, sRep_nil R⟩, fun k hk => by rw [kad_3 k (by omega)], fun k hk => by rw [hen_7, va_up_ne _ _ (by omega), ken_4 k (by omega), hen_1, va_up_ne _ _ (by omega)]⟩

set_option maxHeartbeats 4000000 in
set_option maxRecDepth 100000 in
theorem c_X5_reach (l : Launch) (G : rG) {n p R : Nat} {ad : Nat → Nat} {en : Nat → va_E} {S : Nat → Nat → Bool} (h : SetsAt G n p ad en R S) {row : Nat} (hrow : row ≤ 8000) : CV l G yX5_reach uX5_reach (2) (82) (rchC R row) (rchS R row) [.ref (ad p), .int (nI row)] (n) (n) ad en (fun ad1 en1 => SetsAt G n p ad1 en1 (reachR R row) (sCut S R) ∧ Fr n (fun k => p ≤ k ∧ k ≤ p + 1) (fun k => k = p + 1) ad en ad1 en1) := by
  intro sz
  refine rMet (Qc := qV G (n) (fun ad1 en1 => SetsAt G n p ad1 en1 (reachR R row) (sCut S R) ∧ Fr n (fun k => p ≤ k ∧ k ≤ p + 1) (fun k => k = p + 1) ad en ad1 en1)) (cc := cX5_reach) (maxL := 3) (ret := none) (by decide) rfl (Nat.le_of_ble_eq_true rfl) ?_
  intro pP eE sS mM aA bB tT cC ls A Q hc hK hsz hA hs hl hQ
  obtain ⟨hx, hb, hr, hts, hown, hlk, hnm, hml⟩ := hc
  have hl : lv_has ls 3 [(0, .ref (ad p)), (1, .int (nI row))] := hl
  have hss := h
  obtain ⟨hpn, hR, f, top, he0, he1, hrep⟩ := hss
  have htop := hrep.1
  refine lv_iload_n hx hb dX5_reach_0 rfl (lv_at hl 1 rfl) ?_
  refine lv_iconst (v := 1) hx hb dX5_reach_1 (by decide) ?_
  refine lv_iadd hx hb dX5_reach_2 ?_
  refine lv_bipush (v := 10) hx hb dX5_reach_3 (by decide) ?_
  refine lv_imul hx hb dX5_reach_5 ?_
  refine r_topi (y := nI (10 * (row + 1))) (by simp only [ l0, l1, l2, l3, l4, l5, l6, l10, l600, pk_mul, nI_add]; first | done | exact congrArg nI (by omega)) ?_
  refine lv_istore_n (lv' := [(2, .int (nI (10 * (row + 1)))), (0, .ref (ad p)), (1, .int (nI row))]) hx hb dX5_reach_6 rfl hl (by decide) rfl (fun ls hl => ?_)
  refine lv_iload_n hx hb dX5_reach_7 rfl (lv_at hl 0 rfl) ?_
  refine lv_aload_n hx hb dX5_reach_8 rfl (lv_at hl 1 rfl) ?_
  refine r_get (ci := 5) (v := .ref (ad (p + 1))) (C := RX5) (T := TX5) (N := 2) hx hb hts inlX5 hown hK hs (p) (by omega) he0 rfl 0 (by decide) (hts _ w_fl_RX5_15) rfl dX5_reach_9 ?_
  refine r_alen (v := nI (10 * R)) hx hb hK hs (p + 1) 2 (by omega) he1 rfl rfl dX5_reach_12 ?_
  refine lv_icmp_le (tgt := 38) hx hb dX5_reach_13 (by decide) (fun c13 => ?_) (fun c13 => ?_)
  · skip
    have hlt : row < R := by have := (nI_leI (by omega) (by omega)).mp c13; omega
    refine r_vret (mc := rchC R row) (ms := rchS R row) hx hb hr hlk hs (by first | omega | exact Nat.zero_le _) (by first | omega | exact Nat.zero_le _) dX5_reach_38 hQ ?_
    exact ⟨by rw [reachR, if_pos hlt]; exact ⟨hpn, hR, f, top, he0, he1, sRep_cut hrep (Nat.le_refl _)⟩, fun _ _ _ => rfl, fun _ _ _ => rfl⟩
  · skip
    have hlt : ¬ row < R := fun q => c13 ((nI_leI (by omega) (by omega)).mpr (by omega))
    have hMC : rchC R row = 1 := if_neg hlt
    have hMS : rchS R row = 10 * max (row + 1) (2 * R) := if_neg hlt
    have hRR : max (10 * (row + 1)) (2 * (10 * R)) = 10 * max (row + 1) (2 * R) := by omega
    refine lv_aload_n hx hb dX5_reach_16 rfl (lv_at hl 1 rfl) ?_
    refine lv_aload_n hx hb dX5_reach_17 rfl (lv_at hl 1 rfl) ?_
    refine r_get (ci := 5) (v := .ref (ad (p + 1))) (C := RX5) (T := TX5) (N := 2) hx hb hts inlX5 hown hK hs (p) (by omega) he0 rfl 0 (by decide) (hts _ w_fl_RX5_15) rfl dX5_reach_18 ?_
    refine lv_iload_n hx hb dX5_reach_21 rfl (lv_at hl 0 rfl) ?_
    refine lv_iconst (v := 2) hx hb dX5_reach_22 (by decide) ?_
    refine lv_aload_n hx hb dX5_reach_23 rfl (lv_at hl 1 rfl) ?_
    refine r_get (ci := 5) (v := .ref (ad (p + 1))) (C := RX5) (T := TX5) (N := 2) hx hb hts inlX5 hown hK hs (p) (by omega) he0 rfl 0 (by decide) (hts _ w_fl_RX5_15) rfl dX5_reach_24 ?_
    refine r_alen (v := nI (10 * R)) hx hb hK hs (p + 1) 2 (by omega) he1 rfl rfl dX5_reach_27 ?_
    refine lv_imul hx hb dX5_reach_28 ?_
    refine r_topi (y := nI (2 * (10 * R))) (by simp only [ l0, l1, l2, l3, l4, l5, l6, l10, l600, pk_mul, nI_add]; first | done | exact congrArg nI (by omega)) ?_
    refine va_mmax hx hb (hml.trans hl.1.symm) hown (hts _ w_ml_RX5_19) (hts _ w_sta_Lib_Math_max_name) (hts _ w_ini_java_lang_Math) (hts _ w_cd_Lib_Math_max_name) (Nat.le_of_ble_eq_true rfl) (Nat.le_of_ble_eq_true rfl) (Nat.zero_le _) (Nat.zero_le _) dX5_reach_29 ?_
    refine r_topi (y := nI (max (10 * (row + 1)) (2 * (10 * R)))) (max_nI (by omega) (by omega)) ?_
    refine r_callSr (As := [.ref (ad (p + 1)), .int (nI (max (10 * (row + 1)) (2 * (10 * R))))]) hx hb hml hown hts hK hA hs (c_J7_copyOf_c38d5 l G (by omega) he1 (by omega) (by omega)) (va_cwS 2 hts (tbS w_ml_RX5_25 w_sta_yJ7_copyOf_c38d5 w_ini_RJ7 w_cd_yJ7_copyOf_c38d5) rfl rfl rfl (by decide +kernel) ⟨Nat.le_of_ble_eq_true rfl, Nat.le_of_ble_eq_true rfl⟩) rfl hl.1 rfl (Nat.le_of_ble_eq_true rfl) dX5_reach_32 ⟨by show 0 + 1 ≤ rchC R row; omega, by show 0 + _ ≤ rchS R row; omega⟩ (fun ra_4 ad_1 en_2 H locs hp_3 hs => ?_)
    obtain ⟨hra, kad_1, ken_2, hnew⟩ := hp_3
    subst hra
    have he_5 : en_2 (p) = .inr (5, [.ref (ad_1 (p + 1)), .int (nI top)]) := by rw [(kad_1 (p + 1) (by omega))]; exact (ken_2 (p) (by omega)).trans he0
    have he_6 : en_2 (p + 1) = aJ G (10 * R) (f) := (ken_2 (p + 1) (by omega)).trans he1
    have hl : lv_has ls 3 [(2, .int (nI (10 * (row + 1)))), (0, .ref (ad_1 p)), (1, .int (nI row))] := by rw [(kad_1 (p) (by omega))]; exact hl
    rw [← (kad_1 (p) (by omega))]
    refine r_put (ci := 5) (v := .ref (ad_1 (n))) (ty := .array .long) (C := RX5) (T := TX5) (N := 2) (fs' := [.ref (ad_1 (n)), .int (nI top)]) hx hb hts inlX5 tyX5 tyX5_ok nmX5 hown hK hs (p) (by omega) he_5 rfl 0 (by decide) (hts _ w_fl_RX5_15) (Or.inl rfl) (by decide +kernel) rfl rfl (Nat.le_of_ble_eq_true rfl) rfl dX5_reach_35 (fun H locs en_7 hen_7 hs => ?_)
    have he_8 : en_7 (p) = .inr (5, [.ref (ad_1 (n)), .int (nI top)]) := by rw [hen_7]; exact va_up_self _ _ _
    have he_9 : en_7 (p + 1) = aJ G (10 * R) (f) := by rw [hen_7]; exact (va_up_ne _ _ (by omega)).trans he_6
    have he_10 : en_7 (n) = aJ G (max (10 * (row + 1)) (2 * (10 * R))) (va_cpy f (fun _ => 0) 0 0 (10 * R)) := by rw [hen_7]; exact (va_up_ne _ _ (by omega)).trans hnew
    obtain ⟨ad_11, had_11⟩ : ∃ z, z = va_up ad_1 (p + 1) (ad_1 (n)) := ⟨_, rfl⟩
    obtain ⟨en_12, hen_12⟩ : ∃ z, z = va_up en_7 (p + 1) (en_7 (n)) := ⟨_, rfl⟩
    have hs : rS G A sS.heap (n) ad_11 en_12 H locs := by rw [had_11, hen_12]; exact rS_swap (p + 1) (by omega) hs
    have kad_11 : ∀ k, k ≠ p + 1 → ad_11 k = ad_1 k := fun k hk => by rw [had_11]; exact va_up_ne _ _ hk
    have ken_12 : ∀ k, k ≠ p + 1 → en_12 k = en_7 k := fun k hk => by rw [hen_12]; exact va_up_ne _ _ hk
    have jad_11 : ad_11 (p + 1) = ad_1 (n) := by rw [had_11]; exact va_up_self _ _ _
    have he_13 : en_12 (p + 1) = aJ G (max (10 * (row + 1)) (2 * (10 * R))) (va_cpy f (fun _ => 0) 0 0 (10 * R)) := by rw [hen_12]; exact (va_up_self _ _ _).trans he_10
    have he_14 : en_12 (p) = .inr (5, [.ref (ad_11 (p + 1)), .int (nI top)]) := by rw [jad_11]; exact (ken_12 _ (by omega)).trans he_8
    have hl : lv_has ls 3 [(2, .int (nI (10 * (row + 1)))), (0, .ref (ad_11 p)), (1, .int (nI row))] := by rw [kad_11 (p) (by omega)]; exact hl
    refine r_vret (mc := rchC R row) (ms := rchS R row) hx hb hr hlk hs (by first | omega | exact Nat.zero_le _) (by first | omega | exact Nat.zero_le _) dX5_reach_38 hQ ?_
    exact ⟨by rw [reachR, if_neg hlt]; exact ⟨hpn, by omega, _, top, he_14, (he_13).trans (by rw [hRR]), sRep_grow hrep (by omega)⟩, fun k hk hn => by rw [kad_11 k hn, kad_1 k hk], fun k hk hn => by rw [ken_12 k (by omega), hen_7, va_up_ne _ _ (by omega), ken_2 k hk]⟩

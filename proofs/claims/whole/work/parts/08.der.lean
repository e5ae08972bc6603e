/-! DERIVATION: rows of four numbers by step; hw: the highest step that was ever begun -/
def dCap : Nat → Nat
  | 0 => 64
  | k + 1 => if 4 * (k + 1) < dCap k then dCap k else 2 * dCap k
theorem dCap_ge : ∀ k, 4 * k + 4 ≤ dCap k ∧ 64 ≤ dCap k ∧ dCap k % 4 = 0
  | 0 => by decide
  | k + 1 => by
    have := dCap_ge k
    rw [dCap]
    split <;> omega
theorem dCap_le : ∀ k, dCap k ≤ 64 + 8 * k
  | 0 => by decide
  | k + 1 => by
    have := dCap_le k
    rw [dCap]
    split <;> omega
theorem dCap_mono {a b : Nat} (h : a ≤ b) : dCap a ≤ dCap b := by
  induction h with
  | refl => exact Nat.le_refl _
  | step _ ih =>
    refine Nat.le_trans ih ?_
    rw [dCap]
    split <;> omega
def DerAt (G : rG) (n p : Nat) (ad : Nat → Nat) (en : Nat → va_E) (hw : Nat) (dv : Nat → Int32) : Prop :=
  p + 2 ≤ n ∧ hw ≤ 3000 ∧ ∃ f : Nat → Int32, en p = .inr (0, [.ref (ad (p + 1))]) ∧ en (p + 1) = aI G (dCap hw) f ∧ (∀ j, j < dCap hw → f j = dv j) ∧ (∀ j, dCap hw ≤ j → dv j = 0)
def dMC (hw s : Nat) : Nat := if s ≤ hw ∨ 4 * s < dCap hw then 0 else 1
def dMS (hw s : Nat) : Nat := if s ≤ hw ∨ 4 * s < dCap hw then 0 else 2 * dCap hw
theorem dMC_0 {hw s : Nat} (h : s ≤ hw) : dMC hw s = 0 := if_pos (Or.inl h)
theorem dMS_0 {hw s : Nat} (h : s ≤ hw) : dMS hw s = 0 := if_pos (Or.inl h)
theorem dCap_same {hw s c : Nat} (h : s ≤ hw ∨ (s = hw + 1 ∧ c = 0)) (hl : 4 * s < dCap hw) : dCap (max hw s) = dCap hw := by
  rcases h with h | ⟨rfl, -⟩
  · rw [Nat.max_eq_left h]
  · rw [Nat.max_eq_right (by omega), dCap, if_pos hl]
theorem dgrown {hw s c : Nat} (h : s ≤ hw ∨ (s = hw + 1 ∧ c = 0)) (hc : c < 4) (hl : dCap hw ≤ 4 * s + c) : s = hw + 1 ∧ c = 0 ∧ dCap hw = 4 * s ∧ dCap (max hw s) = 2 * dCap hw ∧ dMC hw s = 1 ∧ dMS hw s = 2 * dCap hw := by
  have h1 := dCap_ge hw
  rcases h with h | ⟨rfl, rfl⟩
  · omega
  · have e : ¬ 4 * (hw + 1) < dCap hw := by omega
    refine ⟨rfl, rfl, by omega, ?_, ?_, ?_⟩
    · rw [Nat.max_eq_right (by omega), dCap, if_neg e]
    · exact if_neg (by omega)
    · exact if_neg (by omega)
theorem dgrow {N : Nat} {f dv : Nat → Int32} (h1 : ∀ j, j < N → f j = dv j) (h2 : ∀ j, N ≤ j → dv j = 0) (j : Nat) : va_cpy f (fun _ => 0) 0 0 N j = dv j := by
  by_cases h : j < N
  · rw [sb_cpy0 h, h1 j h]
  · rw [pk_cpy_out (by omega), h2 j (by omega)]
theorem dupd {N k : Nat} {g dv : Nat → Int32} {v : Int32} (h : ∀ j, j < N → g j = dv j) : ∀ j, j < N → upd g k v j = upd dv k v j := by
  intro j hj
  unfold upd
  by_cases e : j = k
  · rw [if_pos e, if_pos e]
  · rw [if_neg e, if_neg e, h j hj]
theorem dout {N N2 k : Nat} {dv : Nat → Int32} {v : Int32} (h : ∀ j, N ≤ j → dv j = 0) (hk : k < N2) (j : Nat) (hj : N ≤ j) (hj2 : N2 ≤ j) : upd dv k v j = 0 := by
  rw [pk_un (by omega)]
  exact h j hj
theorem nI_or {a b : Nat} : nI a ||| nI b = nI (a ||| b) := by
  apply Int32.toBitVec_inj.mp
  apply BitVec.eq_of_getLsbD_eq
  intro i hi
  show ((BitVec.ofNat 32 a) ||| (BitVec.ofNat 32 b)).getLsbD i = (BitVec.ofNat 32 (a ||| b)).getLsbD i
  rw [BitVec.getLsbD_or, BitVec.getLsbD_ofNat, BitVec.getLsbD_ofNat, BitVec.getLsbD_ofNat, Nat.testBit_or]
  cases decide (i < 32) <;> simp
theorem way_eq {r t : Nat} (hr : r < 16) (ht : t ≤ 600) : (nI t <<< ((4 : Int32) &&& 31)) ||| nI r = nI (16 * t + r) := by
  rw [pk_shlN _ 4 (by decide) (by omega), nI_or, Nat.mul_comm, ← Nat.two_pow_add_eq_or_of_lt (i := 4) hr]
set_option maxHeartbeats 4000000 in
set_option maxRecDepth 100000 in
theorem c_X0_way (l : Launch) (G : rG) {n r t : Nat} {ad : Nat → Nat} {en : Nat → va_E} (hr1 : r < 16) (ht : t ≤ 600) : CI l G yX0_way uX0_way (0) (0) (0) (0) [.int (nI r), .int (nI t)] (n) (n) ad en (roV ad en (nI (16 * t + r))) := by
  intro sz
  refine rMet (Qc := qI G (n) (roV ad en (nI (16 * t + r)))) (cc := cX0_way) (maxL := 2) (ret := (some .int)) (by decide) rfl (Nat.le_of_ble_eq_true rfl) ?_
  intro pP eE sS mM aA bB tT cC ls A Q hc hK hsz hA hs hl hQ
  obtain ⟨hx, hb, hr, hts, hown, hlk, hnm, hml⟩ := hc
  have hl : lv_has ls 2 [(0, .int (nI r)), (1, .int (nI t))] := hl
  refine lv_iload_n hx hb dX0_way_0 rfl (lv_at hl 1 rfl) ?_
  refine lv_iconst (v := 4) hx hb dX0_way_1 (by decide) ?_
  refine lv_ishl hx hb dX0_way_2 ?_
  refine lv_iload_n hx hb dX0_way_3 rfl (lv_at hl 0 rfl) ?_
  refine lv_ior hx hb dX0_way_4 ?_
  refine r_iret (v := ((nI t) <<< ((4) &&& 31)) ||| (nI r)) (mc := 0) (ms := 0) hx hb hr hlk hs (Nat.le_refl _) (Nat.le_refl _) dX0_way_5 hQ ?_
  exact roV.rf (way_eq hr1 ht)

set_option maxHeartbeats 4000000 in
set_option maxRecDepth 100000 in
theorem c_X0_ruleOf (l : Launch) (G : rG) {n v : Nat} {ad : Nat → Nat} {en : Nat → va_E} (hv : v < 2 ^ 31) : CI l G yX0_ruleOf uX0_ruleOf (0) (0) (0) (0) [.int (nI v)] (n) (n) ad en (roV ad en (nI (v % 16))) := by
  intro sz
  refine rMet (Qc := qI G (n) (roV ad en (nI (v % 16)))) (cc := cX0_ruleOf) (maxL := 1) (ret := (some .int)) (by decide) rfl (Nat.le_of_ble_eq_true rfl) ?_
  intro pP eE sS mM aA bB tT cC ls A Q hc hK hsz hA hs hl hQ
  obtain ⟨hx, hb, hr, hts, hown, hlk, hnm, hml⟩ := hc
  have hl : lv_has ls 1 [(0, .int (nI v))] := hl
  refine lv_iload_n hx hb dX0_ruleOf_0 rfl (lv_at hl 0 rfl) ?_
  refine lv_bipush (v := 15) hx hb dX0_ruleOf_1 (by decide) ?_
  refine lv_iand hx hb dX0_ruleOf_3 ?_
  refine r_iret (v := (nI v) &&& (15)) (mc := 0) (ms := 0) hx hb hr hlk hs (Nat.le_refl _) (Nat.le_refl _) dX0_ruleOf_4 hQ ?_
  exact roV.rf (pk_andN (by omega) 4 (by decide))

set_option maxHeartbeats 4000000 in
set_option maxRecDepth 100000 in
theorem c_X0_takenBy (l : Launch) (G : rG) {n v : Nat} {ad : Nat → Nat} {en : Nat → va_E} (hv : v < 2 ^ 31) : CI l G yX0_takenBy uX0_takenBy (0) (0) (0) (0) [.int (nI v)] (n) (n) ad en (roV ad en (nI (v / 16))) := by
  intro sz
  refine rMet (Qc := qI G (n) (roV ad en (nI (v / 16)))) (cc := cX0_takenBy) (maxL := 1) (ret := (some .int)) (by decide) rfl (Nat.le_of_ble_eq_true rfl) ?_
  intro pP eE sS mM aA bB tT cC ls A Q hc hK hsz hA hs hl hQ
  obtain ⟨hx, hb, hr, hts, hown, hlk, hnm, hml⟩ := hc
  have hl : lv_has ls 1 [(0, .int (nI v))] := hl
  refine lv_iload_n hx hb dX0_takenBy_0 rfl (lv_at hl 0 rfl) ?_
  refine lv_iconst (v := 4) hx hb dX0_takenBy_1 (by decide) ?_
  refine lv_ishr hx hb dX0_takenBy_2 ?_
  refine r_iret (v := (nI v) >>> ((4) &&& 31)) (mc := 0) (ms := 0) hx hb hr hlk hs (Nat.le_refl _) (Nat.le_refl _) dX0_takenBy_3 hQ ?_
  exact roV.rf (pk_shrN (by omega) _ 4 (by decide))

set_option maxHeartbeats 4000000 in
set_option maxRecDepth 100000 in
theorem c_X0_premisesOf (l : Launch) (G : rG) {n r : Nat} {ad : Nat → Nat} {en : Nat → va_E} (hr1 : r < 14) : CI l G yX0_premisesOf uX0_premisesOf (0) (0) (0) (0) [.int (nI r)] (n) (n) ad en (roV ad en (nI (rPremL.getD r 0))) := by
  intro sz
  refine rMet (Qc := qI G (n) (roV ad en (nI (rPremL.getD r 0)))) (cc := cX0_premisesOf) (maxL := 1) (ret := (some .int)) (by decide) rfl (Nat.le_of_ble_eq_true rfl) ?_
  intro pP eE sS mM aA bB tT cC ls A Q hc hK hsz hA hs hl hQ
  obtain ⟨hx, hb, hr, hts, hown, hlk, hnm, hml⟩ := hc
  have hl : lv_has ls 1 [(0, .int (nI r))] := hl
  refine lv_iload_n hx hb dX0_premisesOf_0 rfl (lv_at hl 0 rfl) ?_
  refine lv_if_lt (tgt := 20) hx hb dX0_premisesOf_1 (by decide) (fun c1 => absurd c1 (nI_pos (by omega))) (fun _ => ?_)
  refine lv_iload_n hx hb dX0_premisesOf_4 rfl (lv_at hl 0 rfl) ?_
  refine va_gets hx hb hK.2.1.1.1 hs.2.2 hown (hts _ w_fl_RX0_15) (fun _ h9 => h9) dX0_premisesOf_5 ?_
  refine va_tlen (v := nI 14) hx hb hK.2.1.1.2 hs.2.2 rfl dX0_premisesOf_8 ?_
  refine lv_icmp_ge (tgt := 20) hx hb dX0_premisesOf_9 (by decide) (fun c9 => absurd c9 (nI_ge hr1 (by decide))) (fun _ => ?_)
  refine va_gets hx hb hK.2.1.1.1 hs.2.2 hown (hts _ w_fl_RX0_15) (fun _ h9 => h9) dX0_premisesOf_12 ?_
  refine lv_iload_n hx hb dX0_premisesOf_15 rfl (lv_at hl 0 rfl) ?_
  refine va_ti (v := .int (nI (rPremL.getD r 0))) hx hb hK.2.1.1.2 hs.2.2 (vp_in_nI hr1 (by decide)) (by rw [nI_clamp (by omega)]) dX0_premisesOf_16 ?_
  refine lv_goto (tgt := 21) hx hb dX0_premisesOf_17 (by decide) ?_
  refine r_iret (v := nI (rPremL.getD r 0)) (mc := 0) (ms := 0) hx hb hr hlk hs (Nat.le_refl _) (Nat.le_refl _) dX0_premisesOf_21 hQ ?_
  exact roV.rf rfl

set_option maxHeartbeats 4000000 in
set_option maxRecDepth 100000 in
theorem c_X2_partsOf (l : Launch) (G : rG) {n r : Nat} {ad : Nat → Nat} {en : Nat → va_E} (hr1 : r < 10) : CI l G yX2_partsOf uX2_partsOf (0) (0) (0) (0) [.int (nI r)] (n) (n) ad en (roV ad en (nI (rPartL.getD r 0))) := by
  intro sz
  refine rMet (Qc := qI G (n) (roV ad en (nI (rPartL.getD r 0)))) (cc := cX2_partsOf) (maxL := 1) (ret := (some .int)) (by decide) rfl (Nat.le_of_ble_eq_true rfl) ?_
  intro pP eE sS mM aA bB tT cC ls A Q hc hK hsz hA hs hl hQ
  obtain ⟨hx, hb, hr, hts, hown, hlk, hnm, hml⟩ := hc
  have hl : lv_has ls 1 [(0, .int (nI r))] := hl
  refine lv_iload_n hx hb dX2_partsOf_0 rfl (lv_at hl 0 rfl) ?_
  refine lv_if_lt (tgt := 20) hx hb dX2_partsOf_1 (by decide) (fun c1 => absurd c1 (nI_pos (by omega))) (fun _ => ?_)
  refine lv_iload_n hx hb dX2_partsOf_4 rfl (lv_at hl 0 rfl) ?_
  refine va_gets hx hb hK.2.1.2.1 hs.2.2 hown (hts _ w_fl_RX2_39) (fun _ h9 => h9) dX2_partsOf_5 ?_
  refine va_tlen (v := nI 10) hx hb hK.2.1.2.2 hs.2.2 rfl dX2_partsOf_8 ?_
  refine lv_icmp_ge (tgt := 20) hx hb dX2_partsOf_9 (by decide) (fun c9 => absurd c9 (nI_ge hr1 (by decide))) (fun _ => ?_)
  refine va_gets hx hb hK.2.1.2.1 hs.2.2 hown (hts _ w_fl_RX2_39) (fun _ h9 => h9) dX2_partsOf_12 ?_
  refine lv_iload_n hx hb dX2_partsOf_15 rfl (lv_at hl 0 rfl) ?_
  refine va_ti (v := .int (nI (rPartL.getD r 0))) hx hb hK.2.1.2.2 hs.2.2 (vp_in_nI hr1 (by decide)) (by rw [nI_clamp (by omega)]) dX2_partsOf_16 ?_
  refine lv_goto (tgt := 21) hx hb dX2_partsOf_17 (by decide) ?_
  refine r_iret (v := nI (rPartL.getD r 0)) (mc := 0) (ms := 0) hx hb hr hlk hs (Nat.le_refl _) (Nat.le_refl _) dX2_partsOf_21 hQ ?_
  exact roV.rf rfl

set_option maxHeartbeats 4000000 in
set_option maxRecDepth 100000 in
theorem c_X0_read (l : Launch) (G : rG) {n p hw : Nat} {ad : Nat → Nat} {en : Nat → va_E} {dv : Nat → Int32} (h : DerAt G n p ad en hw dv) {sp c1 : Nat} (hsp : sp ≤ 3000) (hc1 : c1 < 4) : CI l G yX0_read uX0_read (0) (0) (0) (0) [.ref (ad p), .int (nI sp), .int (nI c1)] (n) (n) ad en (roV ad en (dv (4 * sp + c1))) := by
  intro sz
  refine rMet (Qc := qI G (n) (roV ad en (dv (4 * sp + c1)))) (cc := cX0_read) (maxL := 4) (ret := (some .int)) (by decide) rfl (Nat.le_of_ble_eq_true rfl) ?_
  intro pP eE sS mM aA bB tT cC ls A Q hc hK hsz hA hs hl hQ
  obtain ⟨hx, hb, hr, hts, hown, hlk, hnm, hml⟩ := hc
  have hl : lv_has ls 4 [(0, .ref (ad p)), (1, .int (nI sp)), (2, .int (nI c1))] := hl
  have hdd := h
  obtain ⟨hpn, hhw, f, he0, he1, hf1, hf2⟩ := hdd
  have hcap := dCap_ge hw
  have hcap2 := dCap_le hw
  refine lv_iload_n hx hb dX0_read_0 rfl (lv_at hl 1 rfl) ?_
  refine lv_iconst (v := 4) hx hb dX0_read_1 (by decide) ?_
  refine lv_imul hx hb dX0_read_2 ?_
  refine lv_iload_n hx hb dX0_read_3 rfl (lv_at hl 2 rfl) ?_
  refine lv_iadd hx hb dX0_read_4 ?_
  refine r_topi (y := nI (4 * sp + c1)) (by simp only [ l0, l1, l2, l3, l4, l5, l6, l10, l600, pk_mul, nI_add]; first | done | exact congrArg nI (by omega)) ?_
  refine lv_istore_n (lv' := [(3, .int (nI (4 * sp + c1))), (0, .ref (ad p)), (1, .int (nI sp)), (2, .int (nI c1))]) hx hb dX0_read_5 rfl hl (by decide) rfl (fun ls hl => ?_)
  refine lv_iload_n hx hb dX0_read_6 rfl (lv_at hl 0 rfl) ?_
  refine lv_if_lt (tgt := 28) hx hb dX0_read_7 (by decide) (fun c7 => absurd c7 (nI_pos (by omega))) (fun _ => ?_)
  refine lv_iload_n hx hb dX0_read_10 rfl (lv_at hl 0 rfl) ?_
  refine lv_aload_n hx hb dX0_read_11 rfl (lv_at hl 1 rfl) ?_
  refine r_get (ci := 0) (v := .ref (ad (p + 1))) (C := RX0) (T := TX0) (N := 1) hx hb hts inlX0 hown hK hs (p) (by omega) he0 rfl 0 (by decide) (hts _ w_fl_RX0_11) rfl dX0_read_12 ?_
  refine r_alen (v := nI (dCap hw)) hx hb hK hs (p + 1) 1 (by omega) he1 rfl rfl dX0_read_15 ?_
  refine lv_icmp_ge (tgt := 28) hx hb dX0_read_16 (by decide) (fun c16 => ?_) (fun c16 => ?_)
  · skip
    have hge : dCap hw ≤ 4 * sp + c1 := (nI_leI (by omega) (by omega)).mp c16
    refine lv_iconst (v := 0) hx hb dX0_read_28 (by decide) ?_
    refine r_iret (v := 0) (mc := 0) (ms := 0) hx hb hr hlk hs (Nat.le_refl _) (Nat.le_refl _) dX0_read_29 hQ ?_
    exact roV.rf (hf2 _ hge).symm
  · skip
    have hge : 4 * sp + c1 < dCap hw := lt_of_nI c16 (by omega)
    refine lv_aload_n hx hb dX0_read_19 rfl (lv_at hl 1 rfl) ?_
    refine r_get (ci := 0) (v := .ref (ad (p + 1))) (C := RX0) (T := TX0) (N := 1) hx hb hts inlX0 hown hK hs (p) (by omega) he0 rfl 0 (by decide) (hts _ w_fl_RX0_11) rfl dX0_read_20 ?_
    refine lv_iload_n hx hb dX0_read_23 rfl (lv_at hl 0 rfl) ?_
    refine r_ialdN (t := 4 * sp + c1) hx hb hK hs (p + 1) (by omega) he1 (rfl) (by omega) (by omega) dX0_read_24 ?_
    refine lv_goto (tgt := 29) hx hb dX0_read_25 (by decide) ?_
    refine r_iret (v := f (4 * sp + c1)) (mc := 0) (ms := 0) hx hb hr hlk hs (Nat.le_refl _) (Nat.le_refl _) dX0_read_29 hQ ?_
    exact roV.rf (hf1 _ hge)

set_option maxHeartbeats 4000000 in
set_option maxRecDepth 100000 in
theorem c_X0_goalOf (l : Launch) (G : rG) {n p hw : Nat} {ad : Nat → Nat} {en : Nat → va_E} {dv : Nat → Int32} (h : DerAt G n p ad en hw dv) {sp : Nat} (hsp : sp ≤ 3000) : CI l G yX0_goalOf uX0_goalOf (1) (23) (0) (0) [.ref (ad p), .int (nI sp)] (n) (n) ad en (roV ad en (dv (4 * sp + 0))) := by
  intro sz
  refine rMet (Qc := qI G (n) (roV ad en (dv (4 * sp + 0)))) (cc := cX0_goalOf) (maxL := 2) (ret := (some .int)) (by decide) rfl (Nat.le_of_ble_eq_true rfl) ?_
  intro pP eE sS mM aA bB tT cC ls A Q hc hK hsz hA hs hl hQ
  obtain ⟨hx, hb, hr, hts, hown, hlk, hnm, hml⟩ := hc
  have hl : lv_has ls 2 [(0, .ref (ad p)), (1, .int (nI sp))] := hl
  have hdd := h
  obtain ⟨hpn, hhw, f, he0, he1, hf1, hf2⟩ := hdd
  have hcap := dCap_ge hw
  have hcap2 := dCap_le hw
  refine lv_aload_n hx hb dX0_goalOf_0 rfl (lv_at hl 0 rfl) ?_
  refine lv_iload_n hx hb dX0_goalOf_1 rfl (lv_at hl 1 rfl) ?_
  refine lv_iconst (v := 0) hx hb dX0_goalOf_2 (by decide) ?_
  refine r_callViR (ci := 0) (As := [.int (nI sp), .int (0)]) hx hb hml hown hts hK hA hs (p) (by omega) he0 rfl rfl (c_X0_read l G h (sp := sp) (c1 := 0) (hsp) (by decide)) (cwV 2 hts (tbV w_ml_RX0_18 w_im_yX0_read w_se_yX0_read w_ini_RX0 w_cd_yX0_read) rfl rfl rfl (by decide +kernel) ⟨Nat.le_of_ble_eq_true rfl, Nat.le_of_ble_eq_true rfl⟩) rfl hl.1 rfl (Nat.le_of_ble_eq_true rfl) dX0_goalOf_3 ⟨Nat.zero_le _, Nat.zero_le _⟩ (fun H locs hs => ?_)
  refine r_iret (v := dv (4 * (sp) + (0))) (mc := 0) (ms := 0) hx hb hr hlk hs (Nat.le_refl _) (Nat.le_refl _) dX0_goalOf_6 hQ ?_
  exact roV.rf rfl

set_option maxHeartbeats 4000000 in
set_option maxRecDepth 100000 in
theorem c_X0_wayOf (l : Launch) (G : rG) {n p hw : Nat} {ad : Nat → Nat} {en : Nat → va_E} {dv : Nat → Int32} (h : DerAt G n p ad en hw dv) {sp : Nat} (hsp : sp ≤ 3000) : CI l G yX0_wayOf uX0_wayOf (1) (23) (0) (0) [.ref (ad p), .int (nI sp)] (n) (n) ad en (roV ad en (dv (4 * sp + 1))) := by
  intro sz
  refine rMet (Qc := qI G (n) (roV ad en (dv (4 * sp + 1)))) (cc := cX0_wayOf) (maxL := 2) (ret := (some .int)) (by decide) rfl (Nat.le_of_ble_eq_true rfl) ?_
  intro pP eE sS mM aA bB tT cC ls A Q hc hK hsz hA hs hl hQ
  obtain ⟨hx, hb, hr, hts, hown, hlk, hnm, hml⟩ := hc
  have hl : lv_has ls 2 [(0, .ref (ad p)), (1, .int (nI sp))] := hl
  have hdd := h
  obtain ⟨hpn, hhw, f, he0, he1, hf1, hf2⟩ := hdd
  have hcap := dCap_ge hw
  have hcap2 := dCap_le hw
  refine lv_aload_n hx hb dX0_wayOf_0 rfl (lv_at hl 0 rfl) ?_
  refine lv_iload_n hx hb dX0_wayOf_1 rfl (lv_at hl 1 rfl) ?_
  refine lv_iconst (v := 1) hx hb dX0_wayOf_2 (by decide) ?_
  refine r_callViR (ci := 0) (As := [.int (nI sp), .int (1)]) hx hb hml hown hts hK hA hs (p) (by omega) he0 rfl rfl (c_X0_read l G h (sp := sp) (c1 := 1) (hsp) (by decide)) (cwV 2 hts (tbV w_ml_RX0_18 w_im_yX0_read w_se_yX0_read w_ini_RX0 w_cd_yX0_read) rfl rfl rfl (by decide +kernel) ⟨Nat.le_of_ble_eq_true rfl, Nat.le_of_ble_eq_true rfl⟩) rfl hl.1 rfl (Nat.le_of_ble_eq_true rfl) dX0_wayOf_3 ⟨Nat.zero_le _, Nat.zero_le _⟩ (fun H locs hs => ?_)
  refine r_iret (v := dv (4 * (sp) + (1))) (mc := 0) (ms := 0) hx hb hr hlk hs (Nat.le_refl _) (Nat.le_refl _) dX0_wayOf_6 hQ ?_
  exact roV.rf rfl

set_option maxHeartbeats 4000000 in
set_option maxRecDepth 100000 in
theorem c_X0_premiseOf (l : Launch) (G : rG) {n p hw : Nat} {ad : Nat → Nat} {en : Nat → va_E} {dv : Nat → Int32} (h : DerAt G n p ad en hw dv) {sp : Nat} (hsp : sp ≤ 3000) {k : Nat} (hk : k < 3) : CI l G yX0_premiseOf uX0_premiseOf (1) (23) (0) (0) [.ref (ad p), .int (nI sp), .int (nI k)] (n) (n) ad en (roV ad en (dv (4 * sp + (1 + k)))) := by
  intro sz
  refine rMet (Qc := qI G (n) (roV ad en (dv (4 * sp + (1 + k))))) (cc := cX0_premiseOf) (maxL := 3) (ret := (some .int)) (by decide) rfl (Nat.le_of_ble_eq_true rfl) ?_
  intro pP eE sS mM aA bB tT cC ls A Q hc hK hsz hA hs hl hQ
  obtain ⟨hx, hb, hr, hts, hown, hlk, hnm, hml⟩ := hc
  have hl : lv_has ls 3 [(0, .ref (ad p)), (1, .int (nI sp)), (2, .int (nI k))] := hl
  have hdd := h
  obtain ⟨hpn, hhw, f, he0, he1, hf1, hf2⟩ := hdd
  have hcap := dCap_ge hw
  have hcap2 := dCap_le hw
  refine lv_aload_n hx hb dX0_premiseOf_0 rfl (lv_at hl 0 rfl) ?_
  refine lv_iload_n hx hb dX0_premiseOf_1 rfl (lv_at hl 1 rfl) ?_
  refine lv_iconst (v := 1) hx hb dX0_premiseOf_2 (by decide) ?_
  refine lv_iload_n hx hb dX0_premiseOf_3 rfl (lv_at hl 2 rfl) ?_
  refine lv_iadd hx hb dX0_premiseOf_4 ?_
  refine r_topi (y := nI (1 + k)) (by simp only [ l0, l1, l2, l3, l4, l5, l6, l10, l600, pk_mul, nI_add]; first | done | exact congrArg nI (by omega)) ?_
  refine r_callViR (ci := 0) (As := [.int (nI sp), .int (nI (1 + k))]) hx hb hml hown hts hK hA hs (p) (by omega) he0 rfl rfl (c_X0_read l G h (sp := sp) (c1 := 1 + k) (hsp) (by omega)) (cwV 2 hts (tbV w_ml_RX0_18 w_im_yX0_read w_se_yX0_read w_ini_RX0 w_cd_yX0_read) rfl rfl rfl (by decide +kernel) ⟨Nat.le_of_ble_eq_true rfl, Nat.le_of_ble_eq_true rfl⟩) rfl hl.1 rfl (Nat.le_of_ble_eq_true rfl) dX0_premiseOf_5 ⟨Nat.zero_le _, Nat.zero_le _⟩ (fun H locs hs => ?_)
  refine r_iret (v := dv (4 * (sp) + (1 + k))) (mc := 0) (ms := 0) hx hb hr hlk hs (Nat.le_refl _) (Nat.le_refl _) dX0_premiseOf_8 hQ ?_
  exact roV.rf rfl

set_option maxHeartbeats 4000000 in
set_option maxRecDepth 100000 in
theorem c_X0_write (l : Launch) (G : rG) {n p hw : Nat} {ad : Nat → Nat} {en : Nat → va_E} {dv : Nat → Int32} (h : DerAt G n p ad en hw dv) {sp c1 : Nat} (hsp : sp ≤ 3000) (hc1 : c1 < 4) (hw1 : sp ≤ hw ∨ (sp = hw + 1 ∧ c1 = 0)) (v : Int32) : CV l G yX0_write uX0_write (2) (82) (dMC hw sp) (dMS hw sp) [.ref (ad p), .int (nI sp), .int (nI c1), .int (v)] (n) (n) ad en (fun ad1 en1 => DerAt G n p ad1 en1 (max hw sp) (upd dv (4 * sp + c1) v) ∧ Fr n (fun k => p ≤ k ∧ k ≤ p + 1) (fun k => k = p + 1) ad en ad1 en1) := by
  intro sz
  refine rMet (Qc := qV G (n) (fun ad1 en1 => DerAt G n p ad1 en1 (max hw sp) (upd dv (4 * sp + c1) v) ∧ Fr n (fun k => p ≤ k ∧ k ≤ p + 1) (fun k => k = p + 1) ad en ad1 en1)) (cc := cX0_write) (maxL := 5) (ret := none) (by decide) rfl (Nat.le_of_ble_eq_true rfl) ?_
  intro pP eE sS mM aA bB tT cC ls A Q hc hK hsz hA hs hl hQ
  obtain ⟨hx, hb, hr, hts, hown, hlk, hnm, hml⟩ := hc
  have hl : lv_has ls 5 [(0, .ref (ad p)), (1, .int (nI sp)), (2, .int (nI c1)), (3, .int (v))] := hl
  have hdd := h
  obtain ⟨hpn, hhw, f, he0, he1, hf1, hf2⟩ := hdd
  have hcap := dCap_ge hw
  have hcap2 := dCap_le hw
  have hcap3 := dCap_ge (max hw sp)
  have hcap4 := dCap_le (max hw sp)
  refine lv_iload_n hx hb dX0_write_0 rfl (lv_at hl 1 rfl) ?_
  refine lv_if_lt (tgt := 20) hx hb dX0_write_1 (by decide) (fun c1 => absurd c1 (nI_pos (by omega))) (fun _ => ?_)
  refine lv_iload_n hx hb dX0_write_4 rfl (lv_at hl 1 rfl) ?_
  refine lv_sipush (v := 3000) hx hb dX0_write_5 (by decide) ?_
  refine lv_icmp_gt (tgt := 20) hx hb dX0_write_8 (by decide) (fun c8 => absurd c8 (nI_nlt hsp (by decide))) (fun _ => ?_)
  refine lv_iload_n hx hb dX0_write_11 rfl (lv_at hl 2 rfl) ?_
  refine lv_if_lt (tgt := 20) hx hb dX0_write_12 (by decide) (fun c12 => absurd c12 (nI_pos (by omega))) (fun _ => ?_)
  refine lv_iload_n hx hb dX0_write_15 rfl (lv_at hl 2 rfl) ?_
  refine lv_iconst (v := 4) hx hb dX0_write_16 (by decide) ?_
  refine lv_icmp_lt (tgt := 21) hx hb dX0_write_17 (by decide) (fun _ => ?_) (fun c17 => absurd (nI_lt hc1 (by decide)) c17)
  refine lv_iload_n hx hb dX0_write_21 rfl (lv_at hl 1 rfl) ?_
  refine lv_iconst (v := 4) hx hb dX0_write_22 (by decide) ?_
  refine lv_imul hx hb dX0_write_23 ?_
  refine lv_iload_n hx hb dX0_write_24 rfl (lv_at hl 2 rfl) ?_
  refine lv_iadd hx hb dX0_write_25 ?_
  refine r_topi (y := nI (4 * sp + c1)) (by simp only [ l0, l1, l2, l3, l4, l5, l6, l10, l600, pk_mul, nI_add]; first | done | exact congrArg nI (by omega)) ?_
  refine lv_istore (lv' := [(4, .int (nI (4 * sp + c1))), (0, .ref (ad p)), (1, .int (nI sp)), (2, .int (nI c1)), (3, .int (v))]) hx hb dX0_write_26 hl (by decide) rfl (fun ls hl => ?_)
  refine lv_iload hx hb dX0_write_28 (lv_at hl 0 rfl) ?_
  refine lv_aload_n hx hb dX0_write_30 rfl (lv_at hl 1 rfl) ?_
  refine r_get (ci := 0) (v := .ref (ad (p + 1))) (C := RX0) (T := TX0) (N := 1) hx hb hts inlX0 hown hK hs (p) (by omega) he0 rfl 0 (by decide) (hts _ w_fl_RX0_11) rfl dX0_write_31 ?_
  refine r_alen (v := nI (dCap hw)) hx hb hK hs (p + 1) 1 (by omega) he1 rfl rfl dX0_write_34 ?_
  refine lv_icmp_lt (tgt := 63) hx hb dX0_write_35 (by decide) (fun c35 => ?_) (fun c35 => ?_)
  · skip
    have hlt : 4 * sp + c1 < dCap hw := (nI_ltI (by omega) (by omega)).mp c35
    have hN2 : dCap (max hw sp) = dCap hw := dCap_same hw1 (by omega)
    obtain ⟨g0, hg0⟩ : ∃ z, z = f := ⟨_, rfl⟩
    have he_1 : en (p + 1) = aI G (dCap (max hw sp)) (g0) := by rw [hg0, hN2]; exact he1
    have ha1 : ∀ j, j < dCap (max hw sp) → g0 j = dv j := fun j hj => by rw [hg0]; exact hf1 j (by rw [← hN2]; exact hj)
    have hfr : Fr n (fun k => p ≤ k ∧ k ≤ p + 1) (fun k => k = p + 1) ad en ad en := ⟨fun _ _ _ => rfl, fun _ _ _ => rfl⟩
    refine lv_aload_n hx hb dX0_write_63 rfl (lv_at hl 1 rfl) ?_
    refine r_get (ci := 0) (v := .ref (ad (p + 1))) (C := RX0) (T := TX0) (N := 1) hx hb hts inlX0 hown hK hs (p) (by omega) he0 rfl 0 (by decide) (hts _ w_fl_RX0_11) rfl dX0_write_64 ?_
    refine lv_iload hx hb dX0_write_67 (lv_at hl 0 rfl) ?_
    refine lv_iload_n hx hb dX0_write_69 rfl (lv_at hl 4 rfl) ?_
    refine r_iastN (t := 4 * sp + c1) hx hb hK hs (p + 1) (by omega) he_1 (rfl) (by omega) (by omega) dX0_write_70 (fun H locs en_3 hen_3 hs => ?_)
    obtain ⟨g_4, eg_4⟩ : ∃ z, z = upd (g0) (4 * sp + c1) (v) := ⟨_, rfl⟩
    have he_5 : en_3 (p + 1) = aI G (dCap (max hw sp)) (g_4) := by rw [hen_3, eg_4]; exact va_up_self _ _ _
    have he_6 : en_3 (p) = .inr (0, [.ref (ad (p + 1))]) := by rw [hen_3]; exact (va_up_ne _ _ (by omega)).trans he0
    refine r_vret (mc := dMC hw sp) (ms := dMS hw sp) hx hb hr hlk hs (by first | omega | exact Nat.zero_le _) (by first | omega | exact Nat.zero_le _) dX0_write_71 hQ ?_
    exact ⟨⟨hpn, by omega, g_4, he_6, he_5, fun j hj => by rw [eg_4]; exact dupd ha1 j hj, fun j hj => dout hf2 (by omega) j (Nat.le_trans (dCap_mono (Nat.le_max_left hw sp)) hj) hj⟩, hfr.1, fun k hk hn => by first | (rw [hen_3, va_up_ne _ _ (by omega)]; exact hfr.2 k hk hn) | rw [hen_3, va_up_ne _ _ (by omega)]⟩
  · skip
    have hlt : dCap hw ≤ 4 * sp + c1 := Nat.le_of_not_lt (fun q => c35 ((nI_ltI (by omega) (by omega)).mpr q))
    obtain ⟨hws, hc0, hN1, hN2, hMC, hMS⟩ := dgrown hw1 hc1 hlt
    have hN3 : max (4 * sp + c1 + 4) (2 * dCap hw) = 2 * dCap hw := by omega
    refine lv_aload_n hx hb dX0_write_38 rfl (lv_at hl 1 rfl) ?_
    refine lv_aload_n hx hb dX0_write_39 rfl (lv_at hl 1 rfl) ?_
    refine r_get (ci := 0) (v := .ref (ad (p + 1))) (C := RX0) (T := TX0) (N := 1) hx hb hts inlX0 hown hK hs (p) (by omega) he0 rfl 0 (by decide) (hts _ w_fl_RX0_11) rfl dX0_write_40 ?_
    refine lv_iload hx hb dX0_write_43 (lv_at hl 0 rfl) ?_
    refine lv_iconst (v := 4) hx hb dX0_write_45 (by decide) ?_
    refine lv_iadd hx hb dX0_write_46 ?_
    refine r_topi (y := nI (4 * sp + c1 + 4)) (by simp only [ l0, l1, l2, l3, l4, l5, l6, l10, l600, pk_mul, nI_add]; first | done | exact congrArg nI (by omega)) ?_
    refine lv_iconst (v := 2) hx hb dX0_write_47 (by decide) ?_
    refine lv_aload_n hx hb dX0_write_48 rfl (lv_at hl 1 rfl) ?_
    refine r_get (ci := 0) (v := .ref (ad (p + 1))) (C := RX0) (T := TX0) (N := 1) hx hb hts inlX0 hown hK hs (p) (by omega) he0 rfl 0 (by decide) (hts _ w_fl_RX0_11) rfl dX0_write_49 ?_
    refine r_alen (v := nI (dCap hw)) hx hb hK hs (p + 1) 1 (by omega) he1 rfl rfl dX0_write_52 ?_
    refine lv_imul hx hb dX0_write_53 ?_
    refine r_topi (y := nI (2 * dCap hw)) (by simp only [ l0, l1, l2, l3, l4, l5, l6, l10, l600, pk_mul, nI_add]; first | done | exact congrArg nI (by omega)) ?_
    refine va_mmax hx hb (hml.trans hl.1.symm) hown (hts _ w_ml_RX0_26) (hts _ w_sta_Lib_Math_max_name) (hts _ w_ini_java_lang_Math) (hts _ w_cd_Lib_Math_max_name) (Nat.le_of_ble_eq_true rfl) (Nat.le_of_ble_eq_true rfl) (Nat.zero_le _) (Nat.zero_le _) dX0_write_54 ?_
    refine r_topi (y := nI (max (4 * sp + c1 + 4) (2 * dCap hw))) (max_nI (by omega) (by omega)) ?_
    refine r_callSr (As := [.ref (ad (p + 1)), .int (nI (max (4 * sp + c1 + 4) (2 * dCap hw)))]) hx hb hml hown hts hK hA hs (c_J7_copyOf_59c91 l G (by omega) he1 (by omega) (by omega)) (va_cwS 2 hts (tbS w_ml_RX0_31 w_sta_yJ7_copyOf_59c91 w_ini_RJ7 w_cd_yJ7_copyOf_59c91) rfl rfl rfl (by decide +kernel) ⟨Nat.le_of_ble_eq_true rfl, Nat.le_of_ble_eq_true rfl⟩) rfl hl.1 rfl (Nat.le_of_ble_eq_true rfl) dX0_write_57 ⟨by show 0 + 1 ≤ dMC hw sp; omega, by show 0 + _ ≤ dMS hw sp; omega⟩ (fun ra_10 ad_7 en_8 H locs hp_9 hs => ?_)
    obtain ⟨hra, kad_7, ken_8, hnew⟩ := hp_9
    subst hra
    have he_11 : en_8 (p) = .inr (0, [.ref (ad_7 (p + 1))]) := by rw [(kad_7 (p + 1) (by omega))]; exact (ken_8 (p) (by omega)).trans he0
    have he_12 : en_8 (p + 1) = aI G (dCap hw) (f) := (ken_8 (p + 1) (by omega)).trans he1
    have hl : lv_has ls 5 [(4, .int (nI (4 * sp + c1))), (0, .ref (ad_7 p)), (1, .int (nI sp)), (2, .int (nI c1)), (3, .int (v))] := by rw [(kad_7 (p) (by omega))]; exact hl
    rw [← (kad_7 (p) (by omega))]
    refine r_put (ci := 0) (v := .ref (ad_7 (n))) (ty := .array .int) (C := RX0) (T := TX0) (N := 1) (fs' := [.ref (ad_7 (n))]) hx hb hts inlX0 tyX0 tyX0_ok nmX0 hown hK hs (p) (by omega) he_11 rfl 0 (by decide) (hts _ w_fl_RX0_11) (Or.inl rfl) (by decide +kernel) rfl rfl (Nat.le_of_ble_eq_true rfl) rfl dX0_write_60 (fun H locs en_13 hen_13 hs => ?_)
    have he_14 : en_13 (p) = .inr (0, [.ref (ad_7 (n))]) := by rw [hen_13]; exact va_up_self _ _ _
    have he_15 : en_13 (p + 1) = aI G (dCap hw) (f) := by rw [hen_13]; exact (va_up_ne _ _ (by omega)).trans he_12
    have he_16 : en_13 (n) = aI G (max (4 * sp + c1 + 4) (2 * dCap hw)) (va_cpy f (fun _ => 0) 0 0 (dCap hw)) := by rw [hen_13]; exact (va_up_ne _ _ (by omega)).trans hnew
    obtain ⟨ad_17, had_17⟩ : ∃ z, z = va_up ad_7 (p + 1) (ad_7 (n)) := ⟨_, rfl⟩
    obtain ⟨en_18, hen_18⟩ : ∃ z, z = va_up en_13 (p + 1) (en_13 (n)) := ⟨_, rfl⟩
    have hs : rS G A sS.heap (n) ad_17 en_18 H locs := by rw [had_17, hen_18]; exact rS_swap (p + 1) (by omega) hs
    have kad_17 : ∀ k, k ≠ p + 1 → ad_17 k = ad_7 k := fun k hk => by rw [had_17]; exact va_up_ne _ _ hk
    have ken_18 : ∀ k, k ≠ p + 1 → en_18 k = en_13 k := fun k hk => by rw [hen_18]; exact va_up_ne _ _ hk
    have jad_17 : ad_17 (p + 1) = ad_7 (n) := by rw [had_17]; exact va_up_self _ _ _
    have he_19 : en_18 (p + 1) = aI G (max (4 * sp + c1 + 4) (2 * dCap hw)) (va_cpy f (fun _ => 0) 0 0 (dCap hw)) := by rw [hen_18]; exact (va_up_self _ _ _).trans he_16
    have he_20 : en_18 (p) = .inr (0, [.ref (ad_17 (p + 1))]) := by rw [jad_17]; exact (ken_18 _ (by omega)).trans he_14
    have hl : lv_has ls 5 [(4, .int (nI (4 * sp + c1))), (0, .ref (ad_17 p)), (1, .int (nI sp)), (2, .int (nI c1)), (3, .int (v))] := by rw [kad_17 (p) (by omega)]; exact hl
    obtain ⟨g0, hg0⟩ : ∃ z, z = va_cpy f (fun _ => 0) 0 0 (dCap hw) := ⟨_, rfl⟩
    have he_21 : en_18 (p + 1) = aI G (dCap (max hw sp)) (g0) := by rw [hg0, hN2, ← hN3]; exact he_19
    have ha1 : ∀ j, j < dCap (max hw sp) → g0 j = dv j := fun j hj => by rw [hg0]; exact dgrow hf1 hf2 j
    have hfr : Fr n (fun k => p ≤ k ∧ k ≤ p + 1) (fun k => k = p + 1) ad en ad_17 en_18 := ⟨fun k hk hn => by rw [kad_17 k hn, kad_7 k hk], fun k hk hn => by rw [ken_18 k (by omega), hen_13, va_up_ne _ _ (by omega), ken_8 k hk]⟩
    refine lv_aload_n hx hb dX0_write_63 rfl (lv_at hl 1 rfl) ?_
    refine r_get (ci := 0) (v := .ref (ad_17 (p + 1))) (C := RX0) (T := TX0) (N := 1) hx hb hts inlX0 hown hK hs (p) (by omega) he_20 rfl 0 (by decide) (hts _ w_fl_RX0_11) rfl dX0_write_64 ?_
    refine lv_iload hx hb dX0_write_67 (lv_at hl 0 rfl) ?_
    refine lv_iload_n hx hb dX0_write_69 rfl (lv_at hl 4 rfl) ?_
    refine r_iastN (t := 4 * sp + c1) hx hb hK hs (p + 1) (by omega) he_21 (rfl) (by omega) (by omega) dX0_write_70 (fun H locs en_23 hen_23 hs => ?_)
    obtain ⟨g_24, eg_24⟩ : ∃ z, z = upd (g0) (4 * sp + c1) (v) := ⟨_, rfl⟩
    have he_25 : en_23 (p + 1) = aI G (dCap (max hw sp)) (g_24) := by rw [hen_23, eg_24]; exact va_up_self _ _ _
    have he_26 : en_23 (p) = .inr (0, [.ref (ad_17 (p + 1))]) := by rw [hen_23]; exact (va_up_ne _ _ (by omega)).trans he_20
    refine r_vret (mc := dMC hw sp) (ms := dMS hw sp) hx hb hr hlk hs (by first | omega | exact Nat.zero_le _) (by first | omega | exact Nat.zero_le _) dX0_write_71 hQ ?_
    exact ⟨⟨hpn, by omega, g_24, he_26, he_25, fun j hj => by rw [eg_24]; exact dupd ha1 j hj, fun j hj => dout hf2 (by omega) j (Nat.le_trans (dCap_mono (Nat.le_max_left hw sp)) hj) hj⟩, hfr.1, fun k hk hn => by first | (rw [hen_23, va_up_ne _ _ (by omega)]; exact hfr.2 k hk hn) | rw [hen_23, va_up_ne _ _ (by omega)]⟩

set_option maxHeartbeats 4000000 in
set_option maxRecDepth 100000 in
theorem c_X0_begin (l : Launch) (G : rG) {n p hw : Nat} {ad : Nat → Nat} {en : Nat → va_E} {dv : Nat → Int32} (h : DerAt G n p ad en hw dv) {sp : Nat} (hsp : sp ≤ 3000) (hw1 : sp ≤ hw + 1) (v : Int32) : CV l G yX0_begin uX0_begin (3) (106) (dMC hw sp) (dMS hw sp) [.ref (ad p), .int (nI sp), .int (v)] (n) (n) ad en (fun ad1 en1 => DerAt G n p ad1 en1 (max hw sp) (upd dv (4 * sp + 0) v) ∧ Fr n (fun k => p ≤ k ∧ k ≤ p + 1) (fun k => k = p + 1) ad en ad1 en1) := by
  intro sz
  refine rMet (Qc := qV G (n) (fun ad1 en1 => DerAt G n p ad1 en1 (max hw sp) (upd dv (4 * sp + 0) v) ∧ Fr n (fun k => p ≤ k ∧ k ≤ p + 1) (fun k => k = p + 1) ad en ad1 en1)) (cc := cX0_begin) (maxL := 3) (ret := none) (by decide) rfl (Nat.le_of_ble_eq_true rfl) ?_
  intro pP eE sS mM aA bB tT cC ls A Q hc hK hsz hA hs hl hQ
  obtain ⟨hx, hb, hr, hts, hown, hlk, hnm, hml⟩ := hc
  have hl : lv_has ls 3 [(0, .ref (ad p)), (1, .int (nI sp)), (2, .int (v))] := hl
  have hdd := h
  obtain ⟨hpn, hhw, f, he0, he1, hf1, hf2⟩ := hdd
  have hcap := dCap_ge hw
  have hcap2 := dCap_le hw
  refine lv_aload_n hx hb dX0_begin_0 rfl (lv_at hl 0 rfl) ?_
  refine lv_iload_n hx hb dX0_begin_1 rfl (lv_at hl 1 rfl) ?_
  refine lv_iconst (v := 0) hx hb dX0_begin_2 (by decide) ?_
  refine lv_iload_n hx hb dX0_begin_3 rfl (lv_at hl 2 rfl) ?_
  refine r_callVv (ci := 0) (As := [.int (nI sp), .int (0), .int (v)]) hx hb hml hown hts hK hA hs (p) (by omega) he0 rfl rfl (c_X0_write l G h (sp := sp) (c1 := 0) hsp (by decide) (by omega) v) (cwV 3 hts (tbV w_ml_RX0_22 w_im_yX0_write w_se_yX0_write w_ini_RX0 w_cd_yX0_write) rfl rfl rfl (by decide +kernel) ⟨Nat.le_of_ble_eq_true rfl, Nat.le_of_ble_eq_true rfl⟩) rfl hl.1 rfl (Nat.le_of_ble_eq_true rfl) dX0_begin_4 ⟨by show 0 + dMC hw sp ≤ dMC hw sp; omega, by show 0 + dMS hw sp ≤ dMS hw sp; omega⟩ (fun ad_1 en_2 H locs hp_3 hs => ?_)
  obtain ⟨hd1, hfr1⟩ := hp_3
  refine r_vret (mc := dMC hw sp) (ms := dMS hw sp) hx hb hr hlk hs (by omega) (by omega) dX0_begin_7 hQ ?_
  exact ⟨hd1, hfr1⟩

set_option maxHeartbeats 4000000 in
set_option maxRecDepth 100000 in
theorem c_X0_setWay (l : Launch) (G : rG) {n p hw : Nat} {ad : Nat → Nat} {en : Nat → va_E} {dv : Nat → Int32} (h : DerAt G n p ad en hw dv) {sp : Nat} (hsp : sp ≤ hw) (v : Int32) : CV l G yX0_setWay uX0_setWay (3) (106) (0) (0) [.ref (ad p), .int (nI sp), .int (v)] (n) (n) ad en (fun ad1 en1 => DerAt G n p ad1 en1 (max hw sp) (upd dv (4 * sp + 1) v) ∧ Fr n (fun k => p ≤ k ∧ k ≤ p + 1) (fun k => k = p + 1) ad en ad1 en1) := by
  intro sz
  refine rMet (Qc := qV G (n) (fun ad1 en1 => DerAt G n p ad1 en1 (max hw sp) (upd dv (4 * sp + 1) v) ∧ Fr n (fun k => p ≤ k ∧ k ≤ p + 1) (fun k => k = p + 1) ad en ad1 en1)) (cc := cX0_setWay) (maxL := 3) (ret := none) (by decide) rfl (Nat.le_of_ble_eq_true rfl) ?_
  intro pP eE sS mM aA bB tT cC ls A Q hc hK hsz hA hs hl hQ
  obtain ⟨hx, hb, hr, hts, hown, hlk, hnm, hml⟩ := hc
  have hl : lv_has ls 3 [(0, .ref (ad p)), (1, .int (nI sp)), (2, .int (v))] := hl
  have hdd := h
  obtain ⟨hpn, hhw, f, he0, he1, hf1, hf2⟩ := hdd
  have hcap := dCap_ge hw
  have hcap2 := dCap_le hw
  have hm0 := dMC_0 hsp
  have hm1 := dMS_0 hsp
  refine lv_aload_n hx hb dX0_setWay_0 rfl (lv_at hl 0 rfl) ?_
  refine lv_iload_n hx hb dX0_setWay_1 rfl (lv_at hl 1 rfl) ?_
  refine lv_iconst (v := 1) hx hb dX0_setWay_2 (by decide) ?_
  refine lv_iload_n hx hb dX0_setWay_3 rfl (lv_at hl 2 rfl) ?_
  refine r_callVv (ci := 0) (As := [.int (nI sp), .int (1), .int (v)]) hx hb hml hown hts hK hA hs (p) (by omega) he0 rfl rfl (c_X0_write l G h (sp := sp) (c1 := 1) (by omega) (by decide) (Or.inl hsp) v) (cwV 3 hts (tbV w_ml_RX0_22 w_im_yX0_write w_se_yX0_write w_ini_RX0 w_cd_yX0_write) rfl rfl rfl (by decide +kernel) ⟨Nat.le_of_ble_eq_true rfl, Nat.le_of_ble_eq_true rfl⟩) rfl hl.1 rfl (Nat.le_of_ble_eq_true rfl) dX0_setWay_4 ⟨by show 0 + dMC hw sp ≤ 0; omega, by show 0 + dMS hw sp ≤ 0; omega⟩ (fun ad_1 en_2 H locs hp_3 hs => ?_)
  obtain ⟨hd1, hfr1⟩ := hp_3
  refine r_vret (mc := 0) (ms := 0) hx hb hr hlk hs (by omega) (by omega) dX0_setWay_7 hQ ?_
  exact ⟨hd1, hfr1⟩

set_option maxHeartbeats 4000000 in
set_option maxRecDepth 100000 in
theorem c_X0_setPremise (l : Launch) (G : rG) {n p hw : Nat} {ad : Nat → Nat} {en : Nat → va_E} {dv : Nat → Int32} (h : DerAt G n p ad en hw dv) {sp k : Nat} (hsp : sp ≤ hw) (hk : k < 3) (v : Int32) : CV l G yX0_setPremise uX0_setPremise (3) (106) (0) (0) [.ref (ad p), .int (nI sp), .int (nI k), .int (v)] (n) (n) ad en (fun ad1 en1 => DerAt G n p ad1 en1 (max hw sp) (upd dv (4 * sp + (1 + k)) v) ∧ Fr n (fun k => p ≤ k ∧ k ≤ p + 1) (fun k => k = p + 1) ad en ad1 en1) := by
  intro sz
  refine rMet (Qc := qV G (n) (fun ad1 en1 => DerAt G n p ad1 en1 (max hw sp) (upd dv (4 * sp + (1 + k)) v) ∧ Fr n (fun k => p ≤ k ∧ k ≤ p + 1) (fun k => k = p + 1) ad en ad1 en1)) (cc := cX0_setPremise) (maxL := 4) (ret := none) (by decide) rfl (Nat.le_of_ble_eq_true rfl) ?_
  intro pP eE sS mM aA bB tT cC ls A Q hc hK hsz hA hs hl hQ
  obtain ⟨hx, hb, hr, hts, hown, hlk, hnm, hml⟩ := hc
  have hl : lv_has ls 4 [(0, .ref (ad p)), (1, .int (nI sp)), (2, .int (nI k)), (3, .int (v))] := hl
  have hdd := h
  obtain ⟨hpn, hhw, f, he0, he1, hf1, hf2⟩ := hdd
  have hcap := dCap_ge hw
  have hcap2 := dCap_le hw
  have hm0 := dMC_0 hsp
  have hm1 := dMS_0 hsp
  refine lv_aload_n hx hb dX0_setPremise_0 rfl (lv_at hl 0 rfl) ?_
  refine lv_iload_n hx hb dX0_setPremise_1 rfl (lv_at hl 1 rfl) ?_
  refine lv_iconst (v := 1) hx hb dX0_setPremise_2 (by decide) ?_
  refine lv_iload_n hx hb dX0_setPremise_3 rfl (lv_at hl 2 rfl) ?_
  refine lv_iadd hx hb dX0_setPremise_4 ?_
  refine r_topi (y := nI (1 + k)) (by simp only [ l0, l1, l2, l3, l4, l5, l6, l10, l600, pk_mul, nI_add]; first | done | exact congrArg nI (by omega)) ?_
  refine lv_iload_n hx hb dX0_setPremise_5 rfl (lv_at hl 3 rfl) ?_
  refine r_callVv (ci := 0) (As := [.int (nI sp), .int (nI (1 + k)), .int (v)]) hx hb hml hown hts hK hA hs (p) (by omega) he0 rfl rfl (c_X0_write l G h (sp := sp) (c1 := 1 + k) (by omega) (by omega) (Or.inl hsp) v) (cwV 3 hts (tbV w_ml_RX0_22 w_im_yX0_write w_se_yX0_write w_ini_RX0 w_cd_yX0_write) rfl rfl rfl (by decide +kernel) ⟨Nat.le_of_ble_eq_true rfl, Nat.le_of_ble_eq_true rfl⟩) rfl hl.1 rfl (Nat.le_of_ble_eq_true rfl) dX0_setPremise_6 ⟨by show 0 + dMC hw sp ≤ 0; omega, by show 0 + dMS hw sp ≤ 0; omega⟩ (fun ad_1 en_2 H locs hp_3 hs => ?_)
  obtain ⟨hd1, hfr1⟩ := hp_3
  refine r_vret (mc := 0) (ms := 0) hx hb hr hlk hs (by omega) (by omega) dX0_setPremise_9 hQ ?_
  exact ⟨hd1, hfr1⟩

set_option maxHeartbeats 4000000 in
set_option maxRecDepth 100000 in
theorem c_X0_init (l : Launch) (G : rG) {p : Nat} {ad : Nat → Nat} {en : Nat → va_E} (h : en p = .inr (0, [.null])) : CV l G yX0_init uX0_init (1) (20) (1) (64) [.ref (ad p)] (p + 1) (p + 2) ad en (fun ad1 en1 => DerAt G (p + 2) p ad1 en1 0 (fun _ => 0) ∧ (∀ k, k < p + 1 → ad1 k = ad k) ∧ (∀ k, k < p → en1 k = en k)) := by
  intro sz
  refine rMet (Qc := qV G (p + 2) (fun ad1 en1 => DerAt G (p + 2) p ad1 en1 0 (fun _ => 0) ∧ (∀ k, k < p + 1 → ad1 k = ad k) ∧ (∀ k, k < p → en1 k = en k))) (cc := cX0_init) (maxL := 1) (ret := none) (by decide) rfl (Nat.le_of_ble_eq_true rfl) ?_
  intro pP eE sS mM aA bB tT cC ls A Q hc hK hsz hA hs hl hQ
  obtain ⟨hx, hb, hr, hts, hown, hlk, hnm, hml⟩ := hc
  have hl : lv_has ls 1 [(0, .ref (ad p))] := hl
  refine lv_aload_n hx hb dX0_init_0 rfl (lv_at hl 0 rfl) ?_
  refine W.objInit hx hb hown (hts _ w_ml_RX0_3) (hts _ w_im_objectInit) (hts _ w_cd_objectInit) rfl (by rw [hml]; exact hl.1) rfl dX0_init_1 (Nat.le_of_ble_eq_true rfl) (Nat.le_of_ble_eq_true rfl) ?_
  refine W.eq (g2 := F0 mM 4 ls []) rfl ?_
  refine lv_aload_n hx hb dX0_init_4 rfl (lv_at hl 0 rfl) ?_
  refine lv_bipush (v := 64) hx hb dX0_init_5 (by decide) ?_
  refine r_topi (y := nI (64)) rfl ?_
  refine r_newa (atype := .int) (ty := .int) (a0 := (64, .inl (fun _ => 0))) (N' := 64) hx hb (hts _ w_ac_int) rfl hK hs hA 1 rfl (fun _ h9 => h9) (fun _ => rfl) (nI_pos (by decide)) (nI_clamp (by decide)) (show (64) * 4 ≤ 536870912 by omega) (Nat.le_of_ble_eq_true rfl) (Nat.le_of_ble_eq_true rfl) dX0_init_7 (fun qq H ad_1 en_2 had_1 hen_2 hq hs => ?_)
  subst hq
  have kad_1 : ∀ k, k < p + 1 → ad_1 k = ad k := fun k hk => by rw [had_1]; exact va_up_ne _ _ (by omega)
  have ken_2 : ∀ k, k < p + 1 → en_2 k = en k := fun k hk => by rw [hen_2]; exact va_up_ne _ _ (by omega)
  have he_3 : en_2 (p + 1) = aI G (64) (fun _ => 0) := by rw [hen_2]; exact va_up_self _ _ _
  have he_4 : en_2 (p) = .inr (0, [.null]) := (ken_2 (p) (by omega)).trans h
  have hl : lv_has ls 1 [(0, .ref (ad_1 p))] := by rw [(kad_1 (p) (by omega))]; exact hl
  rw [← (kad_1 (p) (by omega))]
  refine r_put (ci := 0) (v := .ref (ad_1 (p + 1))) (ty := .array .int) (C := RX0) (T := TX0) (N := 1) (fs' := [.ref (ad_1 (p + 1))]) hx hb hts inlX0 tyX0 tyX0_ok nmX0 hown hK hs (p) (by omega) he_4 rfl 0 (by decide) (hts _ w_fl_RX0_11) (Or.inl rfl) (by decide +kernel) rfl rfl (Nat.le_of_ble_eq_true rfl) rfl dX0_init_9 (fun H locs en_5 hen_5 hs => ?_)
  have he_6 : en_5 (p) = .inr (0, [.ref (ad_1 (p + 1))]) := by rw [hen_5]; exact va_up_self _ _ _
  have he_7 : en_5 (p + 1) = aI G (64) (fun _ => 0) := by rw [hen_5]; exact (va_up_ne _ _ (by omega)).trans he_3
  refine r_vret (mc := 1) (ms := 64) hx hb hr hlk hs (Nat.le_of_ble_eq_true rfl) (Nat.le_of_ble_eq_true rfl) dX0_init_12 hQ ?_
  exact ⟨⟨Nat.le_refl _, Nat.zero_le _, (fun _ => 0), he_6, he_7, fun _ _ => rfl, fun _ _ => rfl⟩, fun k hk => by rw [kad_1 k (by omega)], fun k hk => by rw [hen_5, va_up_ne _ _ (by omega), ken_2 k (by omega)]⟩

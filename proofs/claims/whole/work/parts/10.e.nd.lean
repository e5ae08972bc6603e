def wellB (ss ns : List Row) (k : Nat) : Bool := wT ss ns k k
def restB (ss ns : List Row) (k x : Nat) : Bool := rT ss ns k k x
theorem wT_ge (ss ns : List Row) {a k : Nat} (h : k ≤ a) : wT ss ns a k = wellB ss ns k := by
  induction h with
  | refl => rfl
  | step hh ih => rw [wT_s, if_neg (by have := Nat.le.dest hh; omega)]; exact ih
theorem rT_ge (ss ns : List Row) {a k : Nat} (h : k ≤ a) (x : Nat) : rT ss ns a k x = restB ss ns k x := by
  induction h with
  | refl => rfl
  | step hh ih => rw [rT_s, if_neg (by have := Nat.le.dest hh; omega)]; exact ih
theorem psU_congr {W W2 : Nat → Bool} {ns : List Row} {k : Nat} : ∀ i, (∀ j, j < i → W (rowCol (kAt ns k) (2 + j)) = W2 (rowCol (kAt ns k) (2 + j))) → psU W ns k i = psU W2 ns k i
  | 0, _ => rfl
  | i + 1, h => by rw [psU, psU, psU_congr i (fun j hj => h j (by omega)), h i (by omega)]
theorem wellB_eq {ss ns : List Row} (h : nsOK ss ns) {k : Nat} (hk : 1 ≤ k ∧ k ≤ ns.length) : wellB ss ns k = (psU (wellB ss ns) ns k (nP ns k) && fitN ss ns k) := by
  obtain ⟨m, rfl⟩ : ∃ m, k = m + 1 := ⟨k - 1, by omega⟩
  show wT ss ns (m + 1) (m + 1) = _
  rw [wT_s, if_pos rfl, psU_congr (W := wT ss ns m) (W2 := wellB ss ns) _ (fun j hj => wT_ge ss ns (by have := (partN h hk hj).2.2; omega))]
theorem restB_eq {ss ns : List Row} (h : nsOK ss ns) {k : Nat} (hk : 1 ≤ k ∧ k ≤ ns.length) (x : Nat) : restB ss ns k x = rE ss ns (restB ss ns) k x := by
  obtain ⟨m, rfl⟩ : ∃ m, k = m + 1 := ⟨k - 1, by omega⟩
  obtain ⟨-, -, hA, hB, hC⟩ := part_lt h hk
  show rT ss ns (m + 1) (m + 1) x = _
  rw [rT_s, if_pos rfl]
  unfold rE
  rw [rT_ge ss ns (by omega : nA ns (m + 1) ≤ m), rT_ge ss ns (by omega : nB ns (m + 1) ≤ m), rT_ge ss ns (by omega : nC ns (m + 1) ≤ m)]
def NdOK (ss ns : List Row) (jd RR SL : Nat) (S : Nat → Nat → Bool) (sf : Nat → Int32) : Prop :=
  nsOK ss ns ∧ jd ≤ ns.length ∧ jd < RR ∧ jd < SL ∧ (∀ k, 1 ≤ k → k ≤ jd → sf k = b2i (wellB ss ns k)) ∧ (∀ k, k < RR → ∀ x, S k x = (decide (1 ≤ k ∧ k ≤ jd) && restB ss ns k x))
def sndL (SL m : Nat) : Nat := if m < SL then SL else max (m + 1) (2 * SL)
def sndC (SL m : Nat) : Nat := if m < SL then 0 else 1
def sndS (SL m : Nat) : Nat := if m < SL then 0 else max (m + 1) (2 * SL)
def jMC (jd RR SL m : Nat) : Nat := if m ≤ jd then 0 else rchC RR m + sndC SL m
def jMS (jd RR SL m : Nat) : Nat := if m ≤ jd then 0 else rchS RR m + sndS SL m
def jRR (jd RR m : Nat) : Nat := if m ≤ jd then RR else reachR RR m
def jSL (jd SL m : Nat) : Nat := if m ≤ jd then SL else sndL SL m
theorem reach_gt (RR m : Nat) : m < reachR RR m := by
  unfold reachR
  split <;> omega
theorem snd_gt (SL m : Nat) : m < sndL SL m := by
  unfold sndL
  split <;> omega
theorem lt_of_nI2 {a b : Nat} (h : ¬ nI b ≤ nI a) (hh : a < 2 ^ 31 ∧ b < 2 ^ 31) : a < b := lt_of_nI h hh
theorem cut_init {ss ns : List Row} {S : Nat → Nat → Bool} {jd RR R2 : Nat} (h : ∀ k, k < RR → ∀ x, S k x = (decide (1 ≤ k ∧ k ≤ jd) && restB ss ns k x)) (hj : jd < RR) : ∀ k, k < R2 → ∀ x, sCut S RR k x = (decide (1 ≤ k ∧ k < jd + 1) && restB ss ns k x) := by
  intro k _ x
  unfold sCut
  by_cases e : k < RR
  · rw [if_pos e, h k e, show decide (1 ≤ k ∧ k ≤ jd) = decide (1 ≤ k ∧ k < jd + 1) from decide_eq_decide.mpr (by omega)]
  · rw [if_neg e, df (by omega), Bool.false_and]
theorem rE_congr {ss ns : List Row} {R R2 : Nat → Nat → Bool} {k x : Nat} (hA : R (nA ns k) x = R2 (nA ns k) x) (hB : R (nB ns k) x = R2 (nB ns k) x) (hC : R (nC ns k) x = R2 (nC ns k) x) : rE ss ns R k x = rE ss ns R2 k x := by
  unfold rE
  rw [hA, hB, hC]
theorem rest_step {ss ns : List Row} {S : Nat → Nat → Bool} {j R2 : Nat} (hns : nsOK ss ns) (hj : 1 ≤ j ∧ j ≤ ns.length) (h : ∀ k, k < R2 → ∀ x, S k x = (decide (1 ≤ k ∧ k < j) && restB ss ns k x)) : ∀ k, k < R2 → ∀ x, (fun r x => if r = j then rE ss ns S j x else S r x) k x = (decide (1 ≤ k ∧ k < j + 1) && restB ss ns k x) := by
  intro k hk x
  obtain ⟨-, -, hA, hB, hC⟩ := part_lt hns hj
  show (if k = j then rE ss ns S j x else S k x) = _
  by_cases e : k = j
  · subst e
    have z : ∀ i, i < k → S i x = restB ss ns i x := by
      intro i hi
      rw [h i (by omega)]
      by_cases i0 : i = 0
      · rw [i0]; rfl
      · rw [dt (by omega), Bool.true_and]
    rw [if_pos rfl, dt (by omega), Bool.true_and, restB_eq hns hj]
    exact rE_congr (z _ hA) (z _ hB) (z _ hC)
  · rw [if_neg e, h k hk, show decide (1 ≤ k ∧ k < j) = decide (1 ≤ k ∧ k < j + 1) from decide_eq_decide.mpr (by omega)]
theorem well_step {ss ns : List Row} {sf g : Nat → Int32} {j : Nat} {v : Int32} (hns : nsOK ss ns) (hj : 1 ≤ j ∧ j ≤ ns.length) (h : ∀ k, 1 ≤ k → k < j → sf k = b2i (wellB ss ns k)) (hg : g = upd sf j v) (hv : v = b2i (psU (wellB ss ns) ns j (nP ns j) && fitN ss ns j)) : ∀ k, 1 ≤ k → k < j + 1 → g k = b2i (wellB ss ns k) := by
  intro k h1 h2
  rw [hg]
  by_cases e : k = j
  · rw [e, pk_us, hv, wellB_eq hns hj]
  · rw [pk_un e]; exact h k h1 (by omega)
theorem NdAt_upd17 {G : rG} {n : Nat} {ad : Nat → Nat} {en en1 : Nat → va_E} {ns : List Row} {jd RR SL : Nat} {S : Nat → Nat → Bool} {sf g : Nat → Int32} {e : va_E} (h : NdAt G n ad en ns jd RR SL S sf) (he : en1 = va_up en 17 e) (h17 : en1 17 = aI G SL g) : NdAt G n ad en1 ns jd RR SL S g := by
  obtain ⟨hn, he11, hk, hrs, he17, hSL⟩ := h
  have ke : ∀ k, k ≠ 17 → en1 k = en k := fun k a => by rw [he]; exact va_up_ne _ _ a
  exact ⟨hn, (ke 11 (by decide)).trans he11, KeptAt_keep hk (fun _ _ _ => rfl) (fun k a b => ke k (by omega)), SetsAt_keep hrs (fun _ _ _ => rfl) (fun k a b => ke k (by omega)), h17, hSL⟩
theorem NdAt_jd {G : rG} {n : Nat} {ad : Nat → Nat} {en en1 : Nat → va_E} {ns : List Row} {jd j2 RR SL : Nat} {S : Nat → Nat → Bool} {sf : Nat → Int32} {e : va_E} (h : NdAt G n ad en ns jd RR SL S sf) (he : en1 = va_up en 11 e) (h11 : en1 11 = .inr (2, [.ref (ad 3), .ref (ad 12), .ref (ad 15), .ref (ad 17), .int (nI j2)])) : NdAt G n ad en1 ns j2 RR SL S sf := by
  obtain ⟨hn, he11, hk, hrs, he17, hSL⟩ := h
  have ke : ∀ k, k ≠ 11 → en1 k = en k := fun k a => by rw [he]; exact va_up_ne _ _ a
  exact ⟨hn, h11, KeptAt_keep hk (fun _ _ _ => rfl) (fun k a b => ke k (by omega)), SetsAt_keep hrs (fun _ _ _ => rfl) (fun k a b => ke k (by omega)), (ke 17 (by decide)).trans he17, hSL⟩
set_option maxHeartbeats 4000000 in
set_option maxRecDepth 100000 in
theorem c_X2_judgeUpTo (l : Launch) (G : rG) {n : Nat} {ad : Nat → Nat} {en : Nat → va_E} {ss ns : List Row} {jd RR SL : Nat} {S : Nat → Nat → Bool} {sf : Nat → Int32} (h : StAt G n ad en ss) (hd : NdAt G n ad en ns jd RR SL S sf) (hO : NdOK ss ns jd RR SL S sf) {mm : Nat} (hm : mm ≤ ns.length) : CV l G yX2_judgeUpTo uX2_judgeUpTo (4) (104) (jMC jd RR SL mm) (jMS jd RR SL mm) [.ref (ad 11), .int (nI mm)] (n) (n) ad en (fun ad1 en1 => (∃ S1 sf1, NdAt G n ad1 en1 ns (max jd mm) (jRR jd RR mm) (jSL jd SL mm) S1 sf1 ∧ NdOK ss ns (max jd mm) (jRR jd RR mm) (jSL jd SL mm) S1 sf1) ∧ Fr n (fun k => 11 ≤ k ∧ k ≤ 17) (fun k => k = 16 ∨ k = 17) ad en ad1 en1) := by
  intro sz
  refine rMet (Qc := qV G (n) (fun ad1 en1 => (∃ S1 sf1, NdAt G n ad1 en1 ns (max jd mm) (jRR jd RR mm) (jSL jd SL mm) S1 sf1 ∧ NdOK ss ns (max jd mm) (jRR jd RR mm) (jSL jd SL mm) S1 sf1) ∧ Fr n (fun k => 11 ≤ k ∧ k ≤ 17) (fun k => k = 16 ∨ k = 17) ad en ad1 en1)) (cc := cX2_judgeUpTo) (maxL := 3) (ret := none) (by decide) rfl (Nat.le_of_ble_eq_true rfl) ?_
  intro pP eE sS mM aA bB tT cC ls A Q hc hK hsz hA hs hl hQ
  obtain ⟨hx, hb, hr, hts, hown, hlk, hnm, hml⟩ := hc
  have hl : lv_has ls 3 [(0, .ref (ad 11)), (1, .int (nI mm))] := hl
  have hnd := hd
  obtain ⟨hn, he11, hk, hrs, he17, hSL⟩ := hnd
  obtain ⟨fs12, he12⟩ := KeptAt_recv hk
  obtain ⟨fs15, he15⟩ := SetsAt_recv hrs
  have hle8 : ns.length ≤ 8000 := hk.2.1
  have hlen : ns.length < 2 ^ 31 := by omega
  obtain ⟨fst, hest⟩ : ∃ fs, en 3 = .inr (6, fs) := ⟨_, h.2.1⟩
  have hok := h.2.2.2.2.2
  have hle6 := hok.1
  obtain ⟨hns, hjl, hjR, hjS, hsw, hsr⟩ := hO
  have hG := nG_le hns
  refine lv_iload_n hx hb dX2_judgeUpTo_0 rfl (lv_at hl 1 rfl) ?_
  refine lv_aload_n hx hb dX2_judgeUpTo_1 rfl (lv_at hl 0 rfl) ?_
  refine r_get (ci := 2) (v := .int (nI jd)) (C := RX2) (T := TX2) (N := 5) hx hb hts inlX2 hown hK hs (11) (by omega) he11 rfl 4 (by decide) (hts _ w_fl_RX2_31) rfl dX2_judgeUpTo_2 ?_
  refine lv_icmp_le (tgt := 19) hx hb dX2_judgeUpTo_5 (by decide) (fun c5 => ?_) (fun c5 => ?_)
  · skip
    have hjm : mm ≤ jd := (nI_leI (by omega) (by omega)).mp c5
    refine r_vret (mc := jMC jd RR SL mm) (ms := jMS jd RR SL mm) hx hb hr hlk hs (Nat.zero_le _) (Nat.zero_le _) dX2_judgeUpTo_19 hQ ?_
    exact ⟨⟨S, sf, by rw [Nat.max_eq_left hjm, jRR, if_pos hjm, jSL, if_pos hjm]; exact ⟨hd, hns, hjl, hjR, hjS, hsw, hsr⟩⟩, fun _ _ _ => rfl, fun _ _ _ => rfl⟩
  · skip
    have hjm : jd < mm := lt_of_nI2 c5 (by omega)
    have hMC : jMC jd RR SL mm = rchC RR mm + sndC SL mm := if_neg (by omega)
    have hMS : jMS jd RR SL mm = rchS RR mm + sndS SL mm := if_neg (by omega)
    refine lv_iload_n hx hb dX2_judgeUpTo_8 rfl (lv_at hl 1 rfl) ?_
    refine lv_aload_n hx hb dX2_judgeUpTo_9 rfl (lv_at hl 0 rfl) ?_
    refine r_get (ci := 2) (v := .ref (ad 12)) (C := RX2) (T := TX2) (N := 5) hx hb hts inlX2 hown hK hs (11) (by omega) he11 rfl 1 (by decide) (hts _ w_fl_RX2_14) rfl dX2_judgeUpTo_10 ?_
    refine r_callViR (ci := 1) (As := []) hx hb hml hown hts hK hA hs (12) (by omega) he12 rfl rfl (c_X1_size l G hk) (cwV 0 hts (tbV w_ml_RX2_42 w_im_yX1_size w_se_yX1_size w_ini_RX1 w_cd_yX1_size) rfl rfl rfl (by decide +kernel) ⟨Nat.le_of_ble_eq_true rfl, Nat.le_of_ble_eq_true rfl⟩) rfl hl.1 rfl (Nat.le_of_ble_eq_true rfl) dX2_judgeUpTo_13 ⟨Nat.zero_le _, Nat.zero_le _⟩ (fun H locs hs => ?_)
    refine lv_icmp_le (tgt := 20) hx hb dX2_judgeUpTo_16 (by decide) (fun _ => ?_) (fun c16 => absurd (nI_le hm (by omega)) c16)
    refine lv_aload_n hx hb dX2_judgeUpTo_20 rfl (lv_at hl 0 rfl) ?_
    refine r_get (ci := 2) (v := .ref (ad 15)) (C := RX2) (T := TX2) (N := 5) hx hb hts inlX2 hown hK hs (11) (by omega) he11 rfl 2 (by decide) (hts _ w_fl_RX2_23) rfl dX2_judgeUpTo_21 ?_
    refine lv_iload_n hx hb dX2_judgeUpTo_24 rfl (lv_at hl 1 rfl) ?_
    refine r_callVv (ci := 5) (As := [.int (nI mm)]) hx hb hml hown hts hK hA hs (15) (by omega) he15 rfl rfl (c_X5_reach l G hrs (row := mm) (by omega)) (cwV 1 hts (tbV w_ml_RX2_68 w_im_yX5_reach w_se_yX5_reach w_ini_RX5 w_cd_yX5_reach) rfl rfl rfl (by decide +kernel) ⟨Nat.le_of_ble_eq_true rfl, Nat.le_of_ble_eq_true rfl⟩) rfl hl.1 rfl (Nat.le_of_ble_eq_true rfl) dX2_judgeUpTo_25 ⟨by show _ ≤ jMC jd RR SL mm; omega, by show _ ≤ jMS jd RR SL mm; omega⟩ (fun ad_1 en_2 H locs hp_3 hs => ?_)
    obtain ⟨hr1, hf1⟩ := hp_3
    have ka1 : ∀ k, k < n → k ≠ 16 → ad_1 k = ad k := fun k a b => hf1.1 k a b
    have ke1 : ∀ k, k < n → ¬ (15 ≤ k ∧ k ≤ 16) → en_2 k = en k := fun k a b => hf1.2 k a b
    have he11a : en_2 11 = .inr (2, [.ref (ad_1 3), .ref (ad_1 12), .ref (ad_1 15), .ref (ad_1 17), .int (nI jd)]) := by rw [ka1 3 (by omega) (by decide), ka1 12 (by omega) (by decide), ka1 15 (by omega) (by decide), ka1 17 (by omega) (by decide)]; exact (ke1 11 (by omega) (by omega)).trans he11
    have he17a : en_2 17 = aI G SL sf := (ke1 17 (by omega) (by omega)).trans he17
    have hl : lv_has ls 3 [(0, .ref (ad_1 11)), (1, .int (nI mm))] := by rw [ka1 11 (by omega) (by decide)]; exact hl
    refine lv_iload_n hx hb dX2_judgeUpTo_28 rfl (lv_at hl 1 rfl) ?_
    refine lv_aload_n hx hb dX2_judgeUpTo_29 rfl (lv_at hl 0 rfl) ?_
    refine r_get (ci := 2) (v := .ref (ad_1 17)) (C := RX2) (T := TX2) (N := 5) hx hb hts inlX2 hown hK hs (11) (by omega) he11a rfl 3 (by decide) (hts _ w_fl_RX2_27) rfl dX2_judgeUpTo_30 ?_
    refine r_alen (v := nI (SL)) hx hb hK hs (17) 1 (by omega) he17a rfl rfl dX2_judgeUpTo_33 ?_
    refine lv_icmp_lt (tgt := 61) hx hb dX2_judgeUpTo_34 (by decide) (fun c34 => ?_) (fun c34 => ?_)
    · skip
      have hsl : mm < SL := (nI_ltI (by omega) (by omega)).mp c34
      have hSC : sndC SL mm = 0 := if_pos hsl
      have hSS : sndS SL mm = 0 := if_pos hsl
      have hSN : sndL SL mm = SL := if_pos hsl
      have he17b : en_2 17 = aI G (sndL SL mm) sf := by rw [hSN]; exact he17a
      have ka2 : ∀ k, k < n → k ≠ 16 → k ≠ 17 → ad_1 k = ad k := fun k a b c => ka1 k a b
      have ke2 : ∀ k, k < n → k ≠ 11 → k ≠ 17 → en_2 k = en_2 k := fun k a b c => rfl
      have kb2 : ∀ k, k < n → k ≠ 17 → ad_1 k = ad_1 k := fun k a c => rfl
      have hsf2 : ∀ k, 1 ≤ k → k ≤ jd → sf k = b2i (wellB ss ns k) := hsw
      have hd2 : NdAt G n ad_1 en_2 ns jd (reachR RR mm) (sndL SL mm) (sCut S RR) sf := ⟨hn, he11a, KeptAt_keep hk (fun k a b => ka2 k (by omega) (by omega) (by omega)) (fun k a b => by rw [ke2 k (by omega) (by omega) (by omega), ke1 k (by omega) (by omega)]), SetsAt_keep hr1 (fun k a b => kb2 k (by omega) (by omega)) (fun k a b => ke2 k (by omega) (by omega) (by omega)), he17b, by omega⟩
      have ke3 : ∀ k, k < n → ¬ (11 ≤ k ∧ k ≤ 17) → en_2 k = en k := fun k a b => by rw [ke2 k a (by omega) (by omega), ke1 k a (by omega)]
      refine lv_aload_n hx hb dX2_judgeUpTo_61 rfl (lv_at hl 0 rfl) ?_
      refine r_get (ci := 2) (v := .int (nI jd)) (C := RX2) (T := TX2) (N := 5) hx hb hts inlX2 hown hK hs (11) (by omega) he11a rfl 4 (by decide) (hts _ w_fl_RX2_31) rfl dX2_judgeUpTo_62 ?_
      refine lv_iconst (v := 1) hx hb dX2_judgeUpTo_65 (by decide) ?_
      refine lv_iadd hx hb dX2_judgeUpTo_66 ?_
      refine r_topi (y := nI (jd + 1)) (by simp only [ l0, l1, l2, l3, l4, l5, l6, l10, l600, pk_mul, nI_add]; first | done | exact congrArg nI (by omega)) ?_
      refine lv_istore_n (lv' := [(2, .int (nI (jd + 1))), (0, .ref (ad_1 11)), (1, .int (nI mm))]) hx hb dX2_judgeUpTo_67 rfl hl (by decide) rfl (fun ls hl => ?_)
      suffices LOOP68 : ∀ (fu68 : Nat) (j : Nat) (ad2 : Nat → Nat) (en2 : Nat → va_E) (S2 : Nat → Nat → Bool) (sf2 : Nat → Int32) (H : Heap) (locs : List Loc) (ls : Array Slot), (jd + 1 ≤ j ∧ j ≤ mm + 1) → (NdAt G n ad2 en2 ns jd (reachR RR mm) (sndL SL mm) S2 sf2) → (∀ k, 1 ≤ k → k < j → sf2 k = b2i (wellB ss ns k)) → (∀ k, k < reachR RR mm → ∀ x, S2 k x = (decide (1 ≤ k ∧ k < j) && restB ss ns k x)) → (∀ k, k < n → k ≠ 16 → k ≠ 17 → ad2 k = ad k) → (∀ k, k < n → ¬ (11 ≤ k ∧ k ≤ 17) → en2 k = en k) → mm + 1 - j < fu68 → rS G A sS.heap (n) ad2 en2 H locs → lv_has ls 3 [(0, .ref (ad2 11)), (1, .int (nI mm)), (2, .int (nI j))] → W pP l eE (rRm (4) (104) (jMC jd RR SL mm) (jMS jd RR SL mm)) sS mM aA bB tT cC H locs (0 + rchC RR mm) (0 + rchS RR mm) Q (F0 mM 68 ls []) from LOOP68 _ (jd + 1) (ad_1) (en_2) (sCut S RR) (sf) _ _ _ (by omega) (hd2) (fun k a b => hsf2 k a (by omega)) (cut_init hsr hjR) (ka2) (ke3) (Nat.lt_succ_self _) hs (lv_sub hl [1, 2, 0] rfl)
      intro fu68
      induction fu68 with
      | zero => intro j ad2 en2 S2 sf2 H locs ls ij hd3 hw3 hr3 ka3 kd3 hfu; exact absurd hfu (Nat.not_lt_zero _)
      | succ fu68 ih68 => ?_
      intro j ad2 en2 S2 sf2 H locs ls ij hd3 hw3 hr3 ka3 kd3 hfu68 hs hl
      have he11b := hd3.2.1
      have he17c := hd3.2.2.2.2.1
      have hst3 : StAt G n ad2 en2 ss := StAt_keep h (fun k a b => ka3 k (by omega) (by omega) (by omega)) (fun k a b => kd3 k (by omega) (by omega))
      refine lv_iload_n hx hb dX2_judgeUpTo_68 rfl (lv_at hl 2 rfl) ?_
      refine lv_iload_n hx hb dX2_judgeUpTo_69 rfl (lv_at hl 1 rfl) ?_
      refine lv_icmp_gt (tgt := 111) hx hb dX2_judgeUpTo_70 (by decide) (fun c70 => ?_) (fun c70 => ?_)
      · skip
        have hje : j = mm + 1 := by have := (nI_ltI (by omega) (by omega)).mp c70; omega
        refine lv_aload_n hx hb dX2_judgeUpTo_111 rfl (lv_at hl 0 rfl) ?_
        refine lv_iload_n hx hb dX2_judgeUpTo_112 rfl (lv_at hl 1 rfl) ?_
        refine r_put (ci := 2) (v := .int (nI mm)) (ty := .int) (C := RX2) (T := TX2) (N := 5) (fs' := [.ref (ad2 3), .ref (ad2 12), .ref (ad2 15), .ref (ad2 17), .int (nI mm)]) hx hb hts inlX2 tyX2 tyX2_ok nmX2 hown hK hs (11) (by omega) he11b rfl 4 (by decide) (hts _ w_fl_RX2_31) (Or.inl rfl) (by decide +kernel) rfl rfl (Nat.le_of_ble_eq_true rfl) rfl dX2_judgeUpTo_113 (fun H locs en_4 hen_4 hs => ?_)
        have he_5 : en_4 (11) = .inr (2, [.ref (ad2 3), .ref (ad2 12), .ref (ad2 15), .ref (ad2 17), .int (nI mm)]) := by rw [hen_4]; exact va_up_self _ _ _
        have he_6 : en_4 (17) = aI G (sndL SL mm) (sf2) := by rw [hen_4]; exact (va_up_ne _ _ (by omega)).trans he17c
        refine r_vret (mc := jMC jd RR SL mm) (ms := jMS jd RR SL mm) hx hb hr hlk hs (by omega) (by omega) dX2_judgeUpTo_116 hQ ?_
        exact ⟨⟨S2, sf2, by rw [Nat.max_eq_right (by omega), jRR, if_neg (by omega), jSL, if_neg (by omega)]; exact ⟨NdAt_jd hd3 hen_4 he_5, hns, hm, reach_gt RR mm, snd_gt SL mm, fun k a b => hw3 k a (by omega), fun k hk x => by rw [hr3 k hk, show decide (1 ≤ k ∧ k < j) = decide (1 ≤ k ∧ k ≤ mm) from decide_eq_decide.mpr (by omega)]⟩⟩, fun k a b => ka3 k a (by omega) (by omega), fun k a b => by rw [hen_4, va_up_ne _ _ (by omega)]; exact kd3 k a b⟩
      · skip
        have hje : j ≤ mm := Nat.le_of_not_lt (fun q => c70 ((nI_ltI (by omega) (by omega)).mpr q))
        refine lv_aload_n hx hb dX2_judgeUpTo_73 rfl (lv_at hl 0 rfl) ?_
        refine r_get (ci := 2) (v := .ref (ad2 17)) (C := RX2) (T := TX2) (N := 5) hx hb hts inlX2 hown hK hs (11) (by omega) he11b rfl 3 (by decide) (hts _ w_fl_RX2_27) rfl dX2_judgeUpTo_74 ?_
        refine lv_iload_n hx hb dX2_judgeUpTo_77 rfl (lv_at hl 2 rfl) ?_
        refine lv_aload_n hx hb dX2_judgeUpTo_78 rfl (lv_at hl 0 rfl) ?_
        refine lv_iload_n hx hb dX2_judgeUpTo_79 rfl (lv_at hl 2 rfl) ?_
        refine r_callViR (ci := 2) (As := [.int (nI j)]) hx hb hml hown hts hK hA hs (11) (by omega) he11b rfl rfl (c_X2_partsAreSound l G hd3 hns (k := j) (by omega) (Wf := wellB ss ns) (hw3) (by have := snd_gt SL mm; omega)) (cwV 1 hts (tbV w_ml_RX2_82 w_im_yX2_partsAreSound w_se_yX2_partsAreSound w_ini_RX2 w_cd_yX2_partsAreSound) rfl rfl rfl (by decide +kernel) ⟨Nat.le_of_ble_eq_true rfl, Nat.le_of_ble_eq_true rfl⟩) rfl hl.1 rfl (Nat.le_of_ble_eq_true rfl) dX2_judgeUpTo_80 ⟨by show _ ≤ jMC jd RR SL mm; omega, by show _ ≤ jMS jd RR SL mm; omega⟩ (fun H locs hs => ?_)
        refine lv_if_eq (tgt := 98) hx hb dX2_judgeUpTo_83 (by decide) (fun c83 => ?_) (fun c83 => ?_)
        · skip
          refine lv_iconst (v := 0) hx hb dX2_judgeUpTo_98 (by decide) ?_
          refine r_iastN (t := j) hx hb hK hs (17) (by omega) he17c (rfl) (by have := snd_gt SL mm; omega) (by omega) dX2_judgeUpTo_99 (fun H locs en_8 hen_8 hs => ?_)
          obtain ⟨g_9, eg_9⟩ : ∃ z, z = upd (sf2) (j) (0) := ⟨_, rfl⟩
          have he_10 : en_8 (17) = aI G (sndL SL mm) (g_9) := by rw [hen_8, eg_9]; exact va_up_self _ _ _
          have he_11 : en_8 (11) = .inr (2, [.ref (ad2 3), .ref (ad2 12), .ref (ad2 15), .ref (ad2 17), .int (nI jd)]) := by rw [hen_8]; exact (va_up_ne _ _ (by omega)).trans he11b
          refine lv_aload_n hx hb dX2_judgeUpTo_100 rfl (lv_at hl 0 rfl) ?_
          refine lv_iload_n hx hb dX2_judgeUpTo_101 rfl (lv_at hl 2 rfl) ?_
          have hd4 : NdAt G n ad2 en_8 ns jd (reachR RR mm) (sndL SL mm) S2 g_9 := NdAt_upd17 hd3 hen_8 he_10
          have hst4 : StAt G n ad2 en_8 ss := StAt_keep hst3 (fun k a b => rfl) (fun k a b => by rw [hen_8]; exact va_up_ne _ _ (by omega))
          refine r_callVv (ci := 2) (As := [.int (nI j)]) hx hb hml hown hts hK hA hs (11) (by omega) he_11 rfl rfl (c_X2_gatherRests l G hst4 hd4 hns (k := j) (by omega) (by have := reach_gt RR mm; omega) (fun x => by rw [hr3 j (by have := reach_gt RR mm; omega), df (by omega), Bool.false_and])) (cwV 1 hts (tbV w_ml_RX2_89 w_im_yX2_gatherRests w_se_yX2_gatherRests w_ini_RX2 w_cd_yX2_gatherRests) rfl rfl rfl (by decide +kernel) ⟨Nat.le_of_ble_eq_true rfl, Nat.le_of_ble_eq_true rfl⟩) rfl hl.1 rfl (Nat.le_of_ble_eq_true rfl) dX2_judgeUpTo_102 ⟨by show _ ≤ jMC jd RR SL mm; omega, by show _ ≤ jMS jd RR SL mm; omega⟩ (fun ad_12 en_13 H locs hp_14 hs => ?_)
          obtain ⟨hc5, hf5⟩ := hp_14
          have hd5 := NdAt_upd15 hd4 hc5 hf5
          have ka5 : ∀ k, k < n → k ≠ 16 → k ≠ 17 → ad_12 k = ad k := fun k a b c => (hf5.1 k a (fun q => q)).trans (ka3 k a b c)
          have kd5 : ∀ k, k < n → ¬ (11 ≤ k ∧ k ≤ 17) → en_13 k = en k := fun k a b => (hf5.2 k a (by omega)).trans (by rw [hen_8, va_up_ne _ _ (by omega)]; exact kd3 k a b)
          have hw5 : ∀ k, 1 ≤ k → k < j + 1 → g_9 k = b2i (wellB ss ns k) := well_step hns (by omega) hw3 eg_9 (by rw [b2i_0 c83]; rfl)
          have hl : lv_has ls 3 [(0, .ref (ad_12 11)), (1, .int (nI mm)), (2, .int (nI j))] := by rw [hf5.1 11 (by omega) (fun q => q)]; exact hl
          refine lv_iinc (v := nI (j + 1)) (lv' := [(2, .int (nI (j + 1))), (0, .ref (ad_12 11)), (1, .int (nI mm))]) hx hb dX2_judgeUpTo_105 hl (k := 2) rfl (nI_add j 1) (by decide) rfl (fun ls hl => ?_)
          refine lv_goto (tgt := 68) hx hb dX2_judgeUpTo_108 (by decide) ?_
          exact ih68 (j + 1) (ad_12) (en_13) ((fun r x => if r = j then rE ss ns S2 j x else S2 r x)) (g_9) _ _ _ (by omega) (hd5) (hw5) (rest_step hns (by omega) hr3) (ka5) (kd5) (by omega) hs (lv_sub hl [1, 2, 0] rfl)
        · skip
          refine lv_aload_n hx hb dX2_judgeUpTo_86 rfl (lv_at hl 0 rfl) ?_
          refine lv_iload_n hx hb dX2_judgeUpTo_87 rfl (lv_at hl 2 rfl) ?_
          refine r_callViR (ci := 2) (As := [.int (nI j)]) hx hb hml hown hts hK hA hs (11) (by omega) he11b rfl rfl (c_X2_goalFits l G hst3 hd3 hns (k := j) (by omega)) (cwV 1 hts (tbV w_ml_RX2_86 w_im_yX2_goalFits w_se_yX2_goalFits w_ini_RX2 w_cd_yX2_goalFits) rfl rfl rfl (by decide +kernel) ⟨Nat.le_of_ble_eq_true rfl, Nat.le_of_ble_eq_true rfl⟩) rfl hl.1 rfl (Nat.le_of_ble_eq_true rfl) dX2_judgeUpTo_88 ⟨by show _ ≤ jMC jd RR SL mm; omega, by show _ ≤ jMS jd RR SL mm; omega⟩ (fun H locs hs => ?_)
          refine lv_if_eq (tgt := 98) hx hb dX2_judgeUpTo_91 (by decide) (fun c91 => ?_) (fun c91 => ?_)
          · skip
            refine lv_iconst (v := 0) hx hb dX2_judgeUpTo_98 (by decide) ?_
            refine r_iastN (t := j) hx hb hK hs (17) (by omega) he17c (rfl) (by have := snd_gt SL mm; omega) (by omega) dX2_judgeUpTo_99 (fun H locs en_16 hen_16 hs => ?_)
            obtain ⟨g_17, eg_17⟩ : ∃ z, z = upd (sf2) (j) (0) := ⟨_, rfl⟩
            have he_18 : en_16 (17) = aI G (sndL SL mm) (g_17) := by rw [hen_16, eg_17]; exact va_up_self _ _ _
            have he_19 : en_16 (11) = .inr (2, [.ref (ad2 3), .ref (ad2 12), .ref (ad2 15), .ref (ad2 17), .int (nI jd)]) := by rw [hen_16]; exact (va_up_ne _ _ (by omega)).trans he11b
            refine lv_aload_n hx hb dX2_judgeUpTo_100 rfl (lv_at hl 0 rfl) ?_
            refine lv_iload_n hx hb dX2_judgeUpTo_101 rfl (lv_at hl 2 rfl) ?_
            have hd4 : NdAt G n ad2 en_16 ns jd (reachR RR mm) (sndL SL mm) S2 g_17 := NdAt_upd17 hd3 hen_16 he_18
            have hst4 : StAt G n ad2 en_16 ss := StAt_keep hst3 (fun k a b => rfl) (fun k a b => by rw [hen_16]; exact va_up_ne _ _ (by omega))
            refine r_callVv (ci := 2) (As := [.int (nI j)]) hx hb hml hown hts hK hA hs (11) (by omega) he_19 rfl rfl (c_X2_gatherRests l G hst4 hd4 hns (k := j) (by omega) (by have := reach_gt RR mm; omega) (fun x => by rw [hr3 j (by have := reach_gt RR mm; omega), df (by omega), Bool.false_and])) (cwV 1 hts (tbV w_ml_RX2_89 w_im_yX2_gatherRests w_se_yX2_gatherRests w_ini_RX2 w_cd_yX2_gatherRests) rfl rfl rfl (by decide +kernel) ⟨Nat.le_of_ble_eq_true rfl, Nat.le_of_ble_eq_true rfl⟩) rfl hl.1 rfl (Nat.le_of_ble_eq_true rfl) dX2_judgeUpTo_102 ⟨by show _ ≤ jMC jd RR SL mm; omega, by show _ ≤ jMS jd RR SL mm; omega⟩ (fun ad_20 en_21 H locs hp_22 hs => ?_)
            obtain ⟨hc5, hf5⟩ := hp_22
            have hd5 := NdAt_upd15 hd4 hc5 hf5
            have ka5 : ∀ k, k < n → k ≠ 16 → k ≠ 17 → ad_20 k = ad k := fun k a b c => (hf5.1 k a (fun q => q)).trans (ka3 k a b c)
            have kd5 : ∀ k, k < n → ¬ (11 ≤ k ∧ k ≤ 17) → en_21 k = en k := fun k a b => (hf5.2 k a (by omega)).trans (by rw [hen_16, va_up_ne _ _ (by omega)]; exact kd3 k a b)
            have hw5 : ∀ k, 1 ≤ k → k < j + 1 → g_17 k = b2i (wellB ss ns k) := well_step hns (by omega) hw3 eg_17 (by rw [b2i_1 c83, b2i_0 c91]; rfl)
            have hl : lv_has ls 3 [(0, .ref (ad_20 11)), (1, .int (nI mm)), (2, .int (nI j))] := by rw [hf5.1 11 (by omega) (fun q => q)]; exact hl
            refine lv_iinc (v := nI (j + 1)) (lv' := [(2, .int (nI (j + 1))), (0, .ref (ad_20 11)), (1, .int (nI mm))]) hx hb dX2_judgeUpTo_105 hl (k := 2) rfl (nI_add j 1) (by decide) rfl (fun ls hl => ?_)
            refine lv_goto (tgt := 68) hx hb dX2_judgeUpTo_108 (by decide) ?_
            exact ih68 (j + 1) (ad_20) (en_21) ((fun r x => if r = j then rE ss ns S2 j x else S2 r x)) (g_17) _ _ _ (by omega) (hd5) (hw5) (rest_step hns (by omega) hr3) (ka5) (kd5) (by omega) hs (lv_sub hl [1, 2, 0] rfl)
          · skip
            refine lv_iconst (v := 1) hx hb dX2_judgeUpTo_94 (by decide) ?_
            refine lv_goto (tgt := 99) hx hb dX2_judgeUpTo_95 (by decide) ?_
            refine r_iastN (t := j) hx hb hK hs (17) (by omega) he17c (rfl) (by have := snd_gt SL mm; omega) (by omega) dX2_judgeUpTo_99 (fun H locs en_24 hen_24 hs => ?_)
            obtain ⟨g_25, eg_25⟩ : ∃ z, z = upd (sf2) (j) (1) := ⟨_, rfl⟩
            have he_26 : en_24 (17) = aI G (sndL SL mm) (g_25) := by rw [hen_24, eg_25]; exact va_up_self _ _ _
            have he_27 : en_24 (11) = .inr (2, [.ref (ad2 3), .ref (ad2 12), .ref (ad2 15), .ref (ad2 17), .int (nI jd)]) := by rw [hen_24]; exact (va_up_ne _ _ (by omega)).trans he11b
            refine lv_aload_n hx hb dX2_judgeUpTo_100 rfl (lv_at hl 0 rfl) ?_
            refine lv_iload_n hx hb dX2_judgeUpTo_101 rfl (lv_at hl 2 rfl) ?_
            have hd4 : NdAt G n ad2 en_24 ns jd (reachR RR mm) (sndL SL mm) S2 g_25 := NdAt_upd17 hd3 hen_24 he_26
            have hst4 : StAt G n ad2 en_24 ss := StAt_keep hst3 (fun k a b => rfl) (fun k a b => by rw [hen_24]; exact va_up_ne _ _ (by omega))
            refine r_callVv (ci := 2) (As := [.int (nI j)]) hx hb hml hown hts hK hA hs (11) (by omega) he_27 rfl rfl (c_X2_gatherRests l G hst4 hd4 hns (k := j) (by omega) (by have := reach_gt RR mm; omega) (fun x => by rw [hr3 j (by have := reach_gt RR mm; omega), df (by omega), Bool.false_and])) (cwV 1 hts (tbV w_ml_RX2_89 w_im_yX2_gatherRests w_se_yX2_gatherRests w_ini_RX2 w_cd_yX2_gatherRests) rfl rfl rfl (by decide +kernel) ⟨Nat.le_of_ble_eq_true rfl, Nat.le_of_ble_eq_true rfl⟩) rfl hl.1 rfl (Nat.le_of_ble_eq_true rfl) dX2_judgeUpTo_102 ⟨by show _ ≤ jMC jd RR SL mm; omega, by show _ ≤ jMS jd RR SL mm; omega⟩ (fun ad_28 en_29 H locs hp_30 hs => ?_)
            obtain ⟨hc5, hf5⟩ := hp_30
            have hd5 := NdAt_upd15 hd4 hc5 hf5
            have ka5 : ∀ k, k < n → k ≠ 16 → k ≠ 17 → ad_28 k = ad k := fun k a b c => (hf5.1 k a (fun q => q)).trans (ka3 k a b c)
            have kd5 : ∀ k, k < n → ¬ (11 ≤ k ∧ k ≤ 17) → en_29 k = en k := fun k a b => (hf5.2 k a (by omega)).trans (by rw [hen_24, va_up_ne _ _ (by omega)]; exact kd3 k a b)
            have hw5 : ∀ k, 1 ≤ k → k < j + 1 → g_25 k = b2i (wellB ss ns k) := well_step hns (by omega) hw3 eg_25 (by rw [b2i_1 c83, b2i_1 c91]; rfl)
            have hl : lv_has ls 3 [(0, .ref (ad_28 11)), (1, .int (nI mm)), (2, .int (nI j))] := by rw [hf5.1 11 (by omega) (fun q => q)]; exact hl
            refine lv_iinc (v := nI (j + 1)) (lv' := [(2, .int (nI (j + 1))), (0, .ref (ad_28 11)), (1, .int (nI mm))]) hx hb dX2_judgeUpTo_105 hl (k := 2) rfl (nI_add j 1) (by decide) rfl (fun ls hl => ?_)
            refine lv_goto (tgt := 68) hx hb dX2_judgeUpTo_108 (by decide) ?_
            exact ih68 (j + 1) (ad_28) (en_29) ((fun r x => if r = j then rE ss ns S2 j x else S2 r x)) (g_25) _ _ _ (by omega) (hd5) (hw5) (rest_step hns (by omega) hr3) (ka5) (kd5) (by omega) hs (lv_sub hl [1, 2, 0] rfl)
    · skip
      have hsl : ¬ mm < SL := fun q => c34 ((nI_ltI (by omega) (by omega)).mpr q)
      have hSC : sndC SL mm = 1 := if_neg hsl
      have hSS : sndS SL mm = max (mm + 1) (2 * SL) := if_neg hsl
      have hSN : sndL SL mm = max (mm + 1) (2 * SL) := if_neg hsl
      refine lv_aload_n hx hb dX2_judgeUpTo_37 rfl (lv_at hl 0 rfl) ?_
      refine lv_aload_n hx hb dX2_judgeUpTo_38 rfl (lv_at hl 0 rfl) ?_
      refine r_get (ci := 2) (v := .ref (ad_1 17)) (C := RX2) (T := TX2) (N := 5) hx hb hts inlX2 hown hK hs (11) (by omega) he11a rfl 3 (by decide) (hts _ w_fl_RX2_27) rfl dX2_judgeUpTo_39 ?_
      refine lv_iload_n hx hb dX2_judgeUpTo_42 rfl (lv_at hl 1 rfl) ?_
      refine lv_iconst (v := 1) hx hb dX2_judgeUpTo_43 (by decide) ?_
      refine lv_iadd hx hb dX2_judgeUpTo_44 ?_
      refine r_topi (y := nI (mm + 1)) (by simp only [ l0, l1, l2, l3, l4, l5, l6, l10, l600, pk_mul, nI_add]; first | done | exact congrArg nI (by omega)) ?_
      refine lv_iconst (v := 2) hx hb dX2_judgeUpTo_45 (by decide) ?_
      refine lv_aload_n hx hb dX2_judgeUpTo_46 rfl (lv_at hl 0 rfl) ?_
      refine r_get (ci := 2) (v := .ref (ad_1 17)) (C := RX2) (T := TX2) (N := 5) hx hb hts inlX2 hown hK hs (11) (by omega) he11a rfl 3 (by decide) (hts _ w_fl_RX2_27) rfl dX2_judgeUpTo_47 ?_
      refine r_alen (v := nI (SL)) hx hb hK hs (17) 1 (by omega) he17a rfl rfl dX2_judgeUpTo_50 ?_
      refine lv_imul hx hb dX2_judgeUpTo_51 ?_
      refine r_topi (y := nI (2 * SL)) (by simp only [ l0, l1, l2, l3, l4, l5, l6, l10, l600, pk_mul, nI_add]; first | done | exact congrArg nI (by omega)) ?_
      refine va_mmax hx hb (hml.trans hl.1.symm) hown (hts _ w_ml_RX2_71) (hts _ w_sta_Lib_Math_max_name) (hts _ w_ini_java_lang_Math) (hts _ w_cd_Lib_Math_max_name) (Nat.le_of_ble_eq_true rfl) (Nat.le_of_ble_eq_true rfl) (by show _ ≤ jMC jd RR SL mm; omega) (by show _ ≤ jMS jd RR SL mm; omega) dX2_judgeUpTo_52 ?_
      refine r_topi (y := nI (max (mm + 1) (2 * SL))) (max_nI (by omega) (by omega)) ?_
      refine r_callSr (As := [.ref (ad_1 17), .int (nI (max (mm + 1) (2 * SL)))]) hx hb hml hown hts hK hA hs (c_J7_copyOf_59c91 l G (by omega) he17a (by omega) (by omega)) (va_cwS 2 hts (tbS w_ml_RX2_76 w_sta_yJ7_copyOf_59c91 w_ini_RJ7 w_cd_yJ7_copyOf_59c91) rfl rfl rfl (by decide +kernel) ⟨Nat.le_of_ble_eq_true rfl, Nat.le_of_ble_eq_true rfl⟩) rfl hl.1 rfl (Nat.le_of_ble_eq_true rfl) dX2_judgeUpTo_55 ⟨by show _ ≤ jMC jd RR SL mm; omega, by show _ ≤ jMS jd RR SL mm; omega⟩ (fun ra_34 ad_31 en_32 H locs hp_33 hs => ?_)
      obtain ⟨hra, kad_31, ken_32, hnew⟩ := hp_33
      subst hra
      have he_35 : en_32 (11) = .inr (2, [.ref (ad_31 3), .ref (ad_31 12), .ref (ad_31 15), .ref (ad_31 17), .int (nI jd)]) := by rw [(kad_31 (3) (by omega)), (kad_31 (12) (by omega)), (kad_31 (15) (by omega)), (kad_31 (17) (by omega))]; exact (ken_32 (11) (by omega)).trans he11a
      have he_36 : en_32 (17) = aI G (SL) (sf) := (ken_32 (17) (by omega)).trans he17a
      have hl : lv_has ls 3 [(0, .ref (ad_31 11)), (1, .int (nI mm))] := by rw [(kad_31 (11) (by omega))]; exact hl
      rw [← (kad_31 (11) (by omega))]
      refine r_put (ci := 2) (v := .ref (ad_31 (n))) (ty := .array .int) (C := RX2) (T := TX2) (N := 5) (fs' := [.ref (ad_31 3), .ref (ad_31 12), .ref (ad_31 15), .ref (ad_31 (n)), .int (nI jd)]) hx hb hts inlX2 tyX2 tyX2_ok nmX2 hown hK hs (11) (by omega) he_35 rfl 3 (by decide) (hts _ w_fl_RX2_27) (Or.inl rfl) (by decide +kernel) rfl rfl (Nat.le_of_ble_eq_true rfl) rfl dX2_judgeUpTo_58 (fun H locs en_37 hen_37 hs => ?_)
      have he_38 : en_37 (11) = .inr (2, [.ref (ad_31 3), .ref (ad_31 12), .ref (ad_31 15), .ref (ad_31 (n)), .int (nI jd)]) := by rw [hen_37]; exact va_up_self _ _ _
      have he_39 : en_37 (17) = aI G (SL) (sf) := by rw [hen_37]; exact (va_up_ne _ _ (by omega)).trans he_36
      have he_40 : en_37 (n) = aI G (max (mm + 1) (2 * SL)) (va_cpy sf (fun _ => 0) 0 0 (SL)) := by rw [hen_37]; exact (va_up_ne _ _ (by omega)).trans hnew
      obtain ⟨ad_41, had_41⟩ : ∃ z, z = va_up ad_31 (17) (ad_31 (n)) := ⟨_, rfl⟩
      obtain ⟨en_42, hen_42⟩ : ∃ z, z = va_up en_37 (17) (en_37 (n)) := ⟨_, rfl⟩
      have hs : rS G A sS.heap (n) ad_41 en_42 H locs := by rw [had_41, hen_42]; exact rS_swap (17) (by omega) hs
      have kad_41 : ∀ k, k ≠ 17 → ad_41 k = ad_31 k := fun k hk => by rw [had_41]; exact va_up_ne _ _ hk
      have ken_42 : ∀ k, k ≠ 17 → en_42 k = en_37 k := fun k hk => by rw [hen_42]; exact va_up_ne _ _ hk
      have jad_41 : ad_41 (17) = ad_31 (n) := by rw [had_41]; exact va_up_self _ _ _
      have he_43 : en_42 (17) = aI G (max (mm + 1) (2 * SL)) (va_cpy sf (fun _ => 0) 0 0 (SL)) := by rw [hen_42]; exact (va_up_self _ _ _).trans he_40
      have he_44 : en_42 (11) = .inr (2, [.ref (ad_41 3), .ref (ad_41 12), .ref (ad_41 15), .ref (ad_41 (17)), .int (nI jd)]) := by rw [kad_41 (3) (by omega), kad_41 (12) (by omega), kad_41 (15) (by omega), jad_41]; exact (ken_42 _ (by omega)).trans he_38
      have hl : lv_has ls 3 [(0, .ref (ad_41 11)), (1, .int (nI mm))] := by rw [kad_41 (11) (by omega)]; exact hl
      have he17b : en_42 17 = aI G (sndL SL mm) (va_cpy sf (fun _ => 0) 0 0 SL) := by rw [hSN]; exact he_43
      have ka2 : ∀ k, k < n → k ≠ 16 → k ≠ 17 → ad_41 k = ad k := fun k a b c => by rw [kad_41 k c, kad_31 k a, ka1 k a b]
      have ke2 : ∀ k, k < n → k ≠ 11 → k ≠ 17 → en_42 k = en_2 k := fun k a b c => by rw [ken_42 k c, hen_37, va_up_ne _ _ b, ken_32 k a]
      have kb2 : ∀ k, k < n → k ≠ 17 → ad_41 k = ad_1 k := fun k a c => by rw [kad_41 k c, kad_31 k a]
      have hsf2 : ∀ k, 1 ≤ k → k ≤ jd → va_cpy sf (fun _ => 0) 0 0 SL k = b2i (wellB ss ns k) := fun k a b => by rw [sb_cpy0 (by omega)]; exact hsw k a b
      have hd2 : NdAt G n ad_41 en_42 ns jd (reachR RR mm) (sndL SL mm) (sCut S RR) (va_cpy sf (fun _ => 0) 0 0 SL) := ⟨hn, he_44, KeptAt_keep hk (fun k a b => ka2 k (by omega) (by omega) (by omega)) (fun k a b => by rw [ke2 k (by omega) (by omega) (by omega), ke1 k (by omega) (by omega)]), SetsAt_keep hr1 (fun k a b => kb2 k (by omega) (by omega)) (fun k a b => ke2 k (by omega) (by omega) (by omega)), he17b, by omega⟩
      have ke3 : ∀ k, k < n → ¬ (11 ≤ k ∧ k ≤ 17) → en_42 k = en k := fun k a b => by rw [ke2 k a (by omega) (by omega), ke1 k a (by omega)]
      refine lv_aload_n hx hb dX2_judgeUpTo_61 rfl (lv_at hl 0 rfl) ?_
      refine r_get (ci := 2) (v := .int (nI jd)) (C := RX2) (T := TX2) (N := 5) hx hb hts inlX2 hown hK hs (11) (by omega) he_44 rfl 4 (by decide) (hts _ w_fl_RX2_31) rfl dX2_judgeUpTo_62 ?_
      refine lv_iconst (v := 1) hx hb dX2_judgeUpTo_65 (by decide) ?_
      refine lv_iadd hx hb dX2_judgeUpTo_66 ?_
      refine r_topi (y := nI (jd + 1)) (by simp only [ l0, l1, l2, l3, l4, l5, l6, l10, l600, pk_mul, nI_add]; first | done | exact congrArg nI (by omega)) ?_
      refine lv_istore_n (lv' := [(2, .int (nI (jd + 1))), (0, .ref (ad_41 11)), (1, .int (nI mm))]) hx hb dX2_judgeUpTo_67 rfl hl (by decide) rfl (fun ls hl => ?_)
      suffices LOOP68 : ∀ (fu68 : Nat) (j : Nat) (ad2 : Nat → Nat) (en2 : Nat → va_E) (S2 : Nat → Nat → Bool) (sf2 : Nat → Int32) (H : Heap) (locs : List Loc) (ls : Array Slot), (jd + 1 ≤ j ∧ j ≤ mm + 1) → (NdAt G n ad2 en2 ns jd (reachR RR mm) (sndL SL mm) S2 sf2) → (∀ k, 1 ≤ k → k < j → sf2 k = b2i (wellB ss ns k)) → (∀ k, k < reachR RR mm → ∀ x, S2 k x = (decide (1 ≤ k ∧ k < j) && restB ss ns k x)) → (∀ k, k < n → k ≠ 16 → k ≠ 17 → ad2 k = ad k) → (∀ k, k < n → ¬ (11 ≤ k ∧ k ≤ 17) → en2 k = en k) → mm + 1 - j < fu68 → rS G A sS.heap (n) ad2 en2 H locs → lv_has ls 3 [(0, .ref (ad2 11)), (1, .int (nI mm)), (2, .int (nI j))] → W pP l eE (rRm (4) (104) (jMC jd RR SL mm) (jMS jd RR SL mm)) sS mM aA bB tT cC H locs (0 + rchC RR mm + 1) (0 + rchS RR mm + (max (mm + 1) (2 * SL))) Q (F0 mM 68 ls []) from LOOP68 _ (jd + 1) (ad_41) (en_42) (sCut S RR) ((va_cpy sf (fun _ => 0) 0 0 SL)) _ _ _ (by omega) (hd2) (fun k a b => hsf2 k a (by omega)) (cut_init hsr hjR) (ka2) (ke3) (Nat.lt_succ_self _) hs (lv_sub hl [1, 2, 0] rfl)
      intro fu68
      induction fu68 with
      | zero => intro j ad2 en2 S2 sf2 H locs ls ij hd3 hw3 hr3 ka3 kd3 hfu; exact absurd hfu (Nat.not_lt_zero _)
      | succ fu68 ih68 => ?_
      intro j ad2 en2 S2 sf2 H locs ls ij hd3 hw3 hr3 ka3 kd3 hfu68 hs hl
      have he11b := hd3.2.1
      have he17c := hd3.2.2.2.2.1
      have hst3 : StAt G n ad2 en2 ss := StAt_keep h (fun k a b => ka3 k (by omega) (by omega) (by omega)) (fun k a b => kd3 k (by omega) (by omega))
      refine lv_iload_n hx hb dX2_judgeUpTo_68 rfl (lv_at hl 2 rfl) ?_
      refine lv_iload_n hx hb dX2_judgeUpTo_69 rfl (lv_at hl 1 rfl) ?_
      refine lv_icmp_gt (tgt := 111) hx hb dX2_judgeUpTo_70 (by decide) (fun c70 => ?_) (fun c70 => ?_)
      · skip
        have hje : j = mm + 1 := by have := (nI_ltI (by omega) (by omega)).mp c70; omega
        refine lv_aload_n hx hb dX2_judgeUpTo_111 rfl (lv_at hl 0 rfl) ?_
        refine lv_iload_n hx hb dX2_judgeUpTo_112 rfl (lv_at hl 1 rfl) ?_
        refine r_put (ci := 2) (v := .int (nI mm)) (ty := .int) (C := RX2) (T := TX2) (N := 5) (fs' := [.ref (ad2 3), .ref (ad2 12), .ref (ad2 15), .ref (ad2 17), .int (nI mm)]) hx hb hts inlX2 tyX2 tyX2_ok nmX2 hown hK hs (11) (by omega) he11b rfl 4 (by decide) (hts _ w_fl_RX2_31) (Or.inl rfl) (by decide +kernel) rfl rfl (Nat.le_of_ble_eq_true rfl) rfl dX2_judgeUpTo_113 (fun H locs en_45 hen_45 hs => ?_)
        have he_46 : en_45 (11) = .inr (2, [.ref (ad2 3), .ref (ad2 12), .ref (ad2 15), .ref (ad2 17), .int (nI mm)]) := by rw [hen_45]; exact va_up_self _ _ _
        have he_47 : en_45 (17) = aI G (sndL SL mm) (sf2) := by rw [hen_45]; exact (va_up_ne _ _ (by omega)).trans he17c
        refine r_vret (mc := jMC jd RR SL mm) (ms := jMS jd RR SL mm) hx hb hr hlk hs (by omega) (by omega) dX2_judgeUpTo_116 hQ ?_
        exact ⟨⟨S2, sf2, by rw [Nat.max_eq_right (by omega), jRR, if_neg (by omega), jSL, if_neg (by omega)]; exact ⟨NdAt_jd hd3 hen_45 he_46, hns, hm, reach_gt RR mm, snd_gt SL mm, fun k a b => hw3 k a (by omega), fun k hk x => by rw [hr3 k hk, show decide (1 ≤ k ∧ k < j) = decide (1 ≤ k ∧ k ≤ mm) from decide_eq_decide.mpr (by omega)]⟩⟩, fun k a b => ka3 k a (by omega) (by omega), fun k a b => by rw [hen_45, va_up_ne _ _ (by omega)]; exact kd3 k a b⟩
      · skip
        have hje : j ≤ mm := Nat.le_of_not_lt (fun q => c70 ((nI_ltI (by omega) (by omega)).mpr q))
        refine lv_aload_n hx hb dX2_judgeUpTo_73 rfl (lv_at hl 0 rfl) ?_
        refine r_get (ci := 2) (v := .ref (ad2 17)) (C := RX2) (T := TX2) (N := 5) hx hb hts inlX2 hown hK hs (11) (by omega) he11b rfl 3 (by decide) (hts _ w_fl_RX2_27) rfl dX2_judgeUpTo_74 ?_
        refine lv_iload_n hx hb dX2_judgeUpTo_77 rfl (lv_at hl 2 rfl) ?_
        refine lv_aload_n hx hb dX2_judgeUpTo_78 rfl (lv_at hl 0 rfl) ?_
        refine lv_iload_n hx hb dX2_judgeUpTo_79 rfl (lv_at hl 2 rfl) ?_
        refine r_callViR (ci := 2) (As := [.int (nI j)]) hx hb hml hown hts hK hA hs (11) (by omega) he11b rfl rfl (c_X2_partsAreSound l G hd3 hns (k := j) (by omega) (Wf := wellB ss ns) (hw3) (by have := snd_gt SL mm; omega)) (cwV 1 hts (tbV w_ml_RX2_82 w_im_yX2_partsAreSound w_se_yX2_partsAreSound w_ini_RX2 w_cd_yX2_partsAreSound) rfl rfl rfl (by decide +kernel) ⟨Nat.le_of_ble_eq_true rfl, Nat.le_of_ble_eq_true rfl⟩) rfl hl.1 rfl (Nat.le_of_ble_eq_true rfl) dX2_judgeUpTo_80 ⟨by show _ ≤ jMC jd RR SL mm; omega, by show _ ≤ jMS jd RR SL mm; omega⟩ (fun H locs hs => ?_)
        refine lv_if_eq (tgt := 98) hx hb dX2_judgeUpTo_83 (by decide) (fun c83 => ?_) (fun c83 => ?_)
        · skip
          refine lv_iconst (v := 0) hx hb dX2_judgeUpTo_98 (by decide) ?_
          refine r_iastN (t := j) hx hb hK hs (17) (by omega) he17c (rfl) (by have := snd_gt SL mm; omega) (by omega) dX2_judgeUpTo_99 (fun H locs en_49 hen_49 hs => ?_)
          obtain ⟨g_50, eg_50⟩ : ∃ z, z = upd (sf2) (j) (0) := ⟨_, rfl⟩
          have he_51 : en_49 (17) = aI G (sndL SL mm) (g_50) := by rw [hen_49, eg_50]; exact va_up_self _ _ _
          have he_52 : en_49 (11) = .inr (2, [.ref (ad2 3), .ref (ad2 12), .ref (ad2 15), .ref (ad2 17), .int (nI jd)]) := by rw [hen_49]; exact (va_up_ne _ _ (by omega)).trans he11b
          refine lv_aload_n hx hb dX2_judgeUpTo_100 rfl (lv_at hl 0 rfl) ?_
          refine lv_iload_n hx hb dX2_judgeUpTo_101 rfl (lv_at hl 2 rfl) ?_
          have hd4 : NdAt G n ad2 en_49 ns jd (reachR RR mm) (sndL SL mm) S2 g_50 := NdAt_upd17 hd3 hen_49 he_51
          have hst4 : StAt G n ad2 en_49 ss := StAt_keep hst3 (fun k a b => rfl) (fun k a b => by rw [hen_49]; exact va_up_ne _ _ (by omega))
          refine r_callVv (ci := 2) (As := [.int (nI j)]) hx hb hml hown hts hK hA hs (11) (by omega) he_52 rfl rfl (c_X2_gatherRests l G hst4 hd4 hns (k := j) (by omega) (by have := reach_gt RR mm; omega) (fun x => by rw [hr3 j (by have := reach_gt RR mm; omega), df (by omega), Bool.false_and])) (cwV 1 hts (tbV w_ml_RX2_89 w_im_yX2_gatherRests w_se_yX2_gatherRests w_ini_RX2 w_cd_yX2_gatherRests) rfl rfl rfl (by decide +kernel) ⟨Nat.le_of_ble_eq_true rfl, Nat.le_of_ble_eq_true rfl⟩) rfl hl.1 rfl (Nat.le_of_ble_eq_true rfl) dX2_judgeUpTo_102 ⟨by show _ ≤ jMC jd RR SL mm; omega, by show _ ≤ jMS jd RR SL mm; omega⟩ (fun ad_53 en_54 H locs hp_55 hs => ?_)
          obtain ⟨hc5, hf5⟩ := hp_55
          have hd5 := NdAt_upd15 hd4 hc5 hf5
          have ka5 : ∀ k, k < n → k ≠ 16 → k ≠ 17 → ad_53 k = ad k := fun k a b c => (hf5.1 k a (fun q => q)).trans (ka3 k a b c)
          have kd5 : ∀ k, k < n → ¬ (11 ≤ k ∧ k ≤ 17) → en_54 k = en k := fun k a b => (hf5.2 k a (by omega)).trans (by rw [hen_49, va_up_ne _ _ (by omega)]; exact kd3 k a b)
          have hw5 : ∀ k, 1 ≤ k → k < j + 1 → g_50 k = b2i (wellB ss ns k) := well_step hns (by omega) hw3 eg_50 (by rw [b2i_0 c83]; rfl)
          have hl : lv_has ls 3 [(0, .ref (ad_53 11)), (1, .int (nI mm)), (2, .int (nI j))] := by rw [hf5.1 11 (by omega) (fun q => q)]; exact hl
          refine lv_iinc (v := nI (j + 1)) (lv' := [(2, .int (nI (j + 1))), (0, .ref (ad_53 11)), (1, .int (nI mm))]) hx hb dX2_judgeUpTo_105 hl (k := 2) rfl (nI_add j 1) (by decide) rfl (fun ls hl => ?_)
          refine lv_goto (tgt := 68) hx hb dX2_judgeUpTo_108 (by decide) ?_
          exact ih68 (j + 1) (ad_53) (en_54) ((fun r x => if r = j then rE ss ns S2 j x else S2 r x)) (g_50) _ _ _ (by omega) (hd5) (hw5) (rest_step hns (by omega) hr3) (ka5) (kd5) (by omega) hs (lv_sub hl [1, 2, 0] rfl)
        · skip
          refine lv_aload_n hx hb dX2_judgeUpTo_86 rfl (lv_at hl 0 rfl) ?_
          refine lv_iload_n hx hb dX2_judgeUpTo_87 rfl (lv_at hl 2 rfl) ?_
          refine r_callViR (ci := 2) (As := [.int (nI j)]) hx hb hml hown hts hK hA hs (11) (by omega) he11b rfl rfl (c_X2_goalFits l G hst3 hd3 hns (k := j) (by omega)) (cwV 1 hts (tbV w_ml_RX2_86 w_im_yX2_goalFits w_se_yX2_goalFits w_ini_RX2 w_cd_yX2_goalFits) rfl rfl rfl (by decide +kernel) ⟨Nat.le_of_ble_eq_true rfl, Nat.le_of_ble_eq_true rfl⟩) rfl hl.1 rfl (Nat.le_of_ble_eq_true rfl) dX2_judgeUpTo_88 ⟨by show _ ≤ jMC jd RR SL mm; omega, by show _ ≤ jMS jd RR SL mm; omega⟩ (fun H locs hs => ?_)
          refine lv_if_eq (tgt := 98) hx hb dX2_judgeUpTo_91 (by decide) (fun c91 => ?_) (fun c91 => ?_)
          · skip
            refine lv_iconst (v := 0) hx hb dX2_judgeUpTo_98 (by decide) ?_
            refine r_iastN (t := j) hx hb hK hs (17) (by omega) he17c (rfl) (by have := snd_gt SL mm; omega) (by omega) dX2_judgeUpTo_99 (fun H locs en_57 hen_57 hs => ?_)
            obtain ⟨g_58, eg_58⟩ : ∃ z, z = upd (sf2) (j) (0) := ⟨_, rfl⟩
            have he_59 : en_57 (17) = aI G (sndL SL mm) (g_58) := by rw [hen_57, eg_58]; exact va_up_self _ _ _
            have he_60 : en_57 (11) = .inr (2, [.ref (ad2 3), .ref (ad2 12), .ref (ad2 15), .ref (ad2 17), .int (nI jd)]) := by rw [hen_57]; exact (va_up_ne _ _ (by omega)).trans he11b
            refine lv_aload_n hx hb dX2_judgeUpTo_100 rfl (lv_at hl 0 rfl) ?_
            refine lv_iload_n hx hb dX2_judgeUpTo_101 rfl (lv_at hl 2 rfl) ?_
            have hd4 : NdAt G n ad2 en_57 ns jd (reachR RR mm) (sndL SL mm) S2 g_58 := NdAt_upd17 hd3 hen_57 he_59
            have hst4 : StAt G n ad2 en_57 ss := StAt_keep hst3 (fun k a b => rfl) (fun k a b => by rw [hen_57]; exact va_up_ne _ _ (by omega))
            refine r_callVv (ci := 2) (As := [.int (nI j)]) hx hb hml hown hts hK hA hs (11) (by omega) he_60 rfl rfl (c_X2_gatherRests l G hst4 hd4 hns (k := j) (by omega) (by have := reach_gt RR mm; omega) (fun x => by rw [hr3 j (by have := reach_gt RR mm; omega), df (by omega), Bool.false_and])) (cwV 1 hts (tbV w_ml_RX2_89 w_im_yX2_gatherRests w_se_yX2_gatherRests w_ini_RX2 w_cd_yX2_gatherRests) rfl rfl rfl (by decide +kernel) ⟨Nat.le_of_ble_eq_true rfl, Nat.le_of_ble_eq_true rfl⟩) rfl hl.1 rfl (Nat.le_of_ble_eq_true rfl) dX2_judgeUpTo_102 ⟨by show _ ≤ jMC jd RR SL mm; omega, by show _ ≤ jMS jd RR SL mm; omega⟩ (fun ad_61 en_62 H locs hp_63 hs => ?_)
            obtain ⟨hc5, hf5⟩ := hp_63
            have hd5 := NdAt_upd15 hd4 hc5 hf5
            have ka5 : ∀ k, k < n → k ≠ 16 → k ≠ 17 → ad_61 k = ad k := fun k a b c => (hf5.1 k a (fun q => q)).trans (ka3 k a b c)
            have kd5 : ∀ k, k < n → ¬ (11 ≤ k ∧ k ≤ 17) → en_62 k = en k := fun k a b => (hf5.2 k a (by omega)).trans (by rw [hen_57, va_up_ne _ _ (by omega)]; exact kd3 k a b)
            have hw5 : ∀ k, 1 ≤ k → k < j + 1 → g_58 k = b2i (wellB ss ns k) := well_step hns (by omega) hw3 eg_58 (by rw [b2i_1 c83, b2i_0 c91]; rfl)
            have hl : lv_has ls 3 [(0, .ref (ad_61 11)), (1, .int (nI mm)), (2, .int (nI j))] := by rw [hf5.1 11 (by omega) (fun q => q)]; exact hl
            refine lv_iinc (v := nI (j + 1)) (lv' := [(2, .int (nI (j + 1))), (0, .ref (ad_61 11)), (1, .int (nI mm))]) hx hb dX2_judgeUpTo_105 hl (k := 2) rfl (nI_add j 1) (by decide) rfl (fun ls hl => ?_)
            refine lv_goto (tgt := 68) hx hb dX2_judgeUpTo_108 (by decide) ?_
            exact ih68 (j + 1) (ad_61) (en_62) ((fun r x => if r = j then rE ss ns S2 j x else S2 r x)) (g_58) _ _ _ (by omega) (hd5) (hw5) (rest_step hns (by omega) hr3) (ka5) (kd5) (by omega) hs (lv_sub hl [1, 2, 0] rfl)
          · skip
            refine lv_iconst (v := 1) hx hb dX2_judgeUpTo_94 (by decide) ?_
            refine lv_goto (tgt := 99) hx hb dX2_judgeUpTo_95 (by decide) ?_
            refine r_iastN (t := j) hx hb hK hs (17) (by omega) he17c (rfl) (by have := snd_gt SL mm; omega) (by omega) dX2_judgeUpTo_99 (fun H locs en_65 hen_65 hs => ?_)
            obtain ⟨g_66, eg_66⟩ : ∃ z, z = upd (sf2) (j) (1) := ⟨_, rfl⟩
            have he_67 : en_65 (17) = aI G (sndL SL mm) (g_66) := by rw [hen_65, eg_66]; exact va_up_self _ _ _
            have he_68 : en_65 (11) = .inr (2, [.ref (ad2 3), .ref (ad2 12), .ref (ad2 15), .ref (ad2 17), .int (nI jd)]) := by rw [hen_65]; exact (va_up_ne _ _ (by omega)).trans he11b
            refine lv_aload_n hx hb dX2_judgeUpTo_100 rfl (lv_at hl 0 rfl) ?_
            refine lv_iload_n hx hb dX2_judgeUpTo_101 rfl (lv_at hl 2 rfl) ?_
            have hd4 : NdAt G n ad2 en_65 ns jd (reachR RR mm) (sndL SL mm) S2 g_66 := NdAt_upd17 hd3 hen_65 he_67
            have hst4 : StAt G n ad2 en_65 ss := StAt_keep hst3 (fun k a b => rfl) (fun k a b => by rw [hen_65]; exact va_up_ne _ _ (by omega))
            refine r_callVv (ci := 2) (As := [.int (nI j)]) hx hb hml hown hts hK hA hs (11) (by omega) he_68 rfl rfl (c_X2_gatherRests l G hst4 hd4 hns (k := j) (by omega) (by have := reach_gt RR mm; omega) (fun x => by rw [hr3 j (by have := reach_gt RR mm; omega), df (by omega), Bool.false_and])) (cwV 1 hts (tbV w_ml_RX2_89 w_im_yX2_gatherRests w_se_yX2_gatherRests w_ini_RX2 w_cd_yX2_gatherRests) rfl rfl rfl (by decide +kernel) ⟨Nat.le_of_ble_eq_true rfl, Nat.le_of_ble_eq_true rfl⟩) rfl hl.1 rfl (Nat.le_of_ble_eq_true rfl) dX2_judgeUpTo_102 ⟨by show _ ≤ jMC jd RR SL mm; omega, by show _ ≤ jMS jd RR SL mm; omega⟩ (fun ad_69 en_70 H locs hp_71 hs => ?_)
            obtain ⟨hc5, hf5⟩ := hp_71
            have hd5 := NdAt_upd15 hd4 hc5 hf5
            have ka5 : ∀ k, k < n → k ≠ 16 → k ≠ 17 → ad_69 k = ad k := fun k a b c => (hf5.1 k a (fun q => q)).trans (ka3 k a b c)
            have kd5 : ∀ k, k < n → ¬ (11 ≤ k ∧ k ≤ 17) → en_70 k = en k := fun k a b => (hf5.2 k a (by omega)).trans (by rw [hen_65, va_up_ne _ _ (by omega)]; exact kd3 k a b)
            have hw5 : ∀ k, 1 ≤ k → k < j + 1 → g_66 k = b2i (wellB ss ns k) := well_step hns (by omega) hw3 eg_66 (by rw [b2i_1 c83, b2i_1 c91]; rfl)
            have hl : lv_has ls 3 [(0, .ref (ad_69 11)), (1, .int (nI mm)), (2, .int (nI j))] := by rw [hf5.1 11 (by omega) (fun q => q)]; exact hl
            refine lv_iinc (v := nI (j + 1)) (lv' := [(2, .int (nI (j + 1))), (0, .ref (ad_69 11)), (1, .int (nI mm))]) hx hb dX2_judgeUpTo_105 hl (k := 2) rfl (nI_add j 1) (by decide) rfl (fun ls hl => ?_)
            refine lv_goto (tgt := 68) hx hb dX2_judgeUpTo_108 (by decide) ?_
            exact ih68 (j + 1) (ad_69) (en_70) ((fun r x => if r = j then rE ss ns S2 j x else S2 r x)) (g_66) _ _ _ (by omega) (hd5) (hw5) (rest_step hns (by omega) hr3) (ka5) (kd5) (by omega) hs (lv_sub hl [1, 2, 0] rfl)

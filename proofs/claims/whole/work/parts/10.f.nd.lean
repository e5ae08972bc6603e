theorem rest_row {ss ns : List Row} {S : Nat → Nat → Bool} {jd RR k : Nat} (h : ∀ k, k < RR → ∀ x, S k x = (decide (1 ≤ k ∧ k ≤ jd) && restB ss ns k x)) (hk : k < RR) (h1 : 1 ≤ k ∧ k ≤ jd) (x : Nat) : S k x = restB ss ns k x := by
  rw [h k hk, dt h1, Bool.true_and]
def nMake (ns : List Row) (r : Row) : List Row := if kFind ns r = 0 then kApp 8000 ns r else ns
def nMakeR (ns : List Row) (r : Row) : Int32 := if kFind ns r = 0 then kAppR 8000 ns else nI (kFind ns r)
def nMC (ns : List Row) (r : Row) : Nat := if kFind ns r = 0 then kMC 8000 ns else 0
def nMS (ns : List Row) (r : Row) : Nat := if kFind ns r = 0 then kMS 8000 ns else 0
theorem fz8 {ss : List Row} {r : Row} (h : nI (kFind ss r) = 0) (hl : ss.length ≤ 8000) : kFind ss r = 0 := by
  have h1 : kFind ss r ≤ ss.length := kFU_le _ _ _
  exact (nI_eq (by omega) (by decide)).mp h
theorem row_small {L M a b c d e : Nat} (h : ndOK L (M + 1) (a, b, c, d, e)) (hM : M ≤ 8000) (hL : L ≤ 600) : a < 2 ^ 31 ∧ b < 2 ^ 31 ∧ c < 2 ^ 31 ∧ d < 2 ^ 31 ∧ e < 2 ^ 31 := by
  obtain ⟨h1, h2, h3, h4, h5, h6⟩ := h
  simp only at h1 h2 h3 h4 h5 h6
  refine ⟨by omega, by omega, ?_, ?_, ?_⟩
  · split at h4 <;> omega
  · split at h5 <;> omega
  · split at h6 <;> omega
theorem cols_app {ns : List Row} {r : Row} {k : Nat} (h : k ≤ ns.length) : nT (ns ++ [r]) k = nT ns k ∧ nG (ns ++ [r]) k = nG ns k ∧ nA (ns ++ [r]) k = nA ns k ∧ nB (ns ++ [r]) k = nB ns k ∧ nC (ns ++ [r]) k = nC ns k := by
  unfold nT nG nA nB nC
  rw [kAt_app h]
  exact ⟨rfl, rfl, rfl, rfl, rfl⟩
theorem fitN_app {ss ns : List Row} {r : Row} (h : nsOK ss ns) {k : Nat} (hk : 1 ≤ k ∧ k ≤ ns.length) : fitN ss (ns ++ [r]) k = fitN ss ns k := by
  obtain ⟨-, -, hA, hB, hC⟩ := part_lt h hk
  obtain ⟨e1, e2, e3, e4, e5⟩ := cols_app (r := r) hk.2
  unfold fitN
  rw [e1, e2, e3, e4, e5, (cols_app (r := r) (show nA ns k ≤ ns.length by omega)).2.1, (cols_app (r := r) (show nB ns k ≤ ns.length by omega)).2.1, (cols_app (r := r) (show nC ns k ≤ ns.length by omega)).2.1]
theorem psU_app {W : Nat → Bool} {ns : List Row} {r : Row} {k : Nat} (hk : k ≤ ns.length) : ∀ i, psU W (ns ++ [r]) k i = psU W ns k i
  | 0 => rfl
  | i + 1 => by rw [psU, psU, psU_app hk i, kAt_app hk]
theorem wellB_app {ss ns : List Row} {r : Row} (h : nsOK ss ns) : ∀ {m k : Nat}, k ≤ ns.length → wT ss (ns ++ [r]) m k = wT ss ns m k
  | 0, k, _ => rfl
  | m + 1, k, hk => by
    rw [wT_s, wT_s]
    by_cases e : k = m + 1
    · rw [if_pos e, if_pos e]
      have hm : 1 ≤ m + 1 ∧ m + 1 ≤ ns.length := by omega
      rw [fitN_app h hm, psU_app hm.2, show nP (ns ++ [r]) (m + 1) = nP ns (m + 1) by unfold nP; rw [(cols_app hm.2).1]]
      rw [psU_congr (W := wT ss (ns ++ [r]) m) (W2 := wT ss ns m) _ (fun j hj => wellB_app h (by have := (partN h hm hj).2.2; omega))]
    · rw [if_neg e, if_neg e]; exact wellB_app h hk
theorem rE_app {ss ns : List Row} {r : Row} (h : nsOK ss ns) {k : Nat} (hk : 1 ≤ k ∧ k ≤ ns.length) (R : Nat → Nat → Bool) (x : Nat) : rE ss (ns ++ [r]) R k x = rE ss ns R k x := by
  obtain ⟨-, -, hA, hB, hC⟩ := part_lt h hk
  obtain ⟨e1, e2, e3, e4, e5⟩ := cols_app (r := r) hk.2
  unfold rE
  rw [e1, e2, e3, e4, e5, (cols_app (r := r) (show nA ns k ≤ ns.length by omega)).2.1]
theorem restB_app {ss ns : List Row} {r : Row} (h : nsOK ss ns) : ∀ {m k x : Nat}, k ≤ ns.length → rT ss (ns ++ [r]) m k x = rT ss ns m k x
  | 0, k, x, _ => rfl
  | m + 1, k, x, hk => by
    rw [rT_s, rT_s]
    by_cases e : k = m + 1
    · rw [if_pos e, if_pos e]
      have hm : 1 ≤ m + 1 ∧ m + 1 ≤ ns.length := by omega
      obtain ⟨-, -, hA, hB, hC⟩ := part_lt h hm
      rw [rE_app h hm]
      exact rE_congr (restB_app h (by omega)) (restB_app h (by omega)) (restB_app h (by omega))
    · rw [if_neg e, if_neg e]; exact restB_app h hk
theorem nsOK_app {ss ns : List Row} {r : Row} (h : nsOK ss ns) (hlt : ns.length < 8000) (hr : ndOK ss.length (ns.length + 1) r) (hf : kFind ns r = 0) : nsOK ss (ns ++ [r]) := by
  obtain ⟨h1, h2, h3⟩ := h
  have hL : (ns ++ [r]).length = ns.length + 1 := by simp
  have hn : ∀ k, 1 ≤ k → k ≤ ns.length → kAt ns k ≠ r := by
    have key : ∀ m, kFU ns r m = 0 → ∀ k, 1 ≤ k → k ≤ m → kAt ns k ≠ r := by
      intro m
      induction m with
      | zero => intro _ k a b; omega
      | succ m ih =>
        intro e k a b
        rw [kFU] at e
        by_cases c : kAt ns (m + 1) = r
        · rw [if_pos c] at e; cases e
        · rw [if_neg c] at e
          by_cases d : k = m + 1
          · rw [d]; exact c
          · exact ih e k a (by omega)
    exact key _ hf
  refine ⟨by omega, ?_, ?_⟩
  · intro k k1 k2
    rw [hL] at k2
    by_cases e : k = ns.length + 1
    · rw [e, kAt_new]; exact hr
    · rw [kAt_app (by omega)]; exact h2 k k1 (by omega)
  · intro i j i1 i2 j1 j2 e
    rw [hL] at i2 j2
    by_cases ei : i = ns.length + 1 <;> by_cases ej : j = ns.length + 1
    · omega
    · rw [ei, kAt_new, kAt_app (by omega)] at e
      exact absurd e.symm (hn j j1 (by omega))
    · rw [ej, kAt_new, kAt_app (by omega)] at e
      exact absurd e (hn i i1 (by omega))
    · rw [kAt_app (by omega), kAt_app (by omega)] at e
      exact h3 i j i1 (by omega) j1 (by omega) e
theorem NdOK_make {ss ns : List Row} {jd RR SL : Nat} {S : Nat → Nat → Bool} {sf : Nat → Int32} {r : Row} (h : NdOK ss ns jd RR SL S sf) (hr : ndOK ss.length (ns.length + 1) r) (hf : kFind ns r = 0) : NdOK ss (nMake ns r) jd RR SL S sf := by
  rw [nMake, if_pos hf]
  unfold kApp
  by_cases c : ns.length < 8000
  · rw [if_pos c]
    obtain ⟨h1, h2, h3, h4, h5, h6⟩ := h
    have hL : (ns ++ [r]).length = ns.length + 1 := by simp
    refine ⟨nsOK_app h1 c hr hf, by omega, h3, h4, fun k a b => ?_, fun k hk x => ?_⟩
    · rw [h5 k a b]; exact congrArg b2i (wellB_app h1 (by omega)).symm
    · rw [h6 k hk x]
      by_cases q : 1 ≤ k ∧ k ≤ jd
      · exact congrArg (fun z => decide (1 ≤ k ∧ k ≤ jd) && z) (restB_app h1 (by omega)).symm
      · rw [df q, Bool.false_and, Bool.false_and]
  · rw [if_neg c]; exact h
set_option maxHeartbeats 4000000 in
set_option maxRecDepth 100000 in
theorem c_X2_isSound (l : Launch) (G : rG) {n : Nat} {ad : Nat → Nat} {en : Nat → va_E} {ss ns : List Row} {jd RR SL : Nat} {S : Nat → Nat → Bool} {sf : Nat → Int32} (h : StAt G n ad en ss) (hd : NdAt G n ad en ns jd RR SL S sf) (hO : NdOK ss ns jd RR SL S sf) {k : Nat} (hk1 : 1 ≤ k ∧ k ≤ ns.length) : CI l G yX2_isSound uX2_isSound (5) (126) (jMC jd RR SL k) (jMS jd RR SL k) [.ref (ad 11), .int (nI k)] (n) (n) ad en (fun r ad1 en1 => r = b2i (wellB ss ns k) ∧ (∃ S1 sf1, NdAt G n ad1 en1 ns (max jd k) (jRR jd RR k) (jSL jd SL k) S1 sf1 ∧ NdOK ss ns (max jd k) (jRR jd RR k) (jSL jd SL k) S1 sf1) ∧ Fr n (fun k => 11 ≤ k ∧ k ≤ 17) (fun k => k = 16 ∨ k = 17) ad en ad1 en1) := by
  intro sz
  refine rMet (Qc := qI G (n) (fun r ad1 en1 => r = b2i (wellB ss ns k) ∧ (∃ S1 sf1, NdAt G n ad1 en1 ns (max jd k) (jRR jd RR k) (jSL jd SL k) S1 sf1 ∧ NdOK ss ns (max jd k) (jRR jd RR k) (jSL jd SL k) S1 sf1) ∧ Fr n (fun k => 11 ≤ k ∧ k ≤ 17) (fun k => k = 16 ∨ k = 17) ad en ad1 en1)) (cc := cX2_isSound) (maxL := 2) (ret := (some .boolean)) (by decide) rfl (Nat.le_of_ble_eq_true rfl) ?_
  intro pP eE sS mM aA bB tT cC ls A Q hc hK hsz hA hs hl hQ
  obtain ⟨hx, hb, hr, hts, hown, hlk, hnm, hml⟩ := hc
  have hl : lv_has ls 2 [(0, .ref (ad 11)), (1, .int (nI k))] := hl
  have hnd := hd
  obtain ⟨hn, he11, hk, hrs, he17, hSL⟩ := hnd
  obtain ⟨fs12, he12⟩ := KeptAt_recv hk
  obtain ⟨fs15, he15⟩ := SetsAt_recv hrs
  have hle8 : ns.length ≤ 8000 := hk.2.1
  have hlen : ns.length < 2 ^ 31 := by omega
  obtain ⟨fst, hest⟩ : ∃ fs, en 3 = .inr (6, fs) := ⟨_, h.2.1⟩
  have hok := h.2.2.2.2.2
  have hle6 := hok.1
  refine lv_aload_n hx hb dX2_isSound_0 rfl (lv_at hl 0 rfl) ?_
  refine lv_iload_n hx hb dX2_isSound_1 rfl (lv_at hl 1 rfl) ?_
  refine r_callVv (ci := 2) (As := [.int (nI k)]) hx hb hml hown hts hK hA hs (11) (by omega) he11 rfl rfl (c_X2_judgeUpTo l G h hd hO (mm := k) (by omega)) (cwV 1 hts (tbV w_ml_RX2_57 w_im_yX2_judgeUpTo w_se_yX2_judgeUpTo w_ini_RX2 w_cd_yX2_judgeUpTo) rfl rfl rfl (by decide +kernel) ⟨Nat.le_of_ble_eq_true rfl, Nat.le_of_ble_eq_true rfl⟩) rfl hl.1 rfl (Nat.le_of_ble_eq_true rfl) dX2_isSound_2 ⟨by show _ ≤ jMC jd RR SL k; omega, by show _ ≤ jMS jd RR SL k; omega⟩ (fun ad_1 en_2 H locs hp_3 hs => ?_)
  obtain ⟨⟨S1, sf1, hd1, hO1⟩, hfr1⟩ := hp_3
  have hO2 := hO1
  obtain ⟨hns1, hjl1, hjR1, hjS1, hsw1, hsr1⟩ := hO2
  have he11a := hd1.2.1
  have he17a := hd1.2.2.2.2.1
  have hSL1 := hd1.2.2.2.2.2
  have hrs1 := hd1.2.2.2.1
  obtain ⟨fs15a, he15a⟩ := SetsAt_recv hrs1
  have hl : lv_has ls 2 [(0, .ref (ad_1 11)), (1, .int (nI k))] := by rw [hfr1.1 11 (by omega) (by omega)]; exact hl
  refine lv_iload_n hx hb dX2_isSound_5 rfl (lv_at hl 1 rfl) ?_
  refine lv_iconst (v := 1) hx hb dX2_isSound_6 (by decide) ?_
  refine lv_icmp_lt (tgt := 33) hx hb dX2_isSound_7 (by decide) (fun c7 => absurd c7 (nI_nlt (b := 1) hk1.1 (by omega))) (fun _ => ?_)
  refine lv_iload_n hx hb dX2_isSound_10 rfl (lv_at hl 1 rfl) ?_
  refine lv_aload_n hx hb dX2_isSound_11 rfl (lv_at hl 0 rfl) ?_
  refine r_get (ci := 2) (v := .ref (ad_1 17)) (C := RX2) (T := TX2) (N := 5) hx hb hts inlX2 hown hK hs (11) (by omega) he11a rfl 3 (by decide) (hts _ w_fl_RX2_27) rfl dX2_isSound_12 ?_
  refine r_alen (v := nI (jSL jd SL k)) hx hb hK hs (17) 1 (by omega) he17a rfl rfl dX2_isSound_15 ?_
  refine lv_icmp_ge (tgt := 33) hx hb dX2_isSound_16 (by decide) (fun c16 => absurd c16 (nI_ge (by omega) (by omega))) (fun _ => ?_)
  refine lv_aload_n hx hb dX2_isSound_19 rfl (lv_at hl 0 rfl) ?_
  refine r_get (ci := 2) (v := .ref (ad_1 17)) (C := RX2) (T := TX2) (N := 5) hx hb hts inlX2 hown hK hs (11) (by omega) he11a rfl 3 (by decide) (hts _ w_fl_RX2_27) rfl dX2_isSound_20 ?_
  refine lv_iload_n hx hb dX2_isSound_23 rfl (lv_at hl 1 rfl) ?_
  refine r_ialdN (t := k) hx hb hK hs (17) (by omega) he17a (rfl) (by omega) (by omega) dX2_isSound_24 ?_
  refine lv_iconst (v := 1) hx hb dX2_isSound_25 (by decide) ?_
  refine lv_icmp_ne (tgt := 33) hx hb dX2_isSound_26 (by decide) (fun c26 => ?_) (fun c26 => ?_)
  · skip
    refine lv_iconst (v := 0) hx hb dX2_isSound_33 (by decide) ?_
    refine r_zret (v := 0) (mc := jMC jd RR SL k) (ms := jMS jd RR SL k) hx hb hr hlk hs (by omega) (by omega) dX2_isSound_34 ?_ hQ ?_
    · first | exact Or.inl rfl | exact Or.inr rfl | exact b2i_z _
    exact ⟨by rw [b2i_f (fun q => c26 ((hsw1 k hk1.1 (by omega)).trans q))]; rfl, ⟨S1, sf1, hd1, hO1⟩, hfr1⟩
  · skip
    refine lv_iconst (v := 1) hx hb dX2_isSound_29 (by decide) ?_
    refine lv_goto (tgt := 34) hx hb dX2_isSound_30 (by decide) ?_
    refine r_zret (v := 1) (mc := jMC jd RR SL k) (ms := jMS jd RR SL k) hx hb hr hlk hs (by omega) (by omega) dX2_isSound_34 ?_ hQ ?_
    · first | exact Or.inl rfl | exact Or.inr rfl | exact b2i_z _
    exact ⟨by rw [b2i_t ((hsw1 k hk1.1 (by omega)).symm.trans c26)]; rfl, ⟨S1, sf1, hd1, hO1⟩, hfr1⟩

set_option maxHeartbeats 4000000 in
set_option maxRecDepth 100000 in
theorem c_X2_restCount (l : Launch) (G : rG) {n : Nat} {ad : Nat → Nat} {en : Nat → va_E} {ss ns : List Row} {jd RR SL : Nat} {S : Nat → Nat → Bool} {sf : Nat → Int32} (h : StAt G n ad en ss) (hd : NdAt G n ad en ns jd RR SL S sf) (hO : NdOK ss ns jd RR SL S sf) {k : Nat} (hk1 : 1 ≤ k ∧ k ≤ ns.length) : CI l G yX2_restCount uX2_restCount (5) (126) (jMC jd RR SL k) (jMS jd RR SL k) [.ref (ad 11), .int (nI k)] (n) (n) ad en (fun r ad1 en1 => r = nI (cnt (restB ss ns k) 640) ∧ (∃ S1 sf1, NdAt G n ad1 en1 ns (max jd k) (jRR jd RR k) (jSL jd SL k) S1 sf1 ∧ NdOK ss ns (max jd k) (jRR jd RR k) (jSL jd SL k) S1 sf1) ∧ Fr n (fun k => 11 ≤ k ∧ k ≤ 17) (fun k => k = 16 ∨ k = 17) ad en ad1 en1) := by
  intro sz
  refine rMet (Qc := qI G (n) (fun r ad1 en1 => r = nI (cnt (restB ss ns k) 640) ∧ (∃ S1 sf1, NdAt G n ad1 en1 ns (max jd k) (jRR jd RR k) (jSL jd SL k) S1 sf1 ∧ NdOK ss ns (max jd k) (jRR jd RR k) (jSL jd SL k) S1 sf1) ∧ Fr n (fun k => 11 ≤ k ∧ k ≤ 17) (fun k => k = 16 ∨ k = 17) ad en ad1 en1)) (cc := cX2_restCount) (maxL := 2) (ret := (some .int)) (by decide) rfl (Nat.le_of_ble_eq_true rfl) ?_
  intro pP eE sS mM aA bB tT cC ls A Q hc hK hsz hA hs hl hQ
  obtain ⟨hx, hb, hr, hts, hown, hlk, hnm, hml⟩ := hc
  have hl : lv_has ls 2 [(0, .ref (ad 11)), (1, .int (nI k))] := hl
  have hnd := hd
  obtain ⟨hn, he11, hk, hrs, he17, hSL⟩ := hnd
  obtain ⟨fs12, he12⟩ := KeptAt_recv hk
  obtain ⟨fs15, he15⟩ := SetsAt_recv hrs
  have hle8 : ns.length ≤ 8000 := hk.2.1
  have hlen : ns.length < 2 ^ 31 := by omega
  obtain ⟨fst, hest⟩ : ∃ fs, en 3 = .inr (6, fs) := ⟨_, h.2.1⟩
  have hok := h.2.2.2.2.2
  have hle6 := hok.1
  refine lv_aload_n hx hb dX2_restCount_0 rfl (lv_at hl 0 rfl) ?_
  refine lv_iload_n hx hb dX2_restCount_1 rfl (lv_at hl 1 rfl) ?_
  refine r_callVv (ci := 2) (As := [.int (nI k)]) hx hb hml hown hts hK hA hs (11) (by omega) he11 rfl rfl (c_X2_judgeUpTo l G h hd hO (mm := k) (by omega)) (cwV 1 hts (tbV w_ml_RX2_57 w_im_yX2_judgeUpTo w_se_yX2_judgeUpTo w_ini_RX2 w_cd_yX2_judgeUpTo) rfl rfl rfl (by decide +kernel) ⟨Nat.le_of_ble_eq_true rfl, Nat.le_of_ble_eq_true rfl⟩) rfl hl.1 rfl (Nat.le_of_ble_eq_true rfl) dX2_restCount_2 ⟨by show _ ≤ jMC jd RR SL k; omega, by show _ ≤ jMS jd RR SL k; omega⟩ (fun ad_1 en_2 H locs hp_3 hs => ?_)
  obtain ⟨⟨S1, sf1, hd1, hO1⟩, hfr1⟩ := hp_3
  have hO2 := hO1
  obtain ⟨hns1, hjl1, hjR1, hjS1, hsw1, hsr1⟩ := hO2
  have he11a := hd1.2.1
  have he17a := hd1.2.2.2.2.1
  have hSL1 := hd1.2.2.2.2.2
  have hrs1 := hd1.2.2.2.1
  obtain ⟨fs15a, he15a⟩ := SetsAt_recv hrs1
  have hl : lv_has ls 2 [(0, .ref (ad_1 11)), (1, .int (nI k))] := by rw [hfr1.1 11 (by omega) (by omega)]; exact hl
  refine lv_aload_n hx hb dX2_restCount_5 rfl (lv_at hl 0 rfl) ?_
  refine r_get (ci := 2) (v := .ref (ad_1 15)) (C := RX2) (T := TX2) (N := 5) hx hb hts inlX2 hown hK hs (11) (by omega) he11a rfl 2 (by decide) (hts _ w_fl_RX2_23) rfl dX2_restCount_6 ?_
  refine lv_iload_n hx hb dX2_restCount_9 rfl (lv_at hl 1 rfl) ?_
  refine r_callViR (ci := 5) (As := [.int (nI k)]) hx hb hml hown hts hK hA hs (15) (by omega) he15a rfl rfl (c_X5_count l G hrs1 (row := k) (by omega)) (cwV 1 hts (tbV w_ml_RX2_60 w_im_yX5_count w_se_yX5_count w_ini_RX5 w_cd_yX5_count) rfl rfl rfl (by decide +kernel) ⟨Nat.le_of_ble_eq_true rfl, Nat.le_of_ble_eq_true rfl⟩) rfl hl.1 rfl (Nat.le_of_ble_eq_true rfl) dX2_restCount_10 ⟨by show _ ≤ jMC jd RR SL k; omega, by show _ ≤ jMS jd RR SL k; omega⟩ (fun H locs hs => ?_)
  refine r_iret (v := nI (cnt (S1 k) 640)) (mc := jMC jd RR SL k) (ms := jMS jd RR SL k) hx hb hr hlk hs (by omega) (by omega) dX2_restCount_13 hQ ?_
  exact ⟨by rw [cnt_congr 640 (fun i hi => rest_row hsr1 (by omega) (by omega) i)], ⟨S1, sf1, hd1, hO1⟩, hfr1⟩

set_option maxHeartbeats 4000000 in
set_option maxRecDepth 100000 in
theorem c_X2_restAbove (l : Launch) (G : rG) {n : Nat} {ad : Nat → Nat} {en : Nat → va_E} {ss ns : List Row} {jd RR SL : Nat} {S : Nat → Nat → Bool} {sf : Nat → Int32} (h : StAt G n ad en ss) (hd : NdAt G n ad en ns jd RR SL S sf) (hO : NdOK ss ns jd RR SL S sf) {k : Nat} (hk1 : 1 ≤ k ∧ k ≤ ns.length) (x : Int32) : CI l G yX2_restAbove uX2_restAbove (5) (126) (jMC jd RR SL k) (jMS jd RR SL k) [.ref (ad 11), .int (nI k), .int (x)] (n) (n) ad en (fun r ad1 en1 => r = nI (sLeast (restB ss ns k) x) ∧ (∃ S1 sf1, NdAt G n ad1 en1 ns (max jd k) (jRR jd RR k) (jSL jd SL k) S1 sf1 ∧ NdOK ss ns (max jd k) (jRR jd RR k) (jSL jd SL k) S1 sf1) ∧ Fr n (fun k => 11 ≤ k ∧ k ≤ 17) (fun k => k = 16 ∨ k = 17) ad en ad1 en1) := by
  intro sz
  refine rMet (Qc := qI G (n) (fun r ad1 en1 => r = nI (sLeast (restB ss ns k) x) ∧ (∃ S1 sf1, NdAt G n ad1 en1 ns (max jd k) (jRR jd RR k) (jSL jd SL k) S1 sf1 ∧ NdOK ss ns (max jd k) (jRR jd RR k) (jSL jd SL k) S1 sf1) ∧ Fr n (fun k => 11 ≤ k ∧ k ≤ 17) (fun k => k = 16 ∨ k = 17) ad en ad1 en1)) (cc := cX2_restAbove) (maxL := 3) (ret := (some .int)) (by decide) rfl (Nat.le_of_ble_eq_true rfl) ?_
  intro pP eE sS mM aA bB tT cC ls A Q hc hK hsz hA hs hl hQ
  obtain ⟨hx, hb, hr, hts, hown, hlk, hnm, hml⟩ := hc
  have hl : lv_has ls 3 [(0, .ref (ad 11)), (1, .int (nI k)), (2, .int (x))] := hl
  have hnd := hd
  obtain ⟨hn, he11, hk, hrs, he17, hSL⟩ := hnd
  obtain ⟨fs12, he12⟩ := KeptAt_recv hk
  obtain ⟨fs15, he15⟩ := SetsAt_recv hrs
  have hle8 : ns.length ≤ 8000 := hk.2.1
  have hlen : ns.length < 2 ^ 31 := by omega
  obtain ⟨fst, hest⟩ : ∃ fs, en 3 = .inr (6, fs) := ⟨_, h.2.1⟩
  have hok := h.2.2.2.2.2
  have hle6 := hok.1
  refine lv_aload_n hx hb dX2_restAbove_0 rfl (lv_at hl 0 rfl) ?_
  refine lv_iload_n hx hb dX2_restAbove_1 rfl (lv_at hl 1 rfl) ?_
  refine r_callVv (ci := 2) (As := [.int (nI k)]) hx hb hml hown hts hK hA hs (11) (by omega) he11 rfl rfl (c_X2_judgeUpTo l G h hd hO (mm := k) (by omega)) (cwV 1 hts (tbV w_ml_RX2_57 w_im_yX2_judgeUpTo w_se_yX2_judgeUpTo w_ini_RX2 w_cd_yX2_judgeUpTo) rfl rfl rfl (by decide +kernel) ⟨Nat.le_of_ble_eq_true rfl, Nat.le_of_ble_eq_true rfl⟩) rfl hl.1 rfl (Nat.le_of_ble_eq_true rfl) dX2_restAbove_2 ⟨by show _ ≤ jMC jd RR SL k; omega, by show _ ≤ jMS jd RR SL k; omega⟩ (fun ad_1 en_2 H locs hp_3 hs => ?_)
  obtain ⟨⟨S1, sf1, hd1, hO1⟩, hfr1⟩ := hp_3
  have hO2 := hO1
  obtain ⟨hns1, hjl1, hjR1, hjS1, hsw1, hsr1⟩ := hO2
  have he11a := hd1.2.1
  have he17a := hd1.2.2.2.2.1
  have hSL1 := hd1.2.2.2.2.2
  have hrs1 := hd1.2.2.2.1
  obtain ⟨fs15a, he15a⟩ := SetsAt_recv hrs1
  have hl : lv_has ls 3 [(0, .ref (ad_1 11)), (1, .int (nI k)), (2, .int (x))] := by rw [hfr1.1 11 (by omega) (by omega)]; exact hl
  refine lv_aload_n hx hb dX2_restAbove_5 rfl (lv_at hl 0 rfl) ?_
  refine r_get (ci := 2) (v := .ref (ad_1 15)) (C := RX2) (T := TX2) (N := 5) hx hb hts inlX2 hown hK hs (11) (by omega) he11a rfl 2 (by decide) (hts _ w_fl_RX2_23) rfl dX2_restAbove_6 ?_
  refine lv_iload_n hx hb dX2_restAbove_9 rfl (lv_at hl 1 rfl) ?_
  refine lv_aload_n hx hb dX2_restAbove_10 rfl (lv_at hl 0 rfl) ?_
  refine r_get (ci := 2) (v := .ref (ad_1 15)) (C := RX2) (T := TX2) (N := 5) hx hb hts inlX2 hown hK hs (11) (by omega) he11a rfl 2 (by decide) (hts _ w_fl_RX2_23) rfl dX2_restAbove_11 ?_
  refine lv_iload_n hx hb dX2_restAbove_14 rfl (lv_at hl 1 rfl) ?_
  refine lv_iload_n hx hb dX2_restAbove_15 rfl (lv_at hl 2 rfl) ?_
  refine r_callViR (ci := 5) (As := [.int (nI k), .ref (ad_1 15), .int (nI k), .int (x)]) hx hb hml hown hts hK hA hs (15) (by omega) he15a rfl rfl (c_X5_leastShared l G hrs1 hrs1 (row := k) (row2 := k) (by omega) (by omega) (x)) (cwV 4 hts (tbV w_ml_RX2_64 w_im_yX5_leastShared w_se_yX5_leastShared w_ini_RX5 w_cd_yX5_leastShared) rfl rfl rfl (by decide +kernel) ⟨Nat.le_of_ble_eq_true rfl, Nat.le_of_ble_eq_true rfl⟩) rfl hl.1 rfl (Nat.le_of_ble_eq_true rfl) dX2_restAbove_16 ⟨by show _ ≤ jMC jd RR SL k; omega, by show _ ≤ jMS jd RR SL k; omega⟩ (fun H locs hs => ?_)
  refine r_iret (v := nI (sLeast (fun y => S1 k y && S1 k y) (x))) (mc := jMC jd RR SL k) (ms := jMS jd RR SL k) hx hb hr hlk hs (by omega) (by omega) dX2_restAbove_19 hQ ?_
  exact ⟨by rw [show (fun y => S1 k y && S1 k y) = restB ss ns k from funext (fun y => by rw [rest_row hsr1 (by omega) (by omega) y, Bool.and_self])], ⟨S1, sf1, hd1, hO1⟩, hfr1⟩

set_option maxHeartbeats 4000000 in
set_option maxRecDepth 100000 in
theorem c_X2_make (l : Launch) (G : rG) {n : Nat} {ad : Nat → Nat} {en : Nat → va_E} {ss ns : List Row} {jd RR SL : Nat} {S : Nat → Nat → Bool} {sf : Nat → Int32} (hd : NdAt G n ad en ns jd RR SL S sf) (hO : NdOK ss ns jd RR SL S sf) (h6 : ss.length ≤ 600) {a b c1 d e1 : Nat} (hrow : ndOK ss.length (ns.length + 1) (a, b, c1, d, e1)) : CI l G yX2_make uX2_make (3) (109) (nMC ns (a, b, c1, d, e1)) (nMS ns (a, b, c1, d, e1)) [.ref (ad 11), .int (nI a), .int (nI b), .int (nI c1), .int (nI d), .int (nI e1)] (n) (n) ad en (fun r ad1 en1 => r = nMakeR ns (a, b, c1, d, e1) ∧ NdAt G n ad1 en1 (nMake ns (a, b, c1, d, e1)) jd RR SL S sf ∧ NdOK ss (nMake ns (a, b, c1, d, e1)) jd RR SL S sf ∧ Fr n (fun k => 11 ≤ k ∧ k ≤ 17) (fun k => k = 14) ad en ad1 en1) := by
  intro sz
  refine rMet (Qc := qI G (n) (fun r ad1 en1 => r = nMakeR ns (a, b, c1, d, e1) ∧ NdAt G n ad1 en1 (nMake ns (a, b, c1, d, e1)) jd RR SL S sf ∧ NdOK ss (nMake ns (a, b, c1, d, e1)) jd RR SL S sf ∧ Fr n (fun k => 11 ≤ k ∧ k ≤ 17) (fun k => k = 14) ad en ad1 en1)) (cc := cX2_make) (maxL := 7) (ret := (some .int)) (by decide) rfl (Nat.le_of_ble_eq_true rfl) ?_
  intro pP eE sS mM aA bB tT cC ls A Q hc hK hsz hA hs hl hQ
  obtain ⟨hx, hb, hr, hts, hown, hlk, hnm, hml⟩ := hc
  have hl : lv_has ls 7 [(0, .ref (ad 11)), (1, .int (nI a)), (2, .int (nI b)), (3, .int (nI c1)), (4, .int (nI d)), (5, .int (nI e1))] := hl
  have hnd := hd
  obtain ⟨hn, he11, hk, hrs, he17, hSL⟩ := hnd
  obtain ⟨fs12, he12⟩ := KeptAt_recv hk
  obtain ⟨fs15, he15⟩ := SetsAt_recv hrs
  have hle8 : ns.length ≤ 8000 := hk.2.1
  have hlen : ns.length < 2 ^ 31 := by omega
  have hab := row_small hrow hle8 h6
  refine lv_aload_n hx hb dX2_make_0 rfl (lv_at hl 0 rfl) ?_
  refine r_get (ci := 2) (v := .ref (ad 12)) (C := RX2) (T := TX2) (N := 5) hx hb hts inlX2 hown hK hs (11) (by omega) he11 rfl 1 (by decide) (hts _ w_fl_RX2_14) rfl dX2_make_1 ?_
  refine lv_iload_n hx hb dX2_make_4 rfl (lv_at hl 1 rfl) ?_
  refine lv_iload_n hx hb dX2_make_5 rfl (lv_at hl 2 rfl) ?_
  refine lv_iload_n hx hb dX2_make_6 rfl (lv_at hl 3 rfl) ?_
  refine lv_iload hx hb dX2_make_7 (lv_at hl 4 rfl) ?_
  refine lv_iload hx hb dX2_make_9 (lv_at hl 5 rfl) ?_
  refine r_callViR (ci := 1) (As := [.int (nI a), .int (nI b), .int (nI c1), .int (nI d), .int (nI e1)]) hx hb hml hown hts hK hA hs (12) (by omega) he12 rfl rfl (c_X1_find l G hk (a := a) (b := b) (c1 := c1) (d := d) (e1 := e1) hab) (cwV 5 hts (tbV w_ml_RX2_50 w_im_yX1_find w_se_yX1_find w_ini_RX1 w_cd_yX1_find) rfl rfl rfl (by decide +kernel) ⟨Nat.le_of_ble_eq_true rfl, Nat.le_of_ble_eq_true rfl⟩) rfl hl.1 rfl (Nat.le_of_ble_eq_true rfl) dX2_make_11 ⟨Nat.zero_le _, Nat.zero_le _⟩ (fun H locs hs => ?_)
  refine lv_istore (lv' := [(6, .int (nI (kFind ns (a, b, c1, d, e1)))), (0, .ref (ad 11)), (1, .int (nI a)), (2, .int (nI b)), (3, .int (nI c1)), (4, .int (nI d)), (5, .int (nI e1))]) hx hb dX2_make_14 hl (by decide) rfl (fun ls hl => ?_)
  refine lv_iload hx hb dX2_make_16 (lv_at hl 0 rfl) ?_
  refine lv_if_eq (tgt := 26) hx hb dX2_make_18 (by decide) (fun c18 => ?_) (fun c18 => ?_)
  · skip
    have hf0 : kFind ns (a, b, c1, d, e1) = 0 := fz8 c18 hle8
    have hM1 : nMC ns (a, b, c1, d, e1) = kMC 8000 ns := if_pos hf0
    have hM2 : nMS ns (a, b, c1, d, e1) = kMS 8000 ns := if_pos hf0
    refine lv_aload_n hx hb dX2_make_26 rfl (lv_at hl 1 rfl) ?_
    refine r_get (ci := 2) (v := .ref (ad 12)) (C := RX2) (T := TX2) (N := 5) hx hb hts inlX2 hown hK hs (11) (by omega) he11 rfl 1 (by decide) (hts _ w_fl_RX2_14) rfl dX2_make_27 ?_
    refine lv_iload_n hx hb dX2_make_30 rfl (lv_at hl 2 rfl) ?_
    refine lv_iload_n hx hb dX2_make_31 rfl (lv_at hl 3 rfl) ?_
    refine lv_iload_n hx hb dX2_make_32 rfl (lv_at hl 4 rfl) ?_
    refine lv_iload hx hb dX2_make_33 (lv_at hl 5 rfl) ?_
    refine lv_iload hx hb dX2_make_35 (lv_at hl 6 rfl) ?_
    refine r_callVi (ci := 1) (As := [.int (nI a), .int (nI b), .int (nI c1), .int (nI d), .int (nI e1)]) hx hb hml hown hts hK hA hs (12) (by omega) he12 rfl rfl (c_X1_append l G hk (a := a) (b := b) (c1 := c1) (d := d) (e1 := e1) hab) (cwV 5 hts (tbV w_ml_RX2_54 w_im_yX1_append w_se_yX1_append w_ini_RX1 w_cd_yX1_append) rfl rfl rfl (by decide +kernel) ⟨Nat.le_of_ble_eq_true rfl, Nat.le_of_ble_eq_true rfl⟩) rfl hl.1 rfl (Nat.le_of_ble_eq_true rfl) dX2_make_37 ⟨by show _ ≤ nMC ns (a, b, c1, d, e1); omega, by show _ ≤ nMS ns (a, b, c1, d, e1); omega⟩ (fun r_4 ad_1 en_2 H locs hp_3 hs => ?_)
    obtain ⟨hap, hk1, hfr1⟩ := hp_3
    have ka : ∀ k, k < n → k ≠ 14 → ad_1 k = ad k := fun k x y => hfr1.1 k x y
    have ke : ∀ k, k < n → ¬ (12 ≤ k ∧ k ≤ 14) → en_2 k = en k := fun k x y => hfr1.2 k x y
    have hd1 : NdAt G n ad_1 en_2 (nMake ns (a, b, c1, d, e1)) jd RR SL S sf := ⟨hn, by rw [ka 3 (by omega) (by decide), ka 12 (by omega) (by decide), ka 15 (by omega) (by decide), ka 17 (by omega) (by decide)]; exact (ke 11 (by omega) (by omega)).trans he11, by rw [nMake, if_pos hf0]; exact hk1, SetsAt_keep hrs (fun k x y => ka k (by omega) (by omega)) (fun k x y => ke k (by omega) (by omega)), (ke 17 (by omega) (by omega)).trans he17, hSL⟩
    refine r_iret (v := r_4) (mc := nMC ns (a, b, c1, d, e1)) (ms := nMS ns (a, b, c1, d, e1)) hx hb hr hlk hs (by first | omega | exact Nat.zero_le _) (by first | omega | exact Nat.zero_le _) dX2_make_40 hQ ?_
    exact ⟨by rw [nMakeR, if_pos hf0]; exact hap, hd1, NdOK_make hO hrow hf0, fun k x y => ka k x y, fun k x y => ke k x (by omega)⟩
  · skip
    have hf0 : ¬ kFind ns (a, b, c1, d, e1) = 0 := fun q => c18 (by rw [q]; rfl)
    refine lv_iload hx hb dX2_make_21 (lv_at hl 0 rfl) ?_
    refine lv_goto (tgt := 40) hx hb dX2_make_23 (by decide) ?_
    refine r_iret (v := nI (kFind ns (a, b, c1, d, e1))) (mc := nMC ns (a, b, c1, d, e1)) (ms := nMS ns (a, b, c1, d, e1)) hx hb hr hlk hs (by first | omega | exact Nat.zero_le _) (by first | omega | exact Nat.zero_le _) dX2_make_40 hQ ?_
    exact ⟨by rw [nMakeR, if_neg hf0], by rw [nMake, if_neg hf0]; exact hd, by rw [nMake, if_neg hf0]; exact hO, fun _ _ _ => rfl, fun _ _ _ => rfl⟩

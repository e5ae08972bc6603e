theorem c_X1_getN (l : Launch) (G : rG) {n p : Nat} {ad : Nat → Nat} {en : Nat → va_E} {most : Nat} {ks : List Row} (h : KeptAt G n p ad en most ks) (k c : Nat) (hk : k < 2 ^ 31) (hc : c < 5) (hl : ks.length < 2 ^ 31) : CI l G yX1_get uX1_get 0 0 0 0 [.ref (ad p), .int (nI k), .int (nI c)] n n ad en (roV ad en (nI (rowCol (kAt ks k) c))) := by
  have := c_X1_get l G h (nI k) (nI c)
  rw [kGet_nI hl hk hc] at this
  exact this
set_option maxHeartbeats 4000000 in
set_option maxRecDepth 100000 in
theorem c_X2_size (l : Launch) (G : rG) {n : Nat} {ad : Nat → Nat} {en : Nat → va_E} {ns : List Row} {jd RR SL : Nat} {S : Nat → Nat → Bool} {sf : Nat → Int32} (hd : NdAt G n ad en ns jd RR SL S sf) : CI l G yX2_size uX2_size (1) (20) (0) (0) [.ref (ad 11)] (n) (n) ad en (roV ad en (nI ns.length)) := by
  intro sz
  refine rMet (Qc := qI G (n) (roV ad en (nI ns.length))) (cc := cX2_size) (maxL := 1) (ret := (some .int)) (by decide) rfl (Nat.le_of_ble_eq_true rfl) ?_
  intro pP eE sS mM aA bB tT cC ls A Q hc hK hsz hA hs hl hQ
  obtain ⟨hx, hb, hr, hts, hown, hlk, hnm, hml⟩ := hc
  have hl : lv_has ls 1 [(0, .ref (ad 11))] := hl
  have hnd := hd
  obtain ⟨hn, he11, hk, hrs, he17, hSL⟩ := hnd
  obtain ⟨fs12, he12⟩ := KeptAt_recv hk
  obtain ⟨fs15, he15⟩ := SetsAt_recv hrs
  have hle8 : ns.length ≤ 8000 := hk.2.1
  have hlen : ns.length < 2 ^ 31 := by omega
  refine lv_aload_n hx hb dX2_size_0 rfl (lv_at hl 0 rfl) ?_
  refine r_get (ci := 2) (v := .ref (ad 12)) (C := RX2) (T := TX2) (N := 5) hx hb hts inlX2 hown hK hs (11) (by omega) he11 rfl 1 (by decide) (hts _ w_fl_RX2_14) rfl dX2_size_1 ?_
  refine r_callViR (ci := 1) (As := []) hx hb hml hown hts hK hA hs (12) (by omega) he12 rfl rfl (c_X1_size l G hk) (cwV 0 hts (tbV w_ml_RX2_42 w_im_yX1_size w_se_yX1_size w_ini_RX1 w_cd_yX1_size) rfl rfl rfl (by decide +kernel) ⟨Nat.le_of_ble_eq_true rfl, Nat.le_of_ble_eq_true rfl⟩) rfl hl.1 rfl (Nat.le_of_ble_eq_true rfl) dX2_size_4 ⟨Nat.zero_le _, Nat.zero_le _⟩ (fun H locs hs => ?_)
  refine r_iret (v := nI ns.length) (mc := 0) (ms := 0) hx hb hr hlk hs (Nat.le_refl _) (Nat.le_refl _) dX2_size_7 hQ ?_
  exact roV.rf rfl

set_option maxHeartbeats 4000000 in
set_option maxRecDepth 100000 in
theorem c_X2_holds (l : Launch) (G : rG) {n : Nat} {ad : Nat → Nat} {en : Nat → va_E} {ns : List Row} {jd RR SL : Nat} {S : Nat → Nat → Bool} {sf : Nat → Int32} (hd : NdAt G n ad en ns jd RR SL S sf) (x : Int32) : CI l G yX2_holds uX2_holds (1) (20) (0) (0) [.ref (ad 11), .int (x)] (n) (n) ad en (roV ad en (b2i (kHolds ns x))) := by
  intro sz
  refine rMet (Qc := qI G (n) (roV ad en (b2i (kHolds ns x)))) (cc := cX2_holds) (maxL := 2) (ret := (some .boolean)) (by decide) rfl (Nat.le_of_ble_eq_true rfl) ?_
  intro pP eE sS mM aA bB tT cC ls A Q hc hK hsz hA hs hl hQ
  obtain ⟨hx, hb, hr, hts, hown, hlk, hnm, hml⟩ := hc
  have hl : lv_has ls 2 [(0, .ref (ad 11)), (1, .int (x))] := hl
  have hnd := hd
  obtain ⟨hn, he11, hk, hrs, he17, hSL⟩ := hnd
  obtain ⟨fs12, he12⟩ := KeptAt_recv hk
  obtain ⟨fs15, he15⟩ := SetsAt_recv hrs
  have hle8 : ns.length ≤ 8000 := hk.2.1
  have hlen : ns.length < 2 ^ 31 := by omega
  refine lv_iload_n hx hb dX2_holds_0 rfl (lv_at hl 1 rfl) ?_
  refine lv_iconst (v := 1) hx hb dX2_holds_1 (by decide) ?_
  refine lv_icmp_lt (tgt := 20) hx hb dX2_holds_2 (by decide) (fun c2 => ?_) (fun c2 => ?_)
  · skip
    refine lv_iconst (v := 0) hx hb dX2_holds_20 (by decide) ?_
    refine r_zret (v := 0) (mc := 0) (ms := 0) hx hb hr hlk hs (Nat.le_refl _) (Nat.le_refl _) dX2_holds_21 ?_ hQ ?_
    · first | exact Or.inl rfl | exact Or.inr rfl | exact b2i_z _
    exact roV.rf (by rw [holds_n hlen (by first | exact Or.inl c2 | exact Or.inr c13)]; rfl)
  · skip
    refine lv_iload_n hx hb dX2_holds_5 rfl (lv_at hl 1 rfl) ?_
    refine lv_aload_n hx hb dX2_holds_6 rfl (lv_at hl 0 rfl) ?_
    refine r_get (ci := 2) (v := .ref (ad 12)) (C := RX2) (T := TX2) (N := 5) hx hb hts inlX2 hown hK hs (11) (by omega) he11 rfl 1 (by decide) (hts _ w_fl_RX2_14) rfl dX2_holds_7 ?_
    refine r_callViR (ci := 1) (As := []) hx hb hml hown hts hK hA hs (12) (by omega) he12 rfl rfl (c_X1_size l G hk) (cwV 0 hts (tbV w_ml_RX2_42 w_im_yX1_size w_se_yX1_size w_ini_RX1 w_cd_yX1_size) rfl rfl rfl (by decide +kernel) ⟨Nat.le_of_ble_eq_true rfl, Nat.le_of_ble_eq_true rfl⟩) rfl hl.1 rfl (Nat.le_of_ble_eq_true rfl) dX2_holds_10 ⟨Nat.zero_le _, Nat.zero_le _⟩ (fun H locs hs => ?_)
    refine lv_icmp_gt (tgt := 20) hx hb dX2_holds_13 (by decide) (fun c13 => ?_) (fun c13 => ?_)
    · skip
      refine lv_iconst (v := 0) hx hb dX2_holds_20 (by decide) ?_
      refine r_zret (v := 0) (mc := 0) (ms := 0) hx hb hr hlk hs (Nat.le_refl _) (Nat.le_refl _) dX2_holds_21 ?_ hQ ?_
      · first | exact Or.inl rfl | exact Or.inr rfl | exact b2i_z _
      exact roV.rf (by rw [holds_n hlen (by first | exact Or.inl c2 | exact Or.inr c13)]; rfl)
    · skip
      refine lv_iconst (v := 1) hx hb dX2_holds_16 (by decide) ?_
      refine lv_goto (tgt := 21) hx hb dX2_holds_17 (by decide) ?_
      refine r_zret (v := 1) (mc := 0) (ms := 0) hx hb hr hlk hs (Nat.le_refl _) (Nat.le_refl _) dX2_holds_21 ?_ hQ ?_
      · first | exact Or.inl rfl | exact Or.inr rfl | exact b2i_z _
      exact roV.rf (by rw [holds_y hlen c2 c13]; rfl)

set_option maxHeartbeats 4000000 in
set_option maxRecDepth 100000 in
theorem c_X2_read (l : Launch) (G : rG) {n : Nat} {ad : Nat → Nat} {en : Nat → va_E} {ns : List Row} {jd RR SL : Nat} {S : Nat → Nat → Bool} {sf : Nat → Int32} (hd : NdAt G n ad en ns jd RR SL S sf) (x y : Int32) : CI l G yX2_read uX2_read (1) (23) (0) (0) [.ref (ad 11), .int (x), .int (y)] (n) (n) ad en (roV ad en (kGet ns x y)) := by
  intro sz
  refine rMet (Qc := qI G (n) (roV ad en (kGet ns x y))) (cc := cX2_read) (maxL := 3) (ret := (some .int)) (by decide) rfl (Nat.le_of_ble_eq_true rfl) ?_
  intro pP eE sS mM aA bB tT cC ls A Q hc hK hsz hA hs hl hQ
  obtain ⟨hx, hb, hr, hts, hown, hlk, hnm, hml⟩ := hc
  have hl : lv_has ls 3 [(0, .ref (ad 11)), (1, .int (x)), (2, .int (y))] := hl
  have hnd := hd
  obtain ⟨hn, he11, hk, hrs, he17, hSL⟩ := hnd
  obtain ⟨fs12, he12⟩ := KeptAt_recv hk
  obtain ⟨fs15, he15⟩ := SetsAt_recv hrs
  have hle8 : ns.length ≤ 8000 := hk.2.1
  have hlen : ns.length < 2 ^ 31 := by omega
  refine lv_aload_n hx hb dX2_read_0 rfl (lv_at hl 0 rfl) ?_
  refine r_get (ci := 2) (v := .ref (ad 12)) (C := RX2) (T := TX2) (N := 5) hx hb hts inlX2 hown hK hs (11) (by omega) he11 rfl 1 (by decide) (hts _ w_fl_RX2_14) rfl dX2_read_1 ?_
  refine lv_iload_n hx hb dX2_read_4 rfl (lv_at hl 1 rfl) ?_
  refine lv_iload_n hx hb dX2_read_5 rfl (lv_at hl 2 rfl) ?_
  refine r_callViR (ci := 1) (As := [.int (x), .int (y)]) hx hb hml hown hts hK hA hs (12) (by omega) he12 rfl rfl (c_X1_get l G hk (x) (y)) (cwV 2 hts (tbV w_ml_RX2_46 w_im_yX1_get w_se_yX1_get w_ini_RX1 w_cd_yX1_get) rfl rfl rfl (by decide +kernel) ⟨Nat.le_of_ble_eq_true rfl, Nat.le_of_ble_eq_true rfl⟩) rfl hl.1 rfl (Nat.le_of_ble_eq_true rfl) dX2_read_6 ⟨Nat.zero_le _, Nat.zero_le _⟩ (fun H locs hs => ?_)
  refine r_iret (v := kGet ns (x) (y)) (mc := 0) (ms := 0) hx hb hr hlk hs (Nat.le_refl _) (Nat.le_refl _) dX2_read_9 hQ ?_
  exact roV.rf rfl

set_option maxHeartbeats 4000000 in
set_option maxRecDepth 100000 in
theorem c_X2_goalOf (l : Launch) (G : rG) {n : Nat} {ad : Nat → Nat} {en : Nat → va_E} {ns : List Row} {jd RR SL : Nat} {S : Nat → Nat → Bool} {sf : Nat → Int32} (hd : NdAt G n ad en ns jd RR SL S sf) (x : Int32) : CI l G yX2_goalOf uX2_goalOf (1) (23) (0) (0) [.ref (ad 11), .int (x)] (n) (n) ad en (roV ad en (kGet ns x (nI 1))) := by
  intro sz
  refine rMet (Qc := qI G (n) (roV ad en (kGet ns x (nI 1)))) (cc := cX2_goalOf) (maxL := 2) (ret := (some .int)) (by decide) rfl (Nat.le_of_ble_eq_true rfl) ?_
  intro pP eE sS mM aA bB tT cC ls A Q hc hK hsz hA hs hl hQ
  obtain ⟨hx, hb, hr, hts, hown, hlk, hnm, hml⟩ := hc
  have hl : lv_has ls 2 [(0, .ref (ad 11)), (1, .int (x))] := hl
  have hnd := hd
  obtain ⟨hn, he11, hk, hrs, he17, hSL⟩ := hnd
  obtain ⟨fs12, he12⟩ := KeptAt_recv hk
  obtain ⟨fs15, he15⟩ := SetsAt_recv hrs
  have hle8 : ns.length ≤ 8000 := hk.2.1
  have hlen : ns.length < 2 ^ 31 := by omega
  refine lv_aload_n hx hb dX2_goalOf_0 rfl (lv_at hl 0 rfl) ?_
  refine r_get (ci := 2) (v := .ref (ad 12)) (C := RX2) (T := TX2) (N := 5) hx hb hts inlX2 hown hK hs (11) (by omega) he11 rfl 1 (by decide) (hts _ w_fl_RX2_14) rfl dX2_goalOf_1 ?_
  refine lv_iload_n hx hb dX2_goalOf_4 rfl (lv_at hl 1 rfl) ?_
  refine lv_iconst (v := 1) hx hb dX2_goalOf_5 (by decide) ?_
  refine r_callViR (ci := 1) (As := [.int (x), .int (1)]) hx hb hml hown hts hK hA hs (12) (by omega) he12 rfl rfl (c_X1_get l G hk (x) (1)) (cwV 2 hts (tbV w_ml_RX2_46 w_im_yX1_get w_se_yX1_get w_ini_RX1 w_cd_yX1_get) rfl rfl rfl (by decide +kernel) ⟨Nat.le_of_ble_eq_true rfl, Nat.le_of_ble_eq_true rfl⟩) rfl hl.1 rfl (Nat.le_of_ble_eq_true rfl) dX2_goalOf_6 ⟨Nat.zero_le _, Nat.zero_le _⟩ (fun H locs hs => ?_)
  refine r_iret (v := kGet ns (x) (1)) (mc := 0) (ms := 0) hx hb hr hlk hs (Nat.le_refl _) (Nat.le_refl _) dX2_goalOf_9 hQ ?_
  exact roV.rf rfl
theorem c_X2_goalOfN (l : Launch) (G : rG) {n : Nat} {ad : Nat → Nat} {en : Nat → va_E} {ns : List Row} {jd RR SL : Nat} {S : Nat → Nat → Bool} {sf : Nat → Int32} (hd : NdAt G n ad en ns jd RR SL S sf) (k : Nat) (hk : k < 2 ^ 31) : CI l G yX2_goalOf uX2_goalOf (1) (23) 0 0 [.ref (ad 11), .int (nI k)] n n ad en (roV ad en (nI (nG ns k))) := by
  have := c_X2_goalOf l G hd (nI k)
  rw [kGet_nI (by have := hd.2.2.1.2.1; omega) hk (by decide)] at this
  exact this
theorem c_X6_isOfN (l : Launch) (G : rG) {n : Nat} {ad : Nat → Nat} {en : Nat → va_E} {ss : List Row} (h : StAt G n ad en ss) (so k : Nat) (hso : so < 2 ^ 31) (hk : k < 2 ^ 31) : CI l G yX6_isOf uX6_isOf (1) (23) 0 0 [.ref (ad 3), .int (nI so), .int (nI k)] n n ad en (roV ad en (b2i (sIs ss so k))) := by
  have := c_X6_isOf l G h (nI so) (nI k)
  rw [sIs_eq h.2.2.2.2.2.1 so k hso hk (by have := sort_le h.2.2.2.2.2 (k := k); omega)] at this
  exact this
theorem wh_n1 {ss : List Row} {so f a b : Nat} (h : sIs ss so f = false) : (0 : Int32) = b2i (sWh ss so f a b) := by unfold sWh; rw [h]; rfl
theorem wh_n2 {ss : List Row} {so f a b : Nat} (h : ¬ nI (sL ss f) = nI a) : (0 : Int32) = b2i (sWh ss so f a b) := by
  unfold sWh
  rw [show decide (sL ss f = a) = false from decide_eq_false (fun q => h (by rw [q])), Bool.and_false]; rfl
theorem wh_n3 {ss : List Row} {so f a b : Nat} (h : ¬ nI (sR ss f) = nI b) : (0 : Int32) = b2i (sWh ss so f a b) := by
  unfold sWh
  rw [show decide (sR ss f = b) = false from decide_eq_false (fun q => h (by rw [q])), Bool.and_false]; rfl
theorem sLR_lt {ss : List Row} (h : ssOK ss) (k : Nat) : sL ss k ≤ 600 ∧ sR ss k ≤ 600 := by
  have h6 := h.1
  by_cases c : 1 ≤ k ∧ k ≤ ss.length
  · have q := h.2.1 k c.1 c.2
    unfold sL sR
    obtain ⟨-, q | q | q⟩ := q <;> omega
  · have e : kAt ss k = (0, 0, 0, 0, 0) := by
      by_cases h0 : k = 0
      · rw [h0]; rfl
      · exact kAt_out (by omega)
    unfold sL sR; rw [e]; decide
theorem wh_y {ss : List Row} (h : ssOK ss) {so f a b : Nat} (h1 : sIs ss so f = true) (h2 : nI (sL ss f) = nI a) (h3 : nI (sR ss f) = nI b) (hb : so < 2 ^ 31 ∧ f < 2 ^ 31 ∧ a < 2 ^ 31 ∧ b < 2 ^ 31) : (1 : Int32) = b2i (sWh ss so f a b) := by
  have := sLR_lt h f
  unfold sWh
  rw [h1, show decide (sL ss f = a) = true from decide_eq_true ((nI_eq (by omega) hb.2.2.1).mp h2), show decide (sR ss f = b) = true from decide_eq_true ((nI_eq (by omega) hb.2.2.2).mp h3)]; rfl
theorem nq {a v : Nat} {x : Int32} (ha : a < 2 ^ 31) (e : nI a = x) (hv : x = nI v := by rfl) (hl : v < 2 ^ 31 := by decide) : a = v := (nI_eq ha hl).mp (e.trans hv)
theorem nz {a v : Nat} {x : Int32} (e : ¬ nI a = x) (hv : x = nI v := by rfl) : ¬ a = v := fun q => e (by rw [q, hv])
theorem dt {p : Prop} {_ : Decidable p} (h : p) : decide p = true := decide_eq_true h
theorem df {p : Prop} {_ : Decidable p} (h : ¬ p) : decide p = false := decide_eq_false h
theorem not9 {a : Nat} (h0 : ¬ nI a = 0) (h1 : ¬ nI a = 1) (h2 : ¬ nI a = 2) (h3 : ¬ nI a = 3) (h4 : ¬ nI a = 4) (h5 : ¬ nI a = 5) (h6 : ¬ nI a = 6) (h7 : ¬ nI a = 7) (h8 : ¬ nI a = 8) (h9 : ¬ nI a = 9) : ¬ a ≤ 9 := by
  intro q
  have : ∀ a, a ≤ 9 → nI a = 0 ∨ nI a = 1 ∨ nI a = 2 ∨ nI a = 3 ∨ nI a = 4 ∨ nI a = 5 ∨ nI a = 6 ∨ nI a = 7 ∨ nI a = 8 ∨ nI a = 9 := by decide
  rcases this a q with c | c | c | c | c | c | c | c | c | c
  · exact h0 c
  · exact h1 c
  · exact h2 c
  · exact h3 c
  · exact h4 c
  · exact h5 c
  · exact h6 c
  · exact h7 c
  · exact h8 c
  · exact h9 c
set_option maxHeartbeats 4000000 in
set_option maxRecDepth 100000 in
theorem c_X2_isWhole (l : Launch) (G : rG) {n : Nat} {ad : Nat → Nat} {en : Nat → va_E} {ss ns : List Row} {jd RR SL : Nat} {S : Nat → Nat → Bool} {sf : Nat → Int32} (h : StAt G n ad en ss) (hd : NdAt G n ad en ns jd RR SL S sf) (so f1 a1 b1 : Nat) (hb1 : so < 2 ^ 31 ∧ f1 < 2 ^ 31 ∧ a1 < 2 ^ 31 ∧ b1 < 2 ^ 31) : CI l G yX2_isWhole uX2_isWhole (2) (45) (0) (0) [.ref (ad 11), .int (nI so), .int (nI f1), .int (nI a1), .int (nI b1)] (n) (n) ad en (roV ad en (b2i (sWh ss so f1 a1 b1))) := by
  intro sz
  refine rMet (Qc := qI G (n) (roV ad en (b2i (sWh ss so f1 a1 b1)))) (cc := cX2_isWhole) (maxL := 5) (ret := (some .boolean)) (by decide) rfl (Nat.le_of_ble_eq_true rfl) ?_
  intro pP eE sS mM aA bB tT cC ls A Q hc hK hsz hA hs hl hQ
  obtain ⟨hx, hb, hr, hts, hown, hlk, hnm, hml⟩ := hc
  have hl : lv_has ls 5 [(0, .ref (ad 11)), (1, .int (nI so)), (2, .int (nI f1)), (3, .int (nI a1)), (4, .int (nI b1))] := hl
  have hnd := hd
  obtain ⟨hn, he11, hk, hrs, he17, hSL⟩ := hnd
  obtain ⟨fs12, he12⟩ := KeptAt_recv hk
  obtain ⟨fs15, he15⟩ := SetsAt_recv hrs
  have hle8 : ns.length ≤ 8000 := hk.2.1
  have hlen : ns.length < 2 ^ 31 := by omega
  obtain ⟨fst, hest⟩ : ∃ fs, en 3 = .inr (6, fs) := ⟨_, h.2.1⟩
  have hok := h.2.2.2.2.2
  have hle6 := hok.1
  refine lv_aload_n hx hb dX2_isWhole_0 rfl (lv_at hl 0 rfl) ?_
  refine r_get (ci := 2) (v := .ref (ad 3)) (C := RX2) (T := TX2) (N := 5) hx hb hts inlX2 hown hK hs (11) (by omega) he11 rfl 0 (by decide) (hts _ w_fl_RX2_35) rfl dX2_isWhole_1 ?_
  refine lv_iload_n hx hb dX2_isWhole_4 rfl (lv_at hl 1 rfl) ?_
  refine lv_iload_n hx hb dX2_isWhole_5 rfl (lv_at hl 2 rfl) ?_
  refine r_callViR (ci := 6) (As := [.int (nI so), .int (nI f1)]) hx hb hml hown hts hK hA hs (3) (by omega) hest rfl rfl (c_X6_isOfN l G h so f1 (by omega) (by omega)) (cwV 2 hts (tbV w_ml_RX2_110 w_im_yX6_isOf w_se_yX6_isOf w_ini_RX6 w_cd_yX6_isOf) rfl rfl rfl (by decide +kernel) ⟨Nat.le_of_ble_eq_true rfl, Nat.le_of_ble_eq_true rfl⟩) rfl hl.1 rfl (Nat.le_of_ble_eq_true rfl) dX2_isWhole_6 ⟨Nat.zero_le _, Nat.zero_le _⟩ (fun H locs hs => ?_)
  refine lv_if_eq (tgt := 41) hx hb dX2_isWhole_9 (by decide) (fun c9 => ?_) (fun c9 => ?_)
  · skip
    refine lv_iconst (v := 0) hx hb dX2_isWhole_41 (by decide) ?_
    refine r_zret (v := 0) (mc := 0) (ms := 0) hx hb hr hlk hs (Nat.le_refl _) (Nat.le_refl _) dX2_isWhole_42 ?_ hQ ?_
    · first | exact Or.inl rfl | exact Or.inr rfl | exact b2i_z _
    exact roV.rf (wh_n1 (b2i_0 c9))
  · skip
    refine lv_aload_n hx hb dX2_isWhole_12 rfl (lv_at hl 0 rfl) ?_
    refine r_get (ci := 2) (v := .ref (ad 3)) (C := RX2) (T := TX2) (N := 5) hx hb hts inlX2 hown hK hs (11) (by omega) he11 rfl 0 (by decide) (hts _ w_fl_RX2_35) rfl dX2_isWhole_13 ?_
    refine lv_iload_n hx hb dX2_isWhole_16 rfl (lv_at hl 2 rfl) ?_
    refine r_callViR (ci := 6) (As := [.int (nI f1)]) hx hb hml hown hts hK hA hs (3) (by omega) hest rfl rfl (c_X6_leftOfN l G h f1 (by omega)) (cwV 1 hts (tbV w_ml_RX2_98 w_im_yX6_leftOf w_se_yX6_leftOf w_ini_RX6 w_cd_yX6_leftOf) rfl rfl rfl (by decide +kernel) ⟨Nat.le_of_ble_eq_true rfl, Nat.le_of_ble_eq_true rfl⟩) rfl hl.1 rfl (Nat.le_of_ble_eq_true rfl) dX2_isWhole_17 ⟨Nat.zero_le _, Nat.zero_le _⟩ (fun H locs hs => ?_)
    refine lv_iload_n hx hb dX2_isWhole_20 rfl (lv_at hl 3 rfl) ?_
    refine lv_icmp_ne (tgt := 41) hx hb dX2_isWhole_21 (by decide) (fun c21 => ?_) (fun c21 => ?_)
    · skip
      refine lv_iconst (v := 0) hx hb dX2_isWhole_41 (by decide) ?_
      refine r_zret (v := 0) (mc := 0) (ms := 0) hx hb hr hlk hs (Nat.le_refl _) (Nat.le_refl _) dX2_isWhole_42 ?_ hQ ?_
      · first | exact Or.inl rfl | exact Or.inr rfl | exact b2i_z _
      exact roV.rf (wh_n2 c21)
    · skip
      refine lv_aload_n hx hb dX2_isWhole_24 rfl (lv_at hl 0 rfl) ?_
      refine r_get (ci := 2) (v := .ref (ad 3)) (C := RX2) (T := TX2) (N := 5) hx hb hts inlX2 hown hK hs (11) (by omega) he11 rfl 0 (by decide) (hts _ w_fl_RX2_35) rfl dX2_isWhole_25 ?_
      refine lv_iload_n hx hb dX2_isWhole_28 rfl (lv_at hl 2 rfl) ?_
      refine r_callViR (ci := 6) (As := [.int (nI f1)]) hx hb hml hown hts hK hA hs (3) (by omega) hest rfl rfl (c_X6_rightOfN l G h f1 (by omega)) (cwV 1 hts (tbV w_ml_RX2_107 w_im_yX6_rightOf w_se_yX6_rightOf w_ini_RX6 w_cd_yX6_rightOf) rfl rfl rfl (by decide +kernel) ⟨Nat.le_of_ble_eq_true rfl, Nat.le_of_ble_eq_true rfl⟩) rfl hl.1 rfl (Nat.le_of_ble_eq_true rfl) dX2_isWhole_29 ⟨Nat.zero_le _, Nat.zero_le _⟩ (fun H locs hs => ?_)
      refine lv_iload hx hb dX2_isWhole_32 (lv_at hl 4 rfl) ?_
      refine lv_icmp_ne (tgt := 41) hx hb dX2_isWhole_34 (by decide) (fun c34 => ?_) (fun c34 => ?_)
      · skip
        refine lv_iconst (v := 0) hx hb dX2_isWhole_41 (by decide) ?_
        refine r_zret (v := 0) (mc := 0) (ms := 0) hx hb hr hlk hs (Nat.le_refl _) (Nat.le_refl _) dX2_isWhole_42 ?_ hQ ?_
        · first | exact Or.inl rfl | exact Or.inr rfl | exact b2i_z _
        exact roV.rf (wh_n3 c34)
      · skip
        refine lv_iconst (v := 1) hx hb dX2_isWhole_37 (by decide) ?_
        refine lv_goto (tgt := 42) hx hb dX2_isWhole_38 (by decide) ?_
        refine r_zret (v := 1) (mc := 0) (ms := 0) hx hb hr hlk hs (Nat.le_refl _) (Nat.le_refl _) dX2_isWhole_42 ?_ hQ ?_
        · first | exact Or.inl rfl | exact Or.inr rfl | exact b2i_z _
        exact roV.rf (wh_y hok (b2i_1 c9) c21 c34 hb1)

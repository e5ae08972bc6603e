set_option maxHeartbeats 4000000 in
set_option maxRecDepth 100000 in
theorem c_X6_size (l : Launch) (G : rG) {n : Nat} {ad : Nat → Nat} {en : Nat → va_E} {ss : List Row} (h : StAt G n ad en ss) : CI l G yX6_size uX6_size (1) (20) (0) (0) [.ref (ad 3)] (n) (n) ad en (roV ad en (nI ss.length)) := by
  intro sz
  refine rMet (Qc := qI G (n) (roV ad en (nI ss.length))) (cc := cX6_size) (maxL := 1) (ret := (some .int)) (by decide) rfl (Nat.le_of_ble_eq_true rfl) ?_
  intro pP eE sS mM aA bB tT cC ls A Q hc hK hsz hA hs hl hQ
  obtain ⟨hx, hb, hr, hts, hown, hlk, hnm, hml⟩ := hc
  have hl : lv_has ls 1 [(0, .ref (ad 3))] := hl
  have hst := h
  obtain ⟨hn, he3, hk, hkd, ⟨TT, htr⟩, hok⟩ := hst
  obtain ⟨fs4, he4⟩ := KeptAt_recv hk
  obtain ⟨fs7, he7⟩ := SetsAt_recv hkd
  obtain ⟨fs9, he9⟩ := SetsAt_recv htr
  have hle6 := hok.1
  have hlen : ss.length < 2 ^ 31 := by omega
  refine lv_aload_n hx hb dX6_size_0 rfl (lv_at hl 0 rfl) ?_
  refine r_get (ci := 6) (v := .ref (ad 4)) (C := RX6) (T := TX6) (N := 3) hx hb hts inlX6 hown hK hs (3) (by omega) he3 rfl 0 (by decide) (hts _ w_fl_RX6_16) rfl dX6_size_1 ?_
  refine r_callViR (ci := 1) (As := []) hx hb hml hown hts hK hA hs (4) (by omega) he4 rfl rfl (c_X1_size l G hk) (cwV 0 hts (tbV w_ml_RX6_30 w_im_yX1_size w_se_yX1_size w_ini_RX1 w_cd_yX1_size) rfl rfl rfl (by decide +kernel) ⟨Nat.le_of_ble_eq_true rfl, Nat.le_of_ble_eq_true rfl⟩) rfl hl.1 rfl (Nat.le_of_ble_eq_true rfl) dX6_size_4 ⟨Nat.zero_le _, Nat.zero_le _⟩ (fun H locs hs => ?_)
  refine r_iret (v := nI ss.length) (mc := 0) (ms := 0) hx hb hr hlk hs (Nat.le_refl _) (Nat.le_refl _) dX6_size_7 hQ ?_
  exact roV.rf rfl

set_option maxHeartbeats 4000000 in
set_option maxRecDepth 100000 in
theorem c_X6_holds (l : Launch) (G : rG) {n : Nat} {ad : Nat → Nat} {en : Nat → va_E} {ss : List Row} (h : StAt G n ad en ss) (x : Int32) : CI l G yX6_holds uX6_holds (1) (20) (0) (0) [.ref (ad 3), .int (x)] (n) (n) ad en (roV ad en (b2i (kHolds ss x))) := by
  intro sz
  refine rMet (Qc := qI G (n) (roV ad en (b2i (kHolds ss x)))) (cc := cX6_holds) (maxL := 2) (ret := (some .boolean)) (by decide) rfl (Nat.le_of_ble_eq_true rfl) ?_
  intro pP eE sS mM aA bB tT cC ls A Q hc hK hsz hA hs hl hQ
  obtain ⟨hx, hb, hr, hts, hown, hlk, hnm, hml⟩ := hc
  have hl : lv_has ls 2 [(0, .ref (ad 3)), (1, .int (x))] := hl
  have hst := h
  obtain ⟨hn, he3, hk, hkd, ⟨TT, htr⟩, hok⟩ := hst
  obtain ⟨fs4, he4⟩ := KeptAt_recv hk
  obtain ⟨fs7, he7⟩ := SetsAt_recv hkd
  obtain ⟨fs9, he9⟩ := SetsAt_recv htr
  have hle6 := hok.1
  have hlen : ss.length < 2 ^ 31 := by omega
  refine lv_iload_n hx hb dX6_holds_0 rfl (lv_at hl 1 rfl) ?_
  refine lv_iconst (v := 1) hx hb dX6_holds_1 (by decide) ?_
  refine lv_icmp_lt (tgt := 20) hx hb dX6_holds_2 (by decide) (fun c2 => ?_) (fun c2 => ?_)
  · skip
    refine lv_iconst (v := 0) hx hb dX6_holds_20 (by decide) ?_
    refine r_zret (v := 0) (mc := 0) (ms := 0) hx hb hr hlk hs (Nat.le_refl _) (Nat.le_refl _) dX6_holds_21 ?_ hQ ?_
    · first | exact Or.inl rfl | exact Or.inr rfl | exact b2i_z _
    exact roV.rf (by rw [holds_n hlen (by first | exact Or.inl c2 | exact Or.inr c13)]; rfl)
  · skip
    refine lv_iload_n hx hb dX6_holds_5 rfl (lv_at hl 1 rfl) ?_
    refine lv_aload_n hx hb dX6_holds_6 rfl (lv_at hl 0 rfl) ?_
    refine r_get (ci := 6) (v := .ref (ad 4)) (C := RX6) (T := TX6) (N := 3) hx hb hts inlX6 hown hK hs (3) (by omega) he3 rfl 0 (by decide) (hts _ w_fl_RX6_16) rfl dX6_holds_7 ?_
    refine r_callViR (ci := 1) (As := []) hx hb hml hown hts hK hA hs (4) (by omega) he4 rfl rfl (c_X1_size l G hk) (cwV 0 hts (tbV w_ml_RX6_30 w_im_yX1_size w_se_yX1_size w_ini_RX1 w_cd_yX1_size) rfl rfl rfl (by decide +kernel) ⟨Nat.le_of_ble_eq_true rfl, Nat.le_of_ble_eq_true rfl⟩) rfl hl.1 rfl (Nat.le_of_ble_eq_true rfl) dX6_holds_10 ⟨Nat.zero_le _, Nat.zero_le _⟩ (fun H locs hs => ?_)
    refine lv_icmp_gt (tgt := 20) hx hb dX6_holds_13 (by decide) (fun c13 => ?_) (fun c13 => ?_)
    · skip
      refine lv_iconst (v := 0) hx hb dX6_holds_20 (by decide) ?_
      refine r_zret (v := 0) (mc := 0) (ms := 0) hx hb hr hlk hs (Nat.le_refl _) (Nat.le_refl _) dX6_holds_21 ?_ hQ ?_
      · first | exact Or.inl rfl | exact Or.inr rfl | exact b2i_z _
      exact roV.rf (by rw [holds_n hlen (by first | exact Or.inl c2 | exact Or.inr c13)]; rfl)
    · skip
      refine lv_iconst (v := 1) hx hb dX6_holds_16 (by decide) ?_
      refine lv_goto (tgt := 21) hx hb dX6_holds_17 (by decide) ?_
      refine r_zret (v := 1) (mc := 0) (ms := 0) hx hb hr hlk hs (Nat.le_refl _) (Nat.le_refl _) dX6_holds_21 ?_ hQ ?_
      · first | exact Or.inl rfl | exact Or.inr rfl | exact b2i_z _
      exact roV.rf (by rw [holds_y hlen c2 c13]; rfl)

set_option maxHeartbeats 4000000 in
set_option maxRecDepth 100000 in
theorem c_X6_read (l : Launch) (G : rG) {n : Nat} {ad : Nat → Nat} {en : Nat → va_E} {ss : List Row} (h : StAt G n ad en ss) (x y : Int32) : CI l G yX6_read uX6_read (1) (23) (0) (0) [.ref (ad 3), .int (x), .int (y)] (n) (n) ad en (roV ad en (kGet ss x y)) := by
  intro sz
  refine rMet (Qc := qI G (n) (roV ad en (kGet ss x y))) (cc := cX6_read) (maxL := 3) (ret := (some .int)) (by decide) rfl (Nat.le_of_ble_eq_true rfl) ?_
  intro pP eE sS mM aA bB tT cC ls A Q hc hK hsz hA hs hl hQ
  obtain ⟨hx, hb, hr, hts, hown, hlk, hnm, hml⟩ := hc
  have hl : lv_has ls 3 [(0, .ref (ad 3)), (1, .int (x)), (2, .int (y))] := hl
  have hst := h
  obtain ⟨hn, he3, hk, hkd, ⟨TT, htr⟩, hok⟩ := hst
  obtain ⟨fs4, he4⟩ := KeptAt_recv hk
  obtain ⟨fs7, he7⟩ := SetsAt_recv hkd
  obtain ⟨fs9, he9⟩ := SetsAt_recv htr
  have hle6 := hok.1
  have hlen : ss.length < 2 ^ 31 := by omega
  refine lv_aload_n hx hb dX6_read_0 rfl (lv_at hl 0 rfl) ?_
  refine r_get (ci := 6) (v := .ref (ad 4)) (C := RX6) (T := TX6) (N := 3) hx hb hts inlX6 hown hK hs (3) (by omega) he3 rfl 0 (by decide) (hts _ w_fl_RX6_16) rfl dX6_read_1 ?_
  refine lv_iload_n hx hb dX6_read_4 rfl (lv_at hl 1 rfl) ?_
  refine lv_iload_n hx hb dX6_read_5 rfl (lv_at hl 2 rfl) ?_
  refine r_callViR (ci := 1) (As := [.int (x), .int (y)]) hx hb hml hown hts hK hA hs (4) (by omega) he4 rfl rfl (c_X1_get l G hk (x) (y)) (cwV 2 hts (tbV w_ml_RX6_34 w_im_yX1_get w_se_yX1_get w_ini_RX1 w_cd_yX1_get) rfl rfl rfl (by decide +kernel) ⟨Nat.le_of_ble_eq_true rfl, Nat.le_of_ble_eq_true rfl⟩) rfl hl.1 rfl (Nat.le_of_ble_eq_true rfl) dX6_read_6 ⟨Nat.zero_le _, Nat.zero_le _⟩ (fun H locs hs => ?_)
  refine r_iret (v := kGet ss (x) (y)) (mc := 0) (ms := 0) hx hb hr hlk hs (Nat.le_refl _) (Nat.le_refl _) dX6_read_9 hQ ?_
  exact roV.rf rfl

set_option maxHeartbeats 4000000 in
set_option maxRecDepth 100000 in
theorem c_X6_sortOf (l : Launch) (G : rG) {n : Nat} {ad : Nat → Nat} {en : Nat → va_E} {ss : List Row} (h : StAt G n ad en ss) (x : Int32) : CI l G yX6_sortOf uX6_sortOf (1) (23) (0) (0) [.ref (ad 3), .int (x)] (n) (n) ad en (roV ad en (kGet ss x (nI 0))) := by
  intro sz
  refine rMet (Qc := qI G (n) (roV ad en (kGet ss x (nI 0)))) (cc := cX6_sortOf) (maxL := 2) (ret := (some .int)) (by decide) rfl (Nat.le_of_ble_eq_true rfl) ?_
  intro pP eE sS mM aA bB tT cC ls A Q hc hK hsz hA hs hl hQ
  obtain ⟨hx, hb, hr, hts, hown, hlk, hnm, hml⟩ := hc
  have hl : lv_has ls 2 [(0, .ref (ad 3)), (1, .int (x))] := hl
  have hst := h
  obtain ⟨hn, he3, hk, hkd, ⟨TT, htr⟩, hok⟩ := hst
  obtain ⟨fs4, he4⟩ := KeptAt_recv hk
  obtain ⟨fs7, he7⟩ := SetsAt_recv hkd
  obtain ⟨fs9, he9⟩ := SetsAt_recv htr
  have hle6 := hok.1
  have hlen : ss.length < 2 ^ 31 := by omega
  refine lv_aload_n hx hb dX6_sortOf_0 rfl (lv_at hl 0 rfl) ?_
  refine r_get (ci := 6) (v := .ref (ad 4)) (C := RX6) (T := TX6) (N := 3) hx hb hts inlX6 hown hK hs (3) (by omega) he3 rfl 0 (by decide) (hts _ w_fl_RX6_16) rfl dX6_sortOf_1 ?_
  refine lv_iload_n hx hb dX6_sortOf_4 rfl (lv_at hl 1 rfl) ?_
  refine lv_iconst (v := 0) hx hb dX6_sortOf_5 (by decide) ?_
  refine r_callViR (ci := 1) (As := [.int (x), .int (0)]) hx hb hml hown hts hK hA hs (4) (by omega) he4 rfl rfl (c_X1_get l G hk (x) (0)) (cwV 2 hts (tbV w_ml_RX6_34 w_im_yX1_get w_se_yX1_get w_ini_RX1 w_cd_yX1_get) rfl rfl rfl (by decide +kernel) ⟨Nat.le_of_ble_eq_true rfl, Nat.le_of_ble_eq_true rfl⟩) rfl hl.1 rfl (Nat.le_of_ble_eq_true rfl) dX6_sortOf_6 ⟨Nat.zero_le _, Nat.zero_le _⟩ (fun H locs hs => ?_)
  refine r_iret (v := kGet ss (x) (0)) (mc := 0) (ms := 0) hx hb hr hlk hs (Nat.le_refl _) (Nat.le_refl _) dX6_sortOf_9 hQ ?_
  exact roV.rf rfl

set_option maxHeartbeats 4000000 in
set_option maxRecDepth 100000 in
theorem c_X6_leftOf (l : Launch) (G : rG) {n : Nat} {ad : Nat → Nat} {en : Nat → va_E} {ss : List Row} (h : StAt G n ad en ss) (x : Int32) : CI l G yX6_leftOf uX6_leftOf (1) (23) (0) (0) [.ref (ad 3), .int (x)] (n) (n) ad en (roV ad en (kGet ss x (nI 1))) := by
  intro sz
  refine rMet (Qc := qI G (n) (roV ad en (kGet ss x (nI 1)))) (cc := cX6_leftOf) (maxL := 2) (ret := (some .int)) (by decide) rfl (Nat.le_of_ble_eq_true rfl) ?_
  intro pP eE sS mM aA bB tT cC ls A Q hc hK hsz hA hs hl hQ
  obtain ⟨hx, hb, hr, hts, hown, hlk, hnm, hml⟩ := hc
  have hl : lv_has ls 2 [(0, .ref (ad 3)), (1, .int (x))] := hl
  have hst := h
  obtain ⟨hn, he3, hk, hkd, ⟨TT, htr⟩, hok⟩ := hst
  obtain ⟨fs4, he4⟩ := KeptAt_recv hk
  obtain ⟨fs7, he7⟩ := SetsAt_recv hkd
  obtain ⟨fs9, he9⟩ := SetsAt_recv htr
  have hle6 := hok.1
  have hlen : ss.length < 2 ^ 31 := by omega
  refine lv_aload_n hx hb dX6_leftOf_0 rfl (lv_at hl 0 rfl) ?_
  refine r_get (ci := 6) (v := .ref (ad 4)) (C := RX6) (T := TX6) (N := 3) hx hb hts inlX6 hown hK hs (3) (by omega) he3 rfl 0 (by decide) (hts _ w_fl_RX6_16) rfl dX6_leftOf_1 ?_
  refine lv_iload_n hx hb dX6_leftOf_4 rfl (lv_at hl 1 rfl) ?_
  refine lv_iconst (v := 1) hx hb dX6_leftOf_5 (by decide) ?_
  refine r_callViR (ci := 1) (As := [.int (x), .int (1)]) hx hb hml hown hts hK hA hs (4) (by omega) he4 rfl rfl (c_X1_get l G hk (x) (1)) (cwV 2 hts (tbV w_ml_RX6_34 w_im_yX1_get w_se_yX1_get w_ini_RX1 w_cd_yX1_get) rfl rfl rfl (by decide +kernel) ⟨Nat.le_of_ble_eq_true rfl, Nat.le_of_ble_eq_true rfl⟩) rfl hl.1 rfl (Nat.le_of_ble_eq_true rfl) dX6_leftOf_6 ⟨Nat.zero_le _, Nat.zero_le _⟩ (fun H locs hs => ?_)
  refine r_iret (v := kGet ss (x) (1)) (mc := 0) (ms := 0) hx hb hr hlk hs (Nat.le_refl _) (Nat.le_refl _) dX6_leftOf_9 hQ ?_
  exact roV.rf rfl

set_option maxHeartbeats 4000000 in
set_option maxRecDepth 100000 in
theorem c_X6_rightOf (l : Launch) (G : rG) {n : Nat} {ad : Nat → Nat} {en : Nat → va_E} {ss : List Row} (h : StAt G n ad en ss) (x : Int32) : CI l G yX6_rightOf uX6_rightOf (1) (23) (0) (0) [.ref (ad 3), .int (x)] (n) (n) ad en (roV ad en (kGet ss x (nI 2))) := by
  intro sz
  refine rMet (Qc := qI G (n) (roV ad en (kGet ss x (nI 2)))) (cc := cX6_rightOf) (maxL := 2) (ret := (some .int)) (by decide) rfl (Nat.le_of_ble_eq_true rfl) ?_
  intro pP eE sS mM aA bB tT cC ls A Q hc hK hsz hA hs hl hQ
  obtain ⟨hx, hb, hr, hts, hown, hlk, hnm, hml⟩ := hc
  have hl : lv_has ls 2 [(0, .ref (ad 3)), (1, .int (x))] := hl
  have hst := h
  obtain ⟨hn, he3, hk, hkd, ⟨TT, htr⟩, hok⟩ := hst
  obtain ⟨fs4, he4⟩ := KeptAt_recv hk
  obtain ⟨fs7, he7⟩ := SetsAt_recv hkd
  obtain ⟨fs9, he9⟩ := SetsAt_recv htr
  have hle6 := hok.1
  have hlen : ss.length < 2 ^ 31 := by omega
  refine lv_aload_n hx hb dX6_rightOf_0 rfl (lv_at hl 0 rfl) ?_
  refine r_get (ci := 6) (v := .ref (ad 4)) (C := RX6) (T := TX6) (N := 3) hx hb hts inlX6 hown hK hs (3) (by omega) he3 rfl 0 (by decide) (hts _ w_fl_RX6_16) rfl dX6_rightOf_1 ?_
  refine lv_iload_n hx hb dX6_rightOf_4 rfl (lv_at hl 1 rfl) ?_
  refine lv_iconst (v := 2) hx hb dX6_rightOf_5 (by decide) ?_
  refine r_callViR (ci := 1) (As := [.int (x), .int (2)]) hx hb hml hown hts hK hA hs (4) (by omega) he4 rfl rfl (c_X1_get l G hk (x) (2)) (cwV 2 hts (tbV w_ml_RX6_34 w_im_yX1_get w_se_yX1_get w_ini_RX1 w_cd_yX1_get) rfl rfl rfl (by decide +kernel) ⟨Nat.le_of_ble_eq_true rfl, Nat.le_of_ble_eq_true rfl⟩) rfl hl.1 rfl (Nat.le_of_ble_eq_true rfl) dX6_rightOf_6 ⟨Nat.zero_le _, Nat.zero_le _⟩ (fun H locs hs => ?_)
  refine r_iret (v := kGet ss (x) (2)) (mc := 0) (ms := 0) hx hb hr hlk hs (Nat.le_refl _) (Nat.le_refl _) dX6_rightOf_9 hQ ?_
  exact roV.rf rfl
theorem c_X6_sortOfN (l : Launch) (G : rG) {n : Nat} {ad : Nat → Nat} {en : Nat → va_E} {ss : List Row} (h : StAt G n ad en ss) (k : Nat) (hk : k < 2 ^ 31) : CI l G yX6_sortOf uX6_sortOf (1) (23) 0 0 [.ref (ad 3), .int (nI k)] n n ad en (roV ad en (nI (sSort ss k))) := by
  have := c_X6_sortOf l G h (nI k)
  rw [kGet_nI (by have := h.2.2.2.2.2.1; omega) hk (by decide)] at this
  exact this
theorem c_X6_leftOfN (l : Launch) (G : rG) {n : Nat} {ad : Nat → Nat} {en : Nat → va_E} {ss : List Row} (h : StAt G n ad en ss) (k : Nat) (hk : k < 2 ^ 31) : CI l G yX6_leftOf uX6_leftOf (1) (23) 0 0 [.ref (ad 3), .int (nI k)] n n ad en (roV ad en (nI (sL ss k))) := by
  have := c_X6_leftOf l G h (nI k)
  rw [kGet_nI (by have := h.2.2.2.2.2.1; omega) hk (by decide)] at this
  exact this
theorem c_X6_rightOfN (l : Launch) (G : rG) {n : Nat} {ad : Nat → Nat} {en : Nat → va_E} {ss : List Row} (h : StAt G n ad en ss) (k : Nat) (hk : k < 2 ^ 31) : CI l G yX6_rightOf uX6_rightOf (1) (23) 0 0 [.ref (ad 3), .int (nI k)] n n ad en (roV ad en (nI (sR ss k))) := by
  have := c_X6_rightOf l G h (nI k)
  rw [kGet_nI (by have := h.2.2.2.2.2.1; omega) hk (by decide)] at this
  exact this
set_option maxHeartbeats 4000000 in
set_option maxRecDepth 100000 in
theorem c_X6_isOf (l : Launch) (G : rG) {n : Nat} {ad : Nat → Nat} {en : Nat → va_E} {ss : List Row} (h : StAt G n ad en ss) (so x : Int32) : CI l G yX6_isOf uX6_isOf (1) (23) (0) (0) [.ref (ad 3), .int (so), .int (x)] (n) (n) ad en (roV ad en (b2i (kHolds ss x && decide (kGet ss x 0 = so)))) := by
  intro sz
  refine rMet (Qc := qI G (n) (roV ad en (b2i (kHolds ss x && decide (kGet ss x 0 = so))))) (cc := cX6_isOf) (maxL := 3) (ret := (some .boolean)) (by decide) rfl (Nat.le_of_ble_eq_true rfl) ?_
  intro pP eE sS mM aA bB tT cC ls A Q hc hK hsz hA hs hl hQ
  obtain ⟨hx, hb, hr, hts, hown, hlk, hnm, hml⟩ := hc
  have hl : lv_has ls 3 [(0, .ref (ad 3)), (1, .int (so)), (2, .int (x))] := hl
  have hst := h
  obtain ⟨hn, he3, hk, hkd, ⟨TT, htr⟩, hok⟩ := hst
  obtain ⟨fs4, he4⟩ := KeptAt_recv hk
  obtain ⟨fs7, he7⟩ := SetsAt_recv hkd
  obtain ⟨fs9, he9⟩ := SetsAt_recv htr
  have hle6 := hok.1
  have hlen : ss.length < 2 ^ 31 := by omega
  refine lv_iload_n hx hb dX6_isOf_0 rfl (lv_at hl 2 rfl) ?_
  refine lv_iconst (v := 1) hx hb dX6_isOf_1 (by decide) ?_
  refine lv_icmp_lt (tgt := 33) hx hb dX6_isOf_2 (by decide) (fun c2 => ?_) (fun c2 => ?_)
  · skip
    refine lv_iconst (v := 0) hx hb dX6_isOf_33 (by decide) ?_
    refine r_zret (v := 0) (mc := 0) (ms := 0) hx hb hr hlk hs (Nat.le_refl _) (Nat.le_refl _) dX6_isOf_34 ?_ hQ ?_
    · first | exact Or.inl rfl | exact Or.inr rfl | exact b2i_z _
    exact roV.rf (by rw [holds_n hlen (by first | exact Or.inl c2 | exact Or.inr c13)]; rfl)
  · skip
    refine lv_iload_n hx hb dX6_isOf_5 rfl (lv_at hl 2 rfl) ?_
    refine lv_aload_n hx hb dX6_isOf_6 rfl (lv_at hl 0 rfl) ?_
    refine r_get (ci := 6) (v := .ref (ad 4)) (C := RX6) (T := TX6) (N := 3) hx hb hts inlX6 hown hK hs (3) (by omega) he3 rfl 0 (by decide) (hts _ w_fl_RX6_16) rfl dX6_isOf_7 ?_
    refine r_callViR (ci := 1) (As := []) hx hb hml hown hts hK hA hs (4) (by omega) he4 rfl rfl (c_X1_size l G hk) (cwV 0 hts (tbV w_ml_RX6_30 w_im_yX1_size w_se_yX1_size w_ini_RX1 w_cd_yX1_size) rfl rfl rfl (by decide +kernel) ⟨Nat.le_of_ble_eq_true rfl, Nat.le_of_ble_eq_true rfl⟩) rfl hl.1 rfl (Nat.le_of_ble_eq_true rfl) dX6_isOf_10 ⟨Nat.zero_le _, Nat.zero_le _⟩ (fun H locs hs => ?_)
    refine lv_icmp_gt (tgt := 33) hx hb dX6_isOf_13 (by decide) (fun c13 => ?_) (fun c13 => ?_)
    · skip
      refine lv_iconst (v := 0) hx hb dX6_isOf_33 (by decide) ?_
      refine r_zret (v := 0) (mc := 0) (ms := 0) hx hb hr hlk hs (Nat.le_refl _) (Nat.le_refl _) dX6_isOf_34 ?_ hQ ?_
      · first | exact Or.inl rfl | exact Or.inr rfl | exact b2i_z _
      exact roV.rf (by rw [holds_n hlen (by first | exact Or.inl c2 | exact Or.inr c13)]; rfl)
    · skip
      refine lv_aload_n hx hb dX6_isOf_16 rfl (lv_at hl 0 rfl) ?_
      refine r_get (ci := 6) (v := .ref (ad 4)) (C := RX6) (T := TX6) (N := 3) hx hb hts inlX6 hown hK hs (3) (by omega) he3 rfl 0 (by decide) (hts _ w_fl_RX6_16) rfl dX6_isOf_17 ?_
      refine lv_iload_n hx hb dX6_isOf_20 rfl (lv_at hl 2 rfl) ?_
      refine lv_iconst (v := 0) hx hb dX6_isOf_21 (by decide) ?_
      refine r_callViR (ci := 1) (As := [.int (x), .int (0)]) hx hb hml hown hts hK hA hs (4) (by omega) he4 rfl rfl (c_X1_get l G hk (x) (0)) (cwV 2 hts (tbV w_ml_RX6_34 w_im_yX1_get w_se_yX1_get w_ini_RX1 w_cd_yX1_get) rfl rfl rfl (by decide +kernel) ⟨Nat.le_of_ble_eq_true rfl, Nat.le_of_ble_eq_true rfl⟩) rfl hl.1 rfl (Nat.le_of_ble_eq_true rfl) dX6_isOf_22 ⟨Nat.zero_le _, Nat.zero_le _⟩ (fun H locs hs => ?_)
      refine lv_iload_n hx hb dX6_isOf_25 rfl (lv_at hl 1 rfl) ?_
      refine lv_icmp_ne (tgt := 33) hx hb dX6_isOf_26 (by decide) (fun c26 => ?_) (fun c26 => ?_)
      · skip
        refine lv_iconst (v := 0) hx hb dX6_isOf_33 (by decide) ?_
        refine r_zret (v := 0) (mc := 0) (ms := 0) hx hb hr hlk hs (Nat.le_refl _) (Nat.le_refl _) dX6_isOf_34 ?_ hQ ?_
        · first | exact Or.inl rfl | exact Or.inr rfl | exact b2i_z _
        exact roV.rf (by rw [holds_y hlen c2 c13, show decide (kGet ss x 0 = so) = false from decide_eq_false c26]; rfl)
      · skip
        refine lv_iconst (v := 1) hx hb dX6_isOf_29 (by decide) ?_
        refine lv_goto (tgt := 34) hx hb dX6_isOf_30 (by decide) ?_
        refine r_zret (v := 1) (mc := 0) (ms := 0) hx hb hr hlk hs (Nat.le_refl _) (Nat.le_refl _) dX6_isOf_34 ?_ hQ ?_
        · first | exact Or.inl rfl | exact Or.inr rfl | exact b2i_z _
        exact roV.rf (by rw [holds_y hlen c2 c13, show decide (kGet ss x 0 = so) = true from decide_eq_true c26]; rfl)

set_option maxHeartbeats 4000000 in
set_option maxRecDepth 100000 in
theorem c_X6_byKind (l : Launch) (G : rG) {n : Nat} {ad : Nat → Nat} {en : Nat → va_E} {ss : List Row} (h : StAt G n ad en ss) : CR l G yX6_byKind uX6_byKind (0) (0) (0) (0) [.ref (ad 3)] (n) (n) ad en (roA ad en (ad 7)) := by
  intro sz
  refine rMet (Qc := qR G (n) (roA ad en (ad 7))) (cc := cX6_byKind) (maxL := 1) (ret := (some (.object "ProofSeeker$Sets"))) (by decide) rfl (Nat.le_of_ble_eq_true rfl) ?_
  intro pP eE sS mM aA bB tT cC ls A Q hc hK hsz hA hs hl hQ
  obtain ⟨hx, hb, hr, hts, hown, hlk, hnm, hml⟩ := hc
  have hl : lv_has ls 1 [(0, .ref (ad 3))] := hl
  have hst := h
  obtain ⟨hn, he3, hk, hkd, ⟨TT, htr⟩, hok⟩ := hst
  obtain ⟨fs4, he4⟩ := KeptAt_recv hk
  obtain ⟨fs7, he7⟩ := SetsAt_recv hkd
  obtain ⟨fs9, he9⟩ := SetsAt_recv htr
  have hle6 := hok.1
  have hlen : ss.length < 2 ^ 31 := by omega
  refine lv_aload_n hx hb dX6_byKind_0 rfl (lv_at hl 0 rfl) ?_
  refine r_get (ci := 6) (v := .ref (ad 7)) (C := RX6) (T := TX6) (N := 3) hx hb hts inlX6 hown hK hs (3) (by omega) he3 rfl 1 (by decide) (hts _ w_fl_RX6_23) rfl dX6_byKind_1 ?_
  refine r_aret (a := ad 7) (mc := 0) (ms := 0) hx hb hr (by first | exact Or.inl ⟨_, rfl⟩ | exact Or.inr ⟨_, rfl⟩) hlk hs (Nat.le_refl _) (Nat.le_refl _) dX6_byKind_4 hQ ?_
  exact roA.rf

set_option maxHeartbeats 4000000 in
set_option maxRecDepth 100000 in
theorem c_X6_find (l : Launch) (G : rG) {n : Nat} {ad : Nat → Nat} {en : Nat → va_E} {ss : List Row} (h : StAt G n ad en ss) {s1 l1 r1 : Nat} (hs1 : s1 < 2 ^ 31 ∧ l1 < 2 ^ 31 ∧ r1 < 2 ^ 31) : CI l G yX6_find uX6_find (2) (53) (0) (0) [.ref (ad 3), .int (nI s1), .int (nI l1), .int (nI r1)] (n) (n) ad en (roV ad en (nI (kFind ss (s1, l1, r1, 0, 0)))) := by
  intro sz
  refine rMet (Qc := qI G (n) (roV ad en (nI (kFind ss (s1, l1, r1, 0, 0))))) (cc := cX6_find) (maxL := 4) (ret := (some .int)) (by decide) rfl (Nat.le_of_ble_eq_true rfl) ?_
  intro pP eE sS mM aA bB tT cC ls A Q hc hK hsz hA hs hl hQ
  obtain ⟨hx, hb, hr, hts, hown, hlk, hnm, hml⟩ := hc
  have hl : lv_has ls 4 [(0, .ref (ad 3)), (1, .int (nI s1)), (2, .int (nI l1)), (3, .int (nI r1))] := hl
  have hst := h
  obtain ⟨hn, he3, hk, hkd, ⟨TT, htr⟩, hok⟩ := hst
  obtain ⟨fs4, he4⟩ := KeptAt_recv hk
  obtain ⟨fs7, he7⟩ := SetsAt_recv hkd
  obtain ⟨fs9, he9⟩ := SetsAt_recv htr
  have hle6 := hok.1
  have hlen : ss.length < 2 ^ 31 := by omega
  refine lv_aload_n hx hb dX6_find_0 rfl (lv_at hl 0 rfl) ?_
  refine r_get (ci := 6) (v := .ref (ad 4)) (C := RX6) (T := TX6) (N := 3) hx hb hts inlX6 hown hK hs (3) (by omega) he3 rfl 0 (by decide) (hts _ w_fl_RX6_16) rfl dX6_find_1 ?_
  refine lv_iload_n hx hb dX6_find_4 rfl (lv_at hl 1 rfl) ?_
  refine lv_iload_n hx hb dX6_find_5 rfl (lv_at hl 2 rfl) ?_
  refine lv_iload_n hx hb dX6_find_6 rfl (lv_at hl 3 rfl) ?_
  refine lv_iconst (v := 0) hx hb dX6_find_7 (by decide) ?_
  refine lv_iconst (v := 0) hx hb dX6_find_8 (by decide) ?_
  refine r_callViR (ci := 1) (As := [.int (nI s1), .int (nI l1), .int (nI r1), .int (0), .int (0)]) hx hb hml hown hts hK hA hs (4) (by omega) he4 rfl rfl (c_X1_find l G hk (a := s1) (b := l1) (c1 := r1) (d := 0) (e1 := 0) (⟨hs1.1, hs1.2.1, hs1.2.2, by decide, by decide⟩)) (cwV 5 hts (tbV w_ml_RX6_38 w_im_yX1_find w_se_yX1_find w_ini_RX1 w_cd_yX1_find) rfl rfl rfl (by decide +kernel) ⟨Nat.le_of_ble_eq_true rfl, Nat.le_of_ble_eq_true rfl⟩) rfl hl.1 rfl (Nat.le_of_ble_eq_true rfl) dX6_find_9 ⟨Nat.zero_le _, Nat.zero_le _⟩ (fun H locs hs => ?_)
  refine r_iret (v := nI (kFind ss (s1, l1, r1, 0, 0))) (mc := 0) (ms := 0) hx hb hr hlk hs (Nat.le_refl _) (Nat.le_refl _) dX6_find_12 hQ ?_
  exact roV.rf rfl

set_option maxHeartbeats 600000 in
set_option maxRecDepth 100000 in
theorem c_X7_asAnswer (l : Launch) (G : rG) {n : Nat} {ad : Nat → Nat} {en : Nat → va_E} (b : Bool) : CI l G yX7_asAnswer uX7_asAnswer (0) (0) (0) (0) [.int (b2i b)] (n) (n) ad en (roV ad en (b2i b)) := by
  intro sz
  refine rMet (Qc := qI G (n) (roV ad en (b2i b))) (cc := cX7_asAnswer) (maxL := 1) (ret := (some .int)) (by decide) rfl (Nat.le_of_ble_eq_true rfl) ?_
  intro pP eE sS mM aA bB tT cC ls A Q hc hK hsz hA hs hl hQ
  obtain ⟨hx, hb, hr, hts, hown, hlk, hnm, hml⟩ := hc
  have hl : lv_has ls 1 [(0, .int (b2i b))] := hl
  refine lv_iload_n hx hb dX7_asAnswer_0 rfl (lv_at hl 0 rfl) ?_
  refine lv_if_eq (tgt := 8) hx hb dX7_asAnswer_1 (by decide) (fun c1 => ?_) (fun c1 => ?_)
  · skip
    refine lv_iconst (v := 0) hx hb dX7_asAnswer_8 (by decide) ?_
    refine r_iret (v := 0) (mc := 0) (ms := 0) hx hb hr hlk hs (Nat.le_refl _) (Nat.le_refl _) dX7_asAnswer_9 hQ ?_
    exact roV.rf (by rw [b2i_0 c1]; rfl)
  · skip
    refine lv_iconst (v := 1) hx hb dX7_asAnswer_4 (by decide) ?_
    refine lv_goto (tgt := 9) hx hb dX7_asAnswer_5 (by decide) ?_
    refine r_iret (v := 1) (mc := 0) (ms := 0) hx hb hr hlk hs (Nat.le_refl _) (Nat.le_refl _) dX7_asAnswer_9 hQ ?_
    exact roV.rf (by rw [b2i_1 c1]; rfl)

set_option maxHeartbeats 600000 in
set_option maxRecDepth 100000 in
theorem c_X7_statements (l : Launch) (G : rG) {n : Nat} {ad : Nat → Nat} {en : Nat → va_E} {s0 : NSt} {jd RR SL : Nat} {SN : Nat → Nat → Bool} {sf : Nat → Int32} {fl : Bool} {hw : Nat} {dv : Nat → Int32} {SG : Nat → Nat → Bool} {fuel sp : Nat} (hW : PsW G n ad en s0 jd RR SL SN sf fl hw dv SG fuel sp) : CI l G yX7_statements uX7_statements (2) (40) (0) (0) [.ref (ad 0)] (n) (n) ad en (roV ad en (nI s0.1.length)) := by
  intro sz
  refine rMet (Qc := qI G (n) (roV ad en (nI s0.1.length))) (cc := cX7_statements) (maxL := 1) (ret := (some .int)) (by decide) rfl (Nat.le_of_ble_eq_true rfl) ?_
  intro pP eE sS mM aA bB tT cC ls A Q hc hK hsz hA hs hl hQ
  obtain ⟨hx, hb, hr, hts, hown, hlk, hnm, hml⟩ := hc
  have hl : lv_has ls 1 [(0, .ref (ad 0))] := hl
  obtain ⟨he00, hPm0, hSc0, hRR0, hSL0⟩ := id hW
  obtain ⟨hSt0, hNd0, hOk0, hn0, he210⟩ := id hPm0
  obtain ⟨fs30, he30⟩ : ∃ fs, en 3 = .inr (6, fs) := ⟨_, hSt0.2.1⟩
  obtain ⟨fs110, he110⟩ : ∃ fs, en 11 = .inr (2, fs) := ⟨_, hNd0.2.1⟩
  obtain ⟨fs180, he180⟩ : ∃ fs, en 18 = .inr (4, fs) := ⟨_, hSc0.2.2.2.2⟩
  obtain ⟨fs210, hf210⟩ : ∃ fs, en 21 = .inr (3, fs) := ⟨_, he210⟩
  have h60 := hSt0.2.2.2.2.2.1
  have h80 := hOk0.1.1
  
  refine lv_aload_n hx hb dX7_statements_0 rfl (lv_at hl 0 rfl) ?_
  refine r_get (ci := 7) (v := .ref (ad 3)) (C := RX7) (T := TX7) (N := 4) hx hb hts inlX7 hown hK hs (0) (by omega) he00 rfl 0 (by decide) (hts _ w_fl_RX7_13) rfl dX7_statements_1 ?_
  refine r_callViR (ci := 6) (As := []) hx hb hml hown hts hK hA hs (3) (by omega) he30 rfl rfl (c_X6_size l G hSt0) (cwV 0 hts (tbV w_ml_RX7_58 w_im_yX6_size w_se_yX6_size w_ini_RX6 w_cd_yX6_size) rfl rfl rfl (by decide +kernel) ⟨Nat.le_of_ble_eq_true rfl, Nat.le_of_ble_eq_true rfl⟩) rfl hl.1 rfl (Nat.le_of_ble_eq_true rfl) dX7_statements_4 ⟨Nat.zero_le _, Nat.zero_le _⟩ (fun H locs hs => ?_)
  refine r_iret (v := nI s0.1.length) (mc := 0) (ms := 0) hx hb hr hlk hs (Nat.le_refl _) (Nat.le_refl _) dX7_statements_7 hQ ?_
  exact roV.rf rfl

set_option maxHeartbeats 600000 in
set_option maxRecDepth 100000 in
theorem c_X7_nodes (l : Launch) (G : rG) {n : Nat} {ad : Nat → Nat} {en : Nat → va_E} {s0 : NSt} {jd RR SL : Nat} {SN : Nat → Nat → Bool} {sf : Nat → Int32} {fl : Bool} {hw : Nat} {dv : Nat → Int32} {SG : Nat → Nat → Bool} {fuel sp : Nat} (hW : PsW G n ad en s0 jd RR SL SN sf fl hw dv SG fuel sp) : CI l G yX7_nodes uX7_nodes (2) (40) (0) (0) [.ref (ad 0)] (n) (n) ad en (roV ad en (nI s0.2.length)) := by
  intro sz
  refine rMet (Qc := qI G (n) (roV ad en (nI s0.2.length))) (cc := cX7_nodes) (maxL := 1) (ret := (some .int)) (by decide) rfl (Nat.le_of_ble_eq_true rfl) ?_
  intro pP eE sS mM aA bB tT cC ls A Q hc hK hsz hA hs hl hQ
  obtain ⟨hx, hb, hr, hts, hown, hlk, hnm, hml⟩ := hc
  have hl : lv_has ls 1 [(0, .ref (ad 0))] := hl
  obtain ⟨he00, hPm0, hSc0, hRR0, hSL0⟩ := id hW
  obtain ⟨hSt0, hNd0, hOk0, hn0, he210⟩ := id hPm0
  obtain ⟨fs30, he30⟩ : ∃ fs, en 3 = .inr (6, fs) := ⟨_, hSt0.2.1⟩
  obtain ⟨fs110, he110⟩ : ∃ fs, en 11 = .inr (2, fs) := ⟨_, hNd0.2.1⟩
  obtain ⟨fs180, he180⟩ : ∃ fs, en 18 = .inr (4, fs) := ⟨_, hSc0.2.2.2.2⟩
  obtain ⟨fs210, hf210⟩ : ∃ fs, en 21 = .inr (3, fs) := ⟨_, he210⟩
  have h60 := hSt0.2.2.2.2.2.1
  have h80 := hOk0.1.1
  
  refine lv_aload_n hx hb dX7_nodes_0 rfl (lv_at hl 0 rfl) ?_
  refine r_get (ci := 7) (v := .ref (ad 11)) (C := RX7) (T := TX7) (N := 4) hx hb hts inlX7 hown hK hs (0) (by omega) he00 rfl 1 (by decide) (hts _ w_fl_RX7_24) rfl dX7_nodes_1 ?_
  refine r_callViR (ci := 2) (As := []) hx hb hml hown hts hK hA hs (11) (by omega) he110 rfl rfl (c_X2_size l G hNd0) (cwV 0 hts (tbV w_ml_RX7_62 w_im_yX2_size w_se_yX2_size w_ini_RX2 w_cd_yX2_size) rfl rfl rfl (by decide +kernel) ⟨Nat.le_of_ble_eq_true rfl, Nat.le_of_ble_eq_true rfl⟩) rfl hl.1 rfl (Nat.le_of_ble_eq_true rfl) dX7_nodes_4 ⟨Nat.zero_le _, Nat.zero_le _⟩ (fun H locs hs => ?_)
  refine r_iret (v := nI s0.2.length) (mc := 0) (ms := 0) hx hb hr hlk hs (Nat.le_refl _) (Nat.le_refl _) dX7_nodes_7 hQ ?_
  exact roV.rf rfl

set_option maxHeartbeats 600000 in
set_option maxRecDepth 100000 in
theorem c_X7_used (l : Launch) (G : rG) {n : Nat} {ad : Nat → Nat} {en : Nat → va_E} {s0 : NSt} {jd RR SL : Nat} {SN : Nat → Nat → Bool} {sf : Nat → Int32} {fl : Bool} {hw : Nat} {dv : Nat → Int32} {SG : Nat → Nat → Bool} {fuel sp : Nat} (hW : PsW G n ad en s0 jd RR SL SN sf fl hw dv SG fuel sp) : CI l G yX7_used uX7_used (1) (20) (0) (0) [.ref (ad 0)] (n) (n) ad en (roV ad en (nI sp)) := by
  intro sz
  refine rMet (Qc := qI G (n) (roV ad en (nI sp))) (cc := cX7_used) (maxL := 1) (ret := (some .int)) (by decide) rfl (Nat.le_of_ble_eq_true rfl) ?_
  intro pP eE sS mM aA bB tT cC ls A Q hc hK hsz hA hs hl hQ
  obtain ⟨hx, hb, hr, hts, hown, hlk, hnm, hml⟩ := hc
  have hl : lv_has ls 1 [(0, .ref (ad 0))] := hl
  obtain ⟨he00, hPm0, hSc0, hRR0, hSL0⟩ := id hW
  obtain ⟨hSt0, hNd0, hOk0, hn0, he210⟩ := id hPm0
  obtain ⟨fs30, he30⟩ : ∃ fs, en 3 = .inr (6, fs) := ⟨_, hSt0.2.1⟩
  obtain ⟨fs110, he110⟩ : ∃ fs, en 11 = .inr (2, fs) := ⟨_, hNd0.2.1⟩
  obtain ⟨fs180, he180⟩ : ∃ fs, en 18 = .inr (4, fs) := ⟨_, hSc0.2.2.2.2⟩
  obtain ⟨fs210, hf210⟩ : ∃ fs, en 21 = .inr (3, fs) := ⟨_, he210⟩
  have h60 := hSt0.2.2.2.2.2.1
  have h80 := hOk0.1.1
  
  refine lv_aload_n hx hb dX7_used_0 rfl (lv_at hl 0 rfl) ?_
  refine r_get (ci := 7) (v := .ref (ad 18)) (C := RX7) (T := TX7) (N := 4) hx hb hts inlX7 hown hK hs (0) (by omega) he00 rfl 2 (by decide) (hts _ w_fl_RX7_33) rfl dX7_used_1 ?_
  refine r_callViR (ci := 4) (As := []) hx hb hml hown hts hK hA hs (18) (by omega) he180 rfl rfl (c_X4_fuelSpent l G hSc0) (cwV 0 hts (tbV w_ml_RX7_70 w_im_yX4_fuelSpent w_se_yX4_fuelSpent w_ini_RX4 w_cd_yX4_fuelSpent) rfl rfl rfl (by decide +kernel) ⟨Nat.le_of_ble_eq_true rfl, Nat.le_of_ble_eq_true rfl⟩) rfl hl.1 rfl (Nat.le_of_ble_eq_true rfl) dX7_used_4 ⟨Nat.zero_le _, Nat.zero_le _⟩ (fun H locs hs => ?_)
  refine r_iret (v := nI sp) (mc := 0) (ms := 0) hx hb hr hlk hs (Nat.le_refl _) (Nat.le_refl _) dX7_used_7 hQ ?_
  exact roV.rf rfl

set_option maxHeartbeats 600000 in
set_option maxRecDepth 100000 in
theorem c_X7_told (l : Launch) (G : rG) {n : Nat} {ad : Nat → Nat} {en : Nat → va_E} {s0 : NSt} {jd RR SL : Nat} {SN : Nat → Nat → Bool} {sf : Nat → Int32} {fl : Bool} {hw : Nat} {dv : Nat → Int32} {SG : Nat → Nat → Bool} {fuel sp : Nat} (hW : PsW G n ad en s0 jd RR SL SN sf fl hw dv SG fuel sp) (x y : Int32) : CI l G yX7_told uX7_told (2) (45) (0) (0) [.ref (ad 0), .int (x), .int (y)] (n) (n) ad en (roV ad en (fTold s0.1 x y)) := by
  intro sz
  refine rMet (Qc := qI G (n) (roV ad en (fTold s0.1 x y))) (cc := cX7_told) (maxL := 4) (ret := (some .int)) (by decide) rfl (Nat.le_of_ble_eq_true rfl) ?_
  intro pP eE sS mM aA bB tT cC ls A Q hc hK hsz hA hs hl hQ
  obtain ⟨hx, hb, hr, hts, hown, hlk, hnm, hml⟩ := hc
  have hl : lv_has ls 4 [(0, .ref (ad 0)), (1, .int (x)), (2, .int (y))] := hl
  obtain ⟨he00, hPm0, hSc0, hRR0, hSL0⟩ := id hW
  obtain ⟨hSt0, hNd0, hOk0, hn0, he210⟩ := id hPm0
  obtain ⟨fs30, he30⟩ : ∃ fs, en 3 = .inr (6, fs) := ⟨_, hSt0.2.1⟩
  obtain ⟨fs110, he110⟩ : ∃ fs, en 11 = .inr (2, fs) := ⟨_, hNd0.2.1⟩
  obtain ⟨fs180, he180⟩ : ∃ fs, en 18 = .inr (4, fs) := ⟨_, hSc0.2.2.2.2⟩
  obtain ⟨fs210, hf210⟩ : ∃ fs, en 21 = .inr (3, fs) := ⟨_, he210⟩
  have h60 := hSt0.2.2.2.2.2.1
  have h80 := hOk0.1.1
  
  refine lv_aload_n hx hb dX7_told_0 rfl (lv_at hl 0 rfl) ?_
  refine r_get (ci := 7) (v := .ref (ad 3)) (C := RX7) (T := TX7) (N := 4) hx hb hts inlX7 hown hK hs (0) (by omega) he00 rfl 0 (by decide) (hts _ w_fl_RX7_13) rfl dX7_told_1 ?_
  refine lv_iload_n hx hb dX7_told_4 rfl (lv_at hl 1 rfl) ?_
  refine r_callViR (ci := 6) (As := [.int (x)]) hx hb hml hown hts hK hA hs (3) (by omega) he30 rfl rfl (c_X6_holds l G hSt0 (x)) (cwV 1 hts (tbV w_ml_RX7_50 w_im_yX6_holds w_se_yX6_holds w_ini_RX6 w_cd_yX6_holds) rfl rfl rfl (by decide +kernel) ⟨Nat.le_of_ble_eq_true rfl, Nat.le_of_ble_eq_true rfl⟩) rfl hl.1 rfl (Nat.le_of_ble_eq_true rfl) dX7_told_5 ⟨Nat.zero_le _, Nat.zero_le _⟩ (fun H locs hs => ?_)
  refine lv_if_eq (tgt := 24) hx hb dX7_told_8 (by decide) (fun c8 => ?_) (fun c8 => ?_)
  · skip
    refine lv_iconst (v := 0) hx hb dX7_told_24 (by decide) ?_
    refine lv_istore_n (lv' := [(3, .int (0)), (0, .ref (ad 0)), (1, .int (x)), (2, .int (y))]) hx hb dX7_told_25 rfl hl (by decide) rfl (fun ls hl => ?_)
    refine lv_iload_n hx hb dX7_told_26 rfl (lv_at hl 0 rfl) ?_
    refine lv_if_eq (tgt := 42) hx hb dX7_told_27 (by decide) (fun _ => ?_) (fun c27 => absurd (by decide) c27)
    refine lv_iconst (v := (-1)) hx hb dX7_told_42 (by decide) ?_
    refine r_iret (v := (-1)) (mc := 0) (ms := 0) hx hb hr hlk hs (Nat.le_refl _) (Nat.le_refl _) dX7_told_43 hQ ?_
    exact roV.rf (by rw [fTold, if_neg (fun q => absurd q.1 (by rw [b2i_0 c8]; decide))])
  · skip
    refine lv_iload_n hx hb dX7_told_11 rfl (lv_at hl 2 rfl) ?_
    refine lv_if_lt (tgt := 24) hx hb dX7_told_12 (by decide) (fun c12 => ?_) (fun c12 => ?_)
    · skip
      refine lv_iconst (v := 0) hx hb dX7_told_24 (by decide) ?_
      refine lv_istore_n (lv' := [(3, .int (0)), (0, .ref (ad 0)), (1, .int (x)), (2, .int (y))]) hx hb dX7_told_25 rfl hl (by decide) rfl (fun ls hl => ?_)
      refine lv_iload_n hx hb dX7_told_26 rfl (lv_at hl 0 rfl) ?_
      refine lv_if_eq (tgt := 42) hx hb dX7_told_27 (by decide) (fun _ => ?_) (fun c27 => absurd (by decide) c27)
      refine lv_iconst (v := (-1)) hx hb dX7_told_42 (by decide) ?_
      refine r_iret (v := (-1)) (mc := 0) (ms := 0) hx hb hr hlk hs (Nat.le_refl _) (Nat.le_refl _) dX7_told_43 hQ ?_
      exact roV.rf (by rw [fTold, if_neg (fun q => absurd q.2.1 (Int32.not_le.mpr c12))])
    · skip
      refine lv_iload_n hx hb dX7_told_15 rfl (lv_at hl 2 rfl) ?_
      refine lv_iconst (v := 2) hx hb dX7_told_16 (by decide) ?_
      refine lv_icmp_gt (tgt := 24) hx hb dX7_told_17 (by decide) (fun c17 => ?_) (fun c17 => ?_)
      · skip
        refine lv_iconst (v := 0) hx hb dX7_told_24 (by decide) ?_
        refine lv_istore_n (lv' := [(3, .int (0)), (0, .ref (ad 0)), (1, .int (x)), (2, .int (y))]) hx hb dX7_told_25 rfl hl (by decide) rfl (fun ls hl => ?_)
        refine lv_iload_n hx hb dX7_told_26 rfl (lv_at hl 0 rfl) ?_
        refine lv_if_eq (tgt := 42) hx hb dX7_told_27 (by decide) (fun _ => ?_) (fun c27 => absurd (by decide) c27)
        refine lv_iconst (v := (-1)) hx hb dX7_told_42 (by decide) ?_
        refine r_iret (v := (-1)) (mc := 0) (ms := 0) hx hb hr hlk hs (Nat.le_refl _) (Nat.le_refl _) dX7_told_43 hQ ?_
        exact roV.rf (by rw [fTold, if_neg (fun q => absurd q.2.2 (Int32.not_le.mpr c17))])
      · skip
        refine lv_iconst (v := 1) hx hb dX7_told_20 (by decide) ?_
        refine lv_goto (tgt := 25) hx hb dX7_told_21 (by decide) ?_
        refine lv_istore_n (lv' := [(3, .int (1)), (0, .ref (ad 0)), (1, .int (x)), (2, .int (y))]) hx hb dX7_told_25 rfl hl (by decide) rfl (fun ls hl => ?_)
        refine lv_iload_n hx hb dX7_told_26 rfl (lv_at hl 0 rfl) ?_
        refine lv_if_eq (tgt := 42) hx hb dX7_told_27 (by decide) (fun c27 => absurd c27 (by decide)) (fun _ => ?_)
        refine lv_aload_n hx hb dX7_told_30 rfl (lv_at hl 1 rfl) ?_
        refine r_get (ci := 7) (v := .ref (ad 3)) (C := RX7) (T := TX7) (N := 4) hx hb hts inlX7 hown hK hs (0) (by omega) he00 rfl 0 (by decide) (hts _ w_fl_RX7_13) rfl dX7_told_31 ?_
        refine lv_iload_n hx hb dX7_told_34 rfl (lv_at hl 2 rfl) ?_
        refine lv_iload_n hx hb dX7_told_35 rfl (lv_at hl 3 rfl) ?_
        refine r_callViR (ci := 6) (As := [.int (x), .int (y)]) hx hb hml hown hts hK hA hs (3) (by omega) he30 rfl rfl (c_X6_read l G hSt0 (x) (y)) (cwV 2 hts (tbV w_ml_RX7_54 w_im_yX6_read w_se_yX6_read w_ini_RX6 w_cd_yX6_read) rfl rfl rfl (by decide +kernel) ⟨Nat.le_of_ble_eq_true rfl, Nat.le_of_ble_eq_true rfl⟩) rfl hl.1 rfl (Nat.le_of_ble_eq_true rfl) dX7_told_36 ⟨Nat.zero_le _, Nat.zero_le _⟩ (fun H locs hs => ?_)
        refine lv_goto (tgt := 43) hx hb dX7_told_39 (by decide) ?_
        refine r_iret (v := kGet s0.1 (x) (y)) (mc := 0) (ms := 0) hx hb hr hlk hs (Nat.le_refl _) (Nat.le_refl _) dX7_told_43 hQ ?_
        exact roV.rf (by rw [fTold, if_pos ⟨b2i_1 c8, Int32.not_lt.mp c12, Int32.not_lt.mp c17⟩])

set_option maxHeartbeats 600000 in
set_option maxRecDepth 100000 in
theorem c_X7_of (l : Launch) (G : rG) {n : Nat} {ad : Nat → Nat} {en : Nat → va_E} {s0 : NSt} {jd RR SL : Nat} {SN : Nat → Nat → Bool} {sf : Nat → Int32} {fl : Bool} {hw : Nat} {dv : Nat → Int32} {SG : Nat → Nat → Bool} {fuel sp : Nat} (hW : PsW G n ad en s0 jd RR SL SN sf fl hw dv SG fuel sp) (x y : Int32) : CI l G yX7_of uX7_of (2) (45) (0) (0) [.ref (ad 0), .int (x), .int (y)] (n) (n) ad en (roV ad en (fOf s0.2 x y)) := by
  intro sz
  refine rMet (Qc := qI G (n) (roV ad en (fOf s0.2 x y))) (cc := cX7_of) (maxL := 4) (ret := (some .int)) (by decide) rfl (Nat.le_of_ble_eq_true rfl) ?_
  intro pP eE sS mM aA bB tT cC ls A Q hc hK hsz hA hs hl hQ
  obtain ⟨hx, hb, hr, hts, hown, hlk, hnm, hml⟩ := hc
  have hl : lv_has ls 4 [(0, .ref (ad 0)), (1, .int (x)), (2, .int (y))] := hl
  obtain ⟨he00, hPm0, hSc0, hRR0, hSL0⟩ := id hW
  obtain ⟨hSt0, hNd0, hOk0, hn0, he210⟩ := id hPm0
  obtain ⟨fs30, he30⟩ : ∃ fs, en 3 = .inr (6, fs) := ⟨_, hSt0.2.1⟩
  obtain ⟨fs110, he110⟩ : ∃ fs, en 11 = .inr (2, fs) := ⟨_, hNd0.2.1⟩
  obtain ⟨fs180, he180⟩ : ∃ fs, en 18 = .inr (4, fs) := ⟨_, hSc0.2.2.2.2⟩
  obtain ⟨fs210, hf210⟩ : ∃ fs, en 21 = .inr (3, fs) := ⟨_, he210⟩
  have h60 := hSt0.2.2.2.2.2.1
  have h80 := hOk0.1.1
  
  refine lv_aload_n hx hb dX7_of_0 rfl (lv_at hl 0 rfl) ?_
  refine r_get (ci := 7) (v := .ref (ad 11)) (C := RX7) (T := TX7) (N := 4) hx hb hts inlX7 hown hK hs (0) (by omega) he00 rfl 1 (by decide) (hts _ w_fl_RX7_24) rfl dX7_of_1 ?_
  refine lv_iload_n hx hb dX7_of_4 rfl (lv_at hl 1 rfl) ?_
  refine r_callViR (ci := 2) (As := [.int (x)]) hx hb hml hown hts hK hA hs (11) (by omega) he110 rfl rfl (c_X2_holds l G hNd0 (x)) (cwV 1 hts (tbV w_ml_RX7_76 w_im_yX2_holds w_se_yX2_holds w_ini_RX2 w_cd_yX2_holds) rfl rfl rfl (by decide +kernel) ⟨Nat.le_of_ble_eq_true rfl, Nat.le_of_ble_eq_true rfl⟩) rfl hl.1 rfl (Nat.le_of_ble_eq_true rfl) dX7_of_5 ⟨Nat.zero_le _, Nat.zero_le _⟩ (fun H locs hs => ?_)
  refine lv_if_eq (tgt := 24) hx hb dX7_of_8 (by decide) (fun c8 => ?_) (fun c8 => ?_)
  · skip
    refine lv_iconst (v := 0) hx hb dX7_of_24 (by decide) ?_
    refine lv_istore_n (lv' := [(3, .int (0)), (0, .ref (ad 0)), (1, .int (x)), (2, .int (y))]) hx hb dX7_of_25 rfl hl (by decide) rfl (fun ls hl => ?_)
    refine lv_iload_n hx hb dX7_of_26 rfl (lv_at hl 0 rfl) ?_
    refine lv_if_eq (tgt := 42) hx hb dX7_of_27 (by decide) (fun _ => ?_) (fun c27 => absurd (by decide) c27)
    refine lv_iconst (v := (-1)) hx hb dX7_of_42 (by decide) ?_
    refine r_iret (v := (-1)) (mc := 0) (ms := 0) hx hb hr hlk hs (Nat.le_refl _) (Nat.le_refl _) dX7_of_43 hQ ?_
    exact roV.rf (by rw [fOf, if_neg (fun q => absurd q.1 (by rw [b2i_0 c8]; decide))])
  · skip
    refine lv_iload_n hx hb dX7_of_11 rfl (lv_at hl 2 rfl) ?_
    refine lv_if_lt (tgt := 24) hx hb dX7_of_12 (by decide) (fun c12 => ?_) (fun c12 => ?_)
    · skip
      refine lv_iconst (v := 0) hx hb dX7_of_24 (by decide) ?_
      refine lv_istore_n (lv' := [(3, .int (0)), (0, .ref (ad 0)), (1, .int (x)), (2, .int (y))]) hx hb dX7_of_25 rfl hl (by decide) rfl (fun ls hl => ?_)
      refine lv_iload_n hx hb dX7_of_26 rfl (lv_at hl 0 rfl) ?_
      refine lv_if_eq (tgt := 42) hx hb dX7_of_27 (by decide) (fun _ => ?_) (fun c27 => absurd (by decide) c27)
      refine lv_iconst (v := (-1)) hx hb dX7_of_42 (by decide) ?_
      refine r_iret (v := (-1)) (mc := 0) (ms := 0) hx hb hr hlk hs (Nat.le_refl _) (Nat.le_refl _) dX7_of_43 hQ ?_
      exact roV.rf (by rw [fOf, if_neg (fun q => absurd q.2.1 (Int32.not_le.mpr c12))])
    · skip
      refine lv_iload_n hx hb dX7_of_15 rfl (lv_at hl 2 rfl) ?_
      refine lv_iconst (v := 4) hx hb dX7_of_16 (by decide) ?_
      refine lv_icmp_gt (tgt := 24) hx hb dX7_of_17 (by decide) (fun c17 => ?_) (fun c17 => ?_)
      · skip
        refine lv_iconst (v := 0) hx hb dX7_of_24 (by decide) ?_
        refine lv_istore_n (lv' := [(3, .int (0)), (0, .ref (ad 0)), (1, .int (x)), (2, .int (y))]) hx hb dX7_of_25 rfl hl (by decide) rfl (fun ls hl => ?_)
        refine lv_iload_n hx hb dX7_of_26 rfl (lv_at hl 0 rfl) ?_
        refine lv_if_eq (tgt := 42) hx hb dX7_of_27 (by decide) (fun _ => ?_) (fun c27 => absurd (by decide) c27)
        refine lv_iconst (v := (-1)) hx hb dX7_of_42 (by decide) ?_
        refine r_iret (v := (-1)) (mc := 0) (ms := 0) hx hb hr hlk hs (Nat.le_refl _) (Nat.le_refl _) dX7_of_43 hQ ?_
        exact roV.rf (by rw [fOf, if_neg (fun q => absurd q.2.2 (Int32.not_le.mpr c17))])
      · skip
        refine lv_iconst (v := 1) hx hb dX7_of_20 (by decide) ?_
        refine lv_goto (tgt := 25) hx hb dX7_of_21 (by decide) ?_
        refine lv_istore_n (lv' := [(3, .int (1)), (0, .ref (ad 0)), (1, .int (x)), (2, .int (y))]) hx hb dX7_of_25 rfl hl (by decide) rfl (fun ls hl => ?_)
        refine lv_iload_n hx hb dX7_of_26 rfl (lv_at hl 0 rfl) ?_
        refine lv_if_eq (tgt := 42) hx hb dX7_of_27 (by decide) (fun c27 => absurd c27 (by decide)) (fun _ => ?_)
        refine lv_aload_n hx hb dX7_of_30 rfl (lv_at hl 1 rfl) ?_
        refine r_get (ci := 7) (v := .ref (ad 11)) (C := RX7) (T := TX7) (N := 4) hx hb hts inlX7 hown hK hs (0) (by omega) he00 rfl 1 (by decide) (hts _ w_fl_RX7_24) rfl dX7_of_31 ?_
        refine lv_iload_n hx hb dX7_of_34 rfl (lv_at hl 2 rfl) ?_
        refine lv_iload_n hx hb dX7_of_35 rfl (lv_at hl 3 rfl) ?_
        refine r_callViR (ci := 2) (As := [.int (x), .int (y)]) hx hb hml hown hts hK hA hs (11) (by omega) he110 rfl rfl (c_X2_read l G hNd0 (x) (y)) (cwV 2 hts (tbV w_ml_RX7_80 w_im_yX2_read w_se_yX2_read w_ini_RX2 w_cd_yX2_read) rfl rfl rfl (by decide +kernel) ⟨Nat.le_of_ble_eq_true rfl, Nat.le_of_ble_eq_true rfl⟩) rfl hl.1 rfl (Nat.le_of_ble_eq_true rfl) dX7_of_36 ⟨Nat.zero_le _, Nat.zero_le _⟩ (fun H locs hs => ?_)
        refine lv_goto (tgt := 43) hx hb dX7_of_39 (by decide) ?_
        refine r_iret (v := kGet s0.2 (x) (y)) (mc := 0) (ms := 0) hx hb hr hlk hs (Nat.le_refl _) (Nat.le_refl _) dX7_of_43 hQ ?_
        exact roV.rf (by rw [fOf, if_pos ⟨b2i_1 c8, Int32.not_lt.mp c12, Int32.not_lt.mp c17⟩])

set_option maxHeartbeats 600000 in
set_option maxRecDepth 100000 in
theorem c_X7_atom (l : Launch) (G : rG) {n : Nat} {ad : Nat → Nat} {en : Nat → va_E} {s0 : NSt} {jd RR SL : Nat} {SN : Nat → Nat → Bool} {sf : Nat → Int32} {fl : Bool} {hw : Nat} {dv : Nat → Int32} {SG : Nat → Nat → Bool} {fuel sp : Nat} (hW : PsW G n ad en s0 jd RR SL SN sf fl hw dv SG fuel sp) (x : Int32) : CI l G yX7_atom uX7_atom (4) (134) (bC s0.1 (fAtom s0.1 x).2) (bS s0.1 (fAtom s0.1 x).2) [.ref (ad 0), .int (x)] (n) (n) ad en (fPost G n ad en (fAtom s0.1 x).1 ((fAtom s0.1 x).2, s0.2) sp (bC s0.1 (fAtom s0.1 x).2 + pC7 s0 hw RR SL) (bS s0.1 (fAtom s0.1 x).2 + pS7 s0 hw RR SL)) := by
  intro sz
  refine rMet (Qc := qI G (n) (fPost G n ad en (fAtom s0.1 x).1 ((fAtom s0.1 x).2, s0.2) sp (bC s0.1 (fAtom s0.1 x).2 + pC7 s0 hw RR SL) (bS s0.1 (fAtom s0.1 x).2 + pS7 s0 hw RR SL))) (cc := cX7_atom) (maxL := 2) (ret := (some .int)) (by decide) rfl (Nat.le_of_ble_eq_true rfl) ?_
  intro pP eE sS mM aA bB tT cC ls A Q hc hK hsz hA hs hl hQ
  obtain ⟨hx, hb, hr, hts, hown, hlk, hnm, hml⟩ := hc
  have hl : lv_has ls 2 [(0, .ref (ad 0)), (1, .int (x))] := hl
  obtain ⟨he00, hPm0, hSc0, hRR0, hSL0⟩ := id hW
  obtain ⟨hSt0, hNd0, hOk0, hn0, he210⟩ := id hPm0
  obtain ⟨fs30, he30⟩ : ∃ fs, en 3 = .inr (6, fs) := ⟨_, hSt0.2.1⟩
  obtain ⟨fs110, he110⟩ : ∃ fs, en 11 = .inr (2, fs) := ⟨_, hNd0.2.1⟩
  obtain ⟨fs180, he180⟩ : ∃ fs, en 18 = .inr (4, fs) := ⟨_, hSc0.2.2.2.2⟩
  obtain ⟨fs210, hf210⟩ : ∃ fs, en 21 = .inr (3, fs) := ⟨_, he210⟩
  have h60 := hSt0.2.2.2.2.2.1
  have h80 := hOk0.1.1
  
  refine lv_iload_n hx hb dX7_atom_0 rfl (lv_at hl 1 rfl) ?_
  refine lv_if_lt (tgt := 23) hx hb dX7_atom_1 (by decide) (fun c1 => ?_) (fun c1 => ?_)
  · skip
    refine lv_iconst (v := (-1)) hx hb dX7_atom_23 (by decide) ?_
    refine r_iret (v := (-1)) (mc := bC s0.1 (fAtom s0.1 x).2) (ms := bS s0.1 (fAtom s0.1 x).2) hx hb hr hlk hs (Nat.zero_le _) (Nat.zero_le _) dX7_atom_24 hQ ?_
    have hV : fAtom s0.1 x = (-1, s0.1) := by rw [fAtom, if_neg (fun q => absurd q.1 (Int32.not_le.mpr c1))]
    rw [hV]
    exact fx_same hW rfl (b_self _).1 (b_self _).2
  · skip
    refine lv_iload_n hx hb dX7_atom_4 rfl (lv_at hl 1 rfl) ?_
    refine lv_bipush (v := 32) hx hb dX7_atom_5 (by decide) ?_
    refine lv_icmp_ge (tgt := 23) hx hb dX7_atom_7 (by decide) (fun c7 => ?_) (fun c7 => ?_)
    · skip
      refine lv_iconst (v := (-1)) hx hb dX7_atom_23 (by decide) ?_
      refine r_iret (v := (-1)) (mc := bC s0.1 (fAtom s0.1 x).2) (ms := bS s0.1 (fAtom s0.1 x).2) hx hb hr hlk hs (Nat.zero_le _) (Nat.zero_le _) dX7_atom_24 hQ ?_
      have hV : fAtom s0.1 x = (-1, s0.1) := by rw [fAtom, if_neg (fun q => absurd q.2 (Int32.not_lt.mpr c7))]
      rw [hV]
      exact fx_same hW rfl (b_self _).1 (b_self _).2
    · skip
      obtain ⟨k, hk0, hk1⟩ := pos_ex c1
      subst hk0
      have hk32 : k < 32 := lt_of_nI (b := 32) c7 ⟨hk1, by decide⟩
      have hV : fAtom s0.1 (nI k) = (sMakeR s0.1 (0, k, 0, 0, 0), sMake s0.1 (0, k, 0, 0, 0)) := by rw [fAtom, if_pos ⟨nI_pos' hk1, nI_lt hk32 (by decide)⟩, tN_nI hk1]
      refine lv_aload_n hx hb dX7_atom_10 rfl (lv_at hl 0 rfl) ?_
      refine r_get (ci := 7) (v := .ref (ad 3)) (C := RX7) (T := TX7) (N := 4) hx hb hts inlX7 hown hK hs (0) (by omega) he00 rfl 0 (by decide) (hts _ w_fl_RX7_13) rfl dX7_atom_11 ?_
      refine lv_iconst (v := 0) hx hb dX7_atom_14 (by decide) ?_
      refine lv_iload_n hx hb dX7_atom_15 rfl (lv_at hl 1 rfl) ?_
      refine lv_iconst (v := 0) hx hb dX7_atom_16 (by decide) ?_
      refine r_callVi (ci := 6) (As := [.int (0), .int (nI k), .int (0)]) hx hb hml hown hts hK hA hs (3) (by omega) he30 rfl rfl (c_X6_make l G hSt0 (s1 := 0) (l1 := k) (r1 := 0) (⟨rfl, Or.inl ⟨rfl, hk32, rfl⟩⟩)) (cwV 3 hts (tbV w_ml_RX7_46 w_im_yX6_make w_se_yX6_make w_ini_RX6 w_cd_yX6_make) rfl rfl rfl (by decide +kernel) ⟨Nat.le_of_ble_eq_true rfl, Nat.le_of_ble_eq_true rfl⟩) rfl hl.1 rfl (Nat.le_of_ble_eq_true rfl) dX7_atom_17 ⟨by show 0 + sMC s0.1 (0, k, 0, 0, 0) ≤ bC s0.1 (fAtom s0.1 (nI k)).2; rw [hV]; show 0 + sMC s0.1 (0, k, 0, 0, 0) ≤ bC s0.1 (sMake s0.1 (0, k, 0, 0, 0)); have := sM_b s0.1 (0, k, 0, 0, 0); omega, by show 0 + sMS s0.1 (0, k, 0, 0, 0) ≤ bS s0.1 (fAtom s0.1 (nI k)).2; rw [hV]; show 0 + sMS s0.1 (0, k, 0, 0, 0) ≤ bS s0.1 (sMake s0.1 (0, k, 0, 0, 0)); have := sM_b s0.1 (0, k, 0, 0, 0); omega⟩ (fun r_4 ad_1 en_2 H locs hp_3 hs => ?_)
      obtain ⟨hr1, hs1, hf1⟩ := hp_3
      obtain ⟨hW1, hF1⟩ := Ps_st hW hs1 hf1
      rw [hr1]
      refine lv_goto (tgt := 24) hx hb dX7_atom_20 (by decide) ?_
      refine r_iret (v := sMakeR s0.1 (0, k, 0, 0, 0)) (mc := bC s0.1 (fAtom s0.1 (nI k)).2) (ms := bS s0.1 (fAtom s0.1 (nI k)).2) hx hb hr hlk hs (by show 0 + sMC s0.1 (0, k, 0, 0, 0) ≤ bC s0.1 (fAtom s0.1 (nI k)).2; rw [hV]; show 0 + sMC s0.1 (0, k, 0, 0, 0) ≤ bC s0.1 (sMake s0.1 (0, k, 0, 0, 0)); have := sM_b s0.1 (0, k, 0, 0, 0); omega) (by show 0 + sMS s0.1 (0, k, 0, 0, 0) ≤ bS s0.1 (fAtom s0.1 (nI k)).2; rw [hV]; show 0 + sMS s0.1 (0, k, 0, 0, 0) ≤ bS s0.1 (sMake s0.1 (0, k, 0, 0, 0)); have := sM_b s0.1 (0, k, 0, 0, 0); omega) dX7_atom_24 hQ ?_
      exact fx_st hW1 hF1 hV

set_option maxHeartbeats 600000 in
set_option maxRecDepth 100000 in
theorem c_X7_falsehood (l : Launch) (G : rG) {n : Nat} {ad : Nat → Nat} {en : Nat → va_E} {s0 : NSt} {jd RR SL : Nat} {SN : Nat → Nat → Bool} {sf : Nat → Int32} {fl : Bool} {hw : Nat} {dv : Nat → Int32} {SG : Nat → Nat → Bool} {fuel sp : Nat} (hW : PsW G n ad en s0 jd RR SL SN sf fl hw dv SG fuel sp) : CI l G yX7_falsehood uX7_falsehood (4) (134) (bC s0.1 (fFals s0.1).2) (bS s0.1 (fFals s0.1).2) [.ref (ad 0)] (n) (n) ad en (fPost G n ad en (fFals s0.1).1 ((fFals s0.1).2, s0.2) sp (bC s0.1 (fFals s0.1).2 + pC7 s0 hw RR SL) (bS s0.1 (fFals s0.1).2 + pS7 s0 hw RR SL)) := by
  intro sz
  refine rMet (Qc := qI G (n) (fPost G n ad en (fFals s0.1).1 ((fFals s0.1).2, s0.2) sp (bC s0.1 (fFals s0.1).2 + pC7 s0 hw RR SL) (bS s0.1 (fFals s0.1).2 + pS7 s0 hw RR SL))) (cc := cX7_falsehood) (maxL := 1) (ret := (some .int)) (by decide) rfl (Nat.le_of_ble_eq_true rfl) ?_
  intro pP eE sS mM aA bB tT cC ls A Q hc hK hsz hA hs hl hQ
  obtain ⟨hx, hb, hr, hts, hown, hlk, hnm, hml⟩ := hc
  have hl : lv_has ls 1 [(0, .ref (ad 0))] := hl
  obtain ⟨he00, hPm0, hSc0, hRR0, hSL0⟩ := id hW
  obtain ⟨hSt0, hNd0, hOk0, hn0, he210⟩ := id hPm0
  obtain ⟨fs30, he30⟩ : ∃ fs, en 3 = .inr (6, fs) := ⟨_, hSt0.2.1⟩
  obtain ⟨fs110, he110⟩ : ∃ fs, en 11 = .inr (2, fs) := ⟨_, hNd0.2.1⟩
  obtain ⟨fs180, he180⟩ : ∃ fs, en 18 = .inr (4, fs) := ⟨_, hSc0.2.2.2.2⟩
  obtain ⟨fs210, hf210⟩ : ∃ fs, en 21 = .inr (3, fs) := ⟨_, he210⟩
  have h60 := hSt0.2.2.2.2.2.1
  have h80 := hOk0.1.1
  have hV : fFals s0.1 = (sMakeR s0.1 (1, 0, 0, 0, 0), sMake s0.1 (1, 0, 0, 0, 0)) := rfl
  refine lv_aload_n hx hb dX7_falsehood_0 rfl (lv_at hl 0 rfl) ?_
  refine r_get (ci := 7) (v := .ref (ad 3)) (C := RX7) (T := TX7) (N := 4) hx hb hts inlX7 hown hK hs (0) (by omega) he00 rfl 0 (by decide) (hts _ w_fl_RX7_13) rfl dX7_falsehood_1 ?_
  refine lv_iconst (v := 1) hx hb dX7_falsehood_4 (by decide) ?_
  refine lv_iconst (v := 0) hx hb dX7_falsehood_5 (by decide) ?_
  refine lv_iconst (v := 0) hx hb dX7_falsehood_6 (by decide) ?_
  refine r_callVi (ci := 6) (As := [.int (1), .int (0), .int (0)]) hx hb hml hown hts hK hA hs (3) (by omega) he30 rfl rfl (c_X6_make l G hSt0 (s1 := 1) (l1 := 0) (r1 := 0) (⟨rfl, Or.inr (Or.inl ⟨rfl, rfl, rfl⟩)⟩)) (cwV 3 hts (tbV w_ml_RX7_46 w_im_yX6_make w_se_yX6_make w_ini_RX6 w_cd_yX6_make) rfl rfl rfl (by decide +kernel) ⟨Nat.le_of_ble_eq_true rfl, Nat.le_of_ble_eq_true rfl⟩) rfl hl.1 rfl (Nat.le_of_ble_eq_true rfl) dX7_falsehood_7 ⟨by show 0 + sMC s0.1 (1, 0, 0, 0, 0) ≤ bC s0.1 (fFals s0.1).2; rw [hV]; show 0 + sMC s0.1 (1, 0, 0, 0, 0) ≤ bC s0.1 (sMake s0.1 (1, 0, 0, 0, 0)); have := sM_b s0.1 (1, 0, 0, 0, 0); omega, by show 0 + sMS s0.1 (1, 0, 0, 0, 0) ≤ bS s0.1 (fFals s0.1).2; rw [hV]; show 0 + sMS s0.1 (1, 0, 0, 0, 0) ≤ bS s0.1 (sMake s0.1 (1, 0, 0, 0, 0)); have := sM_b s0.1 (1, 0, 0, 0, 0); omega⟩ (fun r_4 ad_1 en_2 H locs hp_3 hs => ?_)
  obtain ⟨hr1, hs1, hf1⟩ := hp_3
  obtain ⟨hW1, hF1⟩ := Ps_st hW hs1 hf1
  rw [hr1]
  refine r_iret (v := sMakeR s0.1 (1, 0, 0, 0, 0)) (mc := bC s0.1 (fFals s0.1).2) (ms := bS s0.1 (fFals s0.1).2) hx hb hr hlk hs (by show 0 + sMC s0.1 (1, 0, 0, 0, 0) ≤ bC s0.1 (fFals s0.1).2; rw [hV]; show 0 + sMC s0.1 (1, 0, 0, 0, 0) ≤ bC s0.1 (sMake s0.1 (1, 0, 0, 0, 0)); have := sM_b s0.1 (1, 0, 0, 0, 0); omega) (by show 0 + sMS s0.1 (1, 0, 0, 0, 0) ≤ bS s0.1 (fFals s0.1).2; rw [hV]; show 0 + sMS s0.1 (1, 0, 0, 0, 0) ≤ bS s0.1 (sMake s0.1 (1, 0, 0, 0, 0)); have := sM_b s0.1 (1, 0, 0, 0, 0); omega) dX7_falsehood_10 hQ ?_
  exact fx_st hW1 hF1 hV

set_option maxHeartbeats 600000 in
set_option maxRecDepth 100000 in
theorem c_X7_join (l : Launch) (G : rG) {n : Nat} {ad : Nat → Nat} {en : Nat → va_E} {s0 : NSt} {jd RR SL : Nat} {SN : Nat → Nat → Bool} {sf : Nat → Int32} {fl : Bool} {hw : Nat} {dv : Nat → Int32} {SG : Nat → Nat → Bool} {fuel sp : Nat} (hW : PsW G n ad en s0 jd RR SL SN sf fl hw dv SG fuel sp) (t x y : Int32) : CI l G yX7_join uX7_join (4) (134) (bC s0.1 (fJoin s0.1 t x y).2) (bS s0.1 (fJoin s0.1 t x y).2) [.ref (ad 0), .int (t), .int (x), .int (y)] (n) (n) ad en (fPost G n ad en (fJoin s0.1 t x y).1 ((fJoin s0.1 t x y).2, s0.2) sp (bC s0.1 (fJoin s0.1 t x y).2 + pC7 s0 hw RR SL) (bS s0.1 (fJoin s0.1 t x y).2 + pS7 s0 hw RR SL)) := by
  intro sz
  refine rMet (Qc := qI G (n) (fPost G n ad en (fJoin s0.1 t x y).1 ((fJoin s0.1 t x y).2, s0.2) sp (bC s0.1 (fJoin s0.1 t x y).2 + pC7 s0 hw RR SL) (bS s0.1 (fJoin s0.1 t x y).2 + pS7 s0 hw RR SL))) (cc := cX7_join) (maxL := 5) (ret := (some .int)) (by decide) rfl (Nat.le_of_ble_eq_true rfl) ?_
  intro pP eE sS mM aA bB tT cC ls A Q hc hK hsz hA hs hl hQ
  obtain ⟨hx, hb, hr, hts, hown, hlk, hnm, hml⟩ := hc
  have hl : lv_has ls 5 [(0, .ref (ad 0)), (1, .int (t)), (2, .int (x)), (3, .int (y))] := hl
  obtain ⟨he00, hPm0, hSc0, hRR0, hSL0⟩ := id hW
  obtain ⟨hSt0, hNd0, hOk0, hn0, he210⟩ := id hPm0
  obtain ⟨fs30, he30⟩ : ∃ fs, en 3 = .inr (6, fs) := ⟨_, hSt0.2.1⟩
  obtain ⟨fs110, he110⟩ : ∃ fs, en 11 = .inr (2, fs) := ⟨_, hNd0.2.1⟩
  obtain ⟨fs180, he180⟩ : ∃ fs, en 18 = .inr (4, fs) := ⟨_, hSc0.2.2.2.2⟩
  obtain ⟨fs210, hf210⟩ : ∃ fs, en 21 = .inr (3, fs) := ⟨_, he210⟩
  have h60 := hSt0.2.2.2.2.2.1
  have h80 := hOk0.1.1
  
  refine lv_iload_n hx hb dX7_join_0 rfl (lv_at hl 1 rfl) ?_
  refine lv_iconst (v := 2) hx hb dX7_join_1 (by decide) ?_
  refine lv_icmp_eq (tgt := 15) hx hb dX7_join_2 (by decide) (fun c2 => ?_) (fun c2 => ?_)
  · skip
    refine lv_iconst (v := 1) hx hb dX7_join_15 (by decide) ?_
    refine lv_goto (tgt := 20) hx hb dX7_join_16 (by decide) ?_
    refine lv_istore (lv' := [(4, .int (1)), (0, .ref (ad 0)), (1, .int (t)), (2, .int (x)), (3, .int (y))]) hx hb dX7_join_20 hl (by decide) rfl (fun ls hl => ?_)
    refine lv_iload hx hb dX7_join_22 (lv_at hl 0 rfl) ?_
    refine lv_if_eq (tgt := 49) hx hb dX7_join_24 (by decide) (fun c24 => absurd c24 (by decide)) (fun _ => ?_)
    refine lv_aload_n hx hb dX7_join_27 rfl (lv_at hl 1 rfl) ?_
    refine r_get (ci := 7) (v := .ref (ad 3)) (C := RX7) (T := TX7) (N := 4) hx hb hts inlX7 hown hK hs (0) (by omega) he00 rfl 0 (by decide) (hts _ w_fl_RX7_13) rfl dX7_join_28 ?_
    refine lv_iload_n hx hb dX7_join_31 rfl (lv_at hl 3 rfl) ?_
    refine r_callViR (ci := 6) (As := [.int (x)]) hx hb hml hown hts hK hA hs (3) (by omega) he30 rfl rfl (c_X6_holds l G hSt0 (x)) (cwV 1 hts (tbV w_ml_RX7_50 w_im_yX6_holds w_se_yX6_holds w_ini_RX6 w_cd_yX6_holds) rfl rfl rfl (by decide +kernel) ⟨Nat.le_of_ble_eq_true rfl, Nat.le_of_ble_eq_true rfl⟩) rfl hl.1 rfl (Nat.le_of_ble_eq_true rfl) dX7_join_32 ⟨Nat.zero_le _, Nat.zero_le _⟩ (fun H locs hs => ?_)
    refine lv_if_eq (tgt := 49) hx hb dX7_join_35 (by decide) (fun c35 => ?_) (fun c35 => ?_)
    · skip
      refine lv_iconst (v := (-1)) hx hb dX7_join_49 (by decide) ?_
      refine r_iret (v := (-1)) (mc := bC s0.1 (fJoin s0.1 t x y).2) (ms := bS s0.1 (fJoin s0.1 t x y).2) hx hb hr hlk hs (Nat.zero_le _) (Nat.zero_le _) dX7_join_50 hQ ?_
      have hV : fJoin s0.1 t x y = (-1, s0.1) := by rw [fJoin, if_neg (fun q => absurd q.2.1 (by rw [b2i_0 c35]; decide))]
      rw [hV]
      exact fx_same hW rfl (b_self _).1 (b_self _).2
    · skip
      refine lv_aload_n hx hb dX7_join_38 rfl (lv_at hl 1 rfl) ?_
      refine r_get (ci := 7) (v := .ref (ad 3)) (C := RX7) (T := TX7) (N := 4) hx hb hts inlX7 hown hK hs (0) (by omega) he00 rfl 0 (by decide) (hts _ w_fl_RX7_13) rfl dX7_join_39 ?_
      refine lv_iload_n hx hb dX7_join_42 rfl (lv_at hl 4 rfl) ?_
      refine r_callViR (ci := 6) (As := [.int (y)]) hx hb hml hown hts hK hA hs (3) (by omega) he30 rfl rfl (c_X6_holds l G hSt0 (y)) (cwV 1 hts (tbV w_ml_RX7_50 w_im_yX6_holds w_se_yX6_holds w_ini_RX6 w_cd_yX6_holds) rfl rfl rfl (by decide +kernel) ⟨Nat.le_of_ble_eq_true rfl, Nat.le_of_ble_eq_true rfl⟩) rfl hl.1 rfl (Nat.le_of_ble_eq_true rfl) dX7_join_43 ⟨Nat.zero_le _, Nat.zero_le _⟩ (fun H locs hs => ?_)
      refine lv_if_ne (tgt := 51) hx hb dX7_join_46 (by decide) (fun c46 => ?_) (fun c46 => ?_)
      · skip
        obtain ⟨k, hk0, hk1, hk2⟩ := holds_ex (b2i_1 c35)
        obtain ⟨j, hj0, hj1, hj2⟩ := holds_ex (b2i_1 c46)
        have hV : fJoin s0.1 t x y = (sMakeR s0.1 (2, k, j, 0, 0), sMake s0.1 (2, k, j, 0, 0)) := by rw [fJoin, if_pos ⟨Or.inl c2, b2i_1 c35, b2i_1 c46⟩, hk0, hj0, c2, tN_nI (by omega), tN_nI (by omega)]; rfl
        subst hk0 hj0
        have et : t = nI 2 := c2
        subst et
        refine lv_aload_n hx hb dX7_join_51 rfl (lv_at hl 1 rfl) ?_
        refine r_get (ci := 7) (v := .ref (ad 3)) (C := RX7) (T := TX7) (N := 4) hx hb hts inlX7 hown hK hs (0) (by omega) he00 rfl 0 (by decide) (hts _ w_fl_RX7_13) rfl dX7_join_52 ?_
        refine lv_iload_n hx hb dX7_join_55 rfl (lv_at hl 2 rfl) ?_
        refine lv_iload_n hx hb dX7_join_56 rfl (lv_at hl 3 rfl) ?_
        refine lv_iload_n hx hb dX7_join_57 rfl (lv_at hl 4 rfl) ?_
        refine r_callVi (ci := 6) (As := [.int (nI 2), .int (nI k), .int (nI j)]) hx hb hml hown hts hK hA hs (3) (by omega) he30 rfl rfl (c_X6_make l G hSt0 (s1 := 2) (l1 := k) (r1 := j) (⟨rfl, Or.inr (Or.inr ⟨(by decide : 2 ≤ 2), (by decide : 2 ≤ 4), hk1, by show k < _; omega, hj1, by show j < _; omega⟩)⟩)) (cwV 3 hts (tbV w_ml_RX7_46 w_im_yX6_make w_se_yX6_make w_ini_RX6 w_cd_yX6_make) rfl rfl rfl (by decide +kernel) ⟨Nat.le_of_ble_eq_true rfl, Nat.le_of_ble_eq_true rfl⟩) rfl hl.1 rfl (Nat.le_of_ble_eq_true rfl) dX7_join_58 ⟨by show 0 + sMC s0.1 (2, k, j, 0, 0) ≤ bC s0.1 (fJoin s0.1 (nI 2) (nI k) (nI j)).2; rw [hV]; show 0 + sMC s0.1 (2, k, j, 0, 0) ≤ bC s0.1 (sMake s0.1 (2, k, j, 0, 0)); have := sM_b s0.1 (2, k, j, 0, 0); omega, by show 0 + sMS s0.1 (2, k, j, 0, 0) ≤ bS s0.1 (fJoin s0.1 (nI 2) (nI k) (nI j)).2; rw [hV]; show 0 + sMS s0.1 (2, k, j, 0, 0) ≤ bS s0.1 (sMake s0.1 (2, k, j, 0, 0)); have := sM_b s0.1 (2, k, j, 0, 0); omega⟩ (fun r_4 ad_1 en_2 H locs hp_3 hs => ?_)
        obtain ⟨hr1, hs1, hf1⟩ := hp_3
        obtain ⟨hW1, hF1⟩ := Ps_st hW hs1 hf1
        rw [hr1]
        refine r_iret (v := sMakeR s0.1 (2, k, j, 0, 0)) (mc := bC s0.1 (fJoin s0.1 (nI 2) (nI k) (nI j)).2) (ms := bS s0.1 (fJoin s0.1 (nI 2) (nI k) (nI j)).2) hx hb hr hlk hs (by show 0 + sMC s0.1 (2, k, j, 0, 0) ≤ bC s0.1 (fJoin s0.1 (nI 2) (nI k) (nI j)).2; rw [hV]; show 0 + sMC s0.1 (2, k, j, 0, 0) ≤ bC s0.1 (sMake s0.1 (2, k, j, 0, 0)); have := sM_b s0.1 (2, k, j, 0, 0); omega) (by show 0 + sMS s0.1 (2, k, j, 0, 0) ≤ bS s0.1 (fJoin s0.1 (nI 2) (nI k) (nI j)).2; rw [hV]; show 0 + sMS s0.1 (2, k, j, 0, 0) ≤ bS s0.1 (sMake s0.1 (2, k, j, 0, 0)); have := sM_b s0.1 (2, k, j, 0, 0); omega) dX7_join_61 hQ ?_
        exact fx_st hW1 hF1 hV
      · skip
        refine lv_iconst (v := (-1)) hx hb dX7_join_49 (by decide) ?_
        refine r_iret (v := (-1)) (mc := bC s0.1 (fJoin s0.1 t x y).2) (ms := bS s0.1 (fJoin s0.1 t x y).2) hx hb hr hlk hs (Nat.zero_le _) (Nat.zero_le _) dX7_join_50 hQ ?_
        have hV : fJoin s0.1 t x y = (-1, s0.1) := by rw [fJoin, if_neg (fun q => absurd q.2.2 (by rw [b2i_0 c46]; decide))]
        rw [hV]
        exact fx_same hW rfl (b_self _).1 (b_self _).2
  · skip
    refine lv_iload_n hx hb dX7_join_5 rfl (lv_at hl 1 rfl) ?_
    refine lv_iconst (v := 3) hx hb dX7_join_6 (by decide) ?_
    refine lv_icmp_eq (tgt := 15) hx hb dX7_join_7 (by decide) (fun c7 => ?_) (fun c7 => ?_)
    · skip
      refine lv_iconst (v := 1) hx hb dX7_join_15 (by decide) ?_
      refine lv_goto (tgt := 20) hx hb dX7_join_16 (by decide) ?_
      refine lv_istore (lv' := [(4, .int (1)), (0, .ref (ad 0)), (1, .int (t)), (2, .int (x)), (3, .int (y))]) hx hb dX7_join_20 hl (by decide) rfl (fun ls hl => ?_)
      refine lv_iload hx hb dX7_join_22 (lv_at hl 0 rfl) ?_
      refine lv_if_eq (tgt := 49) hx hb dX7_join_24 (by decide) (fun c24 => absurd c24 (by decide)) (fun _ => ?_)
      refine lv_aload_n hx hb dX7_join_27 rfl (lv_at hl 1 rfl) ?_
      refine r_get (ci := 7) (v := .ref (ad 3)) (C := RX7) (T := TX7) (N := 4) hx hb hts inlX7 hown hK hs (0) (by omega) he00 rfl 0 (by decide) (hts _ w_fl_RX7_13) rfl dX7_join_28 ?_
      refine lv_iload_n hx hb dX7_join_31 rfl (lv_at hl 3 rfl) ?_
      refine r_callViR (ci := 6) (As := [.int (x)]) hx hb hml hown hts hK hA hs (3) (by omega) he30 rfl rfl (c_X6_holds l G hSt0 (x)) (cwV 1 hts (tbV w_ml_RX7_50 w_im_yX6_holds w_se_yX6_holds w_ini_RX6 w_cd_yX6_holds) rfl rfl rfl (by decide +kernel) ⟨Nat.le_of_ble_eq_true rfl, Nat.le_of_ble_eq_true rfl⟩) rfl hl.1 rfl (Nat.le_of_ble_eq_true rfl) dX7_join_32 ⟨Nat.zero_le _, Nat.zero_le _⟩ (fun H locs hs => ?_)
      refine lv_if_eq (tgt := 49) hx hb dX7_join_35 (by decide) (fun c35 => ?_) (fun c35 => ?_)
      · skip
        refine lv_iconst (v := (-1)) hx hb dX7_join_49 (by decide) ?_
        refine r_iret (v := (-1)) (mc := bC s0.1 (fJoin s0.1 t x y).2) (ms := bS s0.1 (fJoin s0.1 t x y).2) hx hb hr hlk hs (Nat.zero_le _) (Nat.zero_le _) dX7_join_50 hQ ?_
        have hV : fJoin s0.1 t x y = (-1, s0.1) := by rw [fJoin, if_neg (fun q => absurd q.2.1 (by rw [b2i_0 c35]; decide))]
        rw [hV]
        exact fx_same hW rfl (b_self _).1 (b_self _).2
      · skip
        refine lv_aload_n hx hb dX7_join_38 rfl (lv_at hl 1 rfl) ?_
        refine r_get (ci := 7) (v := .ref (ad 3)) (C := RX7) (T := TX7) (N := 4) hx hb hts inlX7 hown hK hs (0) (by omega) he00 rfl 0 (by decide) (hts _ w_fl_RX7_13) rfl dX7_join_39 ?_
        refine lv_iload_n hx hb dX7_join_42 rfl (lv_at hl 4 rfl) ?_
        refine r_callViR (ci := 6) (As := [.int (y)]) hx hb hml hown hts hK hA hs (3) (by omega) he30 rfl rfl (c_X6_holds l G hSt0 (y)) (cwV 1 hts (tbV w_ml_RX7_50 w_im_yX6_holds w_se_yX6_holds w_ini_RX6 w_cd_yX6_holds) rfl rfl rfl (by decide +kernel) ⟨Nat.le_of_ble_eq_true rfl, Nat.le_of_ble_eq_true rfl⟩) rfl hl.1 rfl (Nat.le_of_ble_eq_true rfl) dX7_join_43 ⟨Nat.zero_le _, Nat.zero_le _⟩ (fun H locs hs => ?_)
        refine lv_if_ne (tgt := 51) hx hb dX7_join_46 (by decide) (fun c46 => ?_) (fun c46 => ?_)
        · skip
          obtain ⟨k, hk0, hk1, hk2⟩ := holds_ex (b2i_1 c35)
          obtain ⟨j, hj0, hj1, hj2⟩ := holds_ex (b2i_1 c46)
          have hV : fJoin s0.1 t x y = (sMakeR s0.1 (3, k, j, 0, 0), sMake s0.1 (3, k, j, 0, 0)) := by rw [fJoin, if_pos ⟨Or.inr (Or.inl c7), b2i_1 c35, b2i_1 c46⟩, hk0, hj0, c7, tN_nI (by omega), tN_nI (by omega)]; rfl
          subst hk0 hj0
          have et : t = nI 3 := c7
          subst et
          refine lv_aload_n hx hb dX7_join_51 rfl (lv_at hl 1 rfl) ?_
          refine r_get (ci := 7) (v := .ref (ad 3)) (C := RX7) (T := TX7) (N := 4) hx hb hts inlX7 hown hK hs (0) (by omega) he00 rfl 0 (by decide) (hts _ w_fl_RX7_13) rfl dX7_join_52 ?_
          refine lv_iload_n hx hb dX7_join_55 rfl (lv_at hl 2 rfl) ?_
          refine lv_iload_n hx hb dX7_join_56 rfl (lv_at hl 3 rfl) ?_
          refine lv_iload_n hx hb dX7_join_57 rfl (lv_at hl 4 rfl) ?_
          refine r_callVi (ci := 6) (As := [.int (nI 3), .int (nI k), .int (nI j)]) hx hb hml hown hts hK hA hs (3) (by omega) he30 rfl rfl (c_X6_make l G hSt0 (s1 := 3) (l1 := k) (r1 := j) (⟨rfl, Or.inr (Or.inr ⟨(by decide : 2 ≤ 3), (by decide : 3 ≤ 4), hk1, by show k < _; omega, hj1, by show j < _; omega⟩)⟩)) (cwV 3 hts (tbV w_ml_RX7_46 w_im_yX6_make w_se_yX6_make w_ini_RX6 w_cd_yX6_make) rfl rfl rfl (by decide +kernel) ⟨Nat.le_of_ble_eq_true rfl, Nat.le_of_ble_eq_true rfl⟩) rfl hl.1 rfl (Nat.le_of_ble_eq_true rfl) dX7_join_58 ⟨by show 0 + sMC s0.1 (3, k, j, 0, 0) ≤ bC s0.1 (fJoin s0.1 (nI 3) (nI k) (nI j)).2; rw [hV]; show 0 + sMC s0.1 (3, k, j, 0, 0) ≤ bC s0.1 (sMake s0.1 (3, k, j, 0, 0)); have := sM_b s0.1 (3, k, j, 0, 0); omega, by show 0 + sMS s0.1 (3, k, j, 0, 0) ≤ bS s0.1 (fJoin s0.1 (nI 3) (nI k) (nI j)).2; rw [hV]; show 0 + sMS s0.1 (3, k, j, 0, 0) ≤ bS s0.1 (sMake s0.1 (3, k, j, 0, 0)); have := sM_b s0.1 (3, k, j, 0, 0); omega⟩ (fun r_8 ad_5 en_6 H locs hp_7 hs => ?_)
          obtain ⟨hr1, hs1, hf1⟩ := hp_7
          obtain ⟨hW1, hF1⟩ := Ps_st hW hs1 hf1
          rw [hr1]
          refine r_iret (v := sMakeR s0.1 (3, k, j, 0, 0)) (mc := bC s0.1 (fJoin s0.1 (nI 3) (nI k) (nI j)).2) (ms := bS s0.1 (fJoin s0.1 (nI 3) (nI k) (nI j)).2) hx hb hr hlk hs (by show 0 + sMC s0.1 (3, k, j, 0, 0) ≤ bC s0.1 (fJoin s0.1 (nI 3) (nI k) (nI j)).2; rw [hV]; show 0 + sMC s0.1 (3, k, j, 0, 0) ≤ bC s0.1 (sMake s0.1 (3, k, j, 0, 0)); have := sM_b s0.1 (3, k, j, 0, 0); omega) (by show 0 + sMS s0.1 (3, k, j, 0, 0) ≤ bS s0.1 (fJoin s0.1 (nI 3) (nI k) (nI j)).2; rw [hV]; show 0 + sMS s0.1 (3, k, j, 0, 0) ≤ bS s0.1 (sMake s0.1 (3, k, j, 0, 0)); have := sM_b s0.1 (3, k, j, 0, 0); omega) dX7_join_61 hQ ?_
          exact fx_st hW1 hF1 hV
        · skip
          refine lv_iconst (v := (-1)) hx hb dX7_join_49 (by decide) ?_
          refine r_iret (v := (-1)) (mc := bC s0.1 (fJoin s0.1 t x y).2) (ms := bS s0.1 (fJoin s0.1 t x y).2) hx hb hr hlk hs (Nat.zero_le _) (Nat.zero_le _) dX7_join_50 hQ ?_
          have hV : fJoin s0.1 t x y = (-1, s0.1) := by rw [fJoin, if_neg (fun q => absurd q.2.2 (by rw [b2i_0 c46]; decide))]
          rw [hV]
          exact fx_same hW rfl (b_self _).1 (b_self _).2
    · skip
      refine lv_iload_n hx hb dX7_join_10 rfl (lv_at hl 1 rfl) ?_
      refine lv_iconst (v := 4) hx hb dX7_join_11 (by decide) ?_
      refine lv_icmp_ne (tgt := 19) hx hb dX7_join_12 (by decide) (fun c12 => ?_) (fun c12 => ?_)
      · skip
        refine lv_iconst (v := 0) hx hb dX7_join_19 (by decide) ?_
        refine lv_istore (lv' := [(4, .int (0)), (0, .ref (ad 0)), (1, .int (t)), (2, .int (x)), (3, .int (y))]) hx hb dX7_join_20 hl (by decide) rfl (fun ls hl => ?_)
        refine lv_iload hx hb dX7_join_22 (lv_at hl 0 rfl) ?_
        refine lv_if_eq (tgt := 49) hx hb dX7_join_24 (by decide) (fun _ => ?_) (fun c24 => absurd (by decide) c24)
        refine lv_iconst (v := (-1)) hx hb dX7_join_49 (by decide) ?_
        refine r_iret (v := (-1)) (mc := bC s0.1 (fJoin s0.1 t x y).2) (ms := bS s0.1 (fJoin s0.1 t x y).2) hx hb hr hlk hs (Nat.zero_le _) (Nat.zero_le _) dX7_join_50 hQ ?_
        have hV : fJoin s0.1 t x y = (-1, s0.1) := by rw [fJoin, if_neg (fun q => q.1.elim c2 (fun z => z.elim c7 c12))]
        rw [hV]
        exact fx_same hW rfl (b_self _).1 (b_self _).2
      · skip
        refine lv_iconst (v := 1) hx hb dX7_join_15 (by decide) ?_
        refine lv_goto (tgt := 20) hx hb dX7_join_16 (by decide) ?_
        refine lv_istore (lv' := [(4, .int (1)), (0, .ref (ad 0)), (1, .int (t)), (2, .int (x)), (3, .int (y))]) hx hb dX7_join_20 hl (by decide) rfl (fun ls hl => ?_)
        refine lv_iload hx hb dX7_join_22 (lv_at hl 0 rfl) ?_
        refine lv_if_eq (tgt := 49) hx hb dX7_join_24 (by decide) (fun c24 => absurd c24 (by decide)) (fun _ => ?_)
        refine lv_aload_n hx hb dX7_join_27 rfl (lv_at hl 1 rfl) ?_
        refine r_get (ci := 7) (v := .ref (ad 3)) (C := RX7) (T := TX7) (N := 4) hx hb hts inlX7 hown hK hs (0) (by omega) he00 rfl 0 (by decide) (hts _ w_fl_RX7_13) rfl dX7_join_28 ?_
        refine lv_iload_n hx hb dX7_join_31 rfl (lv_at hl 3 rfl) ?_
        refine r_callViR (ci := 6) (As := [.int (x)]) hx hb hml hown hts hK hA hs (3) (by omega) he30 rfl rfl (c_X6_holds l G hSt0 (x)) (cwV 1 hts (tbV w_ml_RX7_50 w_im_yX6_holds w_se_yX6_holds w_ini_RX6 w_cd_yX6_holds) rfl rfl rfl (by decide +kernel) ⟨Nat.le_of_ble_eq_true rfl, Nat.le_of_ble_eq_true rfl⟩) rfl hl.1 rfl (Nat.le_of_ble_eq_true rfl) dX7_join_32 ⟨Nat.zero_le _, Nat.zero_le _⟩ (fun H locs hs => ?_)
        refine lv_if_eq (tgt := 49) hx hb dX7_join_35 (by decide) (fun c35 => ?_) (fun c35 => ?_)
        · skip
          refine lv_iconst (v := (-1)) hx hb dX7_join_49 (by decide) ?_
          refine r_iret (v := (-1)) (mc := bC s0.1 (fJoin s0.1 t x y).2) (ms := bS s0.1 (fJoin s0.1 t x y).2) hx hb hr hlk hs (Nat.zero_le _) (Nat.zero_le _) dX7_join_50 hQ ?_
          have hV : fJoin s0.1 t x y = (-1, s0.1) := by rw [fJoin, if_neg (fun q => absurd q.2.1 (by rw [b2i_0 c35]; decide))]
          rw [hV]
          exact fx_same hW rfl (b_self _).1 (b_self _).2
        · skip
          refine lv_aload_n hx hb dX7_join_38 rfl (lv_at hl 1 rfl) ?_
          refine r_get (ci := 7) (v := .ref (ad 3)) (C := RX7) (T := TX7) (N := 4) hx hb hts inlX7 hown hK hs (0) (by omega) he00 rfl 0 (by decide) (hts _ w_fl_RX7_13) rfl dX7_join_39 ?_
          refine lv_iload_n hx hb dX7_join_42 rfl (lv_at hl 4 rfl) ?_
          refine r_callViR (ci := 6) (As := [.int (y)]) hx hb hml hown hts hK hA hs (3) (by omega) he30 rfl rfl (c_X6_holds l G hSt0 (y)) (cwV 1 hts (tbV w_ml_RX7_50 w_im_yX6_holds w_se_yX6_holds w_ini_RX6 w_cd_yX6_holds) rfl rfl rfl (by decide +kernel) ⟨Nat.le_of_ble_eq_true rfl, Nat.le_of_ble_eq_true rfl⟩) rfl hl.1 rfl (Nat.le_of_ble_eq_true rfl) dX7_join_43 ⟨Nat.zero_le _, Nat.zero_le _⟩ (fun H locs hs => ?_)
          refine lv_if_ne (tgt := 51) hx hb dX7_join_46 (by decide) (fun c46 => ?_) (fun c46 => ?_)
          · skip
            obtain ⟨k, hk0, hk1, hk2⟩ := holds_ex (b2i_1 c35)
            obtain ⟨j, hj0, hj1, hj2⟩ := holds_ex (b2i_1 c46)
            have hV : fJoin s0.1 t x y = (sMakeR s0.1 (4, k, j, 0, 0), sMake s0.1 (4, k, j, 0, 0)) := by rw [fJoin, if_pos ⟨Or.inr (Or.inr c12), b2i_1 c35, b2i_1 c46⟩, hk0, hj0, c12, tN_nI (by omega), tN_nI (by omega)]; rfl
            subst hk0 hj0
            have et : t = nI 4 := c12
            subst et
            refine lv_aload_n hx hb dX7_join_51 rfl (lv_at hl 1 rfl) ?_
            refine r_get (ci := 7) (v := .ref (ad 3)) (C := RX7) (T := TX7) (N := 4) hx hb hts inlX7 hown hK hs (0) (by omega) he00 rfl 0 (by decide) (hts _ w_fl_RX7_13) rfl dX7_join_52 ?_
            refine lv_iload_n hx hb dX7_join_55 rfl (lv_at hl 2 rfl) ?_
            refine lv_iload_n hx hb dX7_join_56 rfl (lv_at hl 3 rfl) ?_
            refine lv_iload_n hx hb dX7_join_57 rfl (lv_at hl 4 rfl) ?_
            refine r_callVi (ci := 6) (As := [.int (nI 4), .int (nI k), .int (nI j)]) hx hb hml hown hts hK hA hs (3) (by omega) he30 rfl rfl (c_X6_make l G hSt0 (s1 := 4) (l1 := k) (r1 := j) (⟨rfl, Or.inr (Or.inr ⟨(by decide : 2 ≤ 4), (by decide : 4 ≤ 4), hk1, by show k < _; omega, hj1, by show j < _; omega⟩)⟩)) (cwV 3 hts (tbV w_ml_RX7_46 w_im_yX6_make w_se_yX6_make w_ini_RX6 w_cd_yX6_make) rfl rfl rfl (by decide +kernel) ⟨Nat.le_of_ble_eq_true rfl, Nat.le_of_ble_eq_true rfl⟩) rfl hl.1 rfl (Nat.le_of_ble_eq_true rfl) dX7_join_58 ⟨by show 0 + sMC s0.1 (4, k, j, 0, 0) ≤ bC s0.1 (fJoin s0.1 (nI 4) (nI k) (nI j)).2; rw [hV]; show 0 + sMC s0.1 (4, k, j, 0, 0) ≤ bC s0.1 (sMake s0.1 (4, k, j, 0, 0)); have := sM_b s0.1 (4, k, j, 0, 0); omega, by show 0 + sMS s0.1 (4, k, j, 0, 0) ≤ bS s0.1 (fJoin s0.1 (nI 4) (nI k) (nI j)).2; rw [hV]; show 0 + sMS s0.1 (4, k, j, 0, 0) ≤ bS s0.1 (sMake s0.1 (4, k, j, 0, 0)); have := sM_b s0.1 (4, k, j, 0, 0); omega⟩ (fun r_12 ad_9 en_10 H locs hp_11 hs => ?_)
            obtain ⟨hr1, hs1, hf1⟩ := hp_11
            obtain ⟨hW1, hF1⟩ := Ps_st hW hs1 hf1
            rw [hr1]
            refine r_iret (v := sMakeR s0.1 (4, k, j, 0, 0)) (mc := bC s0.1 (fJoin s0.1 (nI 4) (nI k) (nI j)).2) (ms := bS s0.1 (fJoin s0.1 (nI 4) (nI k) (nI j)).2) hx hb hr hlk hs (by show 0 + sMC s0.1 (4, k, j, 0, 0) ≤ bC s0.1 (fJoin s0.1 (nI 4) (nI k) (nI j)).2; rw [hV]; show 0 + sMC s0.1 (4, k, j, 0, 0) ≤ bC s0.1 (sMake s0.1 (4, k, j, 0, 0)); have := sM_b s0.1 (4, k, j, 0, 0); omega) (by show 0 + sMS s0.1 (4, k, j, 0, 0) ≤ bS s0.1 (fJoin s0.1 (nI 4) (nI k) (nI j)).2; rw [hV]; show 0 + sMS s0.1 (4, k, j, 0, 0) ≤ bS s0.1 (sMake s0.1 (4, k, j, 0, 0)); have := sM_b s0.1 (4, k, j, 0, 0); omega) dX7_join_61 hQ ?_
            exact fx_st hW1 hF1 hV
          · skip
            refine lv_iconst (v := (-1)) hx hb dX7_join_49 (by decide) ?_
            refine r_iret (v := (-1)) (mc := bC s0.1 (fJoin s0.1 t x y).2) (ms := bS s0.1 (fJoin s0.1 t x y).2) hx hb hr hlk hs (Nat.zero_le _) (Nat.zero_le _) dX7_join_50 hQ ?_
            have hV : fJoin s0.1 t x y = (-1, s0.1) := by rw [fJoin, if_neg (fun q => absurd q.2.2 (by rw [b2i_0 c46]; decide))]
            rw [hV]
            exact fx_same hW rfl (b_self _).1 (b_self _).2

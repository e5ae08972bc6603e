set_option maxHeartbeats 600000 in
set_option maxRecDepth 100000 in
theorem c_X4_leastOfKind (l : Launch) (G : rG) {n : Nat} {ad : Nat → Nat} {en : Nat → va_E} {ss : List Row} {hw : Nat} {dv : Nat → Int32} {S : Nat → Nat → Bool} {fuel sp : Nat} (hW : SchW G n ad en ss hw dv S fuel sp) {d : Nat} (hd : d < 82) {k a : Nat} (hk : k < 10) (ha : a < 2 ^ 31) : CI l G yX4_leastOfKind uX4_leastOfKind (2) (50) (0) (0) [.ref (ad 18), .int (nI d), .int (nI k), .int (nI a)] (n) (n) ad en (roV ad en (nI (lstK ss (S d) k a))) := by
  intro sz
  refine rMet (Qc := qI G (n) (roV ad en (nI (lstK ss (S d) k a)))) (cc := cX4_leastOfKind) (maxL := 4) (ret := (some .int)) (by decide) rfl (Nat.le_of_ble_eq_true rfl) ?_
  intro pP eE sS mM aA bB tT cC ls A Q hc hK hsz hA hs hl hQ
  obtain ⟨hx, hb, hr, hts, hown, hlk, hnm, hml⟩ := hc
  have hl : lv_has ls 4 [(0, .ref (ad 18)), (1, .int (nI d)), (2, .int (nI k)), (3, .int (nI a))] := hl
  obtain ⟨hn0, hSt0, hDe0, hGi0, he180⟩ := id hW
  have he30 := hSt0.2.1
  obtain ⟨fs70, he70⟩ := SetsAt_recv hSt0.2.2.2.1
  obtain ⟨fs190, he190⟩ := SetsAt_recv hGi0
  obtain ⟨fs10, he10⟩ := DerAt_recv hDe0
  have hok0 := hSt0.2.2.2.2.2
  have h60 := hok0.1
  
  refine lv_aload_n hx hb dX4_leastOfKind_0 rfl (lv_at hl 0 rfl) ?_
  refine r_get (ci := 4) (v := .ref (ad 19)) (C := RX4) (T := TX4) (N := 5) hx hb hts inlX4 hown hK hs (18) (by omega) he180 rfl 2 (by decide) (hts _ w_fl_RX4_14) rfl dX4_leastOfKind_1 ?_
  refine lv_iload_n hx hb dX4_leastOfKind_4 rfl (lv_at hl 1 rfl) ?_
  refine lv_aload_n hx hb dX4_leastOfKind_5 rfl (lv_at hl 0 rfl) ?_
  refine r_get (ci := 4) (v := .ref (ad 3)) (C := RX4) (T := TX4) (N := 5) hx hb hts inlX4 hown hK hs (18) (by omega) he180 rfl 0 (by decide) (hts _ w_fl_RX4_27) rfl dX4_leastOfKind_6 ?_
  refine r_callVrR (ci := 6) (As := []) hx hb hml hown hts hK hA hs (3) (by omega) he30 rfl rfl (c_X6_byKind l G hSt0) (cwV 0 hts (tbV w_ml_RX4_123 w_im_yX6_byKind w_se_yX6_byKind w_ini_RX6 w_cd_yX6_byKind) rfl rfl rfl (by decide +kernel) ⟨Nat.le_of_ble_eq_true rfl, Nat.le_of_ble_eq_true rfl⟩) rfl hl.1 rfl (Nat.le_of_ble_eq_true rfl) dX4_leastOfKind_9 ⟨Nat.zero_le _, Nat.zero_le _⟩ (fun H locs hs => ?_)
  refine lv_iload_n hx hb dX4_leastOfKind_12 rfl (lv_at hl 2 rfl) ?_
  refine lv_iload_n hx hb dX4_leastOfKind_13 rfl (lv_at hl 3 rfl) ?_
  refine r_callViR (ci := 5) (As := [.int (nI d), .ref (ad 7), .int (nI k), .int (nI a)]) hx hb hml hown hts hK hA hs (19) (by omega) he190 rfl rfl (c_X5_leastShared l G hGi0 hSt0.2.2.2.1 (row := d) (row2 := k) (hd) (hk) (nI a)) (cwV 4 hts (tbV w_ml_RX4_127 w_im_yX5_leastShared w_se_yX5_leastShared w_ini_RX5 w_cd_yX5_leastShared) rfl rfl rfl (by decide +kernel) ⟨Nat.le_of_ble_eq_true rfl, Nat.le_of_ble_eq_true rfl⟩) rfl hl.1 rfl (Nat.le_of_ble_eq_true rfl) dX4_leastOfKind_14 ⟨Nat.zero_le _, Nat.zero_le _⟩ (fun H locs hs => ?_)
  refine r_iret (v := nI (lstK ss (S d) k a)) (mc := 0) (ms := 0) hx hb hr hlk hs (Nat.le_refl _) (Nat.le_refl _) dX4_leastOfKind_17 hQ ?_
  exact roV.rf rfl

set_option maxHeartbeats 600000 in
set_option maxRecDepth 100000 in
theorem c_X4_leastFired (l : Launch) (G : rG) {n : Nat} {ad : Nat → Nat} {en : Nat → va_E} {ss : List Row} {hw : Nat} {dv : Nat → Int32} {S : Nat → Nat → Bool} {fuel sp : Nat} (hW : SchW G n ad en ss hw dv S fuel sp) {d : Nat} (hd : d < 82) : CI l G yX4_leastFired uX4_leastFired (2) (50) (0) (0) [.ref (ad 18), .int (nI d)] (n) (n) ad en (roV ad en (nI (frdK ss (S d)))) := by
  intro sz
  refine rMet (Qc := qI G (n) (roV ad en (nI (frdK ss (S d))))) (cc := cX4_leastFired) (maxL := 5) (ret := (some .int)) (by decide) rfl (Nat.le_of_ble_eq_true rfl) ?_
  intro pP eE sS mM aA bB tT cC ls A Q hc hK hsz hA hs hl hQ
  obtain ⟨hx, hb, hr, hts, hown, hlk, hnm, hml⟩ := hc
  have hl : lv_has ls 5 [(0, .ref (ad 18)), (1, .int (nI d))] := hl
  obtain ⟨hn0, hSt0, hDe0, hGi0, he180⟩ := id hW
  have he30 := hSt0.2.1
  obtain ⟨fs70, he70⟩ := SetsAt_recv hSt0.2.2.2.1
  obtain ⟨fs190, he190⟩ := SetsAt_recv hGi0
  obtain ⟨fs10, he10⟩ := DerAt_recv hDe0
  have hok0 := hSt0.2.2.2.2.2
  have h60 := hok0.1
  
  refine lv_aload_n hx hb dX4_leastFired_0 rfl (lv_at hl 0 rfl) ?_
  refine r_get (ci := 4) (v := .ref (ad 3)) (C := RX4) (T := TX4) (N := 5) hx hb hts inlX4 hown hK hs (18) (by omega) he180 rfl 0 (by decide) (hts _ w_fl_RX4_27) rfl dX4_leastFired_1 ?_
  refine r_callVrR (ci := 6) (As := []) hx hb hml hown hts hK hA hs (3) (by omega) he30 rfl rfl (c_X6_byKind l G hSt0) (cwV 0 hts (tbV w_ml_RX4_123 w_im_yX6_byKind w_se_yX6_byKind w_ini_RX6 w_cd_yX6_byKind) rfl rfl rfl (by decide +kernel) ⟨Nat.le_of_ble_eq_true rfl, Nat.le_of_ble_eq_true rfl⟩) rfl hl.1 rfl (Nat.le_of_ble_eq_true rfl) dX4_leastFired_4 ⟨Nat.zero_le _, Nat.zero_le _⟩ (fun H locs hs => ?_)
  refine lv_astore_n (lv' := [(2, .ref (ad 7)), (0, .ref (ad 18)), (1, .int (nI d))]) hx hb dX4_leastFired_7 rfl hl (by decide) rfl (fun ls hl => ?_)
  refine lv_aload_n hx hb dX4_leastFired_8 rfl (lv_at hl 1 rfl) ?_
  refine r_get (ci := 4) (v := .ref (ad 19)) (C := RX4) (T := TX4) (N := 5) hx hb hts inlX4 hown hK hs (18) (by omega) he180 rfl 2 (by decide) (hts _ w_fl_RX4_14) rfl dX4_leastFired_9 ?_
  refine lv_iload_n hx hb dX4_leastFired_12 rfl (lv_at hl 2 rfl) ?_
  refine lv_aload_n hx hb dX4_leastFired_13 rfl (lv_at hl 0 rfl) ?_
  refine lv_iconst (v := 4) hx hb dX4_leastFired_14 (by decide) ?_
  refine lv_iconst (v := 0) hx hb dX4_leastFired_15 (by decide) ?_
  refine r_callViR (ci := 5) (As := [.int (nI d), .ref (ad 7), .int (4), .int (0)]) hx hb hml hown hts hK hA hs (19) (by omega) he190 rfl rfl (c_X5_leastShared l G hGi0 hSt0.2.2.2.1 (row := d) (row2 := 4) (hd) (by decide) (nI 0)) (cwV 4 hts (tbV w_ml_RX4_127 w_im_yX5_leastShared w_se_yX5_leastShared w_ini_RX5 w_cd_yX5_leastShared) rfl rfl rfl (by decide +kernel) ⟨Nat.le_of_ble_eq_true rfl, Nat.le_of_ble_eq_true rfl⟩) rfl hl.1 rfl (Nat.le_of_ble_eq_true rfl) dX4_leastFired_16 ⟨Nat.zero_le _, Nat.zero_le _⟩ (fun H locs hs => ?_)
  refine lv_istore_n (lv' := [(3, .int (nI (lstK ss (S d) 4 0))), (2, .ref (ad 7)), (0, .ref (ad 18)), (1, .int (nI d))]) hx hb dX4_leastFired_19 rfl hl (by decide) rfl (fun ls hl => ?_)
  refine lv_iconst (v := 0) hx hb dX4_leastFired_20 (by decide) ?_
  refine lv_istore (lv' := [(4, .int (0)), (3, .int (nI (lstK ss (S d) 4 0))), (2, .ref (ad 7)), (0, .ref (ad 18)), (1, .int (nI d))]) hx hb dX4_leastFired_21 hl (by decide) rfl (fun ls hl => ?_)
  suffices LOOP23 : ∀ (fu23 : Nat) (a : Nat) (sn : Nat) (H : Heap) (locs : List Loc) (ls : Array Slot), (sn ≤ a ∧ a ≤ 600) → (∀ y, y ≤ a → ((S d y && kindS ss 4 y) && S d (sL ss y)) = false) → 601 - sn < fu23 → rS G A sS.heap (n) ad en H locs → lv_has ls 5 [(0, .ref (ad 18)), (1, .int (nI d)), (2, .ref (ad 7)), (3, .int (nI (lstK ss (S d) 4 a))), (4, .int (nI sn))] → W pP l eE (rRm (2) (50) (0) (0)) sS mM aA bB tT cC H locs (0) (0) Q (F0 mM 23 ls []) from LOOP23 _ (0) (0) _ _ _ (⟨Nat.le_refl _, by decide⟩) (fun y hy => by rw [show y = 0 by omega, show kindS ss 4 0 = false from decide_eq_false (by omega), Bool.and_false]; rfl) (Nat.lt_succ_self _) hs (lv_sub hl [3, 4, 2, 1, 0] rfl)
  intro fu23
  induction fu23 with
  | zero => intro a sn H locs ls ia hno hfu; exact absurd hfu (Nat.not_lt_zero _)
  | succ fu23 ih23 => ?_
  intro a sn H locs ls ia hno hfu23 hs hl
  have hlt := lstK_lt ss (S d) 4 a (by omega)
  refine lv_iload_n hx hb dX4_leastFired_23 rfl (lv_at hl 3 rfl) ?_
  refine lv_if_eq (tgt := 74) hx hb dX4_leastFired_24 (by decide) (fun c24 => ?_) (fun c24 => ?_)
  · skip
    have hz : lstK ss (S d) 4 a = 0 := z_of (by omega) c24
    refine lv_iconst (v := 0) hx hb dX4_leastFired_74 (by decide) ?_
    refine r_iret (v := 0) (mc := 0) (ms := 0) hx hb hr hlk hs (Nat.le_refl _) (Nat.le_refl _) dX4_leastFired_75 hQ ?_
    exact roV.rf (by
      by_cases q : a < 600
      · rw [frd_none q hno hz]; rfl
      · have q : a = 600 := by omega
        rw [frd_all hok0 (q ▸ hno)]; rfl)
  · skip
    have hnz := nz_of (by omega) c24
    obtain ⟨hy1, hy2, hy3, hy4, -⟩ := lstK_y hok0 (by omega) hnz
    have hLr : 1 ≤ sL ss (lstK ss (S d) 4 a) ∧ sL ss (lstK ss (S d) 4 a) ≤ 600 := by have := (parts_of hok0 hy2 (by rw [hy4 (by decide)]; decide)).1; omega
    refine lv_iload hx hb dX4_leastFired_27 (lv_at hl 4 rfl) ?_
    refine lv_sipush (v := 600) hx hb dX4_leastFired_29 (by decide) ?_
    refine lv_icmp_ge (tgt := 74) hx hb dX4_leastFired_32 (by decide) (fun c32 => ?_) (fun c32 => ?_)
    · skip
      have hsn : 600 ≤ sn := (nI_leI (a := 600) (by decide) (by omega)).mp c32
      exact absurd (lst_600 (by omega) (by omega)) hnz
    · skip
      have hsn : sn < 600 := lt_of_nI (b := 600) c32 (by omega)
      refine lv_aload_n hx hb dX4_leastFired_35 rfl (lv_at hl 0 rfl) ?_
      refine r_get (ci := 4) (v := .ref (ad 19)) (C := RX4) (T := TX4) (N := 5) hx hb hts inlX4 hown hK hs (18) (by omega) he180 rfl 2 (by decide) (hts _ w_fl_RX4_14) rfl dX4_leastFired_36 ?_
      refine lv_iload_n hx hb dX4_leastFired_39 rfl (lv_at hl 1 rfl) ?_
      refine lv_aload_n hx hb dX4_leastFired_40 rfl (lv_at hl 0 rfl) ?_
      refine r_get (ci := 4) (v := .ref (ad 3)) (C := RX4) (T := TX4) (N := 5) hx hb hts inlX4 hown hK hs (18) (by omega) he180 rfl 0 (by decide) (hts _ w_fl_RX4_27) rfl dX4_leastFired_41 ?_
      refine lv_iload_n hx hb dX4_leastFired_44 rfl (lv_at hl 3 rfl) ?_
      refine r_callViR (ci := 6) (As := [.int (nI (lstK ss (S d) 4 a))]) hx hb hml hown hts hK hA hs (3) (by omega) he30 rfl rfl (c_X6_leftOfN l G hSt0 (lstK ss (S d) 4 a) (by omega)) (cwV 1 hts (tbV w_ml_RX4_131 w_im_yX6_leftOf w_se_yX6_leftOf w_ini_RX6 w_cd_yX6_leftOf) rfl rfl rfl (by decide +kernel) ⟨Nat.le_of_ble_eq_true rfl, Nat.le_of_ble_eq_true rfl⟩) rfl hl.1 rfl (Nat.le_of_ble_eq_true rfl) dX4_leastFired_45 ⟨Nat.zero_le _, Nat.zero_le _⟩ (fun H locs hs => ?_)
      refine r_callViR (ci := 5) (As := [.int (nI d), .int (nI (sL ss (lstK ss (S d) 4 a)))]) hx hb hml hown hts hK hA hs (19) (by omega) he190 rfl rfl (c_X5_has l G hGi0 (row := d) (hd) (nI (sL ss (lstK ss (S d) 4 a)))) (cwV 2 hts (tbV w_ml_RX4_113 w_im_yX5_has w_se_yX5_has w_ini_RX5 w_cd_yX5_has) rfl rfl rfl (by decide +kernel) ⟨Nat.le_of_ble_eq_true rfl, Nat.le_of_ble_eq_true rfl⟩) rfl hl.1 rfl (Nat.le_of_ble_eq_true rfl) dX4_leastFired_48 ⟨Nat.zero_le _, Nat.zero_le _⟩ (fun H locs hs => ?_)
      refine lv_if_eq (tgt := 56) hx hb dX4_leastFired_51 (by decide) (fun c51 => ?_) (fun c51 => ?_)
      · skip
        refine lv_aload_n hx hb dX4_leastFired_56 rfl (lv_at hl 0 rfl) ?_
        refine r_get (ci := 4) (v := .ref (ad 19)) (C := RX4) (T := TX4) (N := 5) hx hb hts inlX4 hown hK hs (18) (by omega) he180 rfl 2 (by decide) (hts _ w_fl_RX4_14) rfl dX4_leastFired_57 ?_
        refine lv_iload_n hx hb dX4_leastFired_60 rfl (lv_at hl 1 rfl) ?_
        refine lv_aload_n hx hb dX4_leastFired_61 rfl (lv_at hl 2 rfl) ?_
        refine lv_iconst (v := 4) hx hb dX4_leastFired_62 (by decide) ?_
        refine lv_iload_n hx hb dX4_leastFired_63 rfl (lv_at hl 3 rfl) ?_
        refine r_callViR (ci := 5) (As := [.int (nI d), .ref (ad 7), .int (4), .int (nI (lstK ss (S d) 4 a))]) hx hb hml hown hts hK hA hs (19) (by omega) he190 rfl rfl (c_X5_leastShared l G hGi0 hSt0.2.2.2.1 (row := d) (row2 := 4) (hd) (by decide) (nI (lstK ss (S d) 4 a))) (cwV 4 hts (tbV w_ml_RX4_127 w_im_yX5_leastShared w_se_yX5_leastShared w_ini_RX5 w_cd_yX5_leastShared) rfl rfl rfl (by decide +kernel) ⟨Nat.le_of_ble_eq_true rfl, Nat.le_of_ble_eq_true rfl⟩) rfl hl.1 rfl (Nat.le_of_ble_eq_true rfl) dX4_leastFired_64 ⟨Nat.zero_le _, Nat.zero_le _⟩ (fun H locs hs => ?_)
        refine lv_istore_n (lv' := [(3, .int (nI (lstK ss (S d) 4 (lstK ss (S d) 4 a)))), (0, .ref (ad 18)), (1, .int (nI d)), (2, .ref (ad 7)), (4, .int (nI sn))]) hx hb dX4_leastFired_67 rfl hl (by decide) rfl (fun ls hl => ?_)
        refine lv_iinc (v := nI (sn + 1)) (lv' := [(4, .int (nI (sn + 1))), (3, .int (nI (lstK ss (S d) 4 (lstK ss (S d) 4 a)))), (0, .ref (ad 18)), (1, .int (nI d)), (2, .ref (ad 7))]) hx hb dX4_leastFired_68 hl (k := 4) rfl (nI_add sn 1) (by decide) rfl (fun ls hl => ?_)
        refine lv_goto (tgt := 23) hx hb dX4_leastFired_71 (by decide) ?_
        exact ih23 ((lstK ss (S d) 4 a)) (sn + 1) _ _ _ (by omega) (frd_next (by omega) hno (nz_of (by omega) c24) (by rw [← hasS (S := S) (d := d) hLr]; exact b2i_0 c51)) (by omega) hs (lv_sub hl [2, 3, 4, 1, 0] rfl)
      · skip
        refine lv_iload_n hx hb dX4_leastFired_54 rfl (lv_at hl 3 rfl) ?_
        refine r_iret (v := nI (lstK ss (S d) 4 a)) (mc := 0) (ms := 0) hx hb hr hlk hs (Nat.le_refl _) (Nat.le_refl _) dX4_leastFired_55 hQ ?_
        exact roV.rf (congrArg nI (frd_hit (by omega) hno hnz (by rw [← hasS (S := S) (d := d) hLr]; exact b2i_1 c51)).symm)

set_option maxHeartbeats 600000 in
set_option maxRecDepth 100000 in
theorem c_X4_wayByGoal (l : Launch) (G : rG) {n : Nat} {ad : Nat → Nat} {en : Nat → va_E} {ss : List Row} {hw : Nat} {dv : Nat → Int32} {S : Nat → Nat → Bool} {fuel sp : Nat} (hW : SchW G n ad en ss hw dv S fuel sp) {d : Nat} (hd : d < 82) {goal : Nat} (hg : 1 ≤ goal ∧ goal ≤ ss.length) : CI l G yX4_wayByGoal uX4_wayByGoal (3) (73) (0) (0) [.ref (ad 18), .int (nI goal), .int (nI d)] (n) (n) ad en (roV ad en (nI (goW ss (S d) goal))) := by
  intro sz
  refine rMet (Qc := qI G (n) (roV ad en (nI (goW ss (S d) goal)))) (cc := cX4_wayByGoal) (maxL := 4) (ret := (some .int)) (by decide) rfl (Nat.le_of_ble_eq_true rfl) ?_
  intro pP eE sS mM aA bB tT cC ls A Q hc hK hsz hA hs hl hQ
  obtain ⟨hx, hb, hr, hts, hown, hlk, hnm, hml⟩ := hc
  have hl : lv_has ls 4 [(0, .ref (ad 18)), (1, .int (nI goal)), (2, .int (nI d))] := hl
  obtain ⟨hn0, hSt0, hDe0, hGi0, he180⟩ := id hW
  have he30 := hSt0.2.1
  obtain ⟨fs70, he70⟩ := SetsAt_recv hSt0.2.2.2.1
  obtain ⟨fs190, he190⟩ := SetsAt_recv hGi0
  obtain ⟨fs10, he10⟩ := DerAt_recv hDe0
  have hok0 := hSt0.2.2.2.2.2
  have h60 := hok0.1
  
  refine lv_aload_n hx hb dX4_wayByGoal_0 rfl (lv_at hl 0 rfl) ?_
  refine r_get (ci := 4) (v := .ref (ad 19)) (C := RX4) (T := TX4) (N := 5) hx hb hts inlX4 hown hK hs (18) (by omega) he180 rfl 2 (by decide) (hts _ w_fl_RX4_14) rfl dX4_wayByGoal_1 ?_
  refine lv_iload_n hx hb dX4_wayByGoal_4 rfl (lv_at hl 2 rfl) ?_
  refine lv_iload_n hx hb dX4_wayByGoal_5 rfl (lv_at hl 1 rfl) ?_
  refine r_callViR (ci := 5) (As := [.int (nI d), .int (nI goal)]) hx hb hml hown hts hK hA hs (19) (by omega) he190 rfl rfl (c_X5_has l G hGi0 (row := d) (hd) (nI goal)) (cwV 2 hts (tbV w_ml_RX4_113 w_im_yX5_has w_se_yX5_has w_ini_RX5 w_cd_yX5_has) rfl rfl rfl (by decide +kernel) ⟨Nat.le_of_ble_eq_true rfl, Nat.le_of_ble_eq_true rfl⟩) rfl hl.1 rfl (Nat.le_of_ble_eq_true rfl) dX4_wayByGoal_6 ⟨Nat.zero_le _, Nat.zero_le _⟩ (fun H locs hs => ?_)
  refine r_topi (y := b2i (S d goal)) (by rw [hasS (by omega)]) ?_
  refine lv_if_eq (tgt := 18) hx hb dX4_wayByGoal_9 (by decide) (fun c9 => ?_) (fun c9 => ?_)
  · skip
    refine lv_aload_n hx hb dX4_wayByGoal_18 rfl (lv_at hl 0 rfl) ?_
    refine lv_iload_n hx hb dX4_wayByGoal_19 rfl (lv_at hl 2 rfl) ?_
    refine lv_iconst (v := 1) hx hb dX4_wayByGoal_20 (by decide) ?_
    refine lv_iconst (v := 0) hx hb dX4_wayByGoal_21 (by decide) ?_
    refine r_callViR (ci := 4) (As := [.int (nI d), .int (1), .int (0)]) hx hb hml hown hts hK hA hs (18) (by omega) he180 rfl rfl (c_X4_leastOfKind l G hW (d := d) hd (k := 1) (a := 0) (by decide) (by decide)) (cwV 3 hts (tbV w_ml_RX4_117 w_im_yX4_leastOfKind w_se_yX4_leastOfKind w_ini_RX4 w_cd_yX4_leastOfKind) rfl rfl rfl (by decide +kernel) ⟨Nat.le_of_ble_eq_true rfl, Nat.le_of_ble_eq_true rfl⟩) rfl hl.1 rfl (Nat.le_of_ble_eq_true rfl) dX4_wayByGoal_22 ⟨Nat.zero_le _, Nat.zero_le _⟩ (fun H locs hs => ?_)
    refine lv_istore_n (lv' := [(3, .int (nI (lstK ss (S d) 1 0))), (0, .ref (ad 18)), (1, .int (nI goal)), (2, .int (nI d))]) hx hb dX4_wayByGoal_25 rfl hl (by decide) rfl (fun ls hl => ?_)
    refine lv_iload_n hx hb dX4_wayByGoal_26 rfl (lv_at hl 0 rfl) ?_
    refine lv_if_eq (tgt := 36) hx hb dX4_wayByGoal_27 (by decide) (fun c27 => ?_) (fun c27 => ?_)
    · skip
      have hz27 : lstK ss (S d) 1 0 = 0 := z_of (by have := lstK_lt ss (S d) 1 0 (by first | decide | omega); omega) c27
      refine lv_aload_n hx hb dX4_wayByGoal_36 rfl (lv_at hl 1 rfl) ?_
      refine r_get (ci := 4) (v := .ref (ad 3)) (C := RX4) (T := TX4) (N := 5) hx hb hts inlX4 hown hK hs (18) (by omega) he180 rfl 0 (by decide) (hts _ w_fl_RX4_27) rfl dX4_wayByGoal_37 ?_
      refine lv_iload_n hx hb dX4_wayByGoal_40 rfl (lv_at hl 2 rfl) ?_
      refine r_callViR (ci := 6) (As := [.int (nI goal)]) hx hb hml hown hts hK hA hs (3) (by omega) he30 rfl rfl (c_X6_sortOfN l G hSt0 goal (by omega)) (cwV 1 hts (tbV w_ml_RX4_102 w_im_yX6_sortOf w_se_yX6_sortOf w_ini_RX6 w_cd_yX6_sortOf) rfl rfl rfl (by decide +kernel) ⟨Nat.le_of_ble_eq_true rfl, Nat.le_of_ble_eq_true rfl⟩) rfl hl.1 rfl (Nat.le_of_ble_eq_true rfl) dX4_wayByGoal_41 ⟨Nat.zero_le _, Nat.zero_le _⟩ (fun H locs hs => ?_)
      by_cases k44_2 : nI (sSort ss goal) = 2
      · skip
        refine lv_lookup (off := 28) (tgt := 72) hx hb dX4_wayByGoal_44 (by decide) (by rw [k44_2]; decide) (by decide) ?_
        refine lv_iconst (v := 3) hx hb dX4_wayByGoal_72 (by decide) ?_
        refine lv_iconst (v := 0) hx hb dX4_wayByGoal_73 (by decide) ?_
        refine r_callSiR (As := [.int (3), .int (0)]) hx hb hml hown hts hK hA hs (c_X0_way l G (r := 3) (t := 0) (by decide) (by decide)) (va_cwS 2 hts (tbS w_ml_RX4_107 w_sta_yX0_way w_ini_RX0 w_cd_yX0_way) rfl rfl rfl (by decide +kernel) ⟨Nat.le_of_ble_eq_true rfl, Nat.le_of_ble_eq_true rfl⟩) rfl hl.1 rfl (Nat.le_of_ble_eq_true rfl) dX4_wayByGoal_74 ⟨Nat.zero_le _, Nat.zero_le _⟩ (fun H locs hs => ?_)
        refine r_iret (v := nI (16 * (0) + 3)) (mc := 0) (ms := 0) hx hb hr hlk hs (Nat.le_refl _) (Nat.le_refl _) dX4_wayByGoal_77 hQ ?_
        exact roV.rf (by rw [goW, if_neg (by rw [b2i_0 c9]; decide), if_neg (fun q => q hz27), if_pos (sq hok0 k44_2)])
      by_cases k44_4 : nI (sSort ss goal) = 4
      · skip
        refine lv_lookup (off := 34) (tgt := 78) hx hb dX4_wayByGoal_44 (by decide) (by rw [k44_4]; decide) (by decide) ?_
        refine lv_iconst (v := 4) hx hb dX4_wayByGoal_78 (by decide) ?_
        refine lv_iconst (v := 0) hx hb dX4_wayByGoal_79 (by decide) ?_
        refine r_callSiR (As := [.int (4), .int (0)]) hx hb hml hown hts hK hA hs (c_X0_way l G (r := 4) (t := 0) (by decide) (by decide)) (va_cwS 2 hts (tbS w_ml_RX4_107 w_sta_yX0_way w_ini_RX0 w_cd_yX0_way) rfl rfl rfl (by decide +kernel) ⟨Nat.le_of_ble_eq_true rfl, Nat.le_of_ble_eq_true rfl⟩) rfl hl.1 rfl (Nat.le_of_ble_eq_true rfl) dX4_wayByGoal_80 ⟨Nat.zero_le _, Nat.zero_le _⟩ (fun H locs hs => ?_)
        refine r_iret (v := nI (16 * (0) + 4)) (mc := 0) (ms := 0) hx hb hr hlk hs (Nat.le_refl _) (Nat.le_refl _) dX4_wayByGoal_83 hQ ?_
        exact roV.rf (by rw [goW, if_neg (by rw [b2i_0 c9]; decide), if_neg (fun q => q hz27), if_neg (sn k44_2), if_pos (sq hok0 k44_4)])
      refine lv_lookup (off := 40) (tgt := 84) hx hb dX4_wayByGoal_44 (by decide) (by rw [lv_osw k44_2 (by decide), lv_osw k44_4 (by decide)]; rfl) (by decide) ?_
      refine lv_iconst (v := 0) hx hb dX4_wayByGoal_84 (by decide) ?_
      refine r_iret (v := 0) (mc := 0) (ms := 0) hx hb hr hlk hs (Nat.le_refl _) (Nat.le_refl _) dX4_wayByGoal_85 hQ ?_
      exact roV.rf (by rw [goW, if_neg (by rw [b2i_0 c9]; decide), if_neg (fun q => q hz27), if_neg (sn k44_2), if_neg (sn k44_4)]; rfl)
    · skip
      have hnz27 := nz_of (by have := lstK_lt ss (S d) 1 0 (by first | decide | omega); omega) c27
      have hle : lstK ss (S d) 1 0 ≤ 600 := by have := (lstK_y hok0 (by first | decide | omega) (nz_of (by have := lstK_lt ss (S d) 1 0 (by first | decide | omega); omega) c27)).2.1; omega
      refine lv_iconst (v := 2) hx hb dX4_wayByGoal_30 (by decide) ?_
      refine lv_iload_n hx hb dX4_wayByGoal_31 rfl (lv_at hl 0 rfl) ?_
      refine r_callSiR (As := [.int (2), .int (nI (lstK ss (S d) 1 0))]) hx hb hml hown hts hK hA hs (c_X0_way l G (r := 2) (t := lstK ss (S d) 1 0) (by decide) (hle)) (va_cwS 2 hts (tbS w_ml_RX4_107 w_sta_yX0_way w_ini_RX0 w_cd_yX0_way) rfl rfl rfl (by decide +kernel) ⟨Nat.le_of_ble_eq_true rfl, Nat.le_of_ble_eq_true rfl⟩) rfl hl.1 rfl (Nat.le_of_ble_eq_true rfl) dX4_wayByGoal_32 ⟨Nat.zero_le _, Nat.zero_le _⟩ (fun H locs hs => ?_)
      refine r_iret (v := nI (16 * (lstK ss (S d) 1 0) + 2)) (mc := 0) (ms := 0) hx hb hr hlk hs (Nat.le_refl _) (Nat.le_refl _) dX4_wayByGoal_35 hQ ?_
      exact roV.rf (by rw [goW, if_neg (by rw [b2i_0 c9]; decide), if_pos hnz27])
  · skip
    refine lv_iconst (v := 1) hx hb dX4_wayByGoal_12 (by decide) ?_
    refine lv_iconst (v := 0) hx hb dX4_wayByGoal_13 (by decide) ?_
    refine r_callSiR (As := [.int (1), .int (0)]) hx hb hml hown hts hK hA hs (c_X0_way l G (r := 1) (t := 0) (by decide) (by decide)) (va_cwS 2 hts (tbS w_ml_RX4_107 w_sta_yX0_way w_ini_RX0 w_cd_yX0_way) rfl rfl rfl (by decide +kernel) ⟨Nat.le_of_ble_eq_true rfl, Nat.le_of_ble_eq_true rfl⟩) rfl hl.1 rfl (Nat.le_of_ble_eq_true rfl) dX4_wayByGoal_14 ⟨Nat.zero_le _, Nat.zero_le _⟩ (fun H locs hs => ?_)
    refine r_iret (v := nI (16 * (0) + 1)) (mc := 0) (ms := 0) hx hb hr hlk hs (Nat.le_refl _) (Nat.le_refl _) dX4_wayByGoal_17 hQ ?_
    exact roV.rf (by rw [goW, if_pos (b2i_1 c9)])

set_option maxHeartbeats 600000 in
set_option maxRecDepth 100000 in
theorem c_X4_wayByGiven (l : Launch) (G : rG) {n : Nat} {ad : Nat → Nat} {en : Nat → va_E} {ss : List Row} {hw : Nat} {dv : Nat → Int32} {S : Nat → Nat → Bool} {fuel sp : Nat} (hW : SchW G n ad en ss hw dv S fuel sp) {d : Nat} (hd : d < 82) : CI l G yX4_wayByGiven uX4_wayByGiven (3) (74) (0) (0) [.ref (ad 18), .int (nI d)] (n) (n) ad en (roV ad en (nI (giW ss (S d)))) := by
  intro sz
  refine rMet (Qc := qI G (n) (roV ad en (nI (giW ss (S d))))) (cc := cX4_wayByGiven) (maxL := 3) (ret := (some .int)) (by decide) rfl (Nat.le_of_ble_eq_true rfl) ?_
  intro pP eE sS mM aA bB tT cC ls A Q hc hK hsz hA hs hl hQ
  obtain ⟨hx, hb, hr, hts, hown, hlk, hnm, hml⟩ := hc
  have hl : lv_has ls 3 [(0, .ref (ad 18)), (1, .int (nI d))] := hl
  obtain ⟨hn0, hSt0, hDe0, hGi0, he180⟩ := id hW
  have he30 := hSt0.2.1
  obtain ⟨fs70, he70⟩ := SetsAt_recv hSt0.2.2.2.1
  obtain ⟨fs190, he190⟩ := SetsAt_recv hGi0
  obtain ⟨fs10, he10⟩ := DerAt_recv hDe0
  have hok0 := hSt0.2.2.2.2.2
  have h60 := hok0.1
  
  refine lv_aload_n hx hb dX4_wayByGiven_0 rfl (lv_at hl 0 rfl) ?_
  refine lv_iload_n hx hb dX4_wayByGiven_1 rfl (lv_at hl 1 rfl) ?_
  refine lv_iconst (v := 2) hx hb dX4_wayByGiven_2 (by decide) ?_
  refine lv_iconst (v := 0) hx hb dX4_wayByGiven_3 (by decide) ?_
  refine r_callViR (ci := 4) (As := [.int (nI d), .int (2), .int (0)]) hx hb hml hown hts hK hA hs (18) (by omega) he180 rfl rfl (c_X4_leastOfKind l G hW (d := d) hd (k := 2) (a := 0) (by decide) (by decide)) (cwV 3 hts (tbV w_ml_RX4_117 w_im_yX4_leastOfKind w_se_yX4_leastOfKind w_ini_RX4 w_cd_yX4_leastOfKind) rfl rfl rfl (by decide +kernel) ⟨Nat.le_of_ble_eq_true rfl, Nat.le_of_ble_eq_true rfl⟩) rfl hl.1 rfl (Nat.le_of_ble_eq_true rfl) dX4_wayByGiven_4 ⟨Nat.zero_le _, Nat.zero_le _⟩ (fun H locs hs => ?_)
  refine lv_istore_n (lv' := [(2, .int (nI (lstK ss (S d) 2 0))), (0, .ref (ad 18)), (1, .int (nI d))]) hx hb dX4_wayByGiven_7 rfl hl (by decide) rfl (fun ls hl => ?_)
  refine lv_iload_n hx hb dX4_wayByGiven_8 rfl (lv_at hl 0 rfl) ?_
  refine lv_if_eq (tgt := 18) hx hb dX4_wayByGiven_9 (by decide) (fun c9 => ?_) (fun c9 => ?_)
  · skip
    have hz9 : lstK ss (S d) 2 0 = 0 := z_of (by have := lstK_lt ss (S d) 2 0 (by first | decide | omega); omega) c9
    refine lv_aload_n hx hb dX4_wayByGiven_18 rfl (lv_at hl 1 rfl) ?_
    refine lv_iload_n hx hb dX4_wayByGiven_19 rfl (lv_at hl 2 rfl) ?_
    refine lv_iconst (v := 3) hx hb dX4_wayByGiven_20 (by decide) ?_
    refine lv_iconst (v := 0) hx hb dX4_wayByGiven_21 (by decide) ?_
    refine r_callViR (ci := 4) (As := [.int (nI d), .int (3), .int (0)]) hx hb hml hown hts hK hA hs (18) (by omega) he180 rfl rfl (c_X4_leastOfKind l G hW (d := d) hd (k := 3) (a := 0) (by decide) (by decide)) (cwV 3 hts (tbV w_ml_RX4_117 w_im_yX4_leastOfKind w_se_yX4_leastOfKind w_ini_RX4 w_cd_yX4_leastOfKind) rfl rfl rfl (by decide +kernel) ⟨Nat.le_of_ble_eq_true rfl, Nat.le_of_ble_eq_true rfl⟩) rfl hl.1 rfl (Nat.le_of_ble_eq_true rfl) dX4_wayByGiven_22 ⟨Nat.zero_le _, Nat.zero_le _⟩ (fun H locs hs => ?_)
    refine lv_istore_n (lv' := [(2, .int (nI (lstK ss (S d) 3 0))), (0, .ref (ad 18)), (1, .int (nI d))]) hx hb dX4_wayByGiven_25 rfl hl (by decide) rfl (fun ls hl => ?_)
    refine lv_iload_n hx hb dX4_wayByGiven_26 rfl (lv_at hl 0 rfl) ?_
    refine lv_if_eq (tgt := 37) hx hb dX4_wayByGiven_27 (by decide) (fun c27 => ?_) (fun c27 => ?_)
    · skip
      have hz27 : lstK ss (S d) 3 0 = 0 := z_of (by have := lstK_lt ss (S d) 3 0 (by first | decide | omega); omega) c27
      refine lv_aload_n hx hb dX4_wayByGiven_37 rfl (lv_at hl 1 rfl) ?_
      refine lv_iload_n hx hb dX4_wayByGiven_38 rfl (lv_at hl 2 rfl) ?_
      refine r_callViR (ci := 4) (As := [.int (nI d)]) hx hb hml hown hts hK hA hs (18) (by omega) he180 rfl rfl (c_X4_leastFired l G hW (d := d) hd) (cwV 1 hts (tbV w_ml_RX4_120 w_im_yX4_leastFired w_se_yX4_leastFired w_ini_RX4 w_cd_yX4_leastFired) rfl rfl rfl (by decide +kernel) ⟨Nat.le_of_ble_eq_true rfl, Nat.le_of_ble_eq_true rfl⟩) rfl hl.1 rfl (Nat.le_of_ble_eq_true rfl) dX4_wayByGiven_39 ⟨Nat.zero_le _, Nat.zero_le _⟩ (fun H locs hs => ?_)
      refine lv_istore_n (lv' := [(2, .int (nI (frdK ss (S d)))), (0, .ref (ad 18)), (1, .int (nI d))]) hx hb dX4_wayByGiven_42 rfl hl (by decide) rfl (fun ls hl => ?_)
      refine lv_iload_n hx hb dX4_wayByGiven_43 rfl (lv_at hl 0 rfl) ?_
      refine lv_if_eq (tgt := 54) hx hb dX4_wayByGiven_44 (by decide) (fun c44 => ?_) (fun c44 => ?_)
      · skip
        have hz44 : frdK ss (S d) = 0 := z_of (by have := frdK_lt ss (S d); omega) c44
        refine lv_aload_n hx hb dX4_wayByGiven_54 rfl (lv_at hl 1 rfl) ?_
        refine lv_iload_n hx hb dX4_wayByGiven_55 rfl (lv_at hl 2 rfl) ?_
        refine lv_bipush (v := 6) hx hb dX4_wayByGiven_56 (by decide) ?_
        refine lv_iconst (v := 0) hx hb dX4_wayByGiven_58 (by decide) ?_
        refine r_callViR (ci := 4) (As := [.int (nI d), .int (6), .int (0)]) hx hb hml hown hts hK hA hs (18) (by omega) he180 rfl rfl (c_X4_leastOfKind l G hW (d := d) hd (k := 6) (a := 0) (by decide) (by decide)) (cwV 3 hts (tbV w_ml_RX4_117 w_im_yX4_leastOfKind w_se_yX4_leastOfKind w_ini_RX4 w_cd_yX4_leastOfKind) rfl rfl rfl (by decide +kernel) ⟨Nat.le_of_ble_eq_true rfl, Nat.le_of_ble_eq_true rfl⟩) rfl hl.1 rfl (Nat.le_of_ble_eq_true rfl) dX4_wayByGiven_59 ⟨Nat.zero_le _, Nat.zero_le _⟩ (fun H locs hs => ?_)
        refine lv_istore_n (lv' := [(2, .int (nI (lstK ss (S d) 6 0))), (0, .ref (ad 18)), (1, .int (nI d))]) hx hb dX4_wayByGiven_62 rfl hl (by decide) rfl (fun ls hl => ?_)
        refine lv_iload_n hx hb dX4_wayByGiven_63 rfl (lv_at hl 0 rfl) ?_
        refine lv_if_eq (tgt := 74) hx hb dX4_wayByGiven_64 (by decide) (fun c64 => ?_) (fun c64 => ?_)
        · skip
          have hz64 : lstK ss (S d) 6 0 = 0 := z_of (by have := lstK_lt ss (S d) 6 0 (by first | decide | omega); omega) c64
          refine lv_aload_n hx hb dX4_wayByGiven_74 rfl (lv_at hl 1 rfl) ?_
          refine lv_iload_n hx hb dX4_wayByGiven_75 rfl (lv_at hl 2 rfl) ?_
          refine lv_bipush (v := 7) hx hb dX4_wayByGiven_76 (by decide) ?_
          refine lv_iconst (v := 0) hx hb dX4_wayByGiven_78 (by decide) ?_
          refine r_callViR (ci := 4) (As := [.int (nI d), .int (7), .int (0)]) hx hb hml hown hts hK hA hs (18) (by omega) he180 rfl rfl (c_X4_leastOfKind l G hW (d := d) hd (k := 7) (a := 0) (by decide) (by decide)) (cwV 3 hts (tbV w_ml_RX4_117 w_im_yX4_leastOfKind w_se_yX4_leastOfKind w_ini_RX4 w_cd_yX4_leastOfKind) rfl rfl rfl (by decide +kernel) ⟨Nat.le_of_ble_eq_true rfl, Nat.le_of_ble_eq_true rfl⟩) rfl hl.1 rfl (Nat.le_of_ble_eq_true rfl) dX4_wayByGiven_79 ⟨Nat.zero_le _, Nat.zero_le _⟩ (fun H locs hs => ?_)
          refine lv_istore_n (lv' := [(2, .int (nI (lstK ss (S d) 7 0))), (0, .ref (ad 18)), (1, .int (nI d))]) hx hb dX4_wayByGiven_82 rfl hl (by decide) rfl (fun ls hl => ?_)
          refine lv_iload_n hx hb dX4_wayByGiven_83 rfl (lv_at hl 0 rfl) ?_
          refine lv_if_eq (tgt := 94) hx hb dX4_wayByGiven_84 (by decide) (fun c84 => ?_) (fun c84 => ?_)
          · skip
            have hz84 : lstK ss (S d) 7 0 = 0 := z_of (by have := lstK_lt ss (S d) 7 0 (by first | decide | omega); omega) c84
            refine lv_aload_n hx hb dX4_wayByGiven_94 rfl (lv_at hl 1 rfl) ?_
            refine lv_iload_n hx hb dX4_wayByGiven_95 rfl (lv_at hl 2 rfl) ?_
            refine lv_bipush (v := 8) hx hb dX4_wayByGiven_96 (by decide) ?_
            refine lv_iconst (v := 0) hx hb dX4_wayByGiven_98 (by decide) ?_
            refine r_callViR (ci := 4) (As := [.int (nI d), .int (8), .int (0)]) hx hb hml hown hts hK hA hs (18) (by omega) he180 rfl rfl (c_X4_leastOfKind l G hW (d := d) hd (k := 8) (a := 0) (by decide) (by decide)) (cwV 3 hts (tbV w_ml_RX4_117 w_im_yX4_leastOfKind w_se_yX4_leastOfKind w_ini_RX4 w_cd_yX4_leastOfKind) rfl rfl rfl (by decide +kernel) ⟨Nat.le_of_ble_eq_true rfl, Nat.le_of_ble_eq_true rfl⟩) rfl hl.1 rfl (Nat.le_of_ble_eq_true rfl) dX4_wayByGiven_99 ⟨Nat.zero_le _, Nat.zero_le _⟩ (fun H locs hs => ?_)
            refine lv_istore_n (lv' := [(2, .int (nI (lstK ss (S d) 8 0))), (0, .ref (ad 18)), (1, .int (nI d))]) hx hb dX4_wayByGiven_102 rfl hl (by decide) rfl (fun ls hl => ?_)
            refine lv_iload_n hx hb dX4_wayByGiven_103 rfl (lv_at hl 0 rfl) ?_
            refine lv_if_eq (tgt := 116) hx hb dX4_wayByGiven_104 (by decide) (fun c104 => ?_) (fun c104 => ?_)
            · skip
              have hz104 : lstK ss (S d) 8 0 = 0 := z_of (by have := lstK_lt ss (S d) 8 0 (by first | decide | omega); omega) c104
              refine lv_iconst (v := 0) hx hb dX4_wayByGiven_116 (by decide) ?_
              refine r_iret (v := 0) (mc := 0) (ms := 0) hx hb hr hlk hs (Nat.le_refl _) (Nat.le_refl _) dX4_wayByGiven_117 hQ ?_
              exact roV.rf (by rw [giW, if_neg (fun q => q hz9), if_neg (fun q => q hz27), if_neg (fun q => q hz44), if_neg (fun q => q hz64), if_neg (fun q => q hz84), if_neg (fun q => q hz104)]; rfl)
            · skip
              have hnz104 := nz_of (by have := lstK_lt ss (S d) 8 0 (by first | decide | omega); omega) c104
              have hle : lstK ss (S d) 8 0 ≤ 600 := by have := (lstK_y hok0 (by first | decide | omega) (nz_of (by have := lstK_lt ss (S d) 8 0 (by first | decide | omega); omega) c104)).2.1; omega
              refine lv_bipush (v := 10) hx hb dX4_wayByGiven_107 (by decide) ?_
              refine lv_iload_n hx hb dX4_wayByGiven_109 rfl (lv_at hl 0 rfl) ?_
              refine r_callSiR (As := [.int (10), .int (nI (lstK ss (S d) 8 0))]) hx hb hml hown hts hK hA hs (c_X0_way l G (r := 10) (t := lstK ss (S d) 8 0) (by decide) (hle)) (va_cwS 2 hts (tbS w_ml_RX4_107 w_sta_yX0_way w_ini_RX0 w_cd_yX0_way) rfl rfl rfl (by decide +kernel) ⟨Nat.le_of_ble_eq_true rfl, Nat.le_of_ble_eq_true rfl⟩) rfl hl.1 rfl (Nat.le_of_ble_eq_true rfl) dX4_wayByGiven_110 ⟨Nat.zero_le _, Nat.zero_le _⟩ (fun H locs hs => ?_)
              refine lv_goto (tgt := 117) hx hb dX4_wayByGiven_113 (by decide) ?_
              refine r_iret (v := nI (16 * (lstK ss (S d) 8 0) + 10)) (mc := 0) (ms := 0) hx hb hr hlk hs (Nat.le_refl _) (Nat.le_refl _) dX4_wayByGiven_117 hQ ?_
              exact roV.rf (by rw [giW, if_neg (fun q => q hz9), if_neg (fun q => q hz27), if_neg (fun q => q hz44), if_neg (fun q => q hz64), if_neg (fun q => q hz84), if_pos hnz104])
          · skip
            have hnz84 := nz_of (by have := lstK_lt ss (S d) 7 0 (by first | decide | omega); omega) c84
            have hle : lstK ss (S d) 7 0 ≤ 600 := by have := (lstK_y hok0 (by first | decide | omega) (nz_of (by have := lstK_lt ss (S d) 7 0 (by first | decide | omega); omega) c84)).2.1; omega
            refine lv_bipush (v := 9) hx hb dX4_wayByGiven_87 (by decide) ?_
            refine lv_iload_n hx hb dX4_wayByGiven_89 rfl (lv_at hl 0 rfl) ?_
            refine r_callSiR (As := [.int (9), .int (nI (lstK ss (S d) 7 0))]) hx hb hml hown hts hK hA hs (c_X0_way l G (r := 9) (t := lstK ss (S d) 7 0) (by decide) (hle)) (va_cwS 2 hts (tbS w_ml_RX4_107 w_sta_yX0_way w_ini_RX0 w_cd_yX0_way) rfl rfl rfl (by decide +kernel) ⟨Nat.le_of_ble_eq_true rfl, Nat.le_of_ble_eq_true rfl⟩) rfl hl.1 rfl (Nat.le_of_ble_eq_true rfl) dX4_wayByGiven_90 ⟨Nat.zero_le _, Nat.zero_le _⟩ (fun H locs hs => ?_)
            refine r_iret (v := nI (16 * (lstK ss (S d) 7 0) + 9)) (mc := 0) (ms := 0) hx hb hr hlk hs (Nat.le_refl _) (Nat.le_refl _) dX4_wayByGiven_93 hQ ?_
            exact roV.rf (by rw [giW, if_neg (fun q => q hz9), if_neg (fun q => q hz27), if_neg (fun q => q hz44), if_neg (fun q => q hz64), if_pos hnz84])
        · skip
          have hnz64 := nz_of (by have := lstK_lt ss (S d) 6 0 (by first | decide | omega); omega) c64
          have hle : lstK ss (S d) 6 0 ≤ 600 := by have := (lstK_y hok0 (by first | decide | omega) (nz_of (by have := lstK_lt ss (S d) 6 0 (by first | decide | omega); omega) c64)).2.1; omega
          refine lv_bipush (v := 8) hx hb dX4_wayByGiven_67 (by decide) ?_
          refine lv_iload_n hx hb dX4_wayByGiven_69 rfl (lv_at hl 0 rfl) ?_
          refine r_callSiR (As := [.int (8), .int (nI (lstK ss (S d) 6 0))]) hx hb hml hown hts hK hA hs (c_X0_way l G (r := 8) (t := lstK ss (S d) 6 0) (by decide) (hle)) (va_cwS 2 hts (tbS w_ml_RX4_107 w_sta_yX0_way w_ini_RX0 w_cd_yX0_way) rfl rfl rfl (by decide +kernel) ⟨Nat.le_of_ble_eq_true rfl, Nat.le_of_ble_eq_true rfl⟩) rfl hl.1 rfl (Nat.le_of_ble_eq_true rfl) dX4_wayByGiven_70 ⟨Nat.zero_le _, Nat.zero_le _⟩ (fun H locs hs => ?_)
          refine r_iret (v := nI (16 * (lstK ss (S d) 6 0) + 8)) (mc := 0) (ms := 0) hx hb hr hlk hs (Nat.le_refl _) (Nat.le_refl _) dX4_wayByGiven_73 hQ ?_
          exact roV.rf (by rw [giW, if_neg (fun q => q hz9), if_neg (fun q => q hz27), if_neg (fun q => q hz44), if_pos hnz64])
      · skip
        have hnz44 := nz_of (by have := frdK_lt ss (S d); omega) c44
        have hle : frdK ss (S d) ≤ 600 := by have := (frdK_y hok0 hnz44).2.1; omega
        refine lv_bipush (v := 7) hx hb dX4_wayByGiven_47 (by decide) ?_
        refine lv_iload_n hx hb dX4_wayByGiven_49 rfl (lv_at hl 0 rfl) ?_
        refine r_callSiR (As := [.int (7), .int (nI (frdK ss (S d)))]) hx hb hml hown hts hK hA hs (c_X0_way l G (r := 7) (t := frdK ss (S d)) (by decide) (hle)) (va_cwS 2 hts (tbS w_ml_RX4_107 w_sta_yX0_way w_ini_RX0 w_cd_yX0_way) rfl rfl rfl (by decide +kernel) ⟨Nat.le_of_ble_eq_true rfl, Nat.le_of_ble_eq_true rfl⟩) rfl hl.1 rfl (Nat.le_of_ble_eq_true rfl) dX4_wayByGiven_50 ⟨Nat.zero_le _, Nat.zero_le _⟩ (fun H locs hs => ?_)
        refine r_iret (v := nI (16 * (frdK ss (S d)) + 7)) (mc := 0) (ms := 0) hx hb hr hlk hs (Nat.le_refl _) (Nat.le_refl _) dX4_wayByGiven_53 hQ ?_
        exact roV.rf (by rw [giW, if_neg (fun q => q hz9), if_neg (fun q => q hz27), if_pos hnz44])
    · skip
      have hnz27 := nz_of (by have := lstK_lt ss (S d) 3 0 (by first | decide | omega); omega) c27
      have hle : lstK ss (S d) 3 0 ≤ 600 := by have := (lstK_y hok0 (by first | decide | omega) (nz_of (by have := lstK_lt ss (S d) 3 0 (by first | decide | omega); omega) c27)).2.1; omega
      refine lv_bipush (v := 6) hx hb dX4_wayByGiven_30 (by decide) ?_
      refine lv_iload_n hx hb dX4_wayByGiven_32 rfl (lv_at hl 0 rfl) ?_
      refine r_callSiR (As := [.int (6), .int (nI (lstK ss (S d) 3 0))]) hx hb hml hown hts hK hA hs (c_X0_way l G (r := 6) (t := lstK ss (S d) 3 0) (by decide) (hle)) (va_cwS 2 hts (tbS w_ml_RX4_107 w_sta_yX0_way w_ini_RX0 w_cd_yX0_way) rfl rfl rfl (by decide +kernel) ⟨Nat.le_of_ble_eq_true rfl, Nat.le_of_ble_eq_true rfl⟩) rfl hl.1 rfl (Nat.le_of_ble_eq_true rfl) dX4_wayByGiven_33 ⟨Nat.zero_le _, Nat.zero_le _⟩ (fun H locs hs => ?_)
      refine r_iret (v := nI (16 * (lstK ss (S d) 3 0) + 6)) (mc := 0) (ms := 0) hx hb hr hlk hs (Nat.le_refl _) (Nat.le_refl _) dX4_wayByGiven_36 hQ ?_
      exact roV.rf (by rw [giW, if_neg (fun q => q hz9), if_pos hnz27])
  · skip
    have hnz9 := nz_of (by have := lstK_lt ss (S d) 2 0 (by first | decide | omega); omega) c9
    have hle : lstK ss (S d) 2 0 ≤ 600 := by have := (lstK_y hok0 (by first | decide | omega) (nz_of (by have := lstK_lt ss (S d) 2 0 (by first | decide | omega); omega) c9)).2.1; omega
    refine lv_iconst (v := 5) hx hb dX4_wayByGiven_12 (by decide) ?_
    refine lv_iload_n hx hb dX4_wayByGiven_13 rfl (lv_at hl 0 rfl) ?_
    refine r_callSiR (As := [.int (5), .int (nI (lstK ss (S d) 2 0))]) hx hb hml hown hts hK hA hs (c_X0_way l G (r := 5) (t := lstK ss (S d) 2 0) (by decide) (hle)) (va_cwS 2 hts (tbS w_ml_RX4_107 w_sta_yX0_way w_ini_RX0 w_cd_yX0_way) rfl rfl rfl (by decide +kernel) ⟨Nat.le_of_ble_eq_true rfl, Nat.le_of_ble_eq_true rfl⟩) rfl hl.1 rfl (Nat.le_of_ble_eq_true rfl) dX4_wayByGiven_14 ⟨Nat.zero_le _, Nat.zero_le _⟩ (fun H locs hs => ?_)
    refine r_iret (v := nI (16 * (lstK ss (S d) 2 0) + 5)) (mc := 0) (ms := 0) hx hb hr hlk hs (Nat.le_refl _) (Nat.le_refl _) dX4_wayByGiven_17 hQ ?_
    exact roV.rf (by rw [giW, if_pos hnz9])

set_option maxHeartbeats 600000 in
set_option maxRecDepth 100000 in
theorem c_X4_nestedAbove (l : Launch) (G : rG) {n : Nat} {ad : Nat → Nat} {en : Nat → va_E} {ss : List Row} {hw : Nat} {dv : Nat → Int32} {S : Nat → Nat → Bool} {fuel sp : Nat} (hW : SchW G n ad en ss hw dv S fuel sp) {d : Nat} (hd : d < 82) {a : Nat} (ha : a < 2 ^ 31) : CI l G yX4_nestedAbove uX4_nestedAbove (3) (73) (0) (0) [.ref (ad 18), .int (nI d), .int (nI a)] (n) (n) ad en (roV ad en (nI (nsW ss (S d) a))) := by
  intro sz
  refine rMet (Qc := qI G (n) (roV ad en (nI (nsW ss (S d) a)))) (cc := cX4_nestedAbove) (maxL := 4) (ret := (some .int)) (by decide) rfl (Nat.le_of_ble_eq_true rfl) ?_
  intro pP eE sS mM aA bB tT cC ls A Q hc hK hsz hA hs hl hQ
  obtain ⟨hx, hb, hr, hts, hown, hlk, hnm, hml⟩ := hc
  have hl : lv_has ls 4 [(0, .ref (ad 18)), (1, .int (nI d)), (2, .int (nI a))] := hl
  obtain ⟨hn0, hSt0, hDe0, hGi0, he180⟩ := id hW
  have he30 := hSt0.2.1
  obtain ⟨fs70, he70⟩ := SetsAt_recv hSt0.2.2.2.1
  obtain ⟨fs190, he190⟩ := SetsAt_recv hGi0
  obtain ⟨fs10, he10⟩ := DerAt_recv hDe0
  have hok0 := hSt0.2.2.2.2.2
  have h60 := hok0.1
  
  refine lv_aload_n hx hb dX4_nestedAbove_0 rfl (lv_at hl 0 rfl) ?_
  refine lv_iload_n hx hb dX4_nestedAbove_1 rfl (lv_at hl 1 rfl) ?_
  refine lv_bipush (v := 9) hx hb dX4_nestedAbove_2 (by decide) ?_
  refine lv_iload_n hx hb dX4_nestedAbove_4 rfl (lv_at hl 2 rfl) ?_
  refine r_callViR (ci := 4) (As := [.int (nI d), .int (9), .int (nI a)]) hx hb hml hown hts hK hA hs (18) (by omega) he180 rfl rfl (c_X4_leastOfKind l G hW (d := d) hd (k := 9) (a := a) (by decide) (ha)) (cwV 3 hts (tbV w_ml_RX4_117 w_im_yX4_leastOfKind w_se_yX4_leastOfKind w_ini_RX4 w_cd_yX4_leastOfKind) rfl rfl rfl (by decide +kernel) ⟨Nat.le_of_ble_eq_true rfl, Nat.le_of_ble_eq_true rfl⟩) rfl hl.1 rfl (Nat.le_of_ble_eq_true rfl) dX4_nestedAbove_5 ⟨Nat.zero_le _, Nat.zero_le _⟩ (fun H locs hs => ?_)
  refine lv_istore_n (lv' := [(3, .int (nI (lstK ss (S d) 9 a))), (0, .ref (ad 18)), (1, .int (nI d)), (2, .int (nI a))]) hx hb dX4_nestedAbove_8 rfl hl (by decide) rfl (fun ls hl => ?_)
  refine lv_iload_n hx hb dX4_nestedAbove_9 rfl (lv_at hl 0 rfl) ?_
  refine lv_if_eq (tgt := 22) hx hb dX4_nestedAbove_10 (by decide) (fun c10 => ?_) (fun c10 => ?_)
  · skip
    have hz10 : lstK ss (S d) 9 a = 0 := z_of (by have := lstK_lt ss (S d) 9 a (by first | decide | omega); omega) c10
    refine lv_iconst (v := 0) hx hb dX4_nestedAbove_22 (by decide) ?_
    refine r_iret (v := 0) (mc := 0) (ms := 0) hx hb hr hlk hs (Nat.le_refl _) (Nat.le_refl _) dX4_nestedAbove_23 hQ ?_
    exact roV.rf (by rw [nsW, if_neg (fun q => q hz10)]; rfl)
  · skip
    have hnz10 := nz_of (by have := lstK_lt ss (S d) 9 a (by first | decide | omega); omega) c10
    have hle : lstK ss (S d) 9 a ≤ 600 := by have := (lstK_y hok0 (by first | decide | omega) (nz_of (by have := lstK_lt ss (S d) 9 a (by first | decide | omega); omega) c10)).2.1; omega
    refine lv_bipush (v := 13) hx hb dX4_nestedAbove_13 (by decide) ?_
    refine lv_iload_n hx hb dX4_nestedAbove_15 rfl (lv_at hl 0 rfl) ?_
    refine r_callSiR (As := [.int (13), .int (nI (lstK ss (S d) 9 a))]) hx hb hml hown hts hK hA hs (c_X0_way l G (r := 13) (t := lstK ss (S d) 9 a) (by decide) (hle)) (va_cwS 2 hts (tbS w_ml_RX4_107 w_sta_yX0_way w_ini_RX0 w_cd_yX0_way) rfl rfl rfl (by decide +kernel) ⟨Nat.le_of_ble_eq_true rfl, Nat.le_of_ble_eq_true rfl⟩) rfl hl.1 rfl (Nat.le_of_ble_eq_true rfl) dX4_nestedAbove_16 ⟨Nat.zero_le _, Nat.zero_le _⟩ (fun H locs hs => ?_)
    refine lv_goto (tgt := 23) hx hb dX4_nestedAbove_19 (by decide) ?_
    refine r_iret (v := nI (16 * (lstK ss (S d) 9 a) + 13)) (mc := 0) (ms := 0) hx hb hr hlk hs (Nat.le_refl _) (Nat.le_refl _) dX4_nestedAbove_23 hQ ?_
    exact roV.rf (by rw [nsW, if_pos hnz10])

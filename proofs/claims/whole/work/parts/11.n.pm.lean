set_option maxHeartbeats 600000 in
set_option maxRecDepth 100000 in
theorem c_X3_makeAll (l : Launch) (G : rG) {n : Nat} {ad : Nat → Nat} {en : Nat → va_E} {s0 : NSt} {jd RR SL : Nat} {S : Nat → Nat → Bool} {sf : Nat → Int32} {fl : Bool} (hW : PmW G n ad en s0 jd RR SL S sf fl) {hw : Nat} {dv : Nat → Int32} (hD : DerAt G n 1 ad en hw dv) {lo hi step goal : Nat} (hhi : hi ≤ 3000) (hwf : wfD s0.1 dv 80 lo hi step goal) : CI l G yX3_makeAll uX3_makeAll (87) (3030) (aC (aGate false (bld dv 80 step)) s0) (aS (aGate false (bld dv 80 step)) s0) [.ref (ad 21), .int (nI step)] (n) (n) ad en (aPostG G n jd RR SL S sf (aGate false (bld dv 80 step)) s0 ad en) := by
  intro sz
  refine rMet (Qc := qI G (n) (aPostG G n jd RR SL S sf (aGate false (bld dv 80 step)) s0 ad en)) (cc := cX3_makeAll) (maxL := 2) (ret := (some .int)) (by decide) rfl (Nat.le_of_ble_eq_true rfl) ?_
  intro pP eE sS mM aA bB tT cC ls A Q hc hK hsz hA hs hl hQ
  obtain ⟨hx, hb, hr, hts, hown, hlk, hnm, hml⟩ := hc
  have hl : lv_has ls 2 [(0, .ref (ad 21)), (1, .int (nI step))] := hl
  obtain ⟨h0, hd0, hO0, hn0, he210⟩ := id hW
  obtain ⟨fst0, hest0⟩ : ∃ fs, en 3 = .inr (6, fs) := ⟨_, h0.2.1⟩
  obtain ⟨fnd0, hend0⟩ : ∃ fs, en 11 = .inr (2, fs) := ⟨_, hd0.2.1⟩
  have h6 := h0.2.2.2.2.2.1
  have h8 := hO0.1.1
  refine lv_aload_n hx hb dX3_makeAll_0 rfl (lv_at hl 0 rfl) ?_
  refine lv_iconst (v := 0) hx hb dX3_makeAll_1 (by decide) ?_
  refine r_put (ci := 3) (v := .int (0)) (ty := .boolean) (C := RX3) (T := TX3) (N := 4) (fs' := [.ref (ad 3), .ref (ad 11), .ref (ad 1), .int (0)]) hx hb hts inlX3 tyX3 tyX3_ok nmX3 hown hK hs (21) (by omega) he210 rfl 3 (by decide) (hts _ w_fl_RX3_9) (Or.inl rfl) (by decide +kernel) rfl rfl (Nat.le_of_ble_eq_true rfl) rfl dX3_makeAll_2 (fun H locs en_1 hen_1 hs => ?_)
  have he_2 : en_1 (21) = .inr (3, [.ref (ad 3), .ref (ad 11), .ref (ad 1), .int (0)]) := by rw [hen_1]; exact va_up_self _ _ _
  have he_3 : en_1 (3) = .inr (6, fst0) := by rw [hen_1]; exact (va_up_ne _ _ (by omega)).trans hest0
  have he_4 : en_1 (11) = .inr (2, fnd0) := by rw [hen_1]; exact (va_up_ne _ _ (by omega)).trans hend0
  have hW1 : PmW G n ad en_1 s0 jd RR SL S sf false := PmW_fl hW hen_1 he_2 rfl
  have hD1 : DerAt G n 1 ad en_1 hw dv := DerAt_keep hD (fun _ _ _ => rfl) (fun k a b => by rw [hen_1, va_up_ne _ _ (by omega)])
  have hf1 : Fr n pmS pmA ad en ad en_1 := ⟨fun _ _ _ => rfl, fun k a b => by rw [hen_1, va_up_ne _ _ (fun q => b (Or.inr q))]⟩
  refine lv_aload_n hx hb dX3_makeAll_5 rfl (lv_at hl 0 rfl) ?_
  refine lv_iload_n hx hb dX3_makeAll_6 rfl (lv_at hl 1 rfl) ?_
  refine lv_iconst (v := 1) hx hb dX3_makeAll_7 (by decide) ?_
  refine r_callVi (ci := 3) (As := [.int (nI step), .int (1)]) hx hb hml hown hts hK hA hs (21) (by omega) he_2 rfl rfl (c_X3_build l G 80 (fl := false) hW1 hD1 hhi hwf (Nat.le_refl _)) (cwV 2 hts (tbV w_ml_RX3_27 w_im_yX3_build w_se_yX3_build w_ini_RX3 w_cd_yX3_build) rfl rfl rfl (by decide +kernel) ⟨Nat.le_of_ble_eq_true rfl, Nat.le_of_ble_eq_true rfl⟩) rfl hl.1 rfl (Nat.le_of_ble_eq_true rfl) dX3_makeAll_8 ⟨by show _ ≤ aC (aGate false (bld dv 80 step)) s0; omega, by show _ ≤ aS (aGate false (bld dv 80 step)) s0; omega⟩ (fun r_8 ad_5 en_6 H locs hp_7 hs => ?_)
  obtain ⟨⟨hr2, hW2, hf2⟩, hv2, hx2⟩ := hp_7
  refine r_iret (v := r_8) (mc := aC (aGate false (bld dv 80 step)) s0) (ms := aS (aGate false (bld dv 80 step)) s0) hx hb hr hlk hs (by omega) (by omega) dX3_makeAll_11 hQ ?_
  exact ⟨⟨hr2, hW2, Fr_tr hf1 hf2⟩, hv2, hx2⟩

def fJC (jd RR SL : Nat) (ns : List Row) (x : Int32) : Nat := if kHolds ns x = true then jMC jd RR SL (tN x) else 0
def fJS (jd RR SL : Nat) (ns : List Row) (x : Int32) : Nat := if kHolds ns x = true then jMS jd RR SL (tN x) else 0
theorem fx_nd {G : rG} {n : Nat} {ad ad1 : Nat → Nat} {en en1 : Nat → va_E} {s : NSt} {jd RR SL k jd1 c d : Nat} {SN1 : Nat → Nat → Bool} {sf1 : Nat → Int32} {fl : Bool} {hw : Nat} {dv : Nat → Int32} {SG : Nat → Nat → Bool} {fuel sp : Nat} (h : PsW G n ad1 en1 s jd1 (jRR jd RR k) (jSL jd SL k) SN1 sf1 fl hw dv SG fuel sp) (hR : jd < RR) (hL : jd < SL) (hF : Fr n psS psA ad en ad1 en1) {V r : Int32} (hV : r = V) (hc : c = jMC jd RR SL k) (hd : d = jMS jd RR SL k) : fPost G n ad en V s sp (c + pC7 s hw RR SL) (d + pS7 s hw RR SL) r ad1 en1 := by
  refine ⟨hV, ⟨_, _, _, _, _, _, _, _, _, _, h, ?_, ?_⟩, hF⟩
  · have := j_eq (k := k) hR hL; unfold pC7; omega
  · have := j_eq (k := k) hR hL; unfold pS7; omega
theorem FrNd {n : Nat} {ad ad1 : Nat → Nat} {en en1 : Nat → va_E} (h : Fr n (fun k => 11 ≤ k ∧ k ≤ 17) (fun k => k = 16 ∨ k = 17) ad en ad1 en1) : Fr n (fun k => 11 ≤ k ∧ k ≤ 17) (fun k => k = 14 ∨ k = 16 ∨ k = 17) ad en ad1 en1 := ⟨fun k a b => h.1 k a (fun q => b (Or.inr q)), h.2⟩
theorem FrNd2 {n : Nat} {ad ad1 : Nat → Nat} {en en1 : Nat → va_E} (h : Fr n (fun k => 11 ≤ k ∧ k ≤ 17) (fun k => k = 14) ad en ad1 en1) : Fr n (fun k => 11 ≤ k ∧ k ≤ 17) (fun k => k = 14 ∨ k = 16 ∨ k = 17) ad en ad1 en1 := ⟨fun k a b => h.1 k a (fun q => b (Or.inl q)), h.2⟩
theorem j_0 {jd RR SL k : Nat} (h : k ≤ jd) : jMC jd RR SL k = 0 ∧ jMS jd RR SL k = 0 ∧ jRR jd RR k = RR ∧ jSL jd SL k = SL := ⟨if_pos h, if_pos h, if_pos h, if_pos h⟩
theorem sLeast_lt {P : Nat → Bool} {x : Int32} : sLeast P x < 640 := by
  unfold sLeast
  by_cases c : 600 ≤ x.toInt
  · rw [if_pos c]; decide
  · rw [if_neg c]
    rcases lstF_sp (P := P) (640 - ((max x.toInt 0).toNat + 1)) ((max x.toInt 0).toNat + 1) (by omega) with ⟨q, -⟩ | ⟨q1, q2, -⟩
    · omega
    · omega
theorem cnt_le2 (P : Nat → Bool) : ∀ m, cnt P m ≤ m
  | 0 => Nat.le_refl _
  | m + 1 => by
    have := cnt_le2 P m
    rw [cnt]
    split <;> omega
theorem nI_le0 {k : Nat} (hk : k < 2 ^ 31) (h : nI k ≤ 0) : k = 0 := by
  rw [i_le, nI_toInt hk] at h
  have e0 : (0 : Int32).toInt = 0 := rfl
  omega
theorem fx_n {G : rG} {n : Nat} {ad ad1 : Nat → Nat} {en en1 : Nat → va_E} {s : NSt} {jd RR SL : Nat} {SN : Nat → Nat → Bool} {sf : Nat → Int32} {fl : Bool} {hw : Nat} {dv : Nat → Int32} {SG : Nat → Nat → Bool} {fuel sp : Nat} {r : Row} (h : PsW G n ad1 en1 (s.1, nMake s.2 r) jd RR SL SN sf fl hw dv SG fuel sp) (hF : Fr n psS psA ad en ad1 en1) {P : Int32 × List Row} (hP : P = (nMakeR s.2 r, nMake s.2 r)) : fPost G n ad en P.1 (s.1, P.2) sp (bC s.2 P.2 + pC7 s hw RR SL) (bS s.2 P.2 + pS7 s hw RR SL) (nMakeR s.2 r) ad1 en1 := by
  subst hP
  refine ⟨rfl, ⟨jd, RR, SL, SN, sf, fl, hw, dv, SG, fuel, h, ?_, ?_⟩, hF⟩
  · have := nM_eq s.2 r; have := nM_b s.2 r; unfold pC7; show bC s.2 (nMake s.2 r) + (kC s.1.length + kC s.2.length + dPC hw + RR + SL) ≤ kC s.1.length + kC (nMake s.2 r).length + dPC hw + RR + SL; omega
  · have := nM_eq s.2 r; have := nM_b s.2 r; unfold pS7; show bS s.2 (nMake s.2 r) + (kS s.1.length + kS s.2.length + dPS hw + 20 * RR + 2 * SL) ≤ kS s.1.length + kS (nMake s.2 r).length + dPS hw + 20 * RR + 2 * SL; omega
theorem anI_le0 {a : Nat} (h : anI a ≤ 0) : a = 0 ∨ 3000 < a := by
  by_cases c : a = 0 ∨ 3000 < a
  · exact c
  · rw [anI_nI c] at h
    exact Or.inl (nI_le0 (by omega) h)
theorem anI_gt0 {a : Nat} (h : ¬ anI a ≤ 0) (hl : a ≤ 3002) : ¬ (a = 0 ∨ 3000 < a) := by
  intro q
  have : a = 0 ∨ a = 3001 ∨ a = 3002 := by omega
  rcases this with rfl | rfl | rfl <;> exact absurd (by decide) h
def fPC (dv : Nat → Int32) (hw : Nat) (s : NSt) (f fu : Int32) : Nat := if fPvOK s f fu = true then lC hw s.1 (fLook dv s f fu).2 + (if (fLook dv s f fu).1 = 0 ∨ 3000 < (fLook dv s f fu).1 then 0 else aC (bld (fLook dv s f fu).2.2.2 80 (fLook dv s f fu).1) ((fLook dv s f fu).2.1, s.2)) else 0
def fPS (dv : Nat → Int32) (hw : Nat) (s : NSt) (f fu : Int32) : Nat := if fPvOK s f fu = true then lS hw s.1 (fLook dv s f fu).2 + (if (fLook dv s f fu).1 = 0 ∨ 3000 < (fLook dv s f fu).1 then 0 else aS (bld (fLook dv s f fu).2.2.2 80 (fLook dv s f fu).1) ((fLook dv s f fu).2.1, s.2)) else 0
theorem pv_post0 {G : rG} {n : Nat} {ad ad1 : Nat → Nat} {en en1 : Nat → va_E} {s : NSt} {ss3 : List Row} {jd RR SL : Nat} {SN : Nat → Nat → Bool} {sf : Nat → Int32} {fl : Bool} {hw sp3 : Nat} {dv3 : Nat → Int32} {SG : Nat → Nat → Bool} {fuel sp1 : Nat} {r V : Int32} (h : PsW G n ad1 en1 (ss3, s.2) jd RR SL SN sf fl (max hw sp3) dv3 SG fuel sp1) (hF : Fr n psS psA ad en ad1 en1) (hr : r = V) (hlc : lC hw s.1 (ss3, sp3, dv3) + xC hw s.1 = xC (max hw (ss3, sp3, dv3).2.1) (ss3, sp3, dv3).1 ∧ lS hw s.1 (ss3, sp3, dv3) + xS hw s.1 = xS (max hw (ss3, sp3, dv3).2.1) (ss3, sp3, dv3).1) : fPost G n ad en V (ss3, s.2) sp1 (lC hw s.1 (ss3, sp3, dv3) + 0 + pC7 s hw RR SL) (lS hw s.1 (ss3, sp3, dv3) + 0 + pS7 s hw RR SL) r ad1 en1 := by
  refine ⟨hr, ⟨_, _, _, _, _, _, _, _, _, _, h, ?_, ?_⟩, hF⟩
  · have := hlc.1; unfold xC at this; unfold pC7; show _ ≤ kC ss3.length + kC s.2.length + dPC (max hw sp3) + RR + SL; simp only at this; omega
  · have := hlc.2; unfold xS at this; unfold pS7; show _ ≤ kS ss3.length + kS s.2.length + dPS (max hw sp3) + 20 * RR + 2 * SL; simp only at this; omega
theorem pv_post {G : rG} {n : Nat} {ad ad1 : Nat → Nat} {en en1 : Nat → va_E} {s s4 : NSt} {ss3 : List Row} {jd RR SL : Nat} {SN : Nat → Nat → Bool} {sf : Nat → Int32} {fl : Bool} {hw sp3 c d : Nat} {dv3 : Nat → Int32} {SG : Nat → Nat → Bool} {fuel sp1 : Nat} {r V : Int32} (h : PsW G n ad1 en1 s4 jd RR SL SN sf fl (max hw sp3) dv3 SG fuel sp1) (hF : Fr n psS psA ad en ad1 en1) (hr : r = V) (hlc : lC hw s.1 (ss3, sp3, dv3) + xC hw s.1 = xC (max hw (ss3, sp3, dv3).2.1) (ss3, sp3, dv3).1 ∧ lS hw s.1 (ss3, sp3, dv3) + xS hw s.1 = xS (max hw (ss3, sp3, dv3).2.1) (ss3, sp3, dv3).1) (hc : c + pC (ss3, s.2) = pC s4) (hd : d + pS (ss3, s.2) = pS s4) : fPost G n ad en V s4 sp1 (lC hw s.1 (ss3, sp3, dv3) + c + pC7 s hw RR SL) (lS hw s.1 (ss3, sp3, dv3) + d + pS7 s hw RR SL) r ad1 en1 := by
  refine ⟨hr, ⟨_, _, _, _, _, _, _, _, _, _, h, ?_, ?_⟩, hF⟩
  · have := hlc.1; unfold xC at this; unfold pC7; unfold pC at hc; simp only at this hc; omega
  · have := hlc.2; unfold xS at this; unfold pS7; unfold pS at hd; simp only at this hd; omega
set_option maxHeartbeats 600000 in
set_option maxRecDepth 100000 in
theorem c_X7_wellMade (l : Launch) (G : rG) {n : Nat} {ad : Nat → Nat} {en : Nat → va_E} {s0 : NSt} {jd RR SL : Nat} {SN : Nat → Nat → Bool} {sf : Nat → Int32} {fl : Bool} {hw : Nat} {dv : Nat → Int32} {SG : Nat → Nat → Bool} {fuel sp : Nat} (hW : PsW G n ad en s0 jd RR SL SN sf fl hw dv SG fuel sp) (x : Int32) : CI l G yX7_wellMade uX7_wellMade (6) (147) (fJC jd RR SL s0.2 x) (fJS jd RR SL s0.2 x) [.ref (ad 0), .int (x)] (n) (n) ad en (fPost G n ad en (fWell s0 x) s0 sp (fJC jd RR SL s0.2 x + pC7 s0 hw RR SL) (fJS jd RR SL s0.2 x + pS7 s0 hw RR SL)) := by
  intro sz
  refine rMet (Qc := qI G (n) (fPost G n ad en (fWell s0 x) s0 sp (fJC jd RR SL s0.2 x + pC7 s0 hw RR SL) (fJS jd RR SL s0.2 x + pS7 s0 hw RR SL))) (cc := cX7_wellMade) (maxL := 2) (ret := (some .int)) (by decide) rfl (Nat.le_of_ble_eq_true rfl) ?_
  intro pP eE sS mM aA bB tT cC ls A Q hc hK hsz hA hs hl hQ
  obtain ⟨hx, hb, hr, hts, hown, hlk, hnm, hml⟩ := hc
  have hl : lv_has ls 2 [(0, .ref (ad 0)), (1, .int (x))] := hl
  obtain ⟨he00, hPm0, hSc0, hRR0, hSL0⟩ := id hW
  obtain ⟨hSt0, hNd0, hOk0, hn0, he210⟩ := id hPm0
  obtain ⟨fs30, he30⟩ : ∃ fs, en 3 = .inr (6, fs) := ⟨_, hSt0.2.1⟩
  obtain ⟨fs110, he110⟩ : ∃ fs, en 11 = .inr (2, fs) := ⟨_, hNd0.2.1⟩
  obtain ⟨fs180, he180⟩ : ∃ fs, en 18 = .inr (4, fs) := ⟨_, hSc0.2.2.2.2⟩
  obtain ⟨fs210, hf210⟩ : ∃ fs, en 21 = .inr (3, fs) := ⟨_, he210⟩
  have h60 := hSt0.2.2.2.2.2.1
  have h80 := hOk0.1.1
  
  refine lv_aload_n hx hb dX7_wellMade_0 rfl (lv_at hl 0 rfl) ?_
  refine r_get (ci := 7) (v := .ref (ad 11)) (C := RX7) (T := TX7) (N := 4) hx hb hts inlX7 hown hK hs (0) (by omega) he00 rfl 1 (by decide) (hts _ w_fl_RX7_24) rfl dX7_wellMade_1 ?_
  refine lv_iload_n hx hb dX7_wellMade_4 rfl (lv_at hl 1 rfl) ?_
  refine r_callViR (ci := 2) (As := [.int (x)]) hx hb hml hown hts hK hA hs (11) (by omega) he110 rfl rfl (c_X2_holds l G hNd0 (x)) (cwV 1 hts (tbV w_ml_RX7_76 w_im_yX2_holds w_se_yX2_holds w_ini_RX2 w_cd_yX2_holds) rfl rfl rfl (by decide +kernel) ⟨Nat.le_of_ble_eq_true rfl, Nat.le_of_ble_eq_true rfl⟩) rfl hl.1 rfl (Nat.le_of_ble_eq_true rfl) dX7_wellMade_5 ⟨Nat.zero_le _, Nat.zero_le _⟩ (fun H locs hs => ?_)
  refine lv_if_eq (tgt := 25) hx hb dX7_wellMade_8 (by decide) (fun c8 => ?_) (fun c8 => ?_)
  · skip
    refine lv_iconst (v := (-1)) hx hb dX7_wellMade_25 (by decide) ?_
    refine r_iret (v := (-1)) (mc := fJC jd RR SL s0.2 x) (ms := fJS jd RR SL s0.2 x) hx hb hr hlk hs (Nat.zero_le _) (Nat.zero_le _) dX7_wellMade_26 hQ ?_
    have hH : ¬ kHolds s0.2 x = true := by rw [b2i_0 c8]; decide
    exact fx_same hW (by rw [fWell, if_neg hH]) (by rw [fJC, if_neg hH]) (by rw [fJS, if_neg hH])
  · skip
    obtain ⟨k, hk0, hk1, hk2⟩ := holds_ex (b2i_1 c8)
    have hHk := b2i_1 c8
    subst hk0
    refine lv_aload_n hx hb dX7_wellMade_11 rfl (lv_at hl 0 rfl) ?_
    refine r_get (ci := 7) (v := .ref (ad 11)) (C := RX7) (T := TX7) (N := 4) hx hb hts inlX7 hown hK hs (0) (by omega) he00 rfl 1 (by decide) (hts _ w_fl_RX7_24) rfl dX7_wellMade_12 ?_
    refine lv_iload_n hx hb dX7_wellMade_15 rfl (lv_at hl 1 rfl) ?_
    refine r_callVi (ci := 2) (As := [.int (nI k)]) hx hb hml hown hts hK hA hs (11) (by omega) he110 rfl rfl (c_X2_isSound l G hSt0 hNd0 hOk0 (k := k) ⟨hk1, hk2⟩) (cwV 1 hts (tbV w_ml_RX7_81 w_im_yX2_isSound w_se_yX2_isSound w_ini_RX2 w_cd_yX2_isSound) rfl rfl rfl (by decide +kernel) ⟨Nat.le_of_ble_eq_true rfl, Nat.le_of_ble_eq_true rfl⟩) rfl hl.1 rfl (Nat.le_of_ble_eq_true rfl) dX7_wellMade_16 ⟨by show 0 + jMC jd RR SL k ≤ fJC jd RR SL s0.2 (nI k); rw [fJC, if_pos hHk, tN_nI (by omega)]; omega, by show 0 + jMS jd RR SL k ≤ fJS jd RR SL s0.2 (nI k); rw [fJS, if_pos hHk, tN_nI (by omega)]; omega⟩ (fun r_4 ad_1 en_2 H locs hp_3 hs => ?_)
    obtain ⟨hr1, ⟨S1, sf1, hd1, hO1⟩, hf1⟩ := hp_3
    obtain ⟨hJ1, hJ2⟩ := j_le (jd := jd) (k := k) (by omega) hRR0 hSL0
    obtain ⟨hW1, hF1⟩ := Ps_nd hW hd1 hO1 (FrNd hf1) hJ1 hJ2
    have hW1 : PsW G n ad_1 en_2 s0 (max jd k) (jRR jd RR k) (jSL jd SL k) S1 sf1 fl hw dv SG fuel sp := hW1
    rw [hr1]
    obtain ⟨he01, hPm1, hSc1, hRR1, hSL1⟩ := id hW1
    obtain ⟨hSt1, hNd1, hOk1, hn1, he211⟩ := id hPm1
    obtain ⟨fs31, he31⟩ : ∃ fs, en_2 3 = .inr (6, fs) := ⟨_, hSt1.2.1⟩
    obtain ⟨fs111, he111⟩ : ∃ fs, en_2 11 = .inr (2, fs) := ⟨_, hNd1.2.1⟩
    obtain ⟨fs181, he181⟩ : ∃ fs, en_2 18 = .inr (4, fs) := ⟨_, hSc1.2.2.2.2⟩
    obtain ⟨fs211, hf211⟩ : ∃ fs, en_2 21 = .inr (3, fs) := ⟨_, he211⟩
    have h61 := hSt1.2.2.2.2.2.1
    have h81 := hOk1.1.1
    have hl : lv_has ls 2 [(0, .ref (ad_1 0)), (1, .int (nI k))] := by rw [hF1.1 0 (by omega) (by unfold psA; omega)]; exact hl
    refine r_callSiR (As := [.int (b2i (wellB s0.1 s0.2 k))]) hx hb hml hown hts hK hA hs (c_X7_asAnswer l G (wellB s0.1 s0.2 k)) (va_cwS 1 hts (tbS w_ml_RX7_84 w_sta_yX7_asAnswer w_ini_RX7 w_cd_yX7_asAnswer) rfl rfl rfl (by decide +kernel) ⟨Nat.le_of_ble_eq_true rfl, Nat.le_of_ble_eq_true rfl⟩) rfl hl.1 rfl (Nat.le_of_ble_eq_true rfl) dX7_wellMade_19 ⟨by show 0 + jMC jd RR SL k ≤ fJC jd RR SL s0.2 (nI k); rw [fJC, if_pos hHk, tN_nI (by omega)]; omega, by show 0 + jMS jd RR SL k ≤ fJS jd RR SL s0.2 (nI k); rw [fJS, if_pos hHk, tN_nI (by omega)]; omega⟩ (fun H locs hs => ?_)
    refine lv_goto (tgt := 26) hx hb dX7_wellMade_22 (by decide) ?_
    refine r_iret (v := b2i (wellB s0.1 s0.2 k)) (mc := fJC jd RR SL s0.2 (nI k)) (ms := fJS jd RR SL s0.2 (nI k)) hx hb hr hlk hs (by rw [fJC, if_pos hHk, tN_nI (by omega)]; omega) (by rw [fJS, if_pos hHk, tN_nI (by omega)]; omega) dX7_wellMade_26 hQ ?_
    exact fx_nd (jd := jd) (RR := RR) (SL := SL) (k := k) hW1 hOk0.2.2.1 hOk0.2.2.2.1 hF1 (by rw [fWell, if_pos hHk, tN_nI (by omega)]) (by rw [fJC, if_pos hHk, tN_nI (by omega)]) (by rw [fJS, if_pos hHk, tN_nI (by omega)])

set_option maxHeartbeats 600000 in
set_option maxRecDepth 100000 in
theorem c_X7_rests (l : Launch) (G : rG) {n : Nat} {ad : Nat → Nat} {en : Nat → va_E} {s0 : NSt} {jd RR SL : Nat} {SN : Nat → Nat → Bool} {sf : Nat → Int32} {fl : Bool} {hw : Nat} {dv : Nat → Int32} {SG : Nat → Nat → Bool} {fuel sp : Nat} (hW : PsW G n ad en s0 jd RR SL SN sf fl hw dv SG fuel sp) (x : Int32) : CI l G yX7_rests uX7_rests (6) (147) (fJC jd RR SL s0.2 x) (fJS jd RR SL s0.2 x) [.ref (ad 0), .int (x)] (n) (n) ad en (fPost G n ad en (fRests s0 x) s0 sp (fJC jd RR SL s0.2 x + pC7 s0 hw RR SL) (fJS jd RR SL s0.2 x + pS7 s0 hw RR SL)) := by
  intro sz
  refine rMet (Qc := qI G (n) (fPost G n ad en (fRests s0 x) s0 sp (fJC jd RR SL s0.2 x + pC7 s0 hw RR SL) (fJS jd RR SL s0.2 x + pS7 s0 hw RR SL))) (cc := cX7_rests) (maxL := 2) (ret := (some .int)) (by decide) rfl (Nat.le_of_ble_eq_true rfl) ?_
  intro pP eE sS mM aA bB tT cC ls A Q hc hK hsz hA hs hl hQ
  obtain ⟨hx, hb, hr, hts, hown, hlk, hnm, hml⟩ := hc
  have hl : lv_has ls 2 [(0, .ref (ad 0)), (1, .int (x))] := hl
  obtain ⟨he00, hPm0, hSc0, hRR0, hSL0⟩ := id hW
  obtain ⟨hSt0, hNd0, hOk0, hn0, he210⟩ := id hPm0
  obtain ⟨fs30, he30⟩ : ∃ fs, en 3 = .inr (6, fs) := ⟨_, hSt0.2.1⟩
  obtain ⟨fs110, he110⟩ : ∃ fs, en 11 = .inr (2, fs) := ⟨_, hNd0.2.1⟩
  obtain ⟨fs180, he180⟩ : ∃ fs, en 18 = .inr (4, fs) := ⟨_, hSc0.2.2.2.2⟩
  obtain ⟨fs210, hf210⟩ : ∃ fs, en 21 = .inr (3, fs) := ⟨_, he210⟩
  have h60 := hSt0.2.2.2.2.2.1
  have h80 := hOk0.1.1
  
  refine lv_aload_n hx hb dX7_rests_0 rfl (lv_at hl 0 rfl) ?_
  refine r_get (ci := 7) (v := .ref (ad 11)) (C := RX7) (T := TX7) (N := 4) hx hb hts inlX7 hown hK hs (0) (by omega) he00 rfl 1 (by decide) (hts _ w_fl_RX7_24) rfl dX7_rests_1 ?_
  refine lv_iload_n hx hb dX7_rests_4 rfl (lv_at hl 1 rfl) ?_
  refine r_callViR (ci := 2) (As := [.int (x)]) hx hb hml hown hts hK hA hs (11) (by omega) he110 rfl rfl (c_X2_holds l G hNd0 (x)) (cwV 1 hts (tbV w_ml_RX7_76 w_im_yX2_holds w_se_yX2_holds w_ini_RX2 w_cd_yX2_holds) rfl rfl rfl (by decide +kernel) ⟨Nat.le_of_ble_eq_true rfl, Nat.le_of_ble_eq_true rfl⟩) rfl hl.1 rfl (Nat.le_of_ble_eq_true rfl) dX7_rests_5 ⟨Nat.zero_le _, Nat.zero_le _⟩ (fun H locs hs => ?_)
  refine lv_if_eq (tgt := 22) hx hb dX7_rests_8 (by decide) (fun c8 => ?_) (fun c8 => ?_)
  · skip
    refine lv_iconst (v := (-1)) hx hb dX7_rests_22 (by decide) ?_
    refine r_iret (v := (-1)) (mc := fJC jd RR SL s0.2 x) (ms := fJS jd RR SL s0.2 x) hx hb hr hlk hs (Nat.zero_le _) (Nat.zero_le _) dX7_rests_23 hQ ?_
    have hH : ¬ kHolds s0.2 x = true := by rw [b2i_0 c8]; decide
    exact fx_same hW (by rw [fRests, if_neg hH]) (by rw [fJC, if_neg hH]) (by rw [fJS, if_neg hH])
  · skip
    obtain ⟨k, hk0, hk1, hk2⟩ := holds_ex (b2i_1 c8)
    have hHk := b2i_1 c8
    subst hk0
    refine lv_aload_n hx hb dX7_rests_11 rfl (lv_at hl 0 rfl) ?_
    refine r_get (ci := 7) (v := .ref (ad 11)) (C := RX7) (T := TX7) (N := 4) hx hb hts inlX7 hown hK hs (0) (by omega) he00 rfl 1 (by decide) (hts _ w_fl_RX7_24) rfl dX7_rests_12 ?_
    refine lv_iload_n hx hb dX7_rests_15 rfl (lv_at hl 1 rfl) ?_
    refine r_callVi (ci := 2) (As := [.int (nI k)]) hx hb hml hown hts hK hA hs (11) (by omega) he110 rfl rfl (c_X2_restCount l G hSt0 hNd0 hOk0 (k := k) ⟨hk1, hk2⟩) (cwV 1 hts (tbV w_ml_RX7_88 w_im_yX2_restCount w_se_yX2_restCount w_ini_RX2 w_cd_yX2_restCount) rfl rfl rfl (by decide +kernel) ⟨Nat.le_of_ble_eq_true rfl, Nat.le_of_ble_eq_true rfl⟩) rfl hl.1 rfl (Nat.le_of_ble_eq_true rfl) dX7_rests_16 ⟨by show 0 + jMC jd RR SL k ≤ fJC jd RR SL s0.2 (nI k); rw [fJC, if_pos hHk, tN_nI (by omega)]; omega, by show 0 + jMS jd RR SL k ≤ fJS jd RR SL s0.2 (nI k); rw [fJS, if_pos hHk, tN_nI (by omega)]; omega⟩ (fun r_4 ad_1 en_2 H locs hp_3 hs => ?_)
    obtain ⟨hr1, ⟨S1, sf1, hd1, hO1⟩, hf1⟩ := hp_3
    obtain ⟨hJ1, hJ2⟩ := j_le (jd := jd) (k := k) (by omega) hRR0 hSL0
    obtain ⟨hW1, hF1⟩ := Ps_nd hW hd1 hO1 (FrNd hf1) hJ1 hJ2
    have hW1 : PsW G n ad_1 en_2 s0 (max jd k) (jRR jd RR k) (jSL jd SL k) S1 sf1 fl hw dv SG fuel sp := hW1
    rw [hr1]
    obtain ⟨he01, hPm1, hSc1, hRR1, hSL1⟩ := id hW1
    obtain ⟨hSt1, hNd1, hOk1, hn1, he211⟩ := id hPm1
    obtain ⟨fs31, he31⟩ : ∃ fs, en_2 3 = .inr (6, fs) := ⟨_, hSt1.2.1⟩
    obtain ⟨fs111, he111⟩ : ∃ fs, en_2 11 = .inr (2, fs) := ⟨_, hNd1.2.1⟩
    obtain ⟨fs181, he181⟩ : ∃ fs, en_2 18 = .inr (4, fs) := ⟨_, hSc1.2.2.2.2⟩
    obtain ⟨fs211, hf211⟩ : ∃ fs, en_2 21 = .inr (3, fs) := ⟨_, he211⟩
    have h61 := hSt1.2.2.2.2.2.1
    have h81 := hOk1.1.1
    have hl : lv_has ls 2 [(0, .ref (ad_1 0)), (1, .int (nI k))] := by rw [hF1.1 0 (by omega) (by unfold psA; omega)]; exact hl
    refine lv_goto (tgt := 23) hx hb dX7_rests_19 (by decide) ?_
    refine r_iret (v := nI (cnt (restB s0.1 s0.2 k) 640)) (mc := fJC jd RR SL s0.2 (nI k)) (ms := fJS jd RR SL s0.2 (nI k)) hx hb hr hlk hs (by rw [fJC, if_pos hHk, tN_nI (by omega)]; omega) (by rw [fJS, if_pos hHk, tN_nI (by omega)]; omega) dX7_rests_23 hQ ?_
    exact fx_nd (jd := jd) (RR := RR) (SL := SL) (k := k) hW1 hOk0.2.2.1 hOk0.2.2.2.1 hF1 (by rw [fRests, if_pos hHk, tN_nI (by omega)]) (by rw [fJC, if_pos hHk, tN_nI (by omega)]) (by rw [fJS, if_pos hHk, tN_nI (by omega)])

set_option maxHeartbeats 600000 in
set_option maxRecDepth 100000 in
theorem c_X7_restsOn (l : Launch) (G : rG) {n : Nat} {ad : Nat → Nat} {en : Nat → va_E} {s0 : NSt} {jd RR SL : Nat} {SN : Nat → Nat → Bool} {sf : Nat → Int32} {fl : Bool} {hw : Nat} {dv : Nat → Int32} {SG : Nat → Nat → Bool} {fuel sp : Nat} (hW : PsW G n ad en s0 jd RR SL SN sf fl hw dv SG fuel sp) (x : Int32) (y : Int32) : CI l G yX7_restsOn uX7_restsOn (6) (148) (fJC jd RR SL s0.2 x) (fJS jd RR SL s0.2 x) [.ref (ad 0), .int (x), .int (y)] (n) (n) ad en (fPost G n ad en (fRestOn s0 x y) s0 sp (fJC jd RR SL s0.2 x + pC7 s0 hw RR SL) (fJS jd RR SL s0.2 x + pS7 s0 hw RR SL)) := by
  intro sz
  refine rMet (Qc := qI G (n) (fPost G n ad en (fRestOn s0 x y) s0 sp (fJC jd RR SL s0.2 x + pC7 s0 hw RR SL) (fJS jd RR SL s0.2 x + pS7 s0 hw RR SL))) (cc := cX7_restsOn) (maxL := 4) (ret := (some .int)) (by decide) rfl (Nat.le_of_ble_eq_true rfl) ?_
  intro pP eE sS mM aA bB tT cC ls A Q hc hK hsz hA hs hl hQ
  obtain ⟨hx, hb, hr, hts, hown, hlk, hnm, hml⟩ := hc
  have hl : lv_has ls 4 [(0, .ref (ad 0)), (1, .int (x)), (2, .int (y))] := hl
  obtain ⟨he00, hPm0, hSc0, hRR0, hSL0⟩ := id hW
  obtain ⟨hSt0, hNd0, hOk0, hn0, he210⟩ := id hPm0
  obtain ⟨fs30, he30⟩ : ∃ fs, en 3 = .inr (6, fs) := ⟨_, hSt0.2.1⟩
  obtain ⟨fs110, he110⟩ : ∃ fs, en 11 = .inr (2, fs) := ⟨_, hNd0.2.1⟩
  obtain ⟨fs180, he180⟩ : ∃ fs, en 18 = .inr (4, fs) := ⟨_, hSc0.2.2.2.2⟩
  obtain ⟨fs210, hf210⟩ : ∃ fs, en 21 = .inr (3, fs) := ⟨_, he210⟩
  have h60 := hSt0.2.2.2.2.2.1
  have h80 := hOk0.1.1
  
  refine lv_aload_n hx hb dX7_restsOn_0 rfl (lv_at hl 0 rfl) ?_
  refine r_get (ci := 7) (v := .ref (ad 11)) (C := RX7) (T := TX7) (N := 4) hx hb hts inlX7 hown hK hs (0) (by omega) he00 rfl 1 (by decide) (hts _ w_fl_RX7_24) rfl dX7_restsOn_1 ?_
  refine lv_iload_n hx hb dX7_restsOn_4 rfl (lv_at hl 1 rfl) ?_
  refine r_callViR (ci := 2) (As := [.int (x)]) hx hb hml hown hts hK hA hs (11) (by omega) he110 rfl rfl (c_X2_holds l G hNd0 (x)) (cwV 1 hts (tbV w_ml_RX7_76 w_im_yX2_holds w_se_yX2_holds w_ini_RX2 w_cd_yX2_holds) rfl rfl rfl (by decide +kernel) ⟨Nat.le_of_ble_eq_true rfl, Nat.le_of_ble_eq_true rfl⟩) rfl hl.1 rfl (Nat.le_of_ble_eq_true rfl) dX7_restsOn_5 ⟨Nat.zero_le _, Nat.zero_le _⟩ (fun H locs hs => ?_)
  refine lv_if_ne (tgt := 13) hx hb dX7_restsOn_8 (by decide) (fun c8 => ?_) (fun c8 => ?_)
  · skip
    obtain ⟨k, hk0, hk1, hk2⟩ := holds_ex (b2i_1 c8)
    have hHk := b2i_1 c8
    subst hk0
    refine lv_aload_n hx hb dX7_restsOn_13 rfl (lv_at hl 0 rfl) ?_
    refine r_get (ci := 7) (v := .ref (ad 11)) (C := RX7) (T := TX7) (N := 4) hx hb hts inlX7 hown hK hs (0) (by omega) he00 rfl 1 (by decide) (hts _ w_fl_RX7_24) rfl dX7_restsOn_14 ?_
    refine lv_iload_n hx hb dX7_restsOn_17 rfl (lv_at hl 1 rfl) ?_
    refine lv_iload_n hx hb dX7_restsOn_18 rfl (lv_at hl 2 rfl) ?_
    refine r_callVi (ci := 2) (As := [.int (nI k), .int (y)]) hx hb hml hown hts hK hA hs (11) (by omega) he110 rfl rfl (c_X2_restAbove l G hSt0 hNd0 hOk0 (k := k) ⟨hk1, hk2⟩ y) (cwV 2 hts (tbV w_ml_RX7_91 w_im_yX2_restAbove w_se_yX2_restAbove w_ini_RX2 w_cd_yX2_restAbove) rfl rfl rfl (by decide +kernel) ⟨Nat.le_of_ble_eq_true rfl, Nat.le_of_ble_eq_true rfl⟩) rfl hl.1 rfl (Nat.le_of_ble_eq_true rfl) dX7_restsOn_19 ⟨by show 0 + jMC jd RR SL k ≤ fJC jd RR SL s0.2 (nI k); rw [fJC, if_pos hHk, tN_nI (by omega)]; omega, by show 0 + jMS jd RR SL k ≤ fJS jd RR SL s0.2 (nI k); rw [fJS, if_pos hHk, tN_nI (by omega)]; omega⟩ (fun r_4 ad_1 en_2 H locs hp_3 hs => ?_)
    obtain ⟨hr1, ⟨S1, sf1, hd1, hO1⟩, hf1⟩ := hp_3
    obtain ⟨hJ1, hJ2⟩ := j_le (jd := jd) (k := k) (by omega) hRR0 hSL0
    obtain ⟨hW1, hF1⟩ := Ps_nd hW hd1 hO1 (FrNd hf1) hJ1 hJ2
    have hW1 : PsW G n ad_1 en_2 s0 (max jd k) (jRR jd RR k) (jSL jd SL k) S1 sf1 fl hw dv SG fuel sp := hW1
    rw [hr1]
    obtain ⟨he01, hPm1, hSc1, hRR1, hSL1⟩ := id hW1
    obtain ⟨hSt1, hNd1, hOk1, hn1, he211⟩ := id hPm1
    obtain ⟨fs31, he31⟩ : ∃ fs, en_2 3 = .inr (6, fs) := ⟨_, hSt1.2.1⟩
    obtain ⟨fs111, he111⟩ : ∃ fs, en_2 11 = .inr (2, fs) := ⟨_, hNd1.2.1⟩
    obtain ⟨fs181, he181⟩ : ∃ fs, en_2 18 = .inr (4, fs) := ⟨_, hSc1.2.2.2.2⟩
    obtain ⟨fs211, hf211⟩ : ∃ fs, en_2 21 = .inr (3, fs) := ⟨_, he211⟩
    have h61 := hSt1.2.2.2.2.2.1
    have h81 := hOk1.1.1
    have hl : lv_has ls 4 [(0, .ref (ad_1 0)), (1, .int (nI k)), (2, .int (y))] := by rw [hF1.1 0 (by omega) (by unfold psA; omega)]; exact hl
    refine lv_istore_n (lv' := [(3, .int (nI (sLeast (restB s0.1 s0.2 k) y))), (0, .ref (ad_1 0)), (1, .int (nI k)), (2, .int (y))]) hx hb dX7_restsOn_22 rfl hl (by decide) rfl (fun ls hl => ?_)
    refine lv_iload_n hx hb dX7_restsOn_23 rfl (lv_at hl 0 rfl) ?_
    refine lv_if_le (tgt := 31) hx hb dX7_restsOn_24 (by decide) (fun c24 => ?_) (fun c24 => ?_)
    · skip
      have hz : sLeast (restB s0.1 s0.2 k) y = 0 := nI_le0 (by have := sLeast_lt (P := restB s0.1 s0.2 k) (x := y); omega) c24
      refine lv_bipush (v := (-2)) hx hb dX7_restsOn_31 (by decide) ?_
      refine r_iret (v := (-2)) (mc := fJC jd RR SL s0.2 (nI k)) (ms := fJS jd RR SL s0.2 (nI k)) hx hb hr hlk hs (by rw [fJC, if_pos hHk, tN_nI (by omega)]; omega) (by rw [fJS, if_pos hHk, tN_nI (by omega)]; omega) dX7_restsOn_33 hQ ?_
      exact fx_nd (jd := jd) (RR := RR) (SL := SL) (k := k) hW1 hOk0.2.2.1 hOk0.2.2.2.1 hF1 (by rw [fRestOn, if_pos hHk, tN_nI (by omega)]; rw [if_pos hz]) (by rw [fJC, if_pos hHk, tN_nI (by omega)]) (by rw [fJS, if_pos hHk, tN_nI (by omega)])
    · skip
      have hz : ¬ sLeast (restB s0.1 s0.2 k) y = 0 := fun q => c24 (by rw [q]; decide)
      refine lv_iload_n hx hb dX7_restsOn_27 rfl (lv_at hl 0 rfl) ?_
      refine lv_goto (tgt := 33) hx hb dX7_restsOn_28 (by decide) ?_
      refine r_iret (v := nI (sLeast (restB s0.1 s0.2 k) y)) (mc := fJC jd RR SL s0.2 (nI k)) (ms := fJS jd RR SL s0.2 (nI k)) hx hb hr hlk hs (by rw [fJC, if_pos hHk, tN_nI (by omega)]; omega) (by rw [fJS, if_pos hHk, tN_nI (by omega)]; omega) dX7_restsOn_33 hQ ?_
      exact fx_nd (jd := jd) (RR := RR) (SL := SL) (k := k) hW1 hOk0.2.2.1 hOk0.2.2.2.1 hF1 (by rw [fRestOn, if_pos hHk, tN_nI (by omega)]; rw [if_neg hz]) (by rw [fJC, if_pos hHk, tN_nI (by omega)]) (by rw [fJS, if_pos hHk, tN_nI (by omega)])
  · skip
    refine lv_iconst (v := (-1)) hx hb dX7_restsOn_11 (by decide) ?_
    refine r_iret (v := (-1)) (mc := fJC jd RR SL s0.2 x) (ms := fJS jd RR SL s0.2 x) hx hb hr hlk hs (Nat.zero_le _) (Nat.zero_le _) dX7_restsOn_12 hQ ?_
    have hH : ¬ kHolds s0.2 x = true := by rw [b2i_0 c8]; decide
    exact fx_same hW (by rw [fRestOn, if_neg hH]) (by rw [fJC, if_neg hH]) (by rw [fJS, if_neg hH])

set_option maxHeartbeats 600000 in
set_option maxRecDepth 100000 in
theorem c_X7_proves (l : Launch) (G : rG) {n : Nat} {ad : Nat → Nat} {en : Nat → va_E} {s0 : NSt} {jd RR SL : Nat} {SN : Nat → Nat → Bool} {sf : Nat → Int32} {fl : Bool} {hw : Nat} {dv : Nat → Int32} {SG : Nat → Nat → Bool} {fuel sp : Nat} (hW : PsW G n ad en s0 jd RR SL SN sf fl hw dv SG fuel sp) (x : Int32) : CI l G yX7_proves uX7_proves (6) (147) (fJC jd RR SL s0.2 x) (fJS jd RR SL s0.2 x) [.ref (ad 0), .int (x)] (n) (n) ad en (fPost G n ad en (fProves s0 x) s0 sp (fJC jd RR SL s0.2 x + pC7 s0 hw RR SL) (fJS jd RR SL s0.2 x + pS7 s0 hw RR SL)) := by
  intro sz
  refine rMet (Qc := qI G (n) (fPost G n ad en (fProves s0 x) s0 sp (fJC jd RR SL s0.2 x + pC7 s0 hw RR SL) (fJS jd RR SL s0.2 x + pS7 s0 hw RR SL))) (cc := cX7_proves) (maxL := 2) (ret := (some .int)) (by decide) rfl (Nat.le_of_ble_eq_true rfl) ?_
  intro pP eE sS mM aA bB tT cC ls A Q hc hK hsz hA hs hl hQ
  obtain ⟨hx, hb, hr, hts, hown, hlk, hnm, hml⟩ := hc
  have hl : lv_has ls 2 [(0, .ref (ad 0)), (1, .int (x))] := hl
  obtain ⟨he00, hPm0, hSc0, hRR0, hSL0⟩ := id hW
  obtain ⟨hSt0, hNd0, hOk0, hn0, he210⟩ := id hPm0
  obtain ⟨fs30, he30⟩ : ∃ fs, en 3 = .inr (6, fs) := ⟨_, hSt0.2.1⟩
  obtain ⟨fs110, he110⟩ : ∃ fs, en 11 = .inr (2, fs) := ⟨_, hNd0.2.1⟩
  obtain ⟨fs180, he180⟩ : ∃ fs, en 18 = .inr (4, fs) := ⟨_, hSc0.2.2.2.2⟩
  obtain ⟨fs210, hf210⟩ : ∃ fs, en 21 = .inr (3, fs) := ⟨_, he210⟩
  have h60 := hSt0.2.2.2.2.2.1
  have h80 := hOk0.1.1
  
  refine lv_aload_n hx hb dX7_proves_0 rfl (lv_at hl 0 rfl) ?_
  refine r_get (ci := 7) (v := .ref (ad 11)) (C := RX7) (T := TX7) (N := 4) hx hb hts inlX7 hown hK hs (0) (by omega) he00 rfl 1 (by decide) (hts _ w_fl_RX7_24) rfl dX7_proves_1 ?_
  refine lv_iload_n hx hb dX7_proves_4 rfl (lv_at hl 1 rfl) ?_
  refine r_callViR (ci := 2) (As := [.int (x)]) hx hb hml hown hts hK hA hs (11) (by omega) he110 rfl rfl (c_X2_holds l G hNd0 (x)) (cwV 1 hts (tbV w_ml_RX7_76 w_im_yX2_holds w_se_yX2_holds w_ini_RX2 w_cd_yX2_holds) rfl rfl rfl (by decide +kernel) ⟨Nat.le_of_ble_eq_true rfl, Nat.le_of_ble_eq_true rfl⟩) rfl hl.1 rfl (Nat.le_of_ble_eq_true rfl) dX7_proves_5 ⟨Nat.zero_le _, Nat.zero_le _⟩ (fun H locs hs => ?_)
  refine lv_if_ne (tgt := 13) hx hb dX7_proves_8 (by decide) (fun c8 => ?_) (fun c8 => ?_)
  · skip
    obtain ⟨k, hk0, hk1, hk2⟩ := holds_ex (b2i_1 c8)
    have hHk := b2i_1 c8
    subst hk0
    refine lv_aload_n hx hb dX7_proves_13 rfl (lv_at hl 0 rfl) ?_
    refine r_get (ci := 7) (v := .ref (ad 11)) (C := RX7) (T := TX7) (N := 4) hx hb hts inlX7 hown hK hs (0) (by omega) he00 rfl 1 (by decide) (hts _ w_fl_RX7_24) rfl dX7_proves_14 ?_
    refine lv_iload_n hx hb dX7_proves_17 rfl (lv_at hl 1 rfl) ?_
    refine r_callVi (ci := 2) (As := [.int (nI k)]) hx hb hml hown hts hK hA hs (11) (by omega) he110 rfl rfl (c_X2_isSound l G hSt0 hNd0 hOk0 (k := k) ⟨hk1, hk2⟩) (cwV 1 hts (tbV w_ml_RX7_81 w_im_yX2_isSound w_se_yX2_isSound w_ini_RX2 w_cd_yX2_isSound) rfl rfl rfl (by decide +kernel) ⟨Nat.le_of_ble_eq_true rfl, Nat.le_of_ble_eq_true rfl⟩) rfl hl.1 rfl (Nat.le_of_ble_eq_true rfl) dX7_proves_18 ⟨by show 0 + jMC jd RR SL k ≤ fJC jd RR SL s0.2 (nI k); rw [fJC, if_pos hHk, tN_nI (by omega)]; omega, by show 0 + jMS jd RR SL k ≤ fJS jd RR SL s0.2 (nI k); rw [fJS, if_pos hHk, tN_nI (by omega)]; omega⟩ (fun r_4 ad_1 en_2 H locs hp_3 hs => ?_)
    obtain ⟨hr1, ⟨S1, sf1, hd1, hO1⟩, hf1⟩ := hp_3
    obtain ⟨hJ1, hJ2⟩ := j_le (jd := jd) (k := k) (by omega) hRR0 hSL0
    obtain ⟨hW1, hF1⟩ := Ps_nd hW hd1 hO1 (FrNd hf1) hJ1 hJ2
    have hW1 : PsW G n ad_1 en_2 s0 (max jd k) (jRR jd RR k) (jSL jd SL k) S1 sf1 fl hw dv SG fuel sp := hW1
    rw [hr1]
    obtain ⟨he01, hPm1, hSc1, hRR1, hSL1⟩ := id hW1
    obtain ⟨hSt1, hNd1, hOk1, hn1, he211⟩ := id hPm1
    obtain ⟨fs31, he31⟩ : ∃ fs, en_2 3 = .inr (6, fs) := ⟨_, hSt1.2.1⟩
    obtain ⟨fs111, he111⟩ : ∃ fs, en_2 11 = .inr (2, fs) := ⟨_, hNd1.2.1⟩
    obtain ⟨fs181, he181⟩ : ∃ fs, en_2 18 = .inr (4, fs) := ⟨_, hSc1.2.2.2.2⟩
    obtain ⟨fs211, hf211⟩ : ∃ fs, en_2 21 = .inr (3, fs) := ⟨_, he211⟩
    have h61 := hSt1.2.2.2.2.2.1
    have h81 := hOk1.1.1
    have hl : lv_has ls 2 [(0, .ref (ad_1 0)), (1, .int (nI k))] := by rw [hF1.1 0 (by omega) (by unfold psA; omega)]; exact hl
    refine lv_if_eq (tgt := 39) hx hb dX7_proves_21 (by decide) (fun c21 => ?_) (fun c21 => ?_)
    · skip
      refine lv_iconst (v := 0) hx hb dX7_proves_39 (by decide) ?_
      refine r_topi (y := b2i (wellB s0.1 s0.2 k && decide (cnt (restB s0.1 s0.2 k) 640 = 0))) (by rw [b2i_0 c21]; rfl) ?_
      refine r_callSiR (As := [.int (b2i (wellB s0.1 s0.2 k && decide (cnt (restB s0.1 s0.2 k) 640 = 0)))]) hx hb hml hown hts hK hA hs (c_X7_asAnswer l G (wellB s0.1 s0.2 k && decide (cnt (restB s0.1 s0.2 k) 640 = 0))) (va_cwS 1 hts (tbS w_ml_RX7_84 w_sta_yX7_asAnswer w_ini_RX7 w_cd_yX7_asAnswer) rfl rfl rfl (by decide +kernel) ⟨Nat.le_of_ble_eq_true rfl, Nat.le_of_ble_eq_true rfl⟩) rfl hl.1 rfl (Nat.le_of_ble_eq_true rfl) dX7_proves_40 ⟨by show 0 + jMC jd RR SL k ≤ fJC jd RR SL s0.2 (nI k); rw [fJC, if_pos hHk, tN_nI (by omega)]; omega, by show 0 + jMS jd RR SL k ≤ fJS jd RR SL s0.2 (nI k); rw [fJS, if_pos hHk, tN_nI (by omega)]; omega⟩ (fun H locs hs => ?_)
      refine r_iret (v := b2i (wellB s0.1 s0.2 k && decide (cnt (restB s0.1 s0.2 k) 640 = 0))) (mc := fJC jd RR SL s0.2 (nI k)) (ms := fJS jd RR SL s0.2 (nI k)) hx hb hr hlk hs (by rw [fJC, if_pos hHk, tN_nI (by omega)]; omega) (by rw [fJS, if_pos hHk, tN_nI (by omega)]; omega) dX7_proves_43 hQ ?_
      exact fx_nd (jd := jd) (RR := RR) (SL := SL) (k := k) hW1 hOk0.2.2.1 hOk0.2.2.2.1 hF1 (by rw [fProves, if_pos hHk, tN_nI (by omega)]) (by rw [fJC, if_pos hHk, tN_nI (by omega)]) (by rw [fJS, if_pos hHk, tN_nI (by omega)])
    · skip
      refine lv_aload_n hx hb dX7_proves_24 rfl (lv_at hl 0 rfl) ?_
      refine r_get (ci := 7) (v := .ref (ad_1 11)) (C := RX7) (T := TX7) (N := 4) hx hb hts inlX7 hown hK hs (0) (by omega) he01 rfl 1 (by decide) (hts _ w_fl_RX7_24) rfl dX7_proves_25 ?_
      refine lv_iload_n hx hb dX7_proves_28 rfl (lv_at hl 1 rfl) ?_
      refine r_callVi (ci := 2) (As := [.int (nI k)]) hx hb hml hown hts hK hA hs (11) (by omega) he111 rfl rfl (c_X2_restCount l G hSt1 hNd1 hOk1 (k := k) ⟨hk1, hk2⟩) (cwV 1 hts (tbV w_ml_RX7_88 w_im_yX2_restCount w_se_yX2_restCount w_ini_RX2 w_cd_yX2_restCount) rfl rfl rfl (by decide +kernel) ⟨Nat.le_of_ble_eq_true rfl, Nat.le_of_ble_eq_true rfl⟩) rfl hl.1 rfl (Nat.le_of_ble_eq_true rfl) dX7_proves_29 ⟨by show 0 + jMC jd RR SL k + jMC (max jd k) (jRR jd RR k) (jSL jd SL k) k ≤ fJC jd RR SL s0.2 (nI k); rw [fJC, if_pos hHk, tN_nI (by omega), (j_0 (show k ≤ max jd k by omega)).1]; omega, by show 0 + jMS jd RR SL k + jMS (max jd k) (jRR jd RR k) (jSL jd SL k) k ≤ fJS jd RR SL s0.2 (nI k); rw [fJS, if_pos hHk, tN_nI (by omega), (j_0 (show k ≤ max jd k by omega)).2.1]; omega⟩ (fun r_8 ad_5 en_6 H locs hp_7 hs => ?_)
      obtain ⟨hr2, ⟨S2, sf2, hd2, hO2⟩, hf2⟩ := hp_7
      have hj0 := j_0 (jd := max jd k) (RR := jRR jd RR k) (SL := jSL jd SL k) (k := k) (by omega)
      rw [Nat.max_eq_left (show k ≤ max jd k by omega), hj0.2.2.1, hj0.2.2.2] at hd2 hO2
      obtain ⟨hW2, hF2'⟩ := Ps_nd hW1 hd2 hO2 (FrNd hf2) hJ1 hJ2
      have hF2 := Fr_tr hF1 hF2'
      have hW2 : PsW G n ad_5 en_6 s0 (max jd k) (jRR jd RR k) (jSL jd SL k) S2 sf2 fl hw dv SG fuel sp := hW2
      rw [hr2]
      refine lv_if_ne (tgt := 39) hx hb dX7_proves_32 (by decide) (fun c32 => ?_) (fun c32 => ?_)
      · skip
        refine lv_iconst (v := 0) hx hb dX7_proves_39 (by decide) ?_
        refine r_topi (y := b2i (wellB s0.1 s0.2 k && decide (cnt (restB s0.1 s0.2 k) 640 = 0))) (by rw [b2i_1 c21, decide_eq_false (nz_of (by have := cnt_le2 (restB s0.1 s0.2 k) 640; omega) c32)]; rfl) ?_
        refine r_callSiR (As := [.int (b2i (wellB s0.1 s0.2 k && decide (cnt (restB s0.1 s0.2 k) 640 = 0)))]) hx hb hml hown hts hK hA hs (c_X7_asAnswer l G (wellB s0.1 s0.2 k && decide (cnt (restB s0.1 s0.2 k) 640 = 0))) (va_cwS 1 hts (tbS w_ml_RX7_84 w_sta_yX7_asAnswer w_ini_RX7 w_cd_yX7_asAnswer) rfl rfl rfl (by decide +kernel) ⟨Nat.le_of_ble_eq_true rfl, Nat.le_of_ble_eq_true rfl⟩) rfl hl.1 rfl (Nat.le_of_ble_eq_true rfl) dX7_proves_40 ⟨by show 0 + jMC jd RR SL k + jMC (max jd k) (jRR jd RR k) (jSL jd SL k) k ≤ fJC jd RR SL s0.2 (nI k); rw [fJC, if_pos hHk, tN_nI (by omega), (j_0 (show k ≤ max jd k by omega)).1]; omega, by show 0 + jMS jd RR SL k + jMS (max jd k) (jRR jd RR k) (jSL jd SL k) k ≤ fJS jd RR SL s0.2 (nI k); rw [fJS, if_pos hHk, tN_nI (by omega), (j_0 (show k ≤ max jd k by omega)).2.1]; omega⟩ (fun H locs hs => ?_)
        refine r_iret (v := b2i (wellB s0.1 s0.2 k && decide (cnt (restB s0.1 s0.2 k) 640 = 0))) (mc := fJC jd RR SL s0.2 (nI k)) (ms := fJS jd RR SL s0.2 (nI k)) hx hb hr hlk hs (by rw [fJC, if_pos hHk, tN_nI (by omega)]; rw [hj0.1]; omega) (by rw [fJS, if_pos hHk, tN_nI (by omega)]; rw [hj0.2.1]; omega) dX7_proves_43 hQ ?_
        exact fx_nd (jd := jd) (RR := RR) (SL := SL) (k := k) hW2 hOk0.2.2.1 hOk0.2.2.2.1 hF2 (by rw [fProves, if_pos hHk, tN_nI (by omega)]) (by rw [fJC, if_pos hHk, tN_nI (by omega)]) (by rw [fJS, if_pos hHk, tN_nI (by omega)])
      · skip
        refine lv_iconst (v := 1) hx hb dX7_proves_35 (by decide) ?_
        refine lv_goto (tgt := 40) hx hb dX7_proves_36 (by decide) ?_
        refine r_topi (y := b2i (wellB s0.1 s0.2 k && decide (cnt (restB s0.1 s0.2 k) 640 = 0))) (by rw [b2i_1 c21, decide_eq_true (z_of (by have := cnt_le2 (restB s0.1 s0.2 k) 640; omega) c32)]; rfl) ?_
        refine r_callSiR (As := [.int (b2i (wellB s0.1 s0.2 k && decide (cnt (restB s0.1 s0.2 k) 640 = 0)))]) hx hb hml hown hts hK hA hs (c_X7_asAnswer l G (wellB s0.1 s0.2 k && decide (cnt (restB s0.1 s0.2 k) 640 = 0))) (va_cwS 1 hts (tbS w_ml_RX7_84 w_sta_yX7_asAnswer w_ini_RX7 w_cd_yX7_asAnswer) rfl rfl rfl (by decide +kernel) ⟨Nat.le_of_ble_eq_true rfl, Nat.le_of_ble_eq_true rfl⟩) rfl hl.1 rfl (Nat.le_of_ble_eq_true rfl) dX7_proves_40 ⟨by show 0 + jMC jd RR SL k + jMC (max jd k) (jRR jd RR k) (jSL jd SL k) k ≤ fJC jd RR SL s0.2 (nI k); rw [fJC, if_pos hHk, tN_nI (by omega), (j_0 (show k ≤ max jd k by omega)).1]; omega, by show 0 + jMS jd RR SL k + jMS (max jd k) (jRR jd RR k) (jSL jd SL k) k ≤ fJS jd RR SL s0.2 (nI k); rw [fJS, if_pos hHk, tN_nI (by omega), (j_0 (show k ≤ max jd k by omega)).2.1]; omega⟩ (fun H locs hs => ?_)
        refine r_iret (v := b2i (wellB s0.1 s0.2 k && decide (cnt (restB s0.1 s0.2 k) 640 = 0))) (mc := fJC jd RR SL s0.2 (nI k)) (ms := fJS jd RR SL s0.2 (nI k)) hx hb hr hlk hs (by rw [fJC, if_pos hHk, tN_nI (by omega)]; rw [hj0.1]; omega) (by rw [fJS, if_pos hHk, tN_nI (by omega)]; rw [hj0.2.1]; omega) dX7_proves_43 hQ ?_
        exact fx_nd (jd := jd) (RR := RR) (SL := SL) (k := k) hW2 hOk0.2.2.1 hOk0.2.2.2.1 hF2 (by rw [fProves, if_pos hHk, tN_nI (by omega)]) (by rw [fJC, if_pos hHk, tN_nI (by omega)]) (by rw [fJS, if_pos hHk, tN_nI (by omega)])
  · skip
    refine lv_iconst (v := (-1)) hx hb dX7_proves_11 (by decide) ?_
    refine r_iret (v := (-1)) (mc := fJC jd RR SL s0.2 x) (ms := fJS jd RR SL s0.2 x) hx hb hr hlk hs (Nat.zero_le _) (Nat.zero_le _) dX7_proves_12 hQ ?_
    have hH : ¬ kHolds s0.2 x = true := by rw [b2i_0 c8]; decide
    exact fx_same hW (by rw [fProves, if_neg hH]) (by rw [fJC, if_neg hH]) (by rw [fJS, if_neg hH])

set_option maxHeartbeats 600000 in
set_option maxRecDepth 100000 in
theorem c_X7_isTrue (l : Launch) (G : rG) {n : Nat} {ad : Nat → Nat} {en : Nat → va_E} {s0 : NSt} {jd RR SL : Nat} {SN : Nat → Nat → Bool} {sf : Nat → Int32} {fl : Bool} {hw : Nat} {dv : Nat → Int32} {SG : Nat → Nat → Bool} {fuel sp : Nat} (hW : PsW G n ad en s0 jd RR SL SN sf fl hw dv SG fuel sp) (x : Int32) (y : Int32) : CI l G yX7_isTrue uX7_isTrue (4) (91) (0) (0) [.ref (ad 0), .int (x), .int (y)] (n) (n) ad en (fPost G n ad en (fTrue s0.1 x y) s0 sp (0 + pC7 s0 hw RR SL) (0 + pS7 s0 hw RR SL)) := by
  intro sz
  refine rMet (Qc := qI G (n) (fPost G n ad en (fTrue s0.1 x y) s0 sp (0 + pC7 s0 hw RR SL) (0 + pS7 s0 hw RR SL))) (cc := cX7_isTrue) (maxL := 3) (ret := (some .int)) (by decide) rfl (Nat.le_of_ble_eq_true rfl) ?_
  intro pP eE sS mM aA bB tT cC ls A Q hc hK hsz hA hs hl hQ
  obtain ⟨hx, hb, hr, hts, hown, hlk, hnm, hml⟩ := hc
  have hl : lv_has ls 3 [(0, .ref (ad 0)), (1, .int (x)), (2, .int (y))] := hl
  obtain ⟨he00, hPm0, hSc0, hRR0, hSL0⟩ := id hW
  obtain ⟨hSt0, hNd0, hOk0, hn0, he210⟩ := id hPm0
  obtain ⟨fs30, he30⟩ : ∃ fs, en 3 = .inr (6, fs) := ⟨_, hSt0.2.1⟩
  obtain ⟨fs110, he110⟩ : ∃ fs, en 11 = .inr (2, fs) := ⟨_, hNd0.2.1⟩
  obtain ⟨fs180, he180⟩ : ∃ fs, en 18 = .inr (4, fs) := ⟨_, hSc0.2.2.2.2⟩
  obtain ⟨fs210, hf210⟩ : ∃ fs, en 21 = .inr (3, fs) := ⟨_, he210⟩
  have h60 := hSt0.2.2.2.2.2.1
  have h80 := hOk0.1.1
  
  refine lv_aload_n hx hb dX7_isTrue_0 rfl (lv_at hl 0 rfl) ?_
  refine r_get (ci := 7) (v := .ref (ad 3)) (C := RX7) (T := TX7) (N := 4) hx hb hts inlX7 hown hK hs (0) (by omega) he00 rfl 0 (by decide) (hts _ w_fl_RX7_13) rfl dX7_isTrue_1 ?_
  refine lv_iload_n hx hb dX7_isTrue_4 rfl (lv_at hl 1 rfl) ?_
  refine r_callViR (ci := 6) (As := [.int (x)]) hx hb hml hown hts hK hA hs (3) (by omega) he30 rfl rfl (c_X6_holds l G hSt0 (x)) (cwV 1 hts (tbV w_ml_RX7_50 w_im_yX6_holds w_se_yX6_holds w_ini_RX6 w_cd_yX6_holds) rfl rfl rfl (by decide +kernel) ⟨Nat.le_of_ble_eq_true rfl, Nat.le_of_ble_eq_true rfl⟩) rfl hl.1 rfl (Nat.le_of_ble_eq_true rfl) dX7_isTrue_5 ⟨Nat.zero_le _, Nat.zero_le _⟩ (fun H locs hs => ?_)
  refine lv_if_eq (tgt := 26) hx hb dX7_isTrue_8 (by decide) (fun c8 => ?_) (fun c8 => ?_)
  · skip
    refine lv_iconst (v := (-1)) hx hb dX7_isTrue_26 (by decide) ?_
    refine r_iret (v := (-1)) (mc := 0) (ms := 0) hx hb hr hlk hs (Nat.le_refl _) (Nat.le_refl _) dX7_isTrue_27 hQ ?_
    exact fx_same hW (by rw [fTrue, if_neg (by rw [b2i_0 c8]; decide)]) rfl rfl
  · skip
    obtain ⟨k, hk0, hk1, hk2⟩ := holds_ex (b2i_1 c8)
    have hHk := b2i_1 c8
    subst hk0
    refine lv_aload_n hx hb dX7_isTrue_11 rfl (lv_at hl 0 rfl) ?_
    refine r_get (ci := 7) (v := .ref (ad 3)) (C := RX7) (T := TX7) (N := 4) hx hb hts inlX7 hown hK hs (0) (by omega) he00 rfl 0 (by decide) (hts _ w_fl_RX7_13) rfl dX7_isTrue_12 ?_
    refine lv_iload_n hx hb dX7_isTrue_15 rfl (lv_at hl 1 rfl) ?_
    refine lv_iload_n hx hb dX7_isTrue_16 rfl (lv_at hl 2 rfl) ?_
    obtain ⟨q1, q2, q3, q4, ⟨TT, q5⟩, q6⟩ := id hSt0
    refine r_callVi (ci := 6) (As := [.int (nI k), .int (y)]) hx hb hml hown hts hK hA hs (3) (by omega) he30 rfl rfl (c_X6_holdsWhen l G (T := TT) ⟨q1, q2, q3, q4, q5, q6⟩ (f1 := k) ⟨hk1, hk2⟩ y) (cwV 2 hts (tbV w_ml_RX7_94 w_im_yX6_holdsWhen w_se_yX6_holdsWhen w_ini_RX6 w_cd_yX6_holdsWhen) rfl rfl rfl (by decide +kernel) ⟨Nat.le_of_ble_eq_true rfl, Nat.le_of_ble_eq_true rfl⟩) rfl hl.1 rfl (Nat.le_of_ble_eq_true rfl) dX7_isTrue_17 ⟨Nat.le_refl _, Nat.le_refl _⟩ (fun r_4 ad_1 en_2 H locs hp_3 hs => ?_)
    obtain ⟨hr1, hs1, hf1⟩ := hp_3
    obtain ⟨hW1, hF1⟩ := Ps_tr hW hs1 hf1
    rw [hr1]
    refine r_callSiR (As := [.int (b2i (tvT s0.1 y k k))]) hx hb hml hown hts hK hA hs (c_X7_asAnswer l G (tvT s0.1 y k k)) (va_cwS 1 hts (tbS w_ml_RX7_84 w_sta_yX7_asAnswer w_ini_RX7 w_cd_yX7_asAnswer) rfl rfl rfl (by decide +kernel) ⟨Nat.le_of_ble_eq_true rfl, Nat.le_of_ble_eq_true rfl⟩) rfl hl.1 rfl (Nat.le_of_ble_eq_true rfl) dX7_isTrue_20 ⟨Nat.le_refl _, Nat.le_refl _⟩ (fun H locs hs => ?_)
    refine lv_goto (tgt := 27) hx hb dX7_isTrue_23 (by decide) ?_
    refine r_iret (v := b2i (tvT s0.1 y k k)) (mc := 0) (ms := 0) hx hb hr hlk hs (Nat.le_refl _) (Nat.le_refl _) dX7_isTrue_27 hQ ?_
    exact ⟨by rw [fTrue, if_pos hHk, tN_nI (by omega)], ⟨_, _, _, _, _, _, _, _, _, _, hW1, by omega, by omega⟩, hF1⟩

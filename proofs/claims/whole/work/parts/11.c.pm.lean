def aLam (a t : Nat) : Act := fun s => match aImp a (nG s.2 t) s with
  | (some g, s1) => aNode (1, g, t, 0, 0) s1
  | (none, s1) => (none, s1)
def aApp (t u : Nat) : Act := fun s => aNode (2, sR s.1 (nG s.2 t), t, u, 0) s
theorem aLam_some {a t g : Nat} {s : NSt} (h : (aImp a (nG s.2 t) s).1 = some g) : aLam a t s = aNode (1, g, t, 0, 0) (sMake s.1 (4, a, nG s.2 t, 0, 0), s.2) := by
  unfold aLam
  rw [← aImp_st]
  generalize aImp a (nG s.2 t) s = q at h
  obtain ⟨q1, q2⟩ := q
  cases h
  rfl
theorem aLam_none {a t : Nat} {s : NSt} (h : (aImp a (nG s.2 t) s).1 = none) : aLam a t s = (none, (sMake s.1 (4, a, nG s.2 t, 0, 0), s.2)) := by
  unfold aLam
  rw [← aImp_st]
  generalize aImp a (nG s.2 t) s = q at h
  obtain ⟨q1, q2⟩ := q
  cases h
  rfl
theorem sMake_len (ss : List Row) (r : Row) : ss.length ≤ (sMake ss r).length := by
  unfold sMake kApp
  split
  · split
    · simp
    · exact Nat.le_refl _
  · exact Nat.le_refl _
theorem sMake_le {ss : List Row} {r : Row} (h : ss.length ≤ 600) : (sMake ss r).length ≤ 600 := by
  unfold sMake kApp
  split
  · split
    · simp; omega
    · exact h
  · exact h
theorem ok_imp {L a b : Nat} (ha : 1 ≤ a ∧ a ≤ L) (hb : 1 ≤ b ∧ b ≤ L) : stOK (L + 1) (4, a, b, 0, 0) := by
  refine ⟨rfl, Or.inr (Or.inr ?_)⟩
  simp only
  omega
theorem ok_lam {L M g t : Nat} (hg : 1 ≤ g ∧ g ≤ L) (ht : 1 ≤ t ∧ t ≤ M) : ndOK L (M + 1) (1, g, t, 0, 0) := ⟨by show 1 ≤ 9; decide, hg.1, hg.2, by simp [rPartL]; omega, by simp [rPartL], by simp [rPartL]⟩
theorem ok_1 {L M tg g t : Nat} (h9 : tg ≤ 9 ∧ rPartL.getD tg 0 = 1) (hg : 1 ≤ g ∧ g ≤ L) (ht : 1 ≤ t ∧ t ≤ M) : ndOK L (M + 1) (tg, g, t, 0, 0) := by
  refine ⟨h9.1, hg.1, hg.2, ?_, ?_, ?_⟩
  · show if 1 ≤ rPartL.getD tg 0 then _ else _
    rw [h9.2, if_pos (by decide)]; simp only; omega
  · show if 2 ≤ rPartL.getD tg 0 then _ else _
    rw [h9.2, if_neg (by decide)]
  · show if 3 ≤ rPartL.getD tg 0 then _ else _
    rw [h9.2, if_neg (by decide)]
theorem ok_app {L M g t u : Nat} (h1 : 1 ≤ g) (h2 : g ≤ L) (ht : 1 ≤ t ∧ t ≤ M) (hu : 1 ≤ u ∧ u ≤ M) : ndOK L (M + 1) (2, g, t, u, 0) := ⟨by show 2 ≤ 9; decide, h1, h2, by simp [rPartL]; omega, by simp [rPartL]; omega, by simp [rPartL]⟩
theorem sR_le {ss : List Row} (h : ssOK ss) (k : Nat) : sR ss k ≤ ss.length := by
  by_cases c : 1 ≤ k ∧ k ≤ ss.length
  · have q := h.2.1 k c.1 c.2
    unfold sR
    obtain ⟨-, q | q | q⟩ := q <;> omega
  · have e : kAt ss k = (0, 0, 0, 0, 0) := by
      by_cases h0 : k = 0
      · rw [h0]; rfl
      · exact kAt_out (by omega)
    unfold sR; rw [e]; exact Nat.zero_le _
theorem aImp_val {a b g : Nat} {s : NSt} (h6 : s.1.length ≤ 600) (h : (aImp a b s).1 = some g) : 1 ≤ g ∧ g ≤ (sMake s.1 (4, a, b, 0, 0)).length ∧ g ≤ 600 := by
  have hl := kFU_le s.1 (4, a, b, 0, 0) s.1.length
  unfold aImp at h
  unfold sMake kApp
  by_cases c : kFind s.1 (4, a, b, 0, 0) = 0
  · rw [if_pos c] at h ⊢
    by_cases d : s.1.length < 600
    · rw [if_pos d] at h ⊢
      injection h with h
      simp; omega
    · rw [if_neg d] at h; cases h
  · rw [if_neg c] at h ⊢
    injection h with h
    have : kFind s.1 (4, a, b, 0, 0) ≤ s.1.length := hl
    omega
theorem imp_some {a b : Nat} {s : NSt} (hs : sGood s) (h6 : s.1.length ≤ 600) (h : decide (sMakeR s.1 (4, a, b, 0, 0) = (-3)) = false) : ∃ g, (aImp a b s).1 = some g ∧ sMakeR s.1 (4, a, b, 0, 0) = nI g ∧ (1 ≤ g ∧ g ≤ (sMake s.1 (4, a, b, 0, 0)).length) ∧ g ≤ 600 := by
  rw [← aImp_r] at h ⊢
  cases e : (aImp a b s).1 with
  | none => rw [e] at h; exact absurd h (by decide)
  | some g => exact ⟨g, rfl, rfl, ⟨(aImp_val h6 e).1, (aImp_val h6 e).2.1⟩, (aImp_val h6 e).2.2⟩
theorem imp_none {a b : Nat} {s : NSt} (h : decide (sMakeR s.1 (4, a, b, 0, 0) = (-3)) = true) : sMakeR s.1 (4, a, b, 0, 0) = (-3) := of_decide_eq_true h
theorem lam_c1 (a t : Nat) (s : NSt) : sMC s.1 (4, a, nG s.2 t, 0, 0) ≤ aC (aLam a t) s ∧ sMS s.1 (4, a, nG s.2 t, 0, 0) ≤ aS (aLam a t) s := by
  have h := aImp_c a (nG s.2 t) s
  rw [← h.1, ← h.2]
  unfold aC aS
  rw [aImp_st]
  cases e : (aImp a (nG s.2 t) s).1 with
  | none => rw [aLam_none e]; exact ⟨Nat.le_refl _, Nat.le_refl _⟩
  | some g =>
    rw [aLam_some e, aNode_st]
    have q : sExt (sMake s.1 (4, a, nG s.2 t, 0, 0), s.2) (sMake s.1 (4, a, nG s.2 t, 0, 0), nMake s.2 (1, g, t, 0, 0)) := by
      refine ⟨⟨[], by simp⟩, ?_⟩
      unfold nMake kApp
      split
      · split
        · exact ⟨_, rfl⟩
        · exact ⟨[], by simp⟩
      · exact ⟨[], by simp⟩
    have r := sExt_room q
    constructor <;> simp only <;> omega
theorem lam_c {a t g : Nat} {s : NSt} (h : (aImp a (nG s.2 t) s).1 = some g) : aC (aLam a t) s = sMC s.1 (4, a, nG s.2 t, 0, 0) + nMC s.2 (1, g, t, 0, 0) ∧ aS (aLam a t) s = sMS s.1 (4, a, nG s.2 t, 0, 0) + nMS s.2 (1, g, t, 0, 0) := by
  have h1 := aImp_c a (nG s.2 t) s
  have h2 := aNode_c (1, g, t, 0, 0) (sMake s.1 (4, a, nG s.2 t, 0, 0), s.2)
  rw [← h1.1, ← h1.2, ← h2.1, ← h2.2]
  unfold aC aS
  rw [aLam_some h, aImp_st, aNode_st]
  have q1 : sExt s (sMake s.1 (4, a, nG s.2 t, 0, 0), s.2) := by
    refine ⟨?_, ⟨[], by simp⟩⟩
    unfold sMake kApp
    split
    · split
      · exact ⟨_, rfl⟩
      · exact ⟨[], by simp⟩
    · exact ⟨[], by simp⟩
  have q2 : sExt (sMake s.1 (4, a, nG s.2 t, 0, 0), s.2) (sMake s.1 (4, a, nG s.2 t, 0, 0), nMake s.2 (1, g, t, 0, 0)) := by
    refine ⟨⟨[], by simp⟩, ?_⟩
    unfold nMake kApp
    split
    · split
      · exact ⟨_, rfl⟩
      · exact ⟨[], by simp⟩
    · exact ⟨[], by simp⟩
  have r1 := sExt_room q1
  have r2 := sExt_room q2
  constructor <;> simp only <;> omega
theorem lam_end {G : rG} {n : Nat} {ad ad1 : Nat → Nat} {en en1 : Nat → va_E} {s : NSt} {jd RR SL : Nat} {S : Nat → Nat → Bool} {sf : Nat → Int32} {a t g : Nat} (hg : (aImp a (nG s.2 t) s).1 = some g) (h : PmW G n ad1 en1 (sMake s.1 (4, a, nG s.2 t, 0, 0), nMake s.2 (1, g, t, 0, 0)) jd RR SL S sf (decide (nMakeR s.2 (1, g, t, 0, 0) = (-3)))) (hf : Fr n pmS pmA ad en ad1 en1) (h8 : s.2.length ≤ 8000) : aPost G n jd RR SL S sf (aLam a t) s ad en (nMakeR s.2 (1, g, t, 0, 0)) ad1 en1 := by
  have q := act_node (s := (sMake s.1 (4, a, nG s.2 t, 0, 0), s.2)) (r := (1, g, t, 0, 0)) h hf h8
  unfold aPost at q ⊢
  rw [aLam_some hg]
  exact q
theorem lam_no {G : rG} {n : Nat} {ad ad1 : Nat → Nat} {en en1 : Nat → va_E} {s : NSt} {jd RR SL : Nat} {S : Nat → Nat → Bool} {sf : Nat → Int32} {a t : Nat} (h6 : s.1.length ≤ 600) (hn : sMakeR s.1 (4, a, nG s.2 t, 0, 0) = (-3)) (h : PmW G n ad1 en1 (sMake s.1 (4, a, nG s.2 t, 0, 0), s.2) jd RR SL S sf (decide (sMakeR s.1 (4, a, nG s.2 t, 0, 0) = (-3)))) (hf : Fr n pmS pmA ad en ad1 en1) : aPost G n jd RR SL S sf (aLam a t) s ad en (-3) ad1 en1 := by
  cases e : (aImp a (nG s.2 t) s).1 with
  | some g =>
    rw [← aImp_r, e] at hn
    have q := aR_none (o := some g) (fun k hk => by cases hk; have := (aImp_val h6 e).2.2; omega)
    rw [dt hn] at q
    cases q
  | none =>
    unfold aPost
    rw [aLam_none e]
    rw [dt hn] at h
    exact ⟨rfl, h, hf⟩
theorem app_c {t u : Nat} {s : NSt} : aC (aApp t u) s = nMC s.2 (2, sR s.1 (nG s.2 t), t, u, 0) ∧ aS (aApp t u) s = nMS s.2 (2, sR s.1 (nG s.2 t), t, u, 0) := aNode_c _ s
theorem app_end {G : rG} {n : Nat} {ad ad1 : Nat → Nat} {en en1 : Nat → va_E} {s : NSt} {jd RR SL : Nat} {S : Nat → Nat → Bool} {sf : Nat → Int32} {t u : Nat} (h : PmW G n ad1 en1 (s.1, nMake s.2 (2, sR s.1 (nG s.2 t), t, u, 0)) jd RR SL S sf (decide (nMakeR s.2 (2, sR s.1 (nG s.2 t), t, u, 0) = (-3)))) (hf : Fr n pmS pmA ad en ad1 en1) (h8 : s.2.length ≤ 8000) : aPost G n jd RR SL S sf (aApp t u) s ad en (nMakeR s.2 (2, sR s.1 (nG s.2 t), t, u, 0)) ad1 en1 := act_node h hf h8
set_option maxHeartbeats 4000000 in
set_option maxRecDepth 100000 in
theorem c_X3_implication (l : Launch) (G : rG) {n : Nat} {ad : Nat → Nat} {en : Nat → va_E} {s0 : NSt} {jd RR SL : Nat} {S : Nat → Nat → Bool} {sf : Nat → Int32} {fl : Bool} (hW : PmW G n ad en s0 jd RR SL S sf fl) {a b : Nat} (hab : a < 2 ^ 31 ∧ b < 2 ^ 31) : CI l G yX3_implication uX3_implication (3) (76) (0) (0) [.ref (ad 21), .int (nI a), .int (nI b)] (n) (n) ad en (roV ad en (nI (kFind s0.1 (4, a, b, 0, 0)))) := by
  intro sz
  refine rMet (Qc := qI G (n) (roV ad en (nI (kFind s0.1 (4, a, b, 0, 0))))) (cc := cX3_implication) (maxL := 3) (ret := (some .int)) (by decide) rfl (Nat.le_of_ble_eq_true rfl) ?_
  intro pP eE sS mM aA bB tT cC ls A Q hc hK hsz hA hs hl hQ
  obtain ⟨hx, hb, hr, hts, hown, hlk, hnm, hml⟩ := hc
  have hl : lv_has ls 3 [(0, .ref (ad 21)), (1, .int (nI a)), (2, .int (nI b))] := hl
  obtain ⟨h0, hd0, hO0, hn0, he210⟩ := id hW
  obtain ⟨fst0, hest0⟩ : ∃ fs, en 3 = .inr (6, fs) := ⟨_, h0.2.1⟩
  obtain ⟨fnd0, hend0⟩ : ∃ fs, en 11 = .inr (2, fs) := ⟨_, hd0.2.1⟩
  have h6 := h0.2.2.2.2.2.1
  have h8 := hO0.1.1
  refine lv_aload_n hx hb dX3_implication_0 rfl (lv_at hl 0 rfl) ?_
  refine r_get (ci := 3) (v := .ref (ad 3)) (C := RX3) (T := TX3) (N := 4) hx hb hts inlX3 hown hK hs (21) (by omega) he210 rfl 0 (by decide) (hts _ w_fl_RX3_15) rfl dX3_implication_1 ?_
  refine lv_iconst (v := 4) hx hb dX3_implication_4 (by decide) ?_
  refine lv_iload_n hx hb dX3_implication_5 rfl (lv_at hl 1 rfl) ?_
  refine lv_iload_n hx hb dX3_implication_6 rfl (lv_at hl 2 rfl) ?_
  refine r_callViR (ci := 6) (As := [.int (4), .int (nI a), .int (nI b)]) hx hb hml hown hts hK hA hs (3) (by omega) hest0 rfl rfl (c_X6_find l G h0 (s1 := 4) (l1 := a) (r1 := b) (by omega)) (cwV 3 hts (tbV w_ml_RX3_89 w_im_yX6_find w_se_yX6_find w_ini_RX6 w_cd_yX6_find) rfl rfl rfl (by decide +kernel) ⟨Nat.le_of_ble_eq_true rfl, Nat.le_of_ble_eq_true rfl⟩) rfl hl.1 rfl (Nat.le_of_ble_eq_true rfl) dX3_implication_7 ⟨Nat.zero_le _, Nat.zero_le _⟩ (fun H locs hs => ?_)
  refine r_iret (v := nI (kFind s0.1 (4, a, b, 0, 0))) (mc := 0) (ms := 0) hx hb hr hlk hs (Nat.le_refl _) (Nat.le_refl _) dX3_implication_10 hQ ?_
  exact roV.rf rfl

set_option maxHeartbeats 4000000 in
set_option maxRecDepth 100000 in
theorem c_X3_lambda_f (l : Launch) (G : rG) {n : Nat} {ad : Nat → Nat} {en : Nat → va_E} {s0 : NSt} {jd RR SL : Nat} {S : Nat → Nat → Bool} {sf : Nat → Int32} (hW : PmW G n ad en s0 jd RR SL S sf false) {a t : Nat} (ha : 1 ≤ a ∧ a ≤ s0.1.length) (ht : 1 ≤ t ∧ t ≤ s0.2.length) : CI l G yX3_lambda uX3_lambda (4) (135) (aC (aLam a t) s0) (aS (aLam a t) s0) [.ref (ad 21), .int (nI a), .int (nI t)] (n) (n) ad en (aPost G n jd RR SL S sf (aLam a t) s0 ad en) := by
  intro sz
  refine rMet (Qc := qI G (n) (aPost G n jd RR SL S sf (aLam a t) s0 ad en)) (cc := cX3_lambda) (maxL := 4) (ret := (some .int)) (by decide) rfl (Nat.le_of_ble_eq_true rfl) ?_
  intro pP eE sS mM aA bB tT cC ls A Q hc hK hsz hA hs hl hQ
  obtain ⟨hx, hb, hr, hts, hown, hlk, hnm, hml⟩ := hc
  have hl : lv_has ls 4 [(0, .ref (ad 21)), (1, .int (nI a)), (2, .int (nI t))] := hl
  obtain ⟨h0, hd0, hO0, hn0, he210⟩ := id hW
  obtain ⟨fst0, hest0⟩ : ∃ fs, en 3 = .inr (6, fs) := ⟨_, h0.2.1⟩
  obtain ⟨fnd0, hend0⟩ : ∃ fs, en 11 = .inr (2, fs) := ⟨_, hd0.2.1⟩
  have h6 := h0.2.2.2.2.2.1
  have h8 := hO0.1.1
  have hgt := (part_lt hO0.1 ht).2.1
  have hsg : sGood s0 := ⟨h0.2.2.2.2.2, hO0.1⟩
  obtain ⟨hC1, hC2⟩ := lam_c1 a t s0
  refine lv_aload_n hx hb dX3_lambda_0 rfl (lv_at hl 0 rfl) ?_
  refine r_get (ci := 3) (v := .int (b2i false)) (C := RX3) (T := TX3) (N := 4) hx hb hts inlX3 hown hK hs (21) (by omega) he210 rfl 3 (by decide) (hts _ w_fl_RX3_9) rfl dX3_lambda_1 ?_
  refine lv_if_eq (tgt := 10) hx hb dX3_lambda_4 (by decide) (fun _ => ?_) (fun c4 => absurd (rfl) c4)
  refine lv_aload_n hx hb dX3_lambda_10 rfl (lv_at hl 0 rfl) ?_
  refine lv_aload_n hx hb dX3_lambda_11 rfl (lv_at hl 0 rfl) ?_
  refine r_get (ci := 3) (v := .ref (ad 3)) (C := RX3) (T := TX3) (N := 4) hx hb hts inlX3 hown hK hs (21) (by omega) he210 rfl 0 (by decide) (hts _ w_fl_RX3_15) rfl dX3_lambda_12 ?_
  refine lv_iconst (v := 4) hx hb dX3_lambda_15 (by decide) ?_
  refine lv_iload_n hx hb dX3_lambda_16 rfl (lv_at hl 1 rfl) ?_
  refine lv_aload_n hx hb dX3_lambda_17 rfl (lv_at hl 0 rfl) ?_
  refine r_get (ci := 3) (v := .ref (ad 11)) (C := RX3) (T := TX3) (N := 4) hx hb hts inlX3 hown hK hs (21) (by omega) he210 rfl 1 (by decide) (hts _ w_fl_RX3_19) rfl dX3_lambda_18 ?_
  refine lv_iload_n hx hb dX3_lambda_21 rfl (lv_at hl 2 rfl) ?_
  refine r_callViR (ci := 2) (As := [.int (nI t)]) hx hb hml hown hts hK hA hs (11) (by omega) hend0 rfl rfl (c_X2_goalOfN l G hd0 t (by omega)) (cwV 1 hts (tbV w_ml_RX3_99 w_im_yX2_goalOf w_se_yX2_goalOf w_ini_RX2 w_cd_yX2_goalOf) rfl rfl rfl (by decide +kernel) ⟨Nat.le_of_ble_eq_true rfl, Nat.le_of_ble_eq_true rfl⟩) rfl hl.1 rfl (Nat.le_of_ble_eq_true rfl) dX3_lambda_22 ⟨Nat.zero_le _, Nat.zero_le _⟩ (fun H locs hs => ?_)
  refine r_callVi (ci := 6) (As := [.int (4), .int (nI a), .int (nI (nG s0.2 t))]) hx hb hml hown hts hK hA hs (3) (by omega) hest0 rfl rfl (c_X6_make l G h0 (s1 := 4) (l1 := a) (r1 := nG s0.2 t) (ok_imp ha hgt)) (cwV 3 hts (tbV w_ml_RX3_100 w_im_yX6_make w_se_yX6_make w_ini_RX6 w_cd_yX6_make) rfl rfl rfl (by decide +kernel) ⟨Nat.le_of_ble_eq_true rfl, Nat.le_of_ble_eq_true rfl⟩) rfl hl.1 rfl (Nat.le_of_ble_eq_true rfl) dX3_lambda_25 ⟨by show _ ≤ aC (aLam a t) s0; omega, by show _ ≤ aS (aLam a t) s0; omega⟩ (fun r_4 ad_1 en_2 H locs hp_3 hs => ?_)
  obtain ⟨hru_5, hsu_5, hfu_5⟩ := hp_3
  have hgu_5 := Fr_sm hfu_5
  have hWu_5 := PmW_stmt hW hsu_5 hfu_5
  rw [hru_5]
  obtain ⟨hp_6, hdp_6, hOp_6, hnp_6, he21p_6⟩ := id hWu_5
  obtain ⟨fstp_6, hestp_6⟩ : ∃ fs, en_2 3 = .inr (6, fs) := ⟨_, hp_6.2.1⟩
  obtain ⟨fndp_6, hendp_6⟩ : ∃ fs, en_2 11 = .inr (2, fs) := ⟨_, hdp_6.2.1⟩
  have hp_6 : StAt G n ad_1 en_2 (sMake s0.1 (4, a, nG s0.2 t, 0, 0)) := hp_6
  have hdp_6 : NdAt G n ad_1 en_2 (s0.2) jd RR SL S sf := hdp_6
  have hOp_6 : NdOK (sMake s0.1 (4, a, nG s0.2 t, 0, 0)) (s0.2) jd RR SL S sf := hOp_6
  have frp_6 := Fr_tr Fr_rf hgu_5
  have hl : lv_has ls 4 [(0, .ref (ad_1 21)), (1, .int (nI a)), (2, .int (nI t))] := by rw [hgu_5.1 21 (by omega) (by unfold pmA; omega)]; exact hl
  refine r_st (st2 := [.int (sMakeR s0.1 (4, a, nG s0.2 t, 0, 0)), .ref (ad_1 21)]) (by rw [hgu_5.1 21 (by omega) (by unfold pmA; omega)]) ?_
  refine r_callVi (ci := 3) (As := [.int (sMakeR s0.1 (4, a, nG s0.2 t, 0, 0))]) hx hb hml hown hts hK hA hs (21) (by omega) he21p_6 rfl rfl (c_X3_noted l G hWu_5 (sMakeR s0.1 (4, a, nG s0.2 t, 0, 0))) (cwV 1 hts (tbV w_ml_RX3_96 w_im_yX3_noted w_se_yX3_noted w_ini_RX3 w_cd_yX3_noted) rfl rfl rfl (by decide +kernel) ⟨Nat.le_of_ble_eq_true rfl, Nat.le_of_ble_eq_true rfl⟩) rfl hl.1 rfl (Nat.le_of_ble_eq_true rfl) dX3_lambda_28 ⟨by show _ ≤ aC (aLam a t) s0; omega, by show _ ≤ aS (aLam a t) s0; omega⟩ (fun r_10 ad_7 en_8 H locs hp_9 hs => ?_)
  obtain ⟨hrn_11, hWn_11, hfn_11⟩ := hp_9
  have hgn_11 := Fr_21 hfn_11
  rw [hrn_11]
  obtain ⟨hp_12, hdp_12, hOp_12, hnp_12, he21p_12⟩ := id hWn_11
  obtain ⟨fstp_12, hestp_12⟩ : ∃ fs, en_8 3 = .inr (6, fs) := ⟨_, hp_12.2.1⟩
  obtain ⟨fndp_12, hendp_12⟩ : ∃ fs, en_8 11 = .inr (2, fs) := ⟨_, hdp_12.2.1⟩
  have hp_12 : StAt G n ad_7 en_8 (sMake s0.1 (4, a, nG s0.2 t, 0, 0)) := hp_12
  have hdp_12 : NdAt G n ad_7 en_8 (s0.2) jd RR SL S sf := hdp_12
  have hOp_12 : NdOK (sMake s0.1 (4, a, nG s0.2 t, 0, 0)) (s0.2) jd RR SL S sf := hOp_12
  have frp_12 := Fr_tr frp_6 hgn_11
  have hl : lv_has ls 4 [(0, .ref (ad_7 21)), (1, .int (nI a)), (2, .int (nI t))] := by rw [hgn_11.1 21 (by omega) (by unfold pmA; omega)]; exact hl
  refine lv_istore_n (lv' := [(3, .int (sMakeR s0.1 (4, a, nG s0.2 t, 0, 0))), (0, .ref (ad_7 21)), (1, .int (nI a)), (2, .int (nI t))]) hx hb dX3_lambda_31 rfl hl (by decide) rfl (fun ls hl => ?_)
  refine lv_aload_n hx hb dX3_lambda_32 rfl (lv_at hl 1 rfl) ?_
  refine r_get (ci := 3) (v := .int (b2i (decide (sMakeR s0.1 (4, a, nG s0.2 t, 0, 0) = (-3))))) (C := RX3) (T := TX3) (N := 4) hx hb hts inlX3 hown hK hs (21) (by omega) he21p_12 rfl 3 (by decide) (hts _ w_fl_RX3_9) rfl dX3_lambda_33 ?_
  refine lv_if_eq (tgt := 44) hx hb dX3_lambda_36 (by decide) (fun c36 => ?_) (fun c36 => ?_)
  · skip
    obtain ⟨g, hgi, hgr, hg1, hg2⟩ := imp_some hsg (by omega) (b2i_0 c36)
    rw [hgr] at hl
    have hC := lam_c hgi
    refine lv_aload_n hx hb dX3_lambda_44 rfl (lv_at hl 1 rfl) ?_
    refine lv_aload_n hx hb dX3_lambda_45 rfl (lv_at hl 1 rfl) ?_
    refine r_get (ci := 3) (v := .ref (ad_7 11)) (C := RX3) (T := TX3) (N := 4) hx hb hts inlX3 hown hK hs (21) (by omega) he21p_12 rfl 1 (by decide) (hts _ w_fl_RX3_19) rfl dX3_lambda_46 ?_
    refine lv_iconst (v := 1) hx hb dX3_lambda_49 (by decide) ?_
    refine lv_iload_n hx hb dX3_lambda_50 rfl (lv_at hl 0 rfl) ?_
    refine lv_iload_n hx hb dX3_lambda_51 rfl (lv_at hl 3 rfl) ?_
    refine lv_iconst (v := 0) hx hb dX3_lambda_52 (by decide) ?_
    refine lv_iconst (v := 0) hx hb dX3_lambda_53 (by decide) ?_
    refine r_callVi (ci := 2) (As := [.int (1), .int (nI g), .int (nI t), .int (0), .int (0)]) hx hb hml hown hts hK hA hs (11) (by omega) hendp_12 rfl rfl (c_X2_make l G hdp_12 hOp_12 (sMake_le h6) (a := 1) (b := g) (c1 := t) (d := 0) (e1 := 0) (ok_lam hg1 ht)) (cwV 5 hts (tbV w_ml_RX3_93 w_im_yX2_make w_se_yX2_make w_ini_RX2 w_cd_yX2_make) rfl rfl rfl (by decide +kernel) ⟨Nat.le_of_ble_eq_true rfl, Nat.le_of_ble_eq_true rfl⟩) rfl hl.1 rfl (Nat.le_of_ble_eq_true rfl) dX3_lambda_54 ⟨by show _ ≤ aC (aLam a t) s0; omega, by show _ ≤ aS (aLam a t) s0; omega⟩ (fun r_16 ad_13 en_14 H locs hp_15 hs => ?_)
    obtain ⟨hrm_17, hdm_17, hOm_17, hfm_17⟩ := hp_15
    have hgm_17 := Fr_nd hfm_17
    have hWm_17 := PmW_node hWn_11 hdm_17 hOm_17 hfm_17
    rw [hrm_17]
    obtain ⟨hp_18, hdp_18, hOp_18, hnp_18, he21p_18⟩ := id hWm_17
    obtain ⟨fstp_18, hestp_18⟩ : ∃ fs, en_14 3 = .inr (6, fs) := ⟨_, hp_18.2.1⟩
    obtain ⟨fndp_18, hendp_18⟩ : ∃ fs, en_14 11 = .inr (2, fs) := ⟨_, hdp_18.2.1⟩
    have hp_18 : StAt G n ad_13 en_14 (sMake s0.1 (4, a, nG s0.2 t, 0, 0)) := hp_18
    have hdp_18 : NdAt G n ad_13 en_14 (nMake s0.2 (1, g, t, 0, 0)) jd RR SL S sf := hdp_18
    have hOp_18 : NdOK (sMake s0.1 (4, a, nG s0.2 t, 0, 0)) (nMake s0.2 (1, g, t, 0, 0)) jd RR SL S sf := hOp_18
    have frp_18 := Fr_tr frp_12 hgm_17
    have hl : lv_has ls 4 [(3, .int (nI g)), (0, .ref (ad_13 21)), (1, .int (nI a)), (2, .int (nI t))] := by rw [hgm_17.1 21 (by omega) (by unfold pmA; omega)]; exact hl
    refine r_st (st2 := [.int (nMakeR s0.2 (1, g, t, 0, 0)), .ref (ad_13 21)]) (by rw [hgm_17.1 21 (by omega) (by unfold pmA; omega)]) ?_
    refine r_callVi (ci := 3) (As := [.int (nMakeR s0.2 (1, g, t, 0, 0))]) hx hb hml hown hts hK hA hs (21) (by omega) he21p_18 rfl rfl (c_X3_noted l G hWm_17 (nMakeR s0.2 (1, g, t, 0, 0))) (cwV 1 hts (tbV w_ml_RX3_96 w_im_yX3_noted w_se_yX3_noted w_ini_RX3 w_cd_yX3_noted) rfl rfl rfl (by decide +kernel) ⟨Nat.le_of_ble_eq_true rfl, Nat.le_of_ble_eq_true rfl⟩) rfl hl.1 rfl (Nat.le_of_ble_eq_true rfl) dX3_lambda_57 ⟨by show _ ≤ aC (aLam a t) s0; omega, by show _ ≤ aS (aLam a t) s0; omega⟩ (fun r_22 ad_19 en_20 H locs hp_21 hs => ?_)
    obtain ⟨hrn_23, hWn_23, hfn_23⟩ := hp_21
    have hgn_23 := Fr_21 hfn_23
    rw [hrn_23]
    obtain ⟨hp_24, hdp_24, hOp_24, hnp_24, he21p_24⟩ := id hWn_23
    obtain ⟨fstp_24, hestp_24⟩ : ∃ fs, en_20 3 = .inr (6, fs) := ⟨_, hp_24.2.1⟩
    obtain ⟨fndp_24, hendp_24⟩ : ∃ fs, en_20 11 = .inr (2, fs) := ⟨_, hdp_24.2.1⟩
    have hp_24 : StAt G n ad_19 en_20 (sMake s0.1 (4, a, nG s0.2 t, 0, 0)) := hp_24
    have hdp_24 : NdAt G n ad_19 en_20 (nMake s0.2 (1, g, t, 0, 0)) jd RR SL S sf := hdp_24
    have hOp_24 : NdOK (sMake s0.1 (4, a, nG s0.2 t, 0, 0)) (nMake s0.2 (1, g, t, 0, 0)) jd RR SL S sf := hOp_24
    have frp_24 := Fr_tr frp_18 hgn_23
    have hl : lv_has ls 4 [(3, .int (nI g)), (0, .ref (ad_19 21)), (1, .int (nI a)), (2, .int (nI t))] := by rw [hgn_23.1 21 (by omega) (by unfold pmA; omega)]; exact hl
    refine r_iret (v := nMakeR s0.2 (1, g, t, 0, 0)) (mc := aC (aLam a t) s0) (ms := aS (aLam a t) s0) hx hb hr hlk hs (by omega) (by omega) dX3_lambda_60 hQ ?_
    exact lam_end hgi hWn_23 frp_24 h8
  · skip
    have hno := imp_none (b2i_1 c36)
    refine lv_bipush (v := (-3)) hx hb dX3_lambda_39 (by decide) ?_
    refine lv_goto (tgt := 60) hx hb dX3_lambda_41 (by decide) ?_
    refine r_iret (v := (-3)) (mc := aC (aLam a t) s0) (ms := aS (aLam a t) s0) hx hb hr hlk hs (by omega) (by omega) dX3_lambda_60 hQ ?_
    exact lam_no h6 hno hWn_11 frp_12

set_option maxHeartbeats 4000000 in
set_option maxRecDepth 100000 in
theorem c_X3_lambda_t (l : Launch) (G : rG) {n : Nat} {ad : Nat → Nat} {en : Nat → va_E} {s0 : NSt} {jd RR SL : Nat} {S : Nat → Nat → Bool} {sf : Nat → Int32} (hW : PmW G n ad en s0 jd RR SL S sf true) {x y : Int32} : CI l G yX3_lambda uX3_lambda (4) (135) (0) (0) [.ref (ad 21), .int (x), .int (y)] (n) (n) ad en (aPost G n jd RR SL S sf aStop s0 ad en) := by
  intro sz
  refine rMet (Qc := qI G (n) (aPost G n jd RR SL S sf aStop s0 ad en)) (cc := cX3_lambda) (maxL := 4) (ret := (some .int)) (by decide) rfl (Nat.le_of_ble_eq_true rfl) ?_
  intro pP eE sS mM aA bB tT cC ls A Q hc hK hsz hA hs hl hQ
  obtain ⟨hx, hb, hr, hts, hown, hlk, hnm, hml⟩ := hc
  have hl : lv_has ls 4 [(0, .ref (ad 21)), (1, .int (x)), (2, .int (y))] := hl
  obtain ⟨h0, hd0, hO0, hn0, he210⟩ := id hW
  obtain ⟨fst0, hest0⟩ : ∃ fs, en 3 = .inr (6, fs) := ⟨_, h0.2.1⟩
  obtain ⟨fnd0, hend0⟩ : ∃ fs, en 11 = .inr (2, fs) := ⟨_, hd0.2.1⟩
  have h6 := h0.2.2.2.2.2.1
  have h8 := hO0.1.1
  refine lv_aload_n hx hb dX3_lambda_0 rfl (lv_at hl 0 rfl) ?_
  refine r_get (ci := 3) (v := .int (b2i true)) (C := RX3) (T := TX3) (N := 4) hx hb hts inlX3 hown hK hs (21) (by omega) he210 rfl 3 (by decide) (hts _ w_fl_RX3_9) rfl dX3_lambda_1 ?_
  refine lv_if_eq (tgt := 10) hx hb dX3_lambda_4 (by decide) (fun c4 => absurd c4 (by decide)) (fun _ => ?_)
  refine lv_bipush (v := (-3)) hx hb dX3_lambda_7 (by decide) ?_
  refine r_iret (v := (-3)) (mc := 0) (ms := 0) hx hb hr hlk hs (Nat.le_refl _) (Nat.le_refl _) dX3_lambda_9 hQ ?_
  exact ⟨rfl, hW, Fr_rf⟩

set_option maxHeartbeats 4000000 in
set_option maxRecDepth 100000 in
theorem c_X3_apply_f (l : Launch) (G : rG) {n : Nat} {ad : Nat → Nat} {en : Nat → va_E} {s0 : NSt} {jd RR SL : Nat} {S : Nat → Nat → Bool} {sf : Nat → Int32} (hW : PmW G n ad en s0 jd RR SL S sf false) {t u : Nat} (ht : 1 ≤ t ∧ t ≤ s0.2.length) (hu : 1 ≤ u ∧ u ≤ s0.2.length) (hR : 1 ≤ sR s0.1 (nG s0.2 t)) : CI l G yX3_apply uX3_apply (4) (135) (aC (aApp t u) s0) (aS (aApp t u) s0) [.ref (ad 21), .int (nI t), .int (nI u)] (n) (n) ad en (aPost G n jd RR SL S sf (aApp t u) s0 ad en) := by
  intro sz
  refine rMet (Qc := qI G (n) (aPost G n jd RR SL S sf (aApp t u) s0 ad en)) (cc := cX3_apply) (maxL := 4) (ret := (some .int)) (by decide) rfl (Nat.le_of_ble_eq_true rfl) ?_
  intro pP eE sS mM aA bB tT cC ls A Q hc hK hsz hA hs hl hQ
  obtain ⟨hx, hb, hr, hts, hown, hlk, hnm, hml⟩ := hc
  have hl : lv_has ls 4 [(0, .ref (ad 21)), (1, .int (nI t)), (2, .int (nI u))] := hl
  obtain ⟨h0, hd0, hO0, hn0, he210⟩ := id hW
  obtain ⟨fst0, hest0⟩ : ∃ fs, en 3 = .inr (6, fs) := ⟨_, h0.2.1⟩
  obtain ⟨fnd0, hend0⟩ : ∃ fs, en 11 = .inr (2, fs) := ⟨_, hd0.2.1⟩
  have h6 := h0.2.2.2.2.2.1
  have h8 := hO0.1.1
  have hgt := (part_lt hO0.1 ht).2.1
  have hsg : sGood s0 := ⟨h0.2.2.2.2.2, hO0.1⟩
  have hRl := sR_le hsg.1 (nG s0.2 t)
  refine lv_aload_n hx hb dX3_apply_0 rfl (lv_at hl 0 rfl) ?_
  refine r_get (ci := 3) (v := .ref (ad 3)) (C := RX3) (T := TX3) (N := 4) hx hb hts inlX3 hown hK hs (21) (by omega) he210 rfl 0 (by decide) (hts _ w_fl_RX3_15) rfl dX3_apply_1 ?_
  refine lv_aload_n hx hb dX3_apply_4 rfl (lv_at hl 0 rfl) ?_
  refine r_get (ci := 3) (v := .ref (ad 11)) (C := RX3) (T := TX3) (N := 4) hx hb hts inlX3 hown hK hs (21) (by omega) he210 rfl 1 (by decide) (hts _ w_fl_RX3_19) rfl dX3_apply_5 ?_
  refine lv_iload_n hx hb dX3_apply_8 rfl (lv_at hl 1 rfl) ?_
  refine r_callViR (ci := 2) (As := [.int (nI t)]) hx hb hml hown hts hK hA hs (11) (by omega) hend0 rfl rfl (c_X2_goalOfN l G hd0 t (by omega)) (cwV 1 hts (tbV w_ml_RX3_99 w_im_yX2_goalOf w_se_yX2_goalOf w_ini_RX2 w_cd_yX2_goalOf) rfl rfl rfl (by decide +kernel) ⟨Nat.le_of_ble_eq_true rfl, Nat.le_of_ble_eq_true rfl⟩) rfl hl.1 rfl (Nat.le_of_ble_eq_true rfl) dX3_apply_9 ⟨Nat.zero_le _, Nat.zero_le _⟩ (fun H locs hs => ?_)
  refine r_callViR (ci := 6) (As := [.int (nI (nG s0.2 t))]) hx hb hml hown hts hK hA hs (3) (by omega) hest0 rfl rfl (c_X6_rightOfN l G h0 (nG s0.2 t) (by omega)) (cwV 1 hts (tbV w_ml_RX3_76 w_im_yX6_rightOf w_se_yX6_rightOf w_ini_RX6 w_cd_yX6_rightOf) rfl rfl rfl (by decide +kernel) ⟨Nat.le_of_ble_eq_true rfl, Nat.le_of_ble_eq_true rfl⟩) rfl hl.1 rfl (Nat.le_of_ble_eq_true rfl) dX3_apply_12 ⟨Nat.zero_le _, Nat.zero_le _⟩ (fun H locs hs => ?_)
  refine lv_istore_n (lv' := [(3, .int (nI (sR s0.1 (nG s0.2 t)))), (0, .ref (ad 21)), (1, .int (nI t)), (2, .int (nI u))]) hx hb dX3_apply_15 rfl hl (by decide) rfl (fun ls hl => ?_)
  refine lv_aload_n hx hb dX3_apply_16 rfl (lv_at hl 1 rfl) ?_
  refine r_get (ci := 3) (v := .int (b2i false)) (C := RX3) (T := TX3) (N := 4) hx hb hts inlX3 hown hK hs (21) (by omega) he210 rfl 3 (by decide) (hts _ w_fl_RX3_9) rfl dX3_apply_17 ?_
  refine lv_if_eq (tgt := 28) hx hb dX3_apply_20 (by decide) (fun _ => ?_) (fun c20 => absurd (rfl) c20)
  refine lv_aload_n hx hb dX3_apply_28 rfl (lv_at hl 1 rfl) ?_
  refine lv_aload_n hx hb dX3_apply_29 rfl (lv_at hl 1 rfl) ?_
  refine r_get (ci := 3) (v := .ref (ad 11)) (C := RX3) (T := TX3) (N := 4) hx hb hts inlX3 hown hK hs (21) (by omega) he210 rfl 1 (by decide) (hts _ w_fl_RX3_19) rfl dX3_apply_30 ?_
  refine lv_iconst (v := 2) hx hb dX3_apply_33 (by decide) ?_
  refine lv_iload_n hx hb dX3_apply_34 rfl (lv_at hl 0 rfl) ?_
  refine lv_iload_n hx hb dX3_apply_35 rfl (lv_at hl 2 rfl) ?_
  refine lv_iload_n hx hb dX3_apply_36 rfl (lv_at hl 3 rfl) ?_
  refine lv_iconst (v := 0) hx hb dX3_apply_37 (by decide) ?_
  refine r_callVi (ci := 2) (As := [.int (2), .int (nI (sR s0.1 (nG s0.2 t))), .int (nI t), .int (nI u), .int (0)]) hx hb hml hown hts hK hA hs (11) (by omega) hend0 rfl rfl (c_X2_make l G hd0 hO0 (h6) (a := 2) (b := sR s0.1 (nG s0.2 t)) (c1 := t) (d := u) (e1 := 0) (ok_app hR hRl ht hu)) (cwV 5 hts (tbV w_ml_RX3_93 w_im_yX2_make w_se_yX2_make w_ini_RX2 w_cd_yX2_make) rfl rfl rfl (by decide +kernel) ⟨Nat.le_of_ble_eq_true rfl, Nat.le_of_ble_eq_true rfl⟩) rfl hl.1 rfl (Nat.le_of_ble_eq_true rfl) dX3_apply_38 ⟨by show _ ≤ aC (aApp t u) s0; rw [app_c.1]; omega, by show _ ≤ aS (aApp t u) s0; rw [app_c.2]; omega⟩ (fun r_4 ad_1 en_2 H locs hp_3 hs => ?_)
  obtain ⟨hrm_5, hdm_5, hOm_5, hfm_5⟩ := hp_3
  have hgm_5 := Fr_nd hfm_5
  have hWm_5 := PmW_node hW hdm_5 hOm_5 hfm_5
  rw [hrm_5]
  obtain ⟨hp_6, hdp_6, hOp_6, hnp_6, he21p_6⟩ := id hWm_5
  obtain ⟨fstp_6, hestp_6⟩ : ∃ fs, en_2 3 = .inr (6, fs) := ⟨_, hp_6.2.1⟩
  obtain ⟨fndp_6, hendp_6⟩ : ∃ fs, en_2 11 = .inr (2, fs) := ⟨_, hdp_6.2.1⟩
  have hp_6 : StAt G n ad_1 en_2 (s0.1) := hp_6
  have hdp_6 : NdAt G n ad_1 en_2 (nMake s0.2 (2, sR s0.1 (nG s0.2 t), t, u, 0)) jd RR SL S sf := hdp_6
  have hOp_6 : NdOK (s0.1) (nMake s0.2 (2, sR s0.1 (nG s0.2 t), t, u, 0)) jd RR SL S sf := hOp_6
  have frp_6 := Fr_tr Fr_rf hgm_5
  have hl : lv_has ls 4 [(3, .int (nI (sR s0.1 (nG s0.2 t)))), (0, .ref (ad_1 21)), (1, .int (nI t)), (2, .int (nI u))] := by rw [hgm_5.1 21 (by omega) (by unfold pmA; omega)]; exact hl
  refine r_st (st2 := [.int (nMakeR s0.2 (2, sR s0.1 (nG s0.2 t), t, u, 0)), .ref (ad_1 21)]) (by rw [hgm_5.1 21 (by omega) (by unfold pmA; omega)]) ?_
  refine r_callVi (ci := 3) (As := [.int (nMakeR s0.2 (2, sR s0.1 (nG s0.2 t), t, u, 0))]) hx hb hml hown hts hK hA hs (21) (by omega) he21p_6 rfl rfl (c_X3_noted l G hWm_5 (nMakeR s0.2 (2, sR s0.1 (nG s0.2 t), t, u, 0))) (cwV 1 hts (tbV w_ml_RX3_96 w_im_yX3_noted w_se_yX3_noted w_ini_RX3 w_cd_yX3_noted) rfl rfl rfl (by decide +kernel) ⟨Nat.le_of_ble_eq_true rfl, Nat.le_of_ble_eq_true rfl⟩) rfl hl.1 rfl (Nat.le_of_ble_eq_true rfl) dX3_apply_41 ⟨by show _ ≤ aC (aApp t u) s0; rw [app_c.1]; omega, by show _ ≤ aS (aApp t u) s0; rw [app_c.2]; omega⟩ (fun r_10 ad_7 en_8 H locs hp_9 hs => ?_)
  obtain ⟨hrn_11, hWn_11, hfn_11⟩ := hp_9
  have hgn_11 := Fr_21 hfn_11
  rw [hrn_11]
  obtain ⟨hp_12, hdp_12, hOp_12, hnp_12, he21p_12⟩ := id hWn_11
  obtain ⟨fstp_12, hestp_12⟩ : ∃ fs, en_8 3 = .inr (6, fs) := ⟨_, hp_12.2.1⟩
  obtain ⟨fndp_12, hendp_12⟩ : ∃ fs, en_8 11 = .inr (2, fs) := ⟨_, hdp_12.2.1⟩
  have hp_12 : StAt G n ad_7 en_8 (s0.1) := hp_12
  have hdp_12 : NdAt G n ad_7 en_8 (nMake s0.2 (2, sR s0.1 (nG s0.2 t), t, u, 0)) jd RR SL S sf := hdp_12
  have hOp_12 : NdOK (s0.1) (nMake s0.2 (2, sR s0.1 (nG s0.2 t), t, u, 0)) jd RR SL S sf := hOp_12
  have frp_12 := Fr_tr frp_6 hgn_11
  have hl : lv_has ls 4 [(3, .int (nI (sR s0.1 (nG s0.2 t)))), (0, .ref (ad_7 21)), (1, .int (nI t)), (2, .int (nI u))] := by rw [hgn_11.1 21 (by omega) (by unfold pmA; omega)]; exact hl
  refine r_iret (v := nMakeR s0.2 (2, sR s0.1 (nG s0.2 t), t, u, 0)) (mc := aC (aApp t u) s0) (ms := aS (aApp t u) s0) hx hb hr hlk hs (by rw [app_c.1]; omega) (by rw [app_c.2]; omega) dX3_apply_44 hQ ?_
  exact app_end hWn_11 frp_12 h8

set_option maxHeartbeats 4000000 in
set_option maxRecDepth 100000 in
theorem c_X3_apply_t (l : Launch) (G : rG) {n : Nat} {ad : Nat → Nat} {en : Nat → va_E} {s0 : NSt} {jd RR SL : Nat} {S : Nat → Nat → Bool} {sf : Nat → Int32} (hW : PmW G n ad en s0 jd RR SL S sf true) {x y : Int32} : CI l G yX3_apply uX3_apply (4) (135) (0) (0) [.ref (ad 21), .int (x), .int (y)] (n) (n) ad en (aPost G n jd RR SL S sf aStop s0 ad en) := by
  intro sz
  refine rMet (Qc := qI G (n) (aPost G n jd RR SL S sf aStop s0 ad en)) (cc := cX3_apply) (maxL := 4) (ret := (some .int)) (by decide) rfl (Nat.le_of_ble_eq_true rfl) ?_
  intro pP eE sS mM aA bB tT cC ls A Q hc hK hsz hA hs hl hQ
  obtain ⟨hx, hb, hr, hts, hown, hlk, hnm, hml⟩ := hc
  have hl : lv_has ls 4 [(0, .ref (ad 21)), (1, .int (x)), (2, .int (y))] := hl
  obtain ⟨h0, hd0, hO0, hn0, he210⟩ := id hW
  obtain ⟨fst0, hest0⟩ : ∃ fs, en 3 = .inr (6, fs) := ⟨_, h0.2.1⟩
  obtain ⟨fnd0, hend0⟩ : ∃ fs, en 11 = .inr (2, fs) := ⟨_, hd0.2.1⟩
  have h6 := h0.2.2.2.2.2.1
  have h8 := hO0.1.1
  refine lv_aload_n hx hb dX3_apply_0 rfl (lv_at hl 0 rfl) ?_
  refine r_get (ci := 3) (v := .ref (ad 3)) (C := RX3) (T := TX3) (N := 4) hx hb hts inlX3 hown hK hs (21) (by omega) he210 rfl 0 (by decide) (hts _ w_fl_RX3_15) rfl dX3_apply_1 ?_
  refine lv_aload_n hx hb dX3_apply_4 rfl (lv_at hl 0 rfl) ?_
  refine r_get (ci := 3) (v := .ref (ad 11)) (C := RX3) (T := TX3) (N := 4) hx hb hts inlX3 hown hK hs (21) (by omega) he210 rfl 1 (by decide) (hts _ w_fl_RX3_19) rfl dX3_apply_5 ?_
  refine lv_iload_n hx hb dX3_apply_8 rfl (lv_at hl 1 rfl) ?_
  refine r_callViR (ci := 2) (As := [.int (x)]) hx hb hml hown hts hK hA hs (11) (by omega) hend0 rfl rfl (c_X2_goalOf l G hd0 (x)) (cwV 1 hts (tbV w_ml_RX3_99 w_im_yX2_goalOf w_se_yX2_goalOf w_ini_RX2 w_cd_yX2_goalOf) rfl rfl rfl (by decide +kernel) ⟨Nat.le_of_ble_eq_true rfl, Nat.le_of_ble_eq_true rfl⟩) rfl hl.1 rfl (Nat.le_of_ble_eq_true rfl) dX3_apply_9 ⟨Nat.zero_le _, Nat.zero_le _⟩ (fun H locs hs => ?_)
  refine r_callViR (ci := 6) (As := [.int (kGet s0.2 (x) (nI 1))]) hx hb hml hown hts hK hA hs (3) (by omega) hest0 rfl rfl (c_X6_rightOf l G h0 (kGet s0.2 (x) (nI 1))) (cwV 1 hts (tbV w_ml_RX3_76 w_im_yX6_rightOf w_se_yX6_rightOf w_ini_RX6 w_cd_yX6_rightOf) rfl rfl rfl (by decide +kernel) ⟨Nat.le_of_ble_eq_true rfl, Nat.le_of_ble_eq_true rfl⟩) rfl hl.1 rfl (Nat.le_of_ble_eq_true rfl) dX3_apply_12 ⟨Nat.zero_le _, Nat.zero_le _⟩ (fun H locs hs => ?_)
  refine lv_topi (fun x3_1 ex3_1 => ?_)
  refine lv_istore_n (lv' := [(3, .int (x3_1)), (0, .ref (ad 21)), (1, .int (x)), (2, .int (y))]) hx hb dX3_apply_15 rfl hl (by decide) rfl (fun ls hl => ?_)
  refine lv_aload_n hx hb dX3_apply_16 rfl (lv_at hl 1 rfl) ?_
  refine r_get (ci := 3) (v := .int (b2i true)) (C := RX3) (T := TX3) (N := 4) hx hb hts inlX3 hown hK hs (21) (by omega) he210 rfl 3 (by decide) (hts _ w_fl_RX3_9) rfl dX3_apply_17 ?_
  refine lv_if_eq (tgt := 28) hx hb dX3_apply_20 (by decide) (fun c20 => absurd c20 (by decide)) (fun _ => ?_)
  refine lv_bipush (v := (-3)) hx hb dX3_apply_23 (by decide) ?_
  refine lv_goto (tgt := 44) hx hb dX3_apply_25 (by decide) ?_
  refine r_iret (v := (-3)) (mc := 0) (ms := 0) hx hb hr hlk hs (Nat.le_refl _) (Nat.le_refl _) dX3_apply_44 hQ ?_
  exact ⟨rfl, hW, Fr_rf⟩

theorem r_st {p : Program} {l : Launch} {e : Env} {R : Room} {s : State} {m : MethodId} {args : Array Value} {below : List Frame} {meth : Method} {c : Code} {H : Heap} {locs : List Loc} {cells slots : Nat} {Q : State → Prop} {pc : Nat} {ls : Array Slot} {st1 st2 : List Value} (h : st1 = st2) (k : W p l e R s m args below meth c H locs cells slots Q (F0 m pc ls st2)) : W p l e R s m args below meth c H locs cells slots Q (F0 m pc ls st1) := h ▸ k
def pmS (k : Nat) : Prop := (3 ≤ k ∧ k ≤ 17) ∨ k = 21
def pmA (k : Nat) : Prop := k = 6 ∨ k = 14
def PmW (G : rG) (n : Nat) (ad : Nat → Nat) (en : Nat → va_E) (s : NSt) (jd RR SL : Nat) (S : Nat → Nat → Bool) (sf : Nat → Int32) (fl : Bool) : Prop :=
  StAt G n ad en s.1 ∧ NdAt G n ad en s.2 jd RR SL S sf ∧ NdOK s.1 s.2 jd RR SL S sf ∧ 22 ≤ n ∧ en 21 = .inr (3, [.ref (ad 3), .ref (ad 11), .ref (ad 1), .int (b2i fl)])
def aPost (G : rG) (n jd RR SL : Nat) (S : Nat → Nat → Bool) (sf : Nat → Int32) (A : Act) (s : NSt) (ad : Nat → Nat) (en : Nat → va_E) : Int32 → (Nat → Nat) → (Nat → va_E) → Prop := fun r ad1 en1 =>
  r = aR (A s).1 ∧ PmW G n ad1 en1 (A s).2 jd RR SL S sf (A s).1.isNone ∧ Fr n pmS pmA ad en ad1 en1
theorem Fr_rf {n : Nat} {S Sa : Nat → Prop} {ad : Nat → Nat} {en : Nat → va_E} : Fr n S Sa ad en ad en := ⟨fun _ _ _ => rfl, fun _ _ _ => rfl⟩
theorem Fr_tr {n : Nat} {S Sa : Nat → Prop} {ad ad1 ad2 : Nat → Nat} {en en1 en2 : Nat → va_E} (h1 : Fr n S Sa ad en ad1 en1) (h2 : Fr n S Sa ad1 en1 ad2 en2) : Fr n S Sa ad en ad2 en2 := ⟨fun k a b => (h2.1 k a b).trans (h1.1 k a b), fun k a b => (h2.2 k a b).trans (h1.2 k a b)⟩
theorem Fr_21 {n : Nat} {ad ad1 : Nat → Nat} {en en1 : Nat → va_E} (h : Fr n (fun k => k = 21) (fun _ => False) ad en ad1 en1) : Fr n pmS pmA ad en ad1 en1 := ⟨fun k a _ => h.1 k a (fun q => q), fun k a b => h.2 k a (fun q => b (Or.inr q))⟩
theorem Fr_nd {n : Nat} {ad ad1 : Nat → Nat} {en en1 : Nat → va_E} (h : Fr n (fun k => 11 ≤ k ∧ k ≤ 17) (fun k => k = 14) ad en ad1 en1) : Fr n pmS pmA ad en ad1 en1 := ⟨fun k a b => h.1 k a (fun q => b (Or.inr q)), fun k a b => h.2 k a (fun q => b (Or.inl (by omega)))⟩
theorem Fr_sm {n : Nat} {ad ad1 : Nat → Nat} {en en1 : Nat → va_E} (h : Fr n (fun k => 3 ≤ k ∧ k ≤ 10) (fun k => k = 6) ad en ad1 en1) : Fr n pmS pmA ad en ad1 en1 := ⟨fun k a b => h.1 k a (fun q => b (Or.inl q)), fun k a b => h.2 k a (fun q => b (Or.inl (by omega)))⟩
theorem PmW_fl {G : rG} {n : Nat} {ad : Nat → Nat} {en en1 : Nat → va_E} {s : NSt} {jd RR SL : Nat} {S : Nat → Nat → Bool} {sf : Nat → Int32} {fl f2 : Bool} {e : va_E} {v : Int32} (h : PmW G n ad en s jd RR SL S sf fl) (he : en1 = va_up en 21 e) (h21 : en1 21 = .inr (3, [.ref (ad 3), .ref (ad 11), .ref (ad 1), .int v])) (hv : v = b2i f2) : PmW G n ad en1 s jd RR SL S sf f2 := by
  obtain ⟨h1, h2, h3, h4, h5⟩ := h
  have ke : ∀ k, k ≠ 21 → en1 k = en k := fun k a => by rw [he]; exact va_up_ne _ _ a
  exact ⟨StAt_keep h1 (fun _ _ _ => rfl) (fun k a b => ke k (by omega)), NdAt_keep h2 rfl (fun _ _ _ => rfl) (fun k a b => ke k (by omega)), h3, h4, by rw [← hv]; exact h21⟩
theorem PmW_node {G : rG} {n : Nat} {ad ad1 : Nat → Nat} {en en1 : Nat → va_E} {s : NSt} {jd RR SL : Nat} {S : Nat → Nat → Bool} {sf : Nat → Int32} {fl : Bool} {ns1 : List Row} (h : PmW G n ad en s jd RR SL S sf fl) (hd : NdAt G n ad1 en1 ns1 jd RR SL S sf) (hO : NdOK s.1 ns1 jd RR SL S sf) (hf : Fr n (fun k => 11 ≤ k ∧ k ≤ 17) (fun k => k = 14) ad en ad1 en1) : PmW G n ad1 en1 (s.1, ns1) jd RR SL S sf fl := by
  obtain ⟨h1, h2, h3, h4, h5⟩ := h
  refine ⟨StAt_keep h1 (fun k a b => hf.1 k (by omega) (by omega)) (fun k a b => hf.2 k (by omega) (by omega)), hd, hO, h4, ?_⟩
  rw [hf.1 3 (by omega) (by omega), hf.1 11 (by omega) (by omega), hf.1 1 (by omega) (by omega)]; exact (hf.2 21 (by omega) (by omega)).trans h5
theorem PmW_stmt {G : rG} {n : Nat} {ad ad1 : Nat → Nat} {en en1 : Nat → va_E} {s : NSt} {jd RR SL : Nat} {S : Nat → Nat → Bool} {sf : Nat → Int32} {fl : Bool} {r : Row} (h : PmW G n ad en s jd RR SL S sf fl) (hs : StAt G n ad1 en1 (sMake s.1 r)) (hf : Fr n (fun k => 3 ≤ k ∧ k ≤ 10) (fun k => k = 6) ad en ad1 en1) : PmW G n ad1 en1 (sMake s.1 r, s.2) jd RR SL S sf fl := by
  obtain ⟨h1, h2, h3, h4, h5⟩ := h
  refine ⟨hs, NdAt_keep h2 (hf.1 3 (by omega) (by omega)) (fun k a b => hf.1 k (by omega) (by omega)) (fun k a b => hf.2 k (by omega) (by omega)), NdOK_ss h3, h4, ?_⟩
  rw [hf.1 3 (by omega) (by omega), hf.1 11 (by omega) (by omega), hf.1 1 (by omega) (by omega)]; exact (hf.2 21 (by omega) (by omega)).trans h5
theorem aR_none {o : Option Nat} (h : ∀ k, o = some k → k < 2 ^ 31) : decide (aR o = (-3)) = o.isNone := by
  cases o with
  | none => rfl
  | some k =>
    refine df (fun q => ?_)
    have h1 := nI_toInt (h k rfl)
    rw [show nI k = (-3 : Int32) from q] at h1
    have : ((-3 : Int32)).toInt = -3 := rfl
    omega
theorem aNode_lt {r : Row} {s : NSt} (h8 : s.2.length ≤ 8000) : ∀ k, (aNode r s).1 = some k → k < 2 ^ 31 := by
  intro k hk
  unfold aNode at hk
  have := kFU_le s.2 r s.2.length
  by_cases h : kFind s.2 r = 0
  · rw [if_pos h] at hk
    by_cases c : s.2.length < 8000
    · rw [if_pos c] at hk; injection hk with hk; omega
    · rw [if_neg c] at hk; cases hk
  · rw [if_neg h] at hk
    injection hk with hk
    have : kFind s.2 r ≤ s.2.length := this
    omega
theorem act_node {G : rG} {n : Nat} {ad ad1 : Nat → Nat} {en en1 : Nat → va_E} {s : NSt} {jd RR SL : Nat} {S : Nat → Nat → Bool} {sf : Nat → Int32} {r : Row} (h : PmW G n ad1 en1 (s.1, nMake s.2 r) jd RR SL S sf (decide (nMakeR s.2 r = (-3)))) (hf : Fr n pmS pmA ad en ad1 en1) (h8 : s.2.length ≤ 8000) : aPost G n jd RR SL S sf (aGate false (aNode r)) s ad en (nMakeR s.2 r) ad1 en1 := by
  refine ⟨(aNode_r r s).symm, ?_, hf⟩
  show PmW G n ad1 en1 (aNode r s).2 jd RR SL S sf (aNode r s).1.isNone
  rw [aNode_st, ← aR_none (aNode_lt h8), aNode_r]
  exact h
theorem ok_giv {L M f : Nat} (h : 1 ≤ f ∧ f ≤ L) : ndOK L (M + 1) (0, f, 0, 0, 0) := ⟨Nat.zero_le _, h.1, h.2, by simp [rPartL], by simp [rPartL], by simp [rPartL]⟩
set_option maxHeartbeats 4000000 in
set_option maxRecDepth 100000 in
theorem c_X3_noted (l : Launch) (G : rG) {n : Nat} {ad : Nat → Nat} {en : Nat → va_E} {s0 : NSt} {jd RR SL : Nat} {S : Nat → Nat → Bool} {sf : Nat → Int32} {fl : Bool} (hW : PmW G n ad en s0 jd RR SL S sf fl) (x : Int32) : CI l G yX3_noted uX3_noted (0) (0) (0) (0) [.ref (ad 21), .int (x)] (n) (n) ad en (fun r ad1 en1 => r = x ∧ PmW G n ad1 en1 s0 jd RR SL S sf (decide (x = (-3))) ∧ Fr n (fun k => k = 21) (fun _ => False) ad en ad1 en1) := by
  intro sz
  refine rMet (Qc := qI G (n) (fun r ad1 en1 => r = x ∧ PmW G n ad1 en1 s0 jd RR SL S sf (decide (x = (-3))) ∧ Fr n (fun k => k = 21) (fun _ => False) ad en ad1 en1)) (cc := cX3_noted) (maxL := 2) (ret := (some .int)) (by decide) rfl (Nat.le_of_ble_eq_true rfl) ?_
  intro pP eE sS mM aA bB tT cC ls A Q hc hK hsz hA hs hl hQ
  obtain ⟨hx, hb, hr, hts, hown, hlk, hnm, hml⟩ := hc
  have hl : lv_has ls 2 [(0, .ref (ad 21)), (1, .int (x))] := hl
  obtain ⟨h0, hd0, hO0, hn0, he210⟩ := id hW
  obtain ⟨fst0, hest0⟩ : ∃ fs, en 3 = .inr (6, fs) := ⟨_, h0.2.1⟩
  obtain ⟨fnd0, hend0⟩ : ∃ fs, en 11 = .inr (2, fs) := ⟨_, hd0.2.1⟩
  have h6 := h0.2.2.2.2.2.1
  have h8 := hO0.1.1
  refine lv_aload_n hx hb dX3_noted_0 rfl (lv_at hl 0 rfl) ?_
  refine lv_iload_n hx hb dX3_noted_1 rfl (lv_at hl 1 rfl) ?_
  refine lv_bipush (v := (-3)) hx hb dX3_noted_2 (by decide) ?_
  refine lv_icmp_ne (tgt := 11) hx hb dX3_noted_4 (by decide) (fun c4 => ?_) (fun c4 => ?_)
  · skip
    refine lv_iconst (v := 0) hx hb dX3_noted_11 (by decide) ?_
    refine r_put (ci := 3) (v := .int (0)) (ty := .boolean) (C := RX3) (T := TX3) (N := 4) (fs' := [.ref (ad 3), .ref (ad 11), .ref (ad 1), .int (0)]) hx hb hts inlX3 tyX3 tyX3_ok nmX3 hown hK hs (21) (by omega) he210 rfl 3 (by decide) (hts _ w_fl_RX3_9) (Or.inl rfl) (by decide +kernel) rfl rfl (Nat.le_of_ble_eq_true rfl) rfl dX3_noted_12 (fun H locs en_1 hen_1 hs => ?_)
    have he_2 : en_1 (21) = .inr (3, [.ref (ad 3), .ref (ad 11), .ref (ad 1), .int (0)]) := by rw [hen_1]; exact va_up_self _ _ _
    have he_3 : en_1 (3) = .inr (6, fst0) := by rw [hen_1]; exact (va_up_ne _ _ (by omega)).trans hest0
    have he_4 : en_1 (11) = .inr (2, fnd0) := by rw [hen_1]; exact (va_up_ne _ _ (by omega)).trans hend0
    refine lv_iload_n hx hb dX3_noted_15 rfl (lv_at hl 1 rfl) ?_
    refine r_iret (v := x) (mc := 0) (ms := 0) hx hb hr hlk hs (Nat.le_refl _) (Nat.le_refl _) dX3_noted_16 hQ ?_
    exact ⟨rfl, PmW_fl hW hen_1 he_2 (by rw [df c4]; rfl), fun _ _ _ => rfl, fun k a b => by rw [hen_1, va_up_ne _ _ (fun q => b q)]⟩
  · skip
    refine lv_iconst (v := 1) hx hb dX3_noted_7 (by decide) ?_
    refine lv_goto (tgt := 12) hx hb dX3_noted_8 (by decide) ?_
    refine r_put (ci := 3) (v := .int (1)) (ty := .boolean) (C := RX3) (T := TX3) (N := 4) (fs' := [.ref (ad 3), .ref (ad 11), .ref (ad 1), .int (1)]) hx hb hts inlX3 tyX3 tyX3_ok nmX3 hown hK hs (21) (by omega) he210 rfl 3 (by decide) (hts _ w_fl_RX3_9) (Or.inl rfl) (by decide +kernel) rfl rfl (Nat.le_of_ble_eq_true rfl) rfl dX3_noted_12 (fun H locs en_5 hen_5 hs => ?_)
    have he_6 : en_5 (21) = .inr (3, [.ref (ad 3), .ref (ad 11), .ref (ad 1), .int (1)]) := by rw [hen_5]; exact va_up_self _ _ _
    have he_7 : en_5 (3) = .inr (6, fst0) := by rw [hen_5]; exact (va_up_ne _ _ (by omega)).trans hest0
    have he_8 : en_5 (11) = .inr (2, fnd0) := by rw [hen_5]; exact (va_up_ne _ _ (by omega)).trans hend0
    refine lv_iload_n hx hb dX3_noted_15 rfl (lv_at hl 1 rfl) ?_
    refine r_iret (v := x) (mc := 0) (ms := 0) hx hb hr hlk hs (Nat.le_refl _) (Nat.le_refl _) dX3_noted_16 hQ ?_
    exact ⟨rfl, PmW_fl hW hen_5 he_6 (by rw [dt c4]; rfl), fun _ _ _ => rfl, fun k a b => by rw [hen_5, va_up_ne _ _ (fun q => b q)]⟩

set_option maxHeartbeats 4000000 in
set_option maxRecDepth 100000 in
theorem c_X3_given (l : Launch) (G : rG) {n : Nat} {ad : Nat → Nat} {en : Nat → va_E} {s0 : NSt} {jd RR SL : Nat} {S : Nat → Nat → Bool} {sf : Nat → Int32} {fl : Bool} (hW : PmW G n ad en s0 jd RR SL S sf fl) {f1 : Nat} (hf1 : 1 ≤ f1 ∧ f1 ≤ s0.1.length) : CI l G yX3_given uX3_given (4) (135) (aC (aGate fl (aNode (0, f1, 0, 0, 0))) s0) (aS (aGate fl (aNode (0, f1, 0, 0, 0))) s0) [.ref (ad 21), .int (nI f1)] (n) (n) ad en (aPost G n jd RR SL S sf (aGate fl (aNode (0, f1, 0, 0, 0))) s0 ad en) := by
  intro sz
  refine rMet (Qc := qI G (n) (aPost G n jd RR SL S sf (aGate fl (aNode (0, f1, 0, 0, 0))) s0 ad en)) (cc := cX3_given) (maxL := 2) (ret := (some .int)) (by decide) rfl (Nat.le_of_ble_eq_true rfl) ?_
  intro pP eE sS mM aA bB tT cC ls A Q hc hK hsz hA hs hl hQ
  obtain ⟨hx, hb, hr, hts, hown, hlk, hnm, hml⟩ := hc
  have hl : lv_has ls 2 [(0, .ref (ad 21)), (1, .int (nI f1))] := hl
  obtain ⟨h0, hd0, hO0, hn0, he210⟩ := id hW
  obtain ⟨fst0, hest0⟩ : ∃ fs, en 3 = .inr (6, fs) := ⟨_, h0.2.1⟩
  obtain ⟨fnd0, hend0⟩ : ∃ fs, en 11 = .inr (2, fs) := ⟨_, hd0.2.1⟩
  have h6 := h0.2.2.2.2.2.1
  have h8 := hO0.1.1
  refine lv_aload_n hx hb dX3_given_0 rfl (lv_at hl 0 rfl) ?_
  refine r_get (ci := 3) (v := .int (b2i fl)) (C := RX3) (T := TX3) (N := 4) hx hb hts inlX3 hown hK hs (21) (by omega) he210 rfl 3 (by decide) (hts _ w_fl_RX3_9) rfl dX3_given_1 ?_
  refine lv_if_eq (tgt := 12) hx hb dX3_given_4 (by decide) (fun c4 => ?_) (fun c4 => ?_)
  · skip
    have hfl : fl = false := b2i_0 c4
    subst hfl
    refine lv_aload_n hx hb dX3_given_12 rfl (lv_at hl 0 rfl) ?_
    refine lv_aload_n hx hb dX3_given_13 rfl (lv_at hl 0 rfl) ?_
    refine r_get (ci := 3) (v := .ref (ad 11)) (C := RX3) (T := TX3) (N := 4) hx hb hts inlX3 hown hK hs (21) (by omega) he210 rfl 1 (by decide) (hts _ w_fl_RX3_19) rfl dX3_given_14 ?_
    refine lv_iconst (v := 0) hx hb dX3_given_17 (by decide) ?_
    refine lv_iload_n hx hb dX3_given_18 rfl (lv_at hl 1 rfl) ?_
    refine lv_iconst (v := 0) hx hb dX3_given_19 (by decide) ?_
    refine lv_iconst (v := 0) hx hb dX3_given_20 (by decide) ?_
    refine lv_iconst (v := 0) hx hb dX3_given_21 (by decide) ?_
    refine r_callVi (ci := 2) (As := [.int (0), .int (nI f1), .int (0), .int (0), .int (0)]) hx hb hml hown hts hK hA hs (11) (by omega) hend0 rfl rfl (c_X2_make l G hd0 hO0 (h6) (a := 0) (b := f1) (c1 := 0) (d := 0) (e1 := 0) (ok_giv hf1)) (cwV 5 hts (tbV w_ml_RX3_93 w_im_yX2_make w_se_yX2_make w_ini_RX2 w_cd_yX2_make) rfl rfl rfl (by decide +kernel) ⟨Nat.le_of_ble_eq_true rfl, Nat.le_of_ble_eq_true rfl⟩) rfl hl.1 rfl (Nat.le_of_ble_eq_true rfl) dX3_given_22 ⟨by show _ ≤ aC (aGate false (aNode (0, f1, 0, 0, 0))) s0; rw [show aGate false (aNode (0, f1, 0, 0, 0)) = aNode (0, f1, 0, 0, 0) from rfl, (aNode_c _ _).1]; omega, by show _ ≤ aS (aGate false (aNode (0, f1, 0, 0, 0))) s0; rw [show aGate false (aNode (0, f1, 0, 0, 0)) = aNode (0, f1, 0, 0, 0) from rfl, (aNode_c _ _).2]; omega⟩ (fun r_4 ad_1 en_2 H locs hp_3 hs => ?_)
    obtain ⟨hrm_5, hdm_5, hOm_5, hfm_5⟩ := hp_3
    have hgm_5 := Fr_nd hfm_5
    have hWm_5 := PmW_node hW hdm_5 hOm_5 hfm_5
    rw [hrm_5]
    obtain ⟨hp_6, hdp_6, hOp_6, hnp_6, he21p_6⟩ := id hWm_5
    obtain ⟨fstp_6, hestp_6⟩ : ∃ fs, en_2 3 = .inr (6, fs) := ⟨_, hp_6.2.1⟩
    obtain ⟨fndp_6, hendp_6⟩ : ∃ fs, en_2 11 = .inr (2, fs) := ⟨_, hdp_6.2.1⟩
    have hp_6 : StAt G n ad_1 en_2 (s0.1) := hp_6
    have hdp_6 : NdAt G n ad_1 en_2 (nMake s0.2 (0, f1, 0, 0, 0)) jd RR SL S sf := hdp_6
    have hOp_6 : NdOK (s0.1) (nMake s0.2 (0, f1, 0, 0, 0)) jd RR SL S sf := hOp_6
    have frp_6 := Fr_tr Fr_rf hgm_5
    have hl : lv_has ls 2 [(0, .ref (ad_1 21)), (1, .int (nI f1))] := by rw [hgm_5.1 21 (by omega) (by unfold pmA; omega)]; exact hl
    refine r_st (st2 := [.int (nMakeR s0.2 (0, f1, 0, 0, 0)), .ref (ad_1 21)]) (by rw [hgm_5.1 21 (by omega) (by unfold pmA; omega)]) ?_
    refine r_callVi (ci := 3) (As := [.int (nMakeR s0.2 (0, f1, 0, 0, 0))]) hx hb hml hown hts hK hA hs (21) (by omega) he21p_6 rfl rfl (c_X3_noted l G hWm_5 (nMakeR s0.2 (0, f1, 0, 0, 0))) (cwV 1 hts (tbV w_ml_RX3_96 w_im_yX3_noted w_se_yX3_noted w_ini_RX3 w_cd_yX3_noted) rfl rfl rfl (by decide +kernel) ⟨Nat.le_of_ble_eq_true rfl, Nat.le_of_ble_eq_true rfl⟩) rfl hl.1 rfl (Nat.le_of_ble_eq_true rfl) dX3_given_25 ⟨by show _ ≤ aC (aGate false (aNode (0, f1, 0, 0, 0))) s0; rw [show aGate false (aNode (0, f1, 0, 0, 0)) = aNode (0, f1, 0, 0, 0) from rfl, (aNode_c _ _).1]; omega, by show _ ≤ aS (aGate false (aNode (0, f1, 0, 0, 0))) s0; rw [show aGate false (aNode (0, f1, 0, 0, 0)) = aNode (0, f1, 0, 0, 0) from rfl, (aNode_c _ _).2]; omega⟩ (fun r_10 ad_7 en_8 H locs hp_9 hs => ?_)
    obtain ⟨hrn_11, hWn_11, hfn_11⟩ := hp_9
    have hgn_11 := Fr_21 hfn_11
    rw [hrn_11]
    obtain ⟨hp_12, hdp_12, hOp_12, hnp_12, he21p_12⟩ := id hWn_11
    obtain ⟨fstp_12, hestp_12⟩ : ∃ fs, en_8 3 = .inr (6, fs) := ⟨_, hp_12.2.1⟩
    obtain ⟨fndp_12, hendp_12⟩ : ∃ fs, en_8 11 = .inr (2, fs) := ⟨_, hdp_12.2.1⟩
    have hp_12 : StAt G n ad_7 en_8 (s0.1) := hp_12
    have hdp_12 : NdAt G n ad_7 en_8 (nMake s0.2 (0, f1, 0, 0, 0)) jd RR SL S sf := hdp_12
    have hOp_12 : NdOK (s0.1) (nMake s0.2 (0, f1, 0, 0, 0)) jd RR SL S sf := hOp_12
    have frp_12 := Fr_tr frp_6 hgn_11
    have hl : lv_has ls 2 [(0, .ref (ad_7 21)), (1, .int (nI f1))] := by rw [hgn_11.1 21 (by omega) (by unfold pmA; omega)]; exact hl
    refine r_iret (v := nMakeR s0.2 (0, f1, 0, 0, 0)) (mc := aC (aGate false (aNode (0, f1, 0, 0, 0))) s0) (ms := aS (aGate false (aNode (0, f1, 0, 0, 0))) s0) hx hb hr hlk hs (by first | exact Nat.zero_le _ | (rw [show aGate false (aNode (0, f1, 0, 0, 0)) = aNode (0, f1, 0, 0, 0) from rfl, (aNode_c _ _).1]; omega)) (by first | exact Nat.zero_le _ | (rw [show aGate false (aNode (0, f1, 0, 0, 0)) = aNode (0, f1, 0, 0, 0) from rfl, (aNode_c _ _).2]; omega)) dX3_given_28 hQ ?_
    exact act_node hWn_11 frp_12 h8
  · skip
    have hfl : fl = true := b2i_1 c4
    subst hfl
    refine lv_bipush (v := (-3)) hx hb dX3_given_7 (by decide) ?_
    refine lv_goto (tgt := 28) hx hb dX3_given_9 (by decide) ?_
    refine r_iret (v := (-3)) (mc := aC (aGate true (aNode (0, f1, 0, 0, 0))) s0) (ms := aS (aGate true (aNode (0, f1, 0, 0, 0))) s0) hx hb hr hlk hs (by first | exact Nat.zero_le _ | (rw [show aGate false (aNode (0, f1, 0, 0, 0)) = aNode (0, f1, 0, 0, 0) from rfl, (aNode_c _ _).1]; omega)) (by first | exact Nat.zero_le _ | (rw [show aGate false (aNode (0, f1, 0, 0, 0)) = aNode (0, f1, 0, 0, 0) from rfl, (aNode_c _ _).2]; omega)) dX3_given_28 hQ ?_
    exact ⟨rfl, hW, Fr_rf⟩

set_option maxHeartbeats 4000000 in
set_option maxRecDepth 100000 in
theorem c_X3_make (l : Launch) (G : rG) {n : Nat} {ad : Nat → Nat} {en : Nat → va_E} {s0 : NSt} {jd RR SL : Nat} {S : Nat → Nat → Bool} {sf : Nat → Int32} {fl : Bool} (hW : PmW G n ad en s0 jd RR SL S sf fl) {xa xb xc : Int32} {tg gl a b c1 : Nat} (hok : fl = false → (xa = nI a ∧ xb = nI b ∧ xc = nI c1) ∧ ndOK s0.1.length (s0.2.length + 1) (tg, gl, a, b, c1)) : CI l G yX3_make uX3_make (4) (135) (aC (aGate fl (aNode (tg, gl, a, b, c1))) s0) (aS (aGate fl (aNode (tg, gl, a, b, c1))) s0) [.ref (ad 21), .int (nI tg), .int (nI gl), .int (xa), .int (xb), .int (xc)] (n) (n) ad en (aPost G n jd RR SL S sf (aGate fl (aNode (tg, gl, a, b, c1))) s0 ad en) := by
  intro sz
  refine rMet (Qc := qI G (n) (aPost G n jd RR SL S sf (aGate fl (aNode (tg, gl, a, b, c1))) s0 ad en)) (cc := cX3_make) (maxL := 6) (ret := (some .int)) (by decide) rfl (Nat.le_of_ble_eq_true rfl) ?_
  intro pP eE sS mM aA bB tT cC ls A Q hc hK hsz hA hs hl hQ
  obtain ⟨hx, hb, hr, hts, hown, hlk, hnm, hml⟩ := hc
  have hl : lv_has ls 6 [(0, .ref (ad 21)), (1, .int (nI tg)), (2, .int (nI gl)), (3, .int (xa)), (4, .int (xb)), (5, .int (xc))] := hl
  obtain ⟨h0, hd0, hO0, hn0, he210⟩ := id hW
  obtain ⟨fst0, hest0⟩ : ∃ fs, en 3 = .inr (6, fs) := ⟨_, h0.2.1⟩
  obtain ⟨fnd0, hend0⟩ : ∃ fs, en 11 = .inr (2, fs) := ⟨_, hd0.2.1⟩
  have h6 := h0.2.2.2.2.2.1
  have h8 := hO0.1.1
  refine lv_aload_n hx hb dX3_make_0 rfl (lv_at hl 0 rfl) ?_
  refine r_get (ci := 3) (v := .int (b2i fl)) (C := RX3) (T := TX3) (N := 4) hx hb hts inlX3 hown hK hs (21) (by omega) he210 rfl 3 (by decide) (hts _ w_fl_RX3_9) rfl dX3_make_1 ?_
  refine lv_if_eq (tgt := 12) hx hb dX3_make_4 (by decide) (fun c4 => ?_) (fun c4 => ?_)
  · skip
    have hfl : fl = false := b2i_0 c4
    subst hfl
    have hok := hok rfl
    obtain ⟨⟨rfl, rfl, rfl⟩, hok2⟩ := id hok
    refine lv_aload_n hx hb dX3_make_12 rfl (lv_at hl 0 rfl) ?_
    refine lv_aload_n hx hb dX3_make_13 rfl (lv_at hl 0 rfl) ?_
    refine r_get (ci := 3) (v := .ref (ad 11)) (C := RX3) (T := TX3) (N := 4) hx hb hts inlX3 hown hK hs (21) (by omega) he210 rfl 1 (by decide) (hts _ w_fl_RX3_19) rfl dX3_make_14 ?_
    refine lv_iload_n hx hb dX3_make_17 rfl (lv_at hl 1 rfl) ?_
    refine lv_iload_n hx hb dX3_make_18 rfl (lv_at hl 2 rfl) ?_
    refine lv_iload_n hx hb dX3_make_19 rfl (lv_at hl 3 rfl) ?_
    refine lv_iload hx hb dX3_make_20 (lv_at hl 4 rfl) ?_
    refine lv_iload hx hb dX3_make_22 (lv_at hl 5 rfl) ?_
    refine r_callVi (ci := 2) (As := [.int (nI tg), .int (nI gl), .int (nI a), .int (nI b), .int (nI c1)]) hx hb hml hown hts hK hA hs (11) (by omega) hend0 rfl rfl (c_X2_make l G hd0 hO0 (h6) (a := tg) (b := gl) (c1 := a) (d := b) (e1 := c1) hok.2) (cwV 5 hts (tbV w_ml_RX3_93 w_im_yX2_make w_se_yX2_make w_ini_RX2 w_cd_yX2_make) rfl rfl rfl (by decide +kernel) ⟨Nat.le_of_ble_eq_true rfl, Nat.le_of_ble_eq_true rfl⟩) rfl hl.1 rfl (Nat.le_of_ble_eq_true rfl) dX3_make_24 ⟨by show _ ≤ aC (aGate false (aNode (tg, gl, a, b, c1))) s0; rw [show aGate false (aNode (tg, gl, a, b, c1)) = aNode (tg, gl, a, b, c1) from rfl, (aNode_c _ _).1]; omega, by show _ ≤ aS (aGate false (aNode (tg, gl, a, b, c1))) s0; rw [show aGate false (aNode (tg, gl, a, b, c1)) = aNode (tg, gl, a, b, c1) from rfl, (aNode_c _ _).2]; omega⟩ (fun r_4 ad_1 en_2 H locs hp_3 hs => ?_)
    obtain ⟨hrm_5, hdm_5, hOm_5, hfm_5⟩ := hp_3
    have hgm_5 := Fr_nd hfm_5
    have hWm_5 := PmW_node hW hdm_5 hOm_5 hfm_5
    rw [hrm_5]
    obtain ⟨hp_6, hdp_6, hOp_6, hnp_6, he21p_6⟩ := id hWm_5
    obtain ⟨fstp_6, hestp_6⟩ : ∃ fs, en_2 3 = .inr (6, fs) := ⟨_, hp_6.2.1⟩
    obtain ⟨fndp_6, hendp_6⟩ : ∃ fs, en_2 11 = .inr (2, fs) := ⟨_, hdp_6.2.1⟩
    have hp_6 : StAt G n ad_1 en_2 (s0.1) := hp_6
    have hdp_6 : NdAt G n ad_1 en_2 (nMake s0.2 (tg, gl, a, b, c1)) jd RR SL S sf := hdp_6
    have hOp_6 : NdOK (s0.1) (nMake s0.2 (tg, gl, a, b, c1)) jd RR SL S sf := hOp_6
    have frp_6 := Fr_tr Fr_rf hgm_5
    have hl : lv_has ls 6 [(0, .ref (ad_1 21)), (1, .int (nI tg)), (2, .int (nI gl)), (3, .int (nI a)), (4, .int (nI b)), (5, .int (nI c1))] := by rw [hgm_5.1 21 (by omega) (by unfold pmA; omega)]; exact hl
    refine r_st (st2 := [.int (nMakeR s0.2 (tg, gl, a, b, c1)), .ref (ad_1 21)]) (by rw [hgm_5.1 21 (by omega) (by unfold pmA; omega)]) ?_
    refine r_callVi (ci := 3) (As := [.int (nMakeR s0.2 (tg, gl, a, b, c1))]) hx hb hml hown hts hK hA hs (21) (by omega) he21p_6 rfl rfl (c_X3_noted l G hWm_5 (nMakeR s0.2 (tg, gl, a, b, c1))) (cwV 1 hts (tbV w_ml_RX3_96 w_im_yX3_noted w_se_yX3_noted w_ini_RX3 w_cd_yX3_noted) rfl rfl rfl (by decide +kernel) ⟨Nat.le_of_ble_eq_true rfl, Nat.le_of_ble_eq_true rfl⟩) rfl hl.1 rfl (Nat.le_of_ble_eq_true rfl) dX3_make_27 ⟨by show _ ≤ aC (aGate false (aNode (tg, gl, a, b, c1))) s0; rw [show aGate false (aNode (tg, gl, a, b, c1)) = aNode (tg, gl, a, b, c1) from rfl, (aNode_c _ _).1]; omega, by show _ ≤ aS (aGate false (aNode (tg, gl, a, b, c1))) s0; rw [show aGate false (aNode (tg, gl, a, b, c1)) = aNode (tg, gl, a, b, c1) from rfl, (aNode_c _ _).2]; omega⟩ (fun r_10 ad_7 en_8 H locs hp_9 hs => ?_)
    obtain ⟨hrn_11, hWn_11, hfn_11⟩ := hp_9
    have hgn_11 := Fr_21 hfn_11
    rw [hrn_11]
    obtain ⟨hp_12, hdp_12, hOp_12, hnp_12, he21p_12⟩ := id hWn_11
    obtain ⟨fstp_12, hestp_12⟩ : ∃ fs, en_8 3 = .inr (6, fs) := ⟨_, hp_12.2.1⟩
    obtain ⟨fndp_12, hendp_12⟩ : ∃ fs, en_8 11 = .inr (2, fs) := ⟨_, hdp_12.2.1⟩
    have hp_12 : StAt G n ad_7 en_8 (s0.1) := hp_12
    have hdp_12 : NdAt G n ad_7 en_8 (nMake s0.2 (tg, gl, a, b, c1)) jd RR SL S sf := hdp_12
    have hOp_12 : NdOK (s0.1) (nMake s0.2 (tg, gl, a, b, c1)) jd RR SL S sf := hOp_12
    have frp_12 := Fr_tr frp_6 hgn_11
    have hl : lv_has ls 6 [(0, .ref (ad_7 21)), (1, .int (nI tg)), (2, .int (nI gl)), (3, .int (nI a)), (4, .int (nI b)), (5, .int (nI c1))] := by rw [hgn_11.1 21 (by omega) (by unfold pmA; omega)]; exact hl
    refine r_iret (v := nMakeR s0.2 (tg, gl, a, b, c1)) (mc := aC (aGate false (aNode (tg, gl, a, b, c1))) s0) (ms := aS (aGate false (aNode (tg, gl, a, b, c1))) s0) hx hb hr hlk hs (by first | exact Nat.zero_le _ | (rw [show aGate false (aNode (tg, gl, a, b, c1)) = aNode (tg, gl, a, b, c1) from rfl, (aNode_c _ _).1]; omega)) (by first | exact Nat.zero_le _ | (rw [show aGate false (aNode (tg, gl, a, b, c1)) = aNode (tg, gl, a, b, c1) from rfl, (aNode_c _ _).2]; omega)) dX3_make_30 hQ ?_
    exact act_node hWn_11 frp_12 h8
  · skip
    have hfl : fl = true := b2i_1 c4
    subst hfl
    refine lv_bipush (v := (-3)) hx hb dX3_make_7 (by decide) ?_
    refine lv_goto (tgt := 30) hx hb dX3_make_9 (by decide) ?_
    refine r_iret (v := (-3)) (mc := aC (aGate true (aNode (tg, gl, a, b, c1))) s0) (ms := aS (aGate true (aNode (tg, gl, a, b, c1))) s0) hx hb hr hlk hs (by first | exact Nat.zero_le _ | (rw [show aGate false (aNode (tg, gl, a, b, c1)) = aNode (tg, gl, a, b, c1) from rfl, (aNode_c _ _).1]; omega)) (by first | exact Nat.zero_le _ | (rw [show aGate false (aNode (tg, gl, a, b, c1)) = aNode (tg, gl, a, b, c1) from rfl, (aNode_c _ _).2]; omega)) dX3_make_30 hQ ?_
    exact ⟨rfl, hW, Fr_rf⟩

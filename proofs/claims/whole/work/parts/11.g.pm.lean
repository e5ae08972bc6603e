def oNd (s : NSt) (o : Option Nat) (g : Nat) : Prop := ∀ x, o = some x → isNd s x g
/-- nodes whose goal is an implication to b -/
def oFn (s : NSt) (o : Option Nat) (b : Nat) : Prop := ∀ x, o = some x → (1 ≤ x ∧ x ≤ s.2.length) ∧ sR s.1 (nG s.2 x) = b
theorem oNd.vd {s : NSt} {o : Option Nat} {g : Nat} (h : oNd s o g) : ∀ x, o = some x → 1 ≤ x ∧ x ≤ s.2.length := fun x hx => ⟨(h x hx).1, (h x hx).2.1⟩
theorem oNd.mono {s t : NSt} {o : Option Nat} {g : Nat} (h : oNd s o g) (e : sExt s t) : oNd t o g := fun x hx => (h x hx).mono e
theorem oFn.mono {s t : NSt} {o : Option Nat} {b : Nat} (h : oFn s o b) (e : sExt s t) (hn : nsOK s.1 s.2) : oFn t o b := by
  intro x hx
  obtain ⟨h1, h2⟩ := h x hx
  have l := sExt_len e
  refine ⟨by omega, ?_⟩
  have q : nG t.2 x = nG s.2 x := by unfold nG; rw [sExt_n e h1.2]
  rw [q]
  unfold sR at h2 ⊢
  rw [sExt_s e (nG_le hn x)]
  exact h2
theorem oNd.fn {s : NSt} {o : Option Nat} {g : Nat} (h : oNd s o g) : oFn s o (sR s.1 g) := fun x hx => by
  obtain ⟨h1, h2, h3⟩ := h x hx
  exact ⟨⟨h1, h2⟩, by rw [h3]⟩
theorem gate_q {fl : Bool} {r : Row} {s s1 : NSt} {o : Option Nat} (h : aGate fl (aNode r) s = (o, s1)) : oNd s1 o r.2.1 ∧ (fl = true → o = none) := by
  cases fl with
  | true =>
    have e : o = none := (congrArg Prod.fst h).symm
    exact ⟨fun x hx => (by rw [e] at hx; cases hx), fun _ => e⟩
  | false => exact ⟨fun x hx => (by rw [hx] at h; exact node_nd h), fun q => by cases q⟩
theorem lamO_q {a gt : Nat} {o o1 : Option Nat} {s s1 : NSt} (h : aLamO a o s = (o1, s1)) (hg : oNd s o gt) : oFn s1 o1 gt ∧ (o = none → o1 = none) := by
  cases o with
  | none =>
    have e : o1 = none := (congrArg Prod.fst h).symm
    exact ⟨fun x hx => (by rw [e] at hx; cases hx), fun _ => e⟩
  | some t =>
    refine ⟨fun x hx => ?_, fun q => by cases q⟩
    rw [hx] at h
    obtain ⟨g, h1, h2, h3, h4, h5, h6⟩ := lam_nd h
    exact ⟨⟨h1.1, h1.2.1⟩, by rw [h1.2.2, h6, (hg t rfl).2.2]⟩
theorem appO_q {b : Nat} {o1 o2 o3 : Option Nat} {s s1 : NSt} (h : aAppO o1 o2 s = (o3, s1)) (h1 : oFn s o1 b) : oNd s1 o3 b ∧ (o2 = none → o3 = none) := by
  cases o1 with
  | none =>
    have e : o3 = none := (congrArg Prod.fst h).symm
    exact ⟨fun x hx => (by rw [e] at hx; cases hx), fun _ => e⟩
  | some t =>
    cases o2 with
    | none =>
      have e : o3 = none := (congrArg Prod.fst h).symm
      exact ⟨fun x hx => (by rw [e] at hx; cases hx), fun _ => e⟩
    | some u =>
      refine ⟨fun x hx => ?_, fun q => by cases q⟩
      rw [hx] at h
      have := node_nd (r := (2, sR s.1 (nG s.2 t), t, u, 0)) h
      rw [(h1 t rfl).2] at this
      exact this
theorem c_X3_lambda (l : Launch) (G : rG) {n : Nat} {ad : Nat → Nat} {en : Nat → va_E} {s0 : NSt} {jd RR SL : Nat} {S : Nat → Nat → Bool} {sf : Nat → Int32} {o : Option Nat} (hW : PmW G n ad en s0 jd RR SL S sf o.isNone) {a gt : Nat} (ha : 1 ≤ a ∧ a ≤ s0.1.length) (ho : oNd s0 o gt) : CI l G yX3_lambda uX3_lambda (4) (135) (aC (aLamO a o) s0) (aS (aLamO a o) s0) [.ref (ad 21), .int (nI a), .int (aR o)] n n ad en (aPost G n jd RR SL S sf (aLamO a o) s0 ad en) := by
  cases o with
  | none =>
    have := c_X3_lambda_t l G hW (x := nI a) (y := (-3))
    rw [show aC (aLamO a none) s0 = 0 from (stop_c s0).1, show aS (aLamO a none) s0 = 0 from (stop_c s0).2]
    exact this
  | some t => exact c_X3_lambda_f l G hW ha ⟨(ho t rfl).1, (ho t rfl).2.1⟩
theorem c_X3_apply (l : Launch) (G : rG) {n : Nat} {ad : Nat → Nat} {en : Nat → va_E} {s0 : NSt} {jd RR SL : Nat} {S : Nat → Nat → Bool} {sf : Nat → Int32} {o1 o2 : Option Nat} (hW : PmW G n ad en s0 jd RR SL S sf o2.isNone) {b : Nat} (hb : ∀ u, o2 = some u → 1 ≤ b) (h1 : oFn s0 o1 b) (h2 : ∀ x, o2 = some x → 1 ≤ x ∧ x ≤ s0.2.length) (hn : o1 = none → o2 = none) : CI l G yX3_apply uX3_apply (4) (135) (aC (aAppO o1 o2) s0) (aS (aAppO o1 o2) s0) [.ref (ad 21), .int (aR o1), .int (aR o2)] n n ad en (aPost G n jd RR SL S sf (aAppO o1 o2) s0 ad en) := by
  cases o2 with
  | none =>
    have := c_X3_apply_t l G hW (x := aR o1) (y := (-3))
    have e : aAppO o1 none = aStop := by cases o1 <;> rfl
    rw [e, (stop_c s0).1, (stop_c s0).2]
    exact this
  | some u =>
    cases o1 with
    | none => exact absurd (hn rfl) (by simp)
    | some t =>
      obtain ⟨q1, q2⟩ := h1 t rfl
      exact c_X3_apply_f l G hW q1 (h2 u rfl) (by rw [q2]; exact hb u rfl)
theorem sR_ext {s t : NSt} (e : sExt s t) {f : Nat} (hf : f ≤ s.1.length) : sR t.1 f = sR s.1 f ∧ sL t.1 f = sL s.1 f := by
  unfold sR sL
  rw [sExt_s e hf]
  exact ⟨rfl, rfl⟩
theorem none_i {o : Option Nat} (h : o = none) : o.isNone = true := by rw [h]; rfl
theorem oFn.self {s : NSt} {o : Option Nat} {b : Nat} (h : oFn s o b) : oNd s o (nG s.2 (o.getD 0)) := fun x hx => by rw [hx]; exact ⟨(h x hx).1.1, (h x hx).1.2, rfl⟩
theorem c_X3_make1 (l : Launch) (G : rG) {n : Nat} {ad : Nat → Nat} {en : Nat → va_E} {s0 : NSt} {jd RR SL : Nat} {S : Nat → Nat → Bool} {sf : Nat → Int32} {o : Option Nat} (hW : PmW G n ad en s0 jd RR SL S sf o.isNone) {tg gl : Nat} (ht : tg ≤ 9 ∧ rPartL.getD tg 0 = 1) (hg : 1 ≤ gl ∧ gl ≤ s0.1.length) (ho : ∀ x, o = some x → 1 ≤ x ∧ x ≤ s0.2.length) : CI l G yX3_make uX3_make (4) (135) (aC (aGate o.isNone (aNode (tg, gl, o.getD 0, 0, 0))) s0) (aS (aGate o.isNone (aNode (tg, gl, o.getD 0, 0, 0))) s0) [.ref (ad 21), .int (nI tg), .int (nI gl), .int (aR o), .int 0, .int 0] n n ad en (aPost G n jd RR SL S sf (aGate o.isNone (aNode (tg, gl, o.getD 0, 0, 0))) s0 ad en) :=
  c_X3_make l G hW (fun h => ⟨⟨aR_get h, rfl, rfl⟩, ok_1 ht hg (ho _ (get_some h))⟩)
def aFire (f : Nat) (o : Option Nat) : Act := fun s =>
  let q1 := aLamO (sR s.1 f) o s
  let q2 := aGate q1.1.isNone (aNode (0, f, 0, 0, 0)) q1.2
  let q3 := aGate q2.1.isNone (aNode (0, sL s.1 f, 0, 0, 0)) q2.2
  let q4 := aAppO q2.1 q3.1 q3.2
  aAppO q1.1 q4.1 q4.2
theorem aFire_eq {f : Nat} {o o1 o2 o3 o4 o5 : Option Nat} {s s1 s2 s3 s4 s5 : NSt} (h1 : aLamO (sR s.1 f) o s = (o1, s1)) (h2 : aGate o1.isNone (aNode (0, f, 0, 0, 0)) s1 = (o2, s2)) (h3 : aGate o2.isNone (aNode (0, sL s.1 f, 0, 0, 0)) s2 = (o3, s3)) (h4 : aAppO o2 o3 s3 = (o4, s4)) (h5 : aAppO o1 o4 s4 = (o5, s5)) : aFire f o s = (o5, s5) := by
  unfold aFire
  simp only [h1, h2, h3, h4, h5]
theorem parts_of {ss : List Row} (h : ssOK ss) {f : Nat} (hf : 1 ≤ f ∧ f ≤ ss.length) (h2 : 2 ≤ sSort ss f) : (1 ≤ sL ss f ∧ sL ss f ≤ ss.length) ∧ (1 ≤ sR ss f ∧ sR ss f ≤ ss.length) := by
  have q := h.2.1 f hf.1 hf.2
  unfold sSort at h2
  unfold sL sR
  obtain ⟨-, q | q | q⟩ := q <;> omega
set_option maxHeartbeats 4000000 in
set_option maxRecDepth 100000 in
theorem c_X3_fire (l : Launch) (G : rG) {n : Nat} {ad : Nat → Nat} {en : Nat → va_E} {s0 : NSt} {jd RR SL : Nat} {S : Nat → Nat → Bool} {sf : Nat → Int32} {o : Option Nat} (hW : PmW G n ad en s0 jd RR SL S sf o.isNone) {f gt : Nat} (hf : 1 ≤ f ∧ f ≤ s0.1.length) (h2 : 2 ≤ sSort s0.1 f) (ho : oNd s0 o gt) (hgt : 1 ≤ gt) : CI l G yX3_fire uX3_fire (5) (158) (aC (aFire f o) s0) (aS (aFire f o) s0) [.ref (ad 21), .int (nI f), .int (aR o)] (n) (n) ad en (aPost G n jd RR SL S sf (aFire f o) s0 ad en) := by
  intro sz
  refine rMet (Qc := qI G (n) (aPost G n jd RR SL S sf (aFire f o) s0 ad en)) (cc := cX3_fire) (maxL := 3) (ret := (some .int)) (by decide) rfl (Nat.le_of_ble_eq_true rfl) ?_
  intro pP eE sS mM aA bB tT cC ls A Q hc hK hsz hA hs hl hQ
  obtain ⟨hx, hb, hr, hts, hown, hlk, hnm, hml⟩ := hc
  have hl : lv_has ls 3 [(0, .ref (ad 21)), (1, .int (nI f)), (2, .int (aR o))] := hl
  obtain ⟨h0, hd0, hO0, hn0, he210⟩ := id hW
  obtain ⟨fst0, hest0⟩ : ∃ fs, en 3 = .inr (6, fs) := ⟨_, h0.2.1⟩
  obtain ⟨fnd0, hend0⟩ : ∃ fs, en 11 = .inr (2, fs) := ⟨_, hd0.2.1⟩
  have h6 := h0.2.2.2.2.2.1
  have h8 := hO0.1.1
  have x0 := sExt.rf s0
  have hn0_ : nsOK s0.1 s0.2 := hO0.1
  have hokk : ssOK s0.1 := h0.2.2.2.2.2
  obtain ⟨o1, s1, hq1⟩ : ∃ oo tt, (aLamO (sR s0.1 f) o) s0 = (oo, tt) := ⟨_, _, rfl⟩
  have hc1 := aC_eq hq1 (aLamO_ext _ _ _)
  have x1 := x0.tr hc1.2.2.2.2
  obtain ⟨o2, s2, hq2⟩ : ∃ oo tt, (aGate o1.isNone (aNode (0, f, 0, 0, 0))) s1 = (oo, tt) := ⟨_, _, rfl⟩
  have hc2 := aC_eq hq2 (aGate_ext (aNode_ext _) _ _)
  have x2 := x1.tr hc2.2.2.2.2
  obtain ⟨o3, s3, hq3⟩ : ∃ oo tt, (aGate o2.isNone (aNode (0, sL s0.1 f, 0, 0, 0))) s2 = (oo, tt) := ⟨_, _, rfl⟩
  have hc3 := aC_eq hq3 (aGate_ext (aNode_ext _) _ _)
  have x3 := x2.tr hc3.2.2.2.2
  obtain ⟨o4, s4, hq4⟩ : ∃ oo tt, (aAppO o2 o3) s3 = (oo, tt) := ⟨_, _, rfl⟩
  have hc4 := aC_eq hq4 (aAppO_ext _ _ _)
  have x4 := x3.tr hc4.2.2.2.2
  obtain ⟨o5, s5, hq5⟩ : ∃ oo tt, (aAppO o1 o4) s4 = (oo, tt) := ⟨_, _, rfl⟩
  have hc5 := aC_eq hq5 (aAppO_ext _ _ _)
  have x5 := x4.tr hc5.2.2.2.2
  have hE := aFire_eq hq1 hq2 hq3 hq4 hq5
  obtain ⟨hRC, hRS⟩ := aC_all hE x5
  obtain ⟨hL1, hR1⟩ := parts_of hokk hf h2
  refine lv_aload_n hx hb dX3_fire_0 rfl (lv_at hl 0 rfl) ?_
  refine lv_aload_n hx hb dX3_fire_1 rfl (lv_at hl 0 rfl) ?_
  refine lv_aload_n hx hb dX3_fire_2 rfl (lv_at hl 0 rfl) ?_
  refine r_get (ci := 3) (v := .ref (ad 3)) (C := RX3) (T := TX3) (N := 4) hx hb hts inlX3 hown hK hs (21) (by omega) he210 rfl 0 (by decide) (hts _ w_fl_RX3_15) rfl dX3_fire_3 ?_
  refine lv_iload_n hx hb dX3_fire_6 rfl (lv_at hl 1 rfl) ?_
  refine r_callViR (ci := 6) (As := [.int (nI f)]) hx hb hml hown hts hK hA hs (3) (by omega) hest0 rfl rfl (c_X6_rightOfN l G h0 f (by omega)) (cwV 1 hts (tbV w_ml_RX3_76 w_im_yX6_rightOf w_se_yX6_rightOf w_ini_RX6 w_cd_yX6_rightOf) rfl rfl rfl (by decide +kernel) ⟨Nat.le_of_ble_eq_true rfl, Nat.le_of_ble_eq_true rfl⟩) rfl hl.1 rfl (Nat.le_of_ble_eq_true rfl) dX3_fire_7 ⟨by show _ ≤ aC (aFire f o) s0; omega, by show _ ≤ aS (aFire f o) s0; omega⟩ (fun H locs hs => ?_)
  refine lv_iload_n hx hb dX3_fire_10 rfl (lv_at hl 2 rfl) ?_
  refine r_callVi (ci := 3) (As := [.int (nI (sR s0.1 f)), .int (aR o)]) hx hb hml hown hts hK hA hs (21) (by omega) he210 rfl rfl (c_X3_lambda l G (o := o) hW (a := sR s0.1 f) (hR1) (ho)) (cwV 2 hts (tbV w_ml_RX3_61 w_im_yX3_lambda w_se_yX3_lambda w_ini_RX3 w_cd_yX3_lambda) rfl rfl rfl (by decide +kernel) ⟨Nat.le_of_ble_eq_true rfl, Nat.le_of_ble_eq_true rfl⟩) rfl hl.1 rfl (Nat.le_of_ble_eq_true rfl) dX3_fire_11 ⟨by show _ ≤ aC (aFire f o) s0; omega, by show _ ≤ aS (aFire f o) s0; omega⟩ (fun r_4 ad_1 en_2 H locs hp_3 hs => ?_)
  obtain ⟨hr1, hW1, hf1⟩ := hp_3
  rw [hq1] at hr1 hW1
  have hW1 : PmW G n ad_1 en_2 s1 jd RR SL S sf o1.isNone := hW1
  have v1 := lamO_q hq1 (ho)
  rw [show r_4 = aR o1 from hr1]
  obtain ⟨hp_5, hdp_5, hOp_5, hnp_5, he21p_5⟩ := id hW1
  obtain ⟨fstp_5, hestp_5⟩ : ∃ fs, en_2 3 = .inr (6, fs) := ⟨_, hp_5.2.1⟩
  obtain ⟨fndp_5, hendp_5⟩ : ∃ fs, en_2 11 = .inr (2, fs) := ⟨_, hdp_5.2.1⟩
  have frp_5 := Fr_tr Fr_rf hf1
  have hl : lv_has ls 3 [(0, .ref (ad_1 21)), (1, .int (nI f)), (2, .int (aR o))] := by rw [hf1.1 21 (by omega) (by unfold pmA; omega)]; exact hl
  refine r_st (st2 := [.int (aR o1), .ref (ad_1 21)]) (by rw [hf1.1 21 (by omega) (by unfold pmA; omega)]) ?_
  have hn1_ : nsOK s1.1 s1.2 := hOp_5.1
  refine lv_aload_n hx hb dX3_fire_14 rfl (lv_at hl 0 rfl) ?_
  refine lv_aload_n hx hb dX3_fire_15 rfl (lv_at hl 0 rfl) ?_
  refine lv_iload_n hx hb dX3_fire_16 rfl (lv_at hl 1 rfl) ?_
  refine r_callVi (ci := 3) (As := [.int (nI f)]) hx hb hml hown hts hK hA hs (21) (by omega) he21p_5 rfl rfl (c_X3_given l G hW1 (f1 := f) (by have := sExt_len x1; omega)) (cwV 1 hts (tbV w_ml_RX3_49 w_im_yX3_given w_se_yX3_given w_ini_RX3 w_cd_yX3_given) rfl rfl rfl (by decide +kernel) ⟨Nat.le_of_ble_eq_true rfl, Nat.le_of_ble_eq_true rfl⟩) rfl hl.1 rfl (Nat.le_of_ble_eq_true rfl) dX3_fire_17 ⟨by show _ ≤ aC (aFire f o) s0; omega, by show _ ≤ aS (aFire f o) s0; omega⟩ (fun r_9 ad_6 en_7 H locs hp_8 hs => ?_)
  obtain ⟨hr2, hW2, hf2⟩ := hp_8
  rw [hq2] at hr2 hW2
  have hW2 : PmW G n ad_6 en_7 s2 jd RR SL S sf o2.isNone := hW2
  have v2 := gate_q hq2
  rw [show r_9 = aR o2 from hr2]
  obtain ⟨hp_10, hdp_10, hOp_10, hnp_10, he21p_10⟩ := id hW2
  obtain ⟨fstp_10, hestp_10⟩ : ∃ fs, en_7 3 = .inr (6, fs) := ⟨_, hp_10.2.1⟩
  obtain ⟨fndp_10, hendp_10⟩ : ∃ fs, en_7 11 = .inr (2, fs) := ⟨_, hdp_10.2.1⟩
  have frp_10 := Fr_tr frp_5 hf2
  have hl : lv_has ls 3 [(0, .ref (ad_6 21)), (1, .int (nI f)), (2, .int (aR o))] := by rw [hf2.1 21 (by omega) (by unfold pmA; omega)]; exact hl
  refine r_st (st2 := [.int (aR o2), .ref (ad_6 21), .int (aR o1), .ref (ad_6 21)]) (by rw [hf2.1 21 (by omega) (by unfold pmA; omega)]) ?_
  have hn2_ : nsOK s2.1 s2.2 := hOp_10.1
  refine lv_aload_n hx hb dX3_fire_20 rfl (lv_at hl 0 rfl) ?_
  refine lv_aload_n hx hb dX3_fire_21 rfl (lv_at hl 0 rfl) ?_
  refine r_get (ci := 3) (v := .ref (ad_6 3)) (C := RX3) (T := TX3) (N := 4) hx hb hts inlX3 hown hK hs (21) (by omega) he21p_10 rfl 0 (by decide) (hts _ w_fl_RX3_15) rfl dX3_fire_22 ?_
  refine lv_iload_n hx hb dX3_fire_25 rfl (lv_at hl 1 rfl) ?_
  refine r_callViR (ci := 6) (As := [.int (nI f)]) hx hb hml hown hts hK hA hs (3) (by omega) hestp_10 rfl rfl (c_X6_leftOfN l G hp_10 f (by omega)) (cwV 1 hts (tbV w_ml_RX3_56 w_im_yX6_leftOf w_se_yX6_leftOf w_ini_RX6 w_cd_yX6_leftOf) rfl rfl rfl (by decide +kernel) ⟨Nat.le_of_ble_eq_true rfl, Nat.le_of_ble_eq_true rfl⟩) rfl hl.1 rfl (Nat.le_of_ble_eq_true rfl) dX3_fire_26 ⟨by show _ ≤ aC (aFire f o) s0; omega, by show _ ≤ aS (aFire f o) s0; omega⟩ (fun H locs hs => ?_)
  refine r_topi (y := nI (sL s0.1 f)) (by rw [(sR_ext x2 hf.2).2]) ?_
  refine r_callVi (ci := 3) (As := [.int (nI (sL s0.1 f))]) hx hb hml hown hts hK hA hs (21) (by omega) he21p_10 rfl rfl (c_X3_given l G hW2 (f1 := sL s0.1 f) (by have := sExt_len x2; omega)) (cwV 1 hts (tbV w_ml_RX3_49 w_im_yX3_given w_se_yX3_given w_ini_RX3 w_cd_yX3_given) rfl rfl rfl (by decide +kernel) ⟨Nat.le_of_ble_eq_true rfl, Nat.le_of_ble_eq_true rfl⟩) rfl hl.1 rfl (Nat.le_of_ble_eq_true rfl) dX3_fire_29 ⟨by show _ ≤ aC (aFire f o) s0; omega, by show _ ≤ aS (aFire f o) s0; omega⟩ (fun r_14 ad_11 en_12 H locs hp_13 hs => ?_)
  obtain ⟨hr3, hW3, hf3⟩ := hp_13
  rw [hq3] at hr3 hW3
  have hW3 : PmW G n ad_11 en_12 s3 jd RR SL S sf o3.isNone := hW3
  have v3 := gate_q hq3
  rw [show r_14 = aR o3 from hr3]
  obtain ⟨hp_15, hdp_15, hOp_15, hnp_15, he21p_15⟩ := id hW3
  obtain ⟨fstp_15, hestp_15⟩ : ∃ fs, en_12 3 = .inr (6, fs) := ⟨_, hp_15.2.1⟩
  obtain ⟨fndp_15, hendp_15⟩ : ∃ fs, en_12 11 = .inr (2, fs) := ⟨_, hdp_15.2.1⟩
  have frp_15 := Fr_tr frp_10 hf3
  have hl : lv_has ls 3 [(0, .ref (ad_11 21)), (1, .int (nI f)), (2, .int (aR o))] := by rw [hf3.1 21 (by omega) (by unfold pmA; omega)]; exact hl
  refine r_st (st2 := [.int (aR o3), .int (aR o2), .ref (ad_11 21), .int (aR o1), .ref (ad_11 21)]) (by rw [hf3.1 21 (by omega) (by unfold pmA; omega)]) ?_
  have hn3_ : nsOK s3.1 s3.2 := hOp_15.1
  refine r_callVi (ci := 3) (As := [.int (aR o2), .int (aR o3)]) hx hb hml hown hts hK hA hs (21) (by omega) he21p_15 rfl rfl (c_X3_apply l G (o1 := o2) (o2 := o3) hW3 (fun _ _ => by rw [(sR_ext x3 hf.2).1]; exact hR1.1) ((v2.1.mono hc3.2.2.2.2).fn) (v3.1.vd) (fun q => v3.2 (none_i q))) (cwV 2 hts (tbV w_ml_RX3_83 w_im_yX3_apply w_se_yX3_apply w_ini_RX3 w_cd_yX3_apply) rfl rfl rfl (by decide +kernel) ⟨Nat.le_of_ble_eq_true rfl, Nat.le_of_ble_eq_true rfl⟩) rfl hl.1 rfl (Nat.le_of_ble_eq_true rfl) dX3_fire_32 ⟨by show _ ≤ aC (aFire f o) s0; omega, by show _ ≤ aS (aFire f o) s0; omega⟩ (fun r_19 ad_16 en_17 H locs hp_18 hs => ?_)
  obtain ⟨hr4, hW4, hf4⟩ := hp_18
  rw [hq4] at hr4 hW4
  have hW4 : PmW G n ad_16 en_17 s4 jd RR SL S sf o4.isNone := hW4
  have v4 := appO_q hq4 ((v2.1.mono hc3.2.2.2.2).fn)
  rw [show r_19 = aR o4 from hr4]
  obtain ⟨hp_20, hdp_20, hOp_20, hnp_20, he21p_20⟩ := id hW4
  obtain ⟨fstp_20, hestp_20⟩ : ∃ fs, en_17 3 = .inr (6, fs) := ⟨_, hp_20.2.1⟩
  obtain ⟨fndp_20, hendp_20⟩ : ∃ fs, en_17 11 = .inr (2, fs) := ⟨_, hdp_20.2.1⟩
  have frp_20 := Fr_tr frp_15 hf4
  have hl : lv_has ls 3 [(0, .ref (ad_16 21)), (1, .int (nI f)), (2, .int (aR o))] := by rw [hf4.1 21 (by omega) (by unfold pmA; omega)]; exact hl
  refine r_st (st2 := [.int (aR o4), .int (aR o1), .ref (ad_16 21)]) (by rw [hf4.1 21 (by omega) (by unfold pmA; omega)]) ?_
  have hn4_ : nsOK s4.1 s4.2 := hOp_20.1
  refine r_callVi (ci := 3) (As := [.int (aR o1), .int (aR o4)]) hx hb hml hown hts hK hA hs (21) (by omega) he21p_20 rfl rfl (c_X3_apply l G (o1 := o1) (o2 := o4) hW4 (fun _ _ => hgt) ((((v1.1.mono hc2.2.2.2.2 hn1_).mono hc3.2.2.2.2 hn2_).mono hc4.2.2.2.2 hn3_)) (v4.1.vd) (fun q => v4.2 (v3.2 (none_i (v2.2 (none_i q)))))) (cwV 2 hts (tbV w_ml_RX3_83 w_im_yX3_apply w_se_yX3_apply w_ini_RX3 w_cd_yX3_apply) rfl rfl rfl (by decide +kernel) ⟨Nat.le_of_ble_eq_true rfl, Nat.le_of_ble_eq_true rfl⟩) rfl hl.1 rfl (Nat.le_of_ble_eq_true rfl) dX3_fire_35 ⟨by show _ ≤ aC (aFire f o) s0; omega, by show _ ≤ aS (aFire f o) s0; omega⟩ (fun r_24 ad_21 en_22 H locs hp_23 hs => ?_)
  obtain ⟨hr5, hW5, hf5⟩ := hp_23
  rw [hq5] at hr5 hW5
  have hW5 : PmW G n ad_21 en_22 s5 jd RR SL S sf o5.isNone := hW5
  have v5 := appO_q hq5 ((((v1.1.mono hc2.2.2.2.2 hn1_).mono hc3.2.2.2.2 hn2_).mono hc4.2.2.2.2 hn3_))
  rw [show r_24 = aR o5 from hr5]
  obtain ⟨hp_25, hdp_25, hOp_25, hnp_25, he21p_25⟩ := id hW5
  obtain ⟨fstp_25, hestp_25⟩ : ∃ fs, en_22 3 = .inr (6, fs) := ⟨_, hp_25.2.1⟩
  obtain ⟨fndp_25, hendp_25⟩ : ∃ fs, en_22 11 = .inr (2, fs) := ⟨_, hdp_25.2.1⟩
  have frp_25 := Fr_tr frp_20 hf5
  have hl : lv_has ls 3 [(0, .ref (ad_21 21)), (1, .int (nI f)), (2, .int (aR o))] := by rw [hf5.1 21 (by omega) (by unfold pmA; omega)]; exact hl
  have hn5_ : nsOK s5.1 s5.2 := hOp_25.1
  refine r_iret (v := aR o5) (mc := aC (aFire f o) s0) (ms := aS (aFire f o) s0) hx hb hr hlk hs (by omega) (by omega) dX3_fire_38 hQ ?_
  exact ⟨by rw [hE], by rw [hE]; exact hW5, frp_25⟩

theorem node_hit {s : NSt} (hn : nsOK s.1 s.2) {x : Nat} {row : Row} (hx : 1 ≤ x ∧ x ≤ s.2.length) (hr : kAt s.2 x = row) : aNode row s = (some x, s) := by
  have e := nfM_hit hn.2.2 hx hr
  unfold aNode
  rw [e, if_neg (by omega)]
theorem gate_row {fl : Bool} {row : Row} {s s1 : NSt} {o : Option Nat} (h : aGate fl (aNode row) s = (o, s1)) : ∀ x, o = some x → (1 ≤ x ∧ x ≤ s1.2.length) ∧ kAt s1.2 x = row := by
  intro x hx
  cases fl with
  | true => have : (none, s) = (o, s1) := h; cases this; cases hx
  | false =>
    have h : aNode row s = (o, s1) := h
    have e1 : (aNode row s).1 = some x := by rw [h]; exact hx
    have e2 : s1 = (s.1, nMake s.2 row) := by have := aNode_st row s; rw [h] at this; exact this
    rw [e2]
    exact node_val e1
theorem hit9 {o3 o8 o9 : Option Nat} {s8 s9 : NSt} {row : Row} (h38 : o3 = none → o8 = none) (hrow : ∀ x, o3 = some x → (1 ≤ x ∧ x ≤ s8.2.length) ∧ kAt s8.2 x = row) (hn : nsOK s8.1 s8.2) (hq : aGate o8.isNone (aNode row) s8 = (o9, s9)) : s9 = s8 ∧ o9.isNone = o8.isNone ∧ (o8.isNone = false → o9 = o3) := by
  cases o8 with
  | none => have : (none, s8) = (o9, s9) := hq; cases this; exact ⟨rfl, rfl, fun q => by cases q⟩
  | some y =>
    cases o3 with
    | none => exact absurd (h38 rfl) (by simp)
    | some x =>
      have h : aNode row s8 = (o9, s9) := hq
      rw [node_hit hn (hrow x rfl).1 (hrow x rfl).2] at h
      cases h
      exact ⟨rfl, rfl, fun _ => rfl⟩
theorem app_sw {o3 o9 o11 : Option Nat} (h : o11.isNone = false → o9 = o3) : aAppO o3 o11 = aAppO o9 o11 := by
  cases o11 with
  | none => cases o3 <;> cases o9 <;> rfl
  | some x => rw [h rfl]
theorem row_mono {s t : NSt} (e : sExt s t) {x : Nat} {row : Row} (h : (1 ≤ x ∧ x ≤ s.2.length) ∧ kAt s.2 x = row) : (1 ≤ x ∧ x ≤ t.2.length) ∧ kAt t.2 x = row := by
  have := sExt_len e
  exact ⟨by omega, by rw [sExt_n e h.1.2]; exact h.2⟩
theorem getD_lt {o : Option Nat} {L : Nat} (h : ∀ x, o = some x → 1 ≤ x ∧ x ≤ L) (hL : L ≤ 8000) : o.getD 0 < 2 ^ 31 := by
  cases o with
  | none => decide
  | some x => have := h x rfl; show x < 2 ^ 31; omega
theorem c_X8_imph (l : Launch) (G : rG) {n : Nat} {ad : Nat → Nat} {en : Nat → va_E} {ss ns : List Row} {c : Nat → Nat → Int32} {us dp cl : Int32} (hM : MdW G n ad en ss ns c us 0 dp cl) {a b g : Nat} (ha : 1 ≤ a ∧ a ≤ ss.length) (hb1 : 1 ≤ b ∧ b ≤ ss.length) (hg : kFind ss (4, a, b, 0, 0) = g) (hg0 : 1 ≤ g) : CI l G yX8_implication uX8_implication (2) (48) (0) (0) [.ref (ad 22), .int (nI a), .int (nI b)] (n) (n) ad en (fun r ad1 en1 => mFr ad en ad1 en1 ∧ r = nI g ∧ MdW G n ad en1 ss ns c us 0 dp cl) := by
  have e1 : impS ss a b = some g := by unfold impS; rw [hg, if_neg (by omega)]
  have e2 : impT ss a b = ss := by unfold impT sMake; rw [hg, if_neg (by omega)]
  have q := c_X8_implication l G hM ha hb1
  rw [e1, e2] at q
  exact q
theorem g_gate {fl : Bool} {row : Row} {s s1 : NSt} {o : Option Nat} (hG : sGood s) (h : aGate fl (aNode row) s = (o, s1)) (hr : fl = false → ndOK s.1.length (s.2.length + 1) row) : sGood s1 := by
  cases fl with
  | true => have : (none, s) = (o, s1) := h; cases this; exact hG
  | false =>
    have h : aNode row s = (o, s1) := h
    have e2 : s1 = (s.1, nMake s.2 row) := by have := aNode_st row s; rw [h] at this; exact this
    rw [e2]
    refine ⟨hG.1, ?_⟩
    show nsOK s.1 (nMake s.2 row)
    unfold nMake kApp
    by_cases c : kFind s.2 row = 0
    · rw [if_pos c]
      by_cases d : s.2.length < 8000
      · rw [if_pos d]; exact nsOK_add hG.2 d (hr rfl) c
      · rw [if_neg d]; exact hG.2
    · rw [if_neg c]; exact hG.2
theorem g_imp {s : NSt} (hG : sGood s) {a b : Nat} (ha : 1 ≤ a ∧ a ≤ s.1.length) (hb : 1 ≤ b ∧ b ≤ s.1.length) : sGood (impT s.1 a b, s.2) := by
  refine ⟨(imp_ok hG.1 ha hb).2.1, ?_⟩
  show nsOK (impT s.1 a b) s.2
  unfold impT sMake kApp
  by_cases c : kFind s.1 (4, a, b, 0, 0) = 0
  · rw [if_pos c]
    by_cases d : s.1.length < 600
    · rw [if_pos d]; exact nsOK_ss hG.2
    · rw [if_neg d]; exact hG.2
  · rw [if_neg c]; exact hG.2
theorem g_lam {a gt : Nat} {o o1 : Option Nat} {s s1 : NSt} (hG : sGood s) (h : aLamO a o s = (o1, s1)) (ha : 1 ≤ a ∧ a ≤ s.1.length) (ho : oNd s o gt) : sGood s1 := by
  cases o with
  | none => have : (none, s) = (o1, s1) := h; cases this; exact hG
  | some t =>
    have h : aLam a t s = (o1, s1) := h
    have ht := ho t rfl
    have hgt := (part_lt hG.2 ⟨ht.1, ht.2.1⟩).2.1
    have hg := g_imp hG ha hgt
    cases q : impS s.1 a (nG s.2 t) with
    | none => rw [lam_n q] at h; cases h; exact hg
    | some g =>
      rw [lam_s q] at h
      have hv := (imp_ok hG.1 ha hgt).2.2 g q
      exact g_gate (fl := false) hg h (fun _ => ok_1 (by decide) ⟨hv.1, hv.2.1⟩ ⟨ht.1, ht.2.1⟩)
theorem g_app {b : Nat} {o1 o2 o3 : Option Nat} {s s1 : NSt} (hG : sGood s) (h : aAppO o1 o2 s = (o3, s1)) (hb : ∀ u, o2 = some u → 1 ≤ b) (h1 : oFn s o1 b) (h2 : ∀ x, o2 = some x → 1 ≤ x ∧ x ≤ s.2.length) : sGood s1 := by
  cases o1 with
  | none => have : (none, s) = (o3, s1) := h; cases this; exact hG
  | some t =>
    cases o2 with
    | none => have : (none, s) = (o3, s1) := h; cases this; exact hG
    | some u =>
      have q := h1 t rfl
      exact g_gate (fl := false) (row := (2, sR s.1 (nG s.2 t), t, u, 0)) hG h (fun _ => ok_2 (by decide) ⟨by rw [q.2]; exact hb u rfl, sR_le hG.1 _⟩ q.1 (h2 u rfl))
set_option maxHeartbeats 600000 in
set_option maxRecDepth 100000 in
theorem c_X8_curried (l : Launch) (G : rG) {n : Nat} {ad : Nat → Nat} {en : Nat → va_E} {s0 : NSt} {c : Nat → Nat → Int32} {us : Int32} {dp : Int32} {cl : Int32}  (hM : MdW G n ad en s0.1 s0.2 c us 0 dp cl) {o : Option Nat} (hso : o.isNone = false) {f g gt : Nat} (hf : 1 ≤ f ∧ f ≤ s0.1.length) (h2 : 2 ≤ sSort s0.1 f) (h3 : 2 ≤ sSort s0.1 (sL s0.1 f)) (ho : oNd s0 o gt) (hgt : 1 ≤ gt) (hg : 1 ≤ g ∧ g ≤ s0.1.length) {gi : Nat} (hgi : kFind s0.1 (4, sR s0.1 (sL s0.1 f), sR s0.1 f, 0, 0) = gi ∧ 1 ≤ gi ∧ gi ≤ s0.1.length) (hgg : kFind s0.1 (4, sL s0.1 (sL s0.1 f), gi, 0, 0) = g) : CI l G yX8_curried uX8_curried (4) (101) (0) (0) [.ref (ad 22), .int (nI f), .int (nI (o.getD 0))] (n) (n) ad en (mAct G n ad en c us dp cl (aUncurry f g o) s0) := by
  intro sz
  refine rMet (Qc := qI G (n) (mAct G n ad en c us dp cl (aUncurry f g o) s0)) (cc := cX8_curried) (maxL := 9) (ret := (some .int)) (by decide) rfl (Nat.le_of_ble_eq_true rfl) ?_
  intro pP eE sS mM aA bB tT cC ls A Q hc hK hsz hA hs hl hQ
  obtain ⟨hx, hb, hr, hts, hown, hlk, hnm, hml⟩ := hc
  have hl : lv_has ls 9 [(0, .ref (ad 22)), (1, .int (nI f)), (2, .int (nI (o.getD 0)))] := hl
  have fr0 : ∀ k, k < 22 → en k = en k := fun _ _ => rfl
  obtain ⟨hn48, -, -, -, hok, hnk⟩ := id hM
  have h6 := hok.1
  have h8 := hnk.1
  have x0 := sExt.rf s0
  have hn0_ : nsOK s0.1 s0.2 := hnk
  have hokk : ssOK s0.1 := hok
  have hG0 : sGood s0 := ⟨hok, hnk⟩
  have h8_0 := hn0_.1
  obtain ⟨hL1, hR1⟩ := parts_of hokk hf h2
  obtain ⟨hC1, hD1⟩ := parts_of hokk hL1 h3
  obtain ⟨o1, s1, hq1⟩ : ∃ oo tt, (aLamO (g) o) s0 = (oo, tt) := ⟨_, _, rfl⟩
  have hc1 := aC_eq hq1 (aLamO_ext _ _ _)
  have x1 := x0.tr hc1.2.2.2.2
  have v1 := lamO_q hq1 (ho)
  have hG1 : sGood s1 := g_lam hG0 hq1 (by have := sExt_len x0; omega) (ho)
  have hn1_ : nsOK s1.1 s1.2 := hG1.2
  have h8_1 := hn1_.1
  have hQ1 := hq1
  obtain ⟨o2, s2, hq2⟩ : ∃ oo tt, (aGate o1.isNone (aNode (0, f, 0, 0, 0))) s1 = (oo, tt) := ⟨_, _, rfl⟩
  have hc2 := aC_eq hq2 (aGate_ext (aNode_ext _) _ _)
  have x2 := x1.tr hc2.2.2.2.2
  have v2 := gate_q hq2
  have hG2 : sGood s2 := g_gate hG1 hq2 (fun h => ok_giv (by have := sExt_len x1; omega))
  have hn2_ : nsOK s2.1 s2.2 := hG2.2
  have h8_2 := hn2_.1
  have hQ2 := hq2
  obtain ⟨o3, s3, hq3⟩ : ∃ oo tt, (aGate o2.isNone (aNode (0, sL s0.1 (sL s0.1 f), 0, 0, 0))) s2 = (oo, tt) := ⟨_, _, rfl⟩
  have hc3 := aC_eq hq3 (aGate_ext (aNode_ext _) _ _)
  have x3 := x2.tr hc3.2.2.2.2
  have v3 := gate_q hq3
  have hG3 : sGood s3 := g_gate hG2 hq3 (fun h => ok_giv (by have := sExt_len x2; omega))
  have hn3_ : nsOK s3.1 s3.2 := hG3.2
  have h8_3 := hn3_.1
  have hQ3 := hq3
  obtain ⟨o4, s4, hq4⟩ : ∃ oo tt, (aGate o3.isNone (aNode (0, sR s0.1 (sL s0.1 f), 0, 0, 0))) s3 = (oo, tt) := ⟨_, _, rfl⟩
  have hc4 := aC_eq hq4 (aGate_ext (aNode_ext _) _ _)
  have x4 := x3.tr hc4.2.2.2.2
  have v4 := gate_q hq4
  have hG4 : sGood s4 := g_gate hG3 hq4 (fun h => ok_giv (by have := sExt_len x3; omega))
  have hn4_ : nsOK s4.1 s4.2 := hG4.2
  have h8_4 := hn4_.1
  have hQ4 := hq4
  obtain ⟨o5, s5, hq5⟩ : ∃ oo tt, (aGate o4.isNone (aNode (3, sL s0.1 f, o3.getD 0, o4.getD 0, 0))) s4 = (oo, tt) := ⟨_, _, rfl⟩
  have hc5 := aC_eq hq5 (aGate_ext (aNode_ext _) _ _)
  have x5 := x4.tr hc5.2.2.2.2
  have v5 := gate_q hq5
  have hG5 : sGood s5 := g_gate hG4 hq5 (fun h => ok_2 (by decide) (by have := sExt_len x4; omega) (((v3.1).mono hc4.2.2.2.2).vd _ (get_some (not_none (fun q => v4.2 (none_i (q))) h))) ((v4.1).vd _ (get_some h)))
  have hn5_ : nsOK s5.1 s5.2 := hG5.2
  have h8_5 := hn5_.1
  have hQ5 := hq5
  obtain ⟨o6, s6, hq6⟩ : ∃ oo tt, (aAppO o2 o5) s5 = (oo, tt) := ⟨_, _, rfl⟩
  have hc6 := aC_eq hq6 (aAppO_ext _ _ _)
  have x6 := x5.tr hc6.2.2.2.2
  have v6 := appO_q hq6 (((((v2.1).mono hc3.2.2.2.2).mono hc4.2.2.2.2).mono hc5.2.2.2.2).fn)
  have hG6 : sGood s6 := g_app hG5 hq6 (fun _ _ => by rw [(sR_ext x5 hf.2).1]; exact hR1.1) (((((v2.1).mono hc3.2.2.2.2).mono hc4.2.2.2.2).mono hc5.2.2.2.2).fn) ((v5.1).vd)
  have hn6_ : nsOK s6.1 s6.2 := hG6.2
  have h8_6 := hn6_.1
  have hQ6 := hq6
  obtain ⟨o7, s7, hq7⟩ : ∃ oo tt, (aLamO (sR s0.1 (sL s0.1 f)) o6) s6 = (oo, tt) := ⟨_, _, rfl⟩
  have hc7 := aC_eq hq7 (aLamO_ext _ _ _)
  have x7 := x6.tr hc7.2.2.2.2
  have v7 := lamO_q hq7 (v6.1)
  have hG7 : sGood s7 := g_lam hG6 hq7 (by have := sExt_len x6; omega) (v6.1)
  have hn7_ : nsOK s7.1 s7.2 := hG7.2
  have h8_7 := hn7_.1
  have hQ7 := hq7
  obtain ⟨o8, s8, hq8⟩ : ∃ oo tt, (aLamO (sL s0.1 (sL s0.1 f)) o7) s7 = (oo, tt) := ⟨_, _, rfl⟩
  have hc8 := aC_eq hq8 (aLamO_ext _ _ _)
  have x8 := x7.tr hc8.2.2.2.2
  have v8 := lamO_q hq8 ((v7.1).self)
  have hG8 : sGood s8 := g_lam hG7 hq8 (by have := sExt_len x7; omega) ((v7.1).self)
  have hn8_ : nsOK s8.1 s8.2 := hG8.2
  have h8_8 := hn8_.1
  have hQ8 := hq8
  obtain ⟨o9, s9, hq9⟩ : ∃ oo tt, (aAppO o1 o8) s8 = (oo, tt) := ⟨_, _, rfl⟩
  have hc9 := aC_eq hq9 (aAppO_ext _ _ _)
  have x9 := x8.tr hc9.2.2.2.2
  have v9 := appO_q hq9 ((((((((v1.1).mono hc2.2.2.2.2 hn1_).mono hc3.2.2.2.2 hn2_).mono hc4.2.2.2.2 hn3_).mono hc5.2.2.2.2 hn4_).mono hc6.2.2.2.2 hn5_).mono hc7.2.2.2.2 hn6_).mono hc8.2.2.2.2 hn7_)
  have hG9 : sGood s9 := g_app hG8 hq9 (fun _ _ => hgt) ((((((((v1.1).mono hc2.2.2.2.2 hn1_).mono hc3.2.2.2.2 hn2_).mono hc4.2.2.2.2 hn3_).mono hc5.2.2.2.2 hn4_).mono hc6.2.2.2.2 hn5_).mono hc7.2.2.2.2 hn6_).mono hc8.2.2.2.2 hn7_) (((v8.1).self).vd)
  have hn9_ : nsOK s9.1 s9.2 := hG9.2
  have h8_9 := hn9_.1
  have hQ9 := hq9
  have hE := aUncurry_eq hq1 hq2 hq3 hq4 hq5 hq6 hq7 hq8 hq9
  refine lv_aload_n hx hb dX8_curried_0 rfl (lv_at hl 0 rfl) ?_
  refine r_get (ci := 8) (v := .ref (ad 24)) (C := RX8) (T := TX8) (N := 31) hx hb hts inlX8 hown hK hs (22) (by omega) (md22 hM) rfl 1 (by decide) (hts _ w_fl_RX8_13) rfl dX8_curried_1 ?_
  refine lv_aload_n hx hb dX8_curried_4 rfl (lv_at hl 0 rfl) ?_
  refine r_get (ci := 8) (v := .ref (ad 24)) (C := RX8) (T := TX8) (N := 31) hx hb hts inlX8 hown hK hs (22) (by omega) (md22 hM) rfl 1 (by decide) (hts _ w_fl_RX8_13) rfl dX8_curried_5 ?_
  refine lv_iload_n hx hb dX8_curried_8 rfl (lv_at hl 1 rfl) ?_
  refine r_ialdN (t := f) hx hb hK hs (24) (by omega) (md24 hM) (rfl) (by omega) (by omega) dX8_curried_9 ?_
  refine r_topi (y := nI (sL s0.1 (f))) rfl ?_
  refine r_ialdN (t := sL s0.1 (f)) hx hb hK hs (24) (by omega) (md24 hM) (rfl) (by omega) (by omega) dX8_curried_10 ?_
  refine r_topi (y := nI (sL s0.1 (sL s0.1 (f)))) rfl ?_
  refine lv_istore_n (lv' := [(3, .int (nI (sL s0.1 (sL s0.1 (f))))), (0, .ref (ad 22)), (1, .int (nI f)), (2, .int (nI (o.getD 0)))]) hx hb dX8_curried_11 rfl hl (by decide) rfl (fun ls hl => ?_)
  refine lv_aload_n hx hb dX8_curried_12 rfl (lv_at hl 1 rfl) ?_
  refine r_get (ci := 8) (v := .ref (ad 25)) (C := RX8) (T := TX8) (N := 31) hx hb hts inlX8 hown hK hs (22) (by omega) (md22 hM) rfl 2 (by decide) (hts _ w_fl_RX8_16) rfl dX8_curried_13 ?_
  refine lv_aload_n hx hb dX8_curried_16 rfl (lv_at hl 1 rfl) ?_
  refine r_get (ci := 8) (v := .ref (ad 24)) (C := RX8) (T := TX8) (N := 31) hx hb hts inlX8 hown hK hs (22) (by omega) (md22 hM) rfl 1 (by decide) (hts _ w_fl_RX8_13) rfl dX8_curried_17 ?_
  refine lv_iload_n hx hb dX8_curried_20 rfl (lv_at hl 2 rfl) ?_
  refine r_ialdN (t := f) hx hb hK hs (24) (by omega) (md24 hM) (rfl) (by omega) (by omega) dX8_curried_21 ?_
  refine r_topi (y := nI (sL s0.1 (f))) rfl ?_
  refine r_ialdN (t := sL s0.1 (f)) hx hb hK hs (25) (by omega) (md25 hM) (rfl) (by omega) (by omega) dX8_curried_22 ?_
  refine r_topi (y := nI (sR s0.1 (sL s0.1 (f)))) rfl ?_
  refine lv_istore (lv' := [(4, .int (nI (sR s0.1 (sL s0.1 (f))))), (3, .int (nI (sL s0.1 (sL s0.1 (f))))), (0, .ref (ad 22)), (1, .int (nI f)), (2, .int (nI (o.getD 0)))]) hx hb dX8_curried_23 hl (by decide) rfl (fun ls hl => ?_)
  refine lv_aload_n hx hb dX8_curried_25 rfl (lv_at hl 2 rfl) ?_
  refine lv_aload_n hx hb dX8_curried_26 rfl (lv_at hl 2 rfl) ?_
  refine lv_iload_n hx hb dX8_curried_27 rfl (lv_at hl 1 rfl) ?_
  refine lv_aload_n hx hb dX8_curried_28 rfl (lv_at hl 2 rfl) ?_
  refine lv_iload hx hb dX8_curried_29 (lv_at hl 0 rfl) ?_
  refine lv_aload_n hx hb dX8_curried_31 rfl (lv_at hl 2 rfl) ?_
  refine r_get (ci := 8) (v := .ref (ad 25)) (C := RX8) (T := TX8) (N := 31) hx hb hts inlX8 hown hK hs (22) (by omega) (md22 hM) rfl 2 (by decide) (hts _ w_fl_RX8_16) rfl dX8_curried_32 ?_
  refine lv_iload_n hx hb dX8_curried_35 rfl (lv_at hl 3 rfl) ?_
  refine r_ialdN (t := f) hx hb hK hs (25) (by omega) (md25 hM) (rfl) (by omega) (by omega) dX8_curried_36 ?_
  refine r_topi (y := nI (sR s0.1 (f))) rfl ?_
  refine r_callVi (ci := 8) (As := [.int (nI (sR s0.1 (sL s0.1 (f)))), .int (nI (sR s0.1 (f)))]) hx hb hml hown hts hK hA hs (22) (by omega) (md22 hM) rfl rfl (c_X8_imph l G hM (a := sR s0.1 (sL s0.1 f)) (b := sR s0.1 f) (g := gi) (hD1) (hR1) (hgi.1) (hgi.2.1)) (cwV 2 hts (tbV w_ml_RX8_141 w_im_yX8_implication w_se_yX8_implication w_ini_RX8 w_cd_yX8_implication) rfl rfl rfl (by decide +kernel) ⟨Nat.le_of_ble_eq_true rfl, Nat.le_of_ble_eq_true rfl⟩) rfl hl.1 rfl (Nat.le_of_ble_eq_true rfl) dX8_curried_37 ⟨Nat.le_refl _, Nat.le_refl _⟩ (fun r_4 ad_1 en_2 H locs hp_3 hs => ?_)
  obtain ⟨⟨hAm_5, hFm_5⟩, hrm_5, hMm_5⟩ := hp_3
  subst hAm_5
  rw [hrm_5]
  have fr_6 : ∀ k, k < 22 → en_2 k = en k := fun k hk => Eq.trans (hFm_5 k hk) (fr0 k hk)
  refine r_callVi (ci := 8) (As := [.int (nI (sL s0.1 (sL s0.1 (f)))), .int (nI gi)]) hx hb hml hown hts hK hA hs (22) (by omega) (md22 hMm_5) rfl rfl (c_X8_imph l G hMm_5 (a := sL s0.1 (sL s0.1 f)) (b := gi) (g := g) (hC1) (hgi.2) (hgg) (hg.1)) (cwV 2 hts (tbV w_ml_RX8_141 w_im_yX8_implication w_se_yX8_implication w_ini_RX8 w_cd_yX8_implication) rfl rfl rfl (by decide +kernel) ⟨Nat.le_of_ble_eq_true rfl, Nat.le_of_ble_eq_true rfl⟩) rfl hl.1 rfl (Nat.le_of_ble_eq_true rfl) dX8_curried_40 ⟨Nat.le_refl _, Nat.le_refl _⟩ (fun r_10 ad_7 en_8 H locs hp_9 hs => ?_)
  obtain ⟨⟨hAm_11, hFm_11⟩, hrm_11, hMm_11⟩ := hp_9
  subst hAm_11
  rw [hrm_11]
  have fr_12 : ∀ k, k < 22 → en_8 k = en k := fun k hk => Eq.trans (hFm_11 k hk) (fr_6 k hk)
  refine lv_iload_n hx hb dX8_curried_43 rfl (lv_at hl 4 rfl) ?_
  have hO_13 : MdW G n ad en_8 s0.1 s0.2 c us ((ovB o.isNone)) dp cl := by rw [show ovB o.isNone = 0 from by rw [hso]; rfl]; exact hMm_11
  refine r_callVi (ci := 8) (As := [.int (nI g), .int (nI (o.getD 0))]) hx hb hml hown hts hK hA hs (22) (by omega) (md22 hMm_11) rfl rfl (c_X8_l l G (o := o) hO_13 (a := g) (by have := sExt_len x0; omega) (ho)) (cwV 2 hts (tbV w_ml_RX8_174 w_im_yX8_l w_se_yX8_l w_ini_RX8 w_cd_yX8_l) rfl rfl rfl (by decide +kernel) ⟨Nat.le_of_ble_eq_true rfl, Nat.le_of_ble_eq_true rfl⟩) rfl hl.1 rfl (Nat.le_of_ble_eq_true rfl) dX8_curried_44 ⟨Nat.le_refl _, Nat.le_refl _⟩ (fun r_17 ad_14 en_15 H locs hp_16 hs => ?_)
  obtain ⟨⟨hA1, hF1⟩, hr1, hN1⟩ := hp_16
  subst hA1
  rw [hQ1] at hr1 hN1
  have hN1 : MdW G n ad en_15 s1.1 s1.2 c us (ovB o1.isNone) dp cl := hN1
  rw [show r_17 = nI (o1.getD 0) from hr1]
  have fr_18 : ∀ k, k < 22 → en_15 k = en k := fun k hk => Eq.trans (hF1 k hk) (fr_12 k hk)
  refine lv_istore (lv' := [(5, .int (nI (o1.getD 0))), (4, .int (nI (sR s0.1 (sL s0.1 (f))))), (3, .int (nI (sL s0.1 (sL s0.1 (f))))), (0, .ref (ad 22)), (1, .int (nI f)), (2, .int (nI (o.getD 0)))]) hx hb dX8_curried_47 hl (by decide) rfl (fun ls hl => ?_)
  refine lv_aload_n hx hb dX8_curried_49 rfl (lv_at hl 3 rfl) ?_
  refine lv_iload_n hx hb dX8_curried_50 rfl (lv_at hl 4 rfl) ?_
  refine r_callVi (ci := 8) (As := [.int (nI f)]) hx hb hml hown hts hK hA hs (22) (by omega) (md22 hN1) rfl rfl (c_X8_v l G (fl := o1.isNone) hN1 (f := f) (by have := sExt_len x1; omega)) (cwV 1 hts (tbV w_ml_RX8_177 w_im_yX8_v w_se_yX8_v w_ini_RX8 w_cd_yX8_v) rfl rfl rfl (by decide +kernel) ⟨Nat.le_of_ble_eq_true rfl, Nat.le_of_ble_eq_true rfl⟩) rfl hl.1 rfl (Nat.le_of_ble_eq_true rfl) dX8_curried_51 ⟨Nat.le_refl _, Nat.le_refl _⟩ (fun r_22 ad_19 en_20 H locs hp_21 hs => ?_)
  obtain ⟨⟨hA2, hF2⟩, hr2, hN2⟩ := hp_21
  subst hA2
  rw [hQ2] at hr2 hN2
  have hN2 : MdW G n ad en_20 s2.1 s2.2 c us (ovB o2.isNone) dp cl := hN2
  rw [show r_22 = nI (o2.getD 0) from hr2]
  have fr_23 : ∀ k, k < 22 → en_20 k = en k := fun k hk => Eq.trans (hF2 k hk) (fr_18 k hk)
  refine lv_istore (lv' := [(6, .int (nI (o2.getD 0))), (5, .int (nI (o1.getD 0))), (4, .int (nI (sR s0.1 (sL s0.1 (f))))), (3, .int (nI (sL s0.1 (sL s0.1 (f))))), (0, .ref (ad 22)), (1, .int (nI f)), (2, .int (nI (o.getD 0)))]) hx hb dX8_curried_54 hl (by decide) rfl (fun ls hl => ?_)
  refine lv_aload_n hx hb dX8_curried_56 rfl (lv_at hl 4 rfl) ?_
  refine lv_iload_n hx hb dX8_curried_57 rfl (lv_at hl 3 rfl) ?_
  refine r_callVi (ci := 8) (As := [.int (nI (sL s0.1 (sL s0.1 (f))))]) hx hb hml hown hts hK hA hs (22) (by omega) (md22 hN2) rfl rfl (c_X8_v l G (fl := o2.isNone) hN2 (f := sL s0.1 (sL s0.1 f)) (by have := sExt_len x2; omega)) (cwV 1 hts (tbV w_ml_RX8_177 w_im_yX8_v w_se_yX8_v w_ini_RX8 w_cd_yX8_v) rfl rfl rfl (by decide +kernel) ⟨Nat.le_of_ble_eq_true rfl, Nat.le_of_ble_eq_true rfl⟩) rfl hl.1 rfl (Nat.le_of_ble_eq_true rfl) dX8_curried_58 ⟨Nat.le_refl _, Nat.le_refl _⟩ (fun r_27 ad_24 en_25 H locs hp_26 hs => ?_)
  obtain ⟨⟨hA3, hF3⟩, hr3, hN3⟩ := hp_26
  subst hA3
  rw [hQ3] at hr3 hN3
  have hN3 : MdW G n ad en_25 s3.1 s3.2 c us (ovB o3.isNone) dp cl := hN3
  rw [show r_27 = nI (o3.getD 0) from hr3]
  have fr_28 : ∀ k, k < 22 → en_25 k = en k := fun k hk => Eq.trans (hF3 k hk) (fr_23 k hk)
  refine lv_istore (lv' := [(7, .int (nI (o3.getD 0))), (6, .int (nI (o2.getD 0))), (5, .int (nI (o1.getD 0))), (4, .int (nI (sR s0.1 (sL s0.1 (f))))), (3, .int (nI (sL s0.1 (sL s0.1 (f))))), (0, .ref (ad 22)), (1, .int (nI f)), (2, .int (nI (o.getD 0)))]) hx hb dX8_curried_61 hl (by decide) rfl (fun ls hl => ?_)
  refine lv_aload_n hx hb dX8_curried_63 rfl (lv_at hl 5 rfl) ?_
  refine lv_iconst (v := 3) hx hb dX8_curried_64 (by decide) ?_
  refine lv_aload_n hx hb dX8_curried_65 rfl (lv_at hl 5 rfl) ?_
  refine r_get (ci := 8) (v := .ref (ad 24)) (C := RX8) (T := TX8) (N := 31) hx hb hts inlX8 hown hK hs (22) (by omega) (md22 hN3) rfl 1 (by decide) (hts _ w_fl_RX8_13) rfl dX8_curried_66 ?_
  refine lv_iload_n hx hb dX8_curried_69 rfl (lv_at hl 6 rfl) ?_
  refine r_ialdN (t := f) hx hb hK hs (24) (by omega) (md24 hN3) (rfl) (by omega) (by omega) dX8_curried_70 ?_
  refine r_topi (y := nI (sL s3.1 (f))) rfl ?_
  refine r_topi (y := nI (sL s0.1 f)) (by rw [(sR_ext x3 hf.2).2]) ?_
  refine lv_iload hx hb dX8_curried_71 (lv_at hl 0 rfl) ?_
  refine lv_aload_n hx hb dX8_curried_73 rfl (lv_at hl 5 rfl) ?_
  refine lv_iload hx hb dX8_curried_74 (lv_at hl 3 rfl) ?_
  refine r_callVi (ci := 8) (As := [.int (nI (sR s0.1 (sL s0.1 (f))))]) hx hb hml hown hts hK hA hs (22) (by omega) (md22 hN3) rfl rfl (c_X8_v l G (fl := o3.isNone) hN3 (f := sR s0.1 (sL s0.1 f)) (by have := sExt_len x3; omega)) (cwV 1 hts (tbV w_ml_RX8_177 w_im_yX8_v w_se_yX8_v w_ini_RX8 w_cd_yX8_v) rfl rfl rfl (by decide +kernel) ⟨Nat.le_of_ble_eq_true rfl, Nat.le_of_ble_eq_true rfl⟩) rfl hl.1 rfl (Nat.le_of_ble_eq_true rfl) dX8_curried_76 ⟨Nat.le_refl _, Nat.le_refl _⟩ (fun r_32 ad_29 en_30 H locs hp_31 hs => ?_)
  obtain ⟨⟨hA4, hF4⟩, hr4, hN4⟩ := hp_31
  subst hA4
  rw [hQ4] at hr4 hN4
  have hN4 : MdW G n ad en_30 s4.1 s4.2 c us (ovB o4.isNone) dp cl := hN4
  rw [show r_32 = nI (o4.getD 0) from hr4]
  have fr_33 : ∀ k, k < 22 → en_30 k = en k := fun k hk => Eq.trans (hF4 k hk) (fr_28 k hk)
  refine lv_iconst (v := 0) hx hb dX8_curried_79 (by decide) ?_
  refine r_callVi (ci := 8) (As := [.int (3), .int (nI (sL s0.1 f)), .int (nI (o3.getD 0)), .int (nI (o4.getD 0)), .int (0)]) hx hb hml hown hts hK hA hs (22) (by omega) (md22 hN4) rfl rfl (c_X8_put l G (fl := o4.isNone) hN4 (tg := 3) (gl := sL s0.1 f) (a := o3.getD 0) (b := o4.getD 0) (c1 := 0) (by have := getD_lt (((v3.1).mono hc4.2.2.2.2).vd) h8_4; have := getD_lt ((v4.1).vd) h8_4; omega) (fun h => ok_2 (by decide) (by have := sExt_len x4; omega) (((v3.1).mono hc4.2.2.2.2).vd _ (get_some (not_none (fun q => v4.2 (none_i (q))) h))) ((v4.1).vd _ (get_some h)))) (cwV 5 hts (tbV w_ml_RX8_171 w_im_yX8_put w_se_yX8_put w_ini_RX8 w_cd_yX8_put) rfl rfl rfl (by decide +kernel) ⟨Nat.le_of_ble_eq_true rfl, Nat.le_of_ble_eq_true rfl⟩) rfl hl.1 rfl (Nat.le_of_ble_eq_true rfl) dX8_curried_80 ⟨Nat.le_refl _, Nat.le_refl _⟩ (fun r_37 ad_34 en_35 H locs hp_36 hs => ?_)
  obtain ⟨⟨hA5, hF5⟩, hr5, hN5⟩ := hp_36
  subst hA5
  rw [hQ5] at hr5 hN5
  have hN5 : MdW G n ad en_35 s5.1 s5.2 c us (ovB o5.isNone) dp cl := hN5
  rw [show r_37 = nI (o5.getD 0) from hr5]
  have fr_38 : ∀ k, k < 22 → en_35 k = en k := fun k hk => Eq.trans (hF5 k hk) (fr_33 k hk)
  refine lv_istore (lv' := [(8, .int (nI (o5.getD 0))), (7, .int (nI (o3.getD 0))), (6, .int (nI (o2.getD 0))), (5, .int (nI (o1.getD 0))), (4, .int (nI (sR s0.1 (sL s0.1 (f))))), (3, .int (nI (sL s0.1 (sL s0.1 (f))))), (0, .ref (ad 22)), (1, .int (nI f)), (2, .int (nI (o.getD 0)))]) hx hb dX8_curried_83 hl (by decide) rfl (fun ls hl => ?_)
  refine lv_aload_n hx hb dX8_curried_85 rfl (lv_at hl 6 rfl) ?_
  refine lv_iload hx hb dX8_curried_86 (lv_at hl 3 rfl) ?_
  refine lv_aload_n hx hb dX8_curried_88 rfl (lv_at hl 6 rfl) ?_
  refine lv_iload_n hx hb dX8_curried_89 rfl (lv_at hl 5 rfl) ?_
  refine lv_aload_n hx hb dX8_curried_90 rfl (lv_at hl 6 rfl) ?_
  refine lv_iload hx hb dX8_curried_91 (lv_at hl 4 rfl) ?_
  refine lv_aload_n hx hb dX8_curried_93 rfl (lv_at hl 6 rfl) ?_
  refine lv_iload hx hb dX8_curried_94 (lv_at hl 2 rfl) ?_
  refine lv_iload hx hb dX8_curried_96 (lv_at hl 0 rfl) ?_
  refine r_callVi (ci := 8) (As := [.int (nI (o2.getD 0)), .int (nI (o5.getD 0))]) hx hb hml hown hts hK hA hs (22) (by omega) (md22 hN5) rfl rfl (c_X8_a l G (o1 := o2) (o2 := o5) hN5 (fun _ _ => by rw [(sR_ext x5 hf.2).1]; exact hR1.1) (((((v2.1).mono hc3.2.2.2.2).mono hc4.2.2.2.2).mono hc5.2.2.2.2).fn) ((v5.1).vd) (fun q => v5.2 (none_i (v4.2 (none_i (v3.2 (none_i (q)))))))) (cwV 2 hts (tbV w_ml_RX8_184 w_im_yX8_a w_se_yX8_a w_ini_RX8 w_cd_yX8_a) rfl rfl rfl (by decide +kernel) ⟨Nat.le_of_ble_eq_true rfl, Nat.le_of_ble_eq_true rfl⟩) rfl hl.1 rfl (Nat.le_of_ble_eq_true rfl) dX8_curried_98 ⟨Nat.le_refl _, Nat.le_refl _⟩ (fun r_42 ad_39 en_40 H locs hp_41 hs => ?_)
  obtain ⟨⟨hA6, hF6⟩, hr6, hN6⟩ := hp_41
  subst hA6
  rw [hQ6] at hr6 hN6
  have hN6 : MdW G n ad en_40 s6.1 s6.2 c us (ovB o6.isNone) dp cl := hN6
  rw [show r_42 = nI (o6.getD 0) from hr6]
  have fr_43 : ∀ k, k < 22 → en_40 k = en k := fun k hk => Eq.trans (hF6 k hk) (fr_38 k hk)
  refine r_callVi (ci := 8) (As := [.int (nI (sR s0.1 (sL s0.1 (f)))), .int (nI (o6.getD 0))]) hx hb hml hown hts hK hA hs (22) (by omega) (md22 hN6) rfl rfl (c_X8_l l G (o := o6) hN6 (a := sR s0.1 (sL s0.1 f)) (by have := sExt_len x6; omega) (v6.1)) (cwV 2 hts (tbV w_ml_RX8_174 w_im_yX8_l w_se_yX8_l w_ini_RX8 w_cd_yX8_l) rfl rfl rfl (by decide +kernel) ⟨Nat.le_of_ble_eq_true rfl, Nat.le_of_ble_eq_true rfl⟩) rfl hl.1 rfl (Nat.le_of_ble_eq_true rfl) dX8_curried_101 ⟨Nat.le_refl _, Nat.le_refl _⟩ (fun r_47 ad_44 en_45 H locs hp_46 hs => ?_)
  obtain ⟨⟨hA7, hF7⟩, hr7, hN7⟩ := hp_46
  subst hA7
  rw [hQ7] at hr7 hN7
  have hN7 : MdW G n ad en_45 s7.1 s7.2 c us (ovB o7.isNone) dp cl := hN7
  rw [show r_47 = nI (o7.getD 0) from hr7]
  have fr_48 : ∀ k, k < 22 → en_45 k = en k := fun k hk => Eq.trans (hF7 k hk) (fr_43 k hk)
  refine r_callVi (ci := 8) (As := [.int (nI (sL s0.1 (sL s0.1 (f)))), .int (nI (o7.getD 0))]) hx hb hml hown hts hK hA hs (22) (by omega) (md22 hN7) rfl rfl (c_X8_l l G (o := o7) hN7 (a := sL s0.1 (sL s0.1 f)) (by have := sExt_len x7; omega) ((v7.1).self)) (cwV 2 hts (tbV w_ml_RX8_174 w_im_yX8_l w_se_yX8_l w_ini_RX8 w_cd_yX8_l) rfl rfl rfl (by decide +kernel) ⟨Nat.le_of_ble_eq_true rfl, Nat.le_of_ble_eq_true rfl⟩) rfl hl.1 rfl (Nat.le_of_ble_eq_true rfl) dX8_curried_104 ⟨Nat.le_refl _, Nat.le_refl _⟩ (fun r_52 ad_49 en_50 H locs hp_51 hs => ?_)
  obtain ⟨⟨hA8, hF8⟩, hr8, hN8⟩ := hp_51
  subst hA8
  rw [hQ8] at hr8 hN8
  have hN8 : MdW G n ad en_50 s8.1 s8.2 c us (ovB o8.isNone) dp cl := hN8
  rw [show r_52 = nI (o8.getD 0) from hr8]
  have fr_53 : ∀ k, k < 22 → en_50 k = en k := fun k hk => Eq.trans (hF8 k hk) (fr_48 k hk)
  refine r_callVi (ci := 8) (As := [.int (nI (o1.getD 0)), .int (nI (o8.getD 0))]) hx hb hml hown hts hK hA hs (22) (by omega) (md22 hN8) rfl rfl (c_X8_a l G (o1 := o1) (o2 := o8) hN8 (fun _ _ => hgt) ((((((((v1.1).mono hc2.2.2.2.2 hn1_).mono hc3.2.2.2.2 hn2_).mono hc4.2.2.2.2 hn3_).mono hc5.2.2.2.2 hn4_).mono hc6.2.2.2.2 hn5_).mono hc7.2.2.2.2 hn6_).mono hc8.2.2.2.2 hn7_) (((v8.1).self).vd) (fun q => v8.2 (v7.2 (v6.2 (v5.2 (none_i (v4.2 (none_i (v3.2 (none_i (v2.2 (none_i (q))))))))))))) (cwV 2 hts (tbV w_ml_RX8_184 w_im_yX8_a w_se_yX8_a w_ini_RX8 w_cd_yX8_a) rfl rfl rfl (by decide +kernel) ⟨Nat.le_of_ble_eq_true rfl, Nat.le_of_ble_eq_true rfl⟩) rfl hl.1 rfl (Nat.le_of_ble_eq_true rfl) dX8_curried_107 ⟨Nat.le_refl _, Nat.le_refl _⟩ (fun r_57 ad_54 en_55 H locs hp_56 hs => ?_)
  obtain ⟨⟨hA9, hF9⟩, hr9, hN9⟩ := hp_56
  subst hA9
  rw [hQ9] at hr9 hN9
  have hN9 : MdW G n ad en_55 s9.1 s9.2 c us (ovB o9.isNone) dp cl := hN9
  rw [show r_57 = nI (o9.getD 0) from hr9]
  have fr_58 : ∀ k, k < 22 → en_55 k = en k := fun k hk => Eq.trans (hF9 k hk) (fr_53 k hk)
  refine r_iret (v := nI (o9.getD 0)) (mc := 0) (ms := 0) hx hb hr hlk hs (Nat.le_refl _) (Nat.le_refl _) dX8_curried_110 hQ ?_
  unfold mAct
  rw [hE]
  exact ⟨⟨rfl, fr_58⟩, rfl, hN9⟩

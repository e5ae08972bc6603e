theorem c_X8_put (l : Launch) (G : rG) {n : Nat} {ad : Nat → Nat} {en : Nat → va_E} {s0 : NSt} {c : Nat → Nat → Int32} {us dp cl : Int32} {fl : Bool} (hM : MdW G n ad en s0.1 s0.2 c us (ovB fl) dp cl) {tg gl a b c1 : Nat} (hs1 : tg < 2 ^ 31 ∧ gl < 2 ^ 31 ∧ a < 2 ^ 31 ∧ b < 2 ^ 31 ∧ c1 < 2 ^ 31) (hrow : fl = false → ndOK s0.1.length (s0.2.length + 1) (tg, gl, a, b, c1)) : CI l G yX8_put uX8_put (1) (26) (0) (0) [.ref (ad 22), .int (nI tg), .int (nI gl), .int (nI a), .int (nI b), .int (nI c1)] (n) (n) ad en (mAct G n ad en c us dp cl (aGate fl (aNode (tg, gl, a, b, c1))) s0) := by
  cases fl with
  | false => exact c_X8_put_f l G hM hs1 (hrow rfl)
  | true => exact c_X8_put_t l G hM (nI tg) (nI gl) (nI a) (nI b) (nI c1)
set_option maxHeartbeats 600000 in
set_option maxRecDepth 100000 in
theorem c_X8_v (l : Launch) (G : rG) {n : Nat} {ad : Nat → Nat} {en : Nat → va_E} {s0 : NSt} {c : Nat → Nat → Int32} {us : Int32} {dp : Int32} {cl : Int32} {fl : Bool} (hM : MdW G n ad en s0.1 s0.2 c us ((ovB fl)) dp cl) {f : Nat} (hf : 1 ≤ f ∧ f ≤ s0.1.length) : CI l G yX8_v uX8_v (2) (52) (0) (0) [.ref (ad 22), .int (nI f)] (n) (n) ad en (mAct G n ad en c us dp cl (aGate fl (aNode (0, f, 0, 0, 0))) s0) := by
  intro sz
  refine rMet (Qc := qI G (n) (mAct G n ad en c us dp cl (aGate fl (aNode (0, f, 0, 0, 0))) s0)) (cc := cX8_v) (maxL := 2) (ret := (some .int)) (by decide) rfl (Nat.le_of_ble_eq_true rfl) ?_
  intro pP eE sS mM aA bB tT cC ls A Q hc hK hsz hA hs hl hQ
  obtain ⟨hx, hb, hr, hts, hown, hlk, hnm, hml⟩ := hc
  have hl : lv_has ls 2 [(0, .ref (ad 22)), (1, .int (nI f))] := hl
  have fr0 : ∀ k, k < 22 → en k = en k := fun _ _ => rfl
  obtain ⟨hn48, -, -, -, hok, hnk⟩ := id hM
  have h6 := hok.1
  have h8 := hnk.1
  
  refine lv_aload_n hx hb dX8_v_0 rfl (lv_at hl 0 rfl) ?_
  refine lv_iconst (v := 0) hx hb dX8_v_1 (by decide) ?_
  refine lv_iload_n hx hb dX8_v_2 rfl (lv_at hl 1 rfl) ?_
  refine lv_iconst (v := 0) hx hb dX8_v_3 (by decide) ?_
  refine lv_iconst (v := 0) hx hb dX8_v_4 (by decide) ?_
  refine lv_iconst (v := 0) hx hb dX8_v_5 (by decide) ?_
  refine r_callVi (ci := 8) (As := [.int (0), .int (nI f), .int (0), .int (0), .int (0)]) hx hb hml hown hts hK hA hs (22) (by omega) (md22 hM) rfl rfl (c_X8_put l G hM (tg := 0) (gl := f) (a := 0) (b := 0) (c1 := 0) (by omega) (fun _ => ok_giv hf)) (cwV 5 hts (tbV w_ml_RX8_171 w_im_yX8_put w_se_yX8_put w_ini_RX8 w_cd_yX8_put) rfl rfl rfl (by decide +kernel) ⟨Nat.le_of_ble_eq_true rfl, Nat.le_of_ble_eq_true rfl⟩) rfl hl.1 rfl (Nat.le_of_ble_eq_true rfl) dX8_v_6 ⟨Nat.le_refl _, Nat.le_refl _⟩ (fun r_4 ad_1 en_2 H locs hp_3 hs => ?_)
  have hfin := hp_3
  refine r_iret (v := r_4) (mc := 0) (ms := 0) hx hb hr hlk hs (Nat.le_refl _) (Nat.le_refl _) dX8_v_9 hQ ?_
  exact hfin
theorem lam_n {a t : Nat} {s : NSt} (h : impS s.1 a (nG s.2 t) = none) : aLam a t s = (none, (impT s.1 a (nG s.2 t), s.2)) := by
  have e : aImp a (nG s.2 t) s = (impS s.1 a (nG s.2 t), (impT s.1 a (nG s.2 t), s.2)) := Prod.ext (by
    unfold aImp impS
    by_cases c : kFind s.1 (4, a, nG s.2 t, 0, 0) = 0
    · rw [if_pos c, if_pos c]
      by_cases q : s.1.length < 600
      · rw [if_pos q, if_pos q]
      · rw [if_neg q, if_neg q]
    · rw [if_neg c, if_neg c]) (aImp_st _ _ _)
  unfold aLam
  rw [e, h]
theorem lam_s {a t g : Nat} {s : NSt} (h : impS s.1 a (nG s.2 t) = some g) : aLam a t s = aNode (1, g, t, 0, 0) (impT s.1 a (nG s.2 t), s.2) := by
  have e : aImp a (nG s.2 t) s = (impS s.1 a (nG s.2 t), (impT s.1 a (nG s.2 t), s.2)) := Prod.ext (by
    unfold aImp impS
    by_cases c : kFind s.1 (4, a, nG s.2 t, 0, 0) = 0
    · rw [if_pos c, if_pos c]
      by_cases q : s.1.length < 600
      · rw [if_pos q, if_pos q]
      · rw [if_neg q, if_neg q]
    · rw [if_neg c, if_neg c]) (aImp_st _ _ _)
  unfold aLam
  rw [e, h]
set_option maxHeartbeats 600000 in
set_option maxRecDepth 100000 in
theorem c_X8_l_s (l : Launch) (G : rG) {n : Nat} {ad : Nat → Nat} {en : Nat → va_E} {s0 : NSt} {c : Nat → Nat → Int32} {us : Int32} {dp : Int32} {cl : Int32}  (hM : MdW G n ad en s0.1 s0.2 c us 0 dp cl) {a t : Nat} (ha : 1 ≤ a ∧ a ≤ s0.1.length) (ht : 1 ≤ t ∧ t ≤ s0.2.length) : CI l G yX8_l uX8_l (3) (71) (0) (0) [.ref (ad 22), .int (nI a), .int (nI t)] (n) (n) ad en (mAct G n ad en c us dp cl (aLam a t) s0) := by
  intro sz
  refine rMet (Qc := qI G (n) (mAct G n ad en c us dp cl (aLam a t) s0)) (cc := cX8_l) (maxL := 3) (ret := (some .int)) (by decide) rfl (Nat.le_of_ble_eq_true rfl) ?_
  intro pP eE sS mM aA bB tT cC ls A Q hc hK hsz hA hs hl hQ
  obtain ⟨hx, hb, hr, hts, hown, hlk, hnm, hml⟩ := hc
  have hl : lv_has ls 3 [(0, .ref (ad 22)), (1, .int (nI a)), (2, .int (nI t))] := hl
  have fr0 : ∀ k, k < 22 → en k = en k := fun _ _ => rfl
  obtain ⟨hn48, -, -, -, hok, hnk⟩ := id hM
  have h6 := hok.1
  have h8 := hnk.1
  have hgt := (part_lt hnk ht).2.1
  refine lv_aload_n hx hb dX8_l_0 rfl (lv_at hl 0 rfl) ?_
  refine lv_iconst (v := 1) hx hb dX8_l_1 (by decide) ?_
  refine lv_aload_n hx hb dX8_l_2 rfl (lv_at hl 0 rfl) ?_
  refine lv_iload_n hx hb dX8_l_3 rfl (lv_at hl 1 rfl) ?_
  refine lv_aload_n hx hb dX8_l_4 rfl (lv_at hl 0 rfl) ?_
  refine r_get (ci := 8) (v := .ref (ad 27)) (C := RX8) (T := TX8) (N := 31) hx hb hts inlX8 hown hK hs (22) (by omega) (md22 hM) rfl 5 (by decide) (hts _ w_fl_RX8_22) rfl dX8_l_5 ?_
  refine lv_iload_n hx hb dX8_l_8 rfl (lv_at hl 2 rfl) ?_
  refine r_ialdN (t := t) hx hb hK hs (27) (by omega) (md27 hM) (rfl) (by omega) (by omega) dX8_l_9 ?_
  refine r_topi (y := nI (nG s0.2 (t))) rfl ?_
  refine r_callVi (ci := 8) (As := [.int (nI a), .int (nI (nG s0.2 (t)))]) hx hb hml hown hts hK hA hs (22) (by omega) (md22 hM) rfl rfl (c_X8_implication l G hM (a := a) (b := (nG s0.2 t)) (ha) (hgt)) (cwV 2 hts (tbV w_ml_RX8_141 w_im_yX8_implication w_se_yX8_implication w_ini_RX8 w_cd_yX8_implication) rfl rfl rfl (by decide +kernel) ⟨Nat.le_of_ble_eq_true rfl, Nat.le_of_ble_eq_true rfl⟩) rfl hl.1 rfl (Nat.le_of_ble_eq_true rfl) dX8_l_10 ⟨Nat.le_refl _, Nat.le_refl _⟩ (fun r_4 ad_1 en_2 H locs hp_3 hs => ?_)
  obtain ⟨⟨hAm_5, hFm_5⟩, hrm_5, hMm_5⟩ := hp_3
  subst hAm_5
  rw [hrm_5]
  have fr_6 : ∀ k, k < 22 → en_2 k = en k := fun k hk => Eq.trans (hFm_5 k hk) (fr0 k hk)
  rcases hq1 : impS s0.1 a (nG s0.2 t) with _ | i1
  · skip
    have hMm_5n : MdW G n ad en_2 ((impT s0.1 a (nG s0.2 t))) s0.2 c us ((-3)) dp cl := by have q := hMm_5; rw [hq1] at q; exact q
    refine r_topi (y := nI 0) rfl ?_
    refine lv_iload_n hx hb dX8_l_13 rfl (lv_at hl 2 rfl) ?_
    refine lv_iconst (v := 0) hx hb dX8_l_14 (by decide) ?_
    refine lv_iconst (v := 0) hx hb dX8_l_15 (by decide) ?_
    refine r_callVi (ci := 8) (As := [.int (1), .int (nI 0), .int (nI t), .int (0), .int (0)]) hx hb hml hown hts hK hA hs (22) (by omega) (md22 hMm_5n) rfl rfl (c_X8_put_t l G (s0 := (impT s0.1 a (nG s0.2 t), s0.2)) hMm_5n _ _ _ _ _) (cwV 5 hts (tbV w_ml_RX8_171 w_im_yX8_put w_se_yX8_put w_ini_RX8 w_cd_yX8_put) rfl rfl rfl (by decide +kernel) ⟨Nat.le_of_ble_eq_true rfl, Nat.le_of_ble_eq_true rfl⟩) rfl hl.1 rfl (Nat.le_of_ble_eq_true rfl) dX8_l_16 ⟨Nat.le_refl _, Nat.le_refl _⟩ (fun r_10 ad_7 en_8 H locs hp_9 hs => ?_)
    obtain ⟨⟨hA9, hF9⟩, hr9, hM9⟩ := hp_9
    subst hA9
    have fr_11 : ∀ k, k < 22 → en_8 k = en k := fun k hk => Eq.trans (hF9 k hk) (fr_6 k hk)
    refine r_iret (v := r_10) (mc := 0) (ms := 0) hx hb hr hlk hs (Nat.le_refl _) (Nat.le_refl _) dX8_l_19 hQ ?_
    unfold mAct
    rw [lam_n hq1]
    exact ⟨⟨rfl, fr_11⟩, hr9, hM9⟩
  · skip
    have hMm_5s : MdW G n ad en_2 ((impT s0.1 a (nG s0.2 t))) s0.2 c us 0 dp cl := by have q := hMm_5; rw [hq1] at q; exact q
    refine r_topi (y := nI i1) rfl ?_
    have hv1 := (imp_ok hok (a := a) (b := nG s0.2 t) ha hgt).2.2 i1 hq1
    have hv2 := hv1.2.1
    have hv0 := hv1.1
    have h6b := (imp_ok hok (a := a) (b := nG s0.2 t) ha hgt).2.1.1
    refine lv_iload_n hx hb dX8_l_13 rfl (lv_at hl 2 rfl) ?_
    refine lv_iconst (v := 0) hx hb dX8_l_14 (by decide) ?_
    refine lv_iconst (v := 0) hx hb dX8_l_15 (by decide) ?_
    refine r_callVi (ci := 8) (As := [.int (1), .int (nI i1), .int (nI t), .int (0), .int (0)]) hx hb hml hown hts hK hA hs (22) (by omega) (md22 hMm_5s) rfl rfl (c_X8_put_f l G (s0 := (impT s0.1 a (nG s0.2 t), s0.2)) hMm_5s (tg := 1) (gl := i1) (a := t) (b := 0) (c1 := 0) (by omega) (ok_1 (by decide) ⟨hv0, hv2⟩ ht)) (cwV 5 hts (tbV w_ml_RX8_171 w_im_yX8_put w_se_yX8_put w_ini_RX8 w_cd_yX8_put) rfl rfl rfl (by decide +kernel) ⟨Nat.le_of_ble_eq_true rfl, Nat.le_of_ble_eq_true rfl⟩) rfl hl.1 rfl (Nat.le_of_ble_eq_true rfl) dX8_l_16 ⟨Nat.le_refl _, Nat.le_refl _⟩ (fun r_15 ad_12 en_13 H locs hp_14 hs => ?_)
    obtain ⟨⟨hA9, hF9⟩, hr9, hM9⟩ := hp_14
    subst hA9
    have fr_16 : ∀ k, k < 22 → en_13 k = en k := fun k hk => Eq.trans (hF9 k hk) (fr_6 k hk)
    refine r_iret (v := r_15) (mc := 0) (ms := 0) hx hb hr hlk hs (Nat.le_refl _) (Nat.le_refl _) dX8_l_19 hQ ?_
    unfold mAct
    rw [lam_s hq1]
    exact ⟨⟨rfl, fr_16⟩, hr9, hM9⟩

set_option maxHeartbeats 600000 in
set_option maxRecDepth 100000 in
theorem c_X8_l_n (l : Launch) (G : rG) {n : Nat} {ad : Nat → Nat} {en : Nat → va_E} {s0 : NSt} {c : Nat → Nat → Int32} {us : Int32} {dp : Int32} {cl : Int32}  (hM : MdW G n ad en s0.1 s0.2 c us ((-3)) dp cl) {a : Nat} : CI l G yX8_l uX8_l (3) (71) (0) (0) [.ref (ad 22), .int (nI a), .int (nI 0)] (n) (n) ad en (mAct G n ad en c us dp cl aStop s0) := by
  intro sz
  refine rMet (Qc := qI G (n) (mAct G n ad en c us dp cl aStop s0)) (cc := cX8_l) (maxL := 3) (ret := (some .int)) (by decide) rfl (Nat.le_of_ble_eq_true rfl) ?_
  intro pP eE sS mM aA bB tT cC ls A Q hc hK hsz hA hs hl hQ
  obtain ⟨hx, hb, hr, hts, hown, hlk, hnm, hml⟩ := hc
  have hl : lv_has ls 3 [(0, .ref (ad 22)), (1, .int (nI a)), (2, .int (nI 0))] := hl
  have fr0 : ∀ k, k < 22 → en k = en k := fun _ _ => rfl
  obtain ⟨hn48, -, -, -, hok, hnk⟩ := id hM
  have h6 := hok.1
  have h8 := hnk.1
  
  refine lv_aload_n hx hb dX8_l_0 rfl (lv_at hl 0 rfl) ?_
  refine lv_iconst (v := 1) hx hb dX8_l_1 (by decide) ?_
  refine lv_aload_n hx hb dX8_l_2 rfl (lv_at hl 0 rfl) ?_
  refine lv_iload_n hx hb dX8_l_3 rfl (lv_at hl 1 rfl) ?_
  refine lv_aload_n hx hb dX8_l_4 rfl (lv_at hl 0 rfl) ?_
  refine r_get (ci := 8) (v := .ref (ad 27)) (C := RX8) (T := TX8) (N := 31) hx hb hts inlX8 hown hK hs (22) (by omega) (md22 hM) rfl 5 (by decide) (hts _ w_fl_RX8_22) rfl dX8_l_5 ?_
  refine lv_iload_n hx hb dX8_l_8 rfl (lv_at hl 2 rfl) ?_
  refine r_ialdN (t := 0) hx hb hK hs (27) (by omega) (md27 hM) (rfl) (by omega) (by omega) dX8_l_9 ?_
  refine r_topi (y := nI (nG s0.2 (0))) rfl ?_
  refine r_callViR (ci := 8) (As := [.int (nI a), .int (nI (nG s0.2 (0)))]) hx hb hml hown hts hK hA hs (22) (by omega) (md22 hM) rfl rfl (c_X8_implication0 l G hM (nI a) (nI (nG s0.2 (0))) (by decide)) (cwV 2 hts (tbV w_ml_RX8_141 w_im_yX8_implication w_se_yX8_implication w_ini_RX8 w_cd_yX8_implication) rfl rfl rfl (by decide +kernel) ⟨Nat.le_of_ble_eq_true rfl, Nat.le_of_ble_eq_true rfl⟩) rfl hl.1 rfl (Nat.le_of_ble_eq_true rfl) dX8_l_10 ⟨Nat.zero_le _, Nat.zero_le _⟩ (fun H locs hs => ?_)
  refine lv_iload_n hx hb dX8_l_13 rfl (lv_at hl 2 rfl) ?_
  refine lv_iconst (v := 0) hx hb dX8_l_14 (by decide) ?_
  refine lv_iconst (v := 0) hx hb dX8_l_15 (by decide) ?_
  refine r_callVi (ci := 8) (As := [.int (1), .int (0), .int (nI 0), .int (0), .int (0)]) hx hb hml hown hts hK hA hs (22) (by omega) (md22 hM) rfl rfl (c_X8_put_t l G hM (1) (0) (nI 0) (0) (0)) (cwV 5 hts (tbV w_ml_RX8_171 w_im_yX8_put w_se_yX8_put w_ini_RX8 w_cd_yX8_put) rfl rfl rfl (by decide +kernel) ⟨Nat.le_of_ble_eq_true rfl, Nat.le_of_ble_eq_true rfl⟩) rfl hl.1 rfl (Nat.le_of_ble_eq_true rfl) dX8_l_16 ⟨Nat.le_refl _, Nat.le_refl _⟩ (fun r_4 ad_1 en_2 H locs hp_3 hs => ?_)
  have hfin := hp_3
  refine r_iret (v := r_4) (mc := 0) (ms := 0) hx hb hr hlk hs (Nat.le_refl _) (Nat.le_refl _) dX8_l_19 hQ ?_
  exact hfin

set_option maxHeartbeats 600000 in
set_option maxRecDepth 100000 in
theorem c_X8_a_s (l : Launch) (G : rG) {n : Nat} {ad : Nat → Nat} {en : Nat → va_E} {s0 : NSt} {c : Nat → Nat → Int32} {us : Int32} {dp : Int32} {cl : Int32}  (hM : MdW G n ad en s0.1 s0.2 c us 0 dp cl) {t u : Nat} (ht : 1 ≤ t ∧ t ≤ s0.2.length) (hu1 : 1 ≤ u ∧ u ≤ s0.2.length) (hgl : 1 ≤ sR s0.1 (nG s0.2 t)) : CI l G yX8_a uX8_a (2) (52) (0) (0) [.ref (ad 22), .int (nI t), .int (nI u)] (n) (n) ad en (mAct G n ad en c us dp cl (aApp t u) s0) := by
  intro sz
  refine rMet (Qc := qI G (n) (mAct G n ad en c us dp cl (aApp t u) s0)) (cc := cX8_a) (maxL := 3) (ret := (some .int)) (by decide) rfl (Nat.le_of_ble_eq_true rfl) ?_
  intro pP eE sS mM aA bB tT cC ls A Q hc hK hsz hA hs hl hQ
  obtain ⟨hx, hb, hr, hts, hown, hlk, hnm, hml⟩ := hc
  have hl : lv_has ls 3 [(0, .ref (ad 22)), (1, .int (nI t)), (2, .int (nI u))] := hl
  have fr0 : ∀ k, k < 22 → en k = en k := fun _ _ => rfl
  obtain ⟨hn48, -, -, -, hok, hnk⟩ := id hM
  have h6 := hok.1
  have h8 := hnk.1
  have hgt := nG_le hnk t
  have hgr := sR_le hok (nG s0.2 t)
  refine lv_aload_n hx hb dX8_a_0 rfl (lv_at hl 0 rfl) ?_
  refine lv_iconst (v := 2) hx hb dX8_a_1 (by decide) ?_
  refine lv_aload_n hx hb dX8_a_2 rfl (lv_at hl 0 rfl) ?_
  refine r_get (ci := 8) (v := .ref (ad 25)) (C := RX8) (T := TX8) (N := 31) hx hb hts inlX8 hown hK hs (22) (by omega) (md22 hM) rfl 2 (by decide) (hts _ w_fl_RX8_16) rfl dX8_a_3 ?_
  refine lv_aload_n hx hb dX8_a_6 rfl (lv_at hl 0 rfl) ?_
  refine r_get (ci := 8) (v := .ref (ad 27)) (C := RX8) (T := TX8) (N := 31) hx hb hts inlX8 hown hK hs (22) (by omega) (md22 hM) rfl 5 (by decide) (hts _ w_fl_RX8_22) rfl dX8_a_7 ?_
  refine lv_iload_n hx hb dX8_a_10 rfl (lv_at hl 1 rfl) ?_
  refine r_ialdN (t := t) hx hb hK hs (27) (by omega) (md27 hM) (rfl) (by omega) (by omega) dX8_a_11 ?_
  refine r_topi (y := nI (nG s0.2 (t))) rfl ?_
  refine r_ialdN (t := nG s0.2 (t)) hx hb hK hs (25) (by omega) (md25 hM) (rfl) (by omega) (by omega) dX8_a_12 ?_
  refine r_topi (y := nI (sR s0.1 (nG s0.2 (t)))) rfl ?_
  refine lv_iload_n hx hb dX8_a_13 rfl (lv_at hl 1 rfl) ?_
  refine lv_iload_n hx hb dX8_a_14 rfl (lv_at hl 2 rfl) ?_
  refine lv_iconst (v := 0) hx hb dX8_a_15 (by decide) ?_
  refine r_callVi (ci := 8) (As := [.int (2), .int (nI (sR s0.1 (nG s0.2 (t)))), .int (nI t), .int (nI u), .int (0)]) hx hb hml hown hts hK hA hs (22) (by omega) (md22 hM) rfl rfl (c_X8_put_f l G hM (tg := 2) (gl := sR s0.1 (nG s0.2 t)) (a := t) (b := u) (c1 := 0) (by omega) (ok_2 (by decide) ⟨hgl, hgr⟩ ht hu1)) (cwV 5 hts (tbV w_ml_RX8_171 w_im_yX8_put w_se_yX8_put w_ini_RX8 w_cd_yX8_put) rfl rfl rfl (by decide +kernel) ⟨Nat.le_of_ble_eq_true rfl, Nat.le_of_ble_eq_true rfl⟩) rfl hl.1 rfl (Nat.le_of_ble_eq_true rfl) dX8_a_16 ⟨Nat.le_refl _, Nat.le_refl _⟩ (fun r_4 ad_1 en_2 H locs hp_3 hs => ?_)
  have hfin := hp_3
  refine r_iret (v := r_4) (mc := 0) (ms := 0) hx hb hr hlk hs (Nat.le_refl _) (Nat.le_refl _) dX8_a_19 hQ ?_
  exact hfin

set_option maxHeartbeats 600000 in
set_option maxRecDepth 100000 in
theorem c_X8_a_n (l : Launch) (G : rG) {n : Nat} {ad : Nat → Nat} {en : Nat → va_E} {s0 : NSt} {c : Nat → Nat → Int32} {us : Int32} {dp : Int32} {cl : Int32}  (hM : MdW G n ad en s0.1 s0.2 c us ((-3)) dp cl) {t u : Nat} (ht : t ≤ 8000) : CI l G yX8_a uX8_a (2) (52) (0) (0) [.ref (ad 22), .int (nI t), .int (nI u)] (n) (n) ad en (mAct G n ad en c us dp cl aStop s0) := by
  intro sz
  refine rMet (Qc := qI G (n) (mAct G n ad en c us dp cl aStop s0)) (cc := cX8_a) (maxL := 3) (ret := (some .int)) (by decide) rfl (Nat.le_of_ble_eq_true rfl) ?_
  intro pP eE sS mM aA bB tT cC ls A Q hc hK hsz hA hs hl hQ
  obtain ⟨hx, hb, hr, hts, hown, hlk, hnm, hml⟩ := hc
  have hl : lv_has ls 3 [(0, .ref (ad 22)), (1, .int (nI t)), (2, .int (nI u))] := hl
  have fr0 : ∀ k, k < 22 → en k = en k := fun _ _ => rfl
  obtain ⟨hn48, -, -, -, hok, hnk⟩ := id hM
  have h6 := hok.1
  have h8 := hnk.1
  have hgt := nG_le hnk t
  refine lv_aload_n hx hb dX8_a_0 rfl (lv_at hl 0 rfl) ?_
  refine lv_iconst (v := 2) hx hb dX8_a_1 (by decide) ?_
  refine lv_aload_n hx hb dX8_a_2 rfl (lv_at hl 0 rfl) ?_
  refine r_get (ci := 8) (v := .ref (ad 25)) (C := RX8) (T := TX8) (N := 31) hx hb hts inlX8 hown hK hs (22) (by omega) (md22 hM) rfl 2 (by decide) (hts _ w_fl_RX8_16) rfl dX8_a_3 ?_
  refine lv_aload_n hx hb dX8_a_6 rfl (lv_at hl 0 rfl) ?_
  refine r_get (ci := 8) (v := .ref (ad 27)) (C := RX8) (T := TX8) (N := 31) hx hb hts inlX8 hown hK hs (22) (by omega) (md22 hM) rfl 5 (by decide) (hts _ w_fl_RX8_22) rfl dX8_a_7 ?_
  refine lv_iload_n hx hb dX8_a_10 rfl (lv_at hl 1 rfl) ?_
  refine r_ialdN (t := t) hx hb hK hs (27) (by omega) (md27 hM) (rfl) (by omega) (by omega) dX8_a_11 ?_
  refine r_topi (y := nI (nG s0.2 (t))) rfl ?_
  refine r_ialdN (t := nG s0.2 (t)) hx hb hK hs (25) (by omega) (md25 hM) (rfl) (by omega) (by omega) dX8_a_12 ?_
  refine r_topi (y := nI (sR s0.1 (nG s0.2 (t)))) rfl ?_
  refine lv_iload_n hx hb dX8_a_13 rfl (lv_at hl 1 rfl) ?_
  refine lv_iload_n hx hb dX8_a_14 rfl (lv_at hl 2 rfl) ?_
  refine lv_iconst (v := 0) hx hb dX8_a_15 (by decide) ?_
  refine r_callVi (ci := 8) (As := [.int (2), .int (nI (sR s0.1 (nG s0.2 (t)))), .int (nI t), .int (nI u), .int (0)]) hx hb hml hown hts hK hA hs (22) (by omega) (md22 hM) rfl rfl (c_X8_put_t l G hM (2) (nI (sR s0.1 (nG s0.2 (t)))) (nI t) (nI u) (0)) (cwV 5 hts (tbV w_ml_RX8_171 w_im_yX8_put w_se_yX8_put w_ini_RX8 w_cd_yX8_put) rfl rfl rfl (by decide +kernel) ⟨Nat.le_of_ble_eq_true rfl, Nat.le_of_ble_eq_true rfl⟩) rfl hl.1 rfl (Nat.le_of_ble_eq_true rfl) dX8_a_16 ⟨Nat.le_refl _, Nat.le_refl _⟩ (fun r_4 ad_1 en_2 H locs hp_3 hs => ?_)
  have hfin := hp_3
  refine r_iret (v := r_4) (mc := 0) (ms := 0) hx hb hr hlk hs (Nat.le_refl _) (Nat.le_refl _) dX8_a_19 hQ ?_
  exact hfin
theorem c_X8_l (l : Launch) (G : rG) {n : Nat} {ad : Nat → Nat} {en : Nat → va_E} {s0 : NSt} {c : Nat → Nat → Int32} {us dp cl : Int32} {o : Option Nat} (hM : MdW G n ad en s0.1 s0.2 c us (ovB o.isNone) dp cl) {a gt : Nat} (ha : 1 ≤ a ∧ a ≤ s0.1.length) (ho : oNd s0 o gt) : CI l G yX8_l uX8_l (3) (71) (0) (0) [.ref (ad 22), .int (nI a), .int (nI (o.getD 0))] (n) (n) ad en (mAct G n ad en c us dp cl (aLamO a o) s0) := by
  cases o with
  | none => exact c_X8_l_n l G hM
  | some t => exact c_X8_l_s l G hM ha ⟨(ho t rfl).1, (ho t rfl).2.1⟩
theorem c_X8_a (l : Launch) (G : rG) {n : Nat} {ad : Nat → Nat} {en : Nat → va_E} {s0 : NSt} {c : Nat → Nat → Int32} {us dp cl : Int32} {o1 o2 : Option Nat} (hM : MdW G n ad en s0.1 s0.2 c us (ovB o2.isNone) dp cl) {b : Nat} (hb : ∀ u, o2 = some u → 1 ≤ b) (h1 : oFn s0 o1 b) (h2 : ∀ x, o2 = some x → 1 ≤ x ∧ x ≤ s0.2.length) (hn : o1 = none → o2 = none) : CI l G yX8_a uX8_a (2) (52) (0) (0) [.ref (ad 22), .int (nI (o1.getD 0)), .int (nI (o2.getD 0))] (n) (n) ad en (mAct G n ad en c us dp cl (aAppO o1 o2) s0) := by
  have h8 := hM.2.2.2.2.2.1
  cases o2 with
  | none =>
    have e : aAppO o1 none = aStop := by cases o1 <;> rfl
    rw [e]
    refine c_X8_a_n l G hM ?_
    cases o1 with
    | none => exact Nat.zero_le _
    | some t => have := (h1 t rfl).1; show t ≤ 8000; omega
  | some u =>
    cases o1 with
    | none => exact absurd (hn rfl) (by simp)
    | some t => exact c_X8_a_s l G hM (h1 t rfl).1 (h2 u rfl) (by show 1 ≤ sR s0.1 (nG s0.2 t); rw [(h1 t rfl).2]; exact hb u rfl)

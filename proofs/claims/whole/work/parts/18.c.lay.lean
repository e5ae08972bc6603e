theorem nI_dec {t : Nat} (h : 1 ≤ t) : nI t + (-1) = nI (t - 1) := by
  obtain ⟨k, rfl⟩ : ∃ k, t = k + 1 := ⟨t - 1, by omega⟩
  show nI (k + 1) + (-1) = nI k
  rw [nI_succ, Int32.add_assoc]
  show nI k + 0 = nI k
  exact Int32.add_zero _
theorem ly_ne {r t r2 t2 : Nat} (a : 41 ≤ r → r ≤ 44 → t < 1) (h : 41 ≤ r2 ∧ r2 ≤ 44 ∧ 1 ≤ t2) : r ≠ r2 ∨ t ≠ t2 := by
  by_cases e : r = r2
  · right; have := a (by omega) (by omega); omega
  · exact Or.inl e
set_option maxHeartbeats 4000000 in
set_option maxRecDepth 100000 in
theorem c_X8_lay (l : Launch) (G : rG) {n : Nat} {ad : Nat → Nat} {en : Nat → va_E} {s0 : NSt} {c : Nat → Nat → Int32} {us : Int32} {dp : Int32} {cl : Int32}  (hM : MdW G n ad en s0.1 s0.2 c us 0 dp cl) {dv : Nat → Int32} {lo hi root goal : Nat} (hhi : hi ≤ 3000) (hrel : relD c dv 80 lo hi root) (hwf : wfD s0.1 dv 80 lo hi root goal) : CI l G yX8_lay uX8_lay (6) (178) (0) (0) [.ref (ad 22), .int (nI root)] (n) (n) ad en (fun r ad1 en1 => mFr ad en ad1 en1 ∧ r = aR (bld dv 80 root s0).1 ∧ ∃ c1, MdW G n ad en1 (bld dv 80 root s0).2.1 (bld dv 80 root s0).2.2 c1 us (ovB (bld dv 80 root s0).1.isNone) dp cl) := by
  intro sz
  refine rMet (Qc := qI G (n) (fun r ad1 en1 => mFr ad en ad1 en1 ∧ r = aR (bld dv 80 root s0).1 ∧ ∃ c1, MdW G n ad en1 (bld dv 80 root s0).2.1 (bld dv 80 root s0).2.2 c1 us (ovB (bld dv 80 root s0).1.isNone) dp cl)) (cc := cX8_lay) (maxL := 9) (ret := (some .int)) (by decide) rfl (Nat.le_of_ble_eq_true rfl) ?_
  intro pP eE sS mM aA bB tT cC ls A Q hc hK hsz hA hs hl hQ
  obtain ⟨hx, hb, hr, hts, hown, hlk, hnm, hml⟩ := hc
  have hl : lv_has ls 9 [(0, .ref (ad 22)), (1, .int (nI root))] := hl
  have fr0 : ∀ k, k < 22 → en k = en k := fun _ _ => rfl
  obtain ⟨hn48, -, -, -, hok, hnk⟩ := id hM
  have h6 := hok.1
  have h8 := hnk.1
  
  refine lv_iconst (v := 1) hx hb dX8_lay_0 (by decide) ?_
  refine r_topi (y := nI 1) (rfl) ?_
  refine lv_istore_n (lv' := [(2, .int (nI 1)), (0, .ref (ad 22)), (1, .int (nI root))]) hx hb dX8_lay_1 rfl hl (by decide) rfl (fun ls hl => ?_)
  refine lv_aload_n hx hb dX8_lay_2 rfl (lv_at hl 1 rfl) ?_
  refine r_get (ci := 8) (v := .ref (ad 41)) (C := RX8) (T := TX8) (N := 31) hx hb hts inlX8 hown hK hs (22) (by omega) (md22 hM) rfl 24 (by decide) (hts _ w_fl_RX8_66) rfl dX8_lay_3 ?_
  refine lv_iconst (v := 1) hx hb dX8_lay_6 (by decide) ?_
  refine lv_iload_n hx hb dX8_lay_7 rfl (lv_at hl 2 rfl) ?_
  refine r_iastN (t := 1) hx hb hK hs (41) (by omega) (md41 hM) (rfl) (by omega) (by omega) dX8_lay_8 (fun H locs en_2 hen_2 hs => ?_)
  obtain ⟨c_4, ec_4⟩ : ∃ z, z = cU c 41 (1) (nI root) := ⟨_, rfl⟩
  have hM_3 : MdW G n ad en_2 s0.1 s0.2 c_4 us 0 dp cl := md_ar (f := upd (c 41) (1) (nI root)) hM 41 (by decide) (by decide) hen_2 ec_4
  have fr_5 : ∀ k, k < 22 → en_2 k = en k := fun k hk => Eq.trans (by rw [hen_2]; exact va_up_ne _ _ (by omega)) (fr0 k hk)
  refine lv_aload_n hx hb dX8_lay_9 rfl (lv_at hl 1 rfl) ?_
  refine r_get (ci := 8) (v := .ref (ad 42)) (C := RX8) (T := TX8) (N := 31) hx hb hts inlX8 hown hK hs (22) (by omega) (md22 hM_3) rfl 25 (by decide) (hts _ w_fl_RX8_69) rfl dX8_lay_10 ?_
  refine lv_iconst (v := 1) hx hb dX8_lay_13 (by decide) ?_
  refine lv_iconst (v := 0) hx hb dX8_lay_14 (by decide) ?_
  refine r_iastN (t := 1) hx hb hK hs (42) (by omega) (md42 hM_3) (rfl) (by omega) (by omega) dX8_lay_15 (fun H locs en_7 hen_7 hs => ?_)
  obtain ⟨c_9, ec_9⟩ : ∃ z, z = cU c_4 42 (1) (0) := ⟨_, rfl⟩
  have hM_8 : MdW G n ad en_7 s0.1 s0.2 c_9 us 0 dp cl := md_ar (f := upd (c_4 42) (1) (0)) hM_3 42 (by decide) (by decide) hen_7 ec_9
  have fr_10 : ∀ k, k < 22 → en_7 k = en k := fun k hk => Eq.trans (by rw [hen_7]; exact va_up_ne _ _ (by omega)) (fr_5 k hk)
  refine lv_iconst (v := 0) hx hb dX8_lay_16 (by decide) ?_
  refine r_topi (y := nI 0) (rfl) ?_
  refine lv_istore_n (lv' := [(3, .int (nI 0)), (2, .int (nI 1)), (0, .ref (ad 22)), (1, .int (nI root))]) hx hb dX8_lay_17 rfl hl (by decide) rfl (fun ls hl => ?_)
  obtain ⟨K, hKd⟩ : ∃ K : K9, K = fun T mv cK sK fl => ∀ (en2 : Nat → va_E) (H : Heap) (locs : List Loc) (ls : Array Slot), (∀ k, k < 22 → en2 k = en k) → MdW G n ad en2 sK.1 sK.2 cK us (ovB fl) dp cl → rS G A sS.heap (n) ad en2 H locs → lv_has ls 9 [(0, .ref (ad 22)), (1, .int (nI root)), (2, .int (nI T)), (3, .int (nI mv))] → W pP l eE (rRm (6) (178) (0) (0)) sS mM aA bB tT cC H locs 0 0 Q (F0 mM 18 ls []) := ⟨_, rfl⟩
  have hP : LcP l G n ad us dp cl K := by
    intro T mv step uu hh cA cB s AC t1 t2 ha hs3 hpc huu hhh har hnx
    rcases hpc with ⟨r, k36, kr, k42, rfl⟩ | ⟨r, k36, kr, k42, k40, rfl⟩ | ⟨r, k36, kr, k42, rfl⟩ | ⟨k36, k37, k42, rfl⟩ | ⟨k36, ⟨f, kf, k37⟩, k42, rfl⟩
    · skip
      rw [hKd]
      intro en2 H locs ls fr2 hM2 hs hl
      have hM3 : MdW G n ad en2 s.1 s.2 cA us 0 dp cl := hM2
      obtain ⟨hn48, -, -, -, hok, hnk⟩ := id hM3
      have h6 := hok.1
      have h8 := hnk.1
      refine lv_iload_n hx hb dX8_lay_18 rfl (lv_at hl 2 rfl) ?_
      refine lv_if_le (tgt := 348) hx hb dX8_lay_19 (by decide) (fun c19 => absurd c19 (fun q => by have := nI_le0 (by omega) q; omega)) (fun _ => ?_)
      refine lv_aload_n hx hb dX8_lay_22 rfl (lv_at hl 0 rfl) ?_
      refine r_get (ci := 8) (v := .int (0)) (C := RX8) (T := TX8) (N := 31) hx hb hts inlX8 hown hK hs (22) (by omega) (md22 hM3) rfl 11 (by decide) (hts _ w_fl_RX8_106) rfl dX8_lay_23 ?_
      refine lv_if_ne (tgt := 348) hx hb dX8_lay_26 (by decide) (fun c26 => absurd (by decide) c26) (fun _ => ?_)
      refine lv_aload_n hx hb dX8_lay_29 rfl (lv_at hl 0 rfl) ?_
      refine r_get (ci := 8) (v := .ref (ad 41)) (C := RX8) (T := TX8) (N := 31) hx hb hts inlX8 hown hK hs (22) (by omega) (md22 hM3) rfl 24 (by decide) (hts _ w_fl_RX8_66) rfl dX8_lay_30 ?_
      refine lv_iload_n hx hb dX8_lay_33 rfl (lv_at hl 2 rfl) ?_
      refine r_ialdN (t := T) hx hb hK hs (41) (by omega) (md41 hM3) (rfl) (by omega) (by omega) dX8_lay_34 ?_
      refine r_topi (y := nI step) (ha) ?_
      refine lv_istore (lv' := [(4, .int (nI step)), (0, .ref (ad 22)), (1, .int (nI root)), (2, .int (nI T)), (3, .int (nI mv))]) hx hb dX8_lay_35 hl (by decide) rfl (fun ls hl => ?_)
      refine lv_aload_n hx hb dX8_lay_37 rfl (lv_at hl 1 rfl) ?_
      refine r_get (ci := 8) (v := .ref (ad 42)) (C := RX8) (T := TX8) (N := 31) hx hb hts inlX8 hown hK hs (22) (by omega) (md22 hM3) rfl 25 (by decide) (hts _ w_fl_RX8_69) rfl dX8_lay_38 ?_
      refine lv_iload_n hx hb dX8_lay_41 rfl (lv_at hl 3 rfl) ?_
      refine r_ialdN (t := T) hx hb hK hs (42) (by omega) (md42 hM3) (rfl) (by omega) (by omega) dX8_lay_42 ?_
      refine r_topi (y := 0) (k42) ?_
      refine lv_istore (lv' := [(5, .int (0)), (4, .int (nI step)), (0, .ref (ad 22)), (1, .int (nI root)), (2, .int (nI T)), (3, .int (nI mv))]) hx hb dX8_lay_43 hl (by decide) rfl (fun ls hl => ?_)
      refine lv_aload_n hx hb dX8_lay_45 rfl (lv_at hl 2 rfl) ?_
      refine r_get (ci := 8) (v := .ref (ad 42)) (C := RX8) (T := TX8) (N := 31) hx hb hts inlX8 hown hK hs (22) (by omega) (md22 hM3) rfl 25 (by decide) (hts _ w_fl_RX8_69) rfl dX8_lay_46 ?_
      refine lv_iload_n hx hb dX8_lay_49 rfl (lv_at hl 4 rfl) ?_
      refine lv_dup2_11 hx hb dX8_lay_50 rfl rfl ?_
      refine r_ialdN (t := T) hx hb hK hs (42) (by omega) (md42 hM3) (rfl) (by omega) (by omega) dX8_lay_51 ?_
      refine r_topi (y := 0) (k42) ?_
      refine lv_iconst (v := 1) hx hb dX8_lay_52 (by decide) ?_
      refine lv_iadd hx hb dX8_lay_53 ?_
      refine r_topi (y := 1) (by decide) ?_
      refine r_iastN (t := T) hx hb hK hs (42) (by omega) (md42 hM3) (rfl) (by omega) (by omega) dX8_lay_54 (fun H locs en_12 hen_12 hs => ?_)
      obtain ⟨c_14, ec_14⟩ : ∃ z, z = cU cA 42 (T) (1) := ⟨_, rfl⟩
      have hM_13 : MdW G n ad en_12 s.1 s.2 c_14 us 0 dp cl := md_ar (f := upd (cA 42) (T) (1)) hM3 42 (by decide) (by decide) hen_12 ec_14
      have fr_15 : ∀ k, k < 22 → en_12 k = en k := fun k hk => Eq.trans (by rw [hen_12]; exact va_up_ne _ _ (by omega)) (fr2 k hk)
      refine lv_iconst (v := 0) hx hb dX8_lay_55 (by decide) ?_
      refine lv_istore (lv' := [(6, .int (0)), (5, .int (0)), (4, .int (nI step)), (0, .ref (ad 22)), (1, .int (nI root)), (2, .int (nI T)), (3, .int (nI mv))]) hx hb dX8_lay_56 hl (by decide) rfl (fun ls hl => ?_)
      refine lv_aload_n hx hb dX8_lay_58 rfl (lv_at hl 3 rfl) ?_
      refine r_get (ci := 8) (v := .ref (ad 36)) (C := RX8) (T := TX8) (N := 31) hx hb hts inlX8 hown hK hs (22) (by omega) (md22 hM_13) rfl 18 (by decide) (hts _ w_fl_RX8_51) rfl dX8_lay_59 ?_
      refine lv_iload hx hb dX8_lay_62 (lv_at hl 2 rfl) ?_
      refine r_ialdN (t := step) hx hb hK hs (36) (by omega) (md36 hM_13) (rfl) (by omega) (by omega) dX8_lay_64 ?_
      refine r_topi (y := nI r) (by rw [ec_14, cU_o (by omega)]; exact k36) ?_
      refine lv_bipush (v := 11) hx hb dX8_lay_65 (by decide) ?_
      refine lv_icmp_ne (tgt := 194) hx hb dX8_lay_67 (by decide) (fun _ => ?_) (fun c67 => absurd c67 (fun q => by have := sw_nI (v := 11) q rfl (by omega) (by decide); omega))
      refine lv_aload_n hx hb dX8_lay_194 rfl (lv_at hl 3 rfl) ?_
      refine r_get (ci := 8) (v := .ref (ad 36)) (C := RX8) (T := TX8) (N := 31) hx hb hts inlX8 hown hK hs (22) (by omega) (md22 hM_13) rfl 18 (by decide) (hts _ w_fl_RX8_51) rfl dX8_lay_195 ?_
      refine lv_iload hx hb dX8_lay_198 (lv_at hl 2 rfl) ?_
      refine r_ialdN (t := step) hx hb hK hs (36) (by omega) (md36 hM_13) (rfl) (by omega) (by omega) dX8_lay_200 ?_
      refine r_topi (y := nI r) (by rw [ec_14, cU_o (by omega)]; exact k36) ?_
      refine lv_iconst (v := 2) hx hb dX8_lay_201 (by decide) ?_
      refine lv_icmp_le (tgt := 296) hx hb dX8_lay_202 (by decide) (fun _ => ?_) (fun c202 => absurd ((nI_leI (b := 2) (by omega) (by decide)).mpr (by omega)) c202)
      refine lv_iload hx hb dX8_lay_296 (lv_at hl 0 rfl) ?_
      refine lv_if_eq (tgt := 322) hx hb dX8_lay_298 (by decide) (fun _ => ?_) (fun c298 => absurd (by decide) c298)
      refine lv_aload_n hx hb dX8_lay_322 rfl (lv_at hl 3 rfl) ?_
      refine lv_iload hx hb dX8_lay_323 (lv_at hl 2 rfl) ?_
      refine lv_iload_n hx hb dX8_lay_325 rfl (lv_at hl 6 rfl) ?_
      refine lv_aload_n hx hb dX8_lay_326 rfl (lv_at hl 3 rfl) ?_
      refine r_get (ci := 8) (v := .ref (ad 44)) (C := RX8) (T := TX8) (N := 31) hx hb hts inlX8 hown hK hs (22) (by omega) (md22 hM_13) rfl 27 (by decide) (hts _ w_fl_RX8_75) rfl dX8_lay_327 ?_
      refine lv_iload_n hx hb dX8_lay_330 rfl (lv_at hl 5 rfl) ?_
      refine r_ialdN (t := T) hx hb hK hs (44) (by omega) (md44 hM_13) (rfl) (by omega) (by omega) dX8_lay_331 ?_
      refine r_topi (y := nI uu) (by rw [ec_14]; exact huu) ?_
      refine lv_aload_n hx hb dX8_lay_332 rfl (lv_at hl 3 rfl) ?_
      refine r_get (ci := 8) (v := .ref (ad 43)) (C := RX8) (T := TX8) (N := 31) hx hb hts inlX8 hown hK hs (22) (by omega) (md22 hM_13) rfl 26 (by decide) (hts _ w_fl_RX8_72) rfl dX8_lay_333 ?_
      refine lv_iload_n hx hb dX8_lay_336 rfl (lv_at hl 5 rfl) ?_
      refine r_ialdN (t := T) hx hb hK hs (43) (by omega) (md43 hM_13) (rfl) (by omega) (by omega) dX8_lay_337 ?_
      refine r_topi (y := nI hh) (by rw [ec_14]; exact hhh) ?_
      obtain ⟨o1, s1, hq1⟩ : ∃ oo tt, AC s = (oo, tt) := ⟨_, _, rfl⟩
      rw [← ec_14] at har
      refine r_callVi (ci := 8) (As := [.int (nI step), .int (nI mv), .int (nI uu), .int (nI hh)]) hx hb hml hown hts hK hA hs (22) (by omega) (md22 hM_13) rfl rfl (har _ hM_13) (cwV 4 hts (tbV w_ml_RX8_180 w_im_yX8_around w_se_yX8_around w_ini_RX8 w_cd_yX8_around) rfl rfl rfl (by decide +kernel) ⟨Nat.le_of_ble_eq_true rfl, Nat.le_of_ble_eq_true rfl⟩) rfl hl.1 rfl (Nat.le_of_ble_eq_true rfl) dX8_lay_338 ⟨Nat.le_refl _, Nat.le_refl _⟩ (fun r_19 ad_16 en_17 H locs hp_18 hs => ?_)
      obtain ⟨⟨hA1, hF1⟩, hr1, hN1⟩ := hp_18
      subst hA1
      rw [hq1] at hr1 hN1
      have hN1 : MdW G n ad en_17 s1.1 s1.2 c_14 us (ovB o1.isNone) dp cl := hN1
      rw [show r_19 = nI (o1.getD 0) from hr1]
      have fr_20 : ∀ k, k < 22 → en_17 k = en k := fun k hk => Eq.trans (hF1 k hk) (fr_15 k hk)
      have hgd1 : sGood s1 := ⟨hN1.2.2.2.2.1, hN1.2.2.2.2.2⟩
      refine lv_istore_n (lv' := [(3, .int (nI (o1.getD 0))), (6, .int (0)), (5, .int (0)), (4, .int (nI step)), (0, .ref (ad 22)), (1, .int (nI root)), (2, .int (nI T))]) hx hb dX8_lay_341 rfl hl (by decide) rfl (fun ls hl => ?_)
      obtain ⟨x2_21, ex2_21⟩ : ∃ y : Int32, y = nI T + (-1) := ⟨_, rfl⟩
      refine lv_iinc (v := x2_21) (lv' := [(2, .int (x2_21)), (3, .int (nI (o1.getD 0))), (6, .int (0)), (5, .int (0)), (4, .int (nI step)), (0, .ref (ad 22)), (1, .int (nI root))]) hx hb dX8_lay_342 hl (k := 6) rfl (by rw [ex2_21]; rfl) (by decide) rfl (fun ls hl => ?_)
      have e9 : x2_21 = nI (T - 1) := ex2_21.trans (nI_dec t1)
      rw [e9] at hl
      refine lv_goto (tgt := 18) hx hb dX8_lay_345 (by decide) ?_
      have z := hnx o1 s1 hq1 hgd1
      rw [← ec_14] at z
      rw [hKd] at z
      exact z en_17 H locs ls fr_20 hN1 hs (lv_sub hl [5, 6, 0, 1] rfl)
    · skip
      rw [hKd]
      intro en2 H locs ls fr2 hM2 hs hl
      have hM3 : MdW G n ad en2 s.1 s.2 cA us 0 dp cl := hM2
      obtain ⟨hn48, -, -, -, hok, hnk⟩ := id hM3
      have h6 := hok.1
      have h8 := hnk.1
      refine lv_iload_n hx hb dX8_lay_18 rfl (lv_at hl 2 rfl) ?_
      refine lv_if_le (tgt := 348) hx hb dX8_lay_19 (by decide) (fun c19 => absurd c19 (fun q => by have := nI_le0 (by omega) q; omega)) (fun _ => ?_)
      refine lv_aload_n hx hb dX8_lay_22 rfl (lv_at hl 0 rfl) ?_
      refine r_get (ci := 8) (v := .int (0)) (C := RX8) (T := TX8) (N := 31) hx hb hts inlX8 hown hK hs (22) (by omega) (md22 hM3) rfl 11 (by decide) (hts _ w_fl_RX8_106) rfl dX8_lay_23 ?_
      refine lv_if_ne (tgt := 348) hx hb dX8_lay_26 (by decide) (fun c26 => absurd (by decide) c26) (fun _ => ?_)
      refine lv_aload_n hx hb dX8_lay_29 rfl (lv_at hl 0 rfl) ?_
      refine r_get (ci := 8) (v := .ref (ad 41)) (C := RX8) (T := TX8) (N := 31) hx hb hts inlX8 hown hK hs (22) (by omega) (md22 hM3) rfl 24 (by decide) (hts _ w_fl_RX8_66) rfl dX8_lay_30 ?_
      refine lv_iload_n hx hb dX8_lay_33 rfl (lv_at hl 2 rfl) ?_
      refine r_ialdN (t := T) hx hb hK hs (41) (by omega) (md41 hM3) (rfl) (by omega) (by omega) dX8_lay_34 ?_
      refine r_topi (y := nI step) (ha) ?_
      refine lv_istore (lv' := [(4, .int (nI step)), (0, .ref (ad 22)), (1, .int (nI root)), (2, .int (nI T)), (3, .int (nI mv))]) hx hb dX8_lay_35 hl (by decide) rfl (fun ls hl => ?_)
      refine lv_aload_n hx hb dX8_lay_37 rfl (lv_at hl 1 rfl) ?_
      refine r_get (ci := 8) (v := .ref (ad 42)) (C := RX8) (T := TX8) (N := 31) hx hb hts inlX8 hown hK hs (22) (by omega) (md22 hM3) rfl 25 (by decide) (hts _ w_fl_RX8_69) rfl dX8_lay_38 ?_
      refine lv_iload_n hx hb dX8_lay_41 rfl (lv_at hl 3 rfl) ?_
      refine r_ialdN (t := T) hx hb hK hs (42) (by omega) (md42 hM3) (rfl) (by omega) (by omega) dX8_lay_42 ?_
      refine r_topi (y := 1) (k42) ?_
      refine lv_istore (lv' := [(5, .int (1)), (4, .int (nI step)), (0, .ref (ad 22)), (1, .int (nI root)), (2, .int (nI T)), (3, .int (nI mv))]) hx hb dX8_lay_43 hl (by decide) rfl (fun ls hl => ?_)
      refine lv_aload_n hx hb dX8_lay_45 rfl (lv_at hl 2 rfl) ?_
      refine r_get (ci := 8) (v := .ref (ad 42)) (C := RX8) (T := TX8) (N := 31) hx hb hts inlX8 hown hK hs (22) (by omega) (md22 hM3) rfl 25 (by decide) (hts _ w_fl_RX8_69) rfl dX8_lay_46 ?_
      refine lv_iload_n hx hb dX8_lay_49 rfl (lv_at hl 4 rfl) ?_
      refine lv_dup2_11 hx hb dX8_lay_50 rfl rfl ?_
      refine r_ialdN (t := T) hx hb hK hs (42) (by omega) (md42 hM3) (rfl) (by omega) (by omega) dX8_lay_51 ?_
      refine r_topi (y := 1) (k42) ?_
      refine lv_iconst (v := 1) hx hb dX8_lay_52 (by decide) ?_
      refine lv_iadd hx hb dX8_lay_53 ?_
      refine r_topi (y := 2) (by decide) ?_
      refine r_iastN (t := T) hx hb hK hs (42) (by omega) (md42 hM3) (rfl) (by omega) (by omega) dX8_lay_54 (fun H locs en_23 hen_23 hs => ?_)
      obtain ⟨c_25, ec_25⟩ : ∃ z, z = cU cA 42 (T) (2) := ⟨_, rfl⟩
      have hM_24 : MdW G n ad en_23 s.1 s.2 c_25 us 0 dp cl := md_ar (f := upd (cA 42) (T) (2)) hM3 42 (by decide) (by decide) hen_23 ec_25
      have fr_26 : ∀ k, k < 22 → en_23 k = en k := fun k hk => Eq.trans (by rw [hen_23]; exact va_up_ne _ _ (by omega)) (fr2 k hk)
      refine lv_iconst (v := 0) hx hb dX8_lay_55 (by decide) ?_
      refine lv_istore (lv' := [(6, .int (0)), (5, .int (1)), (4, .int (nI step)), (0, .ref (ad 22)), (1, .int (nI root)), (2, .int (nI T)), (3, .int (nI mv))]) hx hb dX8_lay_56 hl (by decide) rfl (fun ls hl => ?_)
      refine lv_aload_n hx hb dX8_lay_58 rfl (lv_at hl 3 rfl) ?_
      refine r_get (ci := 8) (v := .ref (ad 36)) (C := RX8) (T := TX8) (N := 31) hx hb hts inlX8 hown hK hs (22) (by omega) (md22 hM_24) rfl 18 (by decide) (hts _ w_fl_RX8_51) rfl dX8_lay_59 ?_
      refine lv_iload hx hb dX8_lay_62 (lv_at hl 2 rfl) ?_
      refine r_ialdN (t := step) hx hb hK hs (36) (by omega) (md36 hM_24) (rfl) (by omega) (by omega) dX8_lay_64 ?_
      refine r_topi (y := nI r) (by rw [ec_25, cU_o (by omega)]; exact k36) ?_
      refine lv_bipush (v := 11) hx hb dX8_lay_65 (by decide) ?_
      refine lv_icmp_ne (tgt := 194) hx hb dX8_lay_67 (by decide) (fun _ => ?_) (fun c67 => absurd c67 (fun q => by have := sw_nI (v := 11) q rfl (by omega) (by decide); omega))
      refine lv_aload_n hx hb dX8_lay_194 rfl (lv_at hl 3 rfl) ?_
      refine r_get (ci := 8) (v := .ref (ad 36)) (C := RX8) (T := TX8) (N := 31) hx hb hts inlX8 hown hK hs (22) (by omega) (md22 hM_24) rfl 18 (by decide) (hts _ w_fl_RX8_51) rfl dX8_lay_195 ?_
      refine lv_iload hx hb dX8_lay_198 (lv_at hl 2 rfl) ?_
      refine r_ialdN (t := step) hx hb hK hs (36) (by omega) (md36 hM_24) (rfl) (by omega) (by omega) dX8_lay_200 ?_
      refine r_topi (y := nI r) (by rw [ec_25, cU_o (by omega)]; exact k36) ?_
      refine lv_iconst (v := 2) hx hb dX8_lay_201 (by decide) ?_
      refine lv_icmp_le (tgt := 296) hx hb dX8_lay_202 (by decide) (fun c202 => absurd c202 (fun q => by have := (nI_leI (b := 2) (by omega) (by decide)).mp q; omega)) (fun _ => ?_)
      refine lv_iload hx hb dX8_lay_205 (lv_at hl 1 rfl) ?_
      refine lv_if_ne (tgt := 239) hx hb dX8_lay_207 (by decide) (fun _ => ?_) (fun c207 => absurd c207 (by decide))
      refine lv_iload hx hb dX8_lay_239 (lv_at hl 1 rfl) ?_
      refine lv_iconst (v := 1) hx hb dX8_lay_241 (by decide) ?_
      refine lv_icmp_ne (tgt := 252) hx hb dX8_lay_242 (by decide) (fun c242 => absurd (by decide) c242) (fun _ => ?_)
      refine lv_aload_n hx hb dX8_lay_245 rfl (lv_at hl 3 rfl) ?_
      refine r_get (ci := 8) (v := .ref (ad 44)) (C := RX8) (T := TX8) (N := 31) hx hb hts inlX8 hown hK hs (22) (by omega) (md22 hM_24) rfl 27 (by decide) (hts _ w_fl_RX8_75) rfl dX8_lay_246 ?_
      refine lv_iload_n hx hb dX8_lay_249 rfl (lv_at hl 5 rfl) ?_
      refine lv_iload_n hx hb dX8_lay_250 rfl (lv_at hl 6 rfl) ?_
      refine r_iastN (t := T) hx hb hK hs (44) (by omega) (md44 hM_24) (rfl) (by omega) (by omega) dX8_lay_251 (fun H locs en_28 hen_28 hs => ?_)
      obtain ⟨c_30, ec_30⟩ : ∃ z, z = cU c_25 44 (T) (nI mv) := ⟨_, rfl⟩
      have hM_29 : MdW G n ad en_28 s.1 s.2 c_30 us 0 dp cl := md_ar (f := upd (c_25 44) (T) (nI mv)) hM_24 44 (by decide) (by decide) hen_28 ec_30
      have fr_31 : ∀ k, k < 22 → en_28 k = en k := fun k hk => Eq.trans (by rw [hen_28]; exact va_up_ne _ _ (by omega)) (fr_26 k hk)
      refine lv_iload hx hb dX8_lay_252 (lv_at hl 1 rfl) ?_
      refine lv_if_ne (tgt := 267) hx hb dX8_lay_254 (by decide) (fun _ => ?_) (fun c254 => absurd c254 (by decide))
      refine lv_iload hx hb dX8_lay_267 (lv_at hl 1 rfl) ?_
      refine lv_iconst (v := 1) hx hb dX8_lay_269 (by decide) ?_
      refine lv_icmp_ne (tgt := 293) hx hb dX8_lay_270 (by decide) (fun c270 => absurd (by decide) c270) (fun _ => ?_)
      refine lv_aload_n hx hb dX8_lay_273 rfl (lv_at hl 3 rfl) ?_
      refine r_get (ci := 8) (v := .ref (ad 40)) (C := RX8) (T := TX8) (N := 31) hx hb hts inlX8 hown hK hs (22) (by omega) (md22 hM_29) rfl 22 (by decide) (hts _ w_fl_RX8_63) rfl dX8_lay_274 ?_
      refine lv_iload hx hb dX8_lay_277 (lv_at hl 2 rfl) ?_
      refine r_ialdN (t := step) hx hb hK hs (40) (by omega) (md40 hM_29) (rfl) (by omega) (by omega) dX8_lay_279 ?_
      refine r_topi (y := 0) (by rw [ec_30, cU_o (by omega), ec_25, cU_o (by omega)]; exact k40) ?_
      refine lv_if_eq (tgt := 293) hx hb dX8_lay_280 (by decide) (fun _ => ?_) (fun c280 => absurd (rfl) c280)
      refine lv_iconst (v := 0) hx hb dX8_lay_293 (by decide) ?_
      refine lv_istore (lv' := [(6, .int (0)), (5, .int (1)), (4, .int (nI step)), (0, .ref (ad 22)), (1, .int (nI root)), (2, .int (nI T)), (3, .int (nI mv))]) hx hb dX8_lay_294 hl (by decide) rfl (fun ls hl => ?_)
      refine lv_iload hx hb dX8_lay_296 (lv_at hl 0 rfl) ?_
      refine lv_if_eq (tgt := 322) hx hb dX8_lay_298 (by decide) (fun _ => ?_) (fun c298 => absurd (by decide) c298)
      refine lv_aload_n hx hb dX8_lay_322 rfl (lv_at hl 3 rfl) ?_
      refine lv_iload hx hb dX8_lay_323 (lv_at hl 2 rfl) ?_
      refine lv_iload_n hx hb dX8_lay_325 rfl (lv_at hl 6 rfl) ?_
      refine lv_aload_n hx hb dX8_lay_326 rfl (lv_at hl 3 rfl) ?_
      refine r_get (ci := 8) (v := .ref (ad 44)) (C := RX8) (T := TX8) (N := 31) hx hb hts inlX8 hown hK hs (22) (by omega) (md22 hM_29) rfl 27 (by decide) (hts _ w_fl_RX8_75) rfl dX8_lay_327 ?_
      refine lv_iload_n hx hb dX8_lay_330 rfl (lv_at hl 5 rfl) ?_
      refine r_ialdN (t := T) hx hb hK hs (44) (by omega) (md44 hM_29) (rfl) (by omega) (by omega) dX8_lay_331 ?_
      refine r_topi (y := nI uu) (by rw [ec_30, ec_25]; exact huu) ?_
      refine lv_aload_n hx hb dX8_lay_332 rfl (lv_at hl 3 rfl) ?_
      refine r_get (ci := 8) (v := .ref (ad 43)) (C := RX8) (T := TX8) (N := 31) hx hb hts inlX8 hown hK hs (22) (by omega) (md22 hM_29) rfl 26 (by decide) (hts _ w_fl_RX8_72) rfl dX8_lay_333 ?_
      refine lv_iload_n hx hb dX8_lay_336 rfl (lv_at hl 5 rfl) ?_
      refine r_ialdN (t := T) hx hb hK hs (43) (by omega) (md43 hM_29) (rfl) (by omega) (by omega) dX8_lay_337 ?_
      refine r_topi (y := nI hh) (by rw [ec_30, ec_25]; exact hhh) ?_
      obtain ⟨o1, s1, hq1⟩ : ∃ oo tt, AC s = (oo, tt) := ⟨_, _, rfl⟩
      rw [← ec_25, ← ec_30] at har
      refine r_callVi (ci := 8) (As := [.int (nI step), .int (nI mv), .int (nI uu), .int (nI hh)]) hx hb hml hown hts hK hA hs (22) (by omega) (md22 hM_29) rfl rfl (har _ hM_29) (cwV 4 hts (tbV w_ml_RX8_180 w_im_yX8_around w_se_yX8_around w_ini_RX8 w_cd_yX8_around) rfl rfl rfl (by decide +kernel) ⟨Nat.le_of_ble_eq_true rfl, Nat.le_of_ble_eq_true rfl⟩) rfl hl.1 rfl (Nat.le_of_ble_eq_true rfl) dX8_lay_338 ⟨Nat.le_refl _, Nat.le_refl _⟩ (fun r_35 ad_32 en_33 H locs hp_34 hs => ?_)
      obtain ⟨⟨hA1, hF1⟩, hr1, hN1⟩ := hp_34
      subst hA1
      rw [hq1] at hr1 hN1
      have hN1 : MdW G n ad en_33 s1.1 s1.2 c_30 us (ovB o1.isNone) dp cl := hN1
      rw [show r_35 = nI (o1.getD 0) from hr1]
      have fr_36 : ∀ k, k < 22 → en_33 k = en k := fun k hk => Eq.trans (hF1 k hk) (fr_31 k hk)
      have hgd1 : sGood s1 := ⟨hN1.2.2.2.2.1, hN1.2.2.2.2.2⟩
      refine lv_istore_n (lv' := [(3, .int (nI (o1.getD 0))), (6, .int (0)), (5, .int (1)), (4, .int (nI step)), (0, .ref (ad 22)), (1, .int (nI root)), (2, .int (nI T))]) hx hb dX8_lay_341 rfl hl (by decide) rfl (fun ls hl => ?_)
      obtain ⟨x2_37, ex2_37⟩ : ∃ y : Int32, y = nI T + (-1) := ⟨_, rfl⟩
      refine lv_iinc (v := x2_37) (lv' := [(2, .int (x2_37)), (3, .int (nI (o1.getD 0))), (6, .int (0)), (5, .int (1)), (4, .int (nI step)), (0, .ref (ad 22)), (1, .int (nI root))]) hx hb dX8_lay_342 hl (k := 6) rfl (by rw [ex2_37]; rfl) (by decide) rfl (fun ls hl => ?_)
      have e9 : x2_37 = nI (T - 1) := ex2_37.trans (nI_dec t1)
      rw [e9] at hl
      refine lv_goto (tgt := 18) hx hb dX8_lay_345 (by decide) ?_
      have z := hnx o1 s1 hq1 hgd1
      rw [← ec_25, ← ec_30] at z
      rw [hKd] at z
      exact z en_33 H locs ls fr_36 hN1 hs (lv_sub hl [5, 6, 0, 1] rfl)
    · skip
      rw [hKd]
      intro en2 H locs ls fr2 hM2 hs hl
      have hM3 : MdW G n ad en2 s.1 s.2 cA us 0 dp cl := hM2
      obtain ⟨hn48, -, -, -, hok, hnk⟩ := id hM3
      have h6 := hok.1
      have h8 := hnk.1
      refine lv_iload_n hx hb dX8_lay_18 rfl (lv_at hl 2 rfl) ?_
      refine lv_if_le (tgt := 348) hx hb dX8_lay_19 (by decide) (fun c19 => absurd c19 (fun q => by have := nI_le0 (by omega) q; omega)) (fun _ => ?_)
      refine lv_aload_n hx hb dX8_lay_22 rfl (lv_at hl 0 rfl) ?_
      refine r_get (ci := 8) (v := .int (0)) (C := RX8) (T := TX8) (N := 31) hx hb hts inlX8 hown hK hs (22) (by omega) (md22 hM3) rfl 11 (by decide) (hts _ w_fl_RX8_106) rfl dX8_lay_23 ?_
      refine lv_if_ne (tgt := 348) hx hb dX8_lay_26 (by decide) (fun c26 => absurd (by decide) c26) (fun _ => ?_)
      refine lv_aload_n hx hb dX8_lay_29 rfl (lv_at hl 0 rfl) ?_
      refine r_get (ci := 8) (v := .ref (ad 41)) (C := RX8) (T := TX8) (N := 31) hx hb hts inlX8 hown hK hs (22) (by omega) (md22 hM3) rfl 24 (by decide) (hts _ w_fl_RX8_66) rfl dX8_lay_30 ?_
      refine lv_iload_n hx hb dX8_lay_33 rfl (lv_at hl 2 rfl) ?_
      refine r_ialdN (t := T) hx hb hK hs (41) (by omega) (md41 hM3) (rfl) (by omega) (by omega) dX8_lay_34 ?_
      refine r_topi (y := nI step) (ha) ?_
      refine lv_istore (lv' := [(4, .int (nI step)), (0, .ref (ad 22)), (1, .int (nI root)), (2, .int (nI T)), (3, .int (nI mv))]) hx hb dX8_lay_35 hl (by decide) rfl (fun ls hl => ?_)
      refine lv_aload_n hx hb dX8_lay_37 rfl (lv_at hl 1 rfl) ?_
      refine r_get (ci := 8) (v := .ref (ad 42)) (C := RX8) (T := TX8) (N := 31) hx hb hts inlX8 hown hK hs (22) (by omega) (md22 hM3) rfl 25 (by decide) (hts _ w_fl_RX8_69) rfl dX8_lay_38 ?_
      refine lv_iload_n hx hb dX8_lay_41 rfl (lv_at hl 3 rfl) ?_
      refine r_ialdN (t := T) hx hb hK hs (42) (by omega) (md42 hM3) (rfl) (by omega) (by omega) dX8_lay_42 ?_
      refine r_topi (y := 2) (k42) ?_
      refine lv_istore (lv' := [(5, .int (2)), (4, .int (nI step)), (0, .ref (ad 22)), (1, .int (nI root)), (2, .int (nI T)), (3, .int (nI mv))]) hx hb dX8_lay_43 hl (by decide) rfl (fun ls hl => ?_)
      refine lv_aload_n hx hb dX8_lay_45 rfl (lv_at hl 2 rfl) ?_
      refine r_get (ci := 8) (v := .ref (ad 42)) (C := RX8) (T := TX8) (N := 31) hx hb hts inlX8 hown hK hs (22) (by omega) (md22 hM3) rfl 25 (by decide) (hts _ w_fl_RX8_69) rfl dX8_lay_46 ?_
      refine lv_iload_n hx hb dX8_lay_49 rfl (lv_at hl 4 rfl) ?_
      refine lv_dup2_11 hx hb dX8_lay_50 rfl rfl ?_
      refine r_ialdN (t := T) hx hb hK hs (42) (by omega) (md42 hM3) (rfl) (by omega) (by omega) dX8_lay_51 ?_
      refine r_topi (y := 2) (k42) ?_
      refine lv_iconst (v := 1) hx hb dX8_lay_52 (by decide) ?_
      refine lv_iadd hx hb dX8_lay_53 ?_
      refine r_topi (y := 3) (by decide) ?_
      refine r_iastN (t := T) hx hb hK hs (42) (by omega) (md42 hM3) (rfl) (by omega) (by omega) dX8_lay_54 (fun H locs en_39 hen_39 hs => ?_)
      obtain ⟨c_41, ec_41⟩ : ∃ z, z = cU cA 42 (T) (3) := ⟨_, rfl⟩
      have hM_40 : MdW G n ad en_39 s.1 s.2 c_41 us 0 dp cl := md_ar (f := upd (cA 42) (T) (3)) hM3 42 (by decide) (by decide) hen_39 ec_41
      have fr_42 : ∀ k, k < 22 → en_39 k = en k := fun k hk => Eq.trans (by rw [hen_39]; exact va_up_ne _ _ (by omega)) (fr2 k hk)
      refine lv_iconst (v := 0) hx hb dX8_lay_55 (by decide) ?_
      refine lv_istore (lv' := [(6, .int (0)), (5, .int (2)), (4, .int (nI step)), (0, .ref (ad 22)), (1, .int (nI root)), (2, .int (nI T)), (3, .int (nI mv))]) hx hb dX8_lay_56 hl (by decide) rfl (fun ls hl => ?_)
      refine lv_aload_n hx hb dX8_lay_58 rfl (lv_at hl 3 rfl) ?_
      refine r_get (ci := 8) (v := .ref (ad 36)) (C := RX8) (T := TX8) (N := 31) hx hb hts inlX8 hown hK hs (22) (by omega) (md22 hM_40) rfl 18 (by decide) (hts _ w_fl_RX8_51) rfl dX8_lay_59 ?_
      refine lv_iload hx hb dX8_lay_62 (lv_at hl 2 rfl) ?_
      refine r_ialdN (t := step) hx hb hK hs (36) (by omega) (md36 hM_40) (rfl) (by omega) (by omega) dX8_lay_64 ?_
      refine r_topi (y := nI r) (by rw [ec_41, cU_o (by omega)]; exact k36) ?_
      refine lv_bipush (v := 11) hx hb dX8_lay_65 (by decide) ?_
      refine lv_icmp_ne (tgt := 194) hx hb dX8_lay_67 (by decide) (fun _ => ?_) (fun c67 => absurd c67 (fun q => by have := sw_nI (v := 11) q rfl (by omega) (by decide); omega))
      refine lv_aload_n hx hb dX8_lay_194 rfl (lv_at hl 3 rfl) ?_
      refine r_get (ci := 8) (v := .ref (ad 36)) (C := RX8) (T := TX8) (N := 31) hx hb hts inlX8 hown hK hs (22) (by omega) (md22 hM_40) rfl 18 (by decide) (hts _ w_fl_RX8_51) rfl dX8_lay_195 ?_
      refine lv_iload hx hb dX8_lay_198 (lv_at hl 2 rfl) ?_
      refine r_ialdN (t := step) hx hb hK hs (36) (by omega) (md36 hM_40) (rfl) (by omega) (by omega) dX8_lay_200 ?_
      refine r_topi (y := nI r) (by rw [ec_41, cU_o (by omega)]; exact k36) ?_
      refine lv_iconst (v := 2) hx hb dX8_lay_201 (by decide) ?_
      refine lv_icmp_le (tgt := 296) hx hb dX8_lay_202 (by decide) (fun c202 => absurd c202 (fun q => by have := (nI_leI (b := 2) (by omega) (by decide)).mp q; omega)) (fun _ => ?_)
      refine lv_iload hx hb dX8_lay_205 (lv_at hl 1 rfl) ?_
      refine lv_if_ne (tgt := 239) hx hb dX8_lay_207 (by decide) (fun _ => ?_) (fun c207 => absurd c207 (by decide))
      refine lv_iload hx hb dX8_lay_239 (lv_at hl 1 rfl) ?_
      refine lv_iconst (v := 1) hx hb dX8_lay_241 (by decide) ?_
      refine lv_icmp_ne (tgt := 252) hx hb dX8_lay_242 (by decide) (fun _ => ?_) (fun c242 => absurd c242 (by decide))
      refine lv_iload hx hb dX8_lay_252 (lv_at hl 1 rfl) ?_
      refine lv_if_ne (tgt := 267) hx hb dX8_lay_254 (by decide) (fun _ => ?_) (fun c254 => absurd c254 (by decide))
      refine lv_iload hx hb dX8_lay_267 (lv_at hl 1 rfl) ?_
      refine lv_iconst (v := 1) hx hb dX8_lay_269 (by decide) ?_
      refine lv_icmp_ne (tgt := 293) hx hb dX8_lay_270 (by decide) (fun _ => ?_) (fun c270 => absurd c270 (by decide))
      refine lv_iconst (v := 0) hx hb dX8_lay_293 (by decide) ?_
      refine lv_istore (lv' := [(6, .int (0)), (5, .int (2)), (4, .int (nI step)), (0, .ref (ad 22)), (1, .int (nI root)), (2, .int (nI T)), (3, .int (nI mv))]) hx hb dX8_lay_294 hl (by decide) rfl (fun ls hl => ?_)
      refine lv_iload hx hb dX8_lay_296 (lv_at hl 0 rfl) ?_
      refine lv_if_eq (tgt := 322) hx hb dX8_lay_298 (by decide) (fun _ => ?_) (fun c298 => absurd (by decide) c298)
      refine lv_aload_n hx hb dX8_lay_322 rfl (lv_at hl 3 rfl) ?_
      refine lv_iload hx hb dX8_lay_323 (lv_at hl 2 rfl) ?_
      refine lv_iload_n hx hb dX8_lay_325 rfl (lv_at hl 6 rfl) ?_
      refine lv_aload_n hx hb dX8_lay_326 rfl (lv_at hl 3 rfl) ?_
      refine r_get (ci := 8) (v := .ref (ad 44)) (C := RX8) (T := TX8) (N := 31) hx hb hts inlX8 hown hK hs (22) (by omega) (md22 hM_40) rfl 27 (by decide) (hts _ w_fl_RX8_75) rfl dX8_lay_327 ?_
      refine lv_iload_n hx hb dX8_lay_330 rfl (lv_at hl 5 rfl) ?_
      refine r_ialdN (t := T) hx hb hK hs (44) (by omega) (md44 hM_40) (rfl) (by omega) (by omega) dX8_lay_331 ?_
      refine r_topi (y := nI uu) (by rw [ec_41]; exact huu) ?_
      refine lv_aload_n hx hb dX8_lay_332 rfl (lv_at hl 3 rfl) ?_
      refine r_get (ci := 8) (v := .ref (ad 43)) (C := RX8) (T := TX8) (N := 31) hx hb hts inlX8 hown hK hs (22) (by omega) (md22 hM_40) rfl 26 (by decide) (hts _ w_fl_RX8_72) rfl dX8_lay_333 ?_
      refine lv_iload_n hx hb dX8_lay_336 rfl (lv_at hl 5 rfl) ?_
      refine r_ialdN (t := T) hx hb hK hs (43) (by omega) (md43 hM_40) (rfl) (by omega) (by omega) dX8_lay_337 ?_
      refine r_topi (y := nI hh) (by rw [ec_41]; exact hhh) ?_
      obtain ⟨o1, s1, hq1⟩ : ∃ oo tt, AC s = (oo, tt) := ⟨_, _, rfl⟩
      rw [← ec_41] at har
      refine r_callVi (ci := 8) (As := [.int (nI step), .int (nI mv), .int (nI uu), .int (nI hh)]) hx hb hml hown hts hK hA hs (22) (by omega) (md22 hM_40) rfl rfl (har _ hM_40) (cwV 4 hts (tbV w_ml_RX8_180 w_im_yX8_around w_se_yX8_around w_ini_RX8 w_cd_yX8_around) rfl rfl rfl (by decide +kernel) ⟨Nat.le_of_ble_eq_true rfl, Nat.le_of_ble_eq_true rfl⟩) rfl hl.1 rfl (Nat.le_of_ble_eq_true rfl) dX8_lay_338 ⟨Nat.le_refl _, Nat.le_refl _⟩ (fun r_46 ad_43 en_44 H locs hp_45 hs => ?_)
      obtain ⟨⟨hA1, hF1⟩, hr1, hN1⟩ := hp_45
      subst hA1
      rw [hq1] at hr1 hN1
      have hN1 : MdW G n ad en_44 s1.1 s1.2 c_41 us (ovB o1.isNone) dp cl := hN1
      rw [show r_46 = nI (o1.getD 0) from hr1]
      have fr_47 : ∀ k, k < 22 → en_44 k = en k := fun k hk => Eq.trans (hF1 k hk) (fr_42 k hk)
      have hgd1 : sGood s1 := ⟨hN1.2.2.2.2.1, hN1.2.2.2.2.2⟩
      refine lv_istore_n (lv' := [(3, .int (nI (o1.getD 0))), (6, .int (0)), (5, .int (2)), (4, .int (nI step)), (0, .ref (ad 22)), (1, .int (nI root)), (2, .int (nI T))]) hx hb dX8_lay_341 rfl hl (by decide) rfl (fun ls hl => ?_)
      obtain ⟨x2_48, ex2_48⟩ : ∃ y : Int32, y = nI T + (-1) := ⟨_, rfl⟩
      refine lv_iinc (v := x2_48) (lv' := [(2, .int (x2_48)), (3, .int (nI (o1.getD 0))), (6, .int (0)), (5, .int (2)), (4, .int (nI step)), (0, .ref (ad 22)), (1, .int (nI root))]) hx hb dX8_lay_342 hl (k := 6) rfl (by rw [ex2_48]; rfl) (by decide) rfl (fun ls hl => ?_)
      have e9 : x2_48 = nI (T - 1) := ex2_48.trans (nI_dec t1)
      rw [e9] at hl
      refine lv_goto (tgt := 18) hx hb dX8_lay_345 (by decide) ?_
      have z := hnx o1 s1 hq1 hgd1
      rw [← ec_41] at z
      rw [hKd] at z
      exact z en_44 H locs ls fr_47 hN1 hs (lv_sub hl [5, 6, 0, 1] rfl)
    · skip
      rw [hKd]
      intro en2 H locs ls fr2 hM2 hs hl
      have hM3 : MdW G n ad en2 s.1 s.2 cA us 0 dp cl := hM2
      obtain ⟨hn48, -, -, -, hok, hnk⟩ := id hM3
      have h6 := hok.1
      have h8 := hnk.1
      refine lv_iload_n hx hb dX8_lay_18 rfl (lv_at hl 2 rfl) ?_
      refine lv_if_le (tgt := 348) hx hb dX8_lay_19 (by decide) (fun c19 => absurd c19 (fun q => by have := nI_le0 (by omega) q; omega)) (fun _ => ?_)
      refine lv_aload_n hx hb dX8_lay_22 rfl (lv_at hl 0 rfl) ?_
      refine r_get (ci := 8) (v := .int (0)) (C := RX8) (T := TX8) (N := 31) hx hb hts inlX8 hown hK hs (22) (by omega) (md22 hM3) rfl 11 (by decide) (hts _ w_fl_RX8_106) rfl dX8_lay_23 ?_
      refine lv_if_ne (tgt := 348) hx hb dX8_lay_26 (by decide) (fun c26 => absurd (by decide) c26) (fun _ => ?_)
      refine lv_aload_n hx hb dX8_lay_29 rfl (lv_at hl 0 rfl) ?_
      refine r_get (ci := 8) (v := .ref (ad 41)) (C := RX8) (T := TX8) (N := 31) hx hb hts inlX8 hown hK hs (22) (by omega) (md22 hM3) rfl 24 (by decide) (hts _ w_fl_RX8_66) rfl dX8_lay_30 ?_
      refine lv_iload_n hx hb dX8_lay_33 rfl (lv_at hl 2 rfl) ?_
      refine r_ialdN (t := T) hx hb hK hs (41) (by omega) (md41 hM3) (rfl) (by omega) (by omega) dX8_lay_34 ?_
      refine r_topi (y := nI step) (ha) ?_
      refine lv_istore (lv' := [(4, .int (nI step)), (0, .ref (ad 22)), (1, .int (nI root)), (2, .int (nI T)), (3, .int (nI mv))]) hx hb dX8_lay_35 hl (by decide) rfl (fun ls hl => ?_)
      refine lv_aload_n hx hb dX8_lay_37 rfl (lv_at hl 1 rfl) ?_
      refine r_get (ci := 8) (v := .ref (ad 42)) (C := RX8) (T := TX8) (N := 31) hx hb hts inlX8 hown hK hs (22) (by omega) (md22 hM3) rfl 25 (by decide) (hts _ w_fl_RX8_69) rfl dX8_lay_38 ?_
      refine lv_iload_n hx hb dX8_lay_41 rfl (lv_at hl 3 rfl) ?_
      refine r_ialdN (t := T) hx hb hK hs (42) (by omega) (md42 hM3) (rfl) (by omega) (by omega) dX8_lay_42 ?_
      refine r_topi (y := 1) (k42) ?_
      refine lv_istore (lv' := [(5, .int (1)), (4, .int (nI step)), (0, .ref (ad 22)), (1, .int (nI root)), (2, .int (nI T)), (3, .int (nI mv))]) hx hb dX8_lay_43 hl (by decide) rfl (fun ls hl => ?_)
      refine lv_aload_n hx hb dX8_lay_45 rfl (lv_at hl 2 rfl) ?_
      refine r_get (ci := 8) (v := .ref (ad 42)) (C := RX8) (T := TX8) (N := 31) hx hb hts inlX8 hown hK hs (22) (by omega) (md22 hM3) rfl 25 (by decide) (hts _ w_fl_RX8_69) rfl dX8_lay_46 ?_
      refine lv_iload_n hx hb dX8_lay_49 rfl (lv_at hl 4 rfl) ?_
      refine lv_dup2_11 hx hb dX8_lay_50 rfl rfl ?_
      refine r_ialdN (t := T) hx hb hK hs (42) (by omega) (md42 hM3) (rfl) (by omega) (by omega) dX8_lay_51 ?_
      refine r_topi (y := 1) (k42) ?_
      refine lv_iconst (v := 1) hx hb dX8_lay_52 (by decide) ?_
      refine lv_iadd hx hb dX8_lay_53 ?_
      refine r_topi (y := 2) (by decide) ?_
      refine r_iastN (t := T) hx hb hK hs (42) (by omega) (md42 hM3) (rfl) (by omega) (by omega) dX8_lay_54 (fun H locs en_50 hen_50 hs => ?_)
      obtain ⟨c_52, ec_52⟩ : ∃ z, z = cU cA 42 (T) (2) := ⟨_, rfl⟩
      have hM_51 : MdW G n ad en_50 s.1 s.2 c_52 us 0 dp cl := md_ar (f := upd (cA 42) (T) (2)) hM3 42 (by decide) (by decide) hen_50 ec_52
      have fr_53 : ∀ k, k < 22 → en_50 k = en k := fun k hk => Eq.trans (by rw [hen_50]; exact va_up_ne _ _ (by omega)) (fr2 k hk)
      refine lv_iconst (v := 0) hx hb dX8_lay_55 (by decide) ?_
      refine lv_istore (lv' := [(6, .int (0)), (5, .int (1)), (4, .int (nI step)), (0, .ref (ad 22)), (1, .int (nI root)), (2, .int (nI T)), (3, .int (nI mv))]) hx hb dX8_lay_56 hl (by decide) rfl (fun ls hl => ?_)
      refine lv_aload_n hx hb dX8_lay_58 rfl (lv_at hl 3 rfl) ?_
      refine r_get (ci := 8) (v := .ref (ad 36)) (C := RX8) (T := TX8) (N := 31) hx hb hts inlX8 hown hK hs (22) (by omega) (md22 hM_51) rfl 18 (by decide) (hts _ w_fl_RX8_51) rfl dX8_lay_59 ?_
      refine lv_iload hx hb dX8_lay_62 (lv_at hl 2 rfl) ?_
      refine r_ialdN (t := step) hx hb hK hs (36) (by omega) (md36 hM_51) (rfl) (by omega) (by omega) dX8_lay_64 ?_
      refine r_topi (y := nI 11) (by rw [ec_52, cU_o (by omega)]; exact k36) ?_
      refine lv_bipush (v := 11) hx hb dX8_lay_65 (by decide) ?_
      refine lv_icmp_ne (tgt := 194) hx hb dX8_lay_67 (by decide) (fun c67 => absurd (rfl) c67) (fun _ => ?_)
      refine lv_aload_n hx hb dX8_lay_70 rfl (lv_at hl 3 rfl) ?_
      refine r_get (ci := 8) (v := .ref (ad 37)) (C := RX8) (T := TX8) (N := 31) hx hb hts inlX8 hown hK hs (22) (by omega) (md22 hM_51) rfl 19 (by decide) (hts _ w_fl_RX8_54) rfl dX8_lay_71 ?_
      refine lv_iload hx hb dX8_lay_74 (lv_at hl 2 rfl) ?_
      refine r_ialdN (t := step) hx hb hK hs (37) (by omega) (md37 hM_51) (rfl) (by omega) (by omega) dX8_lay_76 ?_
      refine r_topi (y := c_52 37 (step)) (rfl) ?_
      refine lv_if_ge (tgt := 84) hx hb dX8_lay_77 (by decide) (fun c77 => absurd c77 (by rw [ec_52, cU_o (by omega)]; rcases k37 with q | q <;> rw [q] <;> decide)) (fun _ => ?_)
      refine lv_iconst (v := 1) hx hb dX8_lay_80 (by decide) ?_
      refine lv_goto (tgt := 85) hx hb dX8_lay_81 (by decide) ?_
      refine lv_istore (lv' := [(7, .int (1)), (6, .int (0)), (5, .int (1)), (4, .int (nI step)), (0, .ref (ad 22)), (1, .int (nI root)), (2, .int (nI T)), (3, .int (nI mv))]) hx hb dX8_lay_85 hl (by decide) rfl (fun ls hl => ?_)
      refine lv_iload hx hb dX8_lay_87 (lv_at hl 2 rfl) ?_
      refine lv_if_ne (tgt := 117) hx hb dX8_lay_89 (by decide) (fun _ => ?_) (fun c89 => absurd c89 (by decide))
      refine lv_iload hx hb dX8_lay_117 (lv_at hl 2 rfl) ?_
      refine lv_iconst (v := 1) hx hb dX8_lay_119 (by decide) ?_
      refine lv_icmp_ne (tgt := 138) hx hb dX8_lay_120 (by decide) (fun c120 => absurd (by decide) c120) (fun _ => ?_)
      refine lv_iload hx hb dX8_lay_123 (lv_at hl 0 rfl) ?_
      refine lv_if_ne (tgt := 138) hx hb dX8_lay_125 (by decide) (fun _ => ?_) (fun c125 => absurd c125 (by decide))
      refine lv_iconst (v := 0) hx hb dX8_lay_138 (by decide) ?_
      refine lv_istore (lv' := [(6, .int (0)), (7, .int (1)), (5, .int (1)), (4, .int (nI step)), (0, .ref (ad 22)), (1, .int (nI root)), (2, .int (nI T)), (3, .int (nI mv))]) hx hb dX8_lay_139 hl (by decide) rfl (fun ls hl => ?_)
      refine lv_iload hx hb dX8_lay_141 (lv_at hl 2 rfl) ?_
      refine lv_iconst (v := 1) hx hb dX8_lay_143 (by decide) ?_
      refine lv_icmp_ne (tgt := 191) hx hb dX8_lay_144 (by decide) (fun c144 => absurd (by decide) c144) (fun _ => ?_)
      refine lv_iload hx hb dX8_lay_147 (lv_at hl 1 rfl) ?_
      refine lv_if_ne (tgt := 191) hx hb dX8_lay_149 (by decide) (fun _ => ?_) (fun c149 => absurd c149 (by decide))
      refine lv_goto (tgt := 296) hx hb dX8_lay_191 (by decide) ?_
      refine lv_iload hx hb dX8_lay_296 (lv_at hl 0 rfl) ?_
      refine lv_if_eq (tgt := 322) hx hb dX8_lay_298 (by decide) (fun _ => ?_) (fun c298 => absurd (by decide) c298)
      refine lv_aload_n hx hb dX8_lay_322 rfl (lv_at hl 4 rfl) ?_
      refine lv_iload hx hb dX8_lay_323 (lv_at hl 3 rfl) ?_
      refine lv_iload_n hx hb dX8_lay_325 rfl (lv_at hl 7 rfl) ?_
      refine lv_aload_n hx hb dX8_lay_326 rfl (lv_at hl 4 rfl) ?_
      refine r_get (ci := 8) (v := .ref (ad 44)) (C := RX8) (T := TX8) (N := 31) hx hb hts inlX8 hown hK hs (22) (by omega) (md22 hM_51) rfl 27 (by decide) (hts _ w_fl_RX8_75) rfl dX8_lay_327 ?_
      refine lv_iload_n hx hb dX8_lay_330 rfl (lv_at hl 6 rfl) ?_
      refine r_ialdN (t := T) hx hb hK hs (44) (by omega) (md44 hM_51) (rfl) (by omega) (by omega) dX8_lay_331 ?_
      refine r_topi (y := nI uu) (by rw [ec_52]; exact huu) ?_
      refine lv_aload_n hx hb dX8_lay_332 rfl (lv_at hl 4 rfl) ?_
      refine r_get (ci := 8) (v := .ref (ad 43)) (C := RX8) (T := TX8) (N := 31) hx hb hts inlX8 hown hK hs (22) (by omega) (md22 hM_51) rfl 26 (by decide) (hts _ w_fl_RX8_72) rfl dX8_lay_333 ?_
      refine lv_iload_n hx hb dX8_lay_336 rfl (lv_at hl 6 rfl) ?_
      refine r_ialdN (t := T) hx hb hK hs (43) (by omega) (md43 hM_51) (rfl) (by omega) (by omega) dX8_lay_337 ?_
      refine r_topi (y := nI hh) (by rw [ec_52]; exact hhh) ?_
      obtain ⟨o1, s1, hq1⟩ : ∃ oo tt, AC s = (oo, tt) := ⟨_, _, rfl⟩
      rw [← ec_52] at har
      refine r_callVi (ci := 8) (As := [.int (nI step), .int (nI mv), .int (nI uu), .int (nI hh)]) hx hb hml hown hts hK hA hs (22) (by omega) (md22 hM_51) rfl rfl (har _ hM_51) (cwV 4 hts (tbV w_ml_RX8_180 w_im_yX8_around w_se_yX8_around w_ini_RX8 w_cd_yX8_around) rfl rfl rfl (by decide +kernel) ⟨Nat.le_of_ble_eq_true rfl, Nat.le_of_ble_eq_true rfl⟩) rfl hl.1 rfl (Nat.le_of_ble_eq_true rfl) dX8_lay_338 ⟨Nat.le_refl _, Nat.le_refl _⟩ (fun r_57 ad_54 en_55 H locs hp_56 hs => ?_)
      obtain ⟨⟨hA1, hF1⟩, hr1, hN1⟩ := hp_56
      subst hA1
      rw [hq1] at hr1 hN1
      have hN1 : MdW G n ad en_55 s1.1 s1.2 c_52 us (ovB o1.isNone) dp cl := hN1
      rw [show r_57 = nI (o1.getD 0) from hr1]
      have fr_58 : ∀ k, k < 22 → en_55 k = en k := fun k hk => Eq.trans (hF1 k hk) (fr_53 k hk)
      have hgd1 : sGood s1 := ⟨hN1.2.2.2.2.1, hN1.2.2.2.2.2⟩
      refine lv_istore_n (lv' := [(3, .int (nI (o1.getD 0))), (6, .int (0)), (7, .int (1)), (5, .int (1)), (4, .int (nI step)), (0, .ref (ad 22)), (1, .int (nI root)), (2, .int (nI T))]) hx hb dX8_lay_341 rfl hl (by decide) rfl (fun ls hl => ?_)
      obtain ⟨x2_59, ex2_59⟩ : ∃ y : Int32, y = nI T + (-1) := ⟨_, rfl⟩
      refine lv_iinc (v := x2_59) (lv' := [(2, .int (x2_59)), (3, .int (nI (o1.getD 0))), (6, .int (0)), (7, .int (1)), (5, .int (1)), (4, .int (nI step)), (0, .ref (ad 22)), (1, .int (nI root))]) hx hb dX8_lay_342 hl (k := 7) rfl (by rw [ex2_59]; rfl) (by decide) rfl (fun ls hl => ?_)
      have e9 : x2_59 = nI (T - 1) := ex2_59.trans (nI_dec t1)
      rw [e9] at hl
      refine lv_goto (tgt := 18) hx hb dX8_lay_345 (by decide) ?_
      have z := hnx o1 s1 hq1 hgd1
      rw [← ec_52] at z
      rw [hKd] at z
      exact z en_55 H locs ls fr_58 hN1 hs (lv_sub hl [6, 7, 0, 1] rfl)
    · skip
      rw [hKd]
      intro en2 H locs ls fr2 hM2 hs hl
      have hM3 : MdW G n ad en2 s.1 s.2 cA us 0 dp cl := hM2
      obtain ⟨hn48, -, -, -, hok, hnk⟩ := id hM3
      have h6 := hok.1
      have h8 := hnk.1
      refine lv_iload_n hx hb dX8_lay_18 rfl (lv_at hl 2 rfl) ?_
      refine lv_if_le (tgt := 348) hx hb dX8_lay_19 (by decide) (fun c19 => absurd c19 (fun q => by have := nI_le0 (by omega) q; omega)) (fun _ => ?_)
      refine lv_aload_n hx hb dX8_lay_22 rfl (lv_at hl 0 rfl) ?_
      refine r_get (ci := 8) (v := .int (0)) (C := RX8) (T := TX8) (N := 31) hx hb hts inlX8 hown hK hs (22) (by omega) (md22 hM3) rfl 11 (by decide) (hts _ w_fl_RX8_106) rfl dX8_lay_23 ?_
      refine lv_if_ne (tgt := 348) hx hb dX8_lay_26 (by decide) (fun c26 => absurd (by decide) c26) (fun _ => ?_)
      refine lv_aload_n hx hb dX8_lay_29 rfl (lv_at hl 0 rfl) ?_
      refine r_get (ci := 8) (v := .ref (ad 41)) (C := RX8) (T := TX8) (N := 31) hx hb hts inlX8 hown hK hs (22) (by omega) (md22 hM3) rfl 24 (by decide) (hts _ w_fl_RX8_66) rfl dX8_lay_30 ?_
      refine lv_iload_n hx hb dX8_lay_33 rfl (lv_at hl 2 rfl) ?_
      refine r_ialdN (t := T) hx hb hK hs (41) (by omega) (md41 hM3) (rfl) (by omega) (by omega) dX8_lay_34 ?_
      refine r_topi (y := nI step) (ha) ?_
      refine lv_istore (lv' := [(4, .int (nI step)), (0, .ref (ad 22)), (1, .int (nI root)), (2, .int (nI T)), (3, .int (nI mv))]) hx hb dX8_lay_35 hl (by decide) rfl (fun ls hl => ?_)
      refine lv_aload_n hx hb dX8_lay_37 rfl (lv_at hl 1 rfl) ?_
      refine r_get (ci := 8) (v := .ref (ad 42)) (C := RX8) (T := TX8) (N := 31) hx hb hts inlX8 hown hK hs (22) (by omega) (md22 hM3) rfl 25 (by decide) (hts _ w_fl_RX8_69) rfl dX8_lay_38 ?_
      refine lv_iload_n hx hb dX8_lay_41 rfl (lv_at hl 3 rfl) ?_
      refine r_ialdN (t := T) hx hb hK hs (42) (by omega) (md42 hM3) (rfl) (by omega) (by omega) dX8_lay_42 ?_
      refine r_topi (y := 2) (k42) ?_
      refine lv_istore (lv' := [(5, .int (2)), (4, .int (nI step)), (0, .ref (ad 22)), (1, .int (nI root)), (2, .int (nI T)), (3, .int (nI mv))]) hx hb dX8_lay_43 hl (by decide) rfl (fun ls hl => ?_)
      refine lv_aload_n hx hb dX8_lay_45 rfl (lv_at hl 2 rfl) ?_
      refine r_get (ci := 8) (v := .ref (ad 42)) (C := RX8) (T := TX8) (N := 31) hx hb hts inlX8 hown hK hs (22) (by omega) (md22 hM3) rfl 25 (by decide) (hts _ w_fl_RX8_69) rfl dX8_lay_46 ?_
      refine lv_iload_n hx hb dX8_lay_49 rfl (lv_at hl 4 rfl) ?_
      refine lv_dup2_11 hx hb dX8_lay_50 rfl rfl ?_
      refine r_ialdN (t := T) hx hb hK hs (42) (by omega) (md42 hM3) (rfl) (by omega) (by omega) dX8_lay_51 ?_
      refine r_topi (y := 2) (k42) ?_
      refine lv_iconst (v := 1) hx hb dX8_lay_52 (by decide) ?_
      refine lv_iadd hx hb dX8_lay_53 ?_
      refine r_topi (y := 3) (by decide) ?_
      refine r_iastN (t := T) hx hb hK hs (42) (by omega) (md42 hM3) (rfl) (by omega) (by omega) dX8_lay_54 (fun H locs en_61 hen_61 hs => ?_)
      obtain ⟨c_63, ec_63⟩ : ∃ z, z = cU cA 42 (T) (3) := ⟨_, rfl⟩
      have hM_62 : MdW G n ad en_61 s.1 s.2 c_63 us 0 dp cl := md_ar (f := upd (cA 42) (T) (3)) hM3 42 (by decide) (by decide) hen_61 ec_63
      have fr_64 : ∀ k, k < 22 → en_61 k = en k := fun k hk => Eq.trans (by rw [hen_61]; exact va_up_ne _ _ (by omega)) (fr2 k hk)
      refine lv_iconst (v := 0) hx hb dX8_lay_55 (by decide) ?_
      refine lv_istore (lv' := [(6, .int (0)), (5, .int (2)), (4, .int (nI step)), (0, .ref (ad 22)), (1, .int (nI root)), (2, .int (nI T)), (3, .int (nI mv))]) hx hb dX8_lay_56 hl (by decide) rfl (fun ls hl => ?_)
      refine lv_aload_n hx hb dX8_lay_58 rfl (lv_at hl 3 rfl) ?_
      refine r_get (ci := 8) (v := .ref (ad 36)) (C := RX8) (T := TX8) (N := 31) hx hb hts inlX8 hown hK hs (22) (by omega) (md22 hM_62) rfl 18 (by decide) (hts _ w_fl_RX8_51) rfl dX8_lay_59 ?_
      refine lv_iload hx hb dX8_lay_62 (lv_at hl 2 rfl) ?_
      refine r_ialdN (t := step) hx hb hK hs (36) (by omega) (md36 hM_62) (rfl) (by omega) (by omega) dX8_lay_64 ?_
      refine r_topi (y := nI 11) (by rw [ec_63, cU_o (by omega)]; exact k36) ?_
      refine lv_bipush (v := 11) hx hb dX8_lay_65 (by decide) ?_
      refine lv_icmp_ne (tgt := 194) hx hb dX8_lay_67 (by decide) (fun c67 => absurd (rfl) c67) (fun _ => ?_)
      refine lv_aload_n hx hb dX8_lay_70 rfl (lv_at hl 3 rfl) ?_
      refine r_get (ci := 8) (v := .ref (ad 37)) (C := RX8) (T := TX8) (N := 31) hx hb hts inlX8 hown hK hs (22) (by omega) (md22 hM_62) rfl 19 (by decide) (hts _ w_fl_RX8_54) rfl dX8_lay_71 ?_
      refine lv_iload hx hb dX8_lay_74 (lv_at hl 2 rfl) ?_
      refine r_ialdN (t := step) hx hb hK hs (37) (by omega) (md37 hM_62) (rfl) (by omega) (by omega) dX8_lay_76 ?_
      refine r_topi (y := nI f) (by rw [ec_63, cU_o (by omega)]; exact k37) ?_
      refine lv_if_ge (tgt := 84) hx hb dX8_lay_77 (by decide) (fun _ => ?_) (fun c77 => absurd (nI_pos' (by omega)) c77)
      refine lv_iconst (v := 0) hx hb dX8_lay_84 (by decide) ?_
      refine lv_istore (lv' := [(7, .int (0)), (6, .int (0)), (5, .int (2)), (4, .int (nI step)), (0, .ref (ad 22)), (1, .int (nI root)), (2, .int (nI T)), (3, .int (nI mv))]) hx hb dX8_lay_85 hl (by decide) rfl (fun ls hl => ?_)
      refine lv_iload hx hb dX8_lay_87 (lv_at hl 2 rfl) ?_
      refine lv_if_ne (tgt := 117) hx hb dX8_lay_89 (by decide) (fun _ => ?_) (fun c89 => absurd c89 (by decide))
      refine lv_iload hx hb dX8_lay_117 (lv_at hl 2 rfl) ?_
      refine lv_iconst (v := 1) hx hb dX8_lay_119 (by decide) ?_
      refine lv_icmp_ne (tgt := 138) hx hb dX8_lay_120 (by decide) (fun _ => ?_) (fun c120 => absurd c120 (by decide))
      refine lv_iconst (v := 0) hx hb dX8_lay_138 (by decide) ?_
      refine lv_istore (lv' := [(6, .int (0)), (7, .int (0)), (5, .int (2)), (4, .int (nI step)), (0, .ref (ad 22)), (1, .int (nI root)), (2, .int (nI T)), (3, .int (nI mv))]) hx hb dX8_lay_139 hl (by decide) rfl (fun ls hl => ?_)
      refine lv_iload hx hb dX8_lay_141 (lv_at hl 2 rfl) ?_
      refine lv_iconst (v := 1) hx hb dX8_lay_143 (by decide) ?_
      refine lv_icmp_ne (tgt := 191) hx hb dX8_lay_144 (by decide) (fun _ => ?_) (fun c144 => absurd c144 (by decide))
      refine lv_goto (tgt := 296) hx hb dX8_lay_191 (by decide) ?_
      refine lv_iload hx hb dX8_lay_296 (lv_at hl 0 rfl) ?_
      refine lv_if_eq (tgt := 322) hx hb dX8_lay_298 (by decide) (fun _ => ?_) (fun c298 => absurd (by decide) c298)
      refine lv_aload_n hx hb dX8_lay_322 rfl (lv_at hl 4 rfl) ?_
      refine lv_iload hx hb dX8_lay_323 (lv_at hl 3 rfl) ?_
      refine lv_iload_n hx hb dX8_lay_325 rfl (lv_at hl 7 rfl) ?_
      refine lv_aload_n hx hb dX8_lay_326 rfl (lv_at hl 4 rfl) ?_
      refine r_get (ci := 8) (v := .ref (ad 44)) (C := RX8) (T := TX8) (N := 31) hx hb hts inlX8 hown hK hs (22) (by omega) (md22 hM_62) rfl 27 (by decide) (hts _ w_fl_RX8_75) rfl dX8_lay_327 ?_
      refine lv_iload_n hx hb dX8_lay_330 rfl (lv_at hl 6 rfl) ?_
      refine r_ialdN (t := T) hx hb hK hs (44) (by omega) (md44 hM_62) (rfl) (by omega) (by omega) dX8_lay_331 ?_
      refine r_topi (y := nI uu) (by rw [ec_63]; exact huu) ?_
      refine lv_aload_n hx hb dX8_lay_332 rfl (lv_at hl 4 rfl) ?_
      refine r_get (ci := 8) (v := .ref (ad 43)) (C := RX8) (T := TX8) (N := 31) hx hb hts inlX8 hown hK hs (22) (by omega) (md22 hM_62) rfl 26 (by decide) (hts _ w_fl_RX8_72) rfl dX8_lay_333 ?_
      refine lv_iload_n hx hb dX8_lay_336 rfl (lv_at hl 6 rfl) ?_
      refine r_ialdN (t := T) hx hb hK hs (43) (by omega) (md43 hM_62) (rfl) (by omega) (by omega) dX8_lay_337 ?_
      refine r_topi (y := nI hh) (by rw [ec_63]; exact hhh) ?_
      obtain ⟨o1, s1, hq1⟩ : ∃ oo tt, AC s = (oo, tt) := ⟨_, _, rfl⟩
      rw [← ec_63] at har
      refine r_callVi (ci := 8) (As := [.int (nI step), .int (nI mv), .int (nI uu), .int (nI hh)]) hx hb hml hown hts hK hA hs (22) (by omega) (md22 hM_62) rfl rfl (har _ hM_62) (cwV 4 hts (tbV w_ml_RX8_180 w_im_yX8_around w_se_yX8_around w_ini_RX8 w_cd_yX8_around) rfl rfl rfl (by decide +kernel) ⟨Nat.le_of_ble_eq_true rfl, Nat.le_of_ble_eq_true rfl⟩) rfl hl.1 rfl (Nat.le_of_ble_eq_true rfl) dX8_lay_338 ⟨Nat.le_refl _, Nat.le_refl _⟩ (fun r_68 ad_65 en_66 H locs hp_67 hs => ?_)
      obtain ⟨⟨hA1, hF1⟩, hr1, hN1⟩ := hp_67
      subst hA1
      rw [hq1] at hr1 hN1
      have hN1 : MdW G n ad en_66 s1.1 s1.2 c_63 us (ovB o1.isNone) dp cl := hN1
      rw [show r_68 = nI (o1.getD 0) from hr1]
      have fr_69 : ∀ k, k < 22 → en_66 k = en k := fun k hk => Eq.trans (hF1 k hk) (fr_64 k hk)
      have hgd1 : sGood s1 := ⟨hN1.2.2.2.2.1, hN1.2.2.2.2.2⟩
      refine lv_istore_n (lv' := [(3, .int (nI (o1.getD 0))), (6, .int (0)), (7, .int (0)), (5, .int (2)), (4, .int (nI step)), (0, .ref (ad 22)), (1, .int (nI root)), (2, .int (nI T))]) hx hb dX8_lay_341 rfl hl (by decide) rfl (fun ls hl => ?_)
      obtain ⟨x2_70, ex2_70⟩ : ∃ y : Int32, y = nI T + (-1) := ⟨_, rfl⟩
      refine lv_iinc (v := x2_70) (lv' := [(2, .int (x2_70)), (3, .int (nI (o1.getD 0))), (6, .int (0)), (7, .int (0)), (5, .int (2)), (4, .int (nI step)), (0, .ref (ad 22)), (1, .int (nI root))]) hx hb dX8_lay_342 hl (k := 7) rfl (by rw [ex2_70]; rfl) (by decide) rfl (fun ls hl => ?_)
      have e9 : x2_70 = nI (T - 1) := ex2_70.trans (nI_dec t1)
      rw [e9] at hl
      refine lv_goto (tgt := 18) hx hb dX8_lay_345 (by decide) ?_
      have z := hnx o1 s1 hq1 hgd1
      rw [← ec_63] at z
      rw [hKd] at z
      exact z en_66 H locs ls fr_69 hN1 hs (lv_sub hl [6, 7, 0, 1] rfl)
  have hQc : LcQ K := by
    intro T mv step nx cA cB s t1 t2 ha hs3 hnx0 hqc hnx
    rcases hqc with ⟨r, k36, kr, k42, k39, rfl⟩ | ⟨r, k36, kr, k42, k40, rfl⟩ | ⟨k36, k37, k42, k39, rfl⟩ | ⟨k36, ⟨f, kf, k37⟩, k42, k40, rfl⟩
    · skip
      rw [hKd]
      intro en2 H locs ls fr2 hM2 hs hl
      have hM3 : MdW G n ad en2 s.1 s.2 cA us 0 dp cl := hM2
      obtain ⟨hn48, -, -, -, hok, hnk⟩ := id hM3
      have h6 := hok.1
      have h8 := hnk.1
      refine lv_iload_n hx hb dX8_lay_18 rfl (lv_at hl 2 rfl) ?_
      refine lv_if_le (tgt := 348) hx hb dX8_lay_19 (by decide) (fun c19 => absurd c19 (fun q => by have := nI_le0 (by omega) q; omega)) (fun _ => ?_)
      refine lv_aload_n hx hb dX8_lay_22 rfl (lv_at hl 0 rfl) ?_
      refine r_get (ci := 8) (v := .int (0)) (C := RX8) (T := TX8) (N := 31) hx hb hts inlX8 hown hK hs (22) (by omega) (md22 hM3) rfl 11 (by decide) (hts _ w_fl_RX8_106) rfl dX8_lay_23 ?_
      refine lv_if_ne (tgt := 348) hx hb dX8_lay_26 (by decide) (fun c26 => absurd (by decide) c26) (fun _ => ?_)
      refine lv_aload_n hx hb dX8_lay_29 rfl (lv_at hl 0 rfl) ?_
      refine r_get (ci := 8) (v := .ref (ad 41)) (C := RX8) (T := TX8) (N := 31) hx hb hts inlX8 hown hK hs (22) (by omega) (md22 hM3) rfl 24 (by decide) (hts _ w_fl_RX8_66) rfl dX8_lay_30 ?_
      refine lv_iload_n hx hb dX8_lay_33 rfl (lv_at hl 2 rfl) ?_
      refine r_ialdN (t := T) hx hb hK hs (41) (by omega) (md41 hM3) (rfl) (by omega) (by omega) dX8_lay_34 ?_
      refine r_topi (y := nI step) (ha) ?_
      refine lv_istore (lv' := [(4, .int (nI step)), (0, .ref (ad 22)), (1, .int (nI root)), (2, .int (nI T)), (3, .int (nI mv))]) hx hb dX8_lay_35 hl (by decide) rfl (fun ls hl => ?_)
      refine lv_aload_n hx hb dX8_lay_37 rfl (lv_at hl 1 rfl) ?_
      refine r_get (ci := 8) (v := .ref (ad 42)) (C := RX8) (T := TX8) (N := 31) hx hb hts inlX8 hown hK hs (22) (by omega) (md22 hM3) rfl 25 (by decide) (hts _ w_fl_RX8_69) rfl dX8_lay_38 ?_
      refine lv_iload_n hx hb dX8_lay_41 rfl (lv_at hl 3 rfl) ?_
      refine r_ialdN (t := T) hx hb hK hs (42) (by omega) (md42 hM3) (rfl) (by omega) (by omega) dX8_lay_42 ?_
      refine r_topi (y := 0) (k42) ?_
      refine lv_istore (lv' := [(5, .int (0)), (4, .int (nI step)), (0, .ref (ad 22)), (1, .int (nI root)), (2, .int (nI T)), (3, .int (nI mv))]) hx hb dX8_lay_43 hl (by decide) rfl (fun ls hl => ?_)
      refine lv_aload_n hx hb dX8_lay_45 rfl (lv_at hl 2 rfl) ?_
      refine r_get (ci := 8) (v := .ref (ad 42)) (C := RX8) (T := TX8) (N := 31) hx hb hts inlX8 hown hK hs (22) (by omega) (md22 hM3) rfl 25 (by decide) (hts _ w_fl_RX8_69) rfl dX8_lay_46 ?_
      refine lv_iload_n hx hb dX8_lay_49 rfl (lv_at hl 4 rfl) ?_
      refine lv_dup2_11 hx hb dX8_lay_50 rfl rfl ?_
      refine r_ialdN (t := T) hx hb hK hs (42) (by omega) (md42 hM3) (rfl) (by omega) (by omega) dX8_lay_51 ?_
      refine r_topi (y := 0) (k42) ?_
      refine lv_iconst (v := 1) hx hb dX8_lay_52 (by decide) ?_
      refine lv_iadd hx hb dX8_lay_53 ?_
      refine r_topi (y := 1) (by decide) ?_
      refine r_iastN (t := T) hx hb hK hs (42) (by omega) (md42 hM3) (rfl) (by omega) (by omega) dX8_lay_54 (fun H locs en_72 hen_72 hs => ?_)
      obtain ⟨c_74, ec_74⟩ : ∃ z, z = cU cA 42 (T) (1) := ⟨_, rfl⟩
      have hM_73 : MdW G n ad en_72 s.1 s.2 c_74 us 0 dp cl := md_ar (f := upd (cA 42) (T) (1)) hM3 42 (by decide) (by decide) hen_72 ec_74
      have fr_75 : ∀ k, k < 22 → en_72 k = en k := fun k hk => Eq.trans (by rw [hen_72]; exact va_up_ne _ _ (by omega)) (fr2 k hk)
      refine lv_iconst (v := 0) hx hb dX8_lay_55 (by decide) ?_
      refine lv_istore (lv' := [(6, .int (0)), (5, .int (0)), (4, .int (nI step)), (0, .ref (ad 22)), (1, .int (nI root)), (2, .int (nI T)), (3, .int (nI mv))]) hx hb dX8_lay_56 hl (by decide) rfl (fun ls hl => ?_)
      refine lv_aload_n hx hb dX8_lay_58 rfl (lv_at hl 3 rfl) ?_
      refine r_get (ci := 8) (v := .ref (ad 36)) (C := RX8) (T := TX8) (N := 31) hx hb hts inlX8 hown hK hs (22) (by omega) (md22 hM_73) rfl 18 (by decide) (hts _ w_fl_RX8_51) rfl dX8_lay_59 ?_
      refine lv_iload hx hb dX8_lay_62 (lv_at hl 2 rfl) ?_
      refine r_ialdN (t := step) hx hb hK hs (36) (by omega) (md36 hM_73) (rfl) (by omega) (by omega) dX8_lay_64 ?_
      refine r_topi (y := nI r) (by rw [ec_74, cU_o (by omega)]; exact k36) ?_
      refine lv_bipush (v := 11) hx hb dX8_lay_65 (by decide) ?_
      refine lv_icmp_ne (tgt := 194) hx hb dX8_lay_67 (by decide) (fun _ => ?_) (fun c67 => absurd c67 (fun q => by have := sw_nI (v := 11) q rfl (by omega) (by decide); omega))
      refine lv_aload_n hx hb dX8_lay_194 rfl (lv_at hl 3 rfl) ?_
      refine r_get (ci := 8) (v := .ref (ad 36)) (C := RX8) (T := TX8) (N := 31) hx hb hts inlX8 hown hK hs (22) (by omega) (md22 hM_73) rfl 18 (by decide) (hts _ w_fl_RX8_51) rfl dX8_lay_195 ?_
      refine lv_iload hx hb dX8_lay_198 (lv_at hl 2 rfl) ?_
      refine r_ialdN (t := step) hx hb hK hs (36) (by omega) (md36 hM_73) (rfl) (by omega) (by omega) dX8_lay_200 ?_
      refine r_topi (y := nI r) (by rw [ec_74, cU_o (by omega)]; exact k36) ?_
      refine lv_iconst (v := 2) hx hb dX8_lay_201 (by decide) ?_
      refine lv_icmp_le (tgt := 296) hx hb dX8_lay_202 (by decide) (fun c202 => absurd c202 (fun q => by have := (nI_leI (b := 2) (by omega) (by decide)).mp q; omega)) (fun _ => ?_)
      refine lv_iload hx hb dX8_lay_205 (lv_at hl 1 rfl) ?_
      refine lv_if_ne (tgt := 239) hx hb dX8_lay_207 (by decide) (fun c207 => absurd (by decide) c207) (fun _ => ?_)
      refine lv_aload_n hx hb dX8_lay_210 rfl (lv_at hl 3 rfl) ?_
      refine r_get (ci := 8) (v := .ref (ad 36)) (C := RX8) (T := TX8) (N := 31) hx hb hts inlX8 hown hK hs (22) (by omega) (md22 hM_73) rfl 18 (by decide) (hts _ w_fl_RX8_51) rfl dX8_lay_211 ?_
      refine lv_iload hx hb dX8_lay_214 (lv_at hl 2 rfl) ?_
      refine r_ialdN (t := step) hx hb hK hs (36) (by omega) (md36 hM_73) (rfl) (by omega) (by omega) dX8_lay_216 ?_
      refine r_topi (y := nI r) (by rw [ec_74, cU_o (by omega)]; exact k36) ?_
      refine lv_bipush (v := 6) hx hb dX8_lay_217 (by decide) ?_
      refine lv_icmp_ne (tgt := 239) hx hb dX8_lay_219 (by decide) (fun _ => ?_) (fun c219 => absurd c219 (fun q => by have := sw_nI (v := 6) q rfl (by omega) (by decide); omega))
      refine lv_iload hx hb dX8_lay_239 (lv_at hl 1 rfl) ?_
      refine lv_iconst (v := 1) hx hb dX8_lay_241 (by decide) ?_
      refine lv_icmp_ne (tgt := 252) hx hb dX8_lay_242 (by decide) (fun _ => ?_) (fun c242 => absurd c242 (by decide))
      refine lv_iload hx hb dX8_lay_252 (lv_at hl 1 rfl) ?_
      refine lv_if_ne (tgt := 267) hx hb dX8_lay_254 (by decide) (fun c254 => absurd (by decide) c254) (fun _ => ?_)
      refine lv_aload_n hx hb dX8_lay_257 rfl (lv_at hl 3 rfl) ?_
      refine r_get (ci := 8) (v := .ref (ad 39)) (C := RX8) (T := TX8) (N := 31) hx hb hts inlX8 hown hK hs (22) (by omega) (md22 hM_73) rfl 21 (by decide) (hts _ w_fl_RX8_60) rfl dX8_lay_258 ?_
      refine lv_iload hx hb dX8_lay_261 (lv_at hl 2 rfl) ?_
      refine r_ialdN (t := step) hx hb hK hs (39) (by omega) (md39 hM_73) (rfl) (by omega) (by omega) dX8_lay_263 ?_
      refine r_topi (y := nI nx) (by rw [ec_74, cU_o (by omega)]; exact k39) ?_
      refine lv_goto (tgt := 294) hx hb dX8_lay_264 (by decide) ?_
      refine lv_istore (lv' := [(6, .int (nI nx)), (5, .int (0)), (4, .int (nI step)), (0, .ref (ad 22)), (1, .int (nI root)), (2, .int (nI T)), (3, .int (nI mv))]) hx hb dX8_lay_294 hl (by decide) rfl (fun ls hl => ?_)
      refine lv_iload hx hb dX8_lay_296 (lv_at hl 0 rfl) ?_
      refine lv_if_eq (tgt := 322) hx hb dX8_lay_298 (by decide) (fun c298 => absurd c298 (fun q => by have := z_of (by omega) q; omega)) (fun _ => ?_)
      refine lv_iinc (v := nI (T + 1)) (lv' := [(2, .int (nI (T + 1))), (6, .int (nI nx)), (5, .int (0)), (4, .int (nI step)), (0, .ref (ad 22)), (1, .int (nI root)), (3, .int (nI mv))]) hx hb dX8_lay_301 hl (k := 5) rfl (nI_add T 1) (by decide) rfl (fun ls hl => ?_)
      refine lv_aload_n hx hb dX8_lay_304 rfl (lv_at hl 4 rfl) ?_
      refine r_get (ci := 8) (v := .ref (ad 41)) (C := RX8) (T := TX8) (N := 31) hx hb hts inlX8 hown hK hs (22) (by omega) (md22 hM_73) rfl 24 (by decide) (hts _ w_fl_RX8_66) rfl dX8_lay_305 ?_
      refine lv_iload_n hx hb dX8_lay_308 rfl (lv_at hl 0 rfl) ?_
      refine lv_iload hx hb dX8_lay_309 (lv_at hl 1 rfl) ?_
      refine r_iastN (t := T + 1) hx hb hK hs (41) (by omega) (md41 hM_73) (rfl) (by omega) (by omega) dX8_lay_311 (fun H locs en_77 hen_77 hs => ?_)
      obtain ⟨c_79, ec_79⟩ : ∃ z, z = cU c_74 41 (T + 1) (nI nx) := ⟨_, rfl⟩
      have hM_78 : MdW G n ad en_77 s.1 s.2 c_79 us 0 dp cl := md_ar (f := upd (c_74 41) (T + 1) (nI nx)) hM_73 41 (by decide) (by decide) hen_77 ec_79
      have fr_80 : ∀ k, k < 22 → en_77 k = en k := fun k hk => Eq.trans (by rw [hen_77]; exact va_up_ne _ _ (by omega)) (fr_75 k hk)
      refine lv_aload_n hx hb dX8_lay_312 rfl (lv_at hl 4 rfl) ?_
      refine r_get (ci := 8) (v := .ref (ad 42)) (C := RX8) (T := TX8) (N := 31) hx hb hts inlX8 hown hK hs (22) (by omega) (md22 hM_78) rfl 25 (by decide) (hts _ w_fl_RX8_69) rfl dX8_lay_313 ?_
      refine lv_iload_n hx hb dX8_lay_316 rfl (lv_at hl 0 rfl) ?_
      refine lv_iconst (v := 0) hx hb dX8_lay_317 (by decide) ?_
      refine r_iastN (t := T + 1) hx hb hK hs (42) (by omega) (md42 hM_78) (rfl) (by omega) (by omega) dX8_lay_318 (fun H locs en_82 hen_82 hs => ?_)
      obtain ⟨c_84, ec_84⟩ : ∃ z, z = cU c_79 42 (T + 1) (0) := ⟨_, rfl⟩
      have hM_83 : MdW G n ad en_82 s.1 s.2 c_84 us 0 dp cl := md_ar (f := upd (c_79 42) (T + 1) (0)) hM_78 42 (by decide) (by decide) hen_82 ec_84
      have fr_85 : ∀ k, k < 22 → en_82 k = en k := fun k hk => Eq.trans (by rw [hen_82]; exact va_up_ne _ _ (by omega)) (fr_80 k hk)
      refine lv_goto (tgt := 345) hx hb dX8_lay_319 (by decide) ?_
      refine lv_goto (tgt := 18) hx hb dX8_lay_345 (by decide) ?_
      have z := hnx
      rw [pushC, ← ec_74, ← ec_79, ← ec_84] at z
      rw [hKd] at z
      exact z en_82 H locs ls fr_85 hM_83 hs (lv_sub hl [4, 5, 0, 6] rfl)
    · skip
      rw [hKd]
      intro en2 H locs ls fr2 hM2 hs hl
      have hM3 : MdW G n ad en2 s.1 s.2 cA us 0 dp cl := hM2
      obtain ⟨hn48, -, -, -, hok, hnk⟩ := id hM3
      have h6 := hok.1
      have h8 := hnk.1
      refine lv_iload_n hx hb dX8_lay_18 rfl (lv_at hl 2 rfl) ?_
      refine lv_if_le (tgt := 348) hx hb dX8_lay_19 (by decide) (fun c19 => absurd c19 (fun q => by have := nI_le0 (by omega) q; omega)) (fun _ => ?_)
      refine lv_aload_n hx hb dX8_lay_22 rfl (lv_at hl 0 rfl) ?_
      refine r_get (ci := 8) (v := .int (0)) (C := RX8) (T := TX8) (N := 31) hx hb hts inlX8 hown hK hs (22) (by omega) (md22 hM3) rfl 11 (by decide) (hts _ w_fl_RX8_106) rfl dX8_lay_23 ?_
      refine lv_if_ne (tgt := 348) hx hb dX8_lay_26 (by decide) (fun c26 => absurd (by decide) c26) (fun _ => ?_)
      refine lv_aload_n hx hb dX8_lay_29 rfl (lv_at hl 0 rfl) ?_
      refine r_get (ci := 8) (v := .ref (ad 41)) (C := RX8) (T := TX8) (N := 31) hx hb hts inlX8 hown hK hs (22) (by omega) (md22 hM3) rfl 24 (by decide) (hts _ w_fl_RX8_66) rfl dX8_lay_30 ?_
      refine lv_iload_n hx hb dX8_lay_33 rfl (lv_at hl 2 rfl) ?_
      refine r_ialdN (t := T) hx hb hK hs (41) (by omega) (md41 hM3) (rfl) (by omega) (by omega) dX8_lay_34 ?_
      refine r_topi (y := nI step) (ha) ?_
      refine lv_istore (lv' := [(4, .int (nI step)), (0, .ref (ad 22)), (1, .int (nI root)), (2, .int (nI T)), (3, .int (nI mv))]) hx hb dX8_lay_35 hl (by decide) rfl (fun ls hl => ?_)
      refine lv_aload_n hx hb dX8_lay_37 rfl (lv_at hl 1 rfl) ?_
      refine r_get (ci := 8) (v := .ref (ad 42)) (C := RX8) (T := TX8) (N := 31) hx hb hts inlX8 hown hK hs (22) (by omega) (md22 hM3) rfl 25 (by decide) (hts _ w_fl_RX8_69) rfl dX8_lay_38 ?_
      refine lv_iload_n hx hb dX8_lay_41 rfl (lv_at hl 3 rfl) ?_
      refine r_ialdN (t := T) hx hb hK hs (42) (by omega) (md42 hM3) (rfl) (by omega) (by omega) dX8_lay_42 ?_
      refine r_topi (y := 1) (k42) ?_
      refine lv_istore (lv' := [(5, .int (1)), (4, .int (nI step)), (0, .ref (ad 22)), (1, .int (nI root)), (2, .int (nI T)), (3, .int (nI mv))]) hx hb dX8_lay_43 hl (by decide) rfl (fun ls hl => ?_)
      refine lv_aload_n hx hb dX8_lay_45 rfl (lv_at hl 2 rfl) ?_
      refine r_get (ci := 8) (v := .ref (ad 42)) (C := RX8) (T := TX8) (N := 31) hx hb hts inlX8 hown hK hs (22) (by omega) (md22 hM3) rfl 25 (by decide) (hts _ w_fl_RX8_69) rfl dX8_lay_46 ?_
      refine lv_iload_n hx hb dX8_lay_49 rfl (lv_at hl 4 rfl) ?_
      refine lv_dup2_11 hx hb dX8_lay_50 rfl rfl ?_
      refine r_ialdN (t := T) hx hb hK hs (42) (by omega) (md42 hM3) (rfl) (by omega) (by omega) dX8_lay_51 ?_
      refine r_topi (y := 1) (k42) ?_
      refine lv_iconst (v := 1) hx hb dX8_lay_52 (by decide) ?_
      refine lv_iadd hx hb dX8_lay_53 ?_
      refine r_topi (y := 2) (by decide) ?_
      refine r_iastN (t := T) hx hb hK hs (42) (by omega) (md42 hM3) (rfl) (by omega) (by omega) dX8_lay_54 (fun H locs en_87 hen_87 hs => ?_)
      obtain ⟨c_89, ec_89⟩ : ∃ z, z = cU cA 42 (T) (2) := ⟨_, rfl⟩
      have hM_88 : MdW G n ad en_87 s.1 s.2 c_89 us 0 dp cl := md_ar (f := upd (cA 42) (T) (2)) hM3 42 (by decide) (by decide) hen_87 ec_89
      have fr_90 : ∀ k, k < 22 → en_87 k = en k := fun k hk => Eq.trans (by rw [hen_87]; exact va_up_ne _ _ (by omega)) (fr2 k hk)
      refine lv_iconst (v := 0) hx hb dX8_lay_55 (by decide) ?_
      refine lv_istore (lv' := [(6, .int (0)), (5, .int (1)), (4, .int (nI step)), (0, .ref (ad 22)), (1, .int (nI root)), (2, .int (nI T)), (3, .int (nI mv))]) hx hb dX8_lay_56 hl (by decide) rfl (fun ls hl => ?_)
      refine lv_aload_n hx hb dX8_lay_58 rfl (lv_at hl 3 rfl) ?_
      refine r_get (ci := 8) (v := .ref (ad 36)) (C := RX8) (T := TX8) (N := 31) hx hb hts inlX8 hown hK hs (22) (by omega) (md22 hM_88) rfl 18 (by decide) (hts _ w_fl_RX8_51) rfl dX8_lay_59 ?_
      refine lv_iload hx hb dX8_lay_62 (lv_at hl 2 rfl) ?_
      refine r_ialdN (t := step) hx hb hK hs (36) (by omega) (md36 hM_88) (rfl) (by omega) (by omega) dX8_lay_64 ?_
      refine r_topi (y := nI r) (by rw [ec_89, cU_o (by omega)]; exact k36) ?_
      refine lv_bipush (v := 11) hx hb dX8_lay_65 (by decide) ?_
      refine lv_icmp_ne (tgt := 194) hx hb dX8_lay_67 (by decide) (fun _ => ?_) (fun c67 => absurd c67 (fun q => by have := sw_nI (v := 11) q rfl (by omega) (by decide); omega))
      refine lv_aload_n hx hb dX8_lay_194 rfl (lv_at hl 3 rfl) ?_
      refine r_get (ci := 8) (v := .ref (ad 36)) (C := RX8) (T := TX8) (N := 31) hx hb hts inlX8 hown hK hs (22) (by omega) (md22 hM_88) rfl 18 (by decide) (hts _ w_fl_RX8_51) rfl dX8_lay_195 ?_
      refine lv_iload hx hb dX8_lay_198 (lv_at hl 2 rfl) ?_
      refine r_ialdN (t := step) hx hb hK hs (36) (by omega) (md36 hM_88) (rfl) (by omega) (by omega) dX8_lay_200 ?_
      refine r_topi (y := nI r) (by rw [ec_89, cU_o (by omega)]; exact k36) ?_
      refine lv_iconst (v := 2) hx hb dX8_lay_201 (by decide) ?_
      refine lv_icmp_le (tgt := 296) hx hb dX8_lay_202 (by decide) (fun c202 => absurd c202 (fun q => by have := (nI_leI (b := 2) (by omega) (by decide)).mp q; omega)) (fun _ => ?_)
      refine lv_iload hx hb dX8_lay_205 (lv_at hl 1 rfl) ?_
      refine lv_if_ne (tgt := 239) hx hb dX8_lay_207 (by decide) (fun _ => ?_) (fun c207 => absurd c207 (by decide))
      refine lv_iload hx hb dX8_lay_239 (lv_at hl 1 rfl) ?_
      refine lv_iconst (v := 1) hx hb dX8_lay_241 (by decide) ?_
      refine lv_icmp_ne (tgt := 252) hx hb dX8_lay_242 (by decide) (fun c242 => absurd (by decide) c242) (fun _ => ?_)
      refine lv_aload_n hx hb dX8_lay_245 rfl (lv_at hl 3 rfl) ?_
      refine r_get (ci := 8) (v := .ref (ad 44)) (C := RX8) (T := TX8) (N := 31) hx hb hts inlX8 hown hK hs (22) (by omega) (md22 hM_88) rfl 27 (by decide) (hts _ w_fl_RX8_75) rfl dX8_lay_246 ?_
      refine lv_iload_n hx hb dX8_lay_249 rfl (lv_at hl 5 rfl) ?_
      refine lv_iload_n hx hb dX8_lay_250 rfl (lv_at hl 6 rfl) ?_
      refine r_iastN (t := T) hx hb hK hs (44) (by omega) (md44 hM_88) (rfl) (by omega) (by omega) dX8_lay_251 (fun H locs en_92 hen_92 hs => ?_)
      obtain ⟨c_94, ec_94⟩ : ∃ z, z = cU c_89 44 (T) (nI mv) := ⟨_, rfl⟩
      have hM_93 : MdW G n ad en_92 s.1 s.2 c_94 us 0 dp cl := md_ar (f := upd (c_89 44) (T) (nI mv)) hM_88 44 (by decide) (by decide) hen_92 ec_94
      have fr_95 : ∀ k, k < 22 → en_92 k = en k := fun k hk => Eq.trans (by rw [hen_92]; exact va_up_ne _ _ (by omega)) (fr_90 k hk)
      refine lv_iload hx hb dX8_lay_252 (lv_at hl 1 rfl) ?_
      refine lv_if_ne (tgt := 267) hx hb dX8_lay_254 (by decide) (fun _ => ?_) (fun c254 => absurd c254 (by decide))
      refine lv_iload hx hb dX8_lay_267 (lv_at hl 1 rfl) ?_
      refine lv_iconst (v := 1) hx hb dX8_lay_269 (by decide) ?_
      refine lv_icmp_ne (tgt := 293) hx hb dX8_lay_270 (by decide) (fun c270 => absurd (by decide) c270) (fun _ => ?_)
      refine lv_aload_n hx hb dX8_lay_273 rfl (lv_at hl 3 rfl) ?_
      refine r_get (ci := 8) (v := .ref (ad 40)) (C := RX8) (T := TX8) (N := 31) hx hb hts inlX8 hown hK hs (22) (by omega) (md22 hM_93) rfl 22 (by decide) (hts _ w_fl_RX8_63) rfl dX8_lay_274 ?_
      refine lv_iload hx hb dX8_lay_277 (lv_at hl 2 rfl) ?_
      refine r_ialdN (t := step) hx hb hK hs (40) (by omega) (md40 hM_93) (rfl) (by omega) (by omega) dX8_lay_279 ?_
      refine r_topi (y := nI nx) (by rw [ec_94, cU_o (by omega), ec_89, cU_o (by omega)]; exact k40) ?_
      refine lv_if_eq (tgt := 293) hx hb dX8_lay_280 (by decide) (fun c280 => absurd c280 (fun q => by have := z_of (by omega) q; omega)) (fun _ => ?_)
      refine lv_aload_n hx hb dX8_lay_283 rfl (lv_at hl 3 rfl) ?_
      refine r_get (ci := 8) (v := .ref (ad 40)) (C := RX8) (T := TX8) (N := 31) hx hb hts inlX8 hown hK hs (22) (by omega) (md22 hM_93) rfl 22 (by decide) (hts _ w_fl_RX8_63) rfl dX8_lay_284 ?_
      refine lv_iload hx hb dX8_lay_287 (lv_at hl 2 rfl) ?_
      refine r_ialdN (t := step) hx hb hK hs (40) (by omega) (md40 hM_93) (rfl) (by omega) (by omega) dX8_lay_289 ?_
      refine r_topi (y := nI nx) (by rw [ec_94, cU_o (by omega), ec_89, cU_o (by omega)]; exact k40) ?_
      refine lv_goto (tgt := 294) hx hb dX8_lay_290 (by decide) ?_
      refine lv_istore (lv' := [(6, .int (nI nx)), (5, .int (1)), (4, .int (nI step)), (0, .ref (ad 22)), (1, .int (nI root)), (2, .int (nI T)), (3, .int (nI mv))]) hx hb dX8_lay_294 hl (by decide) rfl (fun ls hl => ?_)
      refine lv_iload hx hb dX8_lay_296 (lv_at hl 0 rfl) ?_
      refine lv_if_eq (tgt := 322) hx hb dX8_lay_298 (by decide) (fun c298 => absurd c298 (fun q => by have := z_of (by omega) q; omega)) (fun _ => ?_)
      refine lv_iinc (v := nI (T + 1)) (lv' := [(2, .int (nI (T + 1))), (6, .int (nI nx)), (5, .int (1)), (4, .int (nI step)), (0, .ref (ad 22)), (1, .int (nI root)), (3, .int (nI mv))]) hx hb dX8_lay_301 hl (k := 5) rfl (nI_add T 1) (by decide) rfl (fun ls hl => ?_)
      refine lv_aload_n hx hb dX8_lay_304 rfl (lv_at hl 4 rfl) ?_
      refine r_get (ci := 8) (v := .ref (ad 41)) (C := RX8) (T := TX8) (N := 31) hx hb hts inlX8 hown hK hs (22) (by omega) (md22 hM_93) rfl 24 (by decide) (hts _ w_fl_RX8_66) rfl dX8_lay_305 ?_
      refine lv_iload_n hx hb dX8_lay_308 rfl (lv_at hl 0 rfl) ?_
      refine lv_iload hx hb dX8_lay_309 (lv_at hl 1 rfl) ?_
      refine r_iastN (t := T + 1) hx hb hK hs (41) (by omega) (md41 hM_93) (rfl) (by omega) (by omega) dX8_lay_311 (fun H locs en_97 hen_97 hs => ?_)
      obtain ⟨c_99, ec_99⟩ : ∃ z, z = cU c_94 41 (T + 1) (nI nx) := ⟨_, rfl⟩
      have hM_98 : MdW G n ad en_97 s.1 s.2 c_99 us 0 dp cl := md_ar (f := upd (c_94 41) (T + 1) (nI nx)) hM_93 41 (by decide) (by decide) hen_97 ec_99
      have fr_100 : ∀ k, k < 22 → en_97 k = en k := fun k hk => Eq.trans (by rw [hen_97]; exact va_up_ne _ _ (by omega)) (fr_95 k hk)
      refine lv_aload_n hx hb dX8_lay_312 rfl (lv_at hl 4 rfl) ?_
      refine r_get (ci := 8) (v := .ref (ad 42)) (C := RX8) (T := TX8) (N := 31) hx hb hts inlX8 hown hK hs (22) (by omega) (md22 hM_98) rfl 25 (by decide) (hts _ w_fl_RX8_69) rfl dX8_lay_313 ?_
      refine lv_iload_n hx hb dX8_lay_316 rfl (lv_at hl 0 rfl) ?_
      refine lv_iconst (v := 0) hx hb dX8_lay_317 (by decide) ?_
      refine r_iastN (t := T + 1) hx hb hK hs (42) (by omega) (md42 hM_98) (rfl) (by omega) (by omega) dX8_lay_318 (fun H locs en_102 hen_102 hs => ?_)
      obtain ⟨c_104, ec_104⟩ : ∃ z, z = cU c_99 42 (T + 1) (0) := ⟨_, rfl⟩
      have hM_103 : MdW G n ad en_102 s.1 s.2 c_104 us 0 dp cl := md_ar (f := upd (c_99 42) (T + 1) (0)) hM_98 42 (by decide) (by decide) hen_102 ec_104
      have fr_105 : ∀ k, k < 22 → en_102 k = en k := fun k hk => Eq.trans (by rw [hen_102]; exact va_up_ne _ _ (by omega)) (fr_100 k hk)
      refine lv_goto (tgt := 345) hx hb dX8_lay_319 (by decide) ?_
      refine lv_goto (tgt := 18) hx hb dX8_lay_345 (by decide) ?_
      have z := hnx
      rw [pushC, ← ec_89, ← ec_94, ← ec_99, ← ec_104] at z
      rw [hKd] at z
      exact z en_102 H locs ls fr_105 hM_103 hs (lv_sub hl [4, 5, 0, 6] rfl)
    · skip
      rw [hKd]
      intro en2 H locs ls fr2 hM2 hs hl
      have hM3 : MdW G n ad en2 s.1 s.2 cA us 0 dp cl := hM2
      obtain ⟨hn48, -, -, -, hok, hnk⟩ := id hM3
      have h6 := hok.1
      have h8 := hnk.1
      refine lv_iload_n hx hb dX8_lay_18 rfl (lv_at hl 2 rfl) ?_
      refine lv_if_le (tgt := 348) hx hb dX8_lay_19 (by decide) (fun c19 => absurd c19 (fun q => by have := nI_le0 (by omega) q; omega)) (fun _ => ?_)
      refine lv_aload_n hx hb dX8_lay_22 rfl (lv_at hl 0 rfl) ?_
      refine r_get (ci := 8) (v := .int (0)) (C := RX8) (T := TX8) (N := 31) hx hb hts inlX8 hown hK hs (22) (by omega) (md22 hM3) rfl 11 (by decide) (hts _ w_fl_RX8_106) rfl dX8_lay_23 ?_
      refine lv_if_ne (tgt := 348) hx hb dX8_lay_26 (by decide) (fun c26 => absurd (by decide) c26) (fun _ => ?_)
      refine lv_aload_n hx hb dX8_lay_29 rfl (lv_at hl 0 rfl) ?_
      refine r_get (ci := 8) (v := .ref (ad 41)) (C := RX8) (T := TX8) (N := 31) hx hb hts inlX8 hown hK hs (22) (by omega) (md22 hM3) rfl 24 (by decide) (hts _ w_fl_RX8_66) rfl dX8_lay_30 ?_
      refine lv_iload_n hx hb dX8_lay_33 rfl (lv_at hl 2 rfl) ?_
      refine r_ialdN (t := T) hx hb hK hs (41) (by omega) (md41 hM3) (rfl) (by omega) (by omega) dX8_lay_34 ?_
      refine r_topi (y := nI step) (ha) ?_
      refine lv_istore (lv' := [(4, .int (nI step)), (0, .ref (ad 22)), (1, .int (nI root)), (2, .int (nI T)), (3, .int (nI mv))]) hx hb dX8_lay_35 hl (by decide) rfl (fun ls hl => ?_)
      refine lv_aload_n hx hb dX8_lay_37 rfl (lv_at hl 1 rfl) ?_
      refine r_get (ci := 8) (v := .ref (ad 42)) (C := RX8) (T := TX8) (N := 31) hx hb hts inlX8 hown hK hs (22) (by omega) (md22 hM3) rfl 25 (by decide) (hts _ w_fl_RX8_69) rfl dX8_lay_38 ?_
      refine lv_iload_n hx hb dX8_lay_41 rfl (lv_at hl 3 rfl) ?_
      refine r_ialdN (t := T) hx hb hK hs (42) (by omega) (md42 hM3) (rfl) (by omega) (by omega) dX8_lay_42 ?_
      refine r_topi (y := 0) (k42) ?_
      refine lv_istore (lv' := [(5, .int (0)), (4, .int (nI step)), (0, .ref (ad 22)), (1, .int (nI root)), (2, .int (nI T)), (3, .int (nI mv))]) hx hb dX8_lay_43 hl (by decide) rfl (fun ls hl => ?_)
      refine lv_aload_n hx hb dX8_lay_45 rfl (lv_at hl 2 rfl) ?_
      refine r_get (ci := 8) (v := .ref (ad 42)) (C := RX8) (T := TX8) (N := 31) hx hb hts inlX8 hown hK hs (22) (by omega) (md22 hM3) rfl 25 (by decide) (hts _ w_fl_RX8_69) rfl dX8_lay_46 ?_
      refine lv_iload_n hx hb dX8_lay_49 rfl (lv_at hl 4 rfl) ?_
      refine lv_dup2_11 hx hb dX8_lay_50 rfl rfl ?_
      refine r_ialdN (t := T) hx hb hK hs (42) (by omega) (md42 hM3) (rfl) (by omega) (by omega) dX8_lay_51 ?_
      refine r_topi (y := 0) (k42) ?_
      refine lv_iconst (v := 1) hx hb dX8_lay_52 (by decide) ?_
      refine lv_iadd hx hb dX8_lay_53 ?_
      refine r_topi (y := 1) (by decide) ?_
      refine r_iastN (t := T) hx hb hK hs (42) (by omega) (md42 hM3) (rfl) (by omega) (by omega) dX8_lay_54 (fun H locs en_107 hen_107 hs => ?_)
      obtain ⟨c_109, ec_109⟩ : ∃ z, z = cU cA 42 (T) (1) := ⟨_, rfl⟩
      have hM_108 : MdW G n ad en_107 s.1 s.2 c_109 us 0 dp cl := md_ar (f := upd (cA 42) (T) (1)) hM3 42 (by decide) (by decide) hen_107 ec_109
      have fr_110 : ∀ k, k < 22 → en_107 k = en k := fun k hk => Eq.trans (by rw [hen_107]; exact va_up_ne _ _ (by omega)) (fr2 k hk)
      refine lv_iconst (v := 0) hx hb dX8_lay_55 (by decide) ?_
      refine lv_istore (lv' := [(6, .int (0)), (5, .int (0)), (4, .int (nI step)), (0, .ref (ad 22)), (1, .int (nI root)), (2, .int (nI T)), (3, .int (nI mv))]) hx hb dX8_lay_56 hl (by decide) rfl (fun ls hl => ?_)
      refine lv_aload_n hx hb dX8_lay_58 rfl (lv_at hl 3 rfl) ?_
      refine r_get (ci := 8) (v := .ref (ad 36)) (C := RX8) (T := TX8) (N := 31) hx hb hts inlX8 hown hK hs (22) (by omega) (md22 hM_108) rfl 18 (by decide) (hts _ w_fl_RX8_51) rfl dX8_lay_59 ?_
      refine lv_iload hx hb dX8_lay_62 (lv_at hl 2 rfl) ?_
      refine r_ialdN (t := step) hx hb hK hs (36) (by omega) (md36 hM_108) (rfl) (by omega) (by omega) dX8_lay_64 ?_
      refine r_topi (y := nI 11) (by rw [ec_109, cU_o (by omega)]; exact k36) ?_
      refine lv_bipush (v := 11) hx hb dX8_lay_65 (by decide) ?_
      refine lv_icmp_ne (tgt := 194) hx hb dX8_lay_67 (by decide) (fun c67 => absurd (rfl) c67) (fun _ => ?_)
      refine lv_aload_n hx hb dX8_lay_70 rfl (lv_at hl 3 rfl) ?_
      refine r_get (ci := 8) (v := .ref (ad 37)) (C := RX8) (T := TX8) (N := 31) hx hb hts inlX8 hown hK hs (22) (by omega) (md22 hM_108) rfl 19 (by decide) (hts _ w_fl_RX8_54) rfl dX8_lay_71 ?_
      refine lv_iload hx hb dX8_lay_74 (lv_at hl 2 rfl) ?_
      refine r_ialdN (t := step) hx hb hK hs (37) (by omega) (md37 hM_108) (rfl) (by omega) (by omega) dX8_lay_76 ?_
      refine r_topi (y := c_109 37 (step)) (rfl) ?_
      refine lv_if_ge (tgt := 84) hx hb dX8_lay_77 (by decide) (fun c77 => absurd c77 (by rw [ec_109, cU_o (by omega)]; rcases k37 with q | q <;> rw [q] <;> decide)) (fun _ => ?_)
      refine lv_iconst (v := 1) hx hb dX8_lay_80 (by decide) ?_
      refine lv_goto (tgt := 85) hx hb dX8_lay_81 (by decide) ?_
      refine lv_istore (lv' := [(7, .int (1)), (6, .int (0)), (5, .int (0)), (4, .int (nI step)), (0, .ref (ad 22)), (1, .int (nI root)), (2, .int (nI T)), (3, .int (nI mv))]) hx hb dX8_lay_85 hl (by decide) rfl (fun ls hl => ?_)
      refine lv_iload hx hb dX8_lay_87 (lv_at hl 2 rfl) ?_
      refine lv_if_ne (tgt := 117) hx hb dX8_lay_89 (by decide) (fun c89 => absurd (by decide) c89) (fun _ => ?_)
      refine lv_iload hx hb dX8_lay_92 (lv_at hl 0 rfl) ?_
      refine lv_if_eq (tgt := 107) hx hb dX8_lay_94 (by decide) (fun c94 => absurd c94 (by decide)) (fun _ => ?_)
      refine lv_aload_n hx hb dX8_lay_97 rfl (lv_at hl 4 rfl) ?_
      refine r_get (ci := 8) (v := .ref (ad 39)) (C := RX8) (T := TX8) (N := 31) hx hb hts inlX8 hown hK hs (22) (by omega) (md22 hM_108) rfl 21 (by decide) (hts _ w_fl_RX8_60) rfl dX8_lay_98 ?_
      refine lv_iload hx hb dX8_lay_101 (lv_at hl 3 rfl) ?_
      refine r_ialdN (t := step) hx hb hK hs (39) (by omega) (md39 hM_108) (rfl) (by omega) (by omega) dX8_lay_103 ?_
      refine r_topi (y := nI nx) (by rw [ec_109, cU_o (by omega)]; exact k39) ?_
      refine lv_goto (tgt := 139) hx hb dX8_lay_104 (by decide) ?_
      refine lv_istore (lv' := [(6, .int (nI nx)), (7, .int (1)), (5, .int (0)), (4, .int (nI step)), (0, .ref (ad 22)), (1, .int (nI root)), (2, .int (nI T)), (3, .int (nI mv))]) hx hb dX8_lay_139 hl (by decide) rfl (fun ls hl => ?_)
      refine lv_iload hx hb dX8_lay_141 (lv_at hl 2 rfl) ?_
      refine lv_iconst (v := 1) hx hb dX8_lay_143 (by decide) ?_
      refine lv_icmp_ne (tgt := 191) hx hb dX8_lay_144 (by decide) (fun _ => ?_) (fun c144 => absurd c144 (by decide))
      refine lv_goto (tgt := 296) hx hb dX8_lay_191 (by decide) ?_
      refine lv_iload hx hb dX8_lay_296 (lv_at hl 0 rfl) ?_
      refine lv_if_eq (tgt := 322) hx hb dX8_lay_298 (by decide) (fun c298 => absurd c298 (fun q => by have := z_of (by omega) q; omega)) (fun _ => ?_)
      refine lv_iinc (v := nI (T + 1)) (lv' := [(2, .int (nI (T + 1))), (6, .int (nI nx)), (7, .int (1)), (5, .int (0)), (4, .int (nI step)), (0, .ref (ad 22)), (1, .int (nI root)), (3, .int (nI mv))]) hx hb dX8_lay_301 hl (k := 6) rfl (nI_add T 1) (by decide) rfl (fun ls hl => ?_)
      refine lv_aload_n hx hb dX8_lay_304 rfl (lv_at hl 5 rfl) ?_
      refine r_get (ci := 8) (v := .ref (ad 41)) (C := RX8) (T := TX8) (N := 31) hx hb hts inlX8 hown hK hs (22) (by omega) (md22 hM_108) rfl 24 (by decide) (hts _ w_fl_RX8_66) rfl dX8_lay_305 ?_
      refine lv_iload_n hx hb dX8_lay_308 rfl (lv_at hl 0 rfl) ?_
      refine lv_iload hx hb dX8_lay_309 (lv_at hl 1 rfl) ?_
      refine r_iastN (t := T + 1) hx hb hK hs (41) (by omega) (md41 hM_108) (rfl) (by omega) (by omega) dX8_lay_311 (fun H locs en_112 hen_112 hs => ?_)
      obtain ⟨c_114, ec_114⟩ : ∃ z, z = cU c_109 41 (T + 1) (nI nx) := ⟨_, rfl⟩
      have hM_113 : MdW G n ad en_112 s.1 s.2 c_114 us 0 dp cl := md_ar (f := upd (c_109 41) (T + 1) (nI nx)) hM_108 41 (by decide) (by decide) hen_112 ec_114
      have fr_115 : ∀ k, k < 22 → en_112 k = en k := fun k hk => Eq.trans (by rw [hen_112]; exact va_up_ne _ _ (by omega)) (fr_110 k hk)
      refine lv_aload_n hx hb dX8_lay_312 rfl (lv_at hl 5 rfl) ?_
      refine r_get (ci := 8) (v := .ref (ad 42)) (C := RX8) (T := TX8) (N := 31) hx hb hts inlX8 hown hK hs (22) (by omega) (md22 hM_113) rfl 25 (by decide) (hts _ w_fl_RX8_69) rfl dX8_lay_313 ?_
      refine lv_iload_n hx hb dX8_lay_316 rfl (lv_at hl 0 rfl) ?_
      refine lv_iconst (v := 0) hx hb dX8_lay_317 (by decide) ?_
      refine r_iastN (t := T + 1) hx hb hK hs (42) (by omega) (md42 hM_113) (rfl) (by omega) (by omega) dX8_lay_318 (fun H locs en_117 hen_117 hs => ?_)
      obtain ⟨c_119, ec_119⟩ : ∃ z, z = cU c_114 42 (T + 1) (0) := ⟨_, rfl⟩
      have hM_118 : MdW G n ad en_117 s.1 s.2 c_119 us 0 dp cl := md_ar (f := upd (c_114 42) (T + 1) (0)) hM_113 42 (by decide) (by decide) hen_117 ec_119
      have fr_120 : ∀ k, k < 22 → en_117 k = en k := fun k hk => Eq.trans (by rw [hen_117]; exact va_up_ne _ _ (by omega)) (fr_115 k hk)
      refine lv_goto (tgt := 345) hx hb dX8_lay_319 (by decide) ?_
      refine lv_goto (tgt := 18) hx hb dX8_lay_345 (by decide) ?_
      have z := hnx
      rw [pushC, ← ec_109, ← ec_114, ← ec_119] at z
      rw [hKd] at z
      exact z en_117 H locs ls fr_120 hM_118 hs (lv_sub hl [5, 6, 0, 7] rfl)
    · skip
      rw [hKd]
      intro en2 H locs ls fr2 hM2 hs hl
      have hM3 : MdW G n ad en2 s.1 s.2 cA us 0 dp cl := hM2
      obtain ⟨hn48, -, -, -, hok, hnk⟩ := id hM3
      have h6 := hok.1
      have h8 := hnk.1
      refine lv_iload_n hx hb dX8_lay_18 rfl (lv_at hl 2 rfl) ?_
      refine lv_if_le (tgt := 348) hx hb dX8_lay_19 (by decide) (fun c19 => absurd c19 (fun q => by have := nI_le0 (by omega) q; omega)) (fun _ => ?_)
      refine lv_aload_n hx hb dX8_lay_22 rfl (lv_at hl 0 rfl) ?_
      refine r_get (ci := 8) (v := .int (0)) (C := RX8) (T := TX8) (N := 31) hx hb hts inlX8 hown hK hs (22) (by omega) (md22 hM3) rfl 11 (by decide) (hts _ w_fl_RX8_106) rfl dX8_lay_23 ?_
      refine lv_if_ne (tgt := 348) hx hb dX8_lay_26 (by decide) (fun c26 => absurd (by decide) c26) (fun _ => ?_)
      refine lv_aload_n hx hb dX8_lay_29 rfl (lv_at hl 0 rfl) ?_
      refine r_get (ci := 8) (v := .ref (ad 41)) (C := RX8) (T := TX8) (N := 31) hx hb hts inlX8 hown hK hs (22) (by omega) (md22 hM3) rfl 24 (by decide) (hts _ w_fl_RX8_66) rfl dX8_lay_30 ?_
      refine lv_iload_n hx hb dX8_lay_33 rfl (lv_at hl 2 rfl) ?_
      refine r_ialdN (t := T) hx hb hK hs (41) (by omega) (md41 hM3) (rfl) (by omega) (by omega) dX8_lay_34 ?_
      refine r_topi (y := nI step) (ha) ?_
      refine lv_istore (lv' := [(4, .int (nI step)), (0, .ref (ad 22)), (1, .int (nI root)), (2, .int (nI T)), (3, .int (nI mv))]) hx hb dX8_lay_35 hl (by decide) rfl (fun ls hl => ?_)
      refine lv_aload_n hx hb dX8_lay_37 rfl (lv_at hl 1 rfl) ?_
      refine r_get (ci := 8) (v := .ref (ad 42)) (C := RX8) (T := TX8) (N := 31) hx hb hts inlX8 hown hK hs (22) (by omega) (md22 hM3) rfl 25 (by decide) (hts _ w_fl_RX8_69) rfl dX8_lay_38 ?_
      refine lv_iload_n hx hb dX8_lay_41 rfl (lv_at hl 3 rfl) ?_
      refine r_ialdN (t := T) hx hb hK hs (42) (by omega) (md42 hM3) (rfl) (by omega) (by omega) dX8_lay_42 ?_
      refine r_topi (y := 0) (k42) ?_
      refine lv_istore (lv' := [(5, .int (0)), (4, .int (nI step)), (0, .ref (ad 22)), (1, .int (nI root)), (2, .int (nI T)), (3, .int (nI mv))]) hx hb dX8_lay_43 hl (by decide) rfl (fun ls hl => ?_)
      refine lv_aload_n hx hb dX8_lay_45 rfl (lv_at hl 2 rfl) ?_
      refine r_get (ci := 8) (v := .ref (ad 42)) (C := RX8) (T := TX8) (N := 31) hx hb hts inlX8 hown hK hs (22) (by omega) (md22 hM3) rfl 25 (by decide) (hts _ w_fl_RX8_69) rfl dX8_lay_46 ?_
      refine lv_iload_n hx hb dX8_lay_49 rfl (lv_at hl 4 rfl) ?_
      refine lv_dup2_11 hx hb dX8_lay_50 rfl rfl ?_
      refine r_ialdN (t := T) hx hb hK hs (42) (by omega) (md42 hM3) (rfl) (by omega) (by omega) dX8_lay_51 ?_
      refine r_topi (y := 0) (k42) ?_
      refine lv_iconst (v := 1) hx hb dX8_lay_52 (by decide) ?_
      refine lv_iadd hx hb dX8_lay_53 ?_
      refine r_topi (y := 1) (by decide) ?_
      refine r_iastN (t := T) hx hb hK hs (42) (by omega) (md42 hM3) (rfl) (by omega) (by omega) dX8_lay_54 (fun H locs en_122 hen_122 hs => ?_)
      obtain ⟨c_124, ec_124⟩ : ∃ z, z = cU cA 42 (T) (1) := ⟨_, rfl⟩
      have hM_123 : MdW G n ad en_122 s.1 s.2 c_124 us 0 dp cl := md_ar (f := upd (cA 42) (T) (1)) hM3 42 (by decide) (by decide) hen_122 ec_124
      have fr_125 : ∀ k, k < 22 → en_122 k = en k := fun k hk => Eq.trans (by rw [hen_122]; exact va_up_ne _ _ (by omega)) (fr2 k hk)
      refine lv_iconst (v := 0) hx hb dX8_lay_55 (by decide) ?_
      refine lv_istore (lv' := [(6, .int (0)), (5, .int (0)), (4, .int (nI step)), (0, .ref (ad 22)), (1, .int (nI root)), (2, .int (nI T)), (3, .int (nI mv))]) hx hb dX8_lay_56 hl (by decide) rfl (fun ls hl => ?_)
      refine lv_aload_n hx hb dX8_lay_58 rfl (lv_at hl 3 rfl) ?_
      refine r_get (ci := 8) (v := .ref (ad 36)) (C := RX8) (T := TX8) (N := 31) hx hb hts inlX8 hown hK hs (22) (by omega) (md22 hM_123) rfl 18 (by decide) (hts _ w_fl_RX8_51) rfl dX8_lay_59 ?_
      refine lv_iload hx hb dX8_lay_62 (lv_at hl 2 rfl) ?_
      refine r_ialdN (t := step) hx hb hK hs (36) (by omega) (md36 hM_123) (rfl) (by omega) (by omega) dX8_lay_64 ?_
      refine r_topi (y := nI 11) (by rw [ec_124, cU_o (by omega)]; exact k36) ?_
      refine lv_bipush (v := 11) hx hb dX8_lay_65 (by decide) ?_
      refine lv_icmp_ne (tgt := 194) hx hb dX8_lay_67 (by decide) (fun c67 => absurd (rfl) c67) (fun _ => ?_)
      refine lv_aload_n hx hb dX8_lay_70 rfl (lv_at hl 3 rfl) ?_
      refine r_get (ci := 8) (v := .ref (ad 37)) (C := RX8) (T := TX8) (N := 31) hx hb hts inlX8 hown hK hs (22) (by omega) (md22 hM_123) rfl 19 (by decide) (hts _ w_fl_RX8_54) rfl dX8_lay_71 ?_
      refine lv_iload hx hb dX8_lay_74 (lv_at hl 2 rfl) ?_
      refine r_ialdN (t := step) hx hb hK hs (37) (by omega) (md37 hM_123) (rfl) (by omega) (by omega) dX8_lay_76 ?_
      refine r_topi (y := nI f) (by rw [ec_124, cU_o (by omega)]; exact k37) ?_
      refine lv_if_ge (tgt := 84) hx hb dX8_lay_77 (by decide) (fun _ => ?_) (fun c77 => absurd (nI_pos' (by omega)) c77)
      refine lv_iconst (v := 0) hx hb dX8_lay_84 (by decide) ?_
      refine lv_istore (lv' := [(7, .int (0)), (6, .int (0)), (5, .int (0)), (4, .int (nI step)), (0, .ref (ad 22)), (1, .int (nI root)), (2, .int (nI T)), (3, .int (nI mv))]) hx hb dX8_lay_85 hl (by decide) rfl (fun ls hl => ?_)
      refine lv_iload hx hb dX8_lay_87 (lv_at hl 2 rfl) ?_
      refine lv_if_ne (tgt := 117) hx hb dX8_lay_89 (by decide) (fun c89 => absurd (by decide) c89) (fun _ => ?_)
      refine lv_iload hx hb dX8_lay_92 (lv_at hl 0 rfl) ?_
      refine lv_if_eq (tgt := 107) hx hb dX8_lay_94 (by decide) (fun _ => ?_) (fun c94 => absurd (by decide) c94)
      refine lv_aload_n hx hb dX8_lay_107 rfl (lv_at hl 4 rfl) ?_
      refine r_get (ci := 8) (v := .ref (ad 40)) (C := RX8) (T := TX8) (N := 31) hx hb hts inlX8 hown hK hs (22) (by omega) (md22 hM_123) rfl 22 (by decide) (hts _ w_fl_RX8_63) rfl dX8_lay_108 ?_
      refine lv_iload hx hb dX8_lay_111 (lv_at hl 3 rfl) ?_
      refine r_ialdN (t := step) hx hb hK hs (40) (by omega) (md40 hM_123) (rfl) (by omega) (by omega) dX8_lay_113 ?_
      refine r_topi (y := nI nx) (by rw [ec_124, cU_o (by omega)]; exact k40) ?_
      refine lv_goto (tgt := 139) hx hb dX8_lay_114 (by decide) ?_
      refine lv_istore (lv' := [(6, .int (nI nx)), (7, .int (0)), (5, .int (0)), (4, .int (nI step)), (0, .ref (ad 22)), (1, .int (nI root)), (2, .int (nI T)), (3, .int (nI mv))]) hx hb dX8_lay_139 hl (by decide) rfl (fun ls hl => ?_)
      refine lv_iload hx hb dX8_lay_141 (lv_at hl 2 rfl) ?_
      refine lv_iconst (v := 1) hx hb dX8_lay_143 (by decide) ?_
      refine lv_icmp_ne (tgt := 191) hx hb dX8_lay_144 (by decide) (fun _ => ?_) (fun c144 => absurd c144 (by decide))
      refine lv_goto (tgt := 296) hx hb dX8_lay_191 (by decide) ?_
      refine lv_iload hx hb dX8_lay_296 (lv_at hl 0 rfl) ?_
      refine lv_if_eq (tgt := 322) hx hb dX8_lay_298 (by decide) (fun c298 => absurd c298 (fun q => by have := z_of (by omega) q; omega)) (fun _ => ?_)
      refine lv_iinc (v := nI (T + 1)) (lv' := [(2, .int (nI (T + 1))), (6, .int (nI nx)), (7, .int (0)), (5, .int (0)), (4, .int (nI step)), (0, .ref (ad 22)), (1, .int (nI root)), (3, .int (nI mv))]) hx hb dX8_lay_301 hl (k := 6) rfl (nI_add T 1) (by decide) rfl (fun ls hl => ?_)
      refine lv_aload_n hx hb dX8_lay_304 rfl (lv_at hl 5 rfl) ?_
      refine r_get (ci := 8) (v := .ref (ad 41)) (C := RX8) (T := TX8) (N := 31) hx hb hts inlX8 hown hK hs (22) (by omega) (md22 hM_123) rfl 24 (by decide) (hts _ w_fl_RX8_66) rfl dX8_lay_305 ?_
      refine lv_iload_n hx hb dX8_lay_308 rfl (lv_at hl 0 rfl) ?_
      refine lv_iload hx hb dX8_lay_309 (lv_at hl 1 rfl) ?_
      refine r_iastN (t := T + 1) hx hb hK hs (41) (by omega) (md41 hM_123) (rfl) (by omega) (by omega) dX8_lay_311 (fun H locs en_127 hen_127 hs => ?_)
      obtain ⟨c_129, ec_129⟩ : ∃ z, z = cU c_124 41 (T + 1) (nI nx) := ⟨_, rfl⟩
      have hM_128 : MdW G n ad en_127 s.1 s.2 c_129 us 0 dp cl := md_ar (f := upd (c_124 41) (T + 1) (nI nx)) hM_123 41 (by decide) (by decide) hen_127 ec_129
      have fr_130 : ∀ k, k < 22 → en_127 k = en k := fun k hk => Eq.trans (by rw [hen_127]; exact va_up_ne _ _ (by omega)) (fr_125 k hk)
      refine lv_aload_n hx hb dX8_lay_312 rfl (lv_at hl 5 rfl) ?_
      refine r_get (ci := 8) (v := .ref (ad 42)) (C := RX8) (T := TX8) (N := 31) hx hb hts inlX8 hown hK hs (22) (by omega) (md22 hM_128) rfl 25 (by decide) (hts _ w_fl_RX8_69) rfl dX8_lay_313 ?_
      refine lv_iload_n hx hb dX8_lay_316 rfl (lv_at hl 0 rfl) ?_
      refine lv_iconst (v := 0) hx hb dX8_lay_317 (by decide) ?_
      refine r_iastN (t := T + 1) hx hb hK hs (42) (by omega) (md42 hM_128) (rfl) (by omega) (by omega) dX8_lay_318 (fun H locs en_132 hen_132 hs => ?_)
      obtain ⟨c_134, ec_134⟩ : ∃ z, z = cU c_129 42 (T + 1) (0) := ⟨_, rfl⟩
      have hM_133 : MdW G n ad en_132 s.1 s.2 c_134 us 0 dp cl := md_ar (f := upd (c_129 42) (T + 1) (0)) hM_128 42 (by decide) (by decide) hen_132 ec_134
      have fr_135 : ∀ k, k < 22 → en_132 k = en k := fun k hk => Eq.trans (by rw [hen_132]; exact va_up_ne _ _ (by omega)) (fr_130 k hk)
      refine lv_goto (tgt := 345) hx hb dX8_lay_319 (by decide) ?_
      refine lv_goto (tgt := 18) hx hb dX8_lay_345 (by decide) ?_
      have z := hnx
      rw [pushC, ← ec_124, ← ec_129, ← ec_134] at z
      rw [hKd] at z
      exact z en_132 H locs ls fr_135 hM_133 hs (lv_sub hl [5, 6, 0, 7] rfl)
  have hC6 : Lc6 K := by
    intro T mv step nx f cA s t1 t2 ha hs3 hnx0 k36 k37 hfv k42 k39 hnx
    skip
    rw [hKd]
    intro en2 H locs ls fr2 hM2 hs hl
    have hM3 : MdW G n ad en2 s.1 s.2 cA us 0 dp cl := hM2
    obtain ⟨hn48, -, -, -, hok, hnk⟩ := id hM3
    have h6 := hok.1
    have h8 := hnk.1
    refine lv_iload_n hx hb dX8_lay_18 rfl (lv_at hl 2 rfl) ?_
    refine lv_if_le (tgt := 348) hx hb dX8_lay_19 (by decide) (fun c19 => absurd c19 (fun q => by have := nI_le0 (by omega) q; omega)) (fun _ => ?_)
    refine lv_aload_n hx hb dX8_lay_22 rfl (lv_at hl 0 rfl) ?_
    refine r_get (ci := 8) (v := .int (0)) (C := RX8) (T := TX8) (N := 31) hx hb hts inlX8 hown hK hs (22) (by omega) (md22 hM3) rfl 11 (by decide) (hts _ w_fl_RX8_106) rfl dX8_lay_23 ?_
    refine lv_if_ne (tgt := 348) hx hb dX8_lay_26 (by decide) (fun c26 => absurd (by decide) c26) (fun _ => ?_)
    refine lv_aload_n hx hb dX8_lay_29 rfl (lv_at hl 0 rfl) ?_
    refine r_get (ci := 8) (v := .ref (ad 41)) (C := RX8) (T := TX8) (N := 31) hx hb hts inlX8 hown hK hs (22) (by omega) (md22 hM3) rfl 24 (by decide) (hts _ w_fl_RX8_66) rfl dX8_lay_30 ?_
    refine lv_iload_n hx hb dX8_lay_33 rfl (lv_at hl 2 rfl) ?_
    refine r_ialdN (t := T) hx hb hK hs (41) (by omega) (md41 hM3) (rfl) (by omega) (by omega) dX8_lay_34 ?_
    refine r_topi (y := nI step) (ha) ?_
    refine lv_istore (lv' := [(4, .int (nI step)), (0, .ref (ad 22)), (1, .int (nI root)), (2, .int (nI T)), (3, .int (nI mv))]) hx hb dX8_lay_35 hl (by decide) rfl (fun ls hl => ?_)
    refine lv_aload_n hx hb dX8_lay_37 rfl (lv_at hl 1 rfl) ?_
    refine r_get (ci := 8) (v := .ref (ad 42)) (C := RX8) (T := TX8) (N := 31) hx hb hts inlX8 hown hK hs (22) (by omega) (md22 hM3) rfl 25 (by decide) (hts _ w_fl_RX8_69) rfl dX8_lay_38 ?_
    refine lv_iload_n hx hb dX8_lay_41 rfl (lv_at hl 3 rfl) ?_
    refine r_ialdN (t := T) hx hb hK hs (42) (by omega) (md42 hM3) (rfl) (by omega) (by omega) dX8_lay_42 ?_
    refine r_topi (y := 0) (k42) ?_
    refine lv_istore (lv' := [(5, .int (0)), (4, .int (nI step)), (0, .ref (ad 22)), (1, .int (nI root)), (2, .int (nI T)), (3, .int (nI mv))]) hx hb dX8_lay_43 hl (by decide) rfl (fun ls hl => ?_)
    refine lv_aload_n hx hb dX8_lay_45 rfl (lv_at hl 2 rfl) ?_
    refine r_get (ci := 8) (v := .ref (ad 42)) (C := RX8) (T := TX8) (N := 31) hx hb hts inlX8 hown hK hs (22) (by omega) (md22 hM3) rfl 25 (by decide) (hts _ w_fl_RX8_69) rfl dX8_lay_46 ?_
    refine lv_iload_n hx hb dX8_lay_49 rfl (lv_at hl 4 rfl) ?_
    refine lv_dup2_11 hx hb dX8_lay_50 rfl rfl ?_
    refine r_ialdN (t := T) hx hb hK hs (42) (by omega) (md42 hM3) (rfl) (by omega) (by omega) dX8_lay_51 ?_
    refine r_topi (y := 0) (k42) ?_
    refine lv_iconst (v := 1) hx hb dX8_lay_52 (by decide) ?_
    refine lv_iadd hx hb dX8_lay_53 ?_
    refine r_topi (y := 1) (by decide) ?_
    refine r_iastN (t := T) hx hb hK hs (42) (by omega) (md42 hM3) (rfl) (by omega) (by omega) dX8_lay_54 (fun H locs en_137 hen_137 hs => ?_)
    obtain ⟨c_139, ec_139⟩ : ∃ z, z = cU cA 42 (T) (1) := ⟨_, rfl⟩
    have hM_138 : MdW G n ad en_137 s.1 s.2 c_139 us 0 dp cl := md_ar (f := upd (cA 42) (T) (1)) hM3 42 (by decide) (by decide) hen_137 ec_139
    have fr_140 : ∀ k, k < 22 → en_137 k = en k := fun k hk => Eq.trans (by rw [hen_137]; exact va_up_ne _ _ (by omega)) (fr2 k hk)
    refine lv_iconst (v := 0) hx hb dX8_lay_55 (by decide) ?_
    refine lv_istore (lv' := [(6, .int (0)), (5, .int (0)), (4, .int (nI step)), (0, .ref (ad 22)), (1, .int (nI root)), (2, .int (nI T)), (3, .int (nI mv))]) hx hb dX8_lay_56 hl (by decide) rfl (fun ls hl => ?_)
    refine lv_aload_n hx hb dX8_lay_58 rfl (lv_at hl 3 rfl) ?_
    refine r_get (ci := 8) (v := .ref (ad 36)) (C := RX8) (T := TX8) (N := 31) hx hb hts inlX8 hown hK hs (22) (by omega) (md22 hM_138) rfl 18 (by decide) (hts _ w_fl_RX8_51) rfl dX8_lay_59 ?_
    refine lv_iload hx hb dX8_lay_62 (lv_at hl 2 rfl) ?_
    refine r_ialdN (t := step) hx hb hK hs (36) (by omega) (md36 hM_138) (rfl) (by omega) (by omega) dX8_lay_64 ?_
    refine r_topi (y := nI 6) (by rw [ec_139, cU_o (by omega)]; exact k36) ?_
    refine lv_bipush (v := 11) hx hb dX8_lay_65 (by decide) ?_
    refine lv_icmp_ne (tgt := 194) hx hb dX8_lay_67 (by decide) (fun _ => ?_) (fun c67 => absurd c67 (by decide))
    refine lv_aload_n hx hb dX8_lay_194 rfl (lv_at hl 3 rfl) ?_
    refine r_get (ci := 8) (v := .ref (ad 36)) (C := RX8) (T := TX8) (N := 31) hx hb hts inlX8 hown hK hs (22) (by omega) (md22 hM_138) rfl 18 (by decide) (hts _ w_fl_RX8_51) rfl dX8_lay_195 ?_
    refine lv_iload hx hb dX8_lay_198 (lv_at hl 2 rfl) ?_
    refine r_ialdN (t := step) hx hb hK hs (36) (by omega) (md36 hM_138) (rfl) (by omega) (by omega) dX8_lay_200 ?_
    refine r_topi (y := nI 6) (by rw [ec_139, cU_o (by omega)]; exact k36) ?_
    refine lv_iconst (v := 2) hx hb dX8_lay_201 (by decide) ?_
    refine lv_icmp_le (tgt := 296) hx hb dX8_lay_202 (by decide) (fun c202 => absurd c202 (by decide)) (fun _ => ?_)
    refine lv_iload hx hb dX8_lay_205 (lv_at hl 1 rfl) ?_
    refine lv_if_ne (tgt := 239) hx hb dX8_lay_207 (by decide) (fun c207 => absurd (by decide) c207) (fun _ => ?_)
    refine lv_aload_n hx hb dX8_lay_210 rfl (lv_at hl 3 rfl) ?_
    refine r_get (ci := 8) (v := .ref (ad 36)) (C := RX8) (T := TX8) (N := 31) hx hb hts inlX8 hown hK hs (22) (by omega) (md22 hM_138) rfl 18 (by decide) (hts _ w_fl_RX8_51) rfl dX8_lay_211 ?_
    refine lv_iload hx hb dX8_lay_214 (lv_at hl 2 rfl) ?_
    refine r_ialdN (t := step) hx hb hK hs (36) (by omega) (md36 hM_138) (rfl) (by omega) (by omega) dX8_lay_216 ?_
    refine r_topi (y := nI 6) (by rw [ec_139, cU_o (by omega)]; exact k36) ?_
    refine lv_bipush (v := 6) hx hb dX8_lay_217 (by decide) ?_
    refine lv_icmp_ne (tgt := 239) hx hb dX8_lay_219 (by decide) (fun c219 => absurd (rfl) c219) (fun _ => ?_)
    refine lv_aload_n hx hb dX8_lay_222 rfl (lv_at hl 3 rfl) ?_
    refine r_get (ci := 8) (v := .ref (ad 43)) (C := RX8) (T := TX8) (N := 31) hx hb hts inlX8 hown hK hs (22) (by omega) (md22 hM_138) rfl 26 (by decide) (hts _ w_fl_RX8_72) rfl dX8_lay_223 ?_
    refine lv_iload_n hx hb dX8_lay_226 rfl (lv_at hl 5 rfl) ?_
    refine lv_aload_n hx hb dX8_lay_227 rfl (lv_at hl 3 rfl) ?_
    refine lv_aload_n hx hb dX8_lay_228 rfl (lv_at hl 3 rfl) ?_
    refine r_get (ci := 8) (v := .ref (ad 37)) (C := RX8) (T := TX8) (N := 31) hx hb hts inlX8 hown hK hs (22) (by omega) (md22 hM_138) rfl 19 (by decide) (hts _ w_fl_RX8_54) rfl dX8_lay_229 ?_
    refine lv_iload hx hb dX8_lay_232 (lv_at hl 2 rfl) ?_
    refine r_ialdN (t := step) hx hb hK hs (37) (by omega) (md37 hM_138) (rfl) (by omega) (by omega) dX8_lay_234 ?_
    refine r_topi (y := nI f) (by rw [ec_139, cU_o (by omega)]; exact k37) ?_
    obtain ⟨o1, s1, hq1⟩ : ∃ oo tt, aGate false (aNode (0, f, 0, 0, 0)) s = (oo, tt) := ⟨_, _, rfl⟩
    refine r_callVi (ci := 8) (As := [.int (nI f)]) hx hb hml hown hts hK hA hs (22) (by omega) (md22 hM_138) rfl rfl (c_X8_v l G (fl := false) hM_138 (f := f) hfv) (cwV 1 hts (tbV w_ml_RX8_177 w_im_yX8_v w_se_yX8_v w_ini_RX8 w_cd_yX8_v) rfl rfl rfl (by decide +kernel) ⟨Nat.le_of_ble_eq_true rfl, Nat.le_of_ble_eq_true rfl⟩) rfl hl.1 rfl (Nat.le_of_ble_eq_true rfl) dX8_lay_235 ⟨Nat.le_refl _, Nat.le_refl _⟩ (fun r_144 ad_141 en_142 H locs hp_143 hs => ?_)
    obtain ⟨⟨hA1, hF1⟩, hr1, hN1⟩ := hp_143
    subst hA1
    rw [hq1] at hr1 hN1
    have hN1 : MdW G n ad en_142 s1.1 s1.2 c_139 us (ovB o1.isNone) dp cl := hN1
    rw [show r_144 = nI (o1.getD 0) from hr1]
    have fr_145 : ∀ k, k < 22 → en_142 k = en k := fun k hk => Eq.trans (hF1 k hk) (fr_140 k hk)
    have hgd1 : sGood s1 := ⟨hN1.2.2.2.2.1, hN1.2.2.2.2.2⟩
    refine r_iastN (t := T) hx hb hK hs (43) (by omega) (md43 hN1) (rfl) (by omega) (by omega) dX8_lay_238 (fun H locs en_147 hen_147 hs => ?_)
    obtain ⟨c_149, ec_149⟩ : ∃ z, z = cU c_139 43 (T) (nI (o1.getD 0)) := ⟨_, rfl⟩
    have hM_148 : MdW G n ad en_147 s1.1 s1.2 c_149 us ((ovB o1.isNone)) dp cl := md_ar (f := upd (c_139 43) (T) (nI (o1.getD 0))) hN1 43 (by decide) (by decide) hen_147 ec_149
    have fr_150 : ∀ k, k < 22 → en_147 k = en k := fun k hk => Eq.trans (by rw [hen_147]; exact va_up_ne _ _ (by omega)) (fr_145 k hk)
    refine lv_iload hx hb dX8_lay_239 (lv_at hl 1 rfl) ?_
    refine lv_iconst (v := 1) hx hb dX8_lay_241 (by decide) ?_
    refine lv_icmp_ne (tgt := 252) hx hb dX8_lay_242 (by decide) (fun _ => ?_) (fun c242 => absurd c242 (by decide))
    refine lv_iload hx hb dX8_lay_252 (lv_at hl 1 rfl) ?_
    refine lv_if_ne (tgt := 267) hx hb dX8_lay_254 (by decide) (fun c254 => absurd (by decide) c254) (fun _ => ?_)
    refine lv_aload_n hx hb dX8_lay_257 rfl (lv_at hl 3 rfl) ?_
    refine r_get (ci := 8) (v := .ref (ad 39)) (C := RX8) (T := TX8) (N := 31) hx hb hts inlX8 hown hK hs (22) (by omega) (md22 hM_148) rfl 21 (by decide) (hts _ w_fl_RX8_60) rfl dX8_lay_258 ?_
    refine lv_iload hx hb dX8_lay_261 (lv_at hl 2 rfl) ?_
    refine r_ialdN (t := step) hx hb hK hs (39) (by omega) (md39 hM_148) (rfl) (by omega) (by omega) dX8_lay_263 ?_
    refine r_topi (y := nI nx) (by rw [ec_149, cU_o (by omega), ec_139, cU_o (by omega)]; exact k39) ?_
    refine lv_goto (tgt := 294) hx hb dX8_lay_264 (by decide) ?_
    refine lv_istore (lv' := [(6, .int (nI nx)), (5, .int (0)), (4, .int (nI step)), (0, .ref (ad 22)), (1, .int (nI root)), (2, .int (nI T)), (3, .int (nI mv))]) hx hb dX8_lay_294 hl (by decide) rfl (fun ls hl => ?_)
    refine lv_iload hx hb dX8_lay_296 (lv_at hl 0 rfl) ?_
    refine lv_if_eq (tgt := 322) hx hb dX8_lay_298 (by decide) (fun c298 => absurd c298 (fun q => by have := z_of (by omega) q; omega)) (fun _ => ?_)
    refine lv_iinc (v := nI (T + 1)) (lv' := [(2, .int (nI (T + 1))), (6, .int (nI nx)), (5, .int (0)), (4, .int (nI step)), (0, .ref (ad 22)), (1, .int (nI root)), (3, .int (nI mv))]) hx hb dX8_lay_301 hl (k := 5) rfl (nI_add T 1) (by decide) rfl (fun ls hl => ?_)
    refine lv_aload_n hx hb dX8_lay_304 rfl (lv_at hl 4 rfl) ?_
    refine r_get (ci := 8) (v := .ref (ad 41)) (C := RX8) (T := TX8) (N := 31) hx hb hts inlX8 hown hK hs (22) (by omega) (md22 hM_148) rfl 24 (by decide) (hts _ w_fl_RX8_66) rfl dX8_lay_305 ?_
    refine lv_iload_n hx hb dX8_lay_308 rfl (lv_at hl 0 rfl) ?_
    refine lv_iload hx hb dX8_lay_309 (lv_at hl 1 rfl) ?_
    refine r_iastN (t := T + 1) hx hb hK hs (41) (by omega) (md41 hM_148) (rfl) (by omega) (by omega) dX8_lay_311 (fun H locs en_152 hen_152 hs => ?_)
    obtain ⟨c_154, ec_154⟩ : ∃ z, z = cU c_149 41 (T + 1) (nI nx) := ⟨_, rfl⟩
    have hM_153 : MdW G n ad en_152 s1.1 s1.2 c_154 us ((ovB o1.isNone)) dp cl := md_ar (f := upd (c_149 41) (T + 1) (nI nx)) hM_148 41 (by decide) (by decide) hen_152 ec_154
    have fr_155 : ∀ k, k < 22 → en_152 k = en k := fun k hk => Eq.trans (by rw [hen_152]; exact va_up_ne _ _ (by omega)) (fr_150 k hk)
    refine lv_aload_n hx hb dX8_lay_312 rfl (lv_at hl 4 rfl) ?_
    refine r_get (ci := 8) (v := .ref (ad 42)) (C := RX8) (T := TX8) (N := 31) hx hb hts inlX8 hown hK hs (22) (by omega) (md22 hM_153) rfl 25 (by decide) (hts _ w_fl_RX8_69) rfl dX8_lay_313 ?_
    refine lv_iload_n hx hb dX8_lay_316 rfl (lv_at hl 0 rfl) ?_
    refine lv_iconst (v := 0) hx hb dX8_lay_317 (by decide) ?_
    refine r_iastN (t := T + 1) hx hb hK hs (42) (by omega) (md42 hM_153) (rfl) (by omega) (by omega) dX8_lay_318 (fun H locs en_157 hen_157 hs => ?_)
    obtain ⟨c_159, ec_159⟩ : ∃ z, z = cU c_154 42 (T + 1) (0) := ⟨_, rfl⟩
    have hM_158 : MdW G n ad en_157 s1.1 s1.2 c_159 us ((ovB o1.isNone)) dp cl := md_ar (f := upd (c_154 42) (T + 1) (0)) hM_153 42 (by decide) (by decide) hen_157 ec_159
    have fr_160 : ∀ k, k < 22 → en_157 k = en k := fun k hk => Eq.trans (by rw [hen_157]; exact va_up_ne _ _ (by omega)) (fr_155 k hk)
    refine lv_goto (tgt := 345) hx hb dX8_lay_319 (by decide) ?_
    refine lv_goto (tgt := 18) hx hb dX8_lay_345 (by decide) ?_
    have z := hnx o1 s1 hq1 hgd1
    rw [pushC, ← ec_139, ← ec_149, ← ec_154, ← ec_159] at z
    rw [hKd] at z
    exact z en_157 H locs ls fr_160 hM_158 hs (lv_sub hl [4, 5, 0, 6] rfl)
  have hC13 : Lc13 K := by
    intro T mv step nx f cA s t1 t2 ha hs3 hnx0 k36 k37 hfv h2f hmv k42 k39 hnx
    rw [hKd]
    intro en2 H locs ls fr2 hM2 hs hl
    have hM3 : MdW G n ad en2 s.1 s.2 cA us 0 dp cl := hM2
    obtain ⟨hn48, -, -, -, hok, hnk⟩ := id hM3
    have h6 := hok.1
    have h8 := hnk.1
    refine lv_iload_n hx hb dX8_lay_18 rfl (lv_at hl 2 rfl) ?_
    refine lv_if_le (tgt := 348) hx hb dX8_lay_19 (by decide) (fun c19 => absurd c19 (fun q => by have := nI_le0 (by omega) q; omega)) (fun _ => ?_)
    refine lv_aload_n hx hb dX8_lay_22 rfl (lv_at hl 0 rfl) ?_
    refine r_get (ci := 8) (v := .int (0)) (C := RX8) (T := TX8) (N := 31) hx hb hts inlX8 hown hK hs (22) (by omega) (md22 hM3) rfl 11 (by decide) (hts _ w_fl_RX8_106) rfl dX8_lay_23 ?_
    refine lv_if_ne (tgt := 348) hx hb dX8_lay_26 (by decide) (fun c26 => absurd (by decide) c26) (fun _ => ?_)
    refine lv_aload_n hx hb dX8_lay_29 rfl (lv_at hl 0 rfl) ?_
    refine r_get (ci := 8) (v := .ref (ad 41)) (C := RX8) (T := TX8) (N := 31) hx hb hts inlX8 hown hK hs (22) (by omega) (md22 hM3) rfl 24 (by decide) (hts _ w_fl_RX8_66) rfl dX8_lay_30 ?_
    refine lv_iload_n hx hb dX8_lay_33 rfl (lv_at hl 2 rfl) ?_
    refine r_ialdN (t := T) hx hb hK hs (41) (by omega) (md41 hM3) (rfl) (by omega) (by omega) dX8_lay_34 ?_
    refine r_topi (y := nI step) (ha) ?_
    refine lv_istore (lv' := [(4, .int (nI step)), (0, .ref (ad 22)), (1, .int (nI root)), (2, .int (nI T)), (3, .int (nI mv))]) hx hb dX8_lay_35 hl (by decide) rfl (fun ls hl => ?_)
    refine lv_aload_n hx hb dX8_lay_37 rfl (lv_at hl 1 rfl) ?_
    refine r_get (ci := 8) (v := .ref (ad 42)) (C := RX8) (T := TX8) (N := 31) hx hb hts inlX8 hown hK hs (22) (by omega) (md22 hM3) rfl 25 (by decide) (hts _ w_fl_RX8_69) rfl dX8_lay_38 ?_
    refine lv_iload_n hx hb dX8_lay_41 rfl (lv_at hl 3 rfl) ?_
    refine r_ialdN (t := T) hx hb hK hs (42) (by omega) (md42 hM3) (rfl) (by omega) (by omega) dX8_lay_42 ?_
    refine r_topi (y := 1) (k42) ?_
    refine lv_istore (lv' := [(5, .int (1)), (4, .int (nI step)), (0, .ref (ad 22)), (1, .int (nI root)), (2, .int (nI T)), (3, .int (nI mv))]) hx hb dX8_lay_43 hl (by decide) rfl (fun ls hl => ?_)
    refine lv_aload_n hx hb dX8_lay_45 rfl (lv_at hl 2 rfl) ?_
    refine r_get (ci := 8) (v := .ref (ad 42)) (C := RX8) (T := TX8) (N := 31) hx hb hts inlX8 hown hK hs (22) (by omega) (md22 hM3) rfl 25 (by decide) (hts _ w_fl_RX8_69) rfl dX8_lay_46 ?_
    refine lv_iload_n hx hb dX8_lay_49 rfl (lv_at hl 4 rfl) ?_
    refine lv_dup2_11 hx hb dX8_lay_50 rfl rfl ?_
    refine r_ialdN (t := T) hx hb hK hs (42) (by omega) (md42 hM3) (rfl) (by omega) (by omega) dX8_lay_51 ?_
    refine r_topi (y := 1) (k42) ?_
    refine lv_iconst (v := 1) hx hb dX8_lay_52 (by decide) ?_
    refine lv_iadd hx hb dX8_lay_53 ?_
    refine r_topi (y := 2) (by decide) ?_
    refine r_iastN (t := T) hx hb hK hs (42) (by omega) (md42 hM3) (rfl) (by omega) (by omega) dX8_lay_54 (fun H locs en_162 hen_162 hs => ?_)
    obtain ⟨c_164, ec_164⟩ : ∃ z, z = cU cA 42 (T) (2) := ⟨_, rfl⟩
    have hM_163 : MdW G n ad en_162 s.1 s.2 c_164 us 0 dp cl := md_ar (f := upd (cA 42) (T) (2)) hM3 42 (by decide) (by decide) hen_162 ec_164
    have fr_165 : ∀ k, k < 22 → en_162 k = en k := fun k hk => Eq.trans (by rw [hen_162]; exact va_up_ne _ _ (by omega)) (fr2 k hk)
    refine lv_iconst (v := 0) hx hb dX8_lay_55 (by decide) ?_
    refine lv_istore (lv' := [(6, .int (0)), (5, .int (1)), (4, .int (nI step)), (0, .ref (ad 22)), (1, .int (nI root)), (2, .int (nI T)), (3, .int (nI mv))]) hx hb dX8_lay_56 hl (by decide) rfl (fun ls hl => ?_)
    refine lv_aload_n hx hb dX8_lay_58 rfl (lv_at hl 3 rfl) ?_
    refine r_get (ci := 8) (v := .ref (ad 36)) (C := RX8) (T := TX8) (N := 31) hx hb hts inlX8 hown hK hs (22) (by omega) (md22 hM_163) rfl 18 (by decide) (hts _ w_fl_RX8_51) rfl dX8_lay_59 ?_
    refine lv_iload hx hb dX8_lay_62 (lv_at hl 2 rfl) ?_
    refine r_ialdN (t := step) hx hb hK hs (36) (by omega) (md36 hM_163) (rfl) (by omega) (by omega) dX8_lay_64 ?_
    refine r_topi (y := nI 11) (by rw [ec_164, cU_o (by omega)]; exact k36) ?_
    refine lv_bipush (v := 11) hx hb dX8_lay_65 (by decide) ?_
    refine lv_icmp_ne (tgt := 194) hx hb dX8_lay_67 (by decide) (fun c67 => absurd (rfl) c67) (fun _ => ?_)
    refine lv_aload_n hx hb dX8_lay_70 rfl (lv_at hl 3 rfl) ?_
    refine r_get (ci := 8) (v := .ref (ad 37)) (C := RX8) (T := TX8) (N := 31) hx hb hts inlX8 hown hK hs (22) (by omega) (md22 hM_163) rfl 19 (by decide) (hts _ w_fl_RX8_54) rfl dX8_lay_71 ?_
    refine lv_iload hx hb dX8_lay_74 (lv_at hl 2 rfl) ?_
    refine r_ialdN (t := step) hx hb hK hs (37) (by omega) (md37 hM_163) (rfl) (by omega) (by omega) dX8_lay_76 ?_
    refine r_topi (y := nI f) (by rw [ec_164, cU_o (by omega)]; exact k37) ?_
    refine lv_if_ge (tgt := 84) hx hb dX8_lay_77 (by decide) (fun _ => ?_) (fun c77 => absurd (nI_pos' (by omega)) c77)
    refine lv_iconst (v := 0) hx hb dX8_lay_84 (by decide) ?_
    refine lv_istore (lv' := [(7, .int (0)), (6, .int (0)), (5, .int (1)), (4, .int (nI step)), (0, .ref (ad 22)), (1, .int (nI root)), (2, .int (nI T)), (3, .int (nI mv))]) hx hb dX8_lay_85 hl (by decide) rfl (fun ls hl => ?_)
    refine lv_iload hx hb dX8_lay_87 (lv_at hl 2 rfl) ?_
    refine lv_if_ne (tgt := 117) hx hb dX8_lay_89 (by decide) (fun _ => ?_) (fun c89 => absurd c89 (by decide))
    refine lv_iload hx hb dX8_lay_117 (lv_at hl 2 rfl) ?_
    refine lv_iconst (v := 1) hx hb dX8_lay_119 (by decide) ?_
    refine lv_icmp_ne (tgt := 138) hx hb dX8_lay_120 (by decide) (fun c120 => absurd (by decide) c120) (fun _ => ?_)
    refine lv_iload hx hb dX8_lay_123 (lv_at hl 0 rfl) ?_
    refine lv_if_ne (tgt := 138) hx hb dX8_lay_125 (by decide) (fun c125 => absurd (by decide) c125) (fun _ => ?_)
    refine lv_aload_n hx hb dX8_lay_128 rfl (lv_at hl 4 rfl) ?_
    refine r_get (ci := 8) (v := .ref (ad 39)) (C := RX8) (T := TX8) (N := 31) hx hb hts inlX8 hown hK hs (22) (by omega) (md22 hM_163) rfl 21 (by decide) (hts _ w_fl_RX8_60) rfl dX8_lay_129 ?_
    refine lv_iload hx hb dX8_lay_132 (lv_at hl 3 rfl) ?_
    refine r_ialdN (t := step) hx hb hK hs (39) (by omega) (md39 hM_163) (rfl) (by omega) (by omega) dX8_lay_134 ?_
    refine r_topi (y := nI nx) (by rw [ec_164, cU_o (by omega)]; exact k39) ?_
    refine lv_goto (tgt := 139) hx hb dX8_lay_135 (by decide) ?_
    refine lv_istore (lv' := [(6, .int (nI nx)), (7, .int (0)), (5, .int (1)), (4, .int (nI step)), (0, .ref (ad 22)), (1, .int (nI root)), (2, .int (nI T)), (3, .int (nI mv))]) hx hb dX8_lay_139 hl (by decide) rfl (fun ls hl => ?_)
    refine lv_iload hx hb dX8_lay_141 (lv_at hl 2 rfl) ?_
    refine lv_iconst (v := 1) hx hb dX8_lay_143 (by decide) ?_
    refine lv_icmp_ne (tgt := 191) hx hb dX8_lay_144 (by decide) (fun c144 => absurd (by decide) c144) (fun _ => ?_)
    refine lv_iload hx hb dX8_lay_147 (lv_at hl 1 rfl) ?_
    refine lv_if_ne (tgt := 191) hx hb dX8_lay_149 (by decide) (fun c149 => absurd (by decide) c149) (fun _ => ?_)
    refine lv_aload_n hx hb dX8_lay_152 rfl (lv_at hl 4 rfl) ?_
    refine r_get (ci := 8) (v := .ref (ad 37)) (C := RX8) (T := TX8) (N := 31) hx hb hts inlX8 hown hK hs (22) (by omega) (md22 hM_163) rfl 19 (by decide) (hts _ w_fl_RX8_54) rfl dX8_lay_153 ?_
    refine lv_iload hx hb dX8_lay_156 (lv_at hl 3 rfl) ?_
    refine r_ialdN (t := step) hx hb hK hs (37) (by omega) (md37 hM_163) (rfl) (by omega) (by omega) dX8_lay_158 ?_
    refine r_topi (y := nI f) (by rw [ec_164, cU_o (by omega)]; exact k37) ?_
    refine lv_istore (lv' := [(8, .int (nI f)), (6, .int (nI nx)), (7, .int (0)), (5, .int (1)), (4, .int (nI step)), (0, .ref (ad 22)), (1, .int (nI root)), (2, .int (nI T)), (3, .int (nI mv))]) hx hb dX8_lay_159 hl (by decide) rfl (fun ls hl => ?_)
    refine lv_aload_n hx hb dX8_lay_161 rfl (lv_at hl 5 rfl) ?_
    refine r_get (ci := 8) (v := .ref (ad 44)) (C := RX8) (T := TX8) (N := 31) hx hb hts inlX8 hown hK hs (22) (by omega) (md22 hM_163) rfl 27 (by decide) (hts _ w_fl_RX8_75) rfl dX8_lay_162 ?_
    refine lv_iload_n hx hb dX8_lay_165 rfl (lv_at hl 7 rfl) ?_
    refine lv_aload_n hx hb dX8_lay_166 rfl (lv_at hl 5 rfl) ?_
    refine lv_aload_n hx hb dX8_lay_167 rfl (lv_at hl 5 rfl) ?_
    refine r_get (ci := 8) (v := .ref (ad 25)) (C := RX8) (T := TX8) (N := 31) hx hb hts inlX8 hown hK hs (22) (by omega) (md22 hM_163) rfl 2 (by decide) (hts _ w_fl_RX8_16) rfl dX8_lay_168 ?_
    refine lv_iload hx hb dX8_lay_171 (lv_at hl 0 rfl) ?_
    refine r_ialdN (t := f) hx hb hK hs (25) (by omega) (md25 hM_163) (rfl) (by omega) (by omega) dX8_lay_173 ?_
    refine r_topi (y := nI (sR s.1 (f))) rfl ?_
    refine lv_iload_n hx hb dX8_lay_174 rfl (lv_at hl 8 rfl) ?_
    obtain ⟨o1, s1, hq1⟩ : ∃ oo tt, aLamO (sR s.1 f) (some mv) s = (oo, tt) := ⟨_, _, rfl⟩
    have xE : sExt s s1 := by have q := aLamO_ext (sR s.1 f) (some mv) s; rw [hq1] at q; exact q
    refine r_callVi (ci := 8) (As := [.int (nI (sR s.1 (f))), .int (nI mv)]) hx hb hml hown hts hK hA hs (22) (by omega) (md22 hM_163) rfl rfl (c_X8_l l G (o := some mv) (show MdW G n ad en_162 s.1 s.2 c_164 us (ovB (some mv).isNone) dp cl from hM_163) (a := sR s.1 f) (parts_of hok hfv h2f).2 (gt := nG s.2 mv) (fun y hy => by injection hy with hy; subst hy; exact ⟨hmv.1, hmv.2, rfl⟩)) (cwV 2 hts (tbV w_ml_RX8_174 w_im_yX8_l w_se_yX8_l w_ini_RX8 w_cd_yX8_l) rfl rfl rfl (by decide +kernel) ⟨Nat.le_of_ble_eq_true rfl, Nat.le_of_ble_eq_true rfl⟩) rfl hl.1 rfl (Nat.le_of_ble_eq_true rfl) dX8_lay_175 ⟨Nat.le_refl _, Nat.le_refl _⟩ (fun r_169 ad_166 en_167 H locs hp_168 hs => ?_)
    obtain ⟨⟨hA1, hF1⟩, hr1, hN1⟩ := hp_168
    subst hA1
    rw [hq1] at hr1 hN1
    have hN1 : MdW G n ad en_167 s1.1 s1.2 c_164 us (ovB o1.isNone) dp cl := hN1
    rw [show r_169 = nI (o1.getD 0) from hr1]
    have fr_170 : ∀ k, k < 22 → en_167 k = en k := fun k hk => Eq.trans (hF1 k hk) (fr_165 k hk)
    have hgd1 : sGood s1 := ⟨hN1.2.2.2.2.1, hN1.2.2.2.2.2⟩
    refine r_iastN (t := T) hx hb hK hs (44) (by omega) (md44 hN1) (rfl) (by omega) (by omega) dX8_lay_178 (fun H locs en_172 hen_172 hs => ?_)
    obtain ⟨c_174, ec_174⟩ : ∃ z, z = cU c_164 44 (T) (nI (o1.getD 0)) := ⟨_, rfl⟩
    have hM_173 : MdW G n ad en_172 s1.1 s1.2 c_174 us ((ovB o1.isNone)) dp cl := md_ar (f := upd (c_164 44) (T) (nI (o1.getD 0))) hN1 44 (by decide) (by decide) hen_172 ec_174
    have fr_175 : ∀ k, k < 22 → en_172 k = en k := fun k hk => Eq.trans (by rw [hen_172]; exact va_up_ne _ _ (by omega)) (fr_170 k hk)
    refine lv_aload_n hx hb dX8_lay_179 rfl (lv_at hl 5 rfl) ?_
    refine r_get (ci := 8) (v := .ref (ad 43)) (C := RX8) (T := TX8) (N := 31) hx hb hts inlX8 hown hK hs (22) (by omega) (md22 hM_173) rfl 26 (by decide) (hts _ w_fl_RX8_72) rfl dX8_lay_180 ?_
    refine lv_iload_n hx hb dX8_lay_183 rfl (lv_at hl 7 rfl) ?_
    refine lv_aload_n hx hb dX8_lay_184 rfl (lv_at hl 5 rfl) ?_
    refine lv_iload hx hb dX8_lay_185 (lv_at hl 0 rfl) ?_
    obtain ⟨o2, s2, hq2⟩ : ∃ oo tt, aGate o1.isNone (aNode (0, f, 0, 0, 0)) s1 = (oo, tt) := ⟨_, _, rfl⟩
    refine r_callVi (ci := 8) (As := [.int (nI f)]) hx hb hml hown hts hK hA hs (22) (by omega) (md22 hM_173) rfl rfl (c_X8_v l G (fl := o1.isNone) hM_173 (f := f) (by have := sExt_len xE; omega)) (cwV 1 hts (tbV w_ml_RX8_177 w_im_yX8_v w_se_yX8_v w_ini_RX8 w_cd_yX8_v) rfl rfl rfl (by decide +kernel) ⟨Nat.le_of_ble_eq_true rfl, Nat.le_of_ble_eq_true rfl⟩) rfl hl.1 rfl (Nat.le_of_ble_eq_true rfl) dX8_lay_187 ⟨Nat.le_refl _, Nat.le_refl _⟩ (fun r_179 ad_176 en_177 H locs hp_178 hs => ?_)
    obtain ⟨⟨hA2, hF2⟩, hr2, hN2⟩ := hp_178
    subst hA2
    rw [hq2] at hr2 hN2
    have hN2 : MdW G n ad en_177 s2.1 s2.2 c_174 us (ovB o2.isNone) dp cl := hN2
    rw [show r_179 = nI (o2.getD 0) from hr2]
    have fr_180 : ∀ k, k < 22 → en_177 k = en k := fun k hk => Eq.trans (hF2 k hk) (fr_175 k hk)
    have hgd2 : sGood s2 := ⟨hN2.2.2.2.2.1, hN2.2.2.2.2.2⟩
    refine r_iastN (t := T) hx hb hK hs (43) (by omega) (md43 hN2) (rfl) (by omega) (by omega) dX8_lay_190 (fun H locs en_182 hen_182 hs => ?_)
    obtain ⟨c_184, ec_184⟩ : ∃ z, z = cU c_174 43 (T) (nI (o2.getD 0)) := ⟨_, rfl⟩
    have hM_183 : MdW G n ad en_182 s2.1 s2.2 c_184 us ((ovB o2.isNone)) dp cl := md_ar (f := upd (c_174 43) (T) (nI (o2.getD 0))) hN2 43 (by decide) (by decide) hen_182 ec_184
    have fr_185 : ∀ k, k < 22 → en_182 k = en k := fun k hk => Eq.trans (by rw [hen_182]; exact va_up_ne _ _ (by omega)) (fr_180 k hk)
    refine lv_goto (tgt := 296) hx hb dX8_lay_191 (by decide) ?_
    refine lv_iload hx hb dX8_lay_296 (lv_at hl 1 rfl) ?_
    refine lv_if_eq (tgt := 322) hx hb dX8_lay_298 (by decide) (fun c298 => absurd c298 (fun q => by have := z_of (by omega) q; omega)) (fun _ => ?_)
    refine lv_iinc (v := nI (T + 1)) (lv' := [(2, .int (nI (T + 1))), (8, .int (nI f)), (6, .int (nI nx)), (7, .int (0)), (5, .int (1)), (4, .int (nI step)), (0, .ref (ad 22)), (1, .int (nI root)), (3, .int (nI mv))]) hx hb dX8_lay_301 hl (k := 7) rfl (nI_add T 1) (by decide) rfl (fun ls hl => ?_)
    refine lv_aload_n hx hb dX8_lay_304 rfl (lv_at hl 6 rfl) ?_
    refine r_get (ci := 8) (v := .ref (ad 41)) (C := RX8) (T := TX8) (N := 31) hx hb hts inlX8 hown hK hs (22) (by omega) (md22 hM_183) rfl 24 (by decide) (hts _ w_fl_RX8_66) rfl dX8_lay_305 ?_
    refine lv_iload_n hx hb dX8_lay_308 rfl (lv_at hl 0 rfl) ?_
    refine lv_iload hx hb dX8_lay_309 (lv_at hl 2 rfl) ?_
    refine r_iastN (t := T + 1) hx hb hK hs (41) (by omega) (md41 hM_183) (rfl) (by omega) (by omega) dX8_lay_311 (fun H locs en_187 hen_187 hs => ?_)
    obtain ⟨c_189, ec_189⟩ : ∃ z, z = cU c_184 41 (T + 1) (nI nx) := ⟨_, rfl⟩
    have hM_188 : MdW G n ad en_187 s2.1 s2.2 c_189 us ((ovB o2.isNone)) dp cl := md_ar (f := upd (c_184 41) (T + 1) (nI nx)) hM_183 41 (by decide) (by decide) hen_187 ec_189
    have fr_190 : ∀ k, k < 22 → en_187 k = en k := fun k hk => Eq.trans (by rw [hen_187]; exact va_up_ne _ _ (by omega)) (fr_185 k hk)
    refine lv_aload_n hx hb dX8_lay_312 rfl (lv_at hl 6 rfl) ?_
    refine r_get (ci := 8) (v := .ref (ad 42)) (C := RX8) (T := TX8) (N := 31) hx hb hts inlX8 hown hK hs (22) (by omega) (md22 hM_188) rfl 25 (by decide) (hts _ w_fl_RX8_69) rfl dX8_lay_313 ?_
    refine lv_iload_n hx hb dX8_lay_316 rfl (lv_at hl 0 rfl) ?_
    refine lv_iconst (v := 0) hx hb dX8_lay_317 (by decide) ?_
    refine r_iastN (t := T + 1) hx hb hK hs (42) (by omega) (md42 hM_188) (rfl) (by omega) (by omega) dX8_lay_318 (fun H locs en_192 hen_192 hs => ?_)
    obtain ⟨c_194, ec_194⟩ : ∃ z, z = cU c_189 42 (T + 1) (0) := ⟨_, rfl⟩
    have hM_193 : MdW G n ad en_192 s2.1 s2.2 c_194 us ((ovB o2.isNone)) dp cl := md_ar (f := upd (c_189 42) (T + 1) (0)) hM_188 42 (by decide) (by decide) hen_192 ec_194
    have fr_195 : ∀ k, k < 22 → en_192 k = en k := fun k hk => Eq.trans (by rw [hen_192]; exact va_up_ne _ _ (by omega)) (fr_190 k hk)
    refine lv_goto (tgt := 345) hx hb dX8_lay_319 (by decide) ?_
    refine lv_goto (tgt := 18) hx hb dX8_lay_345 (by decide) ?_
    have z := hnx o1 s1 o2 s2 hq1 hq2 hgd1 hgd2
    rw [pushC, ← ec_164, ← ec_174, ← ec_184, ← ec_189, ← ec_194] at z
    rw [hKd] at z
    exact z en_192 H locs ls fr_195 hM_193 hs (lv_sub hl [6, 7, 0, 8] rfl)
  have hk0 : kpl 1 c c_9 := fun r t a => by rw [ec_9, cU_o (ly_ne a (by omega)), ec_4, cU_o (ly_ne a (by omega))]
  obtain ⟨oF, sF, hbF⟩ : ∃ oo tt, bld dv 80 root s0 = (oo, tt) := ⟨_, _, rfl⟩
  have hfin := ly_all hP hQc hC6 hC13 hhi 80 1 0 c_9 s0 root lo goal (Nat.le_refl _) (by decide) (by rw [ec_9, cU_o (by omega), ec_4, cU_s]) (by rw [ec_9, cU_s]) (relD_kpl hk0 hrel) hwf ⟨hok, hnk⟩ oF sF hbF (fun e T mv cA => ?_) (fun x cA e hkx hgx hvx => ?_)
  · rw [hKd] at hfin
    exact hfin en_7 H locs ls fr_10 hM_8 hs (lv_sub hl [2, 3, 1, 0] rfl)
  · skip
    subst e
    rw [hKd]
    intro en2 H locs ls fr2 hM2 hs hl
    have hM3 : MdW G n ad en2 sF.1 sF.2 cA us (-3) dp cl := hM2
    obtain ⟨hn48, -, -, -, hok, hnk⟩ := id hM3
    refine lv_iload_n hx hb dX8_lay_18 rfl (lv_at hl 2 rfl) ?_
    refine lv_if_le (tgt := 348) hx hb dX8_lay_19 (by decide) (fun c19 => ?_) (fun c19 => ?_)
    · skip
      refine lv_aload_n hx hb dX8_lay_348 rfl (lv_at hl 0 rfl) ?_
      refine r_get (ci := 8) (v := .int ((-3))) (C := RX8) (T := TX8) (N := 31) hx hb hts inlX8 hown hK hs (22) (by omega) (md22 hM3) rfl 11 (by decide) (hts _ w_fl_RX8_106) rfl dX8_lay_349 ?_
      refine lv_if_eq (tgt := 362) hx hb dX8_lay_352 (by decide) (fun c352 => absurd c352 (by decide)) (fun _ => ?_)
      refine lv_aload_n hx hb dX8_lay_355 rfl (lv_at hl 0 rfl) ?_
      refine r_get (ci := 8) (v := .int ((-3))) (C := RX8) (T := TX8) (N := 31) hx hb hts inlX8 hown hK hs (22) (by omega) (md22 hM3) rfl 11 (by decide) (hts _ w_fl_RX8_106) rfl dX8_lay_356 ?_
      refine lv_goto (tgt := 363) hx hb dX8_lay_359 (by decide) ?_
      refine r_iret (v := (-3)) (mc := 0) (ms := 0) hx hb hr hlk hs (Nat.le_refl _) (Nat.le_refl _) dX8_lay_363 hQ ?_
      exact ⟨⟨rfl, fr2⟩, by rw [hbF]; rfl, cA, by rw [hbF]; exact hM3⟩
    · skip
      refine lv_aload_n hx hb dX8_lay_22 rfl (lv_at hl 0 rfl) ?_
      refine r_get (ci := 8) (v := .int ((-3))) (C := RX8) (T := TX8) (N := 31) hx hb hts inlX8 hown hK hs (22) (by omega) (md22 hM3) rfl 11 (by decide) (hts _ w_fl_RX8_106) rfl dX8_lay_23 ?_
      refine lv_if_ne (tgt := 348) hx hb dX8_lay_26 (by decide) (fun _ => ?_) (fun c26 => absurd c26 (by decide))
      refine lv_aload_n hx hb dX8_lay_348 rfl (lv_at hl 0 rfl) ?_
      refine r_get (ci := 8) (v := .int ((-3))) (C := RX8) (T := TX8) (N := 31) hx hb hts inlX8 hown hK hs (22) (by omega) (md22 hM3) rfl 11 (by decide) (hts _ w_fl_RX8_106) rfl dX8_lay_349 ?_
      refine lv_if_eq (tgt := 362) hx hb dX8_lay_352 (by decide) (fun c352 => absurd c352 (by decide)) (fun _ => ?_)
      refine lv_aload_n hx hb dX8_lay_355 rfl (lv_at hl 0 rfl) ?_
      refine r_get (ci := 8) (v := .int ((-3))) (C := RX8) (T := TX8) (N := 31) hx hb hts inlX8 hown hK hs (22) (by omega) (md22 hM3) rfl 11 (by decide) (hts _ w_fl_RX8_106) rfl dX8_lay_356 ?_
      refine lv_goto (tgt := 363) hx hb dX8_lay_359 (by decide) ?_
      refine r_iret (v := (-3)) (mc := 0) (ms := 0) hx hb hr hlk hs (Nat.le_refl _) (Nat.le_refl _) dX8_lay_363 hQ ?_
      exact ⟨⟨rfl, fr2⟩, by rw [hbF]; rfl, cA, by rw [hbF]; exact hM3⟩
  · skip
    subst e
    rw [hKd]
    intro en2 H locs ls fr2 hM2 hs hl
    have hM3 : MdW G n ad en2 sF.1 sF.2 cA us 0 dp cl := hM2
    obtain ⟨hn48, -, -, -, hok, hnk⟩ := id hM3
    refine lv_iload_n hx hb dX8_lay_18 rfl (lv_at hl 2 rfl) ?_
    refine lv_if_le (tgt := 348) hx hb dX8_lay_19 (by decide) (fun _ => ?_) (fun c19 => absurd (by decide) c19)
    refine lv_aload_n hx hb dX8_lay_348 rfl (lv_at hl 0 rfl) ?_
    refine r_get (ci := 8) (v := .int (0)) (C := RX8) (T := TX8) (N := 31) hx hb hts inlX8 hown hK hs (22) (by omega) (md22 hM3) rfl 11 (by decide) (hts _ w_fl_RX8_106) rfl dX8_lay_349 ?_
    refine lv_if_eq (tgt := 362) hx hb dX8_lay_352 (by decide) (fun _ => ?_) (fun c352 => absurd (by decide) c352)
    refine lv_iload_n hx hb dX8_lay_362 rfl (lv_at hl 3 rfl) ?_
    refine r_iret (v := nI x) (mc := 0) (ms := 0) hx hb hr hlk hs (Nat.le_refl _) (Nat.le_refl _) dX8_lay_363 hQ ?_
    exact ⟨⟨rfl, fr2⟩, by rw [hbF]; rfl, cA, by rw [hbF]; exact hM3⟩

theorem bR2_vd {goal f : Nat} {s s1 : NSt} {x : Nat} (h : bR2 goal f s = (some x, s1)) : 1 ≤ x ∧ x ≤ s1.2.length := by
  unfold bR2 at h
  exact (gate_row h x rfl).1
set_option maxHeartbeats 2000000 in
theorem ly_all {l : Launch} {G : rG} {n : Nat} {ad : Nat → Nat} {us dp cl : Int32} {K : K9} {dv : Nat → Int32} {hi : Nat} (hP : LcP l G n ad us dp cl K) (hQ : LcQ K) (h6 : Lc6 K) (h13 : Lc13 K) (hhi : hi ≤ 3000) : ∀ h, LY dv hi K h := by
  intro h
  induction h with
  | zero => intro T mv c s0 step lo goal _ _ _ _ hrel; exact absurd hrel (fun z => z)
  | succ h IH =>
    intro T mv c s0 step lo goal hT hTh h41 h42 hrel hwf hG o s1 hb hn hy
    obtain ⟨hlo, hgl, r, f, a, b, dg, dw, hf6, hsd, hpa, hpb⟩ := hwf
    obtain ⟨-, goal', r', f', e0, e1, hbd, ⟨r38, r36, r37⟩, q1, q2, q3⟩ := hrel
    have hok := hG.1
    have hl6 := hok.1
    have hr13 := hsd.1
    have eg : goal' = goal := (nI_eq (by omega) (by omega)).mp (e0.symm.trans dg)
    have ew : 16 * f' + r' = 16 * f + r := (nI_eq (by omega) (by omega)).mp (e1.symm.trans dw)
    have er : r' = r := by omega
    have ef : f' = f := by omega
    subst eg er ef
    have hB := bld_eq (h := h) dg dw (by omega) hf6 (by omega)
    have fin : ∀ c2, kpl T c c2 → sGood s1 → (∀ x, o = some x → 1 ≤ x ∧ x ≤ s1.2.length) → K (T - 1) (o.getD 0) c2 s1 o.isNone := by
      intro c2 hk hg hv
      cases o with
      | none => exact hn rfl _ _ _
      | some x => exact hy x c2 rfl hk hg (hv x rfl)
    clear dg dw e0 e1 ew
    have : r' = 1 ∨ r' = 2 ∨ r' = 3 ∨ r' = 4 ∨ r' = 5 ∨ r' = 6 ∨ r' = 7 ∨ r' = 8 ∨ r' = 9 ∨ r' = 10 ∨ r' = 11 ∨ r' = 12 ∨ r' = 13 := by omega
    rcases this with rfl | rfl | rfl | rfl | rfl | rfl | rfl | rfl | rfl | rfl | rfl | rfl | rfl
    · skip
      have k36 : c 36 step = nI 1 := r36
      have k37 : c 37 step = nI goal' := r37
      obtain ⟨uu, huu⟩ := any_nI (cU c 42 T 1 44 T)
      obtain ⟨hh, hhh⟩ := any_nI (cU c 42 T 1 43 T)
      refine hP T mv step uu hh c _ s0 (aGate false (aNode (0, goal', 0, 0, 0))) hT (by omega) h41 (by omega) (Or.inl ⟨1, k36, by decide, h42, rfl⟩) huu hhh (fun en2 hM => (c_X8_around_1 l G hM (o := some mv) (by omega) rfl hgl ((cU_o (by omega)).trans k36) ((cU_o (by omega)).trans k37) ((cU_o (by omega)).trans r38))) (fun o2 s2 hq hg => ?_)
      have hE : bld dv (h + 1) step s0 = (o2, s2) := by rw [hB]; exact bR1_eq hq
      rw [hE] at hb
      cases hb
      exact fin _ (kpl_cU (by omega)) hg (fun x hx => (gate_row hq x hx).1)
    · skip
      have k36 : c 36 step = nI 2 := r36
      have k37 : c 37 step = nI goal' := r37
      obtain ⟨uu, huu⟩ := any_nI (cU c 42 T 1 44 T)
      obtain ⟨hh, hhh⟩ := any_nI (cU c 42 T 1 43 T)
      have hfv := hsd.2.1 (by omega)
      have hff : kFind s0.1 (1, 0, 0, 0, 0) = f' := kFind_of hok ⟨hfv.1, hfv.2, row_of hok hfv (hsd.2.2.1 rfl) (by have q := hok.2.1 f' hfv.1 hfv.2; have z := hsd.2.2.1 rfl; unfold sSort at z; unfold sL; obtain ⟨-, q | q | q⟩ := q <;> omega) (by have q := hok.2.1 f' hfv.1 hfv.2; have z := hsd.2.2.1 rfl; unfold sSort at z; unfold sR; obtain ⟨-, q | q | q⟩ := q <;> omega)⟩
      refine hP T mv step uu hh c _ s0 (bR2 goal' f') hT (by omega) h41 (by omega) (Or.inl ⟨2, k36, by decide, h42, rfl⟩) huu hhh (fun en2 hM => (c_X8_around_2 l G hM (o := some mv) (f := f') (by omega) rfl hgl (hsd.2.1 (by omega)) hff ((cU_o (by omega)).trans k36) ((cU_o (by omega)).trans k37) ((cU_o (by omega)).trans r38))) (fun o2 s2 hq hg => ?_)
      have hE : bld dv (h + 1) step s0 = (o2, s2) := by rw [hB]; exact hq
      rw [hE] at hb
      cases hb
      exact fin _ (kpl_cU (by omega)) hg (fun x hx => bR2_vd (hx ▸ hq))
    · skip
      have k36 : c 36 step = nI 3 := r36
      have k37 : c 37 step = nI goal' := r37
      obtain ⟨a', da, ca, ba, hra⟩ := q1 (by decide)
      obtain ⟨da2, hwa⟩ := hpa (by decide)
      have hai := hwa.in
      have ea : a' = a := (nI_eq (by omega) (by omega)).mp (da.symm.trans da2)
      subst ea
      rw [da, tN_nI (by omega)] at hB
      obtain ⟨b', db, cb, bb, hrb⟩ := q2 (by decide)
      obtain ⟨db2, hwb⟩ := hpb (by decide)
      have hbi := hwb.in
      have eb : b' = b := (nI_eq (by omega) (by omega)).mp (db.symm.trans db2)
      subst eb
      rw [db, tN_nI (by omega)] at hB
      obtain ⟨o1, s2, hq1⟩ : ∃ oo tt, bld dv h a' s0 = (oo, tt) := ⟨_, _, rfl⟩
      have x1 : sExt s0 s2 := by have q := bld_ext dv h a' s0; rw [hq1] at q; exact q
      refine hQ T mv step a' c _ s0 hT (by omega) h41 (by omega) ⟨by omega, by omega⟩ (Or.inl ⟨3, k36, by decide, h42, ca, rfl⟩) ?_
      obtain ⟨p1, p2, p3⟩ := push_41 (T := T) (nx := a') (c := cU c 42 T 1)
      have kp1 : kpl T c (pushC (cU c 42 T 1) T a') := push_k (kpl_cU (by omega))
      refine IH (T + 1) mv _ s0 a' step _ (by omega) (by omega) p1 p2 (relD_kpl kp1 hra) hwa hG o1 s2 hq1 (fun e => ?_) (fun x c3 e hk3 hg2 hx => ?_)
      · subst e
        have hE : bld dv (h + 1) step s0 = (none, s2) := by rw [hB]; exact bR3_eq (o1 := none) (o2 := none) hq1 rfl rfl
        rw [hE] at hb
        cases hb
        exact hn rfl
      · subst e
        have c42 : c3 42 T = 1 := by rw [hk3 42 T (by omega), p3, cU_s]
        have c41 : c3 41 T = nI step := by rw [hk3 41 T (by omega), p3, cU_o (by omega)]; exact h41
        show K T x c3 s2 false
        have kp3 : kpl T c c3 := kpl_tr kp1 (kpl_dn hk3)
        have j36 : c3 36 step = nI 3 := (kp3 36 step (by omega)).trans k36
        have j37 : c3 37 step = nI goal' := (kp3 37 step (by omega)).trans k37
        have j38 : c3 38 step = nI goal' := (kp3 38 step (by omega)).trans r38
        have j40 : c3 40 step = nI b' := (kp3 40 step (by omega)).trans cb
        obtain ⟨o2, s3, hq2⟩ : ∃ oo tt, bld dv h b' s2 = (oo, tt) := ⟨_, _, rfl⟩
        have x23 : sExt s2 s3 := by have q := bld_ext dv h b' s2; rw [hq2] at q; exact q
        have x2 : sExt s0 s3 := x1.tr x23
        refine hQ T x step b' c3 _ s2 hT (by omega) c41 (by omega) ⟨by omega, by omega⟩ (Or.inr (Or.inl ⟨3, j36, by decide, c42, j40, rfl⟩)) ?_
        obtain ⟨w1, w2, w3⟩ := push_41 (T := T) (nx := b') (c := cU (cU c3 42 T 2) 44 T (nI x))
        have kp4 : kpl T c3 (pushC (cU (cU c3 42 T 2) 44 T (nI x)) T b') := push_k (kpl_tr (kpl_cU (by omega)) (kpl_cU (by omega)))
        refine IH (T + 1) x _ s2 b' step _ (by omega) (by omega) w1 w2 (relD_kpl (kpl_tr kp3 kp4) hrb) (wfD_ext x1 hok hwb) hg2 o2 s3 hq2 (fun e => ?_) (fun y c5 e hk5 hg3 hy2 => ?_)
        · subst e
          have hE : bld dv (h + 1) step s0 = (none, s3) := by rw [hB]; exact bR3_eq (o2 := none) hq1 hq2 rfl
          rw [hE] at hb
          cases hb
          exact hn rfl
        · subst e
          show K T y c5 s3 false
          have kp5 : kpl T c c5 := kpl_tr (kpl_tr kp3 kp4) (kpl_dn hk5)
          have d42 : c5 42 T = 2 := by rw [hk5 42 T (by omega), w3, cU_o (by omega), cU_s]
          have d41 : c5 41 T = nI step := by rw [hk5 41 T (by omega), w3, cU_o (by omega), cU_o (by omega)]; exact c41
          have d44 : c5 44 T = nI x := by rw [hk5 44 T (by omega), w3, cU_s]
          obtain ⟨hd, d43⟩ := any_nI (c5 43 T)
          have i36 : c5 36 step = nI 3 := (kp5 36 step (by omega)).trans k36
          have i37 : c5 37 step = nI goal' := (kp5 37 step (by omega)).trans k37
          have i38 : c5 38 step = nI goal' := (kp5 38 step (by omega)).trans r38
          have hl2 := sExt_len x2
          have hl3 := sExt_len x23
          have hgl2 : 1 ≤ goal' ∧ goal' ≤ s3.1.length := by omega
          refine hP T y step x hd c5 _ s3 (aGate false (aNode (3, goal', x, y, 0))) hT (by omega) d41 (by omega) (Or.inr (Or.inr (Or.inl ⟨3, i36, by decide, d42, rfl⟩))) ((cU_o (by omega)).trans d44) ((cU_o (by omega)).trans d43) (fun en2 hM => c_X8_around_3 l G (s0 := s3) hM (o := some y) (by omega) rfl hgl2 (fun z hz => by injection hz with hz; subst hz; exact hy2) (by omega) ((cU_o (by omega)).trans i36) ((cU_o (by omega)).trans i37) ((cU_o (by omega)).trans i38)) (fun o3 s4 hq3 hg4 => ?_)
          have hE : bld dv (h + 1) step s0 = (o3, s4) := by rw [hB]; exact bR3_eq hq1 hq2 hq3
          rw [hE] at hb
          cases hb
          exact fin _ (kpl_tr kp5 (kpl_cU (by omega))) hg4 (fun z hz => (gate_row hq3 z hz).1)
    · skip
      have k36 : c 36 step = nI 4 := r36
      have k37 : c 37 step = nI goal' := r37
      obtain ⟨a', da, ca, ba, hra⟩ := q1 (by decide)
      obtain ⟨da2, hwa⟩ := hpa (by decide)
      have hai := hwa.in
      have ea : a' = a := (nI_eq (by omega) (by omega)).mp (da.symm.trans da2)
      subst ea
      rw [da, tN_nI (by omega)] at hB
      obtain ⟨o1, s2, hq1⟩ : ∃ oo tt, bld dv h a' s0 = (oo, tt) := ⟨_, _, rfl⟩
      have x1 : sExt s0 s2 := by have q := bld_ext dv h a' s0; rw [hq1] at q; exact q
      refine hQ T mv step a' c _ s0 hT (by omega) h41 (by omega) ⟨by omega, by omega⟩ (Or.inl ⟨4, k36, by decide, h42, ca, rfl⟩) ?_
      obtain ⟨p1, p2, p3⟩ := push_41 (T := T) (nx := a') (c := cU c 42 T 1)
      have kp1 : kpl T c (pushC (cU c 42 T 1) T a') := push_k (kpl_cU (by omega))
      refine IH (T + 1) mv _ s0 a' step _ (by omega) (by omega) p1 p2 (relD_kpl kp1 hra) hwa hG o1 s2 hq1 (fun e => ?_) (fun x c3 e hk3 hg2 hx => ?_)
      · subst e
        have hE : bld dv (h + 1) step s0 = (none, s2) := by rw [hB]; exact bR4_eq (o1 := none) hq1 rfl
        rw [hE] at hb
        cases hb
        exact hn rfl
      · subst e
        show K T x c3 s2 false
        have kp3 : kpl T c c3 := kpl_tr kp1 (kpl_dn hk3)
        have c42 : c3 42 T = 1 := by rw [hk3 42 T (by omega), p3, cU_s]
        have c41 : c3 41 T = nI step := by rw [hk3 41 T (by omega), p3, cU_o (by omega)]; exact h41
        have j36 : c3 36 step = nI 4 := (kp3 36 step (by omega)).trans k36
        have j37 : c3 37 step = nI goal' := (kp3 37 step (by omega)).trans k37
        have j38 : c3 38 step = nI goal' := (kp3 38 step (by omega)).trans r38
        have j40 : c3 40 step = 0 := (kp3 40 step (by omega)).trans (q3 (by decide))
        have hS := side_ext x1 hok hgl.2 hsd
        have hl2 := sExt_len x1
        have hgl2 : 1 ≤ goal' ∧ goal' ≤ s2.1.length := by omega
        obtain ⟨gt, hnd, hgt⟩ := vd_nd (s := s2) (o := some x) (fun y hy => by injection hy with hy; subst hy; exact hx) hg2.2
        obtain ⟨uu, huu⟩ := any_nI ((cU (cU c3 42 T 2) 44 T (nI x)) 44 T)
        obtain ⟨hh, hhh⟩ := any_nI ((cU (cU c3 42 T 2) 44 T (nI x)) 43 T)
        refine hP T x step uu hh c3 _ s2 (aLamO (sL s0.1 goal') (some x)) hT (by omega) c41 (by omega) (Or.inr (Or.inl ⟨4, j36, by decide, c42, j40, rfl⟩)) huu hhh (fun en2 hM => by have q := c_X8_around_4 l G (s0 := s2) hM (o := some x) (uu := uu) (hh := hh) (by omega) rfl hgl2 hnd (by rw [hS.2.2.2.2.1 rfl]; decide) ((cU_o (by omega)).trans ((cU_o (by omega)).trans j36)) ((cU_o (by omega)).trans ((cU_o (by omega)).trans j37)) ((cU_o (by omega)).trans ((cU_o (by omega)).trans j38)); rw [(sR_ext x1 hgl.2).2] at q; exact q) (fun o2 s3 hq2 hg3 => ?_)
        have hE : bld dv (h + 1) step s0 = (o2, s3) := by rw [hB]; exact bR4_eq hq1 hq2
        rw [hE] at hb
        cases hb
        exact fin _ (kpl_tr kp3 (kpl_tr (kpl_cU (by omega)) (kpl_cU (by omega)))) hg3 (fun y hy => lam_vd (hy ▸ hq2))
    · skip
      have k36 : c 36 step = nI 5 := r36
      have k37 : c 37 step = nI f' := r37
      obtain ⟨a', da, ca, ba, hra⟩ := q1 (by decide)
      obtain ⟨da2, hwa⟩ := hpa (by decide)
      have hai := hwa.in
      have ea : a' = a := (nI_eq (by omega) (by omega)).mp (da.symm.trans da2)
      subst ea
      rw [da, tN_nI (by omega)] at hB
      obtain ⟨o1, s2, hq1⟩ : ∃ oo tt, bld dv h a' s0 = (oo, tt) := ⟨_, _, rfl⟩
      have x1 : sExt s0 s2 := by have q := bld_ext dv h a' s0; rw [hq1] at q; exact q
      refine hQ T mv step a' c _ s0 hT (by omega) h41 (by omega) ⟨by omega, by omega⟩ (Or.inl ⟨5, k36, by decide, h42, ca, rfl⟩) ?_
      obtain ⟨p1, p2, p3⟩ := push_41 (T := T) (nx := a') (c := cU c 42 T 1)
      have kp1 : kpl T c (pushC (cU c 42 T 1) T a') := push_k (kpl_cU (by omega))
      refine IH (T + 1) mv _ s0 a' step _ (by omega) (by omega) p1 p2 (relD_kpl kp1 hra) hwa hG o1 s2 hq1 (fun e => ?_) (fun x c3 e hk3 hg2 hx => ?_)
      · subst e
        have hE : bld dv (h + 1) step s0 = (none, s2) := by rw [hB]; exact bR5_eq (o1 := none) hq1 unp_n
        rw [hE] at hb
        cases hb
        exact hn rfl
      · subst e
        show K T x c3 s2 false
        have kp3 : kpl T c c3 := kpl_tr kp1 (kpl_dn hk3)
        have c42 : c3 42 T = 1 := by rw [hk3 42 T (by omega), p3, cU_s]
        have c41 : c3 41 T = nI step := by rw [hk3 41 T (by omega), p3, cU_o (by omega)]; exact h41
        have j36 : c3 36 step = nI 5 := (kp3 36 step (by omega)).trans k36
        have j37 : c3 37 step = nI f' := (kp3 37 step (by omega)).trans k37
        have j38 : c3 38 step = nI goal' := (kp3 38 step (by omega)).trans r38
        have j40 : c3 40 step = 0 := (kp3 40 step (by omega)).trans (q3 (by decide))
        have hS := side_ext x1 hok hgl.2 hsd
        have hl2 := sExt_len x1
        have hgl2 : 1 ≤ goal' ∧ goal' ≤ s2.1.length := by omega
        obtain ⟨gt, hnd, hgt⟩ := vd_nd (s := s2) (o := some x) (fun y hy => by injection hy with hy; subst hy; exact hx) hg2.2
        obtain ⟨uu, huu⟩ := any_nI ((cU (cU c3 42 T 2) 44 T (nI x)) 44 T)
        obtain ⟨hh, hhh⟩ := any_nI ((cU (cU c3 42 T 2) 44 T (nI x)) 43 T)
        refine hP T x step uu hh c3 _ s2 (aUnpack f' (some x)) hT (by omega) c41 (by omega) (Or.inr (Or.inl ⟨5, j36, by decide, c42, j40, rfl⟩)) huu hhh (fun en2 hM => c_X8_around_5 l G (s0 := s2) hM (o := some x) (uu := uu) (hh := hh) (by omega) rfl (hS.2.1 (by omega)) (by rw [hS.2.2.2.2.2.1 rfl]; decide) hnd hgt ((cU_o (by omega)).trans ((cU_o (by omega)).trans j36)) ((cU_o (by omega)).trans ((cU_o (by omega)).trans j37)) ((cU_o (by omega)).trans ((cU_o (by omega)).trans j38))) (fun o2 s3 hq2 hg3 => ?_)
        have hE : bld dv (h + 1) step s0 = (o2, s3) := by rw [hB]; exact bR5_eq hq1 hq2
        rw [hE] at hb
        cases hb
        exact fin _ (kpl_tr kp3 (kpl_tr (kpl_cU (by omega)) (kpl_cU (by omega)))) hg3 (fun y hy => unp_vd (hy ▸ hq2))
    · skip
      have k36 : c 36 step = nI 6 := r36
      have k37 : c 37 step = nI f' := r37
      obtain ⟨a', da, ca, ba, hra⟩ := q1 (by decide)
      obtain ⟨da2, hwa⟩ := hpa (by decide)
      have hai := hwa.in
      have ea : a' = a := (nI_eq (by omega) (by omega)).mp (da.symm.trans da2)
      subst ea
      rw [da, tN_nI (by omega)] at hB
      obtain ⟨b', db, cb, bb, hrb⟩ := q2 (by decide)
      obtain ⟨db2, hwb⟩ := hpb (by decide)
      have hbi := hwb.in
      have eb : b' = b := (nI_eq (by omega) (by omega)).mp (db.symm.trans db2)
      subst eb
      rw [db, tN_nI (by omega)] at hB
      have hfv := hsd.2.1 (by omega)
      refine h6 T mv step a' f' c s0 hT (by omega) h41 (by omega) ⟨by omega, by omega⟩ k36 k37 hfv h42 ca (fun oh sh hqh hgh => ?_)
      have xh : sExt s0 sh := by have q := aGate_ext (aNode_ext (0, f', 0, 0, 0)) false s0; rw [hqh] at q; exact q
      cases oh with
      | none =>
        have hE : bld dv (h + 1) step s0 = (none, sh) := by rw [hB]; exact bR6_eq (o1 := none) (o2 := none) (o3 := none) hqh rfl rfl rfl
        rw [hE] at hb
        cases hb
        exact hn rfl _ _ _
      | some hd => ?_
      have hhd := gate_row hqh hd rfl
      obtain ⟨p1, p2, p3⟩ := push_41 (T := T) (nx := a') (c := cU (cU c 42 T 1) 43 T (nI hd))
      have kp1 : kpl T c (pushC (cU (cU c 42 T 1) 43 T (nI hd)) T a') := push_k (kpl_tr (kpl_cU (by omega)) (kpl_cU (by omega)))
      obtain ⟨o1, s2, hq1⟩ : ∃ oo tt, bld dv h a' sh = (oo, tt) := ⟨_, _, rfl⟩
      have x1 : sExt s0 s2 := xh.tr (by have q := bld_ext dv h a' sh; rw [hq1] at q; exact q)
      have xh2 : sExt sh s2 := by have q := bld_ext dv h a' sh; rw [hq1] at q; exact q
      show K (T + 1) mv (pushC (cU (cU c 42 T 1) 43 T (nI hd)) T a') sh false
      refine IH (T + 1) mv _ sh a' step _ (by omega) (by omega) p1 p2 (relD_kpl kp1 hra) (wfD_ext xh hok hwa) hgh o1 s2 hq1 (fun e => ?_) (fun x c3 e hk3 hg2 hx => ?_)
      · subst e
        have hE : bld dv (h + 1) step s0 = (none, s2) := by rw [hB]; exact bR6_eq (o2 := none) (o3 := none) hqh hq1 rfl rfl
        rw [hE] at hb
        cases hb
        exact hn rfl
      · subst e
        have c42 : c3 42 T = 1 := by rw [hk3 42 T (by omega), p3, cU_o (by omega), cU_s]
        have c41 : c3 41 T = nI step := by rw [hk3 41 T (by omega), p3, cU_o (by omega), cU_o (by omega)]; exact h41
        have c43 : c3 43 T = nI hd := by rw [hk3 43 T (by omega), p3, cU_s]
        show K T x c3 s2 false
        have kp3 : kpl T c c3 := kpl_tr kp1 (kpl_dn hk3)
        have j36 : c3 36 step = nI 6 := (kp3 36 step (by omega)).trans k36
        have j37 : c3 37 step = nI f' := (kp3 37 step (by omega)).trans k37
        have j38 : c3 38 step = nI goal' := (kp3 38 step (by omega)).trans r38
        have j40 : c3 40 step = nI b' := (kp3 40 step (by omega)).trans cb
        obtain ⟨o2, s3, hq2⟩ : ∃ oo tt, bld dv h b' s2 = (oo, tt) := ⟨_, _, rfl⟩
        have x23 : sExt s2 s3 := by have q := bld_ext dv h b' s2; rw [hq2] at q; exact q
        have x2 : sExt s0 s3 := x1.tr x23
        refine hQ T x step b' c3 _ s2 hT (by omega) c41 (by omega) ⟨by omega, by omega⟩ (Or.inr (Or.inl ⟨6, j36, by decide, c42, j40, rfl⟩)) ?_
        obtain ⟨w1, w2, w3⟩ := push_41 (T := T) (nx := b') (c := cU (cU c3 42 T 2) 44 T (nI x))
        have kp4 : kpl T c3 (pushC (cU (cU c3 42 T 2) 44 T (nI x)) T b') := push_k (kpl_tr (kpl_cU (by omega)) (kpl_cU (by omega)))
        refine IH (T + 1) x _ s2 b' step _ (by omega) (by omega) w1 w2 (relD_kpl (kpl_tr kp3 kp4) hrb) (wfD_ext x1 hok hwb) hg2 o2 s3 hq2 (fun e => ?_) (fun y c5 e hk5 hg3 hy2 => ?_)
        · subst e
          have hE : bld dv (h + 1) step s0 = (none, s3) := by rw [hB]; exact bR6_eq (o3 := none) hqh hq1 hq2 rfl
          rw [hE] at hb
          cases hb
          exact hn rfl
        · subst e
          show K T y c5 s3 false
          have kp5 : kpl T c c5 := kpl_tr (kpl_tr kp3 kp4) (kpl_dn hk5)
          have d42 : c5 42 T = 2 := by rw [hk5 42 T (by omega), w3, cU_o (by omega), cU_s]
          have d41 : c5 41 T = nI step := by rw [hk5 41 T (by omega), w3, cU_o (by omega), cU_o (by omega)]; exact c41
          have d44 : c5 44 T = nI x := by rw [hk5 44 T (by omega), w3, cU_s]
          have d43 : c5 43 T = nI hd := by rw [hk5 43 T (by omega), w3, cU_o (by omega), cU_o (by omega)]; exact c43
          have i36 : c5 36 step = nI 6 := (kp5 36 step (by omega)).trans k36
          have i37 : c5 37 step = nI f' := (kp5 37 step (by omega)).trans k37
          have i38 : c5 38 step = nI goal' := (kp5 38 step (by omega)).trans r38
          have hl2 := sExt_len x2
          have hl3 := sExt_len x23
          have hgl2 : 1 ≤ goal' ∧ goal' ≤ s3.1.length := by omega
          have hlh := sExt_len xh2
          have hhd1 := hhd.1
          refine hP T y step x hd c5 _ s3 (aGate false (aNode (8, goal', hd, x, y))) hT (by omega) d41 (by omega) (Or.inr (Or.inr (Or.inl ⟨6, i36, by decide, d42, rfl⟩))) ((cU_o (by omega)).trans d44) ((cU_o (by omega)).trans d43) (fun en2 hM => c_X8_around_6 l G (s0 := s3) hM (o := some y) (by omega) rfl (f := f') (by omega) hgl2 (fun z hz => by injection hz with hz; subst hz; exact hy2) (by omega) (by omega) ((cU_o (by omega)).trans i36) ((cU_o (by omega)).trans i37) ((cU_o (by omega)).trans i38)) (fun o3 s4 hq3 hg4 => ?_)
          have hE : bld dv (h + 1) step s0 = (o3, s4) := by rw [hB]; exact bR6_eq hqh hq1 hq2 hq3
          rw [hE] at hb
          cases hb
          exact fin _ (kpl_tr kp5 (kpl_cU (by omega))) hg4 (fun z hz => (gate_row hq3 z hz).1)
    · skip
      have k36 : c 36 step = nI 7 := r36
      have k37 : c 37 step = nI f' := r37
      obtain ⟨a', da, ca, ba, hra⟩ := q1 (by decide)
      obtain ⟨da2, hwa⟩ := hpa (by decide)
      have hai := hwa.in
      have ea : a' = a := (nI_eq (by omega) (by omega)).mp (da.symm.trans da2)
      subst ea
      rw [da, tN_nI (by omega)] at hB
      obtain ⟨o1, s2, hq1⟩ : ∃ oo tt, bld dv h a' s0 = (oo, tt) := ⟨_, _, rfl⟩
      have x1 : sExt s0 s2 := by have q := bld_ext dv h a' s0; rw [hq1] at q; exact q
      refine hQ T mv step a' c _ s0 hT (by omega) h41 (by omega) ⟨by omega, by omega⟩ (Or.inl ⟨7, k36, by decide, h42, ca, rfl⟩) ?_
      obtain ⟨p1, p2, p3⟩ := push_41 (T := T) (nx := a') (c := cU c 42 T 1)
      have kp1 : kpl T c (pushC (cU c 42 T 1) T a') := push_k (kpl_cU (by omega))
      refine IH (T + 1) mv _ s0 a' step _ (by omega) (by omega) p1 p2 (relD_kpl kp1 hra) hwa hG o1 s2 hq1 (fun e => ?_) (fun x c3 e hk3 hg2 hx => ?_)
      · subst e
        have hE : bld dv (h + 1) step s0 = (none, s2) := by rw [hB]; exact bR7_eq (o1 := none) hq1 fir_n
        rw [hE] at hb
        cases hb
        exact hn rfl
      · subst e
        show K T x c3 s2 false
        have kp3 : kpl T c c3 := kpl_tr kp1 (kpl_dn hk3)
        have c42 : c3 42 T = 1 := by rw [hk3 42 T (by omega), p3, cU_s]
        have c41 : c3 41 T = nI step := by rw [hk3 41 T (by omega), p3, cU_o (by omega)]; exact h41
        have j36 : c3 36 step = nI 7 := (kp3 36 step (by omega)).trans k36
        have j37 : c3 37 step = nI f' := (kp3 37 step (by omega)).trans k37
        have j38 : c3 38 step = nI goal' := (kp3 38 step (by omega)).trans r38
        have j40 : c3 40 step = 0 := (kp3 40 step (by omega)).trans (q3 (by decide))
        have hS := side_ext x1 hok hgl.2 hsd
        have hl2 := sExt_len x1
        have hgl2 : 1 ≤ goal' ∧ goal' ≤ s2.1.length := by omega
        obtain ⟨gt, hnd, hgt⟩ := vd_nd (s := s2) (o := some x) (fun y hy => by injection hy with hy; subst hy; exact hx) hg2.2
        obtain ⟨uu, huu⟩ := any_nI ((cU (cU c3 42 T 2) 44 T (nI x)) 44 T)
        obtain ⟨hh, hhh⟩ := any_nI ((cU (cU c3 42 T 2) 44 T (nI x)) 43 T)
        refine hP T x step uu hh c3 _ s2 (aFire f' (some x)) hT (by omega) c41 (by omega) (Or.inr (Or.inl ⟨7, j36, by decide, c42, j40, rfl⟩)) huu hhh (fun en2 hM => c_X8_around_7 l G (s0 := s2) hM (o := some x) (uu := uu) (hh := hh) (by omega) rfl (hS.2.1 (by omega)) (by rw [hS.2.2.2.2.2.2.2.1 (by omega)]; decide) hnd hgt ((cU_o (by omega)).trans ((cU_o (by omega)).trans j36)) ((cU_o (by omega)).trans ((cU_o (by omega)).trans j37)) ((cU_o (by omega)).trans ((cU_o (by omega)).trans j38))) (fun o2 s3 hq2 hg3 => ?_)
        have hE : bld dv (h + 1) step s0 = (o2, s3) := by rw [hB]; exact bR7_eq hq1 hq2
        rw [hE] at hb
        cases hb
        exact fin _ (kpl_tr kp3 (kpl_tr (kpl_cU (by omega)) (kpl_cU (by omega)))) hg3 (fun y hy => fir_vd (hy ▸ hq2))
    · skip
      have k36 : c 36 step = nI 8 := r36
      have k37 : c 37 step = nI f' := r37
      obtain ⟨a', da, ca, ba, hra⟩ := q1 (by decide)
      obtain ⟨da2, hwa⟩ := hpa (by decide)
      have hai := hwa.in
      have ea : a' = a := (nI_eq (by omega) (by omega)).mp (da.symm.trans da2)
      subst ea
      rw [da, tN_nI (by omega)] at hB
      obtain ⟨o1, s2, hq1⟩ : ∃ oo tt, bld dv h a' s0 = (oo, tt) := ⟨_, _, rfl⟩
      have x1 : sExt s0 s2 := by have q := bld_ext dv h a' s0; rw [hq1] at q; exact q
      refine hQ T mv step a' c _ s0 hT (by omega) h41 (by omega) ⟨by omega, by omega⟩ (Or.inl ⟨8, k36, by decide, h42, ca, rfl⟩) ?_
      obtain ⟨p1, p2, p3⟩ := push_41 (T := T) (nx := a') (c := cU c 42 T 1)
      have kp1 : kpl T c (pushC (cU c 42 T 1) T a') := push_k (kpl_cU (by omega))
      refine IH (T + 1) mv _ s0 a' step _ (by omega) (by omega) p1 p2 (relD_kpl kp1 hra) hwa hG o1 s2 hq1 (fun e => ?_) (fun x c3 e hk3 hg2 hx => ?_)
      · subst e
        have hE : bld dv (h + 1) step s0 = (none, s2) := by rw [hB]; exact bR8_eq (o1 := none) hq1
        rw [hE] at hb
        cases hb
        exact hn rfl
      · subst e
        show K T x c3 s2 false
        have kp3 : kpl T c c3 := kpl_tr kp1 (kpl_dn hk3)
        have c42 : c3 42 T = 1 := by rw [hk3 42 T (by omega), p3, cU_s]
        have c41 : c3 41 T = nI step := by rw [hk3 41 T (by omega), p3, cU_o (by omega)]; exact h41
        have j36 : c3 36 step = nI 8 := (kp3 36 step (by omega)).trans k36
        have j37 : c3 37 step = nI f' := (kp3 37 step (by omega)).trans k37
        have j38 : c3 38 step = nI goal' := (kp3 38 step (by omega)).trans r38
        have j40 : c3 40 step = 0 := (kp3 40 step (by omega)).trans (q3 (by decide))
        have hS := side_ext x1 hok hgl.2 hsd
        have hl2 := sExt_len x1
        have hgl2 : 1 ≤ goal' ∧ goal' ≤ s2.1.length := by omega
        obtain ⟨gt, hnd, hgt⟩ := vd_nd (s := s2) (o := some x) (fun y hy => by injection hy with hy; subst hy; exact hx) hg2.2
        obtain ⟨uu, huu⟩ := any_nI ((cU (cU c3 42 T 2) 44 T (nI x)) 44 T)
        obtain ⟨hh, hhh⟩ := any_nI ((cU (cU c3 42 T 2) 44 T (nI x)) 43 T)
        refine hP T x step uu hh c3 _ s2 ((fun s => ((some x), s))) hT (by omega) c41 (by omega) (Or.inr (Or.inl ⟨8, j36, by decide, c42, j40, rfl⟩)) huu hhh (fun en2 hM => c_X8_around_8 l G (s0 := s2) hM (o := some x) (uu := uu) (hh := hh) (by omega) rfl (hS.2.1 (by omega)) ((cU_o (by omega)).trans ((cU_o (by omega)).trans j36)) ((cU_o (by omega)).trans ((cU_o (by omega)).trans j37)) ((cU_o (by omega)).trans ((cU_o (by omega)).trans j38))) (fun o2 s3 hq2 hg3 => ?_)
        have hq2 : (some x, s2) = (o2, s3) := hq2
        cases hq2
        have hE : bld dv (h + 1) step s0 = (some x, s2) := by rw [hB]; exact bR8_eq hq1
        rw [hE] at hb
        cases hb
        exact fin _ (kpl_tr kp3 (kpl_tr (kpl_cU (by omega)) (kpl_cU (by omega)))) hg3 (fun y hy => by injection hy with hy; subst hy; exact hx)
    · skip
      have k36 : c 36 step = nI 9 := r36
      have k37 : c 37 step = nI f' := r37
      obtain ⟨a', da, ca, ba, hra⟩ := q1 (by decide)
      obtain ⟨da2, hwa⟩ := hpa (by decide)
      have hai := hwa.in
      have ea : a' = a := (nI_eq (by omega) (by omega)).mp (da.symm.trans da2)
      subst ea
      rw [da, tN_nI (by omega)] at hB
      obtain ⟨o1, s2, hq1⟩ : ∃ oo tt, bld dv h a' s0 = (oo, tt) := ⟨_, _, rfl⟩
      have x1 : sExt s0 s2 := by have q := bld_ext dv h a' s0; rw [hq1] at q; exact q
      refine hQ T mv step a' c _ s0 hT (by omega) h41 (by omega) ⟨by omega, by omega⟩ (Or.inl ⟨9, k36, by decide, h42, ca, rfl⟩) ?_
      obtain ⟨p1, p2, p3⟩ := push_41 (T := T) (nx := a') (c := cU c 42 T 1)
      have kp1 : kpl T c (pushC (cU c 42 T 1) T a') := push_k (kpl_cU (by omega))
      refine IH (T + 1) mv _ s0 a' step _ (by omega) (by omega) p1 p2 (relD_kpl kp1 hra) hwa hG o1 s2 hq1 (fun e => ?_) (fun x c3 e hk3 hg2 hx => ?_)
      · subst e
        have hE : bld dv (h + 1) step s0 = (none, s2) := by rw [hB]; exact bR9_eq (o1 := none) hq1 unc_n
        rw [hE] at hb
        cases hb
        exact hn rfl
      · subst e
        show K T x c3 s2 false
        have kp3 : kpl T c c3 := kpl_tr kp1 (kpl_dn hk3)
        have c42 : c3 42 T = 1 := by rw [hk3 42 T (by omega), p3, cU_s]
        have c41 : c3 41 T = nI step := by rw [hk3 41 T (by omega), p3, cU_o (by omega)]; exact h41
        have j36 : c3 36 step = nI 9 := (kp3 36 step (by omega)).trans k36
        have j37 : c3 37 step = nI f' := (kp3 37 step (by omega)).trans k37
        have j38 : c3 38 step = nI goal' := (kp3 38 step (by omega)).trans r38
        have j40 : c3 40 step = 0 := (kp3 40 step (by omega)).trans (q3 (by decide))
        have hS := side_ext x1 hok hgl.2 hsd
        have hl2 := sExt_len x1
        have hgl2 : 1 ≤ goal' ∧ goal' ≤ s2.1.length := by omega
        obtain ⟨gt, hnd, hgt⟩ := vd_nd (s := s2) (o := some x) (fun y hy => by injection hy with hy; subst hy; exact hx) hg2.2
        obtain ⟨uu, huu⟩ := any_nI ((cU (cU c3 42 T 2) 44 T (nI x)) 44 T)
        obtain ⟨hh, hhh⟩ := any_nI ((cU (cU c3 42 T 2) 44 T (nI x)) 43 T)
        refine hP T x step uu hh c3 _ s2 (aUncurryK f' (some x)) hT (by omega) c41 (by omega) (Or.inr (Or.inl ⟨9, j36, by decide, c42, j40, rfl⟩)) huu hhh (fun en2 hM => c_X8_around_9 l G (s0 := s2) hM (o := some x) (uu := uu) (hh := hh) (by omega) rfl (hS.2.1 (by omega)) (by rw [hS.2.2.2.2.2.2.2.1 (by omega)]; decide) (by rw [(hS.2.2.2.2.2.2.2.2.1 rfl).1]; decide) hnd hgt (hS.2.2.2.2.2.2.2.2.1 rfl).2 ((cU_o (by omega)).trans ((cU_o (by omega)).trans j36)) ((cU_o (by omega)).trans ((cU_o (by omega)).trans j37)) ((cU_o (by omega)).trans ((cU_o (by omega)).trans j38))) (fun o2 s3 hq2 hg3 => ?_)
        have hE : bld dv (h + 1) step s0 = (o2, s3) := by rw [hB]; exact bR9_eq hq1 hq2
        rw [hE] at hb
        cases hb
        exact fin _ (kpl_tr kp3 (kpl_tr (kpl_cU (by omega)) (kpl_cU (by omega)))) hg3 (fun y hy => unc_vd (hy ▸ hq2))
    · skip
      have k36 : c 36 step = nI 10 := r36
      have k37 : c 37 step = nI f' := r37
      obtain ⟨a', da, ca, ba, hra⟩ := q1 (by decide)
      obtain ⟨da2, hwa⟩ := hpa (by decide)
      have hai := hwa.in
      have ea : a' = a := (nI_eq (by omega) (by omega)).mp (da.symm.trans da2)
      subst ea
      rw [da, tN_nI (by omega)] at hB
      obtain ⟨o1, s2, hq1⟩ : ∃ oo tt, bld dv h a' s0 = (oo, tt) := ⟨_, _, rfl⟩
      have x1 : sExt s0 s2 := by have q := bld_ext dv h a' s0; rw [hq1] at q; exact q
      refine hQ T mv step a' c _ s0 hT (by omega) h41 (by omega) ⟨by omega, by omega⟩ (Or.inl ⟨10, k36, by decide, h42, ca, rfl⟩) ?_
      obtain ⟨p1, p2, p3⟩ := push_41 (T := T) (nx := a') (c := cU c 42 T 1)
      have kp1 : kpl T c (pushC (cU c 42 T 1) T a') := push_k (kpl_cU (by omega))
      refine IH (T + 1) mv _ s0 a' step _ (by omega) (by omega) p1 p2 (relD_kpl kp1 hra) hwa hG o1 s2 hq1 (fun e => ?_) (fun x c3 e hk3 hg2 hx => ?_)
      · subst e
        have hE : bld dv (h + 1) step s0 = (none, s2) := by rw [hB]; exact bR10_eq (o1 := none) hq1 rej_n
        rw [hE] at hb
        cases hb
        exact hn rfl
      · subst e
        show K T x c3 s2 false
        have kp3 : kpl T c c3 := kpl_tr kp1 (kpl_dn hk3)
        have c42 : c3 42 T = 1 := by rw [hk3 42 T (by omega), p3, cU_s]
        have c41 : c3 41 T = nI step := by rw [hk3 41 T (by omega), p3, cU_o (by omega)]; exact h41
        have j36 : c3 36 step = nI 10 := (kp3 36 step (by omega)).trans k36
        have j37 : c3 37 step = nI f' := (kp3 37 step (by omega)).trans k37
        have j38 : c3 38 step = nI goal' := (kp3 38 step (by omega)).trans r38
        have j40 : c3 40 step = 0 := (kp3 40 step (by omega)).trans (q3 (by decide))
        have hS := side_ext x1 hok hgl.2 hsd
        have hl2 := sExt_len x1
        have hgl2 : 1 ≤ goal' ∧ goal' ≤ s2.1.length := by omega
        obtain ⟨gt, hnd, hgt⟩ := vd_nd (s := s2) (o := some x) (fun y hy => by injection hy with hy; subst hy; exact hx) hg2.2
        obtain ⟨uu, huu⟩ := any_nI ((cU (cU c3 42 T 2) 44 T (nI x)) 44 T)
        obtain ⟨hh, hhh⟩ := any_nI ((cU (cU c3 42 T 2) 44 T (nI x)) 43 T)
        refine hP T x step uu hh c3 _ s2 (aRejoinK f' (some x)) hT (by omega) c41 (by omega) (Or.inr (Or.inl ⟨10, j36, by decide, c42, j40, rfl⟩)) huu hhh (fun en2 hM => c_X8_around_10 l G (s0 := s2) hM (o := some x) (uu := uu) (hh := hh) (by omega) rfl (hS.2.1 (by omega)) (by rw [hS.2.2.2.2.2.2.2.1 (by omega)]; decide) (by rw [(hS.2.2.2.2.2.2.2.2.2.1 rfl).1]; decide) hnd hgt (hS.2.2.2.2.2.2.2.2.2.1 rfl).2.1 (hS.2.2.2.2.2.2.2.2.2.1 rfl).2.2 ((cU_o (by omega)).trans ((cU_o (by omega)).trans j36)) ((cU_o (by omega)).trans ((cU_o (by omega)).trans j37)) ((cU_o (by omega)).trans ((cU_o (by omega)).trans j38))) (fun o2 s3 hq2 hg3 => ?_)
        have hE : bld dv (h + 1) step s0 = (o2, s3) := by rw [hB]; exact bR10_eq hq1 hq2
        rw [hE] at hb
        cases hb
        exact fin _ (kpl_tr kp3 (kpl_tr (kpl_cU (by omega)) (kpl_cU (by omega)))) hg3 (fun y hy => rej_vd (hy ▸ hq2))
    · skip
      have k36 : c 36 step = nI 11 := r36
      have k37 : c 37 step = (-1) := r37.trans (by show tW (16 * f' + 11) = _; unfold tW; rw [if_pos (by omega)])
      obtain ⟨a', da, ca, ba, hra⟩ := q1 (by decide)
      obtain ⟨da2, hwa⟩ := hpa (by decide)
      have hai := hwa.in
      have ea : a' = a := (nI_eq (by omega) (by omega)).mp (da.symm.trans da2)
      subst ea
      rw [da, tN_nI (by omega)] at hB
      obtain ⟨o1, s2, hq1⟩ : ∃ oo tt, bld dv h a' s0 = (oo, tt) := ⟨_, _, rfl⟩
      have x1 : sExt s0 s2 := by have q := bld_ext dv h a' s0; rw [hq1] at q; exact q
      refine hQ T mv step a' c _ s0 hT (by omega) h41 (by omega) ⟨by omega, by omega⟩ (Or.inr (Or.inr (Or.inl ⟨k36, Or.inl k37, h42, ca, rfl⟩))) ?_
      obtain ⟨p1, p2, p3⟩ := push_41 (T := T) (nx := a') (c := cU c 42 T 1)
      have kp1 : kpl T c (pushC (cU c 42 T 1) T a') := push_k (kpl_cU (by omega))
      refine IH (T + 1) mv _ s0 a' step _ (by omega) (by omega) p1 p2 (relD_kpl kp1 hra) hwa hG o1 s2 hq1 (fun e => ?_) (fun x c3 e hk3 hg2 hx => ?_)
      · subst e
        have hE : bld dv (h + 1) step s0 = (none, s2) := by rw [hB]; exact bR11_eq (o1 := none) hq1 rfl
        rw [hE] at hb
        cases hb
        exact hn rfl
      · subst e
        show K T x c3 s2 false
        have kp3 : kpl T c c3 := kpl_tr kp1 (kpl_dn hk3)
        have c42 : c3 42 T = 1 := by rw [hk3 42 T (by omega), p3, cU_s]
        have c41 : c3 41 T = nI step := by rw [hk3 41 T (by omega), p3, cU_o (by omega)]; exact h41
        have j36 : c3 36 step = nI 11 := (kp3 36 step (by omega)).trans k36
        have j37 : c3 37 step = (-1) := (kp3 37 step (by omega)).trans k37
        have j38 : c3 38 step = nI goal' := (kp3 38 step (by omega)).trans r38
        have j40 : c3 40 step = 0 := (kp3 40 step (by omega)).trans (q3 (by decide))
        have hS := side_ext x1 hok hgl.2 hsd
        have hl2 := sExt_len x1
        have hgl2 : 1 ≤ goal' ∧ goal' ≤ s2.1.length := by omega
        obtain ⟨gt, hnd, hgt⟩ := vd_nd (s := s2) (o := some x) (fun y hy => by injection hy with hy; subst hy; exact hx) hg2.2
        obtain ⟨uu, huu⟩ := any_nI ((cU c3 42 T 2) 44 T)
        obtain ⟨hh, hhh⟩ := any_nI ((cU c3 42 T 2) 43 T)
        refine hP T x step uu hh c3 _ s2 (aGate ((some x)).isNone (aNode (6, goal', ((some x)).getD 0, 0, 0))) hT (by omega) c41 (by omega) (Or.inr (Or.inr (Or.inr (Or.inl ⟨j36, Or.inl j37, c42, rfl⟩)))) huu hhh (fun en2 hM => c_X8_around_11 l G (s0 := s2) hM (o := some x) (uu := uu) (hh := hh) (by omega) rfl hgl2 (fun y hy => by injection hy with hy; subst hy; exact hx) ((cU_o (by omega)).trans j36) ((cU_o (by omega)).trans j37) ((cU_o (by omega)).trans j38)) (fun o2 s3 hq2 hg3 => ?_)
        have hE : bld dv (h + 1) step s0 = (o2, s3) := by rw [hB]; exact bR11_eq hq1 hq2
        rw [hE] at hb
        cases hb
        exact fin _ (kpl_tr kp3 (kpl_cU (by omega))) hg3 (fun y hy => (gate_row hq2 y hy).1)
    · skip
      have k36 : c 36 step = nI 11 := r36
      have k37 : c 37 step = (-2) := r37.trans (by show tW (16 * f' + 12) = _; unfold tW; rw [if_neg (by omega), if_pos (by omega)])
      obtain ⟨a', da, ca, ba, hra⟩ := q1 (by decide)
      obtain ⟨da2, hwa⟩ := hpa (by decide)
      have hai := hwa.in
      have ea : a' = a := (nI_eq (by omega) (by omega)).mp (da.symm.trans da2)
      subst ea
      rw [da, tN_nI (by omega)] at hB
      obtain ⟨o1, s2, hq1⟩ : ∃ oo tt, bld dv h a' s0 = (oo, tt) := ⟨_, _, rfl⟩
      have x1 : sExt s0 s2 := by have q := bld_ext dv h a' s0; rw [hq1] at q; exact q
      refine hQ T mv step a' c _ s0 hT (by omega) h41 (by omega) ⟨by omega, by omega⟩ (Or.inr (Or.inr (Or.inl ⟨k36, Or.inr k37, h42, ca, rfl⟩))) ?_
      obtain ⟨p1, p2, p3⟩ := push_41 (T := T) (nx := a') (c := cU c 42 T 1)
      have kp1 : kpl T c (pushC (cU c 42 T 1) T a') := push_k (kpl_cU (by omega))
      refine IH (T + 1) mv _ s0 a' step _ (by omega) (by omega) p1 p2 (relD_kpl kp1 hra) hwa hG o1 s2 hq1 (fun e => ?_) (fun x c3 e hk3 hg2 hx => ?_)
      · subst e
        have hE : bld dv (h + 1) step s0 = (none, s2) := by rw [hB]; exact bR12_eq (o1 := none) hq1 rfl
        rw [hE] at hb
        cases hb
        exact hn rfl
      · subst e
        show K T x c3 s2 false
        have kp3 : kpl T c c3 := kpl_tr kp1 (kpl_dn hk3)
        have c42 : c3 42 T = 1 := by rw [hk3 42 T (by omega), p3, cU_s]
        have c41 : c3 41 T = nI step := by rw [hk3 41 T (by omega), p3, cU_o (by omega)]; exact h41
        have j36 : c3 36 step = nI 11 := (kp3 36 step (by omega)).trans k36
        have j37 : c3 37 step = (-2) := (kp3 37 step (by omega)).trans k37
        have j38 : c3 38 step = nI goal' := (kp3 38 step (by omega)).trans r38
        have j40 : c3 40 step = 0 := (kp3 40 step (by omega)).trans (q3 (by decide))
        have hS := side_ext x1 hok hgl.2 hsd
        have hl2 := sExt_len x1
        have hgl2 : 1 ≤ goal' ∧ goal' ≤ s2.1.length := by omega
        obtain ⟨gt, hnd, hgt⟩ := vd_nd (s := s2) (o := some x) (fun y hy => by injection hy with hy; subst hy; exact hx) hg2.2
        obtain ⟨uu, huu⟩ := any_nI ((cU c3 42 T 2) 44 T)
        obtain ⟨hh, hhh⟩ := any_nI ((cU c3 42 T 2) 43 T)
        refine hP T x step uu hh c3 _ s2 (aGate ((some x)).isNone (aNode (7, goal', ((some x)).getD 0, 0, 0))) hT (by omega) c41 (by omega) (Or.inr (Or.inr (Or.inr (Or.inl ⟨j36, Or.inr j37, c42, rfl⟩)))) huu hhh (fun en2 hM => c_X8_around_12 l G (s0 := s2) hM (o := some x) (uu := uu) (hh := hh) (by omega) rfl hgl2 (fun y hy => by injection hy with hy; subst hy; exact hx) ((cU_o (by omega)).trans j36) ((cU_o (by omega)).trans j37) ((cU_o (by omega)).trans j38)) (fun o2 s3 hq2 hg3 => ?_)
        have hE : bld dv (h + 1) step s0 = (o2, s3) := by rw [hB]; exact bR12_eq hq1 hq2
        rw [hE] at hb
        cases hb
        exact fin _ (kpl_tr kp3 (kpl_cU (by omega))) hg3 (fun y hy => (gate_row hq2 y hy).1)
    · skip
      have k36 : c 36 step = nI 11 := r36
      have k37 : c 37 step = nI f' := r37.trans (by show tW (16 * f' + 13) = _; unfold tW; rw [if_neg (by omega), if_neg (by omega), show (16 * f' + 13) / 16 = f' by omega])
      obtain ⟨a', da, ca, ba, hra⟩ := q1 (by decide)
      obtain ⟨da2, hwa⟩ := hpa (by decide)
      have hai := hwa.in
      have ea : a' = a := (nI_eq (by omega) (by omega)).mp (da.symm.trans da2)
      subst ea
      rw [da, tN_nI (by omega)] at hB
      obtain ⟨b', db, cb, bb, hrb⟩ := q2 (by decide)
      obtain ⟨db2, hwb⟩ := hpb (by decide)
      have hbi := hwb.in
      have eb : b' = b := (nI_eq (by omega) (by omega)).mp (db.symm.trans db2)
      subst eb
      rw [db, tN_nI (by omega)] at hB
      have hfv := hsd.2.1 (by omega)
      obtain ⟨o1, s2, hq1⟩ : ∃ oo tt, bld dv h b' s0 = (oo, tt) := ⟨_, _, rfl⟩
      have x1 : sExt s0 s2 := by have q := bld_ext dv h b' s0; rw [hq1] at q; exact q
      refine hQ T mv step b' c _ s0 hT (by omega) h41 (by omega) ⟨by omega, by omega⟩ (Or.inr (Or.inr (Or.inr ⟨k36, ⟨f', by omega, k37⟩, h42, cb, rfl⟩))) ?_
      obtain ⟨p1, p2, p3⟩ := push_41 (T := T) (nx := b') (c := cU c 42 T 1)
      have kp1 : kpl T c (pushC (cU c 42 T 1) T b') := push_k (kpl_cU (by omega))
      refine IH (T + 1) mv _ s0 b' step _ (by omega) (by omega) p1 p2 (relD_kpl kp1 hrb) hwb hG o1 s2 hq1 (fun e => ?_) (fun x c3 e hk3 hg2 hx => ?_)
      · subst e
        have hE : bld dv (h + 1) step s0 = (none, s2) := by rw [hB]; exact bR13_eq (o1 := none) (o2 := none) (o3 := none) (o4 := none) hq1 rfl rfl rfl nst_n
        rw [hE] at hb
        cases hb
        exact hn rfl
      · subst e
        show K T x c3 s2 false
        have kp3 : kpl T c c3 := kpl_tr kp1 (kpl_dn hk3)
        have c42 : c3 42 T = 1 := by rw [hk3 42 T (by omega), p3, cU_s]
        have c41 : c3 41 T = nI step := by rw [hk3 41 T (by omega), p3, cU_o (by omega)]; exact h41
        have j36 : c3 36 step = nI 11 := (kp3 36 step (by omega)).trans k36
        have j37 : c3 37 step = nI f' := (kp3 37 step (by omega)).trans k37
        have j38 : c3 38 step = nI goal' := (kp3 38 step (by omega)).trans r38
        have j39 : c3 39 step = nI a' := (kp3 39 step (by omega)).trans ca
        have hS := side_ext x1 hok hgl.2 hsd
        have hl2 := sExt_len x1
        have hs4 := hS.2.2.2.2.2.2.2.1 (by omega)
        have hRf : sR s2.1 f' = sR s0.1 f' := (sR_ext x1 hfv.2).1
        refine h13 T x step a' f' c3 s2 hT (by omega) c41 (by omega) ⟨by omega, by omega⟩ j36 j37 (by omega) (by omega) hx c42 j39 (fun oE sE oG sG hqE hqG hgE hgG => ?_)
        have xE : sExt s2 sE := by have q := aLamO_ext (sR s2.1 f') (some x) s2; rw [hqE] at q; exact q
        have xG : sExt sE sG := by have q := aGate_ext (aNode_ext (0, f', 0, 0, 0)) oE.isNone sE; rw [hqG] at q; exact q
        have hqE2 : aLamO (sR s0.1 f') (some x) s2 = (oE, sE) := by rw [← hRf]; exact hqE
        cases oG with
        | none =>
          have hE : bld dv (h + 1) step s0 = (none, sG) := by rw [hB]; exact bR13_eq (o3 := none) (o4 := none) hq1 hqE2 hqG rfl nst_n
          rw [hE] at hb
          cases hb
          exact hn rfl _ _ _
        | some hd => ?_
        have hhd := gate_row hqG hd rfl
        obtain ⟨uE, hoE⟩ : ∃ uE, oE = some uE := by
          cases oE with
          | none => have : ((none : Option Nat), sE) = (some hd, sG) := hqG; cases this
          | some z => exact ⟨z, rfl⟩
        subst hoE
        have hndx : oNd s2 (some x) (nG s2.2 x) := fun y hy => by injection hy with hy; subst hy; exact ⟨hx.1, hx.2, rfl⟩
        have vE := (lamO_q hqE hndx).1
        have hgx := (part_lt hg2.2 hx).2.1
        obtain ⟨w1, w2, w3⟩ := push_41 (T := T) (nx := a') (c := cU (cU (cU c3 42 T 2) 44 T (nI uE)) 43 T (nI hd))
        have kp4 : kpl T c3 (pushC (cU (cU (cU c3 42 T 2) 44 T (nI uE)) 43 T (nI hd)) T a') := push_k (kpl_tr (kpl_tr (kpl_cU (by omega)) (kpl_cU (by omega))) (kpl_cU (by omega)))
        have xg : sExt s0 sG := x1.tr (xE.tr xG)
        obtain ⟨o2, s3, hq2⟩ : ∃ oo tt, bld dv h a' sG = (oo, tt) := ⟨_, _, rfl⟩
        have x23 : sExt sG s3 := by have q := bld_ext dv h a' sG; rw [hq2] at q; exact q
        show K (T + 1) x (pushC (cU (cU (cU c3 42 T 2) 44 T (nI uE)) 43 T (nI hd)) T a') sG false
        refine IH (T + 1) x _ sG a' step _ (by omega) (by omega) w1 w2 (relD_kpl (kpl_tr kp3 kp4) hra) (wfD_ext xg hok hwa) hgG o2 s3 hq2 (fun e => ?_) (fun y c5 e hk5 hg3 hy2 => ?_)
        · subst e
          have hE : bld dv (h + 1) step s0 = (none, s3) := by rw [hB]; exact bR13_eq (o4 := none) hq1 hqE2 hqG hq2 nst_n
          rw [hE] at hb
          cases hb
          exact hn rfl
        · subst e
          show K T y c5 s3 false
          have kp5 : kpl T c c5 := kpl_tr (kpl_tr kp3 kp4) (kpl_dn hk5)
          have d42 : c5 42 T = 2 := by rw [hk5 42 T (by omega), w3, cU_o (by omega), cU_o (by omega), cU_s]
          have d41 : c5 41 T = nI step := by rw [hk5 41 T (by omega), w3, cU_o (by omega), cU_o (by omega), cU_o (by omega)]; exact c41
          have d44 : c5 44 T = nI uE := by rw [hk5 44 T (by omega), w3, cU_o (by omega), cU_s]
          have d43 : c5 43 T = nI hd := by rw [hk5 43 T (by omega), w3, cU_s]
          have i36 : c5 36 step = nI 11 := (kp5 36 step (by omega)).trans k36
          have i37 : c5 37 step = nI f' := (kp5 37 step (by omega)).trans k37
          have i38 : c5 38 step = nI goal' := (kp5 38 step (by omega)).trans r38
          have x3 : sExt s0 s3 := xg.tr x23
          have hl3 := sExt_len x3
          have hS3 := side_ext x3 hok hgl.2 hsd
          obtain ⟨gt, hnd, hgt⟩ := vd_nd (s := s3) (o := some y) (fun z hz => by injection hz with hz; subst hz; exact hy2) hg3.2
          have vE3 : oFn s3 (some uE) (nG s2.2 x) := (vE.mono xG hgE.2).mono x23 hgG.2
          have hhd3 := row_mono x23 hhd
          have hGd : oNd s3 (some hd) f' := fun z hz => by injection hz with hz; subst hz; exact ⟨hhd3.1.1, hhd3.1.2, by unfold nG; rw [hhd3.2]⟩
          refine hP T y step uE hd c5 _ s3 (aNestK f' (some uE) (some hd) (some y)) hT (by omega) d41 (by omega) (Or.inr (Or.inr (Or.inr (Or.inr ⟨i36, ⟨f', by omega, i37⟩, d42, rfl⟩)))) ((cU_o (by omega)).trans d44) ((cU_o (by omega)).trans d43) (fun en2 hM => c_X8_around_13 l G (s0 := s3) hM (o := some y) (by omega) rfl (hS3.2.1 (by omega)) (by rw [hS3.2.2.2.2.2.2.2.1 (by omega)]; decide) (by rw [(hS3.2.2.2.2.2.2.2.2.2.2.2 rfl).1]; decide) hnd hgt vE3 hgx.1 hGd hhd3.2 (hS3.2.2.2.2.2.2.2.2.2.2.2 rfl).2 ((cU_o (by omega)).trans i36) ((cU_o (by omega)).trans i37) ((cU_o (by omega)).trans i38)) (fun o3 s4 hq3 hg4 => ?_)
          have hE : bld dv (h + 1) step s0 = (o3, s4) := by rw [hB]; exact bR13_eq hq1 hqE2 hqG hq2 hq3
          rw [hE] at hb
          cases hb
          exact fin _ (kpl_tr kp5 (kpl_cU (by omega))) hg4 (fun z hz => nst_vd (hz ▸ hq3))

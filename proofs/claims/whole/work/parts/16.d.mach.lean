def rankW (w : Nat) : Nat := if w % 16 = 11 then 1 else if w % 16 = 12 then 2 else 2 + w / 16
/-- the ways 11, 12, 13: one after the other -/
theorem fr_try {l : Launch} {G : rG} {n : Nat} {ad : Nat → Nat} {ns : List Row} {K : St8 → Prop} {fu : Nat} (hK : Kst l G n ad ns fu K) (hf3 : fu ≤ 3000) {h d u goal : Nat} (IH : LM fu K h) (hdh : d + (h + 1) = 80) {Γ : Nat → Bool} {c2 : Nat → Nat → Int32} : ∀ (t r f : Nat) (cl : Int32) (U : Nat) (ss : List Row) (dv : Nat → Int32) (c : Nat → Nat → Int32), (r = 11 ∨ r = 12 ∨ r = 13) → 603 ≤ t + rankW (16 * f + r) → FrC fu d u goal Γ c2 c U ss → wyOK ss Γ goal r f → c 34 (d + 1) = 1 → c 35 (d + 1) = tW (16 * f + r) → c 36 (u + 1) = nI 11 → ((r = 11 ∨ r = 12) → c 40 (u + 1) = 0) → dv (4 * (u + 1) + 0) = nI goal → (∀ σ, RS c2 d u (h + 1) (tryW (folW (look fu h) Γ goal (u + 1)) Γ t (16 * f + r) (ss, U, dv)) σ → K σ) → ∀ σ, chS c U (d + 1) fu cl ss r 1 f Γ goal σ → K σ := by
  intro t
  induction t with
  | zero =>
    intro r f cl U ss dv c hr hrank hF hwy
    exfalso
    have := hF.1.1
    have := wy_f hF.2.1 hwy
    unfold rankW at hrank
    rw [show (16 * f + r) % 16 = r by omega, show (16 * f + r) / 16 = f by omega] at hrank
    split at hrank
    · omega
    split at hrank
    · omega
    · omega
  | succ t ih =>
    intro r f cl U ss dv c hr hrank hF hwy h34 h35 h36 h40 hdv hres σ hch
    obtain ⟨h1, h2, h3, h4, h5, h6, h7, h8, h9⟩ := id hF
    have hg6 := h1.1
    have hfl := wy_f h2 hwy
    obtain ⟨dv2, hdv2⟩ : ∃ z, z = upd dv (4 * (u + 1) + 1) (nI (16 * f + r)) := ⟨_, rfl⟩
    have g0 : dv2 (4 * (u + 1) + 0) = nI goal := by rw [hdv2, upd_ne (by omega)]; exact hdv
    have g1 : dv2 (4 * (u + 1) + 1) = nI (16 * f + r) := by rw [hdv2, upd_eq]
    have hfol : folW (look fu h) Γ goal (u + 1) (16 * f + r) (ss, U, dv) = prms (look fu h) Γ r f goal (u + 1) (rPremL.getD r 0) 1 (ss, U, dv2) := by rw [fol_eq (by omega), hdv2]
    obtain ⟨m, hm⟩ : ∃ m, rPremL.getD r 0 = m + 1 := by rcases hr with rfl | rfl | rfl <;> exact ⟨_, rfl⟩
    obtain ⟨a, ss1, U1, dv3, hp⟩ : ∃ a b c e, prm (look fu h) Γ r 1 f goal (ss, U, dv2) = (a, (b, c, e)) := ⟨_, _, _, _, rfl⟩
    obtain ⟨⟨⟨y1, ey0⟩, ok0, sU0, sF0⟩, kd0, -⟩ := prm_ok (k := 1) (look_ok hf3 h) (x := (ss, U, dv2)) h1 h2 h3 h4.2 hwy
    rw [hp] at ey0 ok0 sU0 sF0 kd0
    have ey1 : ss1 = ss ++ y1 := ey0
    have ok1 : ssOK ss1 := ok0
    have sU1 : U ≤ U1 := sU0
    have sF1 : U1 ≤ fu := sF0
    have kd1 : ∀ j, j < 4 * U + 4 → dv3 j = dv2 j := kd0
    have hr10 : 1 ≤ rPremL.getD r 0 := by omega
    -- the next way, from a state that failed at phase p
    have next : ∀ (p U2 : Nat) (ss2 : List Row) (dv4 : Nat → Int32) (c4 : Nat → Nat → Int32), (p = 1 ∨ p = 2) → FrC fu d u goal Γ c2 c4 U2 ss2 → (∃ y, ss2 = ss ++ y) → c4 34 (d + 1) = nI p → c4 35 (d + 1) = tW (16 * f + r) → c4 36 (u + 1) = nI 11 → ((r = 11 ∨ r = 12) → c4 40 (u + 1) = 0) → dv4 (4 * (u + 1) + 0) = nI goal → folW (look fu h) Γ goal (u + 1) (16 * f + r) (ss, U, dv) = (0, (ss2, U2, dv4)) → K (ss2, c4, nI U2, 0, nI (d + 1), 0) := by
      intro p U2 ss2 dv4 c4 hp12 F4 hy2 q34 q35 q36 q40 qdv hf0
      obtain ⟨p1, p2, p3, p4, p5, p6, p7, p8, p9⟩ := id F4
      obtain ⟨y2, ey2⟩ := hy2
      have hsg : sSort ss2 goal = sSort ss goal := by rw [ey2]; exact (st_app h3.2).1
      rw [tryW_n (by omega) hf0] at hres
      have hnx := nxtW_ok (ss := ss) (ss1 := ss2) p1 rfl (by omega) hwy hsg
      obtain ⟨w1, hw1⟩ : ∃ w, nxtW ss2 Γ (16 * f + r) = w := ⟨_, rfl⟩
      rw [hw1] at hnx
      have hres : ∀ σ, RS c2 d u (h + 1) (tryW (folW (look fu h) Γ goal (u + 1)) Γ t w1 (ss2, U2, dv4)) σ → K σ := by rw [← hw1]; exact hres
      have hns : ∀ a, nsW ss2 Γ a = 0 ∨ ∃ f2, nsW ss2 Γ a = 16 * f2 + 13 ∧ (a < 2 ^ 31 → a < f2) := by
        intro a
        unfold nsW
        by_cases z : lstK ss2 Γ 9 a ≠ 0
        · rw [if_pos z]; exact Or.inr ⟨_, rfl, fun q => (lstK_y p1 q z).2.2.1⟩
        · rw [if_neg z]; exact Or.inl rfl
      have hxx : (c4 35 (d + 1) = 0 ∧ sSort ss2 goal = 3 ∧ w1 = 11) ∨ (c4 35 (d + 1) = 0 ∧ ¬ sSort ss2 goal = 3 ∧ w1 = nsW ss2 Γ 0) ∨ (c4 35 (d + 1) = (-1) ∧ sSort ss2 goal = 3 ∧ w1 = 12) ∨ (c4 35 (d + 1) = (-2) ∧ sSort ss2 goal = 3 ∧ w1 = nsW ss2 Γ 0) ∨ (∃ f0, (1 ≤ f0 ∧ f0 ≤ 600) ∧ c4 35 (d + 1) = nI f0 ∧ w1 = nsW ss2 Γ f0) := by
        rw [q35]
        unfold nxtW at hw1
        rw [show (16 * f + r) % 16 = r by omega, show (16 * f + r) / 16 = f by omega] at hw1
        unfold tW
        rw [show (16 * f + r) % 16 = r by omega, show (16 * f + r) / 16 = f by omega]
        rcases hr with rfl | rfl | rfl
        · exact Or.inr (Or.inr (Or.inl ⟨rfl, by rw [hsg]; unfold wyOK at hwy; omega, hw1.symm⟩))
        · exact Or.inr (Or.inr (Or.inr (Or.inl ⟨rfl, by rw [hsg]; unfold wyOK at hwy; omega, hw1.symm⟩)))
        · have := h2 f (wy_G hwy (by decide))
          exact Or.inr (Or.inr (Or.inr (Or.inr ⟨f, by omega, rfl, hw1.symm⟩)))
      have hr1 : w1 = 0 ∨ ∃ r1 f1, w1 = 16 * f1 + r1 ∧ (r1 = 12 ∨ r1 = 13) ∧ rankW (16 * f + r) < rankW w1 := by
        unfold nxtW at hw1
        rw [show (16 * f + r) % 16 = r by omega, show (16 * f + r) / 16 = f by omega] at hw1
        unfold rankW
        rw [show (16 * f + r) % 16 = r by omega, show (16 * f + r) / 16 = f by omega]
        rcases hr with rfl | rfl | rfl
        · rw [if_pos rfl] at hw1
          subst hw1
          exact Or.inr ⟨12, 0, rfl, Or.inl rfl, by show 1 < 2; decide⟩
        · rw [if_neg (by decide), if_pos rfl] at hw1
          rcases hns 0 with q | ⟨f2, q, q2⟩
          · exact Or.inl (hw1.symm.trans q)
          · have := q2 (by decide)
            refine Or.inr ⟨13, f2, hw1.symm.trans q, Or.inr rfl, ?_⟩
            rw [← hw1, q, if_neg (by decide), if_pos rfl, if_neg (by omega), if_neg (by omega)]; omega
        · rw [if_neg (by decide), if_neg (by decide), if_pos rfl] at hw1
          rcases hns f with q | ⟨f2, q, q2⟩
          · exact Or.inl (hw1.symm.trans q)
          · have := q2 (by omega)
            refine Or.inr ⟨13, f2, hw1.symm.trans q, Or.inr rfl, ?_⟩
            rw [← hw1, q, if_neg (by decide), if_neg (by decide), if_neg (by omega), if_neg (by omega)]; omega
      refine k_C0 hK (w1 := w1) (p := p) ⟨by omega, by omega⟩ ⟨p4.2, hf3⟩ p6 p7 (by omega) p3 q36 hp12 q34 p8 p2 hxx ⟨fun hz c5 e5 => ?_, fun hz c5 e5 σ5 hch5 => ?_⟩
      · subst hz
        rw [tryW_0] at hres
        exact hres _ (Or.inr (Or.inr (Or.inl ⟨rfl, c5, rfl, fun r t z1 z2 z3 => (e5 r t (by omega)).trans (p5 r t z1 z2 z3)⟩)))
      · clear hxx
        obtain ⟨e1, e2, e3⟩ := e5
        obtain ⟨r1, f1, ew, hr1b, hrk⟩ := hr1.resolve_left hz
        clear hr1
        obtain ⟨r2, f2, ew2, hf2, hwy2⟩ : ∃ r f, w1 = 16 * f + r ∧ f ≤ ss2.length ∧ wyOK ss2 Γ goal r f := hnx.resolve_left hz
        have hr2 := wy_r hwy2
        have er : r2 = r1 := by omega
        have ef : f2 = f1 := by omega
        subst er ef
        have F5 : FrC fu d u goal Γ c2 c5 U2 ss2 := F4.own (fun r t z1 z2 => e3 r t (by omega))
        subst ew
        rw [show (16 * f2 + r2) % 16 = r2 by omega, show (16 * f2 + r2) / 16 = f2 by omega] at hch5
        have hr40 : (r2 = 11 ∨ r2 = 12) → c5 40 (u + 1) = 0 := by
          intro z
          rw [e3 _ _ (by omega)]
          refine q40 ?_
          -- 12 comes after 11 only
          rcases hr with rfl | rfl | rfl
          · exact Or.inl rfl
          · exact Or.inr rfl
          · exfalso
            unfold nxtW at hw1
            rw [show (16 * f + 13) % 16 = 13 by omega, show (16 * f + 13) / 16 = f by omega, if_neg (by decide), if_neg (by decide), if_pos rfl] at hw1
            rcases hns f with q | ⟨f3, q, -⟩
            · omega
            · omega
        refine ih r2 f2 0 U2 ss2 dv4 c5 (by omega) (by omega) F5 hwy2 e1 e2 ?_ hr40 qdv hres σ5 hch5
        rw [e3 _ _ (by omega)]; exact q36
    refine prem_m IH (D := d + 1) (U := U) (dv := dv2) (by omega) h4.2 h1 h2 h3 hwy (fun σ hrs => ?_) σ hch
    rw [hp] at hrs
    have badT : (a = 0 ∨ 3000 < a) → a ≠ 0 → tryW (folW (look fu h) Γ goal (u + 1)) Γ (t + 1) (16 * f + r) (ss, U, dv) = (a, (ss1, U1, dv3)) := fun q q2 => tryW_y (by omega) (hfol.trans (by rw [hm]; exact prms_bad hp q)) q2
    rcases hrs with ⟨ha, c4, dp, cl4, rfl⟩ | ⟨ha, c4, us, dp, cl4, rfl⟩ | ⟨ha, c4, rfl, hk4⟩ | ⟨ha, ha3, c4, rfl, hk4, hrel⟩
    · have ha : a = 3001 := ha
      rw [badT (by omega) (by omega)] at hres
      exact hres _ (Or.inl ⟨ha, c4, dp, cl4, rfl⟩)
    · have ha : a = 3002 := ha
      rw [badT (by omega) (by omega)] at hres
      exact hres _ (Or.inr (Or.inl ⟨ha, c4, us, dp, cl4, rfl⟩))
    · have ha : a = 0 := ha
      subst ha
      have hk4 : kp (d + 1) U c c4 := hk4
      have F4 := hF.child hk4 ey1 ok1 sU1 sF1
      refine next 1 U1 ss1 dv3 c4 (Or.inl rfl) F4 ⟨y1, ey1⟩ ?_ ?_ ?_ (fun z => ?_) ?_ (hfol.trans (by rw [hm]; exact prms_bad hp (Or.inl rfl)))
      · rw [hk4 _ _ (by omega) (by omega) (by omega)]; exact h34
      · rw [hk4 _ _ (by omega) (by omega) (by omega)]; exact h35
      · rw [hk4 _ _ (by omega) (by omega) (by omega)]; exact h36
      · rw [hk4 _ _ (by omega) (by omega) (by omega)]; exact h40 z
      · rw [kd1 _ (by omega)]; exact g0
    · have ha : a = U + 1 := ha
      have ha3 : a ≤ 3000 := ha3
      have hk4 : kp (d + 1) U c c4 := hk4
      have hrel : relD c4 dv3 h U U1 (U + 1) := hrel
      have hgood : ¬ (a = 0 ∨ 3000 < a) := by omega
      have F4 := hF.child hk4 ey1 ok1 sU1 sF1
      obtain ⟨p1, p2, p3, p4, p5, p6, p7, p8, p9⟩ := id F4
      have q34 : c4 34 (d + 1) = nI 1 := by rw [hk4 _ _ (by omega) (by omega) (by omega)]; exact h34
      have q35 : c4 35 (d + 1) = tW (16 * f + r) := by rw [hk4 _ _ (by omega) (by omega) (by omega)]; exact h35
      have q36 : c4 36 (u + 1) = nI 11 := by rw [hk4 _ _ (by omega) (by omega) (by omega)]; exact h36
      by_cases hr13 : r = 13
      · -- the second premise
        subst hr13
        have hP : rPremL.getD 13 0 = 2 := rfl
        have hm1 : m = 1 := by omega
        subst hm1
        have hff := h2 f (wy_G hwy (by decide))
        have hwy1 : wyOK ss1 Γ goal 13 f := by rw [ey1]; exact wyOK_app y1 h1 hfl h3.2 hwy
        have htw : tW (16 * f + 13) = nI f := by unfold tW; rw [if_neg (by omega), if_neg (by omega), show (16 * f + 13) / 16 = f by omega]
        rw [htw] at q35
        have hl1 : ss.length ≤ ss1.length := by rw [ey1]; simp
        refine k_C4 hK (f0 := f) (cv := U + 1) ⟨by omega, by omega⟩ ⟨p4.2, hf3⟩ p6 p7 (by omega) p3 q36 q34 ⟨by omega, by omega⟩ p8 p2 ⟨hff.1, Nat.le_trans hff.2 hl1⟩ q35 ?_
        rintro c5 ⟨b1, b2, b3⟩ σ hch2
        have F5 : FrC fu d u goal Γ c2 c5 U1 ss1 := F4.own (fun r t z1 z2 => b3 r t (by omega) (by omega))
        obtain ⟨dv4, hdv4⟩ : ∃ z, z = upd dv3 (4 * (u + 1) + (1 + 1)) (nI a) := ⟨_, rfl⟩
        obtain ⟨a5, ss5, U5, dv5, hp5⟩ : ∃ a b c e, prm (look fu h) Γ 13 2 f goal (ss1, U1, dv4) = (a, (b, c, e)) := ⟨_, _, _, _, rfl⟩
        obtain ⟨⟨⟨y5, ey50⟩, ok50, sU50, sF50⟩, kd50, -⟩ := prm_ok (k := 2) (look_ok hf3 h) (x := (ss1, U1, dv4)) ok1 p2 p3 sF1 hwy1
        rw [hp5] at ey50 ok50 sU50 sF50 kd50
        have ey5 : ss5 = ss1 ++ y5 := ey50
        have ok5 : ssOK ss5 := ok50
        have sU5 : U1 ≤ U5 := sU50
        have sF5 : U5 ≤ fu := sF50
        have kd5 : ∀ j, j < 4 * U1 + 4 → dv5 j = dv4 j := kd50
        have hfol2 : folW (look fu h) Γ goal (u + 1) (16 * f + 13) (ss, U, dv) = prms (look fu h) Γ 13 f goal (u + 1) 1 2 (ss1, U1, dv4) := by
          refine hfol.trans ?_
          rw [hm, prms_good hp hgood, hdv4]; rfl
        have badT5 : (a5 = 0 ∨ 3000 < a5) → a5 ≠ 0 → tryW (folW (look fu h) Γ goal (u + 1)) Γ (t + 1) (16 * f + 13) (ss, U, dv) = (a5, (ss5, U5, dv5)) := fun q q2 => tryW_y (by omega) (hfol2.trans (prms_bad hp5 q)) q2
        refine prem_m IH (D := d + 1) (U := U1) (dv := dv4) (by omega) sF1 ok1 p2 p3 hwy1 (fun σ hrs => ?_) σ hch2
        rw [hp5] at hrs
        rcases hrs with ⟨ha5, c6, dp, cl4, rfl⟩ | ⟨ha5, c6, us, dp, cl4, rfl⟩ | ⟨ha5, c6, rfl, hk6⟩ | ⟨ha5, ha53, c6, rfl, hk6, hrel6⟩
        · have ha5 : a5 = 3001 := ha5
          rw [badT5 (by omega) (by omega)] at hres
          exact hres _ (Or.inl ⟨ha5, c6, dp, cl4, rfl⟩)
        · have ha5 : a5 = 3002 := ha5
          rw [badT5 (by omega) (by omega)] at hres
          exact hres _ (Or.inr (Or.inl ⟨ha5, c6, us, dp, cl4, rfl⟩))
        · have ha5 : a5 = 0 := ha5
          subst ha5
          have hk6 : kp (d + 1) U1 c5 c6 := hk6
          have F6 := F5.child hk6 ey5 ok5 sU5 sF5
          refine next 2 U5 ss5 dv5 c6 (Or.inr rfl) F6 ⟨y1 ++ y5, by rw [ey5, ey1, List.append_assoc]⟩ ?_ ?_ ?_ (fun z => by omega) ?_ (hfol2.trans (prms_bad hp5 (Or.inl rfl)))
          · rw [hk6 _ _ (by omega) (by omega) (by omega)]; exact b2
          · rw [hk6 _ _ (by omega) (by omega) (by omega), b3 _ _ (by omega) (by omega), htw]; exact q35
          · rw [hk6 _ _ (by omega) (by omega) (by omega), b3 _ _ (by omega) (by omega)]; exact q36
          · rw [kd5 _ (by omega), hdv4, upd_ne (by omega), kd1 _ (by omega)]; exact g0
        · have ha5 : a5 = U1 + 1 := ha5
          have ha53 : a5 ≤ 3000 := ha53
          have hk6 : kp (d + 1) U1 c5 c6 := hk6
          have hrel6 : relD c6 dv5 h U1 U5 (U1 + 1) := hrel6
          have hgood5 : ¬ (a5 = 0 ∨ 3000 < a5) := by omega
          have F6 := F5.child hk6 ey5 ok5 sU5 sF5
          obtain ⟨w1, w2, w3, w4, w5, w6, w7, w8, w9⟩ := id F6
          have e1 : tryW (folW (look fu h) Γ goal (u + 1)) Γ (t + 1) (16 * f + 13) (ss, U, dv) = (u + 1, (ss5, U5, upd dv5 (4 * (u + 1) + (1 + 2)) (nI a5))) := by
            refine tryW_y (by omega) (hfol2.trans ?_) (by omega)
            rw [prms_good hp5 hgood5]; rfl
          rw [e1] at hres
          refine k_C3 hK (f0 := f) (cv := U1 + 1) ⟨by omega, by omega⟩ ⟨w4.2, hf3⟩ w6 w7 (by omega) w3 ?_ ?_ ⟨by omega, by omega⟩ ⟨hff.1, by omega⟩ ?_ ?_
          · rw [hk6 _ _ (by omega) (by omega) (by omega), b3 _ _ (by omega) (by omega)]; exact q36
          · rw [hk6 _ _ (by omega) (by omega) (by omega)]; exact b2
          · rw [hk6 _ _ (by omega) (by omega) (by omega), b3 _ _ (by omega) (by omega)]; exact q35
          rintro c7 ⟨z0, z1, z2⟩
          refine hres _ (Or.inr (Or.inr (Or.inr ⟨rfl, by show u + 1 ≤ 3000; omega, c7, rfl, fun r t t1 t2 t3 => (z2 r t (by omega)).trans (w5 r t t1 t2 t3), ?_⟩)))
          refine ⟨⟨by omega, by show u + 1 ≤ U5; omega⟩, goal, 13, f, ?_, ?_, ⟨by omega, by omega, by omega, by omega⟩, ⟨?_, ?_, ?_⟩, fun _ => ⟨U + 1, ?_, ?_, by omega, ?_⟩, fun _ => ⟨U1 + 1, ?_, z1, by omega, ?_⟩, fun z => by omega⟩
          · show upd dv5 _ _ _ = _; rw [upd_ne (by omega), kd5 _ (by omega), hdv4, upd_ne (by omega), kd1 _ (by omega)]; exact g0
          · show upd dv5 _ _ _ = _; rw [upd_ne (by omega), kd5 _ (by omega), hdv4, upd_ne (by omega), kd1 _ (by omega)]; exact g1
          · rw [z2 _ _ (by omega)]; exact w9
          · rw [z2 _ _ (by omega), hk6 _ _ (by omega) (by omega) (by omega), b3 _ _ (by omega) (by omega), q36]; rfl
          · rw [z0, if_neg (by decide), if_neg (by decide), htw]
          · show upd dv5 _ _ _ = _; rw [upd_ne (by omega), kd5 _ (by omega), hdv4, upd_eq, ha]
          · rw [z2 _ _ (by omega), hk6 _ _ (by omega) (by omega) (by omega)]; exact b1
          · refine relD_keep hrel (fun r t t1 t2 t3 t4 => ?_) (fun j t1 t2 => ?_) (by omega) sU5
            · rw [z2 _ _ (by omega), hk6 _ _ (by omega) (by omega) (by omega), b3 _ _ (by omega) (by omega)]
            · show upd dv5 _ _ _ = _; rw [upd_ne (by omega), kd5 _ (by omega), hdv4, upd_ne (by omega)]
          · show upd dv5 _ _ _ = _; rw [upd_eq, ha5]
          · exact relD_keep hrel6 (fun r t t1 t2 t3 t4 => z2 r t (by omega)) (fun j t1 t2 => upd_ne (by omega)) (by omega) (Nat.le_refl _)
      · -- left or right
        have hr2 : r = 11 ∨ r = 12 := by omega
        have hP : rPremL.getD r 0 = 1 := by rcases hr2 with rfl | rfl <;> rfl
        have hm0 : m = 0 := by omega
        subst hm0
        have hf0 : f = 0 := wy_0 hwy (by omega)
        have q40 : c4 40 (u + 1) = 0 := by rw [hk4 _ _ (by omega) (by omega) (by omega)]; exact h40 hr2
        have e1 : tryW (folW (look fu h) Γ goal (u + 1)) Γ (t + 1) (16 * f + r) (ss, U, dv) = (u + 1, (ss1, U1, upd dv3 (4 * (u + 1) + (1 + 1)) (nI a))) := by
          refine tryW_y (by omega) (hfol.trans ?_) (by omega)
          rw [hm, prms_good hp hgood]; rfl
        rw [e1] at hres
        have fin : ∀ c5 : Nat → Nat → Int32, (c5 37 (u + 1) = tW (16 * f + r) ∧ c5 39 (u + 1) = nI (U + 1) ∧ ∀ r t, ¬ ((r = 37 ∨ r = 39) ∧ t = u + 1) → c5 r t = c4 r t) → K (ss1, c5, nI U1, 0, nI (d + 1 - 1), nI (u + 1)) := by
          rintro c5 ⟨b0, b1, b2⟩
          refine hres _ (Or.inr (Or.inr (Or.inr ⟨rfl, by show u + 1 ≤ 3000; omega, c5, rfl, fun r t z1 z2 z3 => (b2 r t (by omega)).trans (p5 r t z1 z2 z3), ?_⟩)))
          refine ⟨⟨by omega, by show u + 1 ≤ U1; omega⟩, goal, r, f, ?_, ?_, ⟨by omega, by omega, by omega, by omega⟩, ⟨?_, ?_, ?_⟩, fun _ => ⟨U + 1, ?_, b1, by omega, ?_⟩, fun z => by omega, fun _ => ?_⟩
          · show upd dv3 _ _ _ = _; rw [upd_ne (by omega), kd1 _ (by omega)]; exact g0
          · show upd dv3 _ _ _ = _; rw [upd_ne (by omega), kd1 _ (by omega)]; exact g1
          · rw [b2 _ _ (by omega)]; exact p9
          · rw [b2 _ _ (by omega), q36, if_neg (by omega)]
          · rw [b0, if_neg (by omega), if_neg (by omega)]
          · show upd dv3 _ _ _ = _; rw [upd_eq, ha]
          · exact relD_keep hrel (fun r t z1 z2 z3 z4 => b2 r t (by omega)) (fun j z1 z2 => upd_ne (by omega)) (by omega) (Nat.le_refl _)
          · rw [b2 _ _ (by omega)]; exact q40
        subst hf0
        rcases hr2 with rfl | rfl
        · exact k_C1 hK (cv := U + 1) ⟨by omega, by omega⟩ ⟨p4.2, hf3⟩ p6 p7 (by omega) p3 q36 q34 ⟨by omega, by omega⟩ q35 fin
        · exact k_C2 hK (cv := U + 1) ⟨by omega, by omega⟩ ⟨p4.2, hf3⟩ p6 p7 (by omega) p3 q36 q34 ⟨by omega, by omega⟩ q35 fin
theorem lm_all {l : Launch} {G : rG} {n : Nat} {ad : Nat → Nat} {ns : List Row} {K : St8 → Prop} {fu : Nat} (hK : Kst l G n ad ns fu K) (hf3 : fu ≤ 3000) : ∀ h, LM fu K h := by
  intro h
  induction h with
  | zero =>
    intro d u ss Γ gl c2 cl dv hdh hu hS hΓ hg hres σ hcs
    rcases hcs with ⟨-, c1, rfl⟩ | ⟨a, -⟩
    · exact hres _ (Or.inr (Or.inl ⟨rfl, c1, nI u, nI d, cl, rfl⟩))
    · exact absurd (Or.inl (by omega)) a
  | succ h IH =>
    intro d u ss Γ goal c2 cl dv hdh hu hS hΓ hg hres σ hcs
    rcases hcs with ⟨a, c1, rfl⟩ | ⟨a, c1, rfl, hkp, hN⟩
    · have e : fu ≤ u := by omega
      rw [look, if_pos e] at hres
      exact hres _ (Or.inr (Or.inl ⟨rfl, c1, nI u, nI d, cl, rfl⟩))
    · have hlt : u < fu := by omega
      rw [look, if_neg (by show ¬ fu ≤ u; omega)] at hres
      have hres : ∀ σ, RS c2 d u (h + 1) (tryW (folW (look fu h) Γ goal (u + 1)) Γ 602 (fstW ss Γ goal) (ss, u + 1, upd dv (4 * (u + 1) + 0) (nI goal))) σ → K σ := hres
      obtain ⟨n1, n2, n3, n4, n5, n6, n7, n8, n9⟩ := hN
      have hF : FrC fu d u goal Γ c2 c1 (u + 1) ss := ⟨hS, hΓ, hg, by omega, hkp, n4, n1, n5, n7⟩
      have hdv : upd dv (4 * (u + 1) + 0) (nI goal) (4 * (u + 1) + 0) = nI goal := upd_eq
      have hg6 := hS.1
      by_cases hch : chR (fstW ss Γ goal) = 11
      · have h11 := ch11 hS hch
        refine k_A3 hK ⟨by omega, by omega⟩ ⟨by omega, hf3⟩ n4 n1 (by omega) hg n5 hΓ n2 n6 n3 hch ⟨fun hz c3 e3 => ?_, fun hz c3 e3 σ3 hch3 => ?_⟩
        · rw [hz, tryW_0] at hres
          exact hres _ (Or.inr (Or.inr (Or.inl ⟨rfl, c3, rfl, fun r t z1 z2 z3 => (e3 r t (by omega) (by omega)).trans (hkp r t z1 z2 z3)⟩)))
        · obtain ⟨e1, e2, e3, e4⟩ := e3
          obtain ⟨r, f, ew, hf, hwy⟩ : ∃ r f, fstW ss Γ goal = 16 * f + r ∧ f ≤ ss.length ∧ wyOK ss Γ goal r f := (fstW_ok hS Γ goal).resolve_left hz
          have hr := wy_r hwy
          rw [ew] at hch e2 hch3 hres
          have hr13 : r = 11 ∨ r = 12 ∨ r = 13 := by
            unfold chR at hch
            rw [show (16 * f + r) % 16 = r by omega] at hch
            by_cases z : r = 0 ∨ 10 < r
            · omega
            · rw [if_neg z] at hch; omega
          have hr113 : r = 11 ∨ r = 13 := by
            rcases h11 with q | q
            · left; rw [ew] at q; omega
            · right
              have q2 := q.2
              rw [ew] at q2
              unfold nsW at q2
              split at q2
              · omega
              · omega
          rw [show (16 * f + r) % 16 = r by omega, show (16 * f + r) / 16 = f by omega] at hch3
          have F3 : FrC fu d u goal Γ c2 c3 (u + 1) ss := hF.own (fun r t z1 z2 => e4 r t (by omega) (by omega))
          refine fr_try hK hf3 IH hdh 602 r f cl (u + 1) ss _ c3 hr13 ?_ F3 hwy e1 e2 e3 (fun _ => ?_) hdv hres σ3 hch3
          · unfold rankW
            rw [show (16 * f + r) % 16 = r by omega, show (16 * f + r) / 16 = f by omega]
            rcases hr113 with rfl | rfl
            · show 603 ≤ 602 + 1; decide
            · have := (hΓ f (wy_G hwy (by decide))).1
              rw [if_neg (by decide), if_neg (by decide)]; omega
          · rw [e4 _ _ (by omega) (by omega)]; exact n9
      · have hz : fstW ss Γ goal ≠ 0 := fun q => hch (by rw [q]; rfl)
        obtain ⟨r, f, ew, hf, hwy⟩ : ∃ r f, fstW ss Γ goal = 16 * f + r ∧ f ≤ ss.length ∧ wyOK ss Γ goal r f := (fstW_ok hS Γ goal).resolve_left hz
        have hr := wy_r hwy
        have hr10 : r ≤ 10 := by
          refine Decidable.byContradiction (fun z => hch ?_)
          rw [ew]
          unfold chR
          rw [if_pos (by omega)]
        rw [ew] at hres
        by_cases hr2 : r ≤ 2
        · exact fr_A1 hK hf3 hdh hF n2 n6 n9 hdv (r := r) (f := f) (by omega) (by omega) ew hres
        · exact fr_A2 hK hf3 IH hdh hF n2 n6 n9 hdv (r := r) (f := f) ⟨by omega, hr10⟩ ew hwy hres

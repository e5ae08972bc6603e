def FrC (fu d u goal : Nat) (Γ : Nat → Bool) (c2 c : Nat → Nat → Int32) (U : Nat) (ss : List Row) : Prop := ssOK ss ∧ (∀ y, Γ y = true → 1 ≤ y ∧ y ≤ ss.length) ∧ (1 ≤ goal ∧ goal ≤ ss.length) ∧ (u + 1 ≤ U ∧ U ≤ fu) ∧ kp d u c2 c ∧ c 32 (d + 1) = nI goal ∧ c 33 (d + 1) = nI (u + 1) ∧ RowM c (d + 1) Γ ∧ c 38 (u + 1) = nI goal
theorem FrC.child {fu d u goal : Nat} {Γ : Nat → Bool} {c2 c c1 : Nat → Nat → Int32} {U U1 : Nat} {ss ss1 y : List Row} (h : FrC fu d u goal Γ c2 c U ss) (hk : kp (d + 1) U c c1) (hy : ss1 = ss ++ y) (hs : ssOK ss1) (hU : U ≤ U1) (hf : U1 ≤ fu) : FrC fu d u goal Γ c2 c1 U1 ss1 := by
  obtain ⟨h1, h2, h3, h4, h5, h6, h7, h8, h9⟩ := h
  have hl : ss.length ≤ ss1.length := by rw [hy]; simp
  refine ⟨hs, fun y q => by have := h2 y q; omega, by omega, by omega, kp_tr h5 (kp_up hk (by omega) (by omega)), ?_, ?_, fun g hg => ?_, ?_⟩
  · rw [hk 32 _ (by omega) (by omega) (by omega)]; exact h6
  · rw [hk 33 _ (by omega) (by omega) (by omega)]; exact h7
  · rw [hk 31 _ (by omega) (by omega) (by omega)]; exact h8 g hg
  · rw [hk 38 _ (by omega) (by omega) (by omega)]; exact h9
theorem FrC.own {fu d u goal : Nat} {Γ : Nat → Bool} {c2 c c1 : Nat → Nat → Int32} {U : Nat} {ss : List Row} (h : FrC fu d u goal Γ c2 c U ss) (ho : ∀ r t, ¬ ((r = 34 ∨ r = 35) ∧ t = d + 1) → ¬ ((r = 36 ∨ r = 37 ∨ r = 39 ∨ r = 40) ∧ t = u + 1) → c1 r t = c r t) : FrC fu d u goal Γ c2 c1 U ss := by
  obtain ⟨h1, h2, h3, h4, h5, h6, h7, h8, h9⟩ := h
  refine ⟨h1, h2, h3, h4, fun r t a b e => (ho r t (by omega) (by omega)).trans (h5 r t a b e), ?_, ?_, fun g hg => ?_, ?_⟩
  · rw [ho 32 _ (by omega) (by omega)]; exact h6
  · rw [ho 33 _ (by omega) (by omega)]; exact h7
  · rw [ho 31 _ (by omega) (by omega)]; exact h8 g hg
  · rw [ho 38 _ (by omega) (by omega)]; exact h9
theorem fol_eq {LK : (Nat → Bool) → Nat → SX → Nat × SX} {Γ : Nat → Bool} {goal s r f : Nat} {ss : List Row} {U : Nat} {dv : Nat → Int32} (hr : r ≤ 13) : folW LK Γ goal s (16 * f + r) (ss, U, dv) = prms LK Γ r f goal s (rPremL.getD r 0) 1 (ss, U, upd dv (4 * s + 1) (nI (16 * f + r))) := by
  unfold folW
  rw [show (16 * f + r) % 16 = r by omega, show (16 * f + r) / 16 = f by omega]
  rfl
theorem nxt_lo {ss : List Row} {Γ : Nat → Bool} {w : Nat} (h : w % 16 ≤ 10) : nxtW ss Γ w = 0 := by
  unfold nxtW
  rw [if_neg (by omega), if_neg (by omega), if_neg (by omega)]
/-- a rule 1 or 2 closes at once -/
theorem fr_A1 {l : Launch} {G : rG} {n : Nat} {ad : Nat → Nat} {ns : List Row} {K : St8 → Prop} {fu : Nat} (hK : Kst l G n ad ns fu K) (hf3 : fu ≤ 3000) {h d u goal : Nat} (hdh : d + (h + 1) = 80) {Γ : Nat → Bool} {c2 c : Nat → Nat → Int32} {cl : Int32} {ss : List Row} {dv : Nat → Int32} (hF : FrC fu d u goal Γ c2 c (u + 1) ss) (h34 : c 34 (d + 1) = 0) (h36 : c 36 (u + 1) = 0) (h40 : c 40 (u + 1) = 0) (hdv : dv (4 * (u + 1) + 0) = nI goal) {r f : Nat} (hr2 : r = 1 ∨ r = 2) (hf6 : f ≤ 600) (hw : fstW ss Γ goal = 16 * f + r)
    (hres : ∀ σ, RS c2 d u (h + 1) (tryW (folW (look fu h) Γ goal (u + 1)) Γ 602 (16 * f + r) (ss, u + 1, dv)) σ → K σ) : K (ss, c, nI (u + 1), 0, nI (d + 1), cl) := by
  obtain ⟨h1, h2, h3, h4, h5, h6, h7, h8, h9⟩ := id hF
  have hg6 := h1.1
  refine k_A1 hK (r := r) ⟨by omega, by omega⟩ ⟨by omega, hf3⟩ h6 h7 (by omega) h3 h8 h2 h34 h36 hr2 (by rw [hw]; exact chR_lo (by omega)) (fun c1 a1 a2 a3 => ?_)
  have hP : rPremL.getD r 0 = 0 := by rcases hr2 with rfl | rfl <;> rfl
  have e1 : tryW (folW (look fu h) Γ goal (u + 1)) Γ 602 (16 * f + r) (ss, u + 1, dv) = (u + 1, (ss, u + 1, upd dv (4 * (u + 1) + 1) (nI (16 * f + r)))) := by
    refine tryW_y (by omega) ?_ (by omega)
    rw [fol_eq (by omega), hP]; rfl
  rw [e1] at hres
  refine hres _ (Or.inr (Or.inr (Or.inr ⟨rfl, by show u + 1 ≤ 3000; omega, c1, rfl, fun r t q1 q2 q3 => (a3 r t (by omega)).trans (h5 r t q1 q2 q3), ?_⟩)))
  refine ⟨⟨by omega, Nat.le_refl _⟩, goal, r, f, ?_, upd_eq, ⟨by omega, hf6, by omega, by omega⟩, ⟨?_, ?_, ?_⟩, fun z => by omega, fun z => by omega, fun _ => ?_⟩
  · show upd dv _ _ _ = _; rw [upd_ne (by omega)]; exact hdv
  · rw [a3 _ _ (by omega)]; exact h9
  · rw [a1, if_pos (by omega)]
  · rw [a2, if_pos (by omega), hw, chA_lo (by omega)]
  · rw [a3 _ _ (by omega)]; exact h40
/-- the rules 3 to 10 -/
theorem fr_A2 {l : Launch} {G : rG} {n : Nat} {ad : Nat → Nat} {ns : List Row} {K : St8 → Prop} {fu : Nat} (hK : Kst l G n ad ns fu K) (hf3 : fu ≤ 3000) {h d u goal : Nat} (IH : LM fu K h) (hdh : d + (h + 1) = 80) {Γ : Nat → Bool} {c2 c : Nat → Nat → Int32} {cl : Int32} {ss : List Row} {dv : Nat → Int32} (hF : FrC fu d u goal Γ c2 c (u + 1) ss) (h34 : c 34 (d + 1) = 0) (h36 : c 36 (u + 1) = 0) (h40 : c 40 (u + 1) = 0) (hdv : dv (4 * (u + 1) + 0) = nI goal) {r f : Nat} (hr3 : 3 ≤ r ∧ r ≤ 10) (hw : fstW ss Γ goal = 16 * f + r) (hwy : wyOK ss Γ goal r f)
    (hres : ∀ σ, RS c2 d u (h + 1) (tryW (folW (look fu h) Γ goal (u + 1)) Γ 602 (16 * f + r) (ss, u + 1, dv)) σ → K σ) : K (ss, c, nI (u + 1), 0, nI (d + 1), cl) := by
  obtain ⟨h1, h2, h3, h4, h5, h6, h7, h8, h9⟩ := id hF
  have hg6 := h1.1
  have hfl := wy_f h2 hwy
  refine k_A2 hK (r := r) (f := f) ⟨by omega, by omega⟩ ⟨by omega, hf3⟩ h6 h7 (by omega) h3 h8 h2 h34 h36 hr3 hw hwy ?_
  rintro c3 ⟨a1, a2, a3, a4⟩ σ hch
  have F3 : FrC fu d u goal Γ c2 c3 (u + 1) ss := hF.own (fun r t q1 q2 => a4 r t (by omega) (by omega))
  have b40 : c3 40 (u + 1) = 0 := by rw [a4 _ _ (by omega) (by omega)]; exact h40
  obtain ⟨dv2, hdv2⟩ : ∃ z, z = upd dv (4 * (u + 1) + 1) (nI (16 * f + r)) := ⟨_, rfl⟩
  have g0 : dv2 (4 * (u + 1) + 0) = nI goal := by rw [hdv2, upd_ne (by omega)]; exact hdv
  have g1 : dv2 (4 * (u + 1) + 1) = nI (16 * f + r) := by rw [hdv2, upd_eq]
  have hfol : folW (look fu h) Γ goal (u + 1) (16 * f + r) (ss, u + 1, dv) = prms (look fu h) Γ r f goal (u + 1) (rPremL.getD r 0) 1 (ss, u + 1, dv2) := by rw [fol_eq (by omega), hdv2]
  have hP12 : rPremL.getD r 0 = 1 ∨ rPremL.getD r 0 = 2 := by
    have : ∀ r, r < 11 → 3 ≤ r → rPremL.getD r 0 = 1 ∨ rPremL.getD r 0 = 2 := by decide
    exact this r (by omega) (by omega)
  obtain ⟨m, hm⟩ : ∃ m, rPremL.getD r 0 = m + 1 := ⟨rPremL.getD r 0 - 1, by omega⟩
  obtain ⟨a, ss1, U1, dv3, hp⟩ : ∃ a b c e, prm (look fu h) Γ r 1 f goal (ss, u + 1, dv2) = (a, (b, c, e)) := ⟨_, _, _, _, rfl⟩
  obtain ⟨⟨⟨y1, ey1⟩, ok1, sU1, sF1⟩, kd1, -⟩ := prm_ok (k := 1) (look_ok hf3 h) (x := (ss, u + 1, dv2)) h1 h2 h3 h4.2 hwy
  rw [hp] at ey1 ok1 sU1 sF1 kd1
  have ey1 : ss1 = ss ++ y1 := ey1
  have ok1 : ssOK ss1 := ok1
  have sU1 : u + 1 ≤ U1 := sU1
  have sF1 : U1 ≤ fu := sF1
  have kd1 : ∀ j, j < 4 * (u + 1) + 4 → dv3 j = dv2 j := kd1
  refine prem_m IH (D := d + 1) (U := u + 1) (dv := dv2) (by omega) h4.2 h1 h2 h3 hwy (fun σ hrs => ?_) σ hch
  rw [hp] at hrs
  have badT : (a = 0 ∨ 3000 < a) → a ≠ 0 → tryW (folW (look fu h) Γ goal (u + 1)) Γ 602 (16 * f + r) (ss, u + 1, dv) = (a, (ss1, U1, dv3)) := fun q q2 => tryW_y (by omega) (hfol.trans (by rw [hm]; exact prms_bad hp q)) q2
  rcases hrs with ⟨ha, c4, dp, cl4, rfl⟩ | ⟨ha, c4, us, dp, cl4, rfl⟩ | ⟨ha, c4, rfl, hk4⟩ | ⟨ha, ha3, c4, rfl, hk4, hrel⟩
  · have ha : a = 3001 := ha
    rw [badT (by omega) (by omega)] at hres
    exact hres _ (Or.inl ⟨ha, c4, dp, cl4, rfl⟩)
  · have ha : a = 3002 := ha
    rw [badT (by omega) (by omega)] at hres
    exact hres _ (Or.inr (Or.inl ⟨ha, c4, us, dp, cl4, rfl⟩))
  · have ha : a = 0 := ha
    subst ha
    have hk4 : kp (d + 1) (u + 1) c3 c4 := hk4
    have F4 := F3.child hk4 ey1 ok1 sU1 sF1
    obtain ⟨p1, p2, p3, p4, p5, p6, p7, p8, p9⟩ := id F4
    have e1 : tryW (folW (look fu h) Γ goal (u + 1)) Γ 602 (16 * f + r) (ss, u + 1, dv) = (0, (ss1, U1, dv3)) := by
      refine (tryW_n (by omega) (hfol.trans (by rw [hm]; exact prms_bad hp (Or.inl rfl)))).trans ?_
      rw [nxt_lo (by omega)]; exact tryW_0
    rw [e1] at hres
    refine k_B0 hK (r := r) (p := 1) ⟨by omega, by omega⟩ ⟨p4.2, hf3⟩ p6 p7 (by omega) p3 hr3 (Or.inl rfl) ?_ ?_ (hres _ (Or.inr (Or.inr (Or.inl ⟨rfl, c4, rfl, p5⟩))))
    · rw [hk4 _ _ (by omega) (by omega) (by omega)]; exact a3
    · rw [hk4 _ _ (by omega) (by omega) (by omega)]; exact a1
  · have ha : a = u + 1 + 1 := ha
    have ha3 : a ≤ 3000 := ha3
    have hk4 : kp (d + 1) (u + 1) c3 c4 := hk4
    have hrel : relD c4 dv3 h (u + 1) U1 (u + 1 + 1) := hrel
    have hgood : ¬ (a = 0 ∨ 3000 < a) := by omega
    have F4 := F3.child hk4 ey1 ok1 sU1 sF1
    obtain ⟨p1, p2, p3, p4, p5, p6, p7, p8, p9⟩ := id F4
    have q34 : c4 34 (d + 1) = nI 1 := by rw [hk4 _ _ (by omega) (by omega) (by omega)]; exact a3
    have q36 : c4 36 (u + 1) = nI r := by rw [hk4 _ _ (by omega) (by omega) (by omega)]; exact a1
    have q37 : c4 37 (u + 1) = nI (if 5 ≤ r then f else goal) := by rw [hk4 _ _ (by omega) (by omega) (by omega)]; exact a2
    have q40 : c4 40 (u + 1) = 0 := by rw [hk4 _ _ (by omega) (by omega) (by omega)]; exact b40
    have r37 : nI (if 5 ≤ r then f else goal) = (if r ≤ 4 then nI goal else if r ≤ 10 then nI f else tW (16 * f + r)) := by
      by_cases z : 5 ≤ r
      · rw [if_pos z, if_neg (by omega), if_pos (by omega)]
      · rw [if_neg z, if_pos (by omega)]
    rcases hP12 with hP | hP
    · -- one premise
      have hm0 : m = 0 := by omega
      subst hm0
      have e1 : tryW (folW (look fu h) Γ goal (u + 1)) Γ 602 (16 * f + r) (ss, u + 1, dv) = (u + 1, (ss1, U1, upd dv3 (4 * (u + 1) + (1 + 1)) (nI a))) := by
        refine tryW_y (by omega) (hfol.trans ?_) (by omega)
        rw [hm, prms_good hp hgood]; rfl
      rw [e1] at hres
      refine k_B1_1 hK (r := r) (cv := u + 1 + 1) ⟨by omega, by omega⟩ ⟨p4.2, hf3⟩ p6 p7 (by omega) p3 hr3 q34 q36 hP ⟨by omega, by omega⟩ ?_
      rintro c5 ⟨b1, b2⟩
      refine hres _ (Or.inr (Or.inr (Or.inr ⟨rfl, by show u + 1 ≤ 3000; omega, c5, rfl, fun r t z1 z2 z3 => (b2 r t (by omega)).trans (p5 r t z1 z2 z3), ?_⟩)))
      refine ⟨⟨by omega, sU1⟩, goal, r, f, ?_, ?_, ⟨by omega, by omega, by omega, by omega⟩, ⟨?_, ?_, ?_⟩, fun _ => ⟨u + 1 + 1, ?_, b1, by omega, ?_⟩, fun z => by omega, fun _ => ?_⟩
      · show upd dv3 _ _ _ = _; rw [upd_ne (by omega), kd1 _ (by omega)]; exact g0
      · show upd dv3 _ _ _ = _; rw [upd_ne (by omega), kd1 _ (by omega)]; exact g1
      · rw [b2 _ _ (by omega)]; exact p9
      · rw [b2 _ _ (by omega), q36, if_pos hr3.2]
      · rw [b2 _ _ (by omega), q37]; exact r37
      · show upd dv3 _ _ _ = _; rw [upd_eq, ha]
      · exact relD_keep hrel (fun r t z1 z2 z3 z4 => b2 r t (by omega)) (fun j z1 z2 => upd_ne (by omega)) (by omega) (Nat.le_refl _)
      · rw [b2 _ _ (by omega)]; exact q40
    · -- two premises
      have hm1 : m = 1 := by omega
      subst hm1
      have hr36 : r = 3 ∨ r = 6 := by
        have : ∀ r, r < 11 → 3 ≤ r → rPremL.getD r 0 = 2 → r = 3 ∨ r = 6 := by decide
        exact this r (by omega) (by omega) hP
      have hwy1 : wyOK ss1 Γ goal r f := by rw [ey1]; exact wyOK_app y1 h1 hfl h3.2 hwy
      refine k_B2 hK (r := r) (f := f) (cv := u + 1 + 1) ⟨by omega, by omega⟩ ⟨p4.2, hf3⟩ p6 p7 (by omega) p3 p8 p2 hr36 q34 q36 q37 hwy1 ⟨by omega, by omega⟩ ?_
      rintro c5 ⟨b1, b2, b3⟩ σ hch2
      have F5 : FrC fu d u goal Γ c2 c5 U1 ss1 := F4.own (fun r t z1 z2 => b3 r t (by omega) (by omega))
      obtain ⟨dv4, hdv4⟩ : ∃ z, z = upd dv3 (4 * (u + 1) + (1 + 1)) (nI a) := ⟨_, rfl⟩
      obtain ⟨a5, ss5, U5, dv5, hp5⟩ : ∃ a b c e, prm (look fu h) Γ r 2 f goal (ss1, U1, dv4) = (a, (b, c, e)) := ⟨_, _, _, _, rfl⟩
      obtain ⟨⟨⟨y5, ey5⟩, ok5, sU5, sF5⟩, kd5, -⟩ := prm_ok (k := 2) (look_ok hf3 h) (x := (ss1, U1, dv4)) ok1 p2 p3 sF1 hwy1
      rw [hp5] at ey5 ok5 sU5 sF5 kd5
      have ey5 : ss5 = ss1 ++ y5 := ey5
      have ok5 : ssOK ss5 := ok5
      have sU5 : U1 ≤ U5 := sU5
      have sF5 : U5 ≤ fu := sF5
      have kd5 : ∀ j, j < 4 * U1 + 4 → dv5 j = dv4 j := kd5
      have hfol2 : folW (look fu h) Γ goal (u + 1) (16 * f + r) (ss, u + 1, dv) = prms (look fu h) Γ r f goal (u + 1) 1 2 (ss1, U1, dv4) := by
        refine hfol.trans ?_
        rw [hm, prms_good hp hgood, hdv4]; rfl
      have badT5 : (a5 = 0 ∨ 3000 < a5) → a5 ≠ 0 → tryW (folW (look fu h) Γ goal (u + 1)) Γ 602 (16 * f + r) (ss, u + 1, dv) = (a5, (ss5, U5, dv5)) := fun q q2 => tryW_y (by omega) (hfol2.trans (prms_bad hp5 q)) q2
      refine prem_m IH (D := d + 1) (U := U1) (dv := dv4) (by omega) sF1 ok1 p2 p3 hwy1 (fun σ hrs => ?_) σ hch2
      rw [hp5] at hrs
      rcases hrs with ⟨ha5, c6, dp, cl4, rfl⟩ | ⟨ha5, c6, us, dp, cl4, rfl⟩ | ⟨ha5, c6, rfl, hk6⟩ | ⟨ha5, ha53, c6, rfl, hk6, hrel6⟩
      · have ha5 : a5 = 3001 := ha5
        rw [badT5 (by omega) (by omega)] at hres
        exact hres _ (Or.inl ⟨ha5, c6, dp, cl4, rfl⟩)
      · have ha5 : a5 = 3002 := ha5
        rw [badT5 (by omega) (by omega)] at hres
        exact hres _ (Or.inr (Or.inl ⟨ha5, c6, us, dp, cl4, rfl⟩))
      · have ha5 : a5 = 0 := ha5
        subst ha5
        have hk6 : kp (d + 1) U1 c5 c6 := hk6
        have F6 := F5.child hk6 ey5 ok5 sU5 sF5
        obtain ⟨w1, w2, w3, w4, w5, w6, w7, w8, w9⟩ := id F6
        have e1 : tryW (folW (look fu h) Γ goal (u + 1)) Γ 602 (16 * f + r) (ss, u + 1, dv) = (0, (ss5, U5, dv5)) := by
          refine (tryW_n (by omega) (hfol2.trans (prms_bad hp5 (Or.inl rfl)))).trans ?_
          rw [nxt_lo (by omega)]; exact tryW_0
        rw [e1] at hres
        refine k_B0 hK (r := r) (p := 2) ⟨by omega, by omega⟩ ⟨w4.2, hf3⟩ w6 w7 (by omega) w3 hr3 (Or.inr rfl) ?_ ?_ (hres _ (Or.inr (Or.inr (Or.inl ⟨rfl, c6, rfl, w5⟩))))
        · rw [hk6 _ _ (by omega) (by omega) (by omega)]; exact b2
        · rw [hk6 _ _ (by omega) (by omega) (by omega), b3 _ _ (by omega) (by omega)]; exact q36
      · have ha5 : a5 = U1 + 1 := ha5
        have ha53 : a5 ≤ 3000 := ha53
        have hk6 : kp (d + 1) U1 c5 c6 := hk6
        have hrel6 : relD c6 dv5 h U1 U5 (U1 + 1) := hrel6
        have hgood5 : ¬ (a5 = 0 ∨ 3000 < a5) := by omega
        have F6 := F5.child hk6 ey5 ok5 sU5 sF5
        obtain ⟨w1, w2, w3, w4, w5, w6, w7, w8, w9⟩ := id F6
        have e1 : tryW (folW (look fu h) Γ goal (u + 1)) Γ 602 (16 * f + r) (ss, u + 1, dv) = (u + 1, (ss5, U5, upd dv5 (4 * (u + 1) + (1 + 2)) (nI a5))) := by
          refine tryW_y (by omega) (hfol2.trans ?_) (by omega)
          rw [prms_good hp5 hgood5]; rfl
        rw [e1] at hres
        refine k_B1_2 hK (r := r) (cv := U1 + 1) ⟨by omega, by omega⟩ ⟨w4.2, hf3⟩ w6 w7 (by omega) w3 hr3 ?_ ?_ hP ⟨by omega, by omega⟩ ?_
        · rw [hk6 _ _ (by omega) (by omega) (by omega)]; exact b2
        · rw [hk6 _ _ (by omega) (by omega) (by omega), b3 _ _ (by omega) (by omega)]; exact q36
        rintro c7 ⟨z1, z2⟩
        refine hres _ (Or.inr (Or.inr (Or.inr ⟨rfl, by show u + 1 ≤ 3000; omega, c7, rfl, fun r t t1 t2 t3 => (z2 r t (by omega)).trans (w5 r t t1 t2 t3), ?_⟩)))
        refine ⟨⟨by omega, by show u + 1 ≤ U5; omega⟩, goal, r, f, ?_, ?_, ⟨by omega, by omega, by omega, by omega⟩, ⟨?_, ?_, ?_⟩, fun _ => ⟨u + 1 + 1, ?_, ?_, by omega, ?_⟩, fun _ => ⟨U1 + 1, ?_, z1, by omega, ?_⟩, fun z => by omega⟩
        · show upd dv5 _ _ _ = _; rw [upd_ne (by omega), kd5 _ (by omega), hdv4, upd_ne (by omega), kd1 _ (by omega)]; exact g0
        · show upd dv5 _ _ _ = _; rw [upd_ne (by omega), kd5 _ (by omega), hdv4, upd_ne (by omega), kd1 _ (by omega)]; exact g1
        · rw [z2 _ _ (by omega)]; exact w9
        · rw [z2 _ _ (by omega), hk6 _ _ (by omega) (by omega) (by omega), b3 _ _ (by omega) (by omega), q36, if_pos hr3.2]
        · rw [z2 _ _ (by omega), hk6 _ _ (by omega) (by omega) (by omega), b3 _ _ (by omega) (by omega), q37]; exact r37
        · show upd dv5 _ _ _ = _; rw [upd_ne (by omega), kd5 _ (by omega), hdv4, upd_eq, ha]
        · rw [z2 _ _ (by omega), hk6 _ _ (by omega) (by omega) (by omega)]; exact b1
        · refine relD_keep hrel (fun r t t1 t2 t3 t4 => ?_) (fun j t1 t2 => ?_) (by omega) sU5
          · rw [z2 _ _ (by omega), hk6 _ _ (by omega) (by omega) (by omega), b3 _ _ (by omega) (by omega)]
          · show upd dv5 _ _ _ = _; rw [upd_ne (by omega), kd5 _ (by omega), hdv4, upd_ne (by omega)]
        · show upd dv5 _ _ _ = _; rw [upd_eq, ha5]
        · exact relD_keep hrel6 (fun r t t1 t2 t3 t4 => z2 r t (by omega)) (fun j t1 t2 => upd_ne (by omega)) (by omega) (Nat.le_refl _)

def RQ (fuel h lo step goal : Nat) (x : SX) (p : Nat × SX) : Prop := SxE fuel x p.2 ∧ (∀ j, j < 4 * step + 1 → p.2.2.2 j = x.2.2 j) ∧ (p.1 = 0 ∨ p.1 = 3001 ∨ p.1 = 3002 ∨ (p.1 = step ∧ wfD p.2.1 p.2.2.2 (h + 1) lo p.2.2.1 step goal))
def CX (fuel step goal : Nat) (Γ : Nat → Bool) (x : SX) : Prop := ssOK x.1 ∧ (∀ y, Γ y = true → 1 ≤ y ∧ y ≤ x.1.length) ∧ (1 ≤ goal ∧ goal ≤ x.1.length) ∧ x.2.1 ≤ fuel ∧ step ≤ x.2.1 ∧ x.2.2 (4 * step + 0) = nI goal
theorem CX.next {fuel step goal : Nat} {Γ : Nat → Bool} {x x1 : SX} (h : CX fuel step goal Γ x) (e : SxE fuel x x1) (hd : x1.2.2 (4 * step + 0) = x.2.2 (4 * step + 0)) : CX fuel step goal Γ x1 := by
  obtain ⟨h1, h2, h3, h4, h5, h6⟩ := h
  have := e.len
  exact ⟨e.2.1, fun y q => by have := h2 y q; omega, by omega, e.2.2.2, Nat.le_trans h5 e.2.2.1, hd.trans h6⟩
theorem folW_ok {fuel h : Nat} {LK : (Nat → Bool) → Nat → SX → Nat × SX} (hLK : LKok fuel h LK) {Γ : Nat → Bool} {goal step lo r f : Nat} {x : SX} (hc : CX fuel step goal Γ x) (hf3 : fuel ≤ 3000) (hlo : lo < step) (hw : wyOK x.1 Γ goal r f) : RQ fuel h lo step goal x (folW LK Γ goal step (16 * f + r) x) := by
  obtain ⟨hS, hΓ, hg, hsp, hst, hdv⟩ := hc
  have hr := wy_r hw
  have hfl := wy_f hΓ hw
  have h6 := hS.1
  unfold folW
  rw [show (16 * f + r) % 16 = r by omega, show (16 * f + r) / 16 = f by omega]
  obtain ⟨x0, hx0⟩ : ∃ z, z = sPut x (4 * step + 1) (nI (16 * f + r)) := ⟨_, rfl⟩
  rw [← hx0]
  have e1 : x0.1 = x.1 := by rw [hx0]; rfl
  have e2 : x0.2.1 = x.2.1 := by rw [hx0]; rfl
  have d0 : ∀ j, j ≠ 4 * step + 1 → x0.2.2 j = x.2.2 j := fun j hj => by rw [hx0]; exact upd_ne hj
  have d1 : x0.2.2 (4 * step + 1) = nI (16 * f + r) := by rw [hx0]; exact upd_eq
  have E0 : SxE fuel x x0 := ⟨⟨[], by rw [e1]; simp⟩, by rw [e1]; exact hS, by omega, by omega⟩
  have hS0 : ssOK x0.1 := by rw [e1]; exact hS
  have hΓ0 : ∀ y, Γ y = true → 1 ≤ y ∧ y ≤ x0.1.length := by rw [e1]; exact hΓ
  have hg0 : 1 ≤ goal ∧ goal ≤ x0.1.length := by rw [e1]; exact hg
  have hw0 : wyOK x0.1 Γ goal r f := by rw [e1]; exact hw
  have hfl0 : f ≤ x0.1.length := by rw [e1]; exact hfl
  have hP3 : rPremL.getD r 0 = 0 ∨ rPremL.getD r 0 = 1 ∨ rPremL.getD r 0 = 2 := by
    have : ∀ r, r < 14 → rPremL.getD r 0 = 0 ∨ rPremL.getD r 0 = 1 ∨ rPremL.getD r 0 = 2 := by decide
    exact this r (by omega)
  rcases hP3 with hP | hP | hP
  · rw [hP]
    have hr12 : ¬ (r = 9 ∨ r = 10 ∨ r = 13) := by rintro (rfl | rfl | rfl) <;> exact absurd hP (by decide)
    refine ⟨E0, fun j hj => d0 j (by omega), Or.inr (Or.inr (Or.inr ⟨rfl, ?_⟩))⟩
    show wfD x0.1 x0.2.2 (h + 1) lo x0.2.1 step goal
    exact ⟨⟨hlo, by omega⟩, hg0, r, f, 0, 0, by rw [d0 _ (by omega)]; exact hdv, d1, by omega, side_mk hΓ0 hw0 ⟨fun c => absurd (Or.inl c) hr12, fun c => absurd (Or.inr (Or.inl c)) hr12, fun c => absurd (Or.inr (Or.inr c.1)) hr12⟩, fun c => by rw [hP] at c; omega, fun c => by rw [hP] at c; omega⟩
  · rw [hP, prms]
    obtain ⟨E1, k1, v1⟩ := prm_ok (k := 1) hLK hS0 hΓ0 hg0 (by omega) hw0
    obtain ⟨p, hp⟩ : ∃ p, p = prm LK Γ r 1 f goal x0 := ⟨_, rfl⟩
    rw [← hp] at E1 k1 v1 ⊢
    by_cases c : p.1 = 0 ∨ 3000 < p.1
    · rw [if_pos c]
      refine ⟨E0.tr E1, fun j hj => (k1 j (by omega)).trans (d0 j (by omega)), ?_⟩
      rcases v1 with v | v | v | ⟨v, v2, -⟩
      · exact Or.inl v
      · exact Or.inr (Or.inl v)
      · exact Or.inr (Or.inr (Or.inl v))
      · have := v2.in; have := E1.2.2.2; omega
    · rw [if_neg c, prms]
      have v1 : p.1 = x0.2.1 + 1 ∧ wfD p.2.1 p.2.2.2 h x0.2.1 p.2.2.1 p.1 (pG x0.1 r 1 f goal) ∧ rowsB p.2.1 r 1 f := by
        rcases v1 with v | v | v | v
        · omega
        · omega
        · omega
        · exact v
      obtain ⟨v1, v2, v3⟩ := v1
      obtain ⟨⟨y1, ey⟩, ok1, sp1, sp2⟩ := id E1
      have hΓ1 : ∀ y, Γ y = true → 1 ≤ y ∧ y ≤ p.2.1.length := fun y q => by have := hΓ0 y q; have := E1.len; omega
      have hw1 : wyOK p.2.1 Γ goal r f := by rw [ey]; exact wyOK_app y1 hS0 hfl0 hg0.2 hw0
      have hpG : pG p.2.1 r 1 f goal = pG x0.1 r 1 f goal := by rw [ey]; exact pG_app y1 hg0.2 (fun _ => hfl0)
      have hn : p.1 < 2 ^ 31 := by omega
      refine ⟨SxE.tr (E0.tr E1) ⟨⟨[], by simp [sPut]⟩, ok1, Nat.le_refl _, sp2⟩, fun j hj => (upd_ne (by omega)).trans ((k1 j (by omega)).trans (d0 j (by omega))), Or.inr (Or.inr (Or.inr ⟨rfl, ?_⟩))⟩
      show wfD p.2.1 (upd p.2.2.2 (4 * step + (1 + 1)) (nI p.1)) (h + 1) lo p.2.2.1 step goal
      refine ⟨⟨hlo, by omega⟩, by have := E1.len; omega, r, f, p.1, 0, ?_, ?_, by omega, side_mk hΓ1 hw1 v3, fun _ => ⟨upd_eq, ?_⟩, fun c => by rw [hP] at c; omega⟩
      · rw [upd_ne (by omega), k1 _ (by omega), d0 _ (by omega)]; exact hdv
      · rw [upd_ne (by omega), k1 _ (by omega)]; exact d1
      · rw [hpG]
        exact wfD_keep v2 (fun j a b => upd_ne (by omega)) (by omega) (Nat.le_refl _)
  · rw [hP, prms]
    obtain ⟨E1, k1, v1⟩ := prm_ok (k := 1) hLK hS0 hΓ0 hg0 (by omega) hw0
    obtain ⟨p, hp⟩ : ∃ p, p = prm LK Γ r 1 f goal x0 := ⟨_, rfl⟩
    rw [← hp] at E1 k1 v1 ⊢
    by_cases c : p.1 = 0 ∨ 3000 < p.1
    · rw [if_pos c]
      refine ⟨E0.tr E1, fun j hj => (k1 j (by omega)).trans (d0 j (by omega)), ?_⟩
      rcases v1 with v | v | v | ⟨v, v2, -⟩
      · exact Or.inl v
      · exact Or.inr (Or.inl v)
      · exact Or.inr (Or.inr (Or.inl v))
      · have := v2.in; have := E1.2.2.2; omega
    · rw [if_neg c, prms]
      have v1 : p.1 = x0.2.1 + 1 ∧ wfD p.2.1 p.2.2.2 h x0.2.1 p.2.2.1 p.1 (pG x0.1 r 1 f goal) ∧ rowsB p.2.1 r 1 f := by
        rcases v1 with v | v | v | v
        · omega
        · omega
        · omega
        · exact v
      obtain ⟨v1, v2, v3⟩ := v1
      obtain ⟨⟨y1, ey⟩, ok1, sp1, sp2⟩ := id E1
      have hl1 := E1.len
      have hΓ1 : ∀ y, Γ y = true → 1 ≤ y ∧ y ≤ p.2.1.length := fun y q => by have := hΓ0 y q; omega
      have hw1 : wyOK p.2.1 Γ goal r f := by rw [ey]; exact wyOK_app y1 hS0 hfl0 hg0.2 hw0
      have hpG1 : pG p.2.1 r 1 f goal = pG x0.1 r 1 f goal := by rw [ey]; exact pG_app y1 hg0.2 (fun _ => hfl0)
      have hg1 : 1 ≤ goal ∧ goal ≤ p.2.1.length := by omega
      obtain ⟨x1, hx1⟩ : ∃ z, z = sPut p.2 (4 * step + (1 + 1)) (nI p.1) := ⟨_, rfl⟩
      rw [← hx1]
      have f1 : x1.1 = p.2.1 := by rw [hx1]; rfl
      have f2 : x1.2.1 = p.2.2.1 := by rw [hx1]; rfl
      have g0 : ∀ j, j ≠ 4 * step + (1 + 1) → x1.2.2 j = p.2.2.2 j := fun j hj => by rw [hx1]; exact upd_ne hj
      have g1 : x1.2.2 (4 * step + (1 + 1)) = nI p.1 := by rw [hx1]; exact upd_eq
      have E2 : SxE fuel p.2 x1 := ⟨⟨[], by rw [f1]; simp⟩, by rw [f1]; exact ok1, by omega, by omega⟩
      obtain ⟨E3, k3, v4⟩ := prm_ok (k := 2) hLK (x := x1) (by rw [f1]; exact ok1) (by rw [f1]; exact hΓ1) (by rw [f1]; exact hg1) (by omega) (by rw [f1]; exact hw1)
      obtain ⟨q, hq⟩ : ∃ q, q = prm LK Γ r (1 + 1) f goal x1 := ⟨_, rfl⟩
      rw [show prm LK Γ r 2 f goal x1 = prm LK Γ r (1 + 1) f goal x1 from rfl] at E3 k3 v4
      rw [← hq] at E3 k3 v4 ⊢
      have E123 := (E0.tr E1).tr (E2.tr E3)
      have hkp : ∀ j, j < 4 * step + 2 → q.2.2.2 j = x0.2.2 j := fun j hj => by rw [k3 j (by omega), g0 j (by omega), k1 j (by omega)]
      by_cases c2 : q.1 = 0 ∨ 3000 < q.1
      · rw [if_pos c2]
        refine ⟨E123, fun j hj => (hkp j (by omega)).trans (d0 j (by omega)), ?_⟩
        rcases v4 with v | v | v | ⟨v, w, -⟩
        · exact Or.inl v
        · exact Or.inr (Or.inl v)
        · exact Or.inr (Or.inr (Or.inl v))
        · have := w.in; have := E3.2.2.2; omega
      · rw [if_neg c2, prms]
        have v4 : q.1 = x1.2.1 + 1 ∧ wfD q.2.1 q.2.2.2 h x1.2.1 q.2.2.1 q.1 (pG x1.1 r 2 f goal) := by
          rcases v4 with v | v | v | v
          · omega
          · omega
          · omega
          · exact ⟨v.1, v.2.1⟩
        obtain ⟨v4, v5⟩ := v4
        obtain ⟨⟨y3, ez⟩, ok3, sp3, sp4⟩ := id E3
        rw [f1] at ez
        have hl3 := E3.len
        rw [f1] at hl3
        have hfl1 : f ≤ p.2.1.length := by omega
        have hΓ3 : ∀ y, Γ y = true → 1 ≤ y ∧ y ≤ q.2.1.length := fun y q => by have := hΓ1 y q; omega
        have hw3 : wyOK q.2.1 Γ goal r f := by rw [ez]; exact wyOK_app y3 ok1 hfl1 hg1.2 hw1
        have hpG3 : ∀ k, pG q.2.1 r k f goal = pG p.2.1 r k f goal := fun k => by rw [ez]; exact pG_app y3 hg1.2 (fun _ => hfl1)
        refine ⟨SxE.tr E123 ⟨⟨[], by simp [sPut]⟩, ok3, Nat.le_refl _, sp4⟩, fun j hj => (upd_ne (by omega)).trans ((hkp j (by omega)).trans (d0 j (by omega))), Or.inr (Or.inr (Or.inr ⟨rfl, ?_⟩))⟩
        show wfD q.2.1 (upd q.2.2.2 (4 * step + (1 + (1 + 1))) (nI q.1)) (h + 1) lo q.2.2.1 step goal
        refine ⟨⟨hlo, by omega⟩, by omega, r, f, p.1, q.1, ?_, ?_, by omega, side_mk hΓ3 hw3 ?_, fun _ => ⟨?_, ?_⟩, fun _ => ⟨?_, ?_⟩⟩
        · rw [upd_ne (by omega), hkp _ (by omega), d0 _ (by omega)]; exact hdv
        · rw [upd_ne (by omega), hkp _ (by omega)]; exact d1
        · rw [ez]; exact rowsB_app y3 ok1 hfl1 (fun z => by unfold wyOK at hw1; omega) v3
        · rw [upd_ne (by omega), k3 _ (by omega)]; exact g1
        · rw [hpG3, hpG1, ez]
          refine wfD_keep (wfD_app y3 ok1 v2) (fun j a b => ?_) (by omega) (by omega)
          rw [upd_ne (by omega), k3 _ (by omega), g0 _ (by omega)]
        · exact upd_eq
        · rw [hpG3, ← f1]
          exact wfD_keep v5 (fun j a b => upd_ne (by omega)) (by omega) (Nat.le_refl _)
theorem tryW_ok {fuel h lo step goal : Nat} {Γ : Nat → Bool} {FW : Nat → SX → Nat × SX} (hFW : ∀ x r f, CX fuel step goal Γ x → wyOK x.1 Γ goal r f → RQ fuel h lo step goal x (FW (16 * f + r) x)) : ∀ (t w : Nat) (x : SX), CX fuel step goal Γ x → wayI x.1 Γ goal w → RQ fuel h lo step goal x (tryW FW Γ t w x)
  | 0, _, x, hc, _ => ⟨⟨⟨[], by simp [tryW]⟩, hc.1, Nat.le_refl _, hc.2.2.2.1⟩, fun _ _ => rfl, Or.inl rfl⟩
  | t + 1, w, x, hc, hw => by
    rw [tryW]
    by_cases c : w = 0
    · rw [if_pos c]
      exact ⟨⟨⟨[], by simp⟩, hc.1, Nat.le_refl _, hc.2.2.2.1⟩, fun _ _ => rfl, Or.inl rfl⟩
    rw [if_neg c]
    obtain ⟨r, f, ew, hf, hy⟩ : ∃ r f, w = 16 * f + r ∧ f ≤ x.1.length ∧ wyOK x.1 Γ goal r f := hw.resolve_left c
    have hq := hFW x r f hc hy
    rw [← ew] at hq
    by_cases c2 : (FW w x).1 ≠ 0
    · rw [if_pos c2]; exact hq
    rw [if_neg c2]
    have hc1 := hc.next hq.1 (hq.2.1 _ (by omega))
    have h6 := hc.1.1
    obtain ⟨⟨y1, e1⟩, -⟩ := id hq.1
    have hn := nxtW_ok (ss := x.1) (ss1 := (FW w x).2.1) hc1.1 ew (by omega) hy (by rw [e1]; exact (st_app hc.2.2.1.2).1)
    obtain ⟨a1, a2, a3⟩ := tryW_ok hFW t _ _ hc1 hn
    exact ⟨hq.1.tr a1, fun j hj => (a2 j hj).trans (hq.2.1 j hj), a3⟩
theorem look_ok {fuel : Nat} (hf3 : fuel ≤ 3000) : ∀ h, LKok fuel h (look fuel h)
  | 0 => fun Γ goal x hS _ _ hsp => ⟨⟨⟨[], by simp [look]⟩, hS, Nat.le_refl _, hsp⟩, fun _ _ => rfl, Or.inr (Or.inr (Or.inl rfl))⟩
  | h + 1 => by
    intro Γ goal x hS hΓ hg hsp
    rw [look]
    by_cases c : fuel ≤ x.2.1
    · rw [if_pos c]
      exact ⟨⟨⟨[], by simp⟩, hS, Nat.le_refl _, hsp⟩, fun _ _ => rfl, Or.inr (Or.inr (Or.inl rfl))⟩
    rw [if_neg c]
    have hc : CX fuel (x.2.1 + 1) goal Γ (x.1, x.2.1 + 1, upd x.2.2 (4 * (x.2.1 + 1) + 0) (nI goal)) := ⟨hS, hΓ, hg, by show x.2.1 + 1 ≤ fuel; omega, Nat.le_refl _, upd_eq⟩
    obtain ⟨a1, a2, a3⟩ := tryW_ok (h := h) (lo := x.2.1) (fun x1 r f hc1 hy => folW_ok (look_ok hf3 h) hc1 hf3 (by omega) hy) 602 _ _ hc (fstW_ok hS Γ goal)
    obtain ⟨b1, b2, b3, b4⟩ := id a1
    refine ⟨⟨b1, b2, by have : x.2.1 + 1 ≤ _ := b3; omega, b4⟩, fun j hj => (a2 j (by omega)).trans (upd_ne (by omega)), ?_⟩
    rcases a3 with q | q | q | ⟨q1, q2⟩
    · exact Or.inl q
    · exact Or.inr (Or.inl q)
    · exact Or.inr (Or.inr (Or.inl q))
    · exact Or.inr (Or.inr (Or.inr ⟨q1, by rw [q1]; exact q2⟩))

theorem anI_le {fuel h goal : Nat} {x : SX} {p : Nat × SX} (hf : fuel ≤ 3000) (h1 : LKq fuel h goal x p) : p.1 ≤ 3002 := by
  obtain ⟨a, -, c⟩ := h1
  rcases c with c | c | c | ⟨c, w⟩
  · omega
  · omega
  · omega
  · have := w.in; have := a.2.2.2; omega
theorem anI_nI {a : Nat} (h : ¬ (a = 0 ∨ 3000 < a)) : anI a = nI a := by
  unfold anI
  rw [if_neg (by omega), if_neg (by omega), if_neg (by omega)]
theorem anI_good {a : Nat} (h : 0 ≤ anI a) (hl : a ≤ 3002) : ¬ (a = 0 ∨ 3000 < a) := by
  intro q
  have : a = 0 ∨ a = 3001 ∨ a = 3002 := by omega
  rcases this with rfl | rfl | rfl <;> exact absurd h (by decide)
theorem anI_bad {a : Nat} (h : ¬ 0 ≤ anI a) : a = 0 ∨ 3000 < a := by
  by_cases c : a = 0 ∨ 3000 < a
  · exact c
  · rw [anI_nI c] at h
    exact absurd (nI_pos' (by omega)) h
theorem anI_no {a : Nat} (h : anI a = (-2)) (hl : a ≤ 3002) : a = 0 := by
  by_cases c : a = 0 ∨ 3000 < a
  · have : a = 0 ∨ a = 3001 ∨ a = 3002 := by omega
    rcases this with rfl | rfl | rfl
    · rfl
    · exact absurd h (by decide)
    · exact absurd h (by decide)
  · rw [anI_nI c] at h
    have := congrArg Int32.toInt h
    rw [nI_toInt (by omega)] at this
    have e : (-2 : Int32).toInt = -2 := rfl
    omega
theorem anI_nn {a : Nat} (h : ¬ anI a = (-2)) : a ≠ 0 := fun q => h (by rw [q]; rfl)
theorem prm_none {LK : (Nat → Bool) → Nat → SX → Nat × SX} {Γ : Nat → Bool} {r k f goal : Nat} {x : SX} {ss1 : List Row} (h : brg x.1 r k f = (none, ss1)) : prm LK Γ r k f goal x = (3001, (ss1, x.2)) := by
  unfold prm; rw [h]
theorem prm_some {LK : (Nat → Bool) → Nat → SX → Nat × SX} {Γ : Nat → Bool} {r k f goal : Nat} {x : SX} {ss1 : List Row} {q : Nat × Nat} (h : brg x.1 r k f = (some q, ss1)) : prm LK Γ r k f goal x = LK (gPar ss1 r k (if r = 4 then goal else f) (gAdd (gAdd (gDel Γ f) q.1) q.2)) (pG ss1 r k f goal) (ss1, x.2) := by
  unfold prm; rw [h]
theorem prms_bad {LK : (Nat → Bool) → Nat → SX → Nat × SX} {Γ : Nat → Bool} {r k f goal step m a : Nat} {x x1 : SX} (h : prm LK Γ r k f goal x = (a, x1)) (hb : a = 0 ∨ 3000 < a) : prms LK Γ r f goal step (m + 1) k x = (a, x1) := by
  rw [prms, h, if_pos hb]
theorem prms_good {LK : (Nat → Bool) → Nat → SX → Nat × SX} {Γ : Nat → Bool} {r k f goal step m a : Nat} {x x1 : SX} (h : prm LK Γ r k f goal x = (a, x1)) (hb : ¬ (a = 0 ∨ 3000 < a)) : prms LK Γ r f goal step (m + 1) k x = prms LK Γ r f goal step m (k + 1) (sPut x1 (4 * step + (1 + k)) (nI a)) := by
  rw [prms, h, if_neg hb]
theorem prm_mid {fuel h : Nat} {LK : (Nat → Bool) → Nat → SX → Nat × SX} (hLK : LKok fuel h LK) {Γ : Nat → Bool} {goal r f k : Nat} {x : SX} {o : Option (Nat × Nat)} {ss1 : List Row} (hS : ssOK x.1) (hΓ : ∀ y, Γ y = true → 1 ≤ y ∧ y ≤ x.1.length) (hg : 1 ≤ goal ∧ goal ≤ x.1.length) (hsp : x.2.1 ≤ fuel) (hw : wyOK x.1 Γ goal r f) (hB : brg x.1 r k f = (o, ss1)) : SxE fuel (ss1, x.2) (prm LK Γ r k f goal x).2 := by
  have hfl := wy_f hΓ hw
  obtain ⟨⟨y1, e1⟩, ok1, v1⟩ := brg_ok hS hΓ hw hB
  cases o with
  | none => rw [prm_none hB]; exact ⟨⟨[], by simp⟩, ok1, Nat.le_refl _, hsp⟩
  | some q =>
    obtain ⟨h1, h2, h3⟩ := v1 q rfl
    have hlen : x.1.length ≤ ss1.length := by rw [e1]; simp
    have hw1 : wyOK ss1 Γ goal r f := by rw [e1]; exact wyOK_app y1 hS hfl hg.2 hw
    have hΓ1 : ∀ y, Γ y = true → 1 ≤ y ∧ y ≤ ss1.length := fun y q => by have := hΓ y q; omega
    rw [prm_some hB]
    exact (hLK _ _ (ss1, x.2) ok1 (gPar_b ok1 hΓ1 hw1 h1 h2) (pG_b ok1 hΓ1 (by omega) hw1) hsp).1
theorem prms_sx {fuel h : Nat} {LK : (Nat → Bool) → Nat → SX → Nat × SX} (hLK : LKok fuel h LK) {Γ : Nat → Bool} {goal r f step : Nat} : ∀ (m k : Nat) (x : SX), CX fuel step goal Γ x → wyOK x.1 Γ goal r f → 1 ≤ k → SxE fuel x (prms LK Γ r f goal step m k x).2
  | 0, _, x, hc, _, _ => ⟨⟨[], by simp [prms]⟩, hc.1, Nat.le_refl _, hc.2.2.2.1⟩
  | m + 1, k, x, hc, hw, hk => by
    obtain ⟨E1, k1, -⟩ := prm_ok (k := k) hLK hc.1 hc.2.1 hc.2.2.1 hc.2.2.2.1 hw
    obtain ⟨a, x1, hp⟩ : ∃ a x1, prm LK Γ r k f goal x = (a, x1) := ⟨_, _, rfl⟩
    rw [hp] at E1 k1
    have hst := hc.2.2.2.2.1
    by_cases c : a = 0 ∨ 3000 < a
    · rw [prms_bad hp c]; exact E1
    · rw [prms_good hp c]
      obtain ⟨⟨y1, e1⟩, -⟩ := id E1
      have E2 : SxE fuel x (sPut x1 (4 * step + (1 + k)) (nI a)) := E1.tr ⟨⟨[], by simp [sPut]⟩, E1.2.1, Nat.le_refl _, E1.2.2.2⟩
      exact E2.tr (prms_sx hLK m (k + 1) _ (hc.next E2 ((upd_ne (by omega)).trans (k1 _ (by omega)))) (by show wyOK x1.1 Γ goal r f; rw [show x1.1 = x.1 ++ y1 from e1]; exact wyOK_app y1 hc.1 (wy_f hc.2.1 hw) hc.2.2.1.2 hw) (by omega))
theorem prms_sx1 {fuel h : Nat} {LK : (Nat → Bool) → Nat → SX → Nat × SX} (hLK : LKok fuel h LK) {Γ : Nat → Bool} {goal r f step m k : Nat} {x : SX} (hc : CX fuel step goal Γ x) (hw : wyOK x.1 Γ goal r f) (hk : 1 ≤ k) : SxE fuel (prm LK Γ r k f goal x).2 (prms LK Γ r f goal step (m + 1) k x).2 := by
  obtain ⟨E1, k1, -⟩ := prm_ok (k := k) hLK hc.1 hc.2.1 hc.2.2.1 hc.2.2.2.1 hw
  obtain ⟨a, x1, hp⟩ : ∃ a x1, prm LK Γ r k f goal x = (a, x1) := ⟨_, _, rfl⟩
  have hst := hc.2.2.2.2.1
  rw [hp] at E1 k1 ⊢
  by_cases c : a = 0 ∨ 3000 < a
  · rw [prms_bad hp c]; exact ⟨⟨[], by simp⟩, E1.2.1, Nat.le_refl _, E1.2.2.2⟩
  · rw [prms_good hp c]
    obtain ⟨⟨y1, e1⟩, -⟩ := id E1
    have E3 : SxE fuel x1 (sPut x1 (4 * step + (1 + k)) (nI a)) := ⟨⟨[], by simp [sPut]⟩, E1.2.1, Nat.le_refl _, E1.2.2.2⟩
    exact E3.tr (prms_sx hLK m (k + 1) _ (hc.next (E1.tr E3) ((upd_ne (by omega)).trans (k1 _ (by omega)))) (by show wyOK x1.1 Γ goal r f; rw [show x1.1 = x.1 ++ y1 from e1]; exact wyOK_app y1 hc.1 (wy_f hc.2.1 hw) hc.2.2.1.2 hw) (by omega))
theorem xC_mono {hw : Nat} {x x1 : SX} {fuel : Nat} (h : SxE fuel x x1) : xC (max hw x.2.1) x.1 ≤ xC (max hw x1.2.1) x1.1 ∧ xS (max hw x.2.1) x.1 ≤ xS (max hw x1.2.1) x1.1 := by
  have h1 := kC_mono h.len
  have h2 := kS_mono h.len
  have h3 := dP_mono (a := max hw x.2.1) (b := max hw x1.2.1) (by have := h.2.2.1; omega)
  unfold xC xS
  omega
theorem bC_x {ss ss1 : List Row} (H : Nat) (h : ss.length ≤ ss1.length) : bC ss ss1 + xC H ss = xC H ss1 ∧ bS ss ss1 + xS H ss = xS H ss1 := by
  have := bC_eq h
  unfold xC xS
  omega
def lkPost (G : rG) (n hw fuel d : Nat) (S : Nat → Nat → Bool) (ad : Nat → Nat) (en : Nat → va_E) (P : Nat × SX) : Int32 → (Nat → Nat) → (Nat → va_E) → Prop := fun rz ad1 en1 =>
  rz = anI P.1 ∧ (∃ S1, SchW G n ad1 en1 P.2.1 (max hw P.2.2.1) P.2.2.2 S1 fuel P.2.2.1 ∧ ∀ e, e ≤ d → ∀ y, S1 e y = S e y) ∧ Fr n scS scA ad en ad1 en1
theorem lkPost.of {G : rG} {n hw fuel d a : Nat} {S S1 : Nat → Nat → Bool} {ad ad1 : Nat → Nat} {en en1 : Nat → va_E} {P : Nat × SX} {ss1 : List Row} {sp1 : Nat} {dv1 : Nat → Int32} {rz : Int32} (hE : P = (a, (ss1, sp1, dv1))) (hr : rz = anI a) (hW : SchW G n ad1 en1 ss1 (max hw sp1) dv1 S1 fuel sp1) (hS : ∀ e, e ≤ d → ∀ y, S1 e y = S e y) (hF : Fr n scS scA ad en ad1 en1) : lkPost G n hw fuel d S ad en P rz ad1 en1 := by
  subst hE
  exact ⟨hr, ⟨S1, hW, hS⟩, hF⟩
theorem sCpy_ne {S : Nat → Nat → Bool} {a b e y : Nat} (h : e ≠ b) : sCpy S a b e y = S e y := if_neg h
theorem sCpy_to (S : Nat → Nat → Bool) (a b : Nat) : sCpy S a b b = S a := by funext y; exact if_pos rfl
theorem tryW_0 {FW : Nat → SX → Nat × SX} {Γ : Nat → Bool} {t : Nat} {x : SX} : tryW FW Γ t 0 x = (0, x) := by
  cases t with
  | zero => rfl
  | succ t => rw [tryW, if_pos rfl]
theorem tryW_y {FW : Nat → SX → Nat × SX} {Γ : Nat → Bool} {t w a : Nat} {x x1 : SX} (hw : w ≠ 0) (h : FW w x = (a, x1)) (ha : a ≠ 0) : tryW FW Γ (t + 1) w x = (a, x1) := by
  rw [tryW, if_neg hw, h, if_pos ha]
theorem tryW_n {FW : Nat → SX → Nat × SX} {Γ : Nat → Bool} {t w : Nat} {x x1 : SX} (hw : w ≠ 0) (h : FW w x = (0, x1)) : tryW FW Γ (t + 1) w x = tryW FW Γ t (nxtW x1.1 Γ w) x1 := by
  rw [tryW, if_neg hw, h, if_neg (fun q => q rfl)]
theorem tryW_sx {fuel h lo step goal : Nat} {Γ : Nat → Bool} {FW : Nat → SX → Nat × SX} (hFW : ∀ x r f, CX fuel step goal Γ x → wyOK x.1 Γ goal r f → RQ fuel h lo step goal x (FW (16 * f + r) x)) {t r f : Nat} {x : SX} (hc : CX fuel step goal Γ x) (hy : wyOK x.1 Γ goal r f) : SxE fuel (FW (16 * f + r) x).2 (tryW FW Γ (t + 1) (16 * f + r) x).2 := by
  have hq := hFW x r f hc hy
  have hr := wy_r hy
  have h6 := hc.1.1
  have hfl := wy_f hc.2.1 hy
  obtain ⟨a, x1, hp⟩ : ∃ a x1, FW (16 * f + r) x = (a, x1) := ⟨_, _, rfl⟩
  rw [hp] at hq ⊢
  by_cases c : a = 0
  · subst c
    rw [tryW_n (by omega) hp]
    have hc1 := hc.next hq.1 (hq.2.1 _ (by omega))
    obtain ⟨⟨y1, e1⟩, -⟩ := id hq.1
    exact (tryW_ok hFW t _ _ hc1 (nxtW_ok (ss := x.1) hc1.1 rfl (by omega) hy (by rw [show x1.1 = x.1 ++ y1 from e1]; exact (st_app hc.2.2.1.2).1))).1
  · rw [tryW_y (by omega) hp c]
    exact ⟨⟨[], by simp⟩, hq.1.2.1, Nat.le_refl _, hq.1.2.2.2⟩
theorem par_b {ss : List Row} {Γ : Nat → Bool} {goal r f k : Nat} (h : ssOK ss) (hw : wyOK ss Γ goal r f) : (gLf r k = true → sL ss (if r = 4 then goal else f) ≤ 600) ∧ (gRf r k = true → sR ss (if r = 4 then goal else f) ≤ 600) := by
  have h6 := h.1
  refine ⟨fun q => ?_, fun q => ?_⟩
  · have q := of_decide_eq_true q
    by_cases c : r = 4
    · rw [if_pos c]; exact Nat.le_trans (sL_le h (by unfold wyOK at hw; omega)) h6
    · rw [if_neg c]; exact Nat.le_trans (sL_le h (by unfold wyOK at hw; omega)) h6
  · have q := of_decide_eq_true q
    by_cases c : r = 4
    · omega
    · rw [if_neg c]; exact Nat.le_trans (sR_le2 h (by unfold wyOK at hw; omega)) h6
theorem look_first {fuel h goal : Nat} {Γ : Nat → Bool} {ss : List Row} {sp hw : Nat} {dv : Nat → Int32} (hf3 : fuel ≤ 3000) (hlt : sp < fuel) (hS : ssOK ss) (hΓ : ∀ y, Γ y = true → 1 ≤ y ∧ y ≤ ss.length) (hg : 1 ≤ goal ∧ goal ≤ ss.length) : xC (max hw (sp + 1)) ss ≤ xC (max hw (look fuel (h + 1) Γ goal (ss, sp, dv)).2.2.1) (look fuel (h + 1) Γ goal (ss, sp, dv)).2.1 ∧ xS (max hw (sp + 1)) ss ≤ xS (max hw (look fuel (h + 1) Γ goal (ss, sp, dv)).2.2.1) (look fuel (h + 1) Γ goal (ss, sp, dv)).2.1 := by
  have hc : CX fuel (sp + 1) goal Γ (ss, sp + 1, upd dv (4 * (sp + 1) + 0) (nI goal)) := ⟨hS, hΓ, hg, by show sp + 1 ≤ fuel; omega, Nat.le_refl _, upd_eq⟩
  have q := (tryW_ok (h := h) (lo := sp) (fun x1 r f hc1 hy => folW_ok (look_ok hf3 h) hc1 hf3 (by omega) hy) 602 _ _ hc (fstW_ok hS Γ goal)).1
  have e : look fuel (h + 1) Γ goal (ss, sp, dv) = tryW (folW (look fuel h) Γ goal (sp + 1)) Γ 602 (fstW ss Γ goal) (ss, sp + 1, upd dv (4 * (sp + 1) + 0) (nI goal)) := by rw [look, if_neg (by show ¬ fuel ≤ sp; omega)]
  rw [e]
  exact xC_mono (hw := hw) q
theorem anI_out {a : Nat} (h : anI a = (-4)) (hl : a ≤ 3002 := by omega) : a = 3002 := by
  by_cases c : a = 0 ∨ 3000 < a
  · have : a = 0 ∨ a = 3001 ∨ a = 3002 := by omega
    rcases this with rfl | rfl | rfl
    · exact absurd h (by decide)
    · exact absurd h (by decide)
    · rfl
  · rw [anI_nI c] at h
    have := congrArg Int32.toInt h
    rw [nI_toInt (by omega)] at this
    have e : (-4 : Int32).toInt = -4 := rfl
    omega
theorem anI_nout {a : Nat} (h : ¬ anI a = (-4)) : ¬ a = 3002 := fun q => h (by rw [q]; rfl)
def LookC (l : Launch) (G : rG) (h : Nat) : Prop := ∀ {n : Nat} {ad : Nat → Nat} {en : Nat → va_E} {ss : List Row} {hw : Nat} {dv : Nat → Int32} {S : Nat → Nat → Bool} {fuel sp : Nat} (hW : SchW G n ad en ss hw dv S fuel sp) {d goal : Nat} (hdh : d + h = 81) (hsp : sp ≤ hw) (hfu : sp ≤ fuel ∧ fuel ≤ 3000) (hg : 1 ≤ goal ∧ goal ≤ ss.length) (hΓ : ∀ y, S d y = true → 1 ≤ y ∧ y ≤ ss.length), CI l G yX4_look uX4_look (2 * h + 7) (55 * h + 266) (lC hw ss (look fuel h (S d) goal (ss, sp, dv)).2) (lS hw ss (look fuel h (S d) goal (ss, sp, dv)).2) [.ref (ad 18), .int (nI goal), .int (nI d)] n n ad en (lkPost G n hw fuel d S ad en (look fuel h (S d) goal (ss, sp, dv)))

def anI (a : Nat) : Int32 := if a = 0 then (-2) else if a = 3001 then (-3) else if a = 3002 then (-4) else nI a
def dPC : Nat → Nat
  | 0 => 0
  | k + 1 => dPC k + (if 4 * (k + 1) < dCap k then 0 else 1)
def dPS : Nat → Nat
  | 0 => 0
  | k + 1 => dPS k + (if 4 * (k + 1) < dCap k then 0 else 2 * dCap k)
theorem dP_s {hw s : Nat} (h : s ≤ hw + 1) : dPC (max hw s) = dPC hw + dMC hw s ∧ dPS (max hw s) = dPS hw + dMS hw s := by
  by_cases c : s ≤ hw
  · rw [Nat.max_eq_left c, dMC_0 c, dMS_0 c]; exact ⟨rfl, rfl⟩
  · have e : s = hw + 1 := by omega
    subst e
    rw [Nat.max_eq_right (by omega), dPC, dPS, dMC, dMS]
    by_cases q : 4 * (hw + 1) < dCap hw
    · rw [if_pos q, if_pos q, if_pos (Or.inr q), if_pos (Or.inr q)]; exact ⟨rfl, rfl⟩
    · rw [if_neg q, if_neg q, if_neg (by omega), if_neg (by omega)]; exact ⟨rfl, rfl⟩
theorem dP_mono {a b : Nat} (h : a ≤ b) : dPC a ≤ dPC b ∧ dPS a ≤ dPS b := by
  induction h with
  | refl => exact ⟨Nat.le_refl _, Nat.le_refl _⟩
  | step _ ih => exact ⟨Nat.le_trans ih.1 (by rw [dPC]; exact Nat.le_add_right _ _), Nat.le_trans ih.2 (by rw [dPS]; exact Nat.le_add_right _ _)⟩
def xC (hw : Nat) (ss : List Row) : Nat := kC ss.length + dPC hw
def xS (hw : Nat) (ss : List Row) : Nat := kS ss.length + dPS hw
def lC (hw : Nat) (ss : List Row) (x1 : SX) : Nat := xC (max hw x1.2.1) x1.1 - xC hw ss
def lS (hw : Nat) (ss : List Row) (x1 : SX) : Nat := xS (max hw x1.2.1) x1.1 - xS hw ss
theorem lC_eq {hw : Nat} {ss : List Row} {x1 : SX} (h : ss.length ≤ x1.1.length) : lC hw ss x1 + xC hw ss = xC (max hw x1.2.1) x1.1 ∧ lS hw ss x1 + xS hw ss = xS (max hw x1.2.1) x1.1 := by
  have h1 := kC_mono h
  have h2 := kS_mono h
  have h3 := dP_mono (Nat.le_max_left hw x1.2.1)
  unfold lC lS xC xS
  omega
def bC (ss ss1 : List Row) : Nat := kC ss1.length - kC ss.length
def bS (ss ss1 : List Row) : Nat := kS ss1.length - kS ss.length
theorem bC_eq {ss ss1 : List Row} (h : ss.length ≤ ss1.length) : bC ss ss1 + kC ss.length = kC ss1.length ∧ bS ss ss1 + kS ss.length = kS ss1.length := by
  have h1 := kC_mono h
  have h2 := kS_mono h
  unfold bC bS
  omega
def scS (k : Nat) : Prop := (1 ≤ k ∧ k ≤ 10) ∨ (18 ≤ k ∧ k ≤ 20)
def scA (k : Nat) : Prop := k = 2 ∨ k = 6
def SchW (G : rG) (n : Nat) (ad : Nat → Nat) (en : Nat → va_E) (ss : List Row) (hw : Nat) (dv : Nat → Int32) (S : Nat → Nat → Bool) (fuel sp : Nat) : Prop :=
  21 ≤ n ∧ StAt G n ad en ss ∧ DerAt G n 1 ad en hw dv ∧ SetsAt G n 19 ad en 82 S ∧ en 18 = .inr (4, [.ref (ad 3), .ref (ad 1), .ref (ad 19), .int (nI fuel), .int (nI sp)])
theorem SchW_st {G : rG} {n : Nat} {ad ad1 : Nat → Nat} {en en1 : Nat → va_E} {ss ss1 : List Row} {hw : Nat} {dv : Nat → Int32} {S : Nat → Nat → Bool} {fuel sp : Nat} (h : SchW G n ad en ss hw dv S fuel sp) (hs : StAt G n ad1 en1 ss1) (hf : Fr n (fun k => 3 ≤ k ∧ k ≤ 10) (fun k => k = 6) ad en ad1 en1) : SchW G n ad1 en1 ss1 hw dv S fuel sp ∧ Fr n scS scA ad en ad1 en1 := by
  obtain ⟨hn, h1, h2, h3, h4⟩ := h
  refine ⟨⟨hn, hs, DerAt_keep h2 (fun k a b => hf.1 k (by omega) (by omega)) (fun k a b => hf.2 k (by omega) (by omega)), SetsAt_keep h3 (fun k a b => hf.1 k (by omega) (by omega)) (fun k a b => hf.2 k (by omega) (by omega)), ?_⟩, fun k a b => hf.1 k a (fun q => b (Or.inr q)), fun k a b => hf.2 k a (fun q => b (Or.inl (by omega)))⟩
  rw [hf.1 3 (by omega) (by omega), hf.1 1 (by omega) (by omega), hf.1 19 (by omega) (by omega)]
  exact (hf.2 18 (by omega) (by omega)).trans h4
theorem SchW_de {G : rG} {n : Nat} {ad ad1 : Nat → Nat} {en en1 : Nat → va_E} {ss : List Row} {hw hw1 : Nat} {dv dv1 : Nat → Int32} {S : Nat → Nat → Bool} {fuel sp : Nat} (h : SchW G n ad en ss hw dv S fuel sp) (hs : DerAt G n 1 ad1 en1 hw1 dv1) (hf : Fr n (fun k => 1 ≤ k ∧ k ≤ 1 + 1) (fun k => k = 1 + 1) ad en ad1 en1) : SchW G n ad1 en1 ss hw1 dv1 S fuel sp ∧ Fr n scS scA ad en ad1 en1 := by
  obtain ⟨hn, h1, h2, h3, h4⟩ := h
  refine ⟨⟨hn, StAt_keep h1 (fun k a b => hf.1 k (by omega) (by omega)) (fun k a b => hf.2 k (by omega) (by omega)), hs, SetsAt_keep h3 (fun k a b => hf.1 k (by omega) (by omega)) (fun k a b => hf.2 k (by omega) (by omega)), ?_⟩, fun k a b => hf.1 k a (fun q => b (Or.inl q)), fun k a b => hf.2 k a (fun q => b (Or.inl (by omega)))⟩
  rw [hf.1 3 (by omega) (by omega), hf.1 1 (by omega) (by omega), hf.1 19 (by omega) (by omega)]
  exact (hf.2 18 (by omega) (by omega)).trans h4
theorem SchW_gi {G : rG} {n : Nat} {ad ad1 : Nat → Nat} {en en1 : Nat → va_E} {ss : List Row} {hw : Nat} {dv : Nat → Int32} {S S1 : Nat → Nat → Bool} {fuel sp : Nat} (h : SchW G n ad en ss hw dv S fuel sp) (hs : SetsAt G n 19 ad1 en1 82 S1) (hf : Fr n (fun k => 19 ≤ k ∧ k ≤ 19 + 1) (fun _ => False) ad en ad1 en1) : SchW G n ad1 en1 ss hw dv S1 fuel sp ∧ Fr n scS scA ad en ad1 en1 := by
  obtain ⟨hn, h1, h2, h3, h4⟩ := h
  refine ⟨⟨hn, StAt_keep h1 (fun k a b => hf.1 k (by omega) (fun q => q)) (fun k a b => hf.2 k (by omega) (by omega)), DerAt_keep h2 (fun k a b => hf.1 k (by omega) (fun q => q)) (fun k a b => hf.2 k (by omega) (by omega)), hs, ?_⟩, fun k a b => hf.1 k a (fun q => q), fun k a b => hf.2 k a (fun q => b (Or.inr (by omega)))⟩
  rw [hf.1 3 (by omega) (fun q => q), hf.1 1 (by omega) (fun q => q), hf.1 19 (by omega) (fun q => q)]
  exact (hf.2 18 (by omega) (by omega)).trans h4
theorem SchW_pu {G : rG} {n : Nat} {ad : Nat → Nat} {en en1 : Nat → va_E} {ss : List Row} {hw : Nat} {dv : Nat → Int32} {S : Nat → Nat → Bool} {fuel sp fuel1 sp1 : Nat} {e : va_E} (h : SchW G n ad en ss hw dv S fuel sp) (he : en1 = va_up en 18 e) (h18 : en1 18 = .inr (4, [.ref (ad 3), .ref (ad 1), .ref (ad 19), .int (nI fuel1), .int (nI sp1)])) : SchW G n ad en1 ss hw dv S fuel1 sp1 ∧ Fr n scS scA ad en ad en1 := by
  obtain ⟨hn, h1, h2, h3, h4⟩ := h
  have ke : ∀ k, k ≠ 18 → en1 k = en k := fun k q => by rw [he]; exact va_up_ne _ _ q
  exact ⟨⟨hn, StAt_keep h1 (fun _ _ _ => rfl) (fun k a b => ke k (by omega)), DerAt_keep h2 (fun _ _ _ => rfl) (fun k a b => ke k (by omega)), SetsAt_keep h3 (fun _ _ _ => rfl) (fun k a b => ke k (by omega)), h18⟩, fun _ _ _ => rfl, fun k a b => ke k (fun q => b (Or.inr (by omega)))⟩
theorem sLR_lt2 {ss : List Row} (h : ssOK ss) (k : Nat) : sL ss k < 2 ^ 31 ∧ sR ss k < 2 ^ 31 := by
  by_cases c : 1 ≤ k ∧ k ≤ ss.length
  · exact ⟨(parts_lt h c).1.2.1, (parts_lt h c).1.2.2⟩
  · have e : kAt ss k = (0, 0, 0, 0, 0) := by
      by_cases h0 : k = 0
      · rw [h0]; rfl
      · exact kAt_out (by omega)
    unfold sL sR; rw [e]; decide
theorem lstK_lt (ss : List Row) (Γ : Nat → Bool) (k a : Nat) (ha : a < 2 ^ 31) : lstK ss Γ k a < 640 := by
  by_cases c : lstK ss Γ k a = 0
  · omega
  · exact (sLeast_y ha c).2.1
theorem hasS {S : Nat → Nat → Bool} {d x : Nat} (h : 1 ≤ x ∧ x ≤ 600) : (inS (nI x) && S d (nI x).toInt.toNat) = S d x := by
  rw [inS_nI h.1 h.2, nI_toInt (by omega)]; rfl
theorem frd_hit {ss : List Row} {Γ : Nat → Bool} {a : Nat} (ha : a < 2 ^ 31) (hno : ∀ y, y ≤ a → ((Γ y && kindS ss 4 y) && Γ (sL ss y)) = false) (h0 : lstK ss Γ 4 a ≠ 0) (hg : Γ (sL ss (lstK ss Γ 4 a)) = true) : frdK ss Γ = lstK ss Γ 4 a := by
  obtain ⟨q1, q2, q3, q4⟩ := sLeast_y ha h0
  unfold frdK sLeast
  rw [if_neg (by decide)]
  refine lstF_hit (by show 0 + 1 ≤ _; unfold lstK; omega) (by show _ < 0 + 1 + (640 - (0 + 1)); unfold lstK; omega) ?_ (fun y y1 y2 => ?_)
  · exact Bool.and_eq_true_iff.mpr ⟨q3, hg⟩
  · by_cases c : y ≤ a
    · exact hno y c
    · show ((Γ y && kindS ss 4 y) && Γ (sL ss y)) = false
      rw [q4 y (by omega) y2]; rfl
theorem frd_none {ss : List Row} {Γ : Nat → Bool} {a : Nat} (ha : a < 600) (hno : ∀ y, y ≤ a → ((Γ y && kindS ss 4 y) && Γ (sL ss y)) = false) (h0 : lstK ss Γ 4 a = 0) : frdK ss Γ = 0 := by
  have q := sLeast_n ha h0
  unfold frdK sLeast
  rw [if_neg (by decide)]
  refine lstF_none (fun y y1 y2 => ?_)
  by_cases c : y ≤ a
  · exact hno y c
  · show ((Γ y && kindS ss 4 y) && Γ (sL ss y)) = false
    rw [q y (by omega) (by have : y < 0 + 1 + (640 - (0 + 1)) := y2; omega)]; rfl
theorem frd_next {ss : List Row} {Γ : Nat → Bool} {a : Nat} (ha : a < 2 ^ 31) (hno : ∀ y, y ≤ a → ((Γ y && kindS ss 4 y) && Γ (sL ss y)) = false) (h0 : lstK ss Γ 4 a ≠ 0) (hg : Γ (sL ss (lstK ss Γ 4 a)) = false) : ∀ y, y ≤ lstK ss Γ 4 a → ((Γ y && kindS ss 4 y) && Γ (sL ss y)) = false := by
  obtain ⟨q1, q2, q3, q4⟩ := sLeast_y ha h0
  intro y hy
  by_cases c : y ≤ a
  · exact hno y c
  · by_cases e : y = lstK ss Γ 4 a
    · rw [e, hg, Bool.and_false]
    · rw [q4 y (by omega) (by unfold lstK at e hy; omega)]; rfl
theorem nz_of {k : Nat} (hk : k < 2 ^ 31) (h : ¬ nI k = 0) : k ≠ 0 := fun q => h (by rw [q]; rfl)
theorem z_of {k : Nat} (hk : k < 2 ^ 31) (h : nI k = 0) : k = 0 := (nI_eq hk (by decide)).mp h
theorem lst_600 {P : Nat → Bool} {a : Nat} (h : 600 ≤ a) (ha : a < 2 ^ 31) : sLeast P (nI a) = 0 := by
  unfold sLeast
  rw [nI_toInt ha, if_pos (by omega)]
theorem way_lt {ss : List Row} {Γ : Nat → Bool} {goal w : Nat} (h : ssOK ss) (hw : wayI ss Γ goal w) : w < 16 * 601 := by
  rcases hw with rfl | ⟨r, f, rfl, hf, hy⟩
  · decide
  · have := h.1; have := wy_r hy; omega
theorem frd_all {ss : List Row} {Γ : Nat → Bool} (h : ssOK ss) (hno : ∀ y, y ≤ 600 → ((Γ y && kindS ss 4 y) && Γ (sL ss y)) = false) : frdK ss Γ = 0 := by
  unfold frdK sLeast
  rw [if_neg (by decide)]
  refine lstF_none (fun y y1 y2 => ?_)
  by_cases c : y ≤ 600
  · exact hno y c
  · have := h.1
    show ((Γ y && kindS ss 4 y) && Γ (sL ss y)) = false
    rw [show kindS ss 4 y = false from decide_eq_false (by omega), Bool.and_false]; rfl
theorem frdK_lt (ss : List Row) (Γ : Nat → Bool) : frdK ss Γ < 640 := by
  by_cases c : frdK ss Γ = 0
  · omega
  · exact (sLeast_y (by decide) c).2.1
theorem pG_x {ss : List Row} {r k f goal : Nat} (h3 : ¬ r = 3) (h4 : ¬ r = 4) (h11 : ¬ r = 11) (h12 : ¬ r = 12) (h13 : ¬ r = 13) : pG ss r k f goal = goal := by
  unfold pG
  rw [if_neg h3, if_neg h11, if_neg (by omega), if_neg h13]

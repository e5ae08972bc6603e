theorem aR_no {o : Option Nat} (hl : ∀ k, o = some k → k < 2 ^ 31) (h : aR o = (-3)) : o = none := by
  have := aR_none hl
  rw [decide_eq_true h] at this
  cases o with
  | none => rfl
  | some k => cases this
theorem aR_so {o : Option Nat} (h : ¬ aR o = (-3)) : ∃ i, o = some i ∧ aR o = nI i := by
  cases o with
  | none => exact absurd rfl h
  | some k => exact ⟨k, rfl, rfl⟩
theorem impS_r (ss : List Row) (a b : Nat) : sMakeR ss (4, a, b, 0, 0) = aR (impS ss a b) := by
  unfold sMakeR impS kAppR
  by_cases c : kFind ss (4, a, b, 0, 0) = 0
  · rw [if_pos c, if_pos c]
    by_cases q : ss.length < 600
    · rw [if_pos q, if_pos q]; rfl
    · rw [if_neg q, if_neg q]; rfl
  · rw [if_neg c, if_neg c]; rfl
theorem impS_lt {ss : List Row} (h : ss.length ≤ 600) (a b : Nat) : ∀ k, impS ss a b = some k → k < 2 ^ 31 := by
  intro k hk
  unfold impS at hk
  have h1 : kFind ss (4, a, b, 0, 0) ≤ ss.length := kFU_le _ _ _
  by_cases c : kFind ss (4, a, b, 0, 0) = 0
  · rw [if_pos c] at hk
    by_cases q : ss.length < 600
    · rw [if_pos q] at hk; injection hk; omega
    · rw [if_neg q] at hk; cases hk
  · rw [if_neg c] at hk; injection hk; omega
theorem mC_eq (ss : List Row) (a b : Nat) : sMC ss (4, a, b, 0, 0) + kC ss.length = kC (impT ss a b).length ∧ sMS ss (4, a, b, 0, 0) + kS ss.length = kS (impT ss a b).length ∧ ss.length ≤ (impT ss a b).length := by
  unfold sMC sMS impT sMake
  by_cases c : kFind ss (4, a, b, 0, 0) = 0
  · rw [if_pos c, if_pos c, if_pos c, kC_app, kS_app]
    refine ⟨Nat.add_comm _ _, Nat.add_comm _ _, ?_⟩
    unfold kApp
    split
    · simp
    · exact Nat.le_refl _
  · rw [if_neg c, if_neg c, if_neg c]; exact ⟨Nat.zero_add _, Nat.zero_add _, Nat.le_refl _⟩
theorem brg9n {ss : List Row} {r k f C D E : Nat} (hC : C = sL ss (sL ss f)) (hD : D = sR ss (sL ss f)) (hE : E = sR ss f) (h9 : r = 9) (h : impS ss D E = none) : brg ss r k f = (none, impT ss D E) := by
  subst hC hD hE; unfold brg; rw [if_pos h9]; simp only [h]
theorem brg9s {ss : List Row} {r k f C D E i : Nat} (hC : C = sL ss (sL ss f)) (hD : D = sR ss (sL ss f)) (hE : E = sR ss f) (h9 : r = 9) (h : impS ss D E = some i) (h2 : impS (impT ss D E) C i = none) : brg ss r k f = (none, impT (impT ss D E) C i) := by
  subst hC hD hE; unfold brg; rw [if_pos h9]; simp only [h, h2]
theorem brg9t {ss : List Row} {r k f C D E i g : Nat} (hC : C = sL ss (sL ss f)) (hD : D = sR ss (sL ss f)) (hE : E = sR ss f) (h9 : r = 9) (h : impS ss D E = some i) (h2 : impS (impT ss D E) C i = some g) : brg ss r k f = (some (g, 0), impT (impT ss D E) C i) := by
  subst hC hD hE; unfold brg; rw [if_pos h9]; simp only [h, h2]
theorem brg10n {ss : List Row} {r k f C D E : Nat} (hC : C = sL ss (sL ss f)) (hD : D = sR ss (sL ss f)) (hE : E = sR ss f) (h9 : r = 10) (h : impS ss C E = none) : brg ss r k f = (none, impT ss C E) := by
  subst hC hD hE h9; unfold brg; rw [if_neg (by decide), if_pos rfl]; simp only [h]
theorem brg10s {ss : List Row} {r k f C D E i : Nat} (hC : C = sL ss (sL ss f)) (hD : D = sR ss (sL ss f)) (hE : E = sR ss f) (h9 : r = 10) (h : impS ss C E = some i) (h2 : impS (impT ss C E) D E = none) : brg ss r k f = (none, impT (impT ss C E) D E) := by
  subst hC hD hE h9; unfold brg; rw [if_neg (by decide), if_pos rfl]; simp only [h, h2]
theorem brg10t {ss : List Row} {r k f C D E i g : Nat} (hC : C = sL ss (sL ss f)) (hD : D = sR ss (sL ss f)) (hE : E = sR ss f) (h9 : r = 10) (h : impS ss C E = some i) (h2 : impS (impT ss C E) D E = some g) : brg ss r k f = (some (i, g), impT (impT ss C E) D E) := by
  subst hC hD hE h9; unfold brg; rw [if_neg (by decide), if_pos rfl]; simp only [h, h2]
theorem brg13n {ss : List Row} {r k f C D E : Nat} (hC : C = sL ss (sL ss f)) (hD : D = sR ss (sL ss f)) (hE : E = sR ss f) (h9 : r = 13 ∧ k = 1) (h : impS ss D E = none) : brg ss r k f = (none, impT ss D E) := by
  subst hC hD hE; unfold brg; rw [if_neg (by omega), if_neg (by omega), if_pos h9]; simp only [h]
theorem brg13t {ss : List Row} {r k f C D E i : Nat} (hC : C = sL ss (sL ss f)) (hD : D = sR ss (sL ss f)) (hE : E = sR ss f) (h9 : r = 13 ∧ k = 1) (h : impS ss D E = some i) : brg ss r k f = (some (i, 0), impT ss D E) := by
  subst hC hD hE; unfold brg; rw [if_neg (by omega), if_neg (by omega), if_pos h9]; simp only [h]
theorem brgx {ss : List Row} {r k f : Nat} (h9 : ¬ r = 9) (h10 : ¬ r = 10) (h13 : ¬ (r = 13 ∧ k = 1)) : brg ss r k f = (some (0, 0), ss) := by
  unfold brg; rw [if_neg h9, if_neg h10, if_neg h13]
theorem brg9_le {ss : List Row} {r k f C D E : Nat} (hC : C = sL ss (sL ss f)) (hD : D = sR ss (sL ss f)) (hE : E = sR ss f) (h9 : r = 9) : (impT ss D E).length ≤ (brg ss r k f).2.length := by
  cases q1 : impS ss D E with
  | none => rw [brg9n hC hD hE h9 q1]; exact Nat.le_refl _
  | some i =>
    have := (mC_eq (impT ss D E) C i).2.2
    cases q2 : impS (impT ss D E) C i with
    | none => rw [brg9s hC hD hE h9 q1 q2]; exact this
    | some g => rw [brg9t hC hD hE h9 q1 q2]; exact this
theorem brg10_le {ss : List Row} {r k f C D E : Nat} (hC : C = sL ss (sL ss f)) (hD : D = sR ss (sL ss f)) (hE : E = sR ss f) (h9 : r = 10) : (impT ss C E).length ≤ (brg ss r k f).2.length := by
  cases q1 : impS ss C E with
  | none => rw [brg10n hC hD hE h9 q1]; exact Nat.le_refl _
  | some i =>
    have := (mC_eq (impT ss C E) D E).2.2
    cases q2 : impS (impT ss C E) D E with
    | none => rw [brg10s hC hD hE h9 q1 q2]; exact this
    | some g => rw [brg10t hC hD hE h9 q1 q2]; exact this
theorem brg13_le {ss : List Row} {r k f C D E : Nat} (hC : C = sL ss (sL ss f)) (hD : D = sR ss (sL ss f)) (hE : E = sR ss f) (h9 : r = 13 ∧ k = 1) : (impT ss D E).length ≤ (brg ss r k f).2.length := by
  cases q1 : impS ss D E with
  | none => rw [brg13n hC hD hE h9 q1]; exact Nat.le_refl _
  | some i => rw [brg13t hC hD hE h9 q1]; exact Nat.le_refl _
theorem brg9_2 {ss : List Row} {r k f C D E i : Nat} (hC : C = sL ss (sL ss f)) (hD : D = sR ss (sL ss f)) (hE : E = sR ss f) (h9 : r = 9) (q1 : impS ss D E = some i) : (brg ss r k f).2 = impT (impT ss D E) C i := by
  cases q2 : impS (impT ss D E) C i with
  | none => rw [brg9s hC hD hE h9 q1 q2]
  | some g => rw [brg9t hC hD hE h9 q1 q2]
theorem brg10_2 {ss : List Row} {r k f C D E i : Nat} (hC : C = sL ss (sL ss f)) (hD : D = sR ss (sL ss f)) (hE : E = sR ss f) (h9 : r = 10) (q1 : impS ss C E = some i) : (brg ss r k f).2 = impT (impT ss C E) D E := by
  cases q2 : impS (impT ss C E) D E with
  | none => rw [brg10s hC hD hE h9 q1 q2]
  | some g => rw [brg10t hC hD hE h9 q1 q2]
theorem sAddI_ne {S : Nat → Nat → Bool} {row : Nat} {x : Int32} {e y : Nat} (h : e ≠ row) : sAddI S row x e y = S e y := by
  unfold sAddI sAdd
  split
  · exact if_neg (fun q => h q.1)
  · rfl
theorem sDelI_ne {S : Nat → Nat → Bool} {row : Nat} {x : Int32} {e y : Nat} (h : e ≠ row) : sDelI S row x e y = S e y := by
  unfold sDelI sDel
  split
  · exact if_neg (fun q => h q.1)
  · rfl
theorem inS_0 : inS (nI 0) = false := rfl
theorem gadd_eq (S : Nat → Nat → Bool) (row : Nat) {x : Nat} (h : x ≤ 600) : sAddI S row (nI x) row = gAdd (S row) x := by
  funext y
  by_cases c : 1 ≤ x
  · rw [sAddI_nI S row c h]
    unfold sAdd gAdd
    by_cases q : y = x
    · rw [if_pos ⟨rfl, q⟩, if_pos ⟨q, c⟩]
    · rw [if_neg (fun z => q z.2), if_neg (fun z => q z.1)]
  · have e : x = 0 := by omega
    subst e
    unfold sAddI gAdd
    rw [inS_0, if_neg (by decide), if_neg (fun z => c z.2)]
theorem gdel_eq (S : Nat → Nat → Bool) (row : Nat) {x : Nat} (h : x ≤ 600) : sDelI S row (nI x) row = gDel (S row) x := by
  funext y
  by_cases c : 1 ≤ x
  · rw [sDelI_nI S row c h]
    unfold sDel gDel
    by_cases q : y = x
    · rw [if_pos ⟨rfl, q⟩, if_pos ⟨q, c⟩]
    · rw [if_neg (fun z => q z.2), if_neg (fun z => q z.1)]
  · have e : x = 0 := by omega
    subst e
    unfold sDelI gDel
    rw [inS_0, if_neg (by decide), if_neg (fun z => c z.2)]
def bnPost (G : rG) (n : Nat) (ss : List Row) (hw : Nat) (dv : Nat → Int32) (S : Nat → Nat → Bool) (fuel sp d1 : Nat) (ad : Nat → Nat) (en : Nat → va_E) (P : Option (Nat × Nat) × List Row) : Int32 → (Nat → Nat) → (Nat → va_E) → Prop := fun rz ad1 en1 =>
  rz = b2i P.1.isSome ∧ (∃ S1, SchW G n ad1 en1 P.2 hw dv S1 fuel sp ∧ (∀ e, e ≠ d1 → ∀ y, S1 e y = S e y) ∧ ∀ q, P.1 = some q → S1 d1 = gAdd (gAdd (S d1) q.1) q.2) ∧ Fr n scS scA ad en ad1 en1
theorem bn_no {G : rG} {n : Nat} {ss ss1 : List Row} {hw : Nat} {dv : Nat → Int32} {S S1 S2 : Nat → Nat → Bool} {fuel sp d1 : Nat} {ad ad1 : Nat → Nat} {en en1 : Nat → va_E} {P : Option (Nat × Nat) × List Row} {v w : Int32} (hB : P = (none, ss1)) (hW : SchW G n ad1 en1 ss1 hw dv S2 fuel sp) (h1 : S1 = sAddI S d1 v) (h2 : S2 = sAddI S1 d1 w) (hF : Fr n scS scA ad en ad1 en1) : bnPost G n ss hw dv S fuel sp d1 ad en P 0 ad1 en1 := by
  subst hB
  exact ⟨rfl, ⟨S2, hW, fun e he y => by rw [h2, sAddI_ne he, h1, sAddI_ne he], fun q hq => by cases hq⟩, hF⟩
theorem bn_so {G : rG} {n : Nat} {ss ss1 : List Row} {hw : Nat} {dv : Nat → Int32} {S S1 S2 : Nat → Nat → Bool} {fuel sp d1 g h : Nat} {ad ad1 : Nat → Nat} {en en1 : Nat → va_E} {P : Option (Nat × Nat) × List Row} {v w : Int32} (hB : P = (some (g, h), ss1)) (hg : g ≤ 600 ∧ h ≤ 600) (hW : SchW G n ad1 en1 ss1 hw dv S2 fuel sp) (h1 : S1 = sAddI S d1 v) (h2 : S2 = sAddI S1 d1 w) (hv : v = nI g) (hw1 : w = nI h) (hF : Fr n scS scA ad en ad1 en1) : bnPost G n ss hw dv S fuel sp d1 ad en P 1 ad1 en1 := by
  subst hB hv hw1
  exact ⟨rfl, ⟨S2, hW, fun e he y => by rw [h2, sAddI_ne he, h1, sAddI_ne he], fun q hq => by injection hq with hq; subst hq; rw [h2, gadd_eq _ _ hg.2, h1, gadd_eq _ _ hg.1]⟩, hF⟩
theorem gl_t {r k : Nat} (hr : r < 14) (hk : k < 3) (h : nI r = 4 ∨ nI r = 5 ∨ (nI r = 6 ∧ nI k = 1)) : (1 : Int32) = b2i (gLf r k) := by
  have : gLf r k = true := by
    refine decide_eq_true ?_
    rcases h with h | h | ⟨h, h2⟩
    · exact Or.inl (sw_nI h rfl (by omega) (by decide))
    · exact Or.inr (Or.inl (sw_nI h rfl (by omega) (by decide)))
    · exact Or.inr (Or.inr ⟨sw_nI h rfl (by omega) (by decide), sw_nI h2 rfl (by omega) (by decide)⟩)
  rw [this]; rfl
theorem gl_f {r k : Nat} (h4 : ¬ nI r = 4) (h5 : ¬ nI r = 5) (h6 : ¬ nI r = 6 ∨ ¬ nI k = 1) : (0 : Int32) = b2i (gLf r k) := by
  have : gLf r k = false := by
    refine decide_eq_false ?_
    rintro (h | h | ⟨h, h2⟩)
    · exact h4 (by rw [h]; rfl)
    · exact h5 (by rw [h]; rfl)
    · rcases h6 with q | q
      · exact q (by rw [h]; rfl)
      · exact q (by rw [h2]; rfl)
  rw [this]; rfl
theorem gr_t {r k : Nat} (hr : r < 14) (hk : k < 3) (h : nI r = 5 ∨ nI r = 7 ∨ (nI r = 6 ∧ nI k = 2) ∨ (nI r = 13 ∧ nI k = 2)) : (1 : Int32) = b2i (gRf r k) := by
  have : gRf r k = true := by
    refine decide_eq_true ?_
    rcases h with h | h | ⟨h, h2⟩ | ⟨h, h2⟩
    · exact Or.inl (sw_nI h rfl (by omega) (by decide))
    · exact Or.inr (Or.inl (sw_nI h rfl (by omega) (by decide)))
    · exact Or.inr (Or.inr (Or.inl ⟨sw_nI h rfl (by omega) (by decide), sw_nI h2 rfl (by omega) (by decide)⟩))
    · exact Or.inr (Or.inr (Or.inr ⟨sw_nI h rfl (by omega) (by decide), sw_nI h2 rfl (by omega) (by decide)⟩))
  rw [this]; rfl
theorem gr_f {r k : Nat} (h5 : ¬ nI r = 5) (h7 : ¬ nI r = 7) (h6 : ¬ nI r = 6 ∨ ¬ nI k = 2) (h13 : ¬ nI r = 13 ∨ ¬ nI k = 2) : (0 : Int32) = b2i (gRf r k) := by
  have : gRf r k = false := by
    refine decide_eq_false ?_
    rintro (h | h | ⟨h, h2⟩ | ⟨h, h2⟩)
    · exact h5 (by rw [h]; rfl)
    · exact h7 (by rw [h]; rfl)
    · rcases h6 with q | q
      · exact q (by rw [h]; rfl)
      · exact q (by rw [h2]; rfl)
    · rcases h13 with q | q
      · exact q (by rw [h]; rfl)
      · exact q (by rw [h2]; rfl)
  rw [this]; rfl

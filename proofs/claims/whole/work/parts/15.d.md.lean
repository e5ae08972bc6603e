def RowM (c : Nat → Nat → Int32) (d : Nat) (Γ : Nat → Bool) : Prop := ∀ g, g < 600 → c 31 (600 * d + g) = b2i (Γ (g + 1))
def cSet (c : Nat → Nat → Int32) (d f : Nat) (b : Bool) : Nat → Nat → Int32 := if f = 0 then c else cU c 31 (600 * d + (f - 1)) (b2i b)
theorem nI_pre (k : Nat) : nI (k + 1) - 1 = nI k := by
  rw [nI_succ]
  exact Int32.add_sub_cancel _ _
theorem ix_gv {d g : Nat} : ((600 : Int32) * nI d + nI (g + 1)) - 1 = nI (600 * d + g) := by
  rw [show (600 : Int32) = nI 600 from rfl, pk_mul, nI_add, show 600 * d + (g + 1) = (600 * d + g) + 1 by omega, nI_pre]
theorem nar_b (b : Bool) : vp_nar .byte ((b2i b).toInt8.toInt32) = b2i b := by cases b <;> rfl
theorem nar_b2 (b : Bool) : vp_nar .byte (b2i b) = b2i b := by cases b <;> rfl
theorem gAdd_at {Γ : Nat → Bool} {f y : Nat} (h : 1 ≤ f) : gAdd Γ f y = if y = f then true else Γ y := by
  unfold gAdd
  by_cases e : y = f
  · rw [if_pos ⟨e, h⟩, if_pos e]
  · rw [if_neg (fun q => e q.1), if_neg e]
theorem gDel_at {Γ : Nat → Bool} {f y : Nat} (h : 1 ≤ f) : gDel Γ f y = if y = f then false else Γ y := by
  unfold gDel
  by_cases e : y = f
  · rw [if_pos ⟨e, h⟩, if_pos e]
  · rw [if_neg (fun q => e q.1), if_neg e]
theorem row_add {c : Nat → Nat → Int32} {d f : Nat} {Γ : Nat → Bool} (h : RowM c d Γ) (hf : f ≤ 600) : RowM (cSet c d f true) d (gAdd Γ f) := by
  intro g hg
  unfold cSet
  by_cases z : f = 0
  · rw [if_pos z, h g hg]; unfold gAdd; rw [if_neg (by omega)]
  · rw [if_neg z, gAdd_at (by omega)]
    by_cases e : g = f - 1
    · subst e; rw [cU_s, if_pos (by omega)]
    · rw [cU_o (by omega), if_neg (by omega)]; exact h g hg
theorem row_del {c : Nat → Nat → Int32} {d f : Nat} {Γ : Nat → Bool} (h : RowM c d Γ) (hf : f ≤ 600) : RowM (cSet c d f false) d (gDel Γ f) := by
  intro g hg
  unfold cSet
  by_cases z : f = 0
  · rw [if_pos z, h g hg]; unfold gDel; rw [if_neg (by omega)]
  · rw [if_neg z, gDel_at (by omega)]
    by_cases e : g = f - 1
    · subst e; rw [cU_s, if_pos (by omega)]
    · rw [cU_o (by omega), if_neg (by omega)]; exact h g hg
theorem cSet_o {c : Nat → Nat → Int32} {d f : Nat} {b : Bool} {r t : Nat} (h : r ≠ 31 ∨ t < 600 * d) : cSet c d f b r t = c r t := by
  unfold cSet
  split
  · rfl
  · exact cU_o (by omega)
def cpF (f : Nat → Int32) (d m : Nat) : Nat → Int32 := fun j => if 600 * (d + 1) ≤ j ∧ j < 600 * (d + 1) + m then f (j - 600) else f j
def cOpn (c : Nat → Nat → Int32) (d : Nat) (x : Int32) : Nat → Nat → Int32 := cU (va_up c 31 (cpF (c 31) d 600)) 32 (d + 1) x
theorem cpF_0 (f : Nat → Int32) (d : Nat) : cpF f d 0 = f := by
  funext j; unfold cpF; rw [if_neg (by omega)]
theorem cpF_s (f : Nat → Int32) (d m : Nat) : upd (cpF f d m) (600 * (d + 1) + m) (f (600 * d + m)) = cpF f d (m + 1) := by
  funext j
  unfold upd cpF
  by_cases e : j = 600 * (d + 1) + m
  · rw [if_pos e, if_pos (by omega), e, show 600 * (d + 1) + m - 600 = 600 * d + m by omega]
  · rw [if_neg e]
    by_cases q : 600 * (d + 1) ≤ j ∧ j < 600 * (d + 1) + m
    · rw [if_pos q, if_pos (by omega)]
    · rw [if_neg q, if_neg (by omega)]
theorem opn_row {c : Nat → Nat → Int32} {d : Nat} {x : Int32} {Γ : Nat → Bool} (h : RowM c d Γ) : RowM (cOpn c d x) (d + 1) Γ := by
  intro g hg
  unfold cOpn
  rw [cU_o (by omega), va_up_self]
  unfold cpF
  rw [if_pos (by omega), show 600 * (d + 1) + g - 600 = 600 * d + g by omega]
  exact h g hg
theorem opn_w {c : Nat → Nat → Int32} {d : Nat} {x : Int32} : cOpn c d x 32 (d + 1) = x := cU_s
theorem opn_o {c : Nat → Nat → Int32} {d : Nat} {x : Int32} {r t : Nat} (h : (r ≠ 31 ∧ r ≠ 32) ∨ (r = 31 ∧ t < 600 * (d + 1)) ∨ (r = 32 ∧ t ≠ d + 1)) : cOpn c d x r t = c r t := by
  unfold cOpn
  rw [cU_o (by omega)]
  by_cases e : r = 31
  · subst e
    rw [va_up_self]
    unfold cpF
    rw [if_neg (by omega)]
  · rw [va_up_ne _ _ e]
def cEnt (c : Nat → Nat → Int32) (d u : Nat) : Nat → Nat → Int32 := cU (cU (cU (cU (cU (cU (cU c 33 (d + 1) (nI (u + 1))) 34 (d + 1) 0) 35 (d + 1) 0) 36 (u + 1) 0) 38 (u + 1) (c 32 (d + 1))) 39 (u + 1) 0) 40 (u + 1) 0
def isK (ss : List Row) (f so : Nat) : Bool := decide (1 ≤ f ∧ sSort ss f = so)
def PL (ss : List Row) (Γ : Nat → Bool) (r : Nat) : Nat → Bool := if r = 5 then (fun y => Γ y && kindS ss 2 y) else if r = 6 then (fun y => Γ y && kindS ss 3 y) else if r = 7 then (fun y => (Γ y && kindS ss 4 y) && Γ (sL ss y)) else if r = 8 then (fun y => Γ y && kindS ss 6 y) else if r = 9 then (fun y => Γ y && kindS ss 7 y) else (fun y => Γ y && kindS ss 8 y)
def lstR (ss : List Row) (Γ : Nat → Bool) (r : Nat) : Nat := sLeast (PL ss Γ r) (nI 0)
theorem PL_G {ss : List Row} {Γ : Nat → Bool} {r y : Nat} (h : Γ y = false) : PL ss Γ r y = false := by
  unfold PL
  split
  · simp only [h, Bool.false_and]
  split
  · simp only [h, Bool.false_and]
  split
  · simp only [h, Bool.false_and]
  split
  · simp only [h, Bool.false_and]
  split
  · simp only [h, Bool.false_and]
  · simp only [h, Bool.false_and]
theorem PL_out {ss : List Row} {Γ : Nat → Bool} {r y : Nat} (hΓ : ∀ y, Γ y = true → 1 ≤ y ∧ y ≤ ss.length) (h : ss.length < y) : PL ss Γ r y = false := by
  refine PL_G ?_
  cases q : Γ y
  · rfl
  · have := hΓ y q; omega
theorem kind_lo {ss : List Row} (h : ssOK ss) {k y : Nat} (hk : k ≤ 4) (hy : 1 ≤ y ∧ y ≤ ss.length) : kindS ss k y = decide (sSort ss y = k) := by
  unfold kindS
  have := sort_le h (k := sL ss y)
  apply decide_eq_decide.mpr
  omega
theorem kind_hi {ss : List Row} (h : ssOK ss) {j y : Nat} (hy : 1 ≤ y ∧ y ≤ ss.length) : kindS ss (5 + j) y = (decide (sSort ss y = 4) && decide (sSort ss (sL ss y) = j)) := by
  unfold kindS
  have := sort_le h (k := y)
  rw [← Bool.decide_and]
  apply decide_eq_decide.mpr
  omega
theorem lst_hit {P : Nat → Bool} {f : Nat} (h1 : 1 ≤ f) (h6 : f ≤ 600) (hP : P f = true) (hno : ∀ y, 1 ≤ y → y < f → P y = false) : sLeast P (nI 0) = f := by
  unfold sLeast
  rw [if_neg (by decide)]
  exact lstF_hit (by show 0 + 1 ≤ f; omega) (by show f < 0 + 1 + (640 - (0 + 1)); omega) hP (fun y a b => hno y a b)
theorem lst_none {P : Nat → Bool} (hno : ∀ y, 1 ≤ y → P y = false) : sLeast P (nI 0) = 0 := by
  unfold sLeast
  rw [if_neg (by decide)]
  exact lstF_none (fun y a b => hno y a)

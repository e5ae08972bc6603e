/-! SEARCH, pure. An answer: 0 none, 1 .. 3000 the step, 3001 full, 3002 out -/
abbrev SX : Type := List Row × Nat × (Nat → Int32)
def impS (ss : List Row) (a b : Nat) : Option Nat := if kFind ss (4, a, b, 0, 0) = 0 then (if ss.length < 600 then some (ss.length + 1) else none) else some (kFind ss (4, a, b, 0, 0))
def impT (ss : List Row) (a b : Nat) : List Row := sMake ss (4, a, b, 0, 0)
/-- what a rule makes before its k-th sequent -/
def brg (ss : List Row) (r k f : Nat) : Option (Nat × Nat) × List Row :=
  if r = 9 then
    match impS ss (sR ss (sL ss f)) (sR ss f) with
    | none => (none, impT ss (sR ss (sL ss f)) (sR ss f))
    | some i => match impS (impT ss (sR ss (sL ss f)) (sR ss f)) (sL ss (sL ss f)) i with
      | none => (none, impT (impT ss (sR ss (sL ss f)) (sR ss f)) (sL ss (sL ss f)) i)
      | some g => (some (g, 0), impT (impT ss (sR ss (sL ss f)) (sR ss f)) (sL ss (sL ss f)) i)
  else if r = 10 then
    match impS ss (sL ss (sL ss f)) (sR ss f) with
    | none => (none, impT ss (sL ss (sL ss f)) (sR ss f))
    | some g => match impS (impT ss (sL ss (sL ss f)) (sR ss f)) (sR ss (sL ss f)) (sR ss f) with
      | none => (none, impT (impT ss (sL ss (sL ss f)) (sR ss f)) (sR ss (sL ss f)) (sR ss f))
      | some h => (some (g, h), impT (impT ss (sL ss (sL ss f)) (sR ss f)) (sR ss (sL ss f)) (sR ss f))
  else if r = 13 ∧ k = 1 then
    match impS ss (sR ss (sL ss f)) (sR ss f) with
    | none => (none, impT ss (sR ss (sL ss f)) (sR ss f))
    | some g => (some (g, 0), impT ss (sR ss (sL ss f)) (sR ss f))
  else (some (0, 0), ss)
def gAdd (Γ : Nat → Bool) (x : Nat) : Nat → Bool := fun y => if y = x ∧ 1 ≤ x then true else Γ y
def gDel (Γ : Nat → Bool) (x : Nat) : Nat → Bool := fun y => if y = x ∧ 1 ≤ x then false else Γ y
def gLf (r k : Nat) : Bool := decide (r = 4 ∨ r = 5 ∨ (r = 6 ∧ k = 1))
def gRf (r k : Nat) : Bool := decide (r = 5 ∨ r = 7 ∨ (r = 6 ∧ k = 2) ∨ (r = 13 ∧ k = 2))
def gIf (b : Bool) (Γ : Nat → Bool) (x : Nat) : Nat → Bool := if b then gAdd Γ x else Γ
/-- the given ones of the k-th sequent -/
def gPar (ss : List Row) (r k w : Nat) (Γ : Nat → Bool) : Nat → Bool := gIf (gRf r k) (gIf (gLf r k) Γ (sL ss w)) (sR ss w)
def sPut (x : SX) (j : Nat) (v : Int32) : SX := (x.1, x.2.1, upd x.2.2 j v)
def prm (LK : (Nat → Bool) → Nat → SX → Nat × SX) (Γ : Nat → Bool) (r k f goal : Nat) (x : SX) : Nat × SX :=
  match brg x.1 r k f with
  | (none, ss1) => (3001, (ss1, x.2))
  | (some q, ss1) => LK (gPar ss1 r k (if r = 4 then goal else f) (gAdd (gAdd (gDel Γ f) q.1) q.2)) (pG ss1 r k f goal) (ss1, x.2)
def prms (LK : (Nat → Bool) → Nat → SX → Nat × SX) (Γ : Nat → Bool) (r f goal step : Nat) : Nat → Nat → SX → Nat × SX
  | 0, _, x => (step, x)
  | m + 1, k, x => if (prm LK Γ r k f goal x).1 = 0 ∨ 3000 < (prm LK Γ r k f goal x).1 then prm LK Γ r k f goal x else prms LK Γ r f goal step m (k + 1) (sPut (prm LK Γ r k f goal x).2 (4 * step + (1 + k)) (nI (prm LK Γ r k f goal x).1))
def folW (LK : (Nat → Bool) → Nat → SX → Nat × SX) (Γ : Nat → Bool) (goal step w : Nat) (x : SX) : Nat × SX := prms LK Γ (w % 16) (w / 16) goal step (rPremL.getD (w % 16) 0) 1 (sPut x (4 * step + 1) (nI w))
def lstK (ss : List Row) (Γ : Nat → Bool) (k a : Nat) : Nat := sLeast (fun y => Γ y && kindS ss k y) (nI a)
def frdK (ss : List Row) (Γ : Nat → Bool) : Nat := sLeast (fun y => (Γ y && kindS ss 4 y) && Γ (sL ss y)) (nI 0)
def goW (ss : List Row) (Γ : Nat → Bool) (goal : Nat) : Nat := if Γ goal then 1 else if lstK ss Γ 1 0 ≠ 0 then 16 * lstK ss Γ 1 0 + 2 else if sSort ss goal = 2 then 3 else if sSort ss goal = 4 then 4 else 0
def giW (ss : List Row) (Γ : Nat → Bool) : Nat := if lstK ss Γ 2 0 ≠ 0 then 16 * lstK ss Γ 2 0 + 5 else if lstK ss Γ 3 0 ≠ 0 then 16 * lstK ss Γ 3 0 + 6 else if frdK ss Γ ≠ 0 then 16 * frdK ss Γ + 7 else if lstK ss Γ 6 0 ≠ 0 then 16 * lstK ss Γ 6 0 + 8 else if lstK ss Γ 7 0 ≠ 0 then 16 * lstK ss Γ 7 0 + 9 else if lstK ss Γ 8 0 ≠ 0 then 16 * lstK ss Γ 8 0 + 10 else 0
def nsW (ss : List Row) (Γ : Nat → Bool) (a : Nat) : Nat := if lstK ss Γ 9 a ≠ 0 then 16 * lstK ss Γ 9 a + 13 else 0
def fstW (ss : List Row) (Γ : Nat → Bool) (goal : Nat) : Nat := if goW ss Γ goal ≠ 0 then goW ss Γ goal else if giW ss Γ ≠ 0 then giW ss Γ else if sSort ss goal = 3 then 11 else nsW ss Γ 0
def nxtW (ss : List Row) (Γ : Nat → Bool) (w : Nat) : Nat := if w % 16 = 11 then 12 else if w % 16 = 12 then nsW ss Γ 0 else if w % 16 = 13 then nsW ss Γ (w / 16) else 0
def tryW (FW : Nat → SX → Nat × SX) (Γ : Nat → Bool) : Nat → Nat → SX → Nat × SX
  | 0, _, x => (0, x)
  | t + 1, w, x => if w = 0 then (0, x) else if (FW w x).1 ≠ 0 then FW w x else tryW FW Γ t (nxtW (FW w x).2.1 Γ w) (FW w x).2
def look (fuel : Nat) : Nat → (Nat → Bool) → Nat → SX → Nat × SX
  | 0, _, _, x => (3002, x)
  | h + 1, Γ, goal, x => if fuel ≤ x.2.1 then (3002, x) else tryW (folW (look fuel h) Γ goal (x.2.1 + 1)) Γ 602 (fstW x.1 Γ goal) (x.1, x.2.1 + 1, upd x.2.2 (4 * (x.2.1 + 1) + 0) (nI goal))
theorem lstF_sp {P : Nat → Bool} : ∀ (m k : Nat), 1 ≤ k → (lstF P k m = 0 ∧ ∀ y, k ≤ y → y < k + m → P y = false) ∨ (k ≤ lstF P k m ∧ lstF P k m < k + m ∧ P (lstF P k m) = true ∧ ∀ y, k ≤ y → y < lstF P k m → P y = false)
  | 0, k, _ => Or.inl ⟨rfl, fun y a b => by omega⟩
  | m + 1, k, h => by
    cases hP : P k
    · have e : lstF P k (m + 1) = lstF P (k + 1) m := by rw [lstF, hP]; rfl
      rw [e]
      rcases lstF_sp m (k + 1) (by omega) with ⟨a, b⟩ | ⟨a, b, c, d⟩
      · refine Or.inl ⟨a, fun y y1 y2 => ?_⟩
        by_cases q : y = k
        · rw [q]; exact hP
        · exact b y (by omega) (by omega)
      · refine Or.inr ⟨by omega, by omega, c, fun y y1 y2 => ?_⟩
        by_cases q : y = k
        · rw [q]; exact hP
        · exact d y (by omega) (by omega)
    · have e : lstF P k (m + 1) = k := by rw [lstF, hP]; rfl
      rw [e]
      exact Or.inr ⟨Nat.le_refl _, by omega, hP, fun y a b => by omega⟩
theorem sLeast_y {P : Nat → Bool} {a : Nat} (ha : a < 2 ^ 31) (h0 : sLeast P (nI a) ≠ 0) : a < sLeast P (nI a) ∧ sLeast P (nI a) < 640 ∧ P (sLeast P (nI a)) = true ∧ ∀ y, a < y → y < sLeast P (nI a) → P y = false := by
  unfold sLeast at *
  rw [nI_toInt ha] at *
  by_cases c : (600 : Int) ≤ a
  · rw [if_pos c] at h0; exact absurd rfl h0
  · rw [if_neg c] at *
    rw [show (max (a : Int) 0).toNat = a by omega] at *
    rcases lstF_sp (P := P) (640 - (a + 1)) (a + 1) (by omega) with ⟨q, -⟩ | ⟨q1, q2, q3, q4⟩
    · exact absurd q h0
    · exact ⟨by omega, by omega, q3, fun y y1 y2 => q4 y (by omega) y2⟩
theorem sLeast_n {P : Nat → Bool} {a : Nat} (ha : a < 600) (h0 : sLeast P (nI a) = 0) : ∀ y, a < y → y < 640 → P y = false := by
  unfold sLeast at h0
  rw [nI_toInt (by omega), if_neg (by omega), show (max (a : Int) 0).toNat = a by omega] at h0
  rcases lstF_sp (P := P) (640 - (a + 1)) (a + 1) (by omega) with ⟨-, q⟩ | ⟨q1, q2, q3, q4⟩
  · exact fun y y1 y2 => q y (by omega) (by omega)
  · omega
theorem imp_ok {ss : List Row} (h : ssOK ss) {a b : Nat} (ha : 1 ≤ a ∧ a ≤ ss.length) (hb : 1 ≤ b ∧ b ≤ ss.length) : (∃ y, impT ss a b = ss ++ y) ∧ ssOK (impT ss a b) ∧ ∀ g, impS ss a b = some g → hasRow (impT ss a b) g (4, a, b, 0, 0) := by
  refine ⟨sMake_ext ss _, ?_, fun g hg => ?_⟩
  · unfold impT
    by_cases c : kFind ss (4, a, b, 0, 0) = 0
    · exact make_ok h c ⟨rfl, Or.inr (Or.inr ⟨(by decide : 2 ≤ 4), (by decide : 4 ≤ 4), ha.1, by show a < _; omega, hb.1, by show b < _; omega⟩)⟩
    · rw [sMake, if_neg c]; exact h
  · have e : (aImp a b (ss, [])).1 = impS ss a b := by
      unfold aImp impS
      by_cases c : kFind ss (4, a, b, 0, 0) = 0
      · rw [if_pos c, if_pos c]
        by_cases q : ss.length < 600
        · rw [if_pos q, if_pos q]
        · rw [if_neg q, if_neg q]
      · rw [if_neg c, if_neg c]
    have := imp_val (e.trans hg)
    exact ⟨this.1.1, this.1.2, this.2⟩
/-- a way that is offered: rule r with f -/
def wyOK (ss : List Row) (Γ : Nat → Bool) (goal r f : Nat) : Prop :=
  (r = 1 ∧ f = 0) ∨ (r = 2 ∧ Γ f = true ∧ sSort ss f = 1) ∨ (r = 3 ∧ f = 0 ∧ sSort ss goal = 2) ∨ (r = 4 ∧ f = 0 ∧ sSort ss goal = 4) ∨ (r = 5 ∧ Γ f = true ∧ sSort ss f = 2) ∨ (r = 6 ∧ Γ f = true ∧ sSort ss f = 3) ∨ (r = 7 ∧ Γ f = true ∧ sSort ss f = 4) ∨ (r = 8 ∧ Γ f = true ∧ sSort ss f = 4) ∨ (r = 9 ∧ Γ f = true ∧ sSort ss f = 4 ∧ sSort ss (sL ss f) = 2) ∨ (r = 10 ∧ Γ f = true ∧ sSort ss f = 4 ∧ sSort ss (sL ss f) = 3) ∨ ((r = 11 ∨ r = 12) ∧ f = 0 ∧ sSort ss goal = 3) ∨ (r = 13 ∧ Γ f = true ∧ sSort ss f = 4 ∧ sSort ss (sL ss f) = 4)
theorem wy_r {ss : List Row} {Γ : Nat → Bool} {goal r f : Nat} (h : wyOK ss Γ goal r f) : 1 ≤ r ∧ r ≤ 13 := by unfold wyOK at h; omega
theorem wy_G {ss : List Row} {Γ : Nat → Bool} {goal r f : Nat} (h : wyOK ss Γ goal r f) (hr : r = 2 ∨ (5 ≤ r ∧ r ≤ 10) ∨ r = 13) : Γ f = true := by
  unfold wyOK at h
  rcases h with h | ⟨-, h, -⟩ | h | h | ⟨-, h, -⟩ | ⟨-, h, -⟩ | ⟨-, h, -⟩ | ⟨-, h, -⟩ | ⟨-, h, -⟩ | ⟨-, h, -⟩ | h | ⟨-, h, -⟩ <;> first | exact h | (exfalso; omega)
theorem wy_0 {ss : List Row} {Γ : Nat → Bool} {goal r f : Nat} (h : wyOK ss Γ goal r f) (hr : ¬ (r = 2 ∨ (5 ≤ r ∧ r ≤ 10) ∨ r = 13)) : f = 0 := by
  unfold wyOK at h
  omega
theorem kind_y {ss : List Row} (h : ssOK ss) {k y : Nat} (hk : kindS ss k y = true) : (1 ≤ y ∧ y ≤ ss.length) ∧ (k ≤ 4 → sSort ss y = k) ∧ (5 ≤ k → sSort ss y = 4 ∧ 5 + sSort ss (sL ss y) = k) := by
  have q := of_decide_eq_true hk
  have := sort_le h (k := y)
  exact ⟨⟨q.1, q.2.1⟩, fun z => by omega, fun z => by omega⟩
theorem lstK_y {ss : List Row} (h : ssOK ss) {Γ : Nat → Bool} {k a : Nat} (ha : a < 2 ^ 31) (h0 : lstK ss Γ k a ≠ 0) : Γ (lstK ss Γ k a) = true ∧ (1 ≤ lstK ss Γ k a ∧ lstK ss Γ k a ≤ ss.length) ∧ a < lstK ss Γ k a ∧ (k ≤ 4 → sSort ss (lstK ss Γ k a) = k) ∧ (5 ≤ k → sSort ss (lstK ss Γ k a) = 4 ∧ 5 + sSort ss (sL ss (lstK ss Γ k a)) = k) := by
  obtain ⟨q1, -, q2, -⟩ := sLeast_y ha h0
  obtain ⟨q3, q4⟩ := Bool.and_eq_true_iff.mp q2
  obtain ⟨a1, a2, a3⟩ := kind_y h q4
  exact ⟨q3, a1, q1, a2, a3⟩
theorem frdK_y {ss : List Row} (h : ssOK ss) {Γ : Nat → Bool} (h0 : frdK ss Γ ≠ 0) : Γ (frdK ss Γ) = true ∧ (1 ≤ frdK ss Γ ∧ frdK ss Γ ≤ ss.length) ∧ sSort ss (frdK ss Γ) = 4 ∧ Γ (sL ss (frdK ss Γ)) = true := by
  obtain ⟨q1, -, q2, -⟩ := sLeast_y (by decide) h0
  obtain ⟨q3, q5⟩ := Bool.and_eq_true_iff.mp q2
  obtain ⟨q3, q4⟩ := Bool.and_eq_true_iff.mp q3
  obtain ⟨a1, a2, a3⟩ := kind_y h q4
  exact ⟨q3, a1, a2 (by decide), q5⟩
/-- a way's number -/
def wayI (ss : List Row) (Γ : Nat → Bool) (goal w : Nat) : Prop := w = 0 ∨ ∃ r f, w = 16 * f + r ∧ f ≤ ss.length ∧ wyOK ss Γ goal r f
theorem nsW_ok {ss : List Row} (h : ssOK ss) (Γ : Nat → Bool) (goal : Nat) {a : Nat} (ha : a < 2 ^ 31) : wayI ss Γ goal (nsW ss Γ a) := by
  unfold nsW
  by_cases c : lstK ss Γ 9 a ≠ 0
  · rw [if_pos c]
    obtain ⟨q1, q2, q3, -, q4⟩ := lstK_y h ha c
    have := q4 (by decide)
    exact Or.inr ⟨13, _, rfl, q2.2, by unfold wyOK; exact Or.inr (Or.inr (Or.inr (Or.inr (Or.inr (Or.inr (Or.inr (Or.inr (Or.inr (Or.inr (Or.inr ⟨rfl, q1, this.1, by omega⟩))))))))))⟩
  · rw [if_neg c]; exact Or.inl rfl
theorem goW_ok {ss : List Row} (h : ssOK ss) (Γ : Nat → Bool) (goal : Nat) : wayI ss Γ goal (goW ss Γ goal) := by
  unfold goW
  by_cases c1 : Γ goal = true
  · rw [if_pos c1]; exact Or.inr ⟨1, 0, rfl, Nat.zero_le _, Or.inl ⟨rfl, rfl⟩⟩
  rw [if_neg c1]
  by_cases c2 : lstK ss Γ 1 0 ≠ 0
  · rw [if_pos c2]
    obtain ⟨q1, q2, q3, q4, -⟩ := lstK_y h (by decide) c2
    exact Or.inr ⟨2, _, rfl, q2.2, Or.inr (Or.inl ⟨rfl, q1, q4 (by decide)⟩)⟩
  rw [if_neg c2]
  by_cases c3 : sSort ss goal = 2
  · rw [if_pos c3]; exact Or.inr ⟨3, 0, rfl, Nat.zero_le _, Or.inr (Or.inr (Or.inl ⟨rfl, rfl, c3⟩))⟩
  rw [if_neg c3]
  by_cases c4 : sSort ss goal = 4
  · rw [if_pos c4]; exact Or.inr ⟨4, 0, rfl, Nat.zero_le _, Or.inr (Or.inr (Or.inr (Or.inl ⟨rfl, rfl, c4⟩)))⟩
  rw [if_neg c4]; exact Or.inl rfl
theorem giW_ok {ss : List Row} (h : ssOK ss) (Γ : Nat → Bool) (goal : Nat) : wayI ss Γ goal (giW ss Γ) := by
  unfold giW
  by_cases c : lstK ss Γ 2 0 ≠ 0
  · rw [if_pos c]
    obtain ⟨q1, q2, q3, q4, -⟩ := lstK_y h (by decide) c
    exact Or.inr ⟨5, _, rfl, q2.2, Or.inr (Or.inr (Or.inr (Or.inr (Or.inl ⟨rfl, q1, q4 (by decide)⟩))))⟩
  rw [if_neg c]
  by_cases c : lstK ss Γ 3 0 ≠ 0
  · rw [if_pos c]
    obtain ⟨q1, q2, q3, q4, -⟩ := lstK_y h (by decide) c
    exact Or.inr ⟨6, _, rfl, q2.2, Or.inr (Or.inr (Or.inr (Or.inr (Or.inr (Or.inl ⟨rfl, q1, q4 (by decide)⟩)))))⟩
  rw [if_neg c]
  by_cases c : frdK ss Γ ≠ 0
  · rw [if_pos c]
    obtain ⟨q1, q2, q3, -⟩ := frdK_y h c
    exact Or.inr ⟨7, _, rfl, q2.2, Or.inr (Or.inr (Or.inr (Or.inr (Or.inr (Or.inr (Or.inl ⟨rfl, q1, q3⟩))))))⟩
  rw [if_neg c]
  by_cases c : lstK ss Γ 6 0 ≠ 0
  · rw [if_pos c]
    obtain ⟨q1, q2, q3, -, q4⟩ := lstK_y h (by decide) c
    exact Or.inr ⟨8, _, rfl, q2.2, Or.inr (Or.inr (Or.inr (Or.inr (Or.inr (Or.inr (Or.inr (Or.inl ⟨rfl, q1, (q4 (by decide)).1⟩)))))))⟩
  rw [if_neg c]
  by_cases c : lstK ss Γ 7 0 ≠ 0
  · rw [if_pos c]
    obtain ⟨q1, q2, q3, -, q4⟩ := lstK_y h (by decide) c
    have := q4 (by decide)
    exact Or.inr ⟨9, _, rfl, q2.2, Or.inr (Or.inr (Or.inr (Or.inr (Or.inr (Or.inr (Or.inr (Or.inr (Or.inl ⟨rfl, q1, this.1, by omega⟩))))))))⟩
  rw [if_neg c]
  by_cases c : lstK ss Γ 8 0 ≠ 0
  · rw [if_pos c]
    obtain ⟨q1, q2, q3, -, q4⟩ := lstK_y h (by decide) c
    have := q4 (by decide)
    exact Or.inr ⟨10, _, rfl, q2.2, Or.inr (Or.inr (Or.inr (Or.inr (Or.inr (Or.inr (Or.inr (Or.inr (Or.inr (Or.inl ⟨rfl, q1, this.1, by omega⟩)))))))))⟩
  rw [if_neg c]; exact Or.inl rfl
theorem wy_11 {ss : List Row} {Γ : Nat → Bool} {goal r : Nat} (hr : r = 11 ∨ r = 12) (h : sSort ss goal = 3) : wyOK ss Γ goal r 0 := Or.inr (Or.inr (Or.inr (Or.inr (Or.inr (Or.inr (Or.inr (Or.inr (Or.inr (Or.inr (Or.inl ⟨hr, rfl, h⟩))))))))))
theorem fstW_ok {ss : List Row} (h : ssOK ss) (Γ : Nat → Bool) (goal : Nat) : wayI ss Γ goal (fstW ss Γ goal) := by
  unfold fstW
  by_cases c : goW ss Γ goal ≠ 0
  · rw [if_pos c]; exact goW_ok h Γ goal
  rw [if_neg c]
  by_cases c : giW ss Γ ≠ 0
  · rw [if_pos c]; exact giW_ok h Γ goal
  rw [if_neg c]
  by_cases c : sSort ss goal = 3
  · rw [if_pos c]; exact Or.inr ⟨11, 0, rfl, Nat.zero_le _, wy_11 (Or.inl rfl) c⟩
  rw [if_neg c]; exact nsW_ok h Γ goal (by decide)
theorem nxtW_ok {ss ss1 : List Row} (h1 : ssOK ss1) {Γ : Nat → Bool} {goal w r f : Nat} (hw : w = 16 * f + r) (hf : f ≤ 600) (hy : wyOK ss Γ goal r f) (hs : sSort ss1 goal = sSort ss goal) : wayI ss1 Γ goal (nxtW ss1 Γ w) := by
  have hr := wy_r hy
  unfold nxtW
  by_cases c : w % 16 = 11
  · rw [if_pos c]
    exact Or.inr ⟨12, 0, rfl, Nat.zero_le _, wy_11 (Or.inr rfl) (by unfold wyOK at hy; omega)⟩
  rw [if_neg c]
  by_cases c : w % 16 = 12
  · rw [if_pos c]; exact nsW_ok h1 Γ goal (by decide)
  rw [if_neg c]
  by_cases c : w % 16 = 13
  · rw [if_pos c]; exact nsW_ok h1 Γ goal (by omega)
  rw [if_neg c]; exact Or.inl rfl

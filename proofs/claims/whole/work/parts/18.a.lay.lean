/-! LAYING a proof: the reference's pile -/
theorem any_nI (x : Int32) : ∃ k : Nat, x = nI k := ⟨x.toUInt32.toNat, by
  apply Int32.toBitVec_inj.mp
  show x.toBitVec = BitVec.ofNat 32 x.toUInt32.toNat
  apply BitVec.eq_of_toNat_eq
  rw [BitVec.toNat_ofNat]
  exact (Nat.mod_eq_of_lt x.toBitVec.isLt).symm⟩
def ArC (l : Launch) (G : rG) (n : Nat) (ad : Nat → Nat) (c : Nat → Nat → Int32) (us dp cl : Int32) (s : NSt) (step mv uu hh : Nat) (A : Act) : Prop := ∀ en2, MdW G n ad en2 s.1 s.2 c us 0 dp cl → CI l G yX8_around uX8_around (5) (138) (0) (0) [.ref (ad 22), .int (nI step), .int (nI mv), .int (nI uu), .int (nI hh)] (n) (n) ad en2 (mAct G n ad en2 c us dp cl A s)
def PC (c c2 : Nat → Nat → Int32) (T step mv : Nat) : Prop := (∃ r, c 36 step = nI r ∧ (1 ≤ r ∧ r ≤ 2) ∧ c 42 T = 0 ∧ c2 = cU c 42 T 1) ∨ (∃ r, c 36 step = nI r ∧ (3 ≤ r ∧ r ≤ 10) ∧ c 42 T = 1 ∧ c 40 step = 0 ∧ c2 = cU (cU c 42 T 2) 44 T (nI mv)) ∨ (∃ r, c 36 step = nI r ∧ (3 ≤ r ∧ r ≤ 10) ∧ c 42 T = 2 ∧ c2 = cU c 42 T 3) ∨ (c 36 step = nI 11 ∧ (c 37 step = (-1) ∨ c 37 step = (-2)) ∧ c 42 T = 1 ∧ c2 = cU c 42 T 2) ∨ (c 36 step = nI 11 ∧ (∃ f, (1 ≤ f ∧ f ≤ 600) ∧ c 37 step = nI f) ∧ c 42 T = 2 ∧ c2 = cU c 42 T 3)
def pushC (c : Nat → Nat → Int32) (T nx : Nat) : Nat → Nat → Int32 := cU (cU c 41 (T + 1) (nI nx)) 42 (T + 1) 0
def QC (c c2 : Nat → Nat → Int32) (T step mv nx : Nat) : Prop := (∃ r, c 36 step = nI r ∧ (3 ≤ r ∧ r ≤ 10 ∧ r ≠ 6) ∧ c 42 T = 0 ∧ c 39 step = nI nx ∧ c2 = pushC (cU c 42 T 1) T nx) ∨ (∃ r, c 36 step = nI r ∧ (3 ≤ r ∧ r ≤ 10) ∧ c 42 T = 1 ∧ c 40 step = nI nx ∧ c2 = pushC (cU (cU c 42 T 2) 44 T (nI mv)) T nx) ∨ (c 36 step = nI 11 ∧ (c 37 step = (-1) ∨ c 37 step = (-2)) ∧ c 42 T = 0 ∧ c 39 step = nI nx ∧ c2 = pushC (cU c 42 T 1) T nx) ∨ (c 36 step = nI 11 ∧ (∃ f, (1 ≤ f ∧ f ≤ 600) ∧ c 37 step = nI f) ∧ c 42 T = 0 ∧ c 40 step = nI nx ∧ c2 = pushC (cU c 42 T 1) T nx)
abbrev K9 : Type := Nat → Nat → (Nat → Nat → Int32) → NSt → Bool → Prop
def LcP (l : Launch) (G : rG) (n : Nat) (ad : Nat → Nat) (us dp cl : Int32) (K : K9) : Prop := ∀ (T mv step uu hh : Nat) (c c2 : Nat → Nat → Int32) (s : NSt) (A : Act), 1 ≤ T → T ≤ 81 → c 41 T = nI step → step ≤ 3000 → PC c c2 T step mv → c2 44 T = nI uu → c2 43 T = nI hh → ArC l G n ad c2 us dp cl s step mv uu hh A → (∀ o1 s1, A s = (o1, s1) → sGood s1 → K (T - 1) (o1.getD 0) c2 s1 o1.isNone) → K T mv c s false
def LcQ (K : K9) : Prop := ∀ (T mv step nx : Nat) (c c2 : Nat → Nat → Int32) (s : NSt), 1 ≤ T → T ≤ 80 → c 41 T = nI step → step ≤ 3000 → (1 ≤ nx ∧ nx ≤ 3000) → QC c c2 T step mv nx → K (T + 1) mv c2 s false → K T mv c s false
def Lc6 (K : K9) : Prop := ∀ (T mv step nx f : Nat) (c : Nat → Nat → Int32) (s : NSt), 1 ≤ T → T ≤ 80 → c 41 T = nI step → step ≤ 3000 → (1 ≤ nx ∧ nx ≤ 3000) → c 36 step = nI 6 → c 37 step = nI f → (1 ≤ f ∧ f ≤ s.1.length) → c 42 T = 0 → c 39 step = nI nx → (∀ o1 s1, aGate false (aNode (0, f, 0, 0, 0)) s = (o1, s1) → sGood s1 → K (T + 1) mv (pushC (cU (cU c 42 T 1) 43 T (nI (o1.getD 0))) T nx) s1 o1.isNone) → K T mv c s false
def Lc13 (K : K9) : Prop := ∀ (T mv step nx f : Nat) (c : Nat → Nat → Int32) (s : NSt), 1 ≤ T → T ≤ 80 → c 41 T = nI step → step ≤ 3000 → (1 ≤ nx ∧ nx ≤ 3000) → c 36 step = nI 11 → c 37 step = nI f → (1 ≤ f ∧ f ≤ s.1.length) → 2 ≤ sSort s.1 f → (1 ≤ mv ∧ mv ≤ s.2.length) → c 42 T = 1 → c 39 step = nI nx → (∀ o1 s1 o2 s2, aLamO (sR s.1 f) (some mv) s = (o1, s1) → aGate o1.isNone (aNode (0, f, 0, 0, 0)) s1 = (o2, s2) → sGood s1 → sGood s2 → K (T + 1) mv (pushC (cU (cU (cU c 42 T 2) 44 T (nI (o1.getD 0))) 43 T (nI (o2.getD 0))) T nx) s2 o2.isNone) → K T mv c s false
def kpl (T : Nat) (c c1 : Nat → Nat → Int32) : Prop := ∀ r t, (41 ≤ r → r ≤ 44 → t < T) → c1 r t = c r t
def LY (dv : Nat → Int32) (hi : Nat) (K : K9) (h : Nat) : Prop := ∀ (T mv : Nat) (c : Nat → Nat → Int32) (s0 : NSt) (step lo goal : Nat), 1 ≤ T → T + h ≤ 81 → c 41 T = nI step → c 42 T = 0 → relD c dv h lo hi step → wfD s0.1 dv h lo hi step goal → sGood s0 → ∀ o s1, bld dv h step s0 = (o, s1) → (o = none → ∀ T' mv' c', K T' mv' c' s1 true) → (∀ x c', o = some x → kpl T c c' → sGood s1 → (1 ≤ x ∧ x ≤ s1.2.length) → K (T - 1) x c' s1 false) → K T mv c s0 false
theorem kpl_tr {T : Nat} {c c1 c2 : Nat → Nat → Int32} (h1 : kpl T c c1) (h2 : kpl T c1 c2) : kpl T c c2 := fun r t a => (h2 r t a).trans (h1 r t a)
theorem kpl_dn {T : Nat} {c c1 : Nat → Nat → Int32} (h : kpl (T + 1) c c1) : kpl T c c1 := fun r t a => h r t (fun q q2 => by have := a q q2; omega)
theorem kpl_cU {T r t : Nat} {c : Nat → Nat → Int32} {x : Int32} (h : 41 ≤ r ∧ r ≤ 44 ∧ T ≤ t) : kpl T c (cU c r t x) := fun r2 t2 a => cU_o (by
  by_cases e : r2 = r
  · right
    have := a (by omega) (by omega)
    omega
  · exact Or.inl e)
theorem push_k {T nx : Nat} {c c1 : Nat → Nat → Int32} (h : kpl T c c1) : kpl T c (pushC c1 T nx) := kpl_tr h (kpl_tr (kpl_cU (by omega)) (kpl_cU (by omega)))
theorem push_41 {T nx : Nat} {c : Nat → Nat → Int32} : pushC c T nx 41 (T + 1) = nI nx ∧ pushC c T nx 42 (T + 1) = 0 ∧ ∀ r, pushC c T nx r T = c r T := by
  unfold pushC
  refine ⟨?_, cU_s, fun r => ?_⟩
  · rw [cU_o (by omega), cU_s]
  · rw [cU_o (by omega), cU_o (by omega)]
theorem relD_kpl {T : Nat} {c c1 : Nat → Nat → Int32} {dv : Nat → Int32} {h lo hi s : Nat} (hk : kpl T c c1) (h1 : relD c dv h lo hi s) : relD c1 dv h lo hi s := relD_keep h1 (fun r t a b _ _ => hk r t (by omega)) (fun _ _ _ => rfl) (Nat.le_refl _) (Nat.le_refl _)
theorem app_vd {o1 o2 : Option Nat} {s s1 : NSt} {x : Nat} (h : aAppO o1 o2 s = (some x, s1)) : 1 ≤ x ∧ x ≤ s1.2.length := by
  cases o1 with
  | none => have : (none, s) = (some x, s1) := h; cases this
  | some t =>
    cases o2 with
    | none => have : (none, s) = (some x, s1) := h; cases this
    | some u => exact (gate_row (fl := false) (row := (2, sR s.1 (nG s.2 t), t, u, 0)) h x rfl).1
theorem lam_vd {a : Nat} {o : Option Nat} {s s1 : NSt} {x : Nat} (h : aLamO a o s = (some x, s1)) : 1 ≤ x ∧ x ≤ s1.2.length := by
  cases o with
  | none => have : (none, s) = (some x, s1) := h; cases this
  | some t =>
    have h : aLam a t s = (some x, s1) := h
    cases q : impS s.1 a (nG s.2 t) with
    | none => rw [lam_n q] at h; cases h
    | some g => rw [lam_s q] at h; exact (gate_row (fl := false) h x rfl).1
theorem unp_vd {f : Nat} {o : Option Nat} {s s1 : NSt} {x : Nat} (h : aUnpack f o s = (some x, s1)) : 1 ≤ x ∧ x ≤ s1.2.length := app_vd h
theorem fir_vd {f : Nat} {o : Option Nat} {s s1 : NSt} {x : Nat} (h : aFire f o s = (some x, s1)) : 1 ≤ x ∧ x ≤ s1.2.length := app_vd h
theorem unc_vd {f : Nat} {o : Option Nat} {s s1 : NSt} {x : Nat} (h : aUncurryK f o s = (some x, s1)) : 1 ≤ x ∧ x ≤ s1.2.length := by unfold aUncurryK aUncurry at h; exact app_vd h
theorem rej_vd {f : Nat} {o : Option Nat} {s s1 : NSt} {x : Nat} (h : aRejoinK f o s = (some x, s1)) : 1 ≤ x ∧ x ≤ s1.2.length := by unfold aRejoinK aRejoin at h; exact app_vd h
theorem nst_vd {f : Nat} {oE oG o : Option Nat} {s s1 : NSt} {x : Nat} (h : aNestK f oE oG o s = (some x, s1)) : 1 ≤ x ∧ x ≤ s1.2.length := by unfold aNestK aNest at h; exact app_vd h
theorem stop_app (o : Option Nat) (s : NSt) : aAppO o none s = (none, s) := by cases o <;> rfl
theorem unp_n {f : Nat} {s : NSt} : aUnpack f none s = (none, s) := aUnpack_eq (o1 := none) (o2 := none) (o3 := none) (o4 := none) (o5 := none) (o6 := none) (o7 := none) rfl rfl rfl rfl rfl rfl rfl rfl
theorem fir_n {f : Nat} {s : NSt} : aFire f none s = (none, s) := aFire_eq (o1 := none) (o2 := none) (o3 := none) (o4 := none) rfl rfl rfl rfl rfl
theorem unc_n {f : Nat} {s : NSt} : aUncurryK f none s = (none, s) := aUncurry_eq (o1 := none) (o2 := none) (o3 := none) (o4 := none) (o5 := none) (o6 := none) (o7 := none) (o8 := none) rfl rfl rfl rfl rfl rfl rfl rfl rfl
theorem rej_n {f : Nat} {s : NSt} : aRejoinK f none s = (none, s) := aRejoin_eq (o1 := none) (o2 := none) (o3 := none) (o4 := none) (o5 := none) (o6 := none) (o7 := none) (o8 := none) (o9 := none) (o10 := none) (o11 := none) (o12 := none) (o13 := none) rfl rfl rfl rfl rfl rfl rfl rfl rfl rfl rfl rfl rfl rfl
theorem nst_n {f : Nat} {oE oG : Option Nat} {s : NSt} : aNestK f oE oG none s = (none, s) := aNest_eq (o1 := none) (o2 := none) (o3 := none) (o4 := none) (o5 := none) (o6 := none) (o7 := none) (o8 := none) rfl rfl rfl rfl rfl rfl rfl (stop_app oG s) (stop_app oE s)

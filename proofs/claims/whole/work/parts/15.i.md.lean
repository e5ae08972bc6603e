def kp (d u : Nat) (c c1 : Nat → Nat → Int32) : Prop := ∀ r t, (r = 31 → t < 600 * (d + 1)) → (32 ≤ r → r ≤ 35 → t ≤ d) → (36 ≤ r → r ≤ 40 → t ≤ u) → c1 r t = c r t
def NewF (c1 : Nat → Nat → Int32) (d u gl : Nat) (Γ : Nat → Bool) : Prop := c1 33 (d + 1) = nI (u + 1) ∧ c1 34 (d + 1) = 0 ∧ c1 35 (d + 1) = 0 ∧ c1 32 (d + 1) = nI gl ∧ RowM c1 (d + 1) Γ ∧ c1 36 (u + 1) = 0 ∧ c1 38 (u + 1) = nI gl ∧ c1 39 (u + 1) = 0 ∧ c1 40 (u + 1) = 0
/-- a sequent is opened for the way r, f, its k-th premise, and entered -/
def ChP (G : rG) (n : Nat) (ad : Nat → Nat) (en1 : Nat → va_E) (ns : List Row) (c : Nat → Nat → Int32) (u d fu : Nat) (cl : Int32) (ss : List Row) (r k f : Nat) (Γ : Nat → Bool) (goal : Nat) : Prop :=
  ((brg ss r k f).1 = none → ∃ c1, MdW G n ad en1 (brg ss r k f).2 ns c1 (nI u) (-3) (nI d) cl) ∧ (∀ q, (brg ss r k f).1 = some q → (d = 80 ∨ u = fu) → ∃ c1, MdW G n ad en1 (brg ss r k f).2 ns c1 (nI u) (-4) (nI d) cl) ∧
  (∀ q, (brg ss r k f).1 = some q → d < 80 → u < fu → ∃ c1, MdW G n ad en1 (brg ss r k f).2 ns c1 (nI (u + 1)) 0 (nI (d + 1)) cl ∧ kp d u c c1 ∧ NewF c1 d u (pG (brg ss r k f).2 r k f goal) (gPar (brg ss r k f).2 r k (if r = 4 then goal else f) (gAdd (gAdd (gDel Γ f) q.1) q.2)))
theorem ent_new {c : Nat → Nat → Int32} {d u gl : Nat} {Γ : Nat → Bool} (hR : RowM c (d + 1) Γ) (hw : c 32 (d + 1) = nI gl) : NewF (cEnt c d u) d u gl Γ := by
  unfold cEnt
  refine ⟨?_, ?_, ?_, ?_, ?_, ?_, ?_, ?_, ?_⟩
  · rw [cU_o (by omega), cU_o (by omega), cU_o (by omega), cU_o (by omega), cU_o (by omega), cU_o (by omega), cU_s]
  · rw [cU_o (by omega), cU_o (by omega), cU_o (by omega), cU_o (by omega), cU_o (by omega), cU_s]
  · rw [cU_o (by omega), cU_o (by omega), cU_o (by omega), cU_o (by omega), cU_s]
  · rw [cU_o (by omega), cU_o (by omega), cU_o (by omega), cU_o (by omega), cU_o (by omega), cU_o (by omega), cU_o (by omega)]; exact hw
  · exact row_cU (row_cU (row_cU (row_cU (row_cU (row_cU (row_cU hR (by decide)) (by decide)) (by decide)) (by decide)) (by decide)) (by decide)) (by decide)
  · rw [cU_o (by omega), cU_o (by omega), cU_o (by omega), cU_s]
  · rw [cU_o (by omega), cU_o (by omega), cU_s]; exact hw
  · rw [cU_o (by omega), cU_s]
  · rw [cU_s]
theorem ent_kp {c c0 : Nat → Nat → Int32} {d u : Nat} (h : ∀ r t, ¬ (r = 31 ∧ 600 * (d + 1) ≤ t) → ¬ (r = 32 ∧ t = d + 1) → c r t = c0 r t) : kp d u c0 (cEnt c d u) := by
  intro r t h1 h2 h3
  unfold cEnt
  rw [cU_o (by omega), cU_o (by omega), cU_o (by omega), cU_o (by omega), cU_o (by omega), cU_o (by omega), cU_o (by omega)]
  exact h r t (by omega) (by omega)
theorem lst_hitA {P : Nat → Bool} {a f : Nat} (h1 : a < f) (h6 : f ≤ 600) (hP : P f = true) (hno : ∀ y, a < y → y < f → P y = false) : sLeast P (nI a) = f := by
  unfold sLeast
  rw [nI_toInt (by omega), if_neg (by omega), show (max (a : Int) 0).toNat = a by omega]
  exact lstF_hit (by omega) (by omega) hP (fun y y1 y2 => hno y (by omega) y2)
theorem lst_noneA {P : Nat → Bool} {a : Nat} (ha : a < 2 ^ 31) (hno : ∀ y, a < y → P y = false) : sLeast P (nI a) = 0 := by
  unfold sLeast
  rw [nI_toInt ha, show (max (a : Int) 0).toNat = a by omega]
  split
  · rfl
  · exact lstF_none (fun y y1 y2 => hno y (by omega))
theorem nst_next {P : Nat → Bool} {a f : Nat} (hno : ∀ y, a < y → y < f → P y = false) (h : P f = false) : ∀ y, a < y → y < f + 1 → P y = false := by
  intro y p q
  by_cases e : y = f
  · rw [e]; exact h
  · exact hno y p (by omega)
theorem nst_v {ss : List Row} (h : ssOK ss) {Γ : Nat → Bool} {f : Nat} (hf : 1 ≤ f ∧ f ≤ ss.length) : (Γ f && kindS ss 9 f) = (Γ f && (decide (sSort ss f = 4) && isK ss (sL ss f) 4)) := by
  rw [show (9 : Nat) = 5 + 4 from rfl, kind_hi h hf]
  congr 1
  by_cases q : sSort ss f = 4
  · have := (parts_of h hf (by omega)).1.1
    unfold isK
    congr 1
    apply decide_eq_decide.mpr
    omega
  · rw [decide_eq_false q]; rfl
/-- the mark of the way that is tried -/
def tW (w : Nat) : Int32 := if w % 16 = 11 then (-1) else if w % 16 = 12 then (-2) else nI (w / 16)
theorem chp_x {G : rG} {n : Nat} {ad : Nat → Nat} {en1 : Nat → va_E} {ns ss ss1 : List Row} {c c1 : Nat → Nat → Int32} {u d fu : Nat} {cl : Int32} {r k f : Nat} {Γ : Nat → Bool} {goal : Nat} (hB : brg ss r k f = (none, ss1)) (hM : MdW G n ad en1 ss1 ns c1 (nI u) (-3) (nI d) cl) : ChP G n ad en1 ns c u d fu cl ss r k f Γ goal := by
  unfold ChP
  rw [hB]
  exact ⟨fun _ => ⟨c1, hM⟩, (fun q z => by cases z), (fun q z => by cases z)⟩
theorem chp_o {G : rG} {n : Nat} {ad : Nat → Nat} {en1 : Nat → va_E} {ns ss ss1 : List Row} {c c1 : Nat → Nat → Int32} {u d fu : Nat} {cl : Int32} {r k f : Nat} {Γ : Nat → Bool} {goal : Nat} {q : Nat × Nat} (hB : brg ss r k f = (some q, ss1)) (ho : d = 80 ∨ u = fu) (hM : MdW G n ad en1 ss1 ns c1 (nI u) (-4) (nI d) cl) : ChP G n ad en1 ns c u d fu cl ss r k f Γ goal := by
  unfold ChP
  rw [hB]
  exact ⟨(fun z => by cases z), fun q z _ => ⟨c1, hM⟩, fun q z z1 z2 => by omega⟩
theorem chp_y {G : rG} {n : Nat} {ad : Nat → Nat} {en1 : Nat → va_E} {ns ss ss1 : List Row} {c : Nat → Nat → Int32} {u d fu : Nat} {cl : Int32} {r k f : Nat} {Γ : Nat → Bool} {goal : Nat} {c3 : Nat → Nat → Int32} {Γ1 : Nat → Bool} {q : Nat × Nat} (hB : brg ss r k f = (some q, ss1)) (ho : ¬ (d = 80 ∨ u = fu)) (hM : MdW G n ad en1 ss1 ns (cEnt c3 d u) (nI (u + 1)) 0 (nI (d + 1)) cl) (hk : ∀ r t, ¬ (r = 31 ∧ 600 * (d + 1) ≤ t) → ¬ (r = 32 ∧ t = d + 1) → c3 r t = c r t) (hR : RowM c3 (d + 1) Γ1) (hG : Γ1 = gPar ss1 r k (if r = 4 then goal else f) (gAdd (gAdd (gDel Γ f) q.1) q.2)) (hw : c3 32 (d + 1) = nI (pG ss1 r k f goal)) : ChP G n ad en1 ns c u d fu cl ss r k f Γ goal := by
  unfold ChP
  rw [hB]
  refine ⟨(fun z => by cases z), fun q z z1 => absurd z1 ho, fun q2 z _ _ => ⟨_, hM, ent_kp hk, ?_⟩⟩
  injection z with z
  subst z hG
  exact ent_new hR hw
theorem pn_l {ss ss1 : List Row} (h : ssOK ss) {f goal : Nat} {y : List Row} (hB : ss1 = ss ++ y) (hf : f ≤ ss.length) : pG ss1 13 1 f goal = sL ss f := by
  rw [hB]
  show sL (ss ++ y) f = sL ss f
  exact (st_app hf).2.1

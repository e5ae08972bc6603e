def oNd (s : NSt) (o : Option Nat) (g : Nat) : Prop := ∀ x, o = some x → isNd s x g
/-- nodes whose goal is an implication to b -/
def oFn (s : NSt) (o : Option Nat) (b : Nat) : Prop := ∀ x, o = some x → (1 ≤ x ∧ x ≤ s.2.length) ∧ sR s.1 (nG s.2 x) = b
theorem oNd.vd {s : NSt} {o : Option Nat} {g : Nat} (h : oNd s o g) : ∀ x, o = some x → 1 ≤ x ∧ x ≤ s.2.length := fun x hx => ⟨(h x hx).1, (h x hx).2.1⟩
theorem oNd.mono {s t : NSt} {o : Option Nat} {g : Nat} (h : oNd s o g) (e : sExt s t) : oNd t o g := fun x hx => (h x hx).mono e
theorem oFn.mono {s t : NSt} {o : Option Nat} {b : Nat} (h : oFn s o b) (e : sExt s t) (hn : nsOK s.1 s.2) : oFn t o b := by
  intro x hx
  obtain ⟨h1, h2⟩ := h x hx
  have l := sExt_len e
  refine ⟨by omega, ?_⟩
  have q : nG t.2 x = nG s.2 x := by unfold nG; rw [sExt_n e h1.2]
  rw [q]
  unfold sR at h2 ⊢
  rw [sExt_s e (nG_le hn x)]
  exact h2
theorem oNd.fn {s : NSt} {o : Option Nat} {g : Nat} (h : oNd s o g) : oFn s o (sR s.1 g) := fun x hx => by
  obtain ⟨h1, h2, h3⟩ := h x hx
  exact ⟨⟨h1, h2⟩, by rw [h3]⟩
theorem gate_q {fl : Bool} {r : Row} {s s1 : NSt} {o : Option Nat} (h : aGate fl (aNode r) s = (o, s1)) : oNd s1 o r.2.1 ∧ (fl = true → o = none) := by
  cases fl with
  | true =>
    have e : o = none := (congrArg Prod.fst h).symm
    exact ⟨fun x hx => (by rw [e] at hx; cases hx), fun _ => e⟩
  | false => exact ⟨fun x hx => (by rw [hx] at h; exact node_nd h), fun q => by cases q⟩
theorem lamO_q {a gt : Nat} {o o1 : Option Nat} {s s1 : NSt} (h : aLamO a o s = (o1, s1)) (hg : oNd s o gt) : oFn s1 o1 gt ∧ (o = none → o1 = none) := by
  cases o with
  | none =>
    have e : o1 = none := (congrArg Prod.fst h).symm
    exact ⟨fun x hx => (by rw [e] at hx; cases hx), fun _ => e⟩
  | some t =>
    refine ⟨fun x hx => ?_, fun q => by cases q⟩
    rw [hx] at h
    obtain ⟨g, h1, h2, h3, h4, h5, h6⟩ := lam_nd h
    exact ⟨⟨h1.1, h1.2.1⟩, by rw [h1.2.2, h6, (hg t rfl).2.2]⟩
theorem appO_q {b : Nat} {o1 o2 o3 : Option Nat} {s s1 : NSt} (h : aAppO o1 o2 s = (o3, s1)) (h1 : oFn s o1 b) : oNd s1 o3 b ∧ (o2 = none → o3 = none) := by
  cases o1 with
  | none =>
    have e : o3 = none := (congrArg Prod.fst h).symm
    exact ⟨fun x hx => (by rw [e] at hx; cases hx), fun _ => e⟩
  | some t =>
    cases o2 with
    | none =>
      have e : o3 = none := (congrArg Prod.fst h).symm
      exact ⟨fun x hx => (by rw [e] at hx; cases hx), fun _ => e⟩
    | some u =>
      refine ⟨fun x hx => ?_, fun q => by cases q⟩
      rw [hx] at h
      have := node_nd (r := (2, sR s.1 (nG s.2 t), t, u, 0)) h
      rw [(h1 t rfl).2] at this
      exact this
theorem c_X3_lambda (l : Launch) (G : rG) {n : Nat} {ad : Nat → Nat} {en : Nat → va_E} {s0 : NSt} {jd RR SL : Nat} {S : Nat → Nat → Bool} {sf : Nat → Int32} {o : Option Nat} (hW : PmW G n ad en s0 jd RR SL S sf o.isNone) {a gt : Nat} (ha : 1 ≤ a ∧ a ≤ s0.1.length) (ho : oNd s0 o gt) : CI l G yX3_lambda uX3_lambda (4) (135) (aC (aLamO a o) s0) (aS (aLamO a o) s0) [.ref (ad 21), .int (nI a), .int (aR o)] n n ad en (aPost G n jd RR SL S sf (aLamO a o) s0 ad en) := by
  cases o with
  | none =>
    have := c_X3_lambda_t l G hW (x := nI a) (y := (-3))
    rw [show aC (aLamO a none) s0 = 0 from (stop_c s0).1, show aS (aLamO a none) s0 = 0 from (stop_c s0).2]
    exact this
  | some t => exact c_X3_lambda_f l G hW ha ⟨(ho t rfl).1, (ho t rfl).2.1⟩
theorem c_X3_apply (l : Launch) (G : rG) {n : Nat} {ad : Nat → Nat} {en : Nat → va_E} {s0 : NSt} {jd RR SL : Nat} {S : Nat → Nat → Bool} {sf : Nat → Int32} {o1 o2 : Option Nat} (hW : PmW G n ad en s0 jd RR SL S sf o2.isNone) {b : Nat} (hb : ∀ u, o2 = some u → 1 ≤ b) (h1 : oFn s0 o1 b) (h2 : ∀ x, o2 = some x → 1 ≤ x ∧ x ≤ s0.2.length) (hn : o1 = none → o2 = none) : CI l G yX3_apply uX3_apply (4) (135) (aC (aAppO o1 o2) s0) (aS (aAppO o1 o2) s0) [.ref (ad 21), .int (aR o1), .int (aR o2)] n n ad en (aPost G n jd RR SL S sf (aAppO o1 o2) s0 ad en) := by
  cases o2 with
  | none =>
    have := c_X3_apply_t l G hW (x := aR o1) (y := (-3))
    have e : aAppO o1 none = aStop := by cases o1 <;> rfl
    rw [e, (stop_c s0).1, (stop_c s0).2]
    exact this
  | some u =>
    cases o1 with
    | none => exact absurd (hn rfl) (by simp)
    | some t =>
      obtain ⟨q1, q2⟩ := h1 t rfl
      exact c_X3_apply_f l G hW q1 (h2 u rfl) (by rw [q2]; exact hb u rfl)
theorem sR_ext {s t : NSt} (e : sExt s t) {f : Nat} (hf : f ≤ s.1.length) : sR t.1 f = sR s.1 f ∧ sL t.1 f = sL s.1 f := by
  unfold sR sL
  rw [sExt_s e hf]
  exact ⟨rfl, rfl⟩
def aPostG (G : rG) (n jd RR SL : Nat) (S : Nat → Nat → Bool) (sf : Nat → Int32) (A : Act) (s : NSt) (ad : Nat → Nat) (en : Nat → va_E) : Int32 → (Nat → Nat) → (Nat → va_E) → Prop := fun r ad1 en1 =>
  aPost G n jd RR SL S sf A s ad en r ad1 en1 ∧ (∀ x, (A s).1 = some x → 1 ≤ x ∧ x ≤ (A s).2.2.length) ∧ sExt s (A s).2
theorem aPostG.of {G : rG} {n jd RR SL : Nat} {S : Nat → Nat → Bool} {sf : Nat → Int32} {A : Act} {s s1 : NSt} {o : Option Nat} {ad ad1 : Nat → Nat} {en en1 : Nat → va_E} (hE : A s = (o, s1)) (hW : PmW G n ad1 en1 s1 jd RR SL S sf o.isNone) (hf : Fr n pmS pmA ad en ad1 en1) (hv : ∀ x, o = some x → 1 ≤ x ∧ x ≤ s1.2.length) (hx : sExt s s1) : aPostG G n jd RR SL S sf A s ad en (aR o) ad1 en1 := by
  unfold aPostG aPost
  rw [hE]
  exact ⟨⟨rfl, hW, hf⟩, hv, hx⟩
theorem none_i {o : Option Nat} (h : o = none) : o.isNone = true := by rw [h]; rfl
theorem oFn.self {s : NSt} {o : Option Nat} {b : Nat} (h : oFn s o b) : oNd s o (nG s.2 (o.getD 0)) := fun x hx => by rw [hx]; exact ⟨(h x hx).1.1, (h x hx).1.2, rfl⟩
theorem c_X3_make1 (l : Launch) (G : rG) {n : Nat} {ad : Nat → Nat} {en : Nat → va_E} {s0 : NSt} {jd RR SL : Nat} {S : Nat → Nat → Bool} {sf : Nat → Int32} {o : Option Nat} (hW : PmW G n ad en s0 jd RR SL S sf o.isNone) {tg gl : Nat} (ht : tg ≤ 9 ∧ rPartL.getD tg 0 = 1) (hg : 1 ≤ gl ∧ gl ≤ s0.1.length) (ho : ∀ x, o = some x → 1 ≤ x ∧ x ≤ s0.2.length) : CI l G yX3_make uX3_make (4) (135) (aC (aGate o.isNone (aNode (tg, gl, o.getD 0, 0, 0))) s0) (aS (aGate o.isNone (aNode (tg, gl, o.getD 0, 0, 0))) s0) [.ref (ad 21), .int (nI tg), .int (nI gl), .int (aR o), .int 0, .int 0] n n ad en (aPost G n jd RR SL S sf (aGate o.isNone (aNode (tg, gl, o.getD 0, 0, 0))) s0 ad en) :=
  c_X3_make l G hW (fun h => ⟨⟨aR_get h, rfl, rfl⟩, ok_1 ht hg (ho _ (get_some h))⟩)
theorem parts_of {ss : List Row} (h : ssOK ss) {f : Nat} (hf : 1 ≤ f ∧ f ≤ ss.length) (h2 : 2 ≤ sSort ss f) : (1 ≤ sL ss f ∧ sL ss f ≤ ss.length) ∧ (1 ≤ sR ss f ∧ sR ss f ≤ ss.length) := by
  have q := h.2.1 f hf.1 hf.2
  unfold sSort at h2
  unfold sL sR
  obtain ⟨-, q | q | q⟩ := q <;> omega

def tN (x : Int32) : Nat := x.toNatClampNeg
theorem tN_nI {k : Nat} (h : k < 2 ^ 31) : tN (nI k) = k := nI_clamp h
def hasRow (ss : List Row) (g : Nat) (r : Row) : Prop := 1 ≤ g ∧ g ≤ ss.length ∧ kAt ss g = r
theorem kFind_of {ss : List Row} (h : ssOK ss) {g : Nat} {r : Row} (hr : hasRow ss g r) : kFind ss r = g := by
  obtain ⟨h1, h2, h3⟩ := hr
  have hle := kFU_le ss r ss.length
  have hn : kFind ss r ≠ 0 := by
    intro q
    have : ∀ m, g ≤ m → kFU ss r m ≠ 0 := by
      intro m
      induction m with
      | zero => intro a; omega
      | succ m ih =>
        intro a
        rw [kFU]
        by_cases c : kAt ss (m + 1) = r
        · rw [if_pos c]; omega
        · rw [if_neg c]
          refine ih ?_
          by_cases e : g = m + 1
          · rw [e] at h3; exact absurd h3 c
          · omega
    exact this _ h2 q
  exact h.2.2 _ _ (by omega) hle h1 h2 ((kFU_at hn).trans h3.symm)
theorem hasRow.app {ss x : List Row} {g : Nat} {r : Row} (h : hasRow ss g r) : hasRow (ss ++ x) g r := by
  obtain ⟨h1, h2, h3⟩ := h
  exact ⟨h1, by simp; omega, by rw [kAt_ext h2]; exact h3⟩
/-- a way that may be taken: rule r, with statement f, for a goal -/
def side (ss : List Row) (r f goal : Nat) : Prop :=
  (1 ≤ r ∧ r ≤ 13) ∧ ((r = 2 ∨ (5 ≤ r ∧ r ≤ 10) ∨ r = 13) → 1 ≤ f ∧ f ≤ ss.length) ∧ (r = 2 → sSort ss f = 1) ∧ (r = 3 → sSort ss goal = 2) ∧ (r = 4 → sSort ss goal = 4) ∧ (r = 5 → sSort ss f = 2) ∧ (r = 6 → sSort ss f = 3) ∧ (((7 ≤ r ∧ r ≤ 10) ∨ r = 13) → sSort ss f = 4) ∧
  (r = 9 → sSort ss (sL ss f) = 2 ∧ ∃ gi g, hasRow ss gi (4, sR ss (sL ss f), sR ss f, 0, 0) ∧ hasRow ss g (4, sL ss (sL ss f), gi, 0, 0)) ∧ (r = 10 → sSort ss (sL ss f) = 3 ∧ (∃ g, hasRow ss g (4, sL ss (sL ss f), sR ss f, 0, 0)) ∧ ∃ h, hasRow ss h (4, sR ss (sL ss f), sR ss f, 0, 0)) ∧ ((r = 11 ∨ r = 12) → sSort ss goal = 3) ∧ (r = 13 → sSort ss (sL ss f) = 4 ∧ ∃ g, hasRow ss g (4, sR ss (sL ss f), sR ss f, 0, 0))
theorem sL_le {ss : List Row} (h : ssOK ss) {k : Nat} (h2 : 2 ≤ sSort ss k) : sL ss k ≤ ss.length := by
  by_cases c : 1 ≤ k ∧ k ≤ ss.length
  · exact (parts_of h c h2).1.2
  · have e : kAt ss k = (0, 0, 0, 0, 0) := by
      by_cases h0 : k = 0
      · rw [h0]; rfl
      · exact kAt_out (by omega)
    unfold sL; rw [e]; exact Nat.zero_le _
theorem st_app {ss x : List Row} {k : Nat} (h : k ≤ ss.length) : sSort (ss ++ x) k = sSort ss k ∧ sL (ss ++ x) k = sL ss k ∧ sR (ss ++ x) k = sR ss k := by
  unfold sSort sL sR
  rw [kAt_ext h]
  exact ⟨rfl, rfl, rfl⟩
theorem side_app {ss : List Row} (x : List Row) (hk : ssOK ss) {r f goal : Nat} (hg : goal ≤ ss.length) (h : side ss r f goal) : side (ss ++ x) r f goal := by
  obtain ⟨h1, h2, h3, h4, h5, h6, h7, h8, h9, h10, h11, h12⟩ := h
  refine ⟨h1, fun q => ?_, fun q => ?_, fun q => ?_, fun q => ?_, fun q => ?_, fun q => ?_, fun q => ?_, fun q => ?_, fun q => ?_, fun q => ?_, fun q => ?_⟩
  · have := h2 q; simp; omega
  · rw [(st_app (h2 (by omega)).2).1]; exact h3 q
  · rw [(st_app hg).1]; exact h4 q
  · rw [(st_app hg).1]; exact h5 q
  · rw [(st_app (h2 (by omega)).2).1]; exact h6 q
  · rw [(st_app (h2 (by omega)).2).1]; exact h7 q
  · rw [(st_app (h2 (by omega)).2).1]; exact h8 q
  · have hf := (h2 (by omega)).2
    have hl := sL_le hk (k := f) (by rw [h8 (by omega)]; decide)
    obtain ⟨a, gi, g, b, c⟩ := h9 q
    rw [(st_app hf).2.1, (st_app hf).2.2, (st_app hl).1, (st_app hl).2.1, (st_app hl).2.2]
    exact ⟨a, gi, g, b.app, c.app⟩
  · have hf := (h2 (by omega)).2
    have hl := sL_le hk (k := f) (by rw [h8 (by omega)]; decide)
    obtain ⟨a, ⟨g, b⟩, ⟨h, c⟩⟩ := h10 q
    rw [(st_app hf).2.1, (st_app hf).2.2, (st_app hl).1, (st_app hl).2.1, (st_app hl).2.2]
    exact ⟨a, ⟨g, b.app⟩, ⟨h, c.app⟩⟩
  · rw [(st_app hg).1]; exact h11 q
  · have hf := (h2 (by omega)).2
    have hl := sL_le hk (k := f) (by rw [h8 (by omega)]; decide)
    obtain ⟨a, ⟨g, b⟩⟩ := h12 q
    rw [(st_app hf).2.1, (st_app hf).2.2, (st_app hl).1, (st_app hl).2.2]
    exact ⟨a, ⟨g, b.app⟩⟩
/-- the goal of the k-th sequent -/
def pG (ss : List Row) (r k f goal : Nat) : Nat := if r = 3 then (if k = 1 then sL ss goal else sR ss goal) else if r = 11 then sL ss goal else if r = 4 ∨ r = 12 then sR ss goal else if r = 13 then (if k = 1 then sL ss f else goal) else goal
theorem pG_app {ss : List Row} (x : List Row) {r k f goal : Nat} (hg : goal ≤ ss.length) (hf : r = 13 → f ≤ ss.length) : pG (ss ++ x) r k f goal = pG ss r k f goal := by
  unfold pG
  rw [(st_app hg).2.1, (st_app hg).2.2]
  by_cases c : r = 13
  · rw [(st_app (hf c)).2.1]
  · rw [if_neg c, if_neg c]
/-- a derivation's tree: at most h high, its steps in (lo, hi] -/
def wfD (ss : List Row) (dv : Nat → Int32) : Nat → Nat → Nat → Nat → Nat → Prop
  | 0, _, _, _, _ => False
  | h + 1, lo, hi, step, goal => (lo < step ∧ step ≤ hi) ∧ (1 ≤ goal ∧ goal ≤ ss.length) ∧ ∃ r f a b, dv (4 * step + 0) = nI goal ∧ dv (4 * step + 1) = nI (16 * f + r) ∧ f ≤ 600 ∧ side ss r f goal ∧ (1 ≤ rPremL.getD r 0 → dv (4 * step + (1 + 1)) = nI a ∧ wfD ss dv h step hi a (pG ss r 1 f goal)) ∧ (2 ≤ rPremL.getD r 0 → dv (4 * step + (1 + 2)) = nI b ∧ wfD ss dv h step hi b (pG ss r 2 f goal))
theorem wfD_app {ss : List Row} (x : List Row) (hk : ssOK ss) {dv : Nat → Int32} : ∀ {h lo hi step goal : Nat}, wfD ss dv h lo hi step goal → wfD (ss ++ x) dv h lo hi step goal
  | 0, _, _, _, _, h => h
  | h + 1, lo, hi, step, goal, q => by
    obtain ⟨q1, q2, r, f, a, b, q3, q4, q5, q6, q7, q8⟩ := q
    have hf : r = 13 → f ≤ ss.length := fun c => (q6.2.1 (by omega)).2
    refine ⟨q1, ⟨q2.1, by simp; omega⟩, r, f, a, b, q3, q4, q5, side_app x hk q2.2 q6, fun c => ⟨(q7 c).1, ?_⟩, fun c => ⟨(q8 c).1, ?_⟩⟩
    · rw [pG_app x q2.2 hf]; exact wfD_app x hk (q7 c).2
    · rw [pG_app x q2.2 hf]; exact wfD_app x hk (q8 c).2
theorem wfD_ext {s t : NSt} (e : sExt s t) (hk : ssOK s.1) {dv : Nat → Int32} {h lo hi step goal : Nat} (q : wfD s.1 dv h lo hi step goal) : wfD t.1 dv h lo hi step goal := by
  obtain ⟨⟨x, hx⟩, -⟩ := e
  rw [hx]
  exact wfD_app x hk q
theorem side_ext {s t : NSt} (e : sExt s t) (hk : ssOK s.1) {r f goal : Nat} (hg : goal ≤ s.1.length) (q : side s.1 r f goal) : side t.1 r f goal := by
  obtain ⟨⟨x, hx⟩, -⟩ := e
  rw [hx]
  exact side_app x hk hg q
/-- the tree is kept where its steps' cells are -/
theorem wfD_keep {ss : List Row} {dv dv2 : Nat → Int32} : ∀ {h lo hi step goal : Nat}, wfD ss dv h lo hi step goal → (∀ j, 4 * lo + 4 ≤ j → j < 4 * hi + 4 → dv2 j = dv j) → ∀ {lo2 hi2 : Nat}, lo2 ≤ lo → hi ≤ hi2 → wfD ss dv2 h lo2 hi2 step goal
  | 0, _, _, _, _, h, _, _, _, _, _ => h
  | h + 1, lo, hi, step, goal, q, hv, lo2, hi2, e1, e2 => by
    obtain ⟨q1, q2, r, f, a, b, q3, q4, q5, q6, q7, q8⟩ := q
    refine ⟨by omega, q2, r, f, a, b, by rw [hv _ (by omega) (by omega)]; exact q3, by rw [hv _ (by omega) (by omega)]; exact q4, q5, q6, fun c => ⟨?_, ?_⟩, fun c => ⟨?_, ?_⟩⟩
    · rw [hv _ (by omega) (by omega)]; exact (q7 c).1
    · exact wfD_keep (q7 c).2 (fun j a b => hv j (by omega) (by omega)) (Nat.le_refl _) e2
    · rw [hv _ (by omega) (by omega)]; exact (q8 c).1
    · exact wfD_keep (q8 c).2 (fun j a b => hv j (by omega) (by omega)) (Nat.le_refl _) e2
theorem wfD.in {ss : List Row} {dv : Nat → Int32} {h lo hi step goal : Nat} (q : wfD ss dv h lo hi step goal) : lo < step ∧ step ≤ hi ∧ 1 ≤ goal ∧ goal ≤ ss.length := by
  cases h with
  | zero => exact absurd q (fun z => z)
  | succ h => exact ⟨q.1.1, q.1.2, q.2.1.1, q.2.1.2⟩
/-- taller, wider -/
theorem wfD_up {ss : List Row} {dv : Nat → Int32} : ∀ {h lo hi step goal : Nat}, wfD ss dv h lo hi step goal → wfD ss dv (h + 1) lo hi step goal
  | 0, _, _, _, _, h => absurd h (fun z => z)
  | h + 1, lo, hi, step, goal, q => by
    obtain ⟨q1, q2, r, f, a, b, q3, q4, q5, q6, q7, q8⟩ := q
    exact ⟨q1, q2, r, f, a, b, q3, q4, q5, q6, fun c => ⟨(q7 c).1, wfD_up (q7 c).2⟩, fun c => ⟨(q8 c).1, wfD_up (q8 c).2⟩⟩
def aUncurryK (f : Nat) (o : Option Nat) : Act := fun s => aUncurry f (kFind s.1 (4, sL s.1 (sL s.1 f), kFind s.1 (4, sR s.1 (sL s.1 f), sR s.1 f, 0, 0), 0, 0)) o s
def aRejoinK (f : Nat) (o : Option Nat) : Act := fun s => aRejoin f (kFind s.1 (4, sL s.1 (sL s.1 f), sR s.1 f, 0, 0)) (kFind s.1 (4, sR s.1 (sL s.1 f), sR s.1 f, 0, 0)) o s
def aNestK (f : Nat) (oE oG o : Option Nat) : Act := fun s => aNest f (kFind s.1 (4, sR s.1 (sL s.1 f), sR s.1 f, 0, 0)) oE oG o s
theorem vd_nd {s : NSt} {o : Option Nat} (h : ∀ x, o = some x → 1 ≤ x ∧ x ≤ s.2.length) (hn : nsOK s.1 s.2) : ∃ gt, oNd s o gt ∧ 1 ≤ gt := by
  cases o with
  | none => exact ⟨1, (fun x hx => by cases hx), Nat.le_refl _⟩
  | some x =>
    refine ⟨nG s.2 x, fun y hy => ?_, (part_lt hn (h x rfl)).2.1.1⟩
    injection hy with hy
    subst hy
    exact ⟨(h x rfl).1, (h x rfl).2, rfl⟩
theorem gt_none {fl : Bool} {A : Act} {s s1 : NSt} {o : Option Nat} (h : aGate fl A s = (o, s1)) : fl = true → o = none := by
  intro e
  subst e
  exact (congrArg Prod.fst h).symm
theorem sw_nI {r v : Nat} {x : Int32} (h : nI r = x) (hx : x = nI v) (hr : r < 2 ^ 31) (hv : v < 2 ^ 31) : r = v := by
  have := congrArg Int32.toNatClampNeg (h.trans hx)
  rwa [nI_clamp hr, nI_clamp hv] at this
def bR1 (goal : Nat) : Act := fun s =>
  (aGate false (aNode (0, goal, 0, 0, 0))) s
theorem bR1_eq {goal : Nat} {o1 : Option Nat} {s s1 : NSt} (h1 : (aGate false (aNode (0, goal, 0, 0, 0))) s = (o1, s1)) : bR1 goal s = (o1, s1) := by
  unfold bR1
  simp only [h1]
theorem bR1_ext (goal : Nat) (s0 : NSt) : sExt s0 (bR1 goal s0).2 := by
  obtain ⟨o1, s1, hq1⟩ : ∃ oo tt, (aGate false (aNode (0, goal, 0, 0, 0))) s0 = (oo, tt) := ⟨_, _, rfl⟩
  have x1 := (aC_eq hq1 (aGate_ext (aNode_ext _) _ _)).2.2.2.2
  rw [bR1_eq hq1]; exact x1
def bR2 (goal f : Nat) : Act := fun s =>
  let q1 := (aGate false (aNode (0, f, 0, 0, 0))) s
  (aGate q1.1.isNone (aNode (9, goal, q1.1.getD 0, 0, 0))) q1.2
theorem bR2_eq {goal f : Nat} {o1 o2 : Option Nat} {s s1 s2 : NSt} (h1 : (aGate false (aNode (0, f, 0, 0, 0))) s = (o1, s1)) (h2 : (aGate o1.isNone (aNode (9, goal, o1.getD 0, 0, 0))) s1 = (o2, s2)) : bR2 goal f s = (o2, s2) := by
  unfold bR2
  simp only [h1, h2]
theorem bR2_ext (goal f : Nat) (s0 : NSt) : sExt s0 (bR2 goal f s0).2 := by
  obtain ⟨o1, s1, hq1⟩ : ∃ oo tt, (aGate false (aNode (0, f, 0, 0, 0))) s0 = (oo, tt) := ⟨_, _, rfl⟩
  have x1 := (aC_eq hq1 (aGate_ext (aNode_ext _) _ _)).2.2.2.2
  obtain ⟨o2, s2, hq2⟩ : ∃ oo tt, (aGate o1.isNone (aNode (9, goal, o1.getD 0, 0, 0))) s1 = (oo, tt) := ⟨_, _, rfl⟩
  have x2 := x1.tr ((aC_eq hq2 (aGate_ext (aNode_ext _) _ _)).2.2.2.2)
  rw [bR2_eq hq1 hq2]; exact x2
def bR3 (goal : Nat) (B1 B2 : Act) : Act := fun s =>
  let q1 := (aGate false B1) s
  let q2 := (aGate q1.1.isNone B2) q1.2
  (aGate q2.1.isNone (aNode (3, goal, q1.1.getD 0, q2.1.getD 0, 0))) q2.2
theorem bR3_eq {goal : Nat} {B1 B2 : Act} {o1 o2 o3 : Option Nat} {s s1 s2 s3 : NSt} (h1 : (aGate false B1) s = (o1, s1)) (h2 : (aGate o1.isNone B2) s1 = (o2, s2)) (h3 : (aGate o2.isNone (aNode (3, goal, o1.getD 0, o2.getD 0, 0))) s2 = (o3, s3)) : bR3 goal B1 B2 s = (o3, s3) := by
  unfold bR3
  simp only [h1, h2, h3]
theorem bR3_ext (goal : Nat) (B1 B2 : Act) (hB1 : ∀ s, sExt s (B1 s).2) (hB2 : ∀ s, sExt s (B2 s).2) (s0 : NSt) : sExt s0 (bR3 goal B1 B2 s0).2 := by
  obtain ⟨o1, s1, hq1⟩ : ∃ oo tt, (aGate false B1) s0 = (oo, tt) := ⟨_, _, rfl⟩
  have x1 := (aC_eq hq1 (aGate_ext hB1 _ _)).2.2.2.2
  obtain ⟨o2, s2, hq2⟩ : ∃ oo tt, (aGate o1.isNone B2) s1 = (oo, tt) := ⟨_, _, rfl⟩
  have x2 := x1.tr ((aC_eq hq2 (aGate_ext hB2 _ _)).2.2.2.2)
  obtain ⟨o3, s3, hq3⟩ : ∃ oo tt, (aGate o2.isNone (aNode (3, goal, o1.getD 0, o2.getD 0, 0))) s2 = (oo, tt) := ⟨_, _, rfl⟩
  have x3 := x2.tr ((aC_eq hq3 (aGate_ext (aNode_ext _) _ _)).2.2.2.2)
  rw [bR3_eq hq1 hq2 hq3]; exact x3
def bR4 (goal : Nat) (B1 : Act) : Act := fun s =>
  let q1 := (aGate false B1) s
  (aLamO (sL s.1 goal) q1.1) q1.2
theorem bR4_eq {goal : Nat} {B1 : Act} {o1 o2 : Option Nat} {s s1 s2 : NSt} (h1 : (aGate false B1) s = (o1, s1)) (h2 : (aLamO (sL s.1 goal) o1) s1 = (o2, s2)) : bR4 goal B1 s = (o2, s2) := by
  unfold bR4
  simp only [h1, h2]
theorem bR4_ext (goal : Nat) (B1 : Act) (hB1 : ∀ s, sExt s (B1 s).2) (s0 : NSt) : sExt s0 (bR4 goal B1 s0).2 := by
  obtain ⟨o1, s1, hq1⟩ : ∃ oo tt, (aGate false B1) s0 = (oo, tt) := ⟨_, _, rfl⟩
  have x1 := (aC_eq hq1 (aGate_ext hB1 _ _)).2.2.2.2
  obtain ⟨o2, s2, hq2⟩ : ∃ oo tt, (aLamO (sL s0.1 goal) o1) s1 = (oo, tt) := ⟨_, _, rfl⟩
  have x2 := x1.tr ((aC_eq hq2 (aLamO_ext _ _ _)).2.2.2.2)
  rw [bR4_eq hq1 hq2]; exact x2
def bR5 (f : Nat) (B1 : Act) : Act := fun s =>
  let q1 := (aGate false B1) s
  (aUnpack f q1.1) q1.2
theorem bR5_eq {f : Nat} {B1 : Act} {o1 o2 : Option Nat} {s s1 s2 : NSt} (h1 : (aGate false B1) s = (o1, s1)) (h2 : (aUnpack f o1) s1 = (o2, s2)) : bR5 f B1 s = (o2, s2) := by
  unfold bR5
  simp only [h1, h2]
theorem bR5_ext (f : Nat) (B1 : Act) (hB1 : ∀ s, sExt s (B1 s).2) (s0 : NSt) : sExt s0 (bR5 f B1 s0).2 := by
  obtain ⟨o1, s1, hq1⟩ : ∃ oo tt, (aGate false B1) s0 = (oo, tt) := ⟨_, _, rfl⟩
  have x1 := (aC_eq hq1 (aGate_ext hB1 _ _)).2.2.2.2
  obtain ⟨o2, s2, hq2⟩ : ∃ oo tt, (aUnpack f o1) s1 = (oo, tt) := ⟨_, _, rfl⟩
  have x2 := x1.tr ((aC_eq hq2 (aUnpack_ext _ _ _)).2.2.2.2)
  rw [bR5_eq hq1 hq2]; exact x2
def bR6 (goal f : Nat) (B1 B2 : Act) : Act := fun s =>
  let q1 := (aGate false (aNode (0, f, 0, 0, 0))) s
  let q2 := (aGate q1.1.isNone B1) q1.2
  let q3 := (aGate q2.1.isNone B2) q2.2
  (aGate q3.1.isNone (aNode (8, goal, q1.1.getD 0, q2.1.getD 0, q3.1.getD 0))) q3.2
theorem bR6_eq {goal f : Nat} {B1 B2 : Act} {o1 o2 o3 o4 : Option Nat} {s s1 s2 s3 s4 : NSt} (h1 : (aGate false (aNode (0, f, 0, 0, 0))) s = (o1, s1)) (h2 : (aGate o1.isNone B1) s1 = (o2, s2)) (h3 : (aGate o2.isNone B2) s2 = (o3, s3)) (h4 : (aGate o3.isNone (aNode (8, goal, o1.getD 0, o2.getD 0, o3.getD 0))) s3 = (o4, s4)) : bR6 goal f B1 B2 s = (o4, s4) := by
  unfold bR6
  simp only [h1, h2, h3, h4]
theorem bR6_ext (goal f : Nat) (B1 B2 : Act) (hB1 : ∀ s, sExt s (B1 s).2) (hB2 : ∀ s, sExt s (B2 s).2) (s0 : NSt) : sExt s0 (bR6 goal f B1 B2 s0).2 := by
  obtain ⟨o1, s1, hq1⟩ : ∃ oo tt, (aGate false (aNode (0, f, 0, 0, 0))) s0 = (oo, tt) := ⟨_, _, rfl⟩
  have x1 := (aC_eq hq1 (aGate_ext (aNode_ext _) _ _)).2.2.2.2
  obtain ⟨o2, s2, hq2⟩ : ∃ oo tt, (aGate o1.isNone B1) s1 = (oo, tt) := ⟨_, _, rfl⟩
  have x2 := x1.tr ((aC_eq hq2 (aGate_ext hB1 _ _)).2.2.2.2)
  obtain ⟨o3, s3, hq3⟩ : ∃ oo tt, (aGate o2.isNone B2) s2 = (oo, tt) := ⟨_, _, rfl⟩
  have x3 := x2.tr ((aC_eq hq3 (aGate_ext hB2 _ _)).2.2.2.2)
  obtain ⟨o4, s4, hq4⟩ : ∃ oo tt, (aGate o3.isNone (aNode (8, goal, o1.getD 0, o2.getD 0, o3.getD 0))) s3 = (oo, tt) := ⟨_, _, rfl⟩
  have x4 := x3.tr ((aC_eq hq4 (aGate_ext (aNode_ext _) _ _)).2.2.2.2)
  rw [bR6_eq hq1 hq2 hq3 hq4]; exact x4
def bR7 (f : Nat) (B1 : Act) : Act := fun s =>
  let q1 := (aGate false B1) s
  (aFire f q1.1) q1.2
theorem bR7_eq {f : Nat} {B1 : Act} {o1 o2 : Option Nat} {s s1 s2 : NSt} (h1 : (aGate false B1) s = (o1, s1)) (h2 : (aFire f o1) s1 = (o2, s2)) : bR7 f B1 s = (o2, s2) := by
  unfold bR7
  simp only [h1, h2]
theorem bR7_ext (f : Nat) (B1 : Act) (hB1 : ∀ s, sExt s (B1 s).2) (s0 : NSt) : sExt s0 (bR7 f B1 s0).2 := by
  obtain ⟨o1, s1, hq1⟩ : ∃ oo tt, (aGate false B1) s0 = (oo, tt) := ⟨_, _, rfl⟩
  have x1 := (aC_eq hq1 (aGate_ext hB1 _ _)).2.2.2.2
  obtain ⟨o2, s2, hq2⟩ : ∃ oo tt, (aFire f o1) s1 = (oo, tt) := ⟨_, _, rfl⟩
  have x2 := x1.tr ((aC_eq hq2 (aFire_ext _ _ _)).2.2.2.2)
  rw [bR7_eq hq1 hq2]; exact x2
def bR8 (B1 : Act) : Act := fun s =>
  (aGate false B1) s
theorem bR8_eq {B1 : Act} {o1 : Option Nat} {s s1 : NSt} (h1 : (aGate false B1) s = (o1, s1)) : bR8 B1 s = (o1, s1) := by
  unfold bR8
  simp only [h1]
theorem bR8_ext (B1 : Act) (hB1 : ∀ s, sExt s (B1 s).2) (s0 : NSt) : sExt s0 (bR8 B1 s0).2 := by
  obtain ⟨o1, s1, hq1⟩ : ∃ oo tt, (aGate false B1) s0 = (oo, tt) := ⟨_, _, rfl⟩
  have x1 := (aC_eq hq1 (aGate_ext hB1 _ _)).2.2.2.2
  rw [bR8_eq hq1]; exact x1
def bR9 (f : Nat) (B1 : Act) : Act := fun s =>
  let q1 := (aGate false B1) s
  (aUncurryK f q1.1) q1.2
theorem bR9_eq {f : Nat} {B1 : Act} {o1 o2 : Option Nat} {s s1 s2 : NSt} (h1 : (aGate false B1) s = (o1, s1)) (h2 : (aUncurryK f o1) s1 = (o2, s2)) : bR9 f B1 s = (o2, s2) := by
  unfold bR9
  simp only [h1, h2]
theorem bR9_ext (f : Nat) (B1 : Act) (hB1 : ∀ s, sExt s (B1 s).2) (s0 : NSt) : sExt s0 (bR9 f B1 s0).2 := by
  obtain ⟨o1, s1, hq1⟩ : ∃ oo tt, (aGate false B1) s0 = (oo, tt) := ⟨_, _, rfl⟩
  have x1 := (aC_eq hq1 (aGate_ext hB1 _ _)).2.2.2.2
  obtain ⟨o2, s2, hq2⟩ : ∃ oo tt, (aUncurryK f o1) s1 = (oo, tt) := ⟨_, _, rfl⟩
  have x2 := x1.tr ((aC_eq hq2 (aUncurry_ext _ _ _ _)).2.2.2.2)
  rw [bR9_eq hq1 hq2]; exact x2
def bR10 (f : Nat) (B1 : Act) : Act := fun s =>
  let q1 := (aGate false B1) s
  (aRejoinK f q1.1) q1.2
theorem bR10_eq {f : Nat} {B1 : Act} {o1 o2 : Option Nat} {s s1 s2 : NSt} (h1 : (aGate false B1) s = (o1, s1)) (h2 : (aRejoinK f o1) s1 = (o2, s2)) : bR10 f B1 s = (o2, s2) := by
  unfold bR10
  simp only [h1, h2]
theorem bR10_ext (f : Nat) (B1 : Act) (hB1 : ∀ s, sExt s (B1 s).2) (s0 : NSt) : sExt s0 (bR10 f B1 s0).2 := by
  obtain ⟨o1, s1, hq1⟩ : ∃ oo tt, (aGate false B1) s0 = (oo, tt) := ⟨_, _, rfl⟩
  have x1 := (aC_eq hq1 (aGate_ext hB1 _ _)).2.2.2.2
  obtain ⟨o2, s2, hq2⟩ : ∃ oo tt, (aRejoinK f o1) s1 = (oo, tt) := ⟨_, _, rfl⟩
  have x2 := x1.tr ((aC_eq hq2 (aRejoin_ext _ _ _ _ _)).2.2.2.2)
  rw [bR10_eq hq1 hq2]; exact x2
def bR11 (goal : Nat) (B1 : Act) : Act := fun s =>
  let q1 := (aGate false B1) s
  (aGate q1.1.isNone (aNode (6, goal, q1.1.getD 0, 0, 0))) q1.2
theorem bR11_eq {goal : Nat} {B1 : Act} {o1 o2 : Option Nat} {s s1 s2 : NSt} (h1 : (aGate false B1) s = (o1, s1)) (h2 : (aGate o1.isNone (aNode (6, goal, o1.getD 0, 0, 0))) s1 = (o2, s2)) : bR11 goal B1 s = (o2, s2) := by
  unfold bR11
  simp only [h1, h2]
theorem bR11_ext (goal : Nat) (B1 : Act) (hB1 : ∀ s, sExt s (B1 s).2) (s0 : NSt) : sExt s0 (bR11 goal B1 s0).2 := by
  obtain ⟨o1, s1, hq1⟩ : ∃ oo tt, (aGate false B1) s0 = (oo, tt) := ⟨_, _, rfl⟩
  have x1 := (aC_eq hq1 (aGate_ext hB1 _ _)).2.2.2.2
  obtain ⟨o2, s2, hq2⟩ : ∃ oo tt, (aGate o1.isNone (aNode (6, goal, o1.getD 0, 0, 0))) s1 = (oo, tt) := ⟨_, _, rfl⟩
  have x2 := x1.tr ((aC_eq hq2 (aGate_ext (aNode_ext _) _ _)).2.2.2.2)
  rw [bR11_eq hq1 hq2]; exact x2
def bR12 (goal : Nat) (B1 : Act) : Act := fun s =>
  let q1 := (aGate false B1) s
  (aGate q1.1.isNone (aNode (7, goal, q1.1.getD 0, 0, 0))) q1.2
theorem bR12_eq {goal : Nat} {B1 : Act} {o1 o2 : Option Nat} {s s1 s2 : NSt} (h1 : (aGate false B1) s = (o1, s1)) (h2 : (aGate o1.isNone (aNode (7, goal, o1.getD 0, 0, 0))) s1 = (o2, s2)) : bR12 goal B1 s = (o2, s2) := by
  unfold bR12
  simp only [h1, h2]
theorem bR12_ext (goal : Nat) (B1 : Act) (hB1 : ∀ s, sExt s (B1 s).2) (s0 : NSt) : sExt s0 (bR12 goal B1 s0).2 := by
  obtain ⟨o1, s1, hq1⟩ : ∃ oo tt, (aGate false B1) s0 = (oo, tt) := ⟨_, _, rfl⟩
  have x1 := (aC_eq hq1 (aGate_ext hB1 _ _)).2.2.2.2
  obtain ⟨o2, s2, hq2⟩ : ∃ oo tt, (aGate o1.isNone (aNode (7, goal, o1.getD 0, 0, 0))) s1 = (oo, tt) := ⟨_, _, rfl⟩
  have x2 := x1.tr ((aC_eq hq2 (aGate_ext (aNode_ext _) _ _)).2.2.2.2)
  rw [bR12_eq hq1 hq2]; exact x2
def bR13 (f : Nat) (B1 B2 : Act) : Act := fun s =>
  let q1 := (aGate false B2) s
  let q2 := (aLamO (sR s.1 f) q1.1) q1.2
  let q3 := (aGate q2.1.isNone (aNode (0, f, 0, 0, 0))) q2.2
  let q4 := (aGate q3.1.isNone B1) q3.2
  (aNestK f q2.1 q3.1 q4.1) q4.2
theorem bR13_eq {f : Nat} {B1 B2 : Act} {o1 o2 o3 o4 o5 : Option Nat} {s s1 s2 s3 s4 s5 : NSt} (h1 : (aGate false B2) s = (o1, s1)) (h2 : (aLamO (sR s.1 f) o1) s1 = (o2, s2)) (h3 : (aGate o2.isNone (aNode (0, f, 0, 0, 0))) s2 = (o3, s3)) (h4 : (aGate o3.isNone B1) s3 = (o4, s4)) (h5 : (aNestK f o2 o3 o4) s4 = (o5, s5)) : bR13 f B1 B2 s = (o5, s5) := by
  unfold bR13
  simp only [h1, h2, h3, h4, h5]
theorem bR13_ext (f : Nat) (B1 B2 : Act) (hB1 : ∀ s, sExt s (B1 s).2) (hB2 : ∀ s, sExt s (B2 s).2) (s0 : NSt) : sExt s0 (bR13 f B1 B2 s0).2 := by
  obtain ⟨o1, s1, hq1⟩ : ∃ oo tt, (aGate false B2) s0 = (oo, tt) := ⟨_, _, rfl⟩
  have x1 := (aC_eq hq1 (aGate_ext hB2 _ _)).2.2.2.2
  obtain ⟨o2, s2, hq2⟩ : ∃ oo tt, (aLamO (sR s0.1 f) o1) s1 = (oo, tt) := ⟨_, _, rfl⟩
  have x2 := x1.tr ((aC_eq hq2 (aLamO_ext _ _ _)).2.2.2.2)
  obtain ⟨o3, s3, hq3⟩ : ∃ oo tt, (aGate o2.isNone (aNode (0, f, 0, 0, 0))) s2 = (oo, tt) := ⟨_, _, rfl⟩
  have x3 := x2.tr ((aC_eq hq3 (aGate_ext (aNode_ext _) _ _)).2.2.2.2)
  obtain ⟨o4, s4, hq4⟩ : ∃ oo tt, (aGate o3.isNone B1) s3 = (oo, tt) := ⟨_, _, rfl⟩
  have x4 := x3.tr ((aC_eq hq4 (aGate_ext hB1 _ _)).2.2.2.2)
  obtain ⟨o5, s5, hq5⟩ : ∃ oo tt, (aNestK f o2 o3 o4) s4 = (oo, tt) := ⟨_, _, rfl⟩
  have x5 := x4.tr ((aC_eq hq5 (aNest_ext _ _ _ _ _ _)).2.2.2.2)
  rw [bR13_eq hq1 hq2 hq3 hq4 hq5]; exact x5
def bldR (goal r f : Nat) (B1 B2 : Act) : Act := if r = 1 then bR1 goal else if r = 2 then bR2 goal f else if r = 3 then bR3 goal B1 B2 else if r = 4 then bR4 goal B1 else if r = 5 then bR5 f B1 else if r = 6 then bR6 goal f B1 B2 else if r = 7 then bR7 f B1 else if r = 8 then bR8 B1 else if r = 9 then bR9 f B1 else if r = 10 then bR10 f B1 else if r = 11 then bR11 goal B1 else if r = 12 then bR12 goal B1 else if r = 13 then bR13 f B1 B2 else aStop
def bld (dv : Nat → Int32) : Nat → Nat → Act
  | 0, _ => aStop
  | h + 1, step => bldR (tN (dv (4 * step + 0))) (tN (dv (4 * step + 1)) % 16) (tN (dv (4 * step + 1)) / 16) (bld dv h (tN (dv (4 * step + (1 + 1))))) (bld dv h (tN (dv (4 * step + (1 + 2)))))
theorem bldR_ext {goal r f : Nat} {B1 B2 : Act} (h1 : ∀ s, sExt s (B1 s).2) (h2 : ∀ s, sExt s (B2 s).2) (s : NSt) : sExt s (bldR goal r f B1 B2 s).2 := by
  unfold bldR
  by_cases c1 : r = 1
  · rw [if_pos c1]; exact bR1_ext _  s
  rw [if_neg c1]
  by_cases c2 : r = 2
  · rw [if_pos c2]; exact bR2_ext _ _  s
  rw [if_neg c2]
  by_cases c3 : r = 3
  · rw [if_pos c3]; exact bR3_ext _ _ _ h1 h2 s
  rw [if_neg c3]
  by_cases c4 : r = 4
  · rw [if_pos c4]; exact bR4_ext _ _ h1 s
  rw [if_neg c4]
  by_cases c5 : r = 5
  · rw [if_pos c5]; exact bR5_ext _ _ h1 s
  rw [if_neg c5]
  by_cases c6 : r = 6
  · rw [if_pos c6]; exact bR6_ext _ _ _ _ h1 h2 s
  rw [if_neg c6]
  by_cases c7 : r = 7
  · rw [if_pos c7]; exact bR7_ext _ _ h1 s
  rw [if_neg c7]
  by_cases c8 : r = 8
  · rw [if_pos c8]; exact bR8_ext _ h1 s
  rw [if_neg c8]
  by_cases c9 : r = 9
  · rw [if_pos c9]; exact bR9_ext _ _ h1 s
  rw [if_neg c9]
  by_cases c10 : r = 10
  · rw [if_pos c10]; exact bR10_ext _ _ h1 s
  rw [if_neg c10]
  by_cases c11 : r = 11
  · rw [if_pos c11]; exact bR11_ext _ _ h1 s
  rw [if_neg c11]
  by_cases c12 : r = 12
  · rw [if_pos c12]; exact bR12_ext _ _ h1 s
  rw [if_neg c12]
  by_cases c13 : r = 13
  · rw [if_pos c13]; exact bR13_ext _ _ _ h1 h2 s
  rw [if_neg c13]
  exact sExt.rf s
theorem bld_ext (dv : Nat → Int32) : ∀ (h step : Nat) (s : NSt), sExt s (bld dv h step s).2
  | 0, _, s => sExt.rf s
  | h + 1, step, s => bldR_ext (bld_ext dv h _) (bld_ext dv h _) s
theorem bld_eq {dv : Nat → Int32} {h step goal r f : Nat} (h1 : dv (4 * step + 0) = nI goal) (h2 : dv (4 * step + 1) = nI (16 * f + r)) (hg : goal ≤ 600) (hf : f ≤ 600) (hr : r ≤ 13) : bld dv (h + 1) step = bldR goal r f (bld dv h (tN (dv (4 * step + (1 + 1))))) (bld dv h (tN (dv (4 * step + (1 + 2))))) := by
  rw [bld, h1, h2, tN_nI (by omega), tN_nI (by omega), show (16 * f + r) % 16 = r by omega, show (16 * f + r) / 16 = f by omega]
theorem sw13 {r : Nat} (h : 1 ≤ r ∧ r ≤ 13) (k : ∀ v, 1 ≤ v → v ≤ 13 → ¬ nI r = nI v) : False := k r h.1 h.2 rfl
theorem c_X3_uncurryK (l : Launch) (G : rG) {n : Nat} {ad : Nat → Nat} {en : Nat → va_E} {s0 : NSt} {jd RR SL : Nat} {S : Nat → Nat → Bool} {sf : Nat → Int32} {o : Option Nat} (hW : PmW G n ad en s0 jd RR SL S sf o.isNone) {f gt : Nat} (hf : 1 ≤ f ∧ f ≤ s0.1.length) (h2 : 2 ≤ sSort s0.1 f) (h3 : 2 ≤ sSort s0.1 (sL s0.1 f)) (ho : oNd s0 o gt) (hgt : 1 ≤ gt) (hx : ∃ gi g, hasRow s0.1 gi (4, sR s0.1 (sL s0.1 f), sR s0.1 f, 0, 0) ∧ hasRow s0.1 g (4, sL s0.1 (sL s0.1 f), gi, 0, 0)) : CI l G yX3_uncurry uX3_uncurry (5) (168) (aC (aUncurryK f o) s0) (aS (aUncurryK f o) s0) [.ref (ad 21), .int (nI f), .int (aR o)] n n ad en (aPostG G n jd RR SL S sf (aUncurryK f o) s0 ad en) := by
  have hok : ssOK s0.1 := hW.1.2.2.2.2.2
  obtain ⟨gi, g, q1, q2⟩ := hx
  have e1 := kFind_of hok q1
  have e2 := kFind_of hok q2
  exact c_X3_uncurry l G hW (g := kFind s0.1 (4, sL s0.1 (sL s0.1 f), kFind s0.1 (4, sR s0.1 (sL s0.1 f), sR s0.1 f, 0, 0), 0, 0)) hf h2 h3 ho hgt (by rw [e1, e2]; exact ⟨q2.1, q2.2.1⟩) (gi := gi) ⟨e1, q1.2.1⟩ (by rw [e1])
theorem c_X3_rejoinK (l : Launch) (G : rG) {n : Nat} {ad : Nat → Nat} {en : Nat → va_E} {s0 : NSt} {jd RR SL : Nat} {S : Nat → Nat → Bool} {sf : Nat → Int32} {o : Option Nat} (hW : PmW G n ad en s0 jd RR SL S sf o.isNone) {f gt : Nat} (hf : 1 ≤ f ∧ f ≤ s0.1.length) (h2 : 2 ≤ sSort s0.1 f) (h3 : 2 ≤ sSort s0.1 (sL s0.1 f)) (ho : oNd s0 o gt) (hgt : 1 ≤ gt) (hx : ∃ g, hasRow s0.1 g (4, sL s0.1 (sL s0.1 f), sR s0.1 f, 0, 0)) (hy : ∃ h, hasRow s0.1 h (4, sR s0.1 (sL s0.1 f), sR s0.1 f, 0, 0)) : CI l G yX3_rejoin uX3_rejoin (5) (168) (aC (aRejoinK f o) s0) (aS (aRejoinK f o) s0) [.ref (ad 21), .int (nI f), .int (aR o)] n n ad en (aPostG G n jd RR SL S sf (aRejoinK f o) s0 ad en) := by
  have hok : ssOK s0.1 := hW.1.2.2.2.2.2
  obtain ⟨g, q1⟩ := hx
  obtain ⟨h, q2⟩ := hy
  have e1 := kFind_of hok q1
  have e2 := kFind_of hok q2
  exact c_X3_rejoin l G hW (g := kFind s0.1 (4, sL s0.1 (sL s0.1 f), sR s0.1 f, 0, 0)) (h := kFind s0.1 (4, sR s0.1 (sL s0.1 f), sR s0.1 f, 0, 0)) hf h2 h3 ho hgt (by rw [e1]; exact ⟨q1.1, q1.2.1⟩) (by rw [e2]; exact ⟨q2.1, q2.2.1⟩) rfl rfl
theorem c_X3_nestK (l : Launch) (G : rG) {n : Nat} {ad : Nat → Nat} {en : Nat → va_E} {s0 : NSt} {jd RR SL : Nat} {S : Nat → Nat → Bool} {sf : Nat → Int32} {o : Option Nat} (hW : PmW G n ad en s0 jd RR SL S sf o.isNone) {f gt : Nat} {gE : Nat} {oE oG : Option Nat} (hf : 1 ≤ f ∧ f ≤ s0.1.length) (h2 : 2 ≤ sSort s0.1 f) (h3 : 2 ≤ sSort s0.1 (sL s0.1 f)) (ho : oNd s0 o gt) (hgt : 1 ≤ gt) (hoE : oFn s0 oE gE) (hgE : 1 ≤ gE) (hoG : oNd s0 oG f) (hEG : oE = none → oG = none) (hGo : oG = none → o = none) (hx : ∃ g, hasRow s0.1 g (4, sR s0.1 (sL s0.1 f), sR s0.1 f, 0, 0)) : CI l G yX3_nest uX3_nest (5) (166) (aC (aNestK f oE oG o) s0) (aS (aNestK f oE oG o) s0) [.ref (ad 21), .int (nI f), .int (aR oE), .int (aR oG), .int (aR o)] n n ad en (aPostG G n jd RR SL S sf (aNestK f oE oG o) s0 ad en) := by
  have hok : ssOK s0.1 := hW.1.2.2.2.2.2
  obtain ⟨g, q1⟩ := hx
  have e1 := kFind_of hok q1
  exact c_X3_nest l G hW (g := kFind s0.1 (4, sR s0.1 (sL s0.1 f), sR s0.1 f, 0, 0)) hf h2 h3 ho hgt hoE hgE hoG hEG hGo (by rw [e1]; exact ⟨q1.1, q1.2.1⟩) rfl

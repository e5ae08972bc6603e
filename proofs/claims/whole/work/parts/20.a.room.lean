/-! THE ROOM -/
def sLm (s t : NSt) : Prop := (s.1.length ≤ 600 → t.1.length ≤ 600) ∧ (s.2.length ≤ 8000 → t.2.length ≤ 8000)
theorem sLm.rf (s : NSt) : sLm s s := ⟨id, id⟩
theorem sLm.tr {s t u : NSt} (h1 : sLm s t) (h2 : sLm t u) : sLm s u := ⟨fun q => h2.1 (h1.1 q), fun q => h2.2 (h1.2 q)⟩
theorem lm_eq {A : Act} {s s1 : NSt} {o : Option Nat} (h : A s = (o, s1)) (he : sLm s (A s).2) : True ∧ True ∧ True ∧ True ∧ sLm s s1 := by
  rw [h] at he
  exact ⟨trivial, trivial, trivial, trivial, he⟩
theorem kApp_lim {m : Nat} {ks : List Row} {r : Row} (h : ks.length ≤ m) : (kApp m ks r).length ≤ m := by
  unfold kApp
  split
  · rw [List.length_append]; show ks.length + 1 ≤ m; omega
  · exact h
theorem nMake_lim {ns : List Row} {r : Row} (h : ns.length ≤ 8000) : (nMake ns r).length ≤ 8000 := by
  unfold nMake
  split
  · exact kApp_lim h
  · exact h
theorem sMake_lim {ss : List Row} {r : Row} (h : ss.length ≤ 600) : (sMake ss r).length ≤ 600 := by
  unfold sMake
  split
  · exact kApp_lim h
  · exact h
theorem aNode_lim (r : Row) (s : NSt) : sLm s (aNode r s).2 := by
  rw [aNode_st]
  exact ⟨id, nMake_lim⟩
theorem aImp_lim (a b : Nat) (s : NSt) : sLm s (aImp a b s).2 := by
  rw [aImp_st]
  exact ⟨sMake_lim, id⟩
theorem aLam_lim (a t : Nat) (s : NSt) : sLm s (aLam a t s).2 := by
  have h := aImp_lim a (nG s.2 t) s
  rw [aImp_st] at h
  cases e : (aImp a (nG s.2 t) s).1 with
  | none => rw [aLam_none e]; exact h
  | some g => rw [aLam_some e]; exact h.tr (aNode_lim _ _)
theorem aLamO_lim (a : Nat) (o : Option Nat) (s : NSt) : sLm s (aLamO a o s).2 := by
  cases o with
  | none => exact sLm.rf s
  | some t => exact aLam_lim a t s
theorem aAppO_lim (o1 o2 : Option Nat) (s : NSt) : sLm s (aAppO o1 o2 s).2 := by
  cases o1 with
  | none => exact sLm.rf s
  | some t =>
    cases o2 with
    | none => exact sLm.rf s
    | some u => exact aNode_lim _ s
theorem aGate_lim {A : Act} (h : ∀ s, sLm s (A s).2) (fl : Bool) (s : NSt) : sLm s (aGate fl A s).2 := by
  cases fl with
  | true => exact sLm.rf s
  | false => exact h s
theorem aFire_lim (f : Nat) (o : Option Nat) (s0 : NSt) : sLm s0 (aFire f o s0).2 := by
  obtain ⟨o1, s1, hq1⟩ : ∃ oo tt, (aLamO (sR s0.1 f) o) s0 = (oo, tt) := ⟨_, _, rfl⟩
  have x1 := (lm_eq hq1 (aLamO_lim _ _ _)).2.2.2.2
  obtain ⟨o2, s2, hq2⟩ : ∃ oo tt, (aGate o1.isNone (aNode (0, f, 0, 0, 0))) s1 = (oo, tt) := ⟨_, _, rfl⟩
  have x2 := x1.tr ((lm_eq hq2 (aGate_lim (aNode_lim _) _ _)).2.2.2.2)
  obtain ⟨o3, s3, hq3⟩ : ∃ oo tt, (aGate o2.isNone (aNode (0, sL s0.1 f, 0, 0, 0))) s2 = (oo, tt) := ⟨_, _, rfl⟩
  have x3 := x2.tr ((lm_eq hq3 (aGate_lim (aNode_lim _) _ _)).2.2.2.2)
  obtain ⟨o4, s4, hq4⟩ : ∃ oo tt, (aAppO o2 o3) s3 = (oo, tt) := ⟨_, _, rfl⟩
  have x4 := x3.tr ((lm_eq hq4 (aAppO_lim _ _ _)).2.2.2.2)
  obtain ⟨o5, s5, hq5⟩ : ∃ oo tt, (aAppO o1 o4) s4 = (oo, tt) := ⟨_, _, rfl⟩
  have x5 := x4.tr ((lm_eq hq5 (aAppO_lim _ _ _)).2.2.2.2)
  rw [aFire_eq hq1 hq2 hq3 hq4 hq5]; exact x5
theorem aUnpack_lim (f : Nat) (o : Option Nat) (s0 : NSt) : sLm s0 (aUnpack f o s0).2 := by
  obtain ⟨o1, s1, hq1⟩ : ∃ oo tt, (aLamO (sR s0.1 f) o) s0 = (oo, tt) := ⟨_, _, rfl⟩
  have x1 := (lm_eq hq1 (aLamO_lim _ _ _)).2.2.2.2
  obtain ⟨o2, s2, hq2⟩ : ∃ oo tt, (aLamO (sL s0.1 f) o1) s1 = (oo, tt) := ⟨_, _, rfl⟩
  have x2 := x1.tr ((lm_eq hq2 (aLamO_lim _ _ _)).2.2.2.2)
  obtain ⟨o3, s3, hq3⟩ : ∃ oo tt, (aGate o2.isNone (aNode (0, f, 0, 0, 0))) s2 = (oo, tt) := ⟨_, _, rfl⟩
  have x3 := x2.tr ((lm_eq hq3 (aGate_lim (aNode_lim _) _ _)).2.2.2.2)
  obtain ⟨o4, s4, hq4⟩ : ∃ oo tt, (aGate o3.isNone (aNode (4, sL s0.1 f, o3.getD 0, 0, 0))) s3 = (oo, tt) := ⟨_, _, rfl⟩
  have x4 := x3.tr ((lm_eq hq4 (aGate_lim (aNode_lim _) _ _)).2.2.2.2)
  obtain ⟨o5, s5, hq5⟩ : ∃ oo tt, (aAppO o2 o4) s4 = (oo, tt) := ⟨_, _, rfl⟩
  have x5 := x4.tr ((lm_eq hq5 (aAppO_lim _ _ _)).2.2.2.2)
  obtain ⟨o6, s6, hq6⟩ : ∃ oo tt, (aGate o5.isNone (aNode (0, f, 0, 0, 0))) s5 = (oo, tt) := ⟨_, _, rfl⟩
  have x6 := x5.tr ((lm_eq hq6 (aGate_lim (aNode_lim _) _ _)).2.2.2.2)
  obtain ⟨o7, s7, hq7⟩ : ∃ oo tt, (aGate o6.isNone (aNode (5, sR s0.1 f, o6.getD 0, 0, 0))) s6 = (oo, tt) := ⟨_, _, rfl⟩
  have x7 := x6.tr ((lm_eq hq7 (aGate_lim (aNode_lim _) _ _)).2.2.2.2)
  obtain ⟨o8, s8, hq8⟩ : ∃ oo tt, (aAppO o5 o7) s7 = (oo, tt) := ⟨_, _, rfl⟩
  have x8 := x7.tr ((lm_eq hq8 (aAppO_lim _ _ _)).2.2.2.2)
  rw [aUnpack_eq hq1 hq2 hq3 hq4 hq5 hq6 hq7 hq8]; exact x8
theorem aUncurry_lim (f g : Nat) (o : Option Nat) (s0 : NSt) : sLm s0 (aUncurry f g o s0).2 := by
  obtain ⟨o1, s1, hq1⟩ : ∃ oo tt, (aLamO (g) o) s0 = (oo, tt) := ⟨_, _, rfl⟩
  have x1 := (lm_eq hq1 (aLamO_lim _ _ _)).2.2.2.2
  obtain ⟨o2, s2, hq2⟩ : ∃ oo tt, (aGate o1.isNone (aNode (0, f, 0, 0, 0))) s1 = (oo, tt) := ⟨_, _, rfl⟩
  have x2 := x1.tr ((lm_eq hq2 (aGate_lim (aNode_lim _) _ _)).2.2.2.2)
  obtain ⟨o3, s3, hq3⟩ : ∃ oo tt, (aGate o2.isNone (aNode (0, sL s0.1 (sL s0.1 f), 0, 0, 0))) s2 = (oo, tt) := ⟨_, _, rfl⟩
  have x3 := x2.tr ((lm_eq hq3 (aGate_lim (aNode_lim _) _ _)).2.2.2.2)
  obtain ⟨o4, s4, hq4⟩ : ∃ oo tt, (aGate o3.isNone (aNode (0, sR s0.1 (sL s0.1 f), 0, 0, 0))) s3 = (oo, tt) := ⟨_, _, rfl⟩
  have x4 := x3.tr ((lm_eq hq4 (aGate_lim (aNode_lim _) _ _)).2.2.2.2)
  obtain ⟨o5, s5, hq5⟩ : ∃ oo tt, (aGate o4.isNone (aNode (3, sL s0.1 f, o3.getD 0, o4.getD 0, 0))) s4 = (oo, tt) := ⟨_, _, rfl⟩
  have x5 := x4.tr ((lm_eq hq5 (aGate_lim (aNode_lim _) _ _)).2.2.2.2)
  obtain ⟨o6, s6, hq6⟩ : ∃ oo tt, (aAppO o2 o5) s5 = (oo, tt) := ⟨_, _, rfl⟩
  have x6 := x5.tr ((lm_eq hq6 (aAppO_lim _ _ _)).2.2.2.2)
  obtain ⟨o7, s7, hq7⟩ : ∃ oo tt, (aLamO (sR s0.1 (sL s0.1 f)) o6) s6 = (oo, tt) := ⟨_, _, rfl⟩
  have x7 := x6.tr ((lm_eq hq7 (aLamO_lim _ _ _)).2.2.2.2)
  obtain ⟨o8, s8, hq8⟩ : ∃ oo tt, (aLamO (sL s0.1 (sL s0.1 f)) o7) s7 = (oo, tt) := ⟨_, _, rfl⟩
  have x8 := x7.tr ((lm_eq hq8 (aLamO_lim _ _ _)).2.2.2.2)
  obtain ⟨o9, s9, hq9⟩ : ∃ oo tt, (aAppO o1 o8) s8 = (oo, tt) := ⟨_, _, rfl⟩
  have x9 := x8.tr ((lm_eq hq9 (aAppO_lim _ _ _)).2.2.2.2)
  rw [aUncurry_eq hq1 hq2 hq3 hq4 hq5 hq6 hq7 hq8 hq9]; exact x9
theorem aRejoin_lim (f g h : Nat) (o : Option Nat) (s0 : NSt) : sLm s0 (aRejoin f g h o s0).2 := by
  obtain ⟨o1, s1, hq1⟩ : ∃ oo tt, (aLamO (h) o) s0 = (oo, tt) := ⟨_, _, rfl⟩
  have x1 := (lm_eq hq1 (aLamO_lim _ _ _)).2.2.2.2
  obtain ⟨o2, s2, hq2⟩ : ∃ oo tt, (aLamO (g) o1) s1 = (oo, tt) := ⟨_, _, rfl⟩
  have x2 := x1.tr ((lm_eq hq2 (aLamO_lim _ _ _)).2.2.2.2)
  obtain ⟨o3, s3, hq3⟩ : ∃ oo tt, (aGate o2.isNone (aNode (0, f, 0, 0, 0))) s2 = (oo, tt) := ⟨_, _, rfl⟩
  have x3 := x2.tr ((lm_eq hq3 (aGate_lim (aNode_lim _) _ _)).2.2.2.2)
  obtain ⟨o4, s4, hq4⟩ : ∃ oo tt, (aGate o3.isNone (aNode (0, sL s0.1 (sL s0.1 f), 0, 0, 0))) s3 = (oo, tt) := ⟨_, _, rfl⟩
  have x4 := x3.tr ((lm_eq hq4 (aGate_lim (aNode_lim _) _ _)).2.2.2.2)
  obtain ⟨o5, s5, hq5⟩ : ∃ oo tt, (aGate o4.isNone (aNode (6, sL s0.1 f, o4.getD 0, 0, 0))) s4 = (oo, tt) := ⟨_, _, rfl⟩
  have x5 := x4.tr ((lm_eq hq5 (aGate_lim (aNode_lim _) _ _)).2.2.2.2)
  obtain ⟨o6, s6, hq6⟩ : ∃ oo tt, (aAppO o3 o5) s5 = (oo, tt) := ⟨_, _, rfl⟩
  have x6 := x5.tr ((lm_eq hq6 (aAppO_lim _ _ _)).2.2.2.2)
  obtain ⟨o7, s7, hq7⟩ : ∃ oo tt, (aLamO (sL s0.1 (sL s0.1 f)) o6) s6 = (oo, tt) := ⟨_, _, rfl⟩
  have x7 := x6.tr ((lm_eq hq7 (aLamO_lim _ _ _)).2.2.2.2)
  obtain ⟨o8, s8, hq8⟩ : ∃ oo tt, (aAppO o2 o7) s7 = (oo, tt) := ⟨_, _, rfl⟩
  have x8 := x7.tr ((lm_eq hq8 (aAppO_lim _ _ _)).2.2.2.2)
  obtain ⟨o9, s9, hq9⟩ : ∃ oo tt, (aGate o8.isNone (aNode (0, f, 0, 0, 0))) s8 = (oo, tt) := ⟨_, _, rfl⟩
  have x9 := x8.tr ((lm_eq hq9 (aGate_lim (aNode_lim _) _ _)).2.2.2.2)
  obtain ⟨o10, s10, hq10⟩ : ∃ oo tt, (aGate o9.isNone (aNode (0, sR s0.1 (sL s0.1 f), 0, 0, 0))) s9 = (oo, tt) := ⟨_, _, rfl⟩
  have x10 := x9.tr ((lm_eq hq10 (aGate_lim (aNode_lim _) _ _)).2.2.2.2)
  obtain ⟨o11, s11, hq11⟩ : ∃ oo tt, (aGate o10.isNone (aNode (7, sL s0.1 f, o10.getD 0, 0, 0))) s10 = (oo, tt) := ⟨_, _, rfl⟩
  have x11 := x10.tr ((lm_eq hq11 (aGate_lim (aNode_lim _) _ _)).2.2.2.2)
  obtain ⟨o12, s12, hq12⟩ : ∃ oo tt, (aAppO o9 o11) s11 = (oo, tt) := ⟨_, _, rfl⟩
  have x12 := x11.tr ((lm_eq hq12 (aAppO_lim _ _ _)).2.2.2.2)
  obtain ⟨o13, s13, hq13⟩ : ∃ oo tt, (aLamO (sR s0.1 (sL s0.1 f)) o12) s12 = (oo, tt) := ⟨_, _, rfl⟩
  have x13 := x12.tr ((lm_eq hq13 (aLamO_lim _ _ _)).2.2.2.2)
  obtain ⟨o14, s14, hq14⟩ : ∃ oo tt, (aAppO o8 o13) s13 = (oo, tt) := ⟨_, _, rfl⟩
  have x14 := x13.tr ((lm_eq hq14 (aAppO_lim _ _ _)).2.2.2.2)
  rw [aRejoin_eq hq1 hq2 hq3 hq4 hq5 hq6 hq7 hq8 hq9 hq10 hq11 hq12 hq13 hq14]; exact x14
theorem aNest_lim (f g : Nat) (oE oG o : Option Nat) (s0 : NSt) : sLm s0 (aNest f g oE oG o s0).2 := by
  obtain ⟨o1, s1, hq1⟩ : ∃ oo tt, (aLamO (g) o) s0 = (oo, tt) := ⟨_, _, rfl⟩
  have x1 := (lm_eq hq1 (aLamO_lim _ _ _)).2.2.2.2
  obtain ⟨o2, s2, hq2⟩ : ∃ oo tt, (aGate o1.isNone (aNode (0, f, 0, 0, 0))) s1 = (oo, tt) := ⟨_, _, rfl⟩
  have x2 := x1.tr ((lm_eq hq2 (aGate_lim (aNode_lim _) _ _)).2.2.2.2)
  obtain ⟨o3, s3, hq3⟩ : ∃ oo tt, (aGate o2.isNone (aNode (0, sR s0.1 (sL s0.1 f), 0, 0, 0))) s2 = (oo, tt) := ⟨_, _, rfl⟩
  have x3 := x2.tr ((lm_eq hq3 (aGate_lim (aNode_lim _) _ _)).2.2.2.2)
  obtain ⟨o4, s4, hq4⟩ : ∃ oo tt, (aLamO (sL s0.1 (sL s0.1 f)) o3) s3 = (oo, tt) := ⟨_, _, rfl⟩
  have x4 := x3.tr ((lm_eq hq4 (aLamO_lim _ _ _)).2.2.2.2)
  obtain ⟨o5, s5, hq5⟩ : ∃ oo tt, (aAppO o2 o4) s4 = (oo, tt) := ⟨_, _, rfl⟩
  have x5 := x4.tr ((lm_eq hq5 (aAppO_lim _ _ _)).2.2.2.2)
  obtain ⟨o6, s6, hq6⟩ : ∃ oo tt, (aLamO (sR s0.1 (sL s0.1 f)) o5) s5 = (oo, tt) := ⟨_, _, rfl⟩
  have x6 := x5.tr ((lm_eq hq6 (aLamO_lim _ _ _)).2.2.2.2)
  obtain ⟨o7, s7, hq7⟩ : ∃ oo tt, (aAppO o1 o6) s6 = (oo, tt) := ⟨_, _, rfl⟩
  have x7 := x6.tr ((lm_eq hq7 (aAppO_lim _ _ _)).2.2.2.2)
  obtain ⟨o8, s8, hq8⟩ : ∃ oo tt, (aAppO oG o7) s7 = (oo, tt) := ⟨_, _, rfl⟩
  have x8 := x7.tr ((lm_eq hq8 (aAppO_lim _ _ _)).2.2.2.2)
  obtain ⟨o9, s9, hq9⟩ : ∃ oo tt, (aAppO oE o8) s8 = (oo, tt) := ⟨_, _, rfl⟩
  have x9 := x8.tr ((lm_eq hq9 (aAppO_lim _ _ _)).2.2.2.2)
  rw [aNest_eq hq1 hq2 hq3 hq4 hq5 hq6 hq7 hq8 hq9]; exact x9
theorem bR1_lim (goal : Nat) (s0 : NSt) : sLm s0 (bR1 goal s0).2 := by
  obtain ⟨o1, s1, hq1⟩ : ∃ oo tt, (aGate false (aNode (0, goal, 0, 0, 0))) s0 = (oo, tt) := ⟨_, _, rfl⟩
  have x1 := (lm_eq hq1 (aGate_lim (aNode_lim _) _ _)).2.2.2.2
  rw [bR1_eq hq1]; exact x1
theorem bR2_lim (goal f : Nat) (s0 : NSt) : sLm s0 (bR2 goal f s0).2 := by
  obtain ⟨o1, s1, hq1⟩ : ∃ oo tt, (aGate false (aNode (0, f, 0, 0, 0))) s0 = (oo, tt) := ⟨_, _, rfl⟩
  have x1 := (lm_eq hq1 (aGate_lim (aNode_lim _) _ _)).2.2.2.2
  obtain ⟨o2, s2, hq2⟩ : ∃ oo tt, (aGate o1.isNone (aNode (9, goal, o1.getD 0, 0, 0))) s1 = (oo, tt) := ⟨_, _, rfl⟩
  have x2 := x1.tr ((lm_eq hq2 (aGate_lim (aNode_lim _) _ _)).2.2.2.2)
  rw [bR2_eq hq1 hq2]; exact x2
theorem bR3_lim (goal : Nat) (B1 B2 : Act) (hB1 : ∀ s, sLm s (B1 s).2) (hB2 : ∀ s, sLm s (B2 s).2) (s0 : NSt) : sLm s0 (bR3 goal B1 B2 s0).2 := by
  obtain ⟨o1, s1, hq1⟩ : ∃ oo tt, (aGate false B1) s0 = (oo, tt) := ⟨_, _, rfl⟩
  have x1 := (lm_eq hq1 (aGate_lim hB1 _ _)).2.2.2.2
  obtain ⟨o2, s2, hq2⟩ : ∃ oo tt, (aGate o1.isNone B2) s1 = (oo, tt) := ⟨_, _, rfl⟩
  have x2 := x1.tr ((lm_eq hq2 (aGate_lim hB2 _ _)).2.2.2.2)
  obtain ⟨o3, s3, hq3⟩ : ∃ oo tt, (aGate o2.isNone (aNode (3, goal, o1.getD 0, o2.getD 0, 0))) s2 = (oo, tt) := ⟨_, _, rfl⟩
  have x3 := x2.tr ((lm_eq hq3 (aGate_lim (aNode_lim _) _ _)).2.2.2.2)
  rw [bR3_eq hq1 hq2 hq3]; exact x3
theorem bR4_lim (goal : Nat) (B1 : Act) (hB1 : ∀ s, sLm s (B1 s).2) (s0 : NSt) : sLm s0 (bR4 goal B1 s0).2 := by
  obtain ⟨o1, s1, hq1⟩ : ∃ oo tt, (aGate false B1) s0 = (oo, tt) := ⟨_, _, rfl⟩
  have x1 := (lm_eq hq1 (aGate_lim hB1 _ _)).2.2.2.2
  obtain ⟨o2, s2, hq2⟩ : ∃ oo tt, (aLamO (sL s0.1 goal) o1) s1 = (oo, tt) := ⟨_, _, rfl⟩
  have x2 := x1.tr ((lm_eq hq2 (aLamO_lim _ _ _)).2.2.2.2)
  rw [bR4_eq hq1 hq2]; exact x2
theorem bR5_lim (f : Nat) (B1 : Act) (hB1 : ∀ s, sLm s (B1 s).2) (s0 : NSt) : sLm s0 (bR5 f B1 s0).2 := by
  obtain ⟨o1, s1, hq1⟩ : ∃ oo tt, (aGate false B1) s0 = (oo, tt) := ⟨_, _, rfl⟩
  have x1 := (lm_eq hq1 (aGate_lim hB1 _ _)).2.2.2.2
  obtain ⟨o2, s2, hq2⟩ : ∃ oo tt, (aUnpack f o1) s1 = (oo, tt) := ⟨_, _, rfl⟩
  have x2 := x1.tr ((lm_eq hq2 (aUnpack_lim _ _ _)).2.2.2.2)
  rw [bR5_eq hq1 hq2]; exact x2
theorem bR6_lim (goal f : Nat) (B1 B2 : Act) (hB1 : ∀ s, sLm s (B1 s).2) (hB2 : ∀ s, sLm s (B2 s).2) (s0 : NSt) : sLm s0 (bR6 goal f B1 B2 s0).2 := by
  obtain ⟨o1, s1, hq1⟩ : ∃ oo tt, (aGate false (aNode (0, f, 0, 0, 0))) s0 = (oo, tt) := ⟨_, _, rfl⟩
  have x1 := (lm_eq hq1 (aGate_lim (aNode_lim _) _ _)).2.2.2.2
  obtain ⟨o2, s2, hq2⟩ : ∃ oo tt, (aGate o1.isNone B1) s1 = (oo, tt) := ⟨_, _, rfl⟩
  have x2 := x1.tr ((lm_eq hq2 (aGate_lim hB1 _ _)).2.2.2.2)
  obtain ⟨o3, s3, hq3⟩ : ∃ oo tt, (aGate o2.isNone B2) s2 = (oo, tt) := ⟨_, _, rfl⟩
  have x3 := x2.tr ((lm_eq hq3 (aGate_lim hB2 _ _)).2.2.2.2)
  obtain ⟨o4, s4, hq4⟩ : ∃ oo tt, (aGate o3.isNone (aNode (8, goal, o1.getD 0, o2.getD 0, o3.getD 0))) s3 = (oo, tt) := ⟨_, _, rfl⟩
  have x4 := x3.tr ((lm_eq hq4 (aGate_lim (aNode_lim _) _ _)).2.2.2.2)
  rw [bR6_eq hq1 hq2 hq3 hq4]; exact x4
theorem bR7_lim (f : Nat) (B1 : Act) (hB1 : ∀ s, sLm s (B1 s).2) (s0 : NSt) : sLm s0 (bR7 f B1 s0).2 := by
  obtain ⟨o1, s1, hq1⟩ : ∃ oo tt, (aGate false B1) s0 = (oo, tt) := ⟨_, _, rfl⟩
  have x1 := (lm_eq hq1 (aGate_lim hB1 _ _)).2.2.2.2
  obtain ⟨o2, s2, hq2⟩ : ∃ oo tt, (aFire f o1) s1 = (oo, tt) := ⟨_, _, rfl⟩
  have x2 := x1.tr ((lm_eq hq2 (aFire_lim _ _ _)).2.2.2.2)
  rw [bR7_eq hq1 hq2]; exact x2
theorem bR8_lim (B1 : Act) (hB1 : ∀ s, sLm s (B1 s).2) (s0 : NSt) : sLm s0 (bR8 B1 s0).2 := by
  obtain ⟨o1, s1, hq1⟩ : ∃ oo tt, (aGate false B1) s0 = (oo, tt) := ⟨_, _, rfl⟩
  have x1 := (lm_eq hq1 (aGate_lim hB1 _ _)).2.2.2.2
  rw [bR8_eq hq1]; exact x1
theorem bR9_lim (f : Nat) (B1 : Act) (hB1 : ∀ s, sLm s (B1 s).2) (s0 : NSt) : sLm s0 (bR9 f B1 s0).2 := by
  obtain ⟨o1, s1, hq1⟩ : ∃ oo tt, (aGate false B1) s0 = (oo, tt) := ⟨_, _, rfl⟩
  have x1 := (lm_eq hq1 (aGate_lim hB1 _ _)).2.2.2.2
  obtain ⟨o2, s2, hq2⟩ : ∃ oo tt, (aUncurryK f o1) s1 = (oo, tt) := ⟨_, _, rfl⟩
  have x2 := x1.tr ((lm_eq hq2 (aUncurry_lim _ _ _ _)).2.2.2.2)
  rw [bR9_eq hq1 hq2]; exact x2
theorem bR10_lim (f : Nat) (B1 : Act) (hB1 : ∀ s, sLm s (B1 s).2) (s0 : NSt) : sLm s0 (bR10 f B1 s0).2 := by
  obtain ⟨o1, s1, hq1⟩ : ∃ oo tt, (aGate false B1) s0 = (oo, tt) := ⟨_, _, rfl⟩
  have x1 := (lm_eq hq1 (aGate_lim hB1 _ _)).2.2.2.2
  obtain ⟨o2, s2, hq2⟩ : ∃ oo tt, (aRejoinK f o1) s1 = (oo, tt) := ⟨_, _, rfl⟩
  have x2 := x1.tr ((lm_eq hq2 (aRejoin_lim _ _ _ _ _)).2.2.2.2)
  rw [bR10_eq hq1 hq2]; exact x2
theorem bR11_lim (goal : Nat) (B1 : Act) (hB1 : ∀ s, sLm s (B1 s).2) (s0 : NSt) : sLm s0 (bR11 goal B1 s0).2 := by
  obtain ⟨o1, s1, hq1⟩ : ∃ oo tt, (aGate false B1) s0 = (oo, tt) := ⟨_, _, rfl⟩
  have x1 := (lm_eq hq1 (aGate_lim hB1 _ _)).2.2.2.2
  obtain ⟨o2, s2, hq2⟩ : ∃ oo tt, (aGate o1.isNone (aNode (6, goal, o1.getD 0, 0, 0))) s1 = (oo, tt) := ⟨_, _, rfl⟩
  have x2 := x1.tr ((lm_eq hq2 (aGate_lim (aNode_lim _) _ _)).2.2.2.2)
  rw [bR11_eq hq1 hq2]; exact x2
theorem bR12_lim (goal : Nat) (B1 : Act) (hB1 : ∀ s, sLm s (B1 s).2) (s0 : NSt) : sLm s0 (bR12 goal B1 s0).2 := by
  obtain ⟨o1, s1, hq1⟩ : ∃ oo tt, (aGate false B1) s0 = (oo, tt) := ⟨_, _, rfl⟩
  have x1 := (lm_eq hq1 (aGate_lim hB1 _ _)).2.2.2.2
  obtain ⟨o2, s2, hq2⟩ : ∃ oo tt, (aGate o1.isNone (aNode (7, goal, o1.getD 0, 0, 0))) s1 = (oo, tt) := ⟨_, _, rfl⟩
  have x2 := x1.tr ((lm_eq hq2 (aGate_lim (aNode_lim _) _ _)).2.2.2.2)
  rw [bR12_eq hq1 hq2]; exact x2
theorem bR13_lim (f : Nat) (B1 B2 : Act) (hB1 : ∀ s, sLm s (B1 s).2) (hB2 : ∀ s, sLm s (B2 s).2) (s0 : NSt) : sLm s0 (bR13 f B1 B2 s0).2 := by
  obtain ⟨o1, s1, hq1⟩ : ∃ oo tt, (aGate false B2) s0 = (oo, tt) := ⟨_, _, rfl⟩
  have x1 := (lm_eq hq1 (aGate_lim hB2 _ _)).2.2.2.2
  obtain ⟨o2, s2, hq2⟩ : ∃ oo tt, (aLamO (sR s0.1 f) o1) s1 = (oo, tt) := ⟨_, _, rfl⟩
  have x2 := x1.tr ((lm_eq hq2 (aLamO_lim _ _ _)).2.2.2.2)
  obtain ⟨o3, s3, hq3⟩ : ∃ oo tt, (aGate o2.isNone (aNode (0, f, 0, 0, 0))) s2 = (oo, tt) := ⟨_, _, rfl⟩
  have x3 := x2.tr ((lm_eq hq3 (aGate_lim (aNode_lim _) _ _)).2.2.2.2)
  obtain ⟨o4, s4, hq4⟩ : ∃ oo tt, (aGate o3.isNone B1) s3 = (oo, tt) := ⟨_, _, rfl⟩
  have x4 := x3.tr ((lm_eq hq4 (aGate_lim hB1 _ _)).2.2.2.2)
  obtain ⟨o5, s5, hq5⟩ : ∃ oo tt, (aNestK f o2 o3 o4) s4 = (oo, tt) := ⟨_, _, rfl⟩
  have x5 := x4.tr ((lm_eq hq5 (aNest_lim _ _ _ _ _ _)).2.2.2.2)
  rw [bR13_eq hq1 hq2 hq3 hq4 hq5]; exact x5
theorem bldR_lim {goal r f : Nat} {B1 B2 : Act} (h1 : ∀ s, sLm s (B1 s).2) (h2 : ∀ s, sLm s (B2 s).2) (s : NSt) : sLm s (bldR goal r f B1 B2 s).2 := by
  unfold bldR
  by_cases c1 : r = 1
  · rw [if_pos c1]; exact bR1_lim _  s
  rw [if_neg c1]
  by_cases c2 : r = 2
  · rw [if_pos c2]; exact bR2_lim _ _  s
  rw [if_neg c2]
  by_cases c3 : r = 3
  · rw [if_pos c3]; exact bR3_lim _ _ _ h1 h2 s
  rw [if_neg c3]
  by_cases c4 : r = 4
  · rw [if_pos c4]; exact bR4_lim _ _ h1 s
  rw [if_neg c4]
  by_cases c5 : r = 5
  · rw [if_pos c5]; exact bR5_lim _ _ h1 s
  rw [if_neg c5]
  by_cases c6 : r = 6
  · rw [if_pos c6]; exact bR6_lim _ _ _ _ h1 h2 s
  rw [if_neg c6]
  by_cases c7 : r = 7
  · rw [if_pos c7]; exact bR7_lim _ _ h1 s
  rw [if_neg c7]
  by_cases c8 : r = 8
  · rw [if_pos c8]; exact bR8_lim _ h1 s
  rw [if_neg c8]
  by_cases c9 : r = 9
  · rw [if_pos c9]; exact bR9_lim _ _ h1 s
  rw [if_neg c9]
  by_cases c10 : r = 10
  · rw [if_pos c10]; exact bR10_lim _ _ h1 s
  rw [if_neg c10]
  by_cases c11 : r = 11
  · rw [if_pos c11]; exact bR11_lim _ _ h1 s
  rw [if_neg c11]
  by_cases c12 : r = 12
  · rw [if_pos c12]; exact bR12_lim _ _ h1 s
  rw [if_neg c12]
  by_cases c13 : r = 13
  · rw [if_pos c13]; exact bR13_lim _ _ _ h1 h2 s
  rw [if_neg c13]
  exact sLm.rf s
theorem bld_lim (dv : Nat → Int32) : ∀ (h step : Nat) (s : NSt), sLm s (bld dv h step s).2
  | 0, _, s => sLm.rf s
  | h + 1, step, s => bldR_lim (bld_lim dv h _) (bld_lim dv h _) s
theorem kC_le : ∀ k, kC k ≤ k + 1
  | 0 => Nat.le_refl _
  | k + 1 => by
    have := kC_le k
    rw [kC]
    split <;> omega
theorem kS_le : ∀ k, kS k + 96 ≤ 2 * capOf k
  | 0 => by decide
  | k + 1 => by
    have := kS_le k
    rw [kS, capOf]
    split <;> omega
theorem dPC_le : ∀ k, dPC k ≤ k
  | 0 => Nat.le_refl _
  | k + 1 => by
    have := dPC_le k
    rw [dPC]
    split <;> omega
theorem dPS_le : ∀ k, dPS k ≤ 2 * dCap k
  | 0 => Nat.zero_le _
  | k + 1 => by
    have := dPS_le k
    rw [dPS, dCap]
    split <;> omega
theorem p7_le {s : NSt} {hw RR SL : Nat} (h6 : s.1.length ≤ 600) (h8 : s.2.length ≤ 8000) (hh : hw ≤ 3000) (hR : RR ≤ 16000) (hL : SL ≤ 16000) : pC7 s hw RR SL ≤ 50000 ∧ pS7 s hw RR SL ≤ 900000 := by
  have a1 := kC_le s.1.length
  have a2 := kC_le s.2.length
  have a3 := dPC_le hw
  have b1 := kS_le s.1.length
  have b2 := kS_le s.2.length
  have b3 := dPS_le hw
  have c1 := capOf_le s.1.length
  have c2 := capOf_le s.2.length
  have c3 := dCap_le hw
  unfold pC7 pS7
  omega
theorem rm_s {s : NSt} {hw RR SL : Nat} {ss1 : List Row} (he : ∃ y, ss1 = s.1 ++ y) (h6 : ss1.length ≤ 600) (h8 : s.2.length ≤ 8000) (hh : hw ≤ 3000) (hR : RR ≤ 16000) (hL : SL ≤ 16000) : bC s.1 ss1 + pC7 s hw RR SL ≤ 50000 ∧ bS s.1 ss1 + pS7 s hw RR SL ≤ 900000 := by
  obtain ⟨y, rfl⟩ := he
  have z := bC_eq (ss := s.1) (ss1 := s.1 ++ y) (by rw [List.length_append]; omega)
  have q := p7_le (s := (s.1 ++ y, s.2)) (hw := hw) (RR := RR) (SL := SL) h6 h8 hh hR hL
  unfold pC7 pS7 at q ⊢
  simp only at q
  omega
theorem rm_n {s : NSt} {hw RR SL : Nat} {ns1 : List Row} (he : ∃ y, ns1 = s.2 ++ y) (h8 : ns1.length ≤ 8000) (h6 : s.1.length ≤ 600) (hh : hw ≤ 3000) (hR : RR ≤ 16000) (hL : SL ≤ 16000) : bC s.2 ns1 + pC7 s hw RR SL ≤ 50000 ∧ bS s.2 ns1 + pS7 s hw RR SL ≤ 900000 := by
  obtain ⟨y, rfl⟩ := he
  have z := bC_eq (ss := s.2) (ss1 := s.2 ++ y) (by rw [List.length_append]; omega)
  have q := p7_le (s := (s.1, s.2 ++ y)) (hw := hw) (RR := RR) (SL := SL) h6 h8 hh hR hL
  unfold pC7 pS7 at q ⊢
  simp only at q
  omega
theorem fAtom_x (ss : List Row) (x : Int32) : (∃ y, (fAtom ss x).2 = ss ++ y) ∧ (ss.length ≤ 600 → (fAtom ss x).2.length ≤ 600) := by
  unfold fAtom
  split
  · exact ⟨sMake_ext _ _, sMake_lim⟩
  · exact ⟨⟨[], by simp⟩, id⟩
theorem fFals_x (ss : List Row) : (∃ y, (fFals ss).2 = ss ++ y) ∧ (ss.length ≤ 600 → (fFals ss).2.length ≤ 600) := ⟨sMake_ext _ _, sMake_lim⟩
theorem fJoin_x (ss : List Row) (t x z : Int32) : (∃ y, (fJoin ss t x z).2 = ss ++ y) ∧ (ss.length ≤ 600 → (fJoin ss t x z).2.length ≤ 600) := by
  unfold fJoin
  split
  · exact ⟨sMake_ext _ _, sMake_lim⟩
  · exact ⟨⟨[], by simp⟩, id⟩
theorem fNode_x (s : NSt) (t x a b c : Int32) : (∃ y, (fNode s t x a b c).2 = s.2 ++ y) ∧ (s.2.length ≤ 8000 → (fNode s t x a b c).2.length ≤ 8000) := by
  unfold fNode
  split
  · exact ⟨nMake_ext _ _, nMake_lim⟩
  · exact ⟨⟨[], by simp⟩, id⟩
theorem rm_j {s : NSt} {hw jd RR SL : Nat} {x : Int32} (h6 : s.1.length ≤ 600) (h8 : s.2.length ≤ 8000) (hh : hw ≤ 3000) (hR : RR ≤ 16000) (hL : SL ≤ 16000) (hR2 : jd < RR) (hL2 : jd < SL) : fJC jd RR SL s.2 x + pC7 s hw RR SL ≤ 50000 ∧ fJS jd RR SL s.2 x + pS7 s hw RR SL ≤ 900000 := by
  by_cases c : kHolds s.2 x = true
  · obtain ⟨k, rfl, k1, k2⟩ := holds_ex c
    rw [fJC, fJS, if_pos c, if_pos c, tN_nI (by omega)]
    have z := j_eq (k := k) hR2 hL2
    have w := j_le (jd := jd) (k := k) (by omega) hR hL
    have q := p7_le (s := s) (hw := hw) h6 h8 hh w.1 w.2
    unfold pC7 pS7 at q ⊢
    omega
  · rw [fJC, fJS, if_neg c, if_neg c]
    have q := p7_le (s := s) (hw := hw) h6 h8 hh hR hL
    omega
theorem rm_p {s : NSt} {hw RR SL : Nat} {dv : Nat → Int32} {x y : Int32} (hok : ssOK s.1) (h8 : s.2.length ≤ 8000) (hh : hw ≤ 3000) (hR : RR ≤ 16000) (hL : SL ≤ 16000) : fPC dv hw s x y + pC7 s hw RR SL ≤ 50000 ∧ fPS dv hw s x y + pS7 s hw RR SL ≤ 900000 := by
  by_cases c : fPvOK s x y = true
  · have c2 := c
    rw [fPvOK, decide_eq_true_eq] at c2
    obtain ⟨k, rfl, k1, k2⟩ := holds_ex c2.1
    obtain ⟨fu, rfl, hf1⟩ := pos_ex (Int32.not_lt.mpr c2.2.1)
    have hf3 : fu ≤ 3000 := (nI_leI hf1 (by decide)).mp c2.2.2
    have h6 := hok.1
    have hFL : fLook dv s (nI k) (nI fu) = look fu 80 (fun _ => false) k (s.1, 0, dv) := by rw [fLook, tN_nI (by omega), tN_nI (by omega)]
    have hLQ := look_ok hf3 80 (fun _ => false) k (s.1, 0, dv) hok (fun y q => by cases q) ⟨k1, k2⟩ (Nat.zero_le _)
    rw [fPC, fPS, if_pos c, if_pos c, hFL]
    revert hLQ
    generalize look fu 80 (fun _ => false) k (s.1, 0, dv) = P
    intro hLQ
    obtain ⟨a1, ss3, sp3, dv3⟩ := P
    have hlc := lC_eq (hw := hw) (ss := s.1) (x1 := (ss3, sp3, dv3)) hLQ.1.len
    obtain ⟨⟨y3, hy3⟩, hok3, -, hfx⟩ := id hLQ.1
    have hfx : sp3 ≤ fu := hfx
    have hok3 : ssOK ss3 := hok3
    have h63 := hok3.1
    show lC hw s.1 (ss3, sp3, dv3) + (if a1 = 0 ∨ 3000 < a1 then 0 else aC (bld dv3 80 a1) (ss3, s.2)) + pC7 s hw RR SL ≤ 50000 ∧ lS hw s.1 (ss3, sp3, dv3) + (if a1 = 0 ∨ 3000 < a1 then 0 else aS (bld dv3 80 a1) (ss3, s.2)) + pS7 s hw RR SL ≤ 900000
    unfold xC xS at hlc
    simp only at hlc
    have hm : max hw sp3 ≤ 3000 := by omega
    by_cases g : a1 = 0 ∨ 3000 < a1
    · rw [if_pos g, if_pos g]
      have q := p7_le (s := (ss3, s.2)) (hw := max hw sp3) h63 h8 hm hR hL
      unfold pC7 pS7 at q ⊢
      simp only at q
      omega
    · rw [if_neg g, if_neg g]
      obtain ⟨o4, s4, hq4⟩ : ∃ o z, bld dv3 80 a1 (ss3, s.2) = (o, z) := ⟨_, _, rfl⟩
      have hx4 : sExt (ss3, s.2) s4 := by have q := bld_ext dv3 80 a1 (ss3, s.2); rw [hq4] at q; exact q
      have hl4 : sLm (ss3, s.2) s4 := by have q := bld_lim dv3 80 a1 (ss3, s.2); rw [hq4] at q; exact q
      obtain ⟨hc4, hd4⟩ := aC_all hq4 hx4
      have q := p7_le (s := s4) (hw := max hw sp3) (hl4.1 h63) (hl4.2 h8) hm hR hL
      unfold pC at hc4
      unfold pS at hd4
      unfold pC7 pS7 at q ⊢
      simp only at hc4 hd4
      omega
  · rw [fPC, fPS, if_neg c, if_neg c]
    have q := p7_le (s := s) (hw := hw) hok.1 h8 hh hR hL
    omega

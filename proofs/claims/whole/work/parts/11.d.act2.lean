/-! values of actions, actions on answers that may be missing -/
def aLamO (a : Nat) : Option Nat → Act
  | some t => aLam a t
  | none => aStop
def aAppO : Option Nat → Option Nat → Act
  | some t, some u => aApp t u
  | _, _ => aStop
theorem stop_c (s : NSt) : aC aStop s = 0 ∧ aS aStop s = 0 := ⟨Nat.sub_self _, Nat.sub_self _⟩
theorem nMake_ext (ns : List Row) (r : Row) : ∃ y, nMake ns r = ns ++ y := by
  unfold nMake kApp
  split
  · split
    · exact ⟨_, rfl⟩
    · exact ⟨[], by simp⟩
  · exact ⟨[], by simp⟩
theorem sMake_ext (ss : List Row) (r : Row) : ∃ y, sMake ss r = ss ++ y := by
  unfold sMake kApp
  split
  · split
    · exact ⟨_, rfl⟩
    · exact ⟨[], by simp⟩
  · exact ⟨[], by simp⟩
theorem aNode_ext (r : Row) (s : NSt) : sExt s (aNode r s).2 := by
  rw [aNode_st]
  exact ⟨⟨[], by simp⟩, nMake_ext _ _⟩
theorem aImp_ext (a b : Nat) (s : NSt) : sExt s (aImp a b s).2 := by
  rw [aImp_st]
  exact ⟨sMake_ext _ _, ⟨[], by simp⟩⟩
theorem aLam_ext (a t : Nat) (s : NSt) : sExt s (aLam a t s).2 := by
  have h := aImp_ext a (nG s.2 t) s
  rw [aImp_st] at h
  cases e : (aImp a (nG s.2 t) s).1 with
  | none => rw [aLam_none e]; exact h
  | some g => rw [aLam_some e]; exact h.tr (aNode_ext _ _)
theorem aLamO_ext (a : Nat) (o : Option Nat) (s : NSt) : sExt s (aLamO a o s).2 := by
  cases o with
  | none => exact sExt.rf s
  | some t => exact aLam_ext a t s
theorem aAppO_ext (o1 o2 : Option Nat) (s : NSt) : sExt s (aAppO o1 o2 s).2 := by
  cases o1 with
  | none => exact sExt.rf s
  | some t =>
    cases o2 with
    | none => exact sExt.rf s
    | some u => exact aNode_ext _ s
theorem aGate_ext {A : Act} (h : ∀ s, sExt s (A s).2) (fl : Bool) (s : NSt) : sExt s (aGate fl A s).2 := by
  cases fl with
  | true => exact sExt.rf s
  | false => exact h s
theorem kAt_ext {ks : List Row} {y : List Row} {k : Nat} (h : k ≤ ks.length) : kAt (ks ++ y) k = kAt ks k := by
  unfold kAt
  by_cases h0 : k = 0
  · rw [if_pos h0, if_pos h0]
  · rw [if_neg h0, if_neg h0, List.getD_eq_getElem?_getD, List.getD_eq_getElem?_getD, List.getElem?_append_left (by omega)]
theorem sExt_len {s t : NSt} (h : sExt s t) : s.1.length ≤ t.1.length ∧ s.2.length ≤ t.2.length := by
  obtain ⟨⟨a, ha⟩, ⟨b, hb⟩⟩ := h
  constructor
  · rw [ha]; simp
  · rw [hb]; simp
theorem sExt_s {s t : NSt} (h : sExt s t) {k : Nat} (hk : k ≤ s.1.length) : kAt t.1 k = kAt s.1 k := by
  obtain ⟨⟨a, ha⟩, -⟩ := h
  rw [ha, kAt_ext hk]
theorem sExt_n {s t : NSt} (h : sExt s t) {k : Nat} (hk : k ≤ s.2.length) : kAt t.2 k = kAt s.2 k := by
  obtain ⟨-, ⟨b, hb⟩⟩ := h
  rw [hb, kAt_ext hk]
theorem kFU_at {ks : List Row} {r : Row} : ∀ {m : Nat}, kFU ks r m ≠ 0 → kAt ks (kFU ks r m) = r
  | 0, h => absurd rfl h
  | m + 1, h => by
    rw [kFU] at h ⊢
    by_cases c : kAt ks (m + 1) = r
    · rw [if_pos c]; exact c
    · rw [if_neg c] at h ⊢; exact kFU_at h
/-- a node that an action gave: there, with its row -/
theorem node_val {r : Row} {s : NSt} {k : Nat} (h : (aNode r s).1 = some k) : (1 ≤ k ∧ k ≤ (nMake s.2 r).length) ∧ kAt (nMake s.2 r) k = r := by
  have hl := kFU_le s.2 r s.2.length
  unfold aNode at h
  unfold nMake kApp
  by_cases c : kFind s.2 r = 0
  · rw [if_pos c] at h ⊢
    by_cases d : s.2.length < 8000
    · rw [if_pos d] at h ⊢
      injection h with h
      subst h
      exact ⟨by simp, kAt_new _ _⟩
    · rw [if_neg d] at h; cases h
  · rw [if_neg c] at h ⊢
    injection h with h
    subst h
    exact ⟨⟨Nat.one_le_iff_ne_zero.mpr c, hl⟩, kFU_at c⟩
theorem imp_val {a b g : Nat} {s : NSt} (h : (aImp a b s).1 = some g) : (1 ≤ g ∧ g ≤ (sMake s.1 (4, a, b, 0, 0)).length) ∧ kAt (sMake s.1 (4, a, b, 0, 0)) g = (4, a, b, 0, 0) := by
  have hl := kFU_le s.1 (4, a, b, 0, 0) s.1.length
  unfold aImp at h
  unfold sMake kApp
  by_cases c : kFind s.1 (4, a, b, 0, 0) = 0
  · rw [if_pos c] at h ⊢
    by_cases d : s.1.length < 600
    · rw [if_pos d] at h ⊢
      injection h with h
      subst h
      exact ⟨by simp, kAt_new _ _⟩
    · rw [if_neg d] at h; cases h
  · rw [if_neg c] at h ⊢
    injection h with h
    subst h
    exact ⟨⟨Nat.one_le_iff_ne_zero.mpr c, hl⟩, kFU_at c⟩
/-- what is known of a node x in a state: there, with goal g -/
def isNd (s : NSt) (x g : Nat) : Prop := 1 ≤ x ∧ x ≤ s.2.length ∧ nG s.2 x = g
theorem isNd.mono {s t : NSt} {x g : Nat} (h : isNd s x g) (e : sExt s t) : isNd t x g := by
  obtain ⟨h1, h2, h3⟩ := h
  have := sExt_len e
  refine ⟨h1, by omega, ?_⟩
  unfold nG at h3 ⊢
  rw [sExt_n e h2]; exact h3
theorem node_nd {r : Row} {s s1 : NSt} {k : Nat} (h : aNode r s = (some k, s1)) : isNd s1 k r.2.1 := by
  have h1 : (aNode r s).1 = some k := by rw [h]
  have h2 : (aNode r s).2 = s1 := by rw [h]
  rw [aNode_st] at h2
  have v := node_val h1
  subst h2
  exact ⟨v.1.1, v.1.2, by unfold nG; rw [v.2]⟩
/-- a lambda's goal: an implication from a to its part's goal -/
theorem lam_nd {a t x : Nat} {s s1 : NSt} (h : aLam a t s = (some x, s1)) : ∃ g, isNd s1 x g ∧ 1 ≤ g ∧ g ≤ s1.1.length ∧ sSort s1.1 g = 4 ∧ sL s1.1 g = a ∧ sR s1.1 g = nG s.2 t := by
  cases e : (aImp a (nG s.2 t) s).1 with
  | none => rw [aLam_none e] at h; cases h
  | some g =>
    rw [aLam_some e] at h
    have v := imp_val e
    have q : s1.1 = sMake s.1 (4, a, nG s.2 t, 0, 0) := by
      have := congrArg (fun z => z.2.1) h
      rw [aNode_st] at this
      exact this.symm
    refine ⟨g, node_nd h, v.1.1, by rw [q]; exact v.1.2, ?_, ?_, ?_⟩
    · unfold sSort; rw [q, v.2]
    · unfold sL; rw [q, v.2]
    · unfold sR; rw [q, v.2]
theorem aC_eq {A : Act} {s s1 : NSt} {o : Option Nat} (h : A s = (o, s1)) (he : sExt s (A s).2) : aC A s + pC s = pC s1 ∧ aS A s + pS s = pS s1 ∧ True ∧ True ∧ sExt s s1 := by
  rw [h] at he
  have r := sExt_room he
  unfold aC aS
  rw [h]
  exact ⟨Nat.sub_add_cancel r.1, Nat.sub_add_cancel r.2, trivial, trivial, he⟩
theorem aC_all {A : Act} {s s1 : NSt} {o : Option Nat} (h : A s = (o, s1)) (he : sExt s s1) : aC A s + pC s = pC s1 ∧ aS A s + pS s = pS s1 := by
  have r := sExt_room he
  unfold aC aS
  rw [h]
  exact ⟨Nat.sub_add_cancel r.1, Nat.sub_add_cancel r.2⟩

/-! ACTIONS on (statements, nodes): what the making of a proof's nodes does; none: no room -/
abbrev NSt : Type := List Row × List Row
abbrev Act : Type := NSt → Option Nat × NSt
def aStop : Act := fun s => (none, s)
def aGate (fl : Bool) (A : Act) : Act := if fl then aStop else A
def aNode (r : Row) : Act := fun s => if kFind s.2 r = 0 then (if s.2.length < 8000 then (some (s.2.length + 1), (s.1, s.2 ++ [r])) else (none, s)) else (some (kFind s.2 r), s)
def aImp (a b : Nat) : Act := fun s => if kFind s.1 (4, a, b, 0, 0) = 0 then (if s.1.length < 600 then (some (s.1.length + 1), (s.1 ++ [(4, a, b, 0, 0)], s.2)) else (none, s)) else (some (kFind s.1 (4, a, b, 0, 0)), s)
def aR : Option Nat → Int32
  | some k => nI k
  | none => (-3)
/-- the room that the rows of a state have taken so far -/
def pC (s : NSt) : Nat := kC s.1.length + kC s.2.length
def pS (s : NSt) : Nat := kS s.1.length + kS s.2.length
def aC (A : Act) (s : NSt) : Nat := pC (A s).2 - pC s
def aS (A : Act) (s : NSt) : Nat := pS (A s).2 - pS s
theorem kC_app (m : Nat) (ks : List Row) (r : Row) : kC (kApp m ks r).length = kC ks.length + kMC m ks := by
  unfold kApp kMC
  by_cases h : ks.length < m
  · rw [if_pos h, show (ks ++ [r]).length = ks.length + 1 by simp, kC]
    by_cases c : 6 * (ks.length + 1) + 6 ≤ capOf ks.length
    · rw [if_pos c, if_neg (fun q => q.2 c)]
    · rw [if_neg c, if_pos ⟨h, c⟩]
  · rw [if_neg h, if_neg (fun q => h q.1)]; rfl
theorem kS_app (m : Nat) (ks : List Row) (r : Row) : kS (kApp m ks r).length = kS ks.length + kMS m ks := by
  unfold kApp kMS
  by_cases h : ks.length < m
  · rw [if_pos h, show (ks ++ [r]).length = ks.length + 1 by simp, kS]
    by_cases c : 6 * (ks.length + 1) + 6 ≤ capOf ks.length
    · rw [if_pos c, if_neg (fun q => q.2 c)]
    · rw [if_neg c, if_pos ⟨h, c⟩]
  · rw [if_neg h, if_neg (fun q => h q.1)]; rfl
theorem aNode_st (r : Row) (s : NSt) : (aNode r s).2 = (s.1, nMake s.2 r) := by
  unfold aNode nMake kApp
  by_cases h : kFind s.2 r = 0
  · rw [if_pos h, if_pos h]
    by_cases c : s.2.length < 8000
    · rw [if_pos c, if_pos c]
    · rw [if_neg c, if_neg c]
  · rw [if_neg h, if_neg h]
theorem aImp_st (a b : Nat) (s : NSt) : (aImp a b s).2 = (sMake s.1 (4, a, b, 0, 0), s.2) := by
  unfold aImp sMake kApp
  by_cases h : kFind s.1 (4, a, b, 0, 0) = 0
  · rw [if_pos h, if_pos h]
    by_cases c : s.1.length < 600
    · rw [if_pos c, if_pos c]
    · rw [if_neg c, if_neg c]
  · rw [if_neg h, if_neg h]
theorem aNode_r (r : Row) (s : NSt) : aR (aNode r s).1 = nMakeR s.2 r := by
  unfold aNode nMakeR kAppR
  by_cases h : kFind s.2 r = 0
  · rw [if_pos h, if_pos h]
    by_cases c : s.2.length < 8000
    · rw [if_pos c, if_pos c]; rfl
    · rw [if_neg c, if_neg c]; rfl
  · rw [if_neg h, if_neg h]; rfl
theorem aImp_r (a b : Nat) (s : NSt) : aR (aImp a b s).1 = sMakeR s.1 (4, a, b, 0, 0) := by
  unfold aImp sMakeR kAppR
  by_cases h : kFind s.1 (4, a, b, 0, 0) = 0
  · rw [if_pos h, if_pos h]
    by_cases c : s.1.length < 600
    · rw [if_pos c, if_pos c]; rfl
    · rw [if_neg c, if_neg c]; rfl
  · rw [if_neg h, if_neg h]; rfl
theorem aNode_c (r : Row) (s : NSt) : aC (aNode r) s = nMC s.2 r ∧ aS (aNode r) s = nMS s.2 r := by
  unfold aC aS
  rw [aNode_st]
  unfold pC pS nMake nMC nMS
  by_cases h : kFind s.2 r = 0
  · rw [if_pos h, if_pos h, if_pos h]
    have h1 := kC_app 8000 s.2 r
    have h2 := kS_app 8000 s.2 r
    constructor <;> simp only <;> omega
  · rw [if_neg h, if_neg h, if_neg h]; constructor <;> simp only <;> omega
theorem aImp_c (a b : Nat) (s : NSt) : aC (aImp a b) s = sMC s.1 (4, a, b, 0, 0) ∧ aS (aImp a b) s = sMS s.1 (4, a, b, 0, 0) := by
  unfold aC aS
  rw [aImp_st]
  unfold pC pS sMake sMC sMS
  by_cases h : kFind s.1 (4, a, b, 0, 0) = 0
  · rw [if_pos h, if_pos h, if_pos h]
    have h1 := kC_app 600 s.1 (4, a, b, 0, 0)
    have h2 := kS_app 600 s.1 (4, a, b, 0, 0)
    constructor <;> simp only <;> omega
  · rw [if_neg h, if_neg h, if_neg h]; constructor <;> simp only <;> omega
theorem kC_mono {a b : Nat} (h : a ≤ b) : kC a ≤ kC b := by
  induction h with
  | refl => exact Nat.le_refl _
  | step _ ih => rw [kC]; omega
theorem kS_mono {a b : Nat} (h : a ≤ b) : kS a ≤ kS b := by
  induction h with
  | refl => exact Nat.le_refl _
  | step _ ih => rw [kS]; omega
/-- later states: longer lists -/
def sExt (s t : NSt) : Prop := (∃ x, t.1 = s.1 ++ x) ∧ ∃ y, t.2 = s.2 ++ y
theorem sExt.rf (s : NSt) : sExt s s := ⟨⟨[], by simp⟩, ⟨[], by simp⟩⟩
theorem sExt.tr {s t u : NSt} (h1 : sExt s t) (h2 : sExt t u) : sExt s u := by
  obtain ⟨⟨a, ha⟩, ⟨b, hb⟩⟩ := h1
  obtain ⟨⟨c, hc⟩, ⟨d, hd⟩⟩ := h2
  exact ⟨⟨a ++ c, by rw [hc, ha, List.append_assoc]⟩, ⟨b ++ d, by rw [hd, hb, List.append_assoc]⟩⟩
theorem sExt_room {s t : NSt} (h : sExt s t) : pC s ≤ pC t ∧ pS s ≤ pS t := by
  obtain ⟨⟨a, ha⟩, ⟨b, hb⟩⟩ := h
  have l1 : s.1.length ≤ t.1.length := by rw [ha]; simp
  have l2 : s.2.length ≤ t.2.length := by rw [hb]; simp
  have := kC_mono l1
  have := kC_mono l2
  have := kS_mono l1
  have := kS_mono l2
  unfold pC pS
  omega
/-- good states: statements and nodes as the stores keep them -/
def sGood (s : NSt) : Prop := ssOK s.1 ∧ nsOK s.1 s.2
theorem sIs_app {ss : List Row} {r : Row} {so f : Nat} (h : f ≤ ss.length) : sIs (ss ++ [r]) so f = sIs ss so f := by
  unfold sIs
  apply decide_eq_decide.mpr
  rw [(kAt_sort_app h).1]
  simp only [List.length_append, List.length_cons, List.length_nil]
  omega
theorem sWh_app {ss : List Row} {r : Row} {so f a b : Nat} (h : f ≤ ss.length) : sWh (ss ++ [r]) so f a b = sWh ss so f a b := by
  unfold sWh
  rw [sIs_app h, (kAt_sort_app h).2.1, (kAt_sort_app h).2.2]
theorem fitN_ss {ss ns : List Row} {r : Row} (h : nsOK ss ns) (k : Nat) : fitN (ss ++ [r]) ns k = fitN ss ns k := by
  have g1 := nG_le h k
  have g2 := nG_le h (nA ns k)
  unfold fitN
  rw [sWh_app g1, sWh_app g1, sWh_app g1, sWh_app g1, sWh_app g2, sWh_app g2, sWh_app g2, sIs_app g2, sIs_app g2, (kAt_sort_app g1).2.1, (kAt_sort_app g1).2.2, (kAt_sort_app g2).2.1, (kAt_sort_app g2).2.2]
theorem wT_ss {ss ns : List Row} {r : Row} (h : nsOK ss ns) : ∀ m k, wT (ss ++ [r]) ns m k = wT ss ns m k
  | 0, _ => rfl
  | m + 1, k => by
    rw [wT_s, wT_s, fitN_ss h, psU_congr (W := wT (ss ++ [r]) ns m) (W2 := wT ss ns m) _ (fun j _ => wT_ss h m _), wT_ss h m k]
theorem rE_ss {ss ns : List Row} {r : Row} (h : nsOK ss ns) (R : Nat → Nat → Bool) (k x : Nat) : rE (ss ++ [r]) ns R k x = rE ss ns R k x := by
  have g1 := nG_le h k
  have g2 := nG_le h (nA ns k)
  unfold rE
  rw [sIs_app g1, sIs_app g2, (kAt_sort_app g1).2.1, (kAt_sort_app g2).2.1, (kAt_sort_app g2).2.2]
theorem rT_ss {ss ns : List Row} {r : Row} (h : nsOK ss ns) : ∀ m k x, rT (ss ++ [r]) ns m k x = rT ss ns m k x
  | 0, _, _ => rfl
  | m + 1, k, x => by
    rw [rT_s, rT_s, rE_ss h, rE_congr (R := rT (ss ++ [r]) ns m) (R2 := rT ss ns m) (rT_ss h m _ x) (rT_ss h m _ x) (rT_ss h m _ x), rT_ss h m k x]
theorem nsOK_ss {ss ns : List Row} {r : Row} (h : nsOK ss ns) : nsOK (ss ++ [r]) ns := by
  obtain ⟨h1, h2, h3⟩ := h
  refine ⟨h1, fun k a b => ?_, h3⟩
  obtain ⟨q1, q2, q3, q4⟩ := h2 k a b
  exact ⟨q1, q2, by simp; omega, q4⟩
theorem NdOK_ss {ss ns : List Row} {r : Row} {jd RR SL : Nat} {S : Nat → Nat → Bool} {sf : Nat → Int32} (h : NdOK ss ns jd RR SL S sf) : NdOK (sMake ss r) ns jd RR SL S sf := by
  unfold sMake kApp
  by_cases c : kFind ss r = 0
  · rw [if_pos c]
    by_cases d : ss.length < 600
    · rw [if_pos d]
      obtain ⟨h1, h2, h3, h4, h5, h6⟩ := h
      refine ⟨nsOK_ss h1, h2, h3, h4, fun k a b => ?_, fun k a x => ?_⟩
      · rw [h5 k a b]; exact congrArg b2i (wT_ss h1 k k).symm
      · rw [h6 k a x]; exact congrArg (fun z => decide (1 ≤ k ∧ k ≤ jd) && z) (rT_ss h1 k k x).symm
    · rw [if_neg d]; exact h
  · rw [if_neg c]; exact h

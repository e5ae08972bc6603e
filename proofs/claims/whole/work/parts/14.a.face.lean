/-! THE FACE -/
def psS (k : Nat) : Prop := k ≤ 21
def psA (k : Nat) : Prop := k = 2 ∨ k = 6 ∨ k = 14 ∨ k = 16 ∨ k = 17
def pC7 (s : NSt) (hw RR SL : Nat) : Nat := kC s.1.length + kC s.2.length + dPC hw + RR + SL
def pS7 (s : NSt) (hw RR SL : Nat) : Nat := kS s.1.length + kS s.2.length + dPS hw + 20 * RR + 2 * SL
def PsW (G : rG) (n : Nat) (ad : Nat → Nat) (en : Nat → va_E) (s : NSt) (jd RR SL : Nat) (SN : Nat → Nat → Bool) (sf : Nat → Int32) (fl : Bool) (hw : Nat) (dv : Nat → Int32) (SG : Nat → Nat → Bool) (fuel sp : Nat) : Prop :=
  en 0 = .inr (7, [.ref (ad 3), .ref (ad 11), .ref (ad 18), .ref (ad 21)]) ∧ PmW G n ad en s jd RR SL SN sf fl ∧ SchW G n ad en s.1 hw dv SG fuel sp ∧ RR ≤ 16000 ∧ SL ≤ 16000
def PsX (G : rG) (n : Nat) (ad : Nat → Nat) (en : Nat → va_E) (s : NSt) (sp c d : Nat) : Prop := ∃ jd RR SL SN sf fl hw dv SG fuel, PsW G n ad en s jd RR SL SN sf fl hw dv SG fuel sp ∧ c ≤ pC7 s hw RR SL ∧ d ≤ pS7 s hw RR SL
def fPost (G : rG) (n : Nat) (ad : Nat → Nat) (en : Nat → va_E) (V : Int32) (s1 : NSt) (sp1 c d : Nat) : Int32 → (Nat → Nat) → (Nat → va_E) → Prop := fun r ad1 en1 => r = V ∧ PsX G n ad1 en1 s1 sp1 c d ∧ Fr n psS psA ad en ad1 en1
def fAtom (ss : List Row) (x : Int32) : Int32 × List Row := if 0 ≤ x ∧ x < 32 then (sMakeR ss (0, tN x, 0, 0, 0), sMake ss (0, tN x, 0, 0, 0)) else (-1, ss)
def fFals (ss : List Row) : Int32 × List Row := (sMakeR ss (1, 0, 0, 0, 0), sMake ss (1, 0, 0, 0, 0))
def fJoin (ss : List Row) (so a b : Int32) : Int32 × List Row := if (so = 2 ∨ so = 3 ∨ so = 4) ∧ kHolds ss a = true ∧ kHolds ss b = true then (sMakeR ss (tN so, tN a, tN b, 0, 0), sMake ss (tN so, tN a, tN b, 0, 0)) else (-1, ss)
def fTold (ss : List Row) (f w : Int32) : Int32 := if kHolds ss f = true ∧ 0 ≤ w ∧ w ≤ 2 then kGet ss f w else -1
def fOf (ns : List Row) (f w : Int32) : Int32 := if kHolds ns f = true ∧ 0 ≤ w ∧ w ≤ 4 then kGet ns f w else -1
def fTrue (ss : List Row) (f at1 : Int32) : Int32 := if kHolds ss f = true then b2i (tvT ss at1 (tN f) (tN f)) else -1
def fWell (s : NSt) (x : Int32) : Int32 := if kHolds s.2 x = true then b2i (wellB s.1 s.2 (tN x)) else -1
def fRests (s : NSt) (x : Int32) : Int32 := if kHolds s.2 x = true then nI (cnt (restB s.1 s.2 (tN x)) 640) else -1
def fRestOn (s : NSt) (x f : Int32) : Int32 := if kHolds s.2 x = true then (if sLeast (restB s.1 s.2 (tN x)) f = 0 then -2 else nI (sLeast (restB s.1 s.2 (tN x)) f)) else -1
def fProves (s : NSt) (x : Int32) : Int32 := if kHolds s.2 x = true then b2i (wellB s.1 s.2 (tN x) && decide (cnt (restB s.1 s.2 (tN x)) 640 = 0)) else -1
def fNdOK (s : NSt) (tg gl a b c : Int32) : Bool := decide ((0 ≤ tg ∧ tg ≤ 9) ∧ kHolds s.1 gl = true ∧ (1 ≤ rPartL.getD (tN tg) 0 → kHolds s.2 a = true) ∧ (2 ≤ rPartL.getD (tN tg) 0 → kHolds s.2 b = true) ∧ (3 ≤ rPartL.getD (tN tg) 0 → kHolds s.2 c = true))
def fRow (tg gl a b c : Int32) : Row := (tN tg, tN gl, (if 1 ≤ rPartL.getD (tN tg) 0 then tN a else 0), (if 2 ≤ rPartL.getD (tN tg) 0 then tN b else 0), (if 3 ≤ rPartL.getD (tN tg) 0 then tN c else 0))
def fNode (s : NSt) (tg gl a b c : Int32) : Int32 × List Row := if fNdOK s tg gl a b c = true then (nMakeR s.2 (fRow tg gl a b c), nMake s.2 (fRow tg gl a b c)) else (-1, s.2)
def fLook (dv : Nat → Int32) (s : NSt) (f fu : Int32) : Nat × SX := look (tN fu) 80 (fun _ => false) (tN f) (s.1, 0, dv)
def fPvOK (s : NSt) (f fu : Int32) : Bool := decide (kHolds s.1 f = true ∧ 0 ≤ fu ∧ fu ≤ 3000)
def fLay (s : NSt) (P : Nat × SX) : Int32 × NSt := if P.1 = 0 ∨ 3000 < P.1 then (anI P.1, (P.2.1, s.2)) else (aR (bld P.2.2.2 80 P.1 (P.2.1, s.2)).1, (bld P.2.2.2 80 P.1 (P.2.1, s.2)).2)
def fProve (dv : Nat → Int32) (s : NSt) (f fu : Int32) : Int32 × NSt := if fPvOK s f fu = true then fLay s (fLook dv s f fu) else (-1, s)
def fUsed (dv : Nat → Int32) (s : NSt) (f fu : Int32) (sp : Nat) : Nat := if fPvOK s f fu = true then (if (fLook dv s f fu).1 = 3002 then tN fu else (fLook dv s f fu).2.2.1) else sp
theorem holds_ex {ks : List Row} {x : Int32} (h : kHolds ks x = true) : ∃ k, x = nI k ∧ 1 ≤ k ∧ k ≤ ks.length := by
  have q := of_decide_eq_true h
  refine ⟨x.toInt.toNat, ?_, by omega, by omega⟩
  rw [i_eq, nI_toInt (by have := Int32.toInt_lt x; omega)]
  omega
theorem pos_ex {x : Int32} (h : ¬ x < 0) : ∃ k, x = nI k ∧ k < 2 ^ 31 := by
  rw [i_lt] at h
  have e0 : (0 : Int32).toInt = 0 := rfl
  have := Int32.toInt_lt x
  refine ⟨x.toInt.toNat, ?_, by omega⟩
  rw [i_eq, nI_toInt (by omega)]
  omega
theorem SchW_keep {G : rG} {n : Nat} {ad ad1 : Nat → Nat} {en en1 : Nat → va_E} {ss : List Row} {hw : Nat} {dv : Nat → Int32} {S : Nat → Nat → Bool} {fuel sp : Nat} (h : SchW G n ad en ss hw dv S fuel sp) (ha : ∀ k, ((1 ≤ k ∧ k ≤ 10) ∨ (18 ≤ k ∧ k ≤ 20)) → ad1 k = ad k) (he : ∀ k, ((1 ≤ k ∧ k ≤ 10) ∨ (18 ≤ k ∧ k ≤ 20)) → en1 k = en k) : SchW G n ad1 en1 ss hw dv S fuel sp := by
  obtain ⟨hn, h1, h2, h3, h4⟩ := h
  refine ⟨hn, StAt_keep h1 (fun k a b => ha k (by omega)) (fun k a b => he k (by omega)), DerAt_keep h2 (fun k a b => ha k (by omega)) (fun k a b => he k (by omega)), SetsAt_keep h3 (fun k a b => ha k (by omega)) (fun k a b => he k (by omega)), ?_⟩
  rw [ha 3 (by omega), ha 1 (by omega), ha 19 (by omega)]; exact (he 18 (by omega)).trans h4
theorem NdOK_1 {ss ns : List Row} {r : Row} {jd RR SL : Nat} {S : Nat → Nat → Bool} {sf : Nat → Int32} (h : NdOK ss ns jd RR SL S sf) : NdOK (ss ++ [r]) ns jd RR SL S sf := by
  obtain ⟨h1, h2, h3, h4, h5, h6⟩ := h
  refine ⟨nsOK_ss h1, h2, h3, h4, fun k a b => ?_, fun k a x => ?_⟩
  · rw [h5 k a b]; exact congrArg b2i (wT_ss h1 k k).symm
  · rw [h6 k a x]; exact congrArg (fun z => decide (1 ≤ k ∧ k ≤ jd) && z) (rT_ss h1 k k x).symm
theorem NdOK_app {ns : List Row} {jd RR SL : Nat} {S : Nat → Nat → Bool} {sf : Nat → Int32} : ∀ (y ss : List Row), NdOK ss ns jd RR SL S sf → NdOK (ss ++ y) ns jd RR SL S sf
  | [], ss, h => by rw [List.append_nil]; exact h
  | r :: y, ss, h => by
    have := NdOK_app y (ss ++ [r]) (NdOK_1 h)
    rwa [List.append_assoc] at this
theorem Ps_st {G : rG} {n : Nat} {ad ad1 : Nat → Nat} {en en1 : Nat → va_E} {s : NSt} {jd RR SL : Nat} {SN : Nat → Nat → Bool} {sf : Nat → Int32} {fl : Bool} {hw : Nat} {dv : Nat → Int32} {SG : Nat → Nat → Bool} {fuel sp : Nat} {r : Row} (h : PsW G n ad en s jd RR SL SN sf fl hw dv SG fuel sp) (hs : StAt G n ad1 en1 (sMake s.1 r)) (hf : Fr n (fun k => 3 ≤ k ∧ k ≤ 10) (fun k => k = 6) ad en ad1 en1) : PsW G n ad1 en1 (sMake s.1 r, s.2) jd RR SL SN sf fl hw dv SG fuel sp ∧ Fr n psS psA ad en ad1 en1 := by
  obtain ⟨h0, h1, h2, h3, h4⟩ := h
  have hn := h1.2.2.2.1
  refine ⟨⟨?_, PmW_stmt h1 hs hf, (SchW_st h2 hs hf).1, h3, h4⟩, fun k a b => hf.1 k a (fun q => b (Or.inr (Or.inl q))), fun k a b => hf.2 k a (fun q => b (by show k ≤ 21; omega))⟩
  rw [hf.1 3 (by omega) (by omega), hf.1 11 (by omega) (by omega), hf.1 18 (by omega) (by omega), hf.1 21 (by omega) (by omega)]
  exact (hf.2 0 (by omega) (by omega)).trans h0
theorem Ps_tr {G : rG} {n : Nat} {ad ad1 : Nat → Nat} {en en1 : Nat → va_E} {s : NSt} {jd RR SL : Nat} {SN : Nat → Nat → Bool} {sf : Nat → Int32} {fl : Bool} {hw : Nat} {dv : Nat → Int32} {SG : Nat → Nat → Bool} {fuel sp : Nat} (h : PsW G n ad en s jd RR SL SN sf fl hw dv SG fuel sp) (hs : StAt G n ad1 en1 s.1) (hf : Fr n (fun k => 9 ≤ k ∧ k ≤ 10) (fun _ => False) ad en ad1 en1) : PsW G n ad1 en1 s jd RR SL SN sf fl hw dv SG fuel sp ∧ Fr n psS psA ad en ad1 en1 := by
  obtain ⟨h0, h1, h2, h3, h4⟩ := h
  obtain ⟨p1, p2, p3, p4, p5⟩ := h1
  have ka : ∀ k, k < n → ad1 k = ad k := fun k a => hf.1 k a (fun q => q)
  have hf2 : Fr n (fun k => 3 ≤ k ∧ k ≤ 10) (fun k => k = 6) ad en ad1 en1 := ⟨fun k a _ => ka k a, fun k a b => hf.2 k a (fun q => b (by omega))⟩
  refine ⟨⟨?_, ⟨hs, NdAt_keep p2 (ka 3 (by omega)) (fun k a b => ka k (by omega)) (fun k a b => hf.2 k (by omega) (by omega)), p3, p4, ?_⟩, (SchW_st h2 hs hf2).1, h3, h4⟩, fun k a _ => ka k a, fun k a b => hf.2 k a (fun q => b (by show k ≤ 21; omega))⟩
  · rw [ka 3 (by omega), ka 11 (by omega), ka 18 (by omega), ka 21 (by omega)]; exact (hf.2 0 (by omega) (by omega)).trans h0
  · rw [ka 3 (by omega), ka 11 (by omega), ka 1 (by omega)]; exact (hf.2 21 (by omega) (by omega)).trans p5
theorem Ps_nd {G : rG} {n : Nat} {ad ad1 : Nat → Nat} {en en1 : Nat → va_E} {s : NSt} {ns1 : List Row} {jd RR SL jd1 RR1 SL1 : Nat} {SN SN1 : Nat → Nat → Bool} {sf sf1 : Nat → Int32} {fl : Bool} {hw : Nat} {dv : Nat → Int32} {SG : Nat → Nat → Bool} {fuel sp : Nat} (h : PsW G n ad en s jd RR SL SN sf fl hw dv SG fuel sp) (hd : NdAt G n ad1 en1 ns1 jd1 RR1 SL1 SN1 sf1) (hO : NdOK s.1 ns1 jd1 RR1 SL1 SN1 sf1) (hf : Fr n (fun k => 11 ≤ k ∧ k ≤ 17) (fun k => k = 14 ∨ k = 16 ∨ k = 17) ad en ad1 en1) (hR : RR1 ≤ 16000) (hL : SL1 ≤ 16000) : PsW G n ad1 en1 (s.1, ns1) jd1 RR1 SL1 SN1 sf1 fl hw dv SG fuel sp ∧ Fr n psS psA ad en ad1 en1 := by
  obtain ⟨h0, h1, h2, h3, h4⟩ := h
  obtain ⟨p1, p2, p3, p4, p5⟩ := h1
  refine ⟨⟨?_, ⟨StAt_keep p1 (fun k a b => hf.1 k (by omega) (by omega)) (fun k a b => hf.2 k (by omega) (by omega)), hd, hO, p4, ?_⟩, SchW_keep h2 (fun k a => hf.1 k (by omega) (by omega)) (fun k a => hf.2 k (by omega) (by omega)), hR, hL⟩, fun k a b => hf.1 k a (fun q => b (Or.inr (Or.inr q))), fun k a b => hf.2 k a (fun q => b (by show k ≤ 21; omega))⟩
  · rw [hf.1 3 (by omega) (by omega), hf.1 11 (by omega) (by omega), hf.1 18 (by omega) (by omega), hf.1 21 (by omega) (by omega)]; exact (hf.2 0 (by omega) (by omega)).trans h0
  · rw [hf.1 3 (by omega) (by omega), hf.1 11 (by omega) (by omega), hf.1 1 (by omega) (by omega)]; exact (hf.2 21 (by omega) (by omega)).trans p5
theorem Ps_sc {G : rG} {n : Nat} {ad ad1 : Nat → Nat} {en en1 : Nat → va_E} {s : NSt} {ss1 y : List Row} {jd RR SL : Nat} {SN : Nat → Nat → Bool} {sf : Nat → Int32} {fl : Bool} {hw hw1 : Nat} {dv dv1 : Nat → Int32} {SG SG1 : Nat → Nat → Bool} {fuel sp fuel1 sp1 : Nat} (h : PsW G n ad en s jd RR SL SN sf fl hw dv SG fuel sp) (hs : SchW G n ad1 en1 ss1 hw1 dv1 SG1 fuel1 sp1) (hy : ss1 = s.1 ++ y) (hf : Fr n scS scA ad en ad1 en1) : PsW G n ad1 en1 (ss1, s.2) jd RR SL SN sf fl hw1 dv1 SG1 fuel1 sp1 ∧ Fr n psS psA ad en ad1 en1 := by
  obtain ⟨h0, h1, h2, h3, h4⟩ := h
  obtain ⟨p1, p2, p3, p4, p5⟩ := h1
  have ka : ∀ k, k < n → ¬ (k = 2 ∨ k = 6) → ad1 k = ad k := fun k a b => hf.1 k a b
  have ke : ∀ k, k < n → ¬ ((1 ≤ k ∧ k ≤ 10) ∨ (18 ≤ k ∧ k ≤ 20)) → en1 k = en k := fun k a b => hf.2 k a b
  refine ⟨⟨?_, ⟨hs.2.1, NdAt_keep p2 (ka 3 (by omega) (by omega)) (fun k a b => ka k (by omega) (by omega)) (fun k a b => ke k (by omega) (by omega)), ?_, p4, ?_⟩, hs, h3, h4⟩, fun k a b => ka k a (fun q => b (by unfold psA; omega)), fun k a b => ke k a (fun q => b (by show k ≤ 21; omega))⟩
  · rw [ka 3 (by omega) (by omega), ka 11 (by omega) (by omega), ka 18 (by omega) (by omega), ka 21 (by omega) (by omega)]; exact (ke 0 (by omega) (by omega)).trans h0
  · show NdOK ss1 s.2 jd RR SL SN sf
    rw [hy]; exact NdOK_app y _ p3
  · rw [ka 3 (by omega) (by omega), ka 11 (by omega) (by omega), ka 1 (by omega) (by omega)]; exact (ke 21 (by omega) (by omega)).trans p5
theorem Ps_pm {G : rG} {n : Nat} {ad ad1 : Nat → Nat} {en en1 : Nat → va_E} {s s1 : NSt} {jd RR SL : Nat} {SN : Nat → Nat → Bool} {sf : Nat → Int32} {fl fl1 : Bool} {hw : Nat} {dv : Nat → Int32} {SG : Nat → Nat → Bool} {fuel sp : Nat} (h : PsW G n ad en s jd RR SL SN sf fl hw dv SG fuel sp) (hs : PmW G n ad1 en1 s1 jd RR SL SN sf fl1) (hf : Fr n pmS pmA ad en ad1 en1) : PsW G n ad1 en1 s1 jd RR SL SN sf fl1 hw dv SG fuel sp ∧ Fr n psS psA ad en ad1 en1 := by
  obtain ⟨h0, h1, h2, h3, h4⟩ := h
  have hn := h1.2.2.2.1
  have ka : ∀ k, k < n → ¬ (k = 6 ∨ k = 14) → ad1 k = ad k := fun k a b => hf.1 k a b
  have ke : ∀ k, k < n → ¬ ((3 ≤ k ∧ k ≤ 17) ∨ k = 21) → en1 k = en k := fun k a b => hf.2 k a b
  obtain ⟨q1, q2, q3, q4, q5⟩ := h2
  refine ⟨⟨?_, hs, ⟨q1, hs.1, DerAt_keep q3 (fun k a b => ka k (by omega) (by omega)) (fun k a b => ke k (by omega) (by omega)), SetsAt_keep q4 (fun k a b => ka k (by omega) (by omega)) (fun k a b => ke k (by omega) (by omega)), ?_⟩, h3, h4⟩, fun k a b => ka k a (fun q => b (by unfold psA; omega)), fun k a b => ke k a (fun q => b (by show k ≤ 21; omega))⟩
  · rw [ka 3 (by omega) (by omega), ka 11 (by omega) (by omega), ka 18 (by omega) (by omega), ka 21 (by omega) (by omega)]; exact (ke 0 (by omega) (by omega)).trans h0
  · rw [ka 3 (by omega) (by omega), ka 1 (by omega) (by omega), ka 19 (by omega) (by omega)]; exact (ke 18 (by omega) (by omega)).trans q5
theorem sM_eq (ss : List Row) (r : Row) : sMC ss r + kC ss.length = kC (sMake ss r).length ∧ sMS ss r + kS ss.length = kS (sMake ss r).length := by
  unfold sMC sMS sMake
  by_cases c : kFind ss r = 0
  · rw [if_pos c, if_pos c, if_pos c, kC_app, kS_app]
    exact ⟨Nat.add_comm _ _, Nat.add_comm _ _⟩
  · rw [if_neg c, if_neg c, if_neg c]; exact ⟨Nat.zero_add _, Nat.zero_add _⟩
theorem nM_eq (ss : List Row) (r : Row) : nMC ss r + kC ss.length = kC (nMake ss r).length ∧ nMS ss r + kS ss.length = kS (nMake ss r).length := by
  unfold nMC nMS nMake
  by_cases c : kFind ss r = 0
  · rw [if_pos c, if_pos c, if_pos c, kC_app, kS_app]
    exact ⟨Nat.add_comm _ _, Nat.add_comm _ _⟩
  · rw [if_neg c, if_neg c, if_neg c]; exact ⟨Nat.zero_add _, Nat.zero_add _⟩
theorem sM_b (ss : List Row) (r : Row) : sMC ss r = bC ss (sMake ss r) ∧ sMS ss r = bS ss (sMake ss r) := by
  have := sM_eq ss r
  unfold bC bS
  omega
theorem nM_b (ss : List Row) (r : Row) : nMC ss r = bC ss (nMake ss r) ∧ nMS ss r = bS ss (nMake ss r) := by
  have := nM_eq ss r
  unfold bC bS
  omega
theorem b_self (ss : List Row) : bC ss ss = 0 ∧ bS ss ss = 0 := ⟨Nat.sub_self _, Nat.sub_self _⟩
theorem j_eq {jd RR SL k : Nat} (hR : jd < RR) (hL : jd < SL) : jMC jd RR SL k + RR + SL ≤ jRR jd RR k + jSL jd SL k ∧ jMS jd RR SL k + 20 * RR + 2 * SL ≤ 20 * jRR jd RR k + 2 * jSL jd SL k := by
  unfold jMC jMS jRR jSL
  by_cases c : k ≤ jd
  · rw [if_pos c, if_pos c, if_pos c, if_pos c]; omega
  · rw [if_neg c, if_neg c, if_neg c, if_neg c]
    unfold rchC rchS sndC sndS reachR sndL
    by_cases c1 : k < RR
    · by_cases c2 : k < SL
      · simp only [c1, c2, if_true]; omega
      · simp only [c1, c2, if_true, if_false]; omega
    · by_cases c2 : k < SL
      · simp only [c1, c2, if_true, if_false]; omega
      · simp only [c1, c2, if_false]; omega
theorem j_le {jd RR SL k : Nat} (hk : k ≤ 8000) (hR : RR ≤ 16000) (hL : SL ≤ 16000) : jRR jd RR k ≤ 16000 ∧ jSL jd SL k ≤ 16000 := by
  unfold jRR jSL
  by_cases c : k ≤ jd
  · rw [if_pos c, if_pos c]; exact ⟨hR, hL⟩
  · rw [if_neg c, if_neg c]
    unfold reachR sndL
    refine ⟨?_, ?_⟩
    · split <;> omega
    · split <;> omega
theorem fx_same {G : rG} {n : Nat} {ad : Nat → Nat} {en : Nat → va_E} {s : NSt} {jd RR SL : Nat} {SN : Nat → Nat → Bool} {sf : Nat → Int32} {fl : Bool} {hw : Nat} {dv : Nat → Int32} {SG : Nat → Nat → Bool} {fuel sp : Nat} (h : PsW G n ad en s jd RR SL SN sf fl hw dv SG fuel sp) {V r : Int32} {c d : Nat} (hV : r = V) (hc : c = 0) (hd : d = 0) : fPost G n ad en V s sp (c + pC7 s hw RR SL) (d + pS7 s hw RR SL) r ad en :=
  ⟨hV, ⟨jd, RR, SL, SN, sf, fl, hw, dv, SG, fuel, h, by omega, by omega⟩, Fr_rf⟩
theorem fx_st {G : rG} {n : Nat} {ad ad1 : Nat → Nat} {en en1 : Nat → va_E} {s : NSt} {jd RR SL : Nat} {SN : Nat → Nat → Bool} {sf : Nat → Int32} {fl : Bool} {hw : Nat} {dv : Nat → Int32} {SG : Nat → Nat → Bool} {fuel sp : Nat} {r : Row} (h : PsW G n ad1 en1 (sMake s.1 r, s.2) jd RR SL SN sf fl hw dv SG fuel sp) (hF : Fr n psS psA ad en ad1 en1) {P : Int32 × List Row} (hP : P = (sMakeR s.1 r, sMake s.1 r)) : fPost G n ad en P.1 (P.2, s.2) sp (bC s.1 P.2 + pC7 s hw RR SL) (bS s.1 P.2 + pS7 s hw RR SL) (sMakeR s.1 r) ad1 en1 := by
  subst hP
  refine ⟨rfl, ⟨jd, RR, SL, SN, sf, fl, hw, dv, SG, fuel, h, ?_, ?_⟩, hF⟩
  · have := sM_eq s.1 r; have := sM_b s.1 r; unfold pC7; show bC s.1 (sMake s.1 r) + (kC s.1.length + kC s.2.length + dPC hw + RR + SL) ≤ kC (sMake s.1 r).length + kC s.2.length + dPC hw + RR + SL; omega
  · have := sM_eq s.1 r; have := sM_b s.1 r; unfold pS7; show bS s.1 (sMake s.1 r) + (kS s.1.length + kS s.2.length + dPS hw + 20 * RR + 2 * SL) ≤ kS (sMake s.1 r).length + kS s.2.length + dPS hw + 20 * RR + 2 * SL; omega

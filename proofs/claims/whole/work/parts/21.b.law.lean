theorem lw_hd {L i : Nat} (hL : L ≤ 3072) (hi : i < 2 ^ 31) (h : ¬ Int32.ofNat L - 6 < nI i) : i + 6 ≤ L := by
  by_cases c : 6 ≤ L
  · obtain ⟨k, rfl⟩ : ∃ k, L = k + 6 := ⟨L - 6, by omega⟩
    have e : Int32.ofNat (k + 6) - 6 = nI k := by
      show nI (k + 6) - 6 = nI k
      rw [← nI_add k 6]
      exact Int32.add_sub_cancel _ _
    rw [e] at h
    have : ¬ k < i := fun q => h ((nI_ltI (by omega) hi).mpr q)
    omega
  · exfalso
    apply h
    rw [i_lt, nI_toInt hi]
    have : L = 0 ∨ L = 1 ∨ L = 2 ∨ L = 3 ∨ L = 4 ∨ L = 5 := by omega
    rcases this with rfl | rfl | rfl | rfl | rfl | rfl
    · have z : (Int32.ofNat 0 - 6).toInt = -6 := by decide
      omega
    · have z : (Int32.ofNat 1 - 6).toInt = -5 := by decide
      omega
    · have z : (Int32.ofNat 2 - 6).toInt = -4 := by decide
      omega
    · have z : (Int32.ofNat 3 - 6).toInt = -3 := by decide
      omega
    · have z : (Int32.ofNat 4 - 6).toInt = -2 := by decide
      omega
    · have z : (Int32.ofNat 5 - 6).toInt = -1 := by decide
      omega
theorem Md_kp {G : rG} {n : Nat} {ad ad1 : Nat → Nat} {en en1 : Nat → va_E} {ss ns : List Row} {c : Nat → Nat → Int32} {us ov dp cl : Int32} (h : MdW G n ad en ss ns c us ov dp cl) (ha : ∀ k, 22 ≤ k → k < 48 → ad1 k = ad k) (he : ∀ k, 22 ≤ k → k < 48 → en1 k = en k) : MdW G n ad1 en1 ss ns c us ov dp cl := by
  obtain ⟨h1, h2, h3, h4, h5, h6⟩ := h
  refine ⟨h1, ?_, fun r a b => (he r (by omega) (by omega)).trans (h3 r a b), fun r a b => (he r (by omega) (by omega)).trans (h4 r a b), h5, h6⟩
  rw [he 22 (by omega) (by omega), h2]
  unfold mObj
  rw [ha 23 (by omega) (by omega), ha 24 (by omega) (by omega), ha 25 (by omega) (by omega), ha 26 (by omega) (by omega), ha 27 (by omega) (by omega), ha 28 (by omega) (by omega), ha 29 (by omega) (by omega), ha 30 (by omega) (by omega), ha 31 (by omega) (by omega), ha 32 (by omega) (by omega), ha 33 (by omega) (by omega), ha 34 (by omega) (by omega), ha 35 (by omega) (by omega), ha 36 (by omega) (by omega), ha 37 (by omega) (by omega), ha 38 (by omega) (by omega), ha 39 (by omega) (by omega), ha 40 (by omega) (by omega), ha 41 (by omega) (by omega), ha 42 (by omega) (by omega), ha 43 (by omega) (by omega), ha 44 (by omega) (by omega), ha 45 (by omega) (by omega), ha 46 (by omega) (by omega), ha 47 (by omega) (by omega)]
theorem Ps_kp {G : rG} {n : Nat} {ad : Nat → Nat} {en en1 : Nat → va_E} {s : NSt} {jd RR SL : Nat} {SN : Nat → Nat → Bool} {sf : Nat → Int32} {fl : Bool} {hw : Nat} {dv : Nat → Int32} {SG : Nat → Nat → Bool} {fuel sp : Nat} (h : PsW G n ad en s jd RR SL SN sf fl hw dv SG fuel sp) (he : ∀ k, k < 22 → en1 k = en k) : PsW G n ad en1 s jd RR SL SN sf fl hw dv SG fuel sp := by
  obtain ⟨h0, ⟨p1, p2, p3, p4, p5⟩, ⟨q1, q2, q3, q4, q5⟩, h3, h4⟩ := h
  exact ⟨(he 0 (by omega)).trans h0, ⟨StAt_keep p1 (fun _ _ _ => rfl) (fun k a b => he k (by omega)), NdAt_keep p2 rfl (fun _ _ _ => rfl) (fun k a b => he k (by omega)), p3, p4, (he 21 (by omega)).trans p5⟩, ⟨q1, StAt_keep q2 (fun _ _ _ => rfl) (fun k a b => he k (by omega)), DerAt_keep q3 (fun _ _ _ => rfl) (fun k a b => he k (by omega)), SetsAt_keep q4 (fun _ _ _ => rfl) (fun k a b => he k (by omega)), (he 18 (by omega)).trans q5⟩, h3, h4⟩
theorem NdOK_nil : NdOK [] [] 0 16 16 (fun _ _ => false) (fun _ => 0) := by
  refine ⟨nsOK_nil, Nat.le_refl _, by decide, by decide, fun k a b => by omega, fun k a x => ?_⟩
  rw [decide_eq_false (by omega)]; rfl
theorem Ps_new {G : rG} {ad ad1 : Nat → Nat} {en en1 : Nat → va_E} (h : psW0 G ad en) (ha : ∀ k, k < 22 → ad1 k = ad k) (he : ∀ k, k < 22 → en1 k = en k) : PsW G 48 ad1 en1 ([], []) 0 16 16 (fun _ _ => false) (fun _ => 0) false 0 (fun _ => 0) (fun _ _ => false) 0 0 := by
  obtain ⟨h0, h1, h2, h3, h4, h5, h6⟩ := h
  have g2 : StAt G 48 ad1 en1 [] := StAt_keep (StAt_n h2 (by decide)) (fun k a b => ha k (by omega)) (fun k a b => he k (by omega))
  refine ⟨?_, ⟨g2, NdAt_keep (NdAt_n h3 (by decide)) (ha 3 (by omega)) (fun k a b => ha k (by omega)) (fun k a b => he k (by omega)), NdOK_nil, by decide, ?_⟩, ⟨by decide, g2, DerAt_keep (DerAt_n h1 (by decide)) (fun k a b => ha k (by omega)) (fun k a b => he k (by omega)), SetsAt_keep (SetsAt_n h4 (by decide)) (fun k a b => ha k (by omega)) (fun k a b => he k (by omega)), ?_⟩, by decide, by decide⟩
  · rw [ha 3 (by omega), ha 11 (by omega), ha 18 (by omega), ha 21 (by omega)]; exact (he 0 (by omega)).trans h0
  · rw [ha 3 (by omega), ha 11 (by omega), ha 1 (by omega)]; exact (he 21 (by omega)).trans h6
  · rw [ha 3 (by omega), ha 1 (by omega), ha 19 (by omega)]; exact (he 18 (by omega)).trans h5
def LawI (pP : Program) (l : Launch) (eE : Env) (sS : State) (mM : MethodId) (bB : List Frame) (tT : Method) (cC : Code) (b : Nat) (G : rG) (i : Nat) : Prop := ∀ (s0 : NSt) (jd RR SL : Nat) (SN : Nat → Nat → Bool) (sf : Nat → Int32) (fl : Bool) (hw : Nat) (dv : Nat → Int32) (SG : Nat → Nat → Bool) (fuel sp : Nat) (c : Nat → Nat → Int32) (ov dp cl : Int32) (C D : Nat) (ad : Nat → Nat) (en : Nat → va_E) (H : Heap) (locs : List Loc) (ls : Array Slot), (PsW G 48 ad en s0 jd RR SL SN sf fl hw dv SG fuel sp) → (MdW G 48 ad en s0.1 s0.2 c (nI sp) ov dp cl) → (C ≤ 48 + pC7 s0 hw RR SL) → (D ≤ 126756 + pS7 s0 hw RR SL) → (rS G (lwA sS) sS.heap 48 ad en H locs) → (lv_has ls 4 [(3, .int (nI i)), (0, .ref b), (1, .ref (ad 0)), (2, .ref (ad 22))]) → W pP l eE room_1 sS mM #[Value.ref b] bB tT cC H locs C D (lw_Z bB #[Value.ref b] sS) (F0 mM 18 ls [])

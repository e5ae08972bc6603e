theorem part_0 {ss ns : List Row} (h : nsOK ss ns) {k : Nat} (hk : 1 ≤ k ∧ k ≤ ns.length) : (nT ns k = 0 → nA ns k = 0 ∧ nB ns k = 0 ∧ nC ns k = 0) ∧ (nT ns k = 1 → nB ns k = 0 ∧ nC ns k = 0) := by
  obtain ⟨h1, h2, h3, h4, h5, h6⟩ := h.2.1 k hk.1 hk.2
  refine ⟨fun q => ?_, fun q => ?_⟩
  · have q : (kAt ns k).1 = 0 := q
    rw [q] at h4 h5 h6
    exact ⟨h4, h5, h6⟩
  · have q : (kAt ns k).1 = 1 := q
    rw [q] at h5 h6
    exact ⟨h5, h6⟩
theorem on_part {ss ns : List Row} {c : Nat → Nat → Int32} {j f a : Nat} (hz : c 46 0 = 0) (hrs : ∀ i, 1 ≤ i → i < j → c 45 i = 1 → c 46 i = b2i (restB ss ns i f)) (h : a = 0 ∨ c 45 a = 1) (ha : a < j) : c 46 a = b2i (restB ss ns a f) := by
  by_cases q : a = 0
  · rw [q, hz]; rfl
  · exact hrs a (by omega) ha (h.resolve_left q)
theorem on_step {ss ns : List Row} {c : Nat → Nat → Int32} {j f : Nat} {x : Int32} (hrs : ∀ i, 1 ≤ i → i < j → c 45 i = 1 → c 46 i = b2i (restB ss ns i f)) (hx : x = b2i (restB ss ns j f)) : ∀ i, 1 ≤ i → i < j + 1 → cU c 46 j x 45 i = 1 → cU c 46 j x 46 i = b2i (restB ss ns i f) := by
  intro i a b e
  rw [cU_o (Or.inl (by decide))] at e
  by_cases q : i = j
  · rw [q, cU_s, hx]
  · rw [cU_o (by omega)]; exact hrs i a (by omega) e
theorem on_skip {ss ns : List Row} {c : Nat → Nat → Int32} {j f : Nat} (hrs : ∀ i, 1 ≤ i → i < j → c 45 i = 1 → c 46 i = b2i (restB ss ns i f)) (hx : c 45 j = 0) : ∀ i, 1 ≤ i → i < j + 1 → c 45 i = 1 → c 46 i = b2i (restB ss ns i f) := by
  intro i a b e
  by_cases q : i = j
  · rw [q, hx] at e; exact absurd e (by decide)
  · exact hrs i a (by omega) e
theorem on_E {ss ns : List Row} (hn : nsOK ss ns) {k f : Nat} (hk : 1 ≤ k ∧ k ≤ ns.length) : restB ss ns k f = (if nT ns k = 0 then decide (nG ns k = f) else if nT ns k = 1 then restB ss ns (nA ns k) f && !decide (sSort ss (nG ns k) = 4 ∧ sL ss (nG ns k) = f) else if nT ns k = 8 then (restB ss ns (nA ns k) f || (restB ss ns (nB ns k) f && !decide (sSort ss (nG ns (nA ns k)) = 3 ∧ sL ss (nG ns (nA ns k)) = f)) || (restB ss ns (nC ns k) f && !decide (sSort ss (nG ns (nA ns k)) = 3 ∧ sR ss (nG ns (nA ns k)) = f))) else (restB ss ns (nA ns k) f || restB ss ns (nB ns k) f || restB ss ns (nC ns k) f)) := by
  obtain ⟨p1, p2, -⟩ := part_lt hn hk
  have hA : ¬ nT ns k = 0 → 1 ≤ nG ns (nA ns k) ∧ nG ns (nA ns k) ≤ ss.length := fun q => (part_lt hn (k := nA ns k) (by have := nA_pos hn hk q; omega)).2.1
  rw [restB_eq hn hk, rE]
  by_cases t0 : nT ns k = 0
  · rw [if_pos t0, if_pos t0]; exact decide_eq_decide.mpr eq_comm
  rw [if_neg t0, if_neg t0]
  by_cases t1 : nT ns k = 1
  · rw [if_pos t1, if_pos t1, sIs_in p2, ← Bool.decide_and]
    congr 2
    exact decide_eq_decide.mpr (and_congr Iff.rfl eq_comm)
  rw [if_neg t1, if_neg t1]
  by_cases t8 : nT ns k = 8
  · rw [if_pos t8, decide_eq_true t8, sIs_in (hA t0), Bool.true_and, ← Bool.decide_and, ← Bool.decide_and]
    congr 1
    · congr 2; congr 1; exact decide_eq_decide.mpr (and_congr Iff.rfl eq_comm)
    · congr 1; congr 1; exact decide_eq_decide.mpr (and_congr Iff.rfl eq_comm)
  rw [if_neg t8, decide_eq_false t8, Bool.false_and, Bool.false_and, Bool.false_and, Bool.not_false, Bool.and_true, Bool.and_true]
theorem ls_out {P : Nat → Bool} {L z : Nat} (hP : ∀ y, P y = true → 1 ≤ y ∧ y ≤ L) (hL : L ≤ 600) (h : ∀ y, z < y → y ≤ L → P y = false) (hz : z < 2 ^ 31) : sLeast P (nI z) = 0 := by
  refine Decidable.byContradiction (fun q => ?_)
  obtain ⟨a, b, d, -⟩ := sLeast_y hz q
  have := hP _ d
  rw [h _ a this.2] at d; cases d
theorem ls_hit {P : Nat → Bool} {z m : Nat} (hm : z < m ∧ m ≤ 600) (hP : P m = true) (h : ∀ y, z < y → y < m → P y = false) : sLeast P (nI z) = m := by
  unfold sLeast
  rw [nI_toInt (by omega), if_neg (by omega)]
  have e : ((max ((z : Nat) : Int) 0).toNat) = z := by omega
  rw [e]
  exact lstF_hit (by omega) (by omega) hP (fun y a b => h y (by omega) b)
theorem cnt_skip {P : Nat → Bool} {a : Nat} : ∀ {b : Nat}, a ≤ b → (∀ y, a ≤ y → y < b → P y = false) → cnt P b = cnt P a
  | 0, h, _ => by rw [show a = 0 by omega]
  | b + 1, h, hn => by
    by_cases e : a = b + 1
    · rw [e]
    · rw [cnt, hn b (by omega) (by omega), cnt_skip (b := b) (by omega) (fun y q1 q2 => hn y q1 (by omega))]; rfl
theorem ls_n {P : Nat → Bool} {L q : Nat} (hP : ∀ y, P y = true → 1 ≤ y ∧ y ≤ L) (hL : L ≤ 600) (h : sLeast P (nI q) = 0) (hq : q ≤ L) : ∀ y, q < y → P y = false := by
  intro y hy
  cases e : P y with
  | false => rfl
  | true =>
    have := hP y e
    by_cases c : q < 600
    · rw [sLeast_n c h y hy (by omega)] at e; cases e
    · omega
def rsI (P : Nat → Bool) (L t q : Nat) : Prop := t ≤ 640 ∧ ((q = 0 ∧ t = cnt P 640) ∨ (1 ≤ q ∧ q ≤ L ∧ P q = true ∧ t = cnt P q))
theorem rs_0 {P : Nat → Bool} {L : Nat} (hP : ∀ y, P y = true → 1 ≤ y ∧ y ≤ L) (hL : L ≤ 600) : rsI P L 0 (sLeast P (nI 0)) := by
  refine ⟨by omega, ?_⟩
  by_cases q : sLeast P (nI 0) = 0
  · refine Or.inl ⟨q, ((cnt_skip (a := 0) (by omega) (fun y _ _ => ?_)).trans rfl).symm⟩
    cases e : P y with
    | false => rfl
    | true => have := hP y e; rw [ls_n hP hL q (by omega) y (by omega)] at e; cases e
  · obtain ⟨a, b, d, e⟩ := sLeast_y (by decide) q
    have := hP _ d
    refine Or.inr ⟨this.1, this.2, d, ((cnt_skip (a := 0) (by omega) (fun y _ h => ?_)).trans rfl).symm⟩
    by_cases y0 : y = 0
    · cases e0 : P y with
      | false => rfl
      | true => have := hP y e0; omega
    · exact e y (by omega) h
theorem rs_s {P : Nat → Bool} {L t q : Nat} (hP : ∀ y, P y = true → 1 ≤ y ∧ y ≤ L) (hL : L ≤ 600) (h : rsI P L t q) (hq : ¬ q = 0) : rsI P L (t + 1) (sLeast P (nI q)) := by
  obtain ⟨ht, h | ⟨h1, h2, h3, h4⟩⟩ := h
  · exact absurd h.1 hq
  have e1 : t + 1 = cnt P (q + 1) := by rw [cnt, h3, ← h4]; rfl
  have hle := cnt_le2 P (q + 1)
  refine ⟨by omega, ?_⟩
  by_cases c : sLeast P (nI q) = 0
  · exact Or.inl ⟨c, e1.trans (cnt_skip (by omega) (fun y a b => ls_n hP hL c h2 y (by omega))).symm⟩
  · obtain ⟨a, b, d, e⟩ := sLeast_y (by omega) c
    have := hP _ d
    exact Or.inr ⟨this.1, this.2, d, e1.trans (cnt_skip (by omega) (fun y z1 z2 => e y (by omega) z2)).symm⟩
theorem rs_c {P : Nat → Bool} {L : Nat} (hP : ∀ y, P y = true → 1 ≤ y ∧ y ≤ L) (hL : L ≤ 600) : sLeast P (nI 0) = 0 ↔ cnt P 640 = 0 := by
  obtain ⟨ht, h | ⟨h1, h2, h3, h4⟩⟩ := rs_0 hP hL
  · exact ⟨fun _ => h.2.symm, fun _ => h.1⟩
  · refine ⟨fun q => by omega, fun q => ?_⟩
    have hs : cnt P (sLeast P (nI 0) + 1) = 1 := by rw [cnt, h3, ← h4]; rfl
    have hm : ∀ b a, a ≤ b → cnt P a ≤ cnt P b := by
      intro b
      induction b with
      | zero => intro a h; rw [show a = 0 by omega]; exact Nat.le_refl _
      | succ b ih =>
        intro a h
        by_cases e : a = b + 1
        · rw [e]; exact Nat.le_refl _
        · have := ih a (by omega)
          rw [cnt]; omega
    have := hm 640 (sLeast P (nI 0) + 1) (by omega)
    omega
theorem ls_big {P : Nat → Bool} {L : Nat} {y : Int32} (hP : ∀ y, P y = true → 1 ≤ y ∧ y ≤ L) (hL : L ≤ 600) (h : ¬ y < nI L) : sLeast P y = 0 := by
  rw [i_lt, nI_toInt (by omega)] at h
  unfold sLeast
  by_cases c : 600 ≤ y.toInt
  · rw [if_pos c]
  · rw [if_neg c]
    refine lstF_none (fun q a b => ?_)
    cases e : P q with
    | false => rfl
    | true => have := hP q e; omega
theorem ls_neg {P : Nat → Bool} {y : Int32} (h : y < 0) : sLeast P y = sLeast P (nI 0) := by
  rw [i_lt, show (0 : Int32).toInt = 0 from rfl] at h
  unfold sLeast
  rw [if_neg (by omega), if_neg (by decide), show (max y.toInt 0).toNat = 0 by omega]
  rfl
theorem bit32s {w : Int32} {j : Nat} (hj : j < 32) : ((w >>> ((nI j) &&& 31)) &&& 1) = b2i (w.toBitVec.getLsbD j) := by
  have hs : ∀ j, j < 32 → ((nI j) &&& 31) = nI j := by decide +kernel
  have hm : ∀ j, j < 32 → ((nI j).toBitVec.smod 32).toNat = j := by decide +kernel
  rw [hs j hj]
  have e : (w >>> nI j).toBitVec = w.toBitVec.sshiftRight j := by
    rw [Int32.toBitVec_shiftRight, BitVec.sshiftRight', hm j hj]
  rw [← Int32.toBitVec_inj, Int32.toBitVec_and, e]
  have hsr : (w.toBitVec.sshiftRight j).getLsbD 0 = w.toBitVec.getLsbD j := by rw [BitVec.getLsbD_sshiftRight]; simp [hj]
  show w.toBitVec.sshiftRight j &&& 1#32 = (b2i (w.toBitVec.getLsbD j)).toBitVec
  apply BitVec.eq_of_getLsbD_eq
  intro i hi
  cases hb : w.toBitVec.getLsbD j
  · show _ = (0#32).getLsbD i
    by_cases h0 : i = 0
    · subst h0; rw [BitVec.getLsbD_and, hsr, hb]; rfl
    · simp [h0]
  · show _ = (1#32).getLsbD i
    by_cases h0 : i = 0
    · subst h0; rw [BitVec.getLsbD_and, hsr, hb]; rfl
    · simp [h0]
theorem parts_lo {ss : List Row} (h : ssOK ss) {f : Nat} (hf : 1 ≤ f ∧ f ≤ ss.length) (h2 : 2 ≤ sSort ss f) : (1 ≤ sL ss f ∧ sL ss f < f) ∧ (1 ≤ sR ss f ∧ sR ss f < f) := by
  have q := h.2.1 f hf.1 hf.2
  unfold sSort at h2
  unfold sL sR
  obtain ⟨-, q | q | q⟩ := q <;> omega
theorem tvT_ge (ss : List Row) (y : Int32) {a k : Nat} (h : k ≤ a) : tvT ss y a k = tvT ss y k k := by
  induction h with
  | refl => rfl
  | step hh ih => rw [tvT_s, if_neg (by have := Nat.le.dest hh; omega)]; exact ih
theorem tv_E {ss : List Row} (y : Int32) {j : Nat} (hs : ssOK ss) (hj : 1 ≤ j ∧ j ≤ ss.length) : tvT ss y j j = (if sSort ss j = 0 then y.toBitVec.getLsbD (sL ss j) else if sSort ss j = 2 then tvT ss y (sL ss j) (sL ss j) && tvT ss y (sR ss j) (sR ss j) else if sSort ss j = 3 then tvT ss y (sL ss j) (sL ss j) || tvT ss y (sR ss j) (sR ss j) else if sSort ss j = 4 then !tvT ss y (sL ss j) (sL ss j) || tvT ss y (sR ss j) (sR ss j) else false) := by
  obtain ⟨k, rfl⟩ : ∃ k, j = k + 1 := ⟨j - 1, by omega⟩
  rw [tvT_s, if_pos rfl, tvE]
  by_cases c0 : sSort ss (k + 1) = 0
  · rw [if_pos c0, if_pos c0]
  rw [if_neg c0, if_neg c0]
  by_cases c1 : sSort ss (k + 1) = 1
  · simp [c1]
  have hp := parts_lo hs hj (by omega)
  rw [tvT_ge ss y (show sL ss (k + 1) ≤ k by omega), tvT_ge ss y (show sR ss (k + 1) ≤ k by omega)]

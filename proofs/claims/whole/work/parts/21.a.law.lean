/-! THE CLAIM OUT OF ONE WALK OF THE LAW'S BODY. Your part is whole_start (and what it stands on); all else here is the same for every law, but numbers. -/
def R_law : String := "ProofSeekerLaw"
def lw_P (b : Addr) (xs : List Int32) (args : Array Value) (s : State) : Prop := args = #[.ref b] ∧ s.IntsAt b xs ∧ xs.length ≤ 3072 ∧ (Jvm.Cond.and given_1 narrow_1).before args s = true
def lw_Q (_ : Array Value) (s : State) (o : Outcome) (t : State) : Prop := o = .returned (some (.int 1)) ∧ Framed s o t [] 600000 7302250
def lw_Z (below : List Frame) (a : Array Value) (s : State) : State → Prop := fun t => ∃ o, t.status = .running ∧ Ended t below o ∧ lw_Q a s o t
/-- the law's own end, with 1 on the stack, nothing written that was there before, its room as the claim has it -/
theorem lw_ret {p : Program} {l : Launch} {e : Env} {s : State} {m : MethodId} {below : List Frame} {meth : Method} {c : Code} {b : Nat} (hx : p.tables.exec = Jvm.exec) (hb : c.code = code) (hr : meth.sig.returnType = ret) (hlocks : meth.locks = false) {pc : Nat} {H : Heap} {ls : Array Slot} (hdg : decode code pc = .ok (.ireturn, 1)) : W p l e room_1 s m #[Value.ref b] below meth c H [] 600000 7302250 (lw_Z below #[Value.ref b] s) (F0 m pc ls [.int 1]) := by
  intro T hT X
  obtain ⟨fs, hret, hrun, hended, hW, hframe⟩ := X.leave (v := some (.int 1)) (hlocks := hlocks) (fun h => by rw [hr] at h; cases h)
  have hmeth' : T.vm.method? m = some meth := X.method'
  refine ⟨T.setFrames fs, ?_, .returned (some (.int 1)), hrun, hended, rfl, ⟨_, rfl⟩, hW, hframe⟩
  jvm_step X.here [X.here.top, hx, hb, hdg, hmeth', hr, ret, narrow_b1]
  (try refine ⟨rfl, ?_⟩); (try refine ⟨rfl, ?_⟩)
  first | (intro acts; rw [hret _ acts rfl rfl rfl]) | rw [hret _ _ rfl rfl rfl]
  exact Steps.refl _
/-- what holds at the law's entry: the machine, the code, the tables' words (any of lw_tbl by 'hts w (by decide +kernel)'), the script of L ints xs at the cell b, what the Statement gives of the start (any of its parts by flat_of_before) -/
def lw_At (p : Program) (s : State) (m : MethodId) (meth : Method) (c : Code) (b L : Nat) (xs : Nat → Int32) : Prop :=
  p.tables.exec = Jvm.exec ∧ c.code = code ∧ meth.sig.returnType = ret ∧ c.maxLocals = 4 ∧ s.vm.findClass R_law = some m.cls ∧ (∀ w ∈ lw_tbl, w.before #[Value.ref b] s = true) ∧ va_X b L xs s s.heap ∧ b < s.heap.size ∧ meth.locks = false ∧ (Jvm.Cond.and given_1 narrow_1).before #[Value.ref b] s = true
def lwA (s : State) : Nat → Prop := fun q => s.heap.size ≤ q
set_option maxHeartbeats 4000000 in
theorem law_K {p : Program} {s : State} {m : MethodId} {meth : Method} {c : Code} {b L : Nat} {xs : Nat → Int32} (C0 : lw_At p s m meth c b L xs) : ∃ G : rG, rK G (lwA s) s := by
  obtain ⟨hx, hb, hr, hml, hown, hts0, hX, hbl, hlocks, hgv⟩ := C0
  have hts : ∀ w ∈ TB, w.before #[Value.ref b] s = true := fun w h => hts0 w (List.mem_filter.mp h).1
  have hA : ∀ a : Nat, a < s.heap.size → ¬ lwA s a := fun a h => Nat.not_le.mpr h
  obtain ⟨c0, i0, k0⟩ := u_known (C := RX0) (T := TX0) (N := 1) (n := 1) hts inlX0 (hts _ w_ins_RX0)
  obtain ⟨c1, i1, k1⟩ := u_known (C := RX1) (T := TX1) (N := 4) (n := 4) hts inlX1 (hts _ w_ins_RX1)
  obtain ⟨c2, i2, k2⟩ := u_known (C := RX2) (T := TX2) (N := 5) (n := 5) hts inlX2 (hts _ w_ins_RX2)
  obtain ⟨c3, i3, k3⟩ := u_known (C := RX3) (T := TX3) (N := 4) (n := 4) hts inlX3 (hts _ w_ins_RX3)
  obtain ⟨c4, i4, k4⟩ := u_known (C := RX4) (T := TX4) (N := 5) (n := 5) hts inlX4 (hts _ w_ins_RX4)
  obtain ⟨c5, i5, k5⟩ := u_known (C := RX5) (T := TX5) (N := 2) (n := 2) hts inlX5 (hts _ w_ins_RX5)
  obtain ⟨c6, i6, k6⟩ := u_known (C := RX6) (T := TX6) (N := 3) (n := 3) hts inlX6 (hts _ w_ins_RX6)
  obtain ⟨c7, i7, k7⟩ := u_known (C := RX7) (T := TX7) (N := 4) (n := 4) hts inlX7 (hts _ w_ins_RX7)
  obtain ⟨c8, i8, k8⟩ := u_known (C := RX8) (T := TX8) (N := 31) (n := 31) hts inlX8 (hts _ w_ins_RX8)
  obtain ⟨a0, kA0, q0, n0, h0, t0⟩ := Cond.arrayClass_spec (hts _ w_ac_byte)
  obtain ⟨a1, kA1, q1, n1, h1, t1⟩ := Cond.arrayClass_spec (hts _ w_ac_int)
  obtain ⟨a2, kA2, q2, n2, h2, t2⟩ := Cond.arrayClass_spec (hts _ w_ac_long)
  obtain ⟨a3, kA3, q3, n3, h3, t3⟩ := Cond.arrayClass_spec (hts _ w_ac_boolean)
  have hs := flat_of_before _ hgv
  have E1 : ∀ j : Nat, j < 14 → (Term.elem (Term.static "ProofSeeker$Derivation" "PREMISES" "[I") (.int (Int32.ofNat j))).eval #[Value.ref b] s none [] s = some (.int (nI (rPremL.getD j 0))) := by
    intro j hj
    have : j = 0 ∨ j = 1 ∨ j = 2 ∨ j = 3 ∨ j = 4 ∨ j = 5 ∨ j = 6 ∨ j = 7 ∨ j = 8 ∨ j = 9 ∨ j = 10 ∨ j = 11 ∨ j = 12 ∨ j = 13 := by omega
    rcases this with rfl | rfl | rfl | rfl | rfl | rfl | rfl | rfl | rfl | rfl | rfl | rfl | rfl | rfl
    · exact va_eqt (z := 0) (hs (Cond.eq (Term.elem (Term.static "ProofSeeker$Derivation" "PREMISES" "[I") (Term.int 0)) (Term.int 0)) (by decide +kernel))
    · exact va_eqt (z := 0) (hs (Cond.eq (Term.elem (Term.static "ProofSeeker$Derivation" "PREMISES" "[I") (Term.int 1)) (Term.int 0)) (by decide +kernel))
    · exact va_eqt (z := 0) (hs (Cond.eq (Term.elem (Term.static "ProofSeeker$Derivation" "PREMISES" "[I") (Term.int 2)) (Term.int 0)) (by decide +kernel))
    · exact va_eqt (z := 2) (hs (Cond.eq (Term.elem (Term.static "ProofSeeker$Derivation" "PREMISES" "[I") (Term.int 3)) (Term.int 2)) (by decide +kernel))
    · exact va_eqt (z := 1) (hs (Cond.eq (Term.elem (Term.static "ProofSeeker$Derivation" "PREMISES" "[I") (Term.int 4)) (Term.int 1)) (by decide +kernel))
    · exact va_eqt (z := 1) (hs (Cond.eq (Term.elem (Term.static "ProofSeeker$Derivation" "PREMISES" "[I") (Term.int 5)) (Term.int 1)) (by decide +kernel))
    · exact va_eqt (z := 2) (hs (Cond.eq (Term.elem (Term.static "ProofSeeker$Derivation" "PREMISES" "[I") (Term.int 6)) (Term.int 2)) (by decide +kernel))
    · exact va_eqt (z := 1) (hs (Cond.eq (Term.elem (Term.static "ProofSeeker$Derivation" "PREMISES" "[I") (Term.int 7)) (Term.int 1)) (by decide +kernel))
    · exact va_eqt (z := 1) (hs (Cond.eq (Term.elem (Term.static "ProofSeeker$Derivation" "PREMISES" "[I") (Term.int 8)) (Term.int 1)) (by decide +kernel))
    · exact va_eqt (z := 1) (hs (Cond.eq (Term.elem (Term.static "ProofSeeker$Derivation" "PREMISES" "[I") (Term.int 9)) (Term.int 1)) (by decide +kernel))
    · exact va_eqt (z := 1) (hs (Cond.eq (Term.elem (Term.static "ProofSeeker$Derivation" "PREMISES" "[I") (Term.int 10)) (Term.int 1)) (by decide +kernel))
    · exact va_eqt (z := 1) (hs (Cond.eq (Term.elem (Term.static "ProofSeeker$Derivation" "PREMISES" "[I") (Term.int 11)) (Term.int 1)) (by decide +kernel))
    · exact va_eqt (z := 1) (hs (Cond.eq (Term.elem (Term.static "ProofSeeker$Derivation" "PREMISES" "[I") (Term.int 12)) (Term.int 1)) (by decide +kernel))
    · exact va_eqt (z := 2) (hs (Cond.eq (Term.elem (Term.static "ProofSeeker$Derivation" "PREMISES" "[I") (Term.int 13)) (Term.int 2)) (by decide +kernel))
  obtain ⟨s1, e1, T1⟩ := va_Tof (tm := (Term.static "ProofSeeker$Derivation" "PREMISES" "[I")) (ty := .int) (N := 14) (f := fun j => .int (nI (rPremL.getD j 0))) (A := lwA s) (by decide) (hs (Cond.arrayOf (Term.static "ProofSeeker$Derivation" "PREMISES" "[I") .int) (by decide +kernel)) (va_eqt (z := 14) (hs (Cond.eq (Term.length (Term.static "ProofSeeker$Derivation" "PREMISES" "[I")) (Term.int 14)) (by decide +kernel))) E1 hA
  have Z1 := va_Zof (A := lwA s) (hts0 (.laysStatic "ProofSeeker$Derivation" "PREMISES" "[I") (List.mem_append_right _ (show _ ∈ tables_1 from List.mem_append_right _ (List.mem_append_left _ (List.mem_of_getElem? (i := 132) rfl))))) (hts _ w_ini_RX0) e1 hA
  have E2 : ∀ j : Nat, j < 10 → (Term.elem (Term.static "ProofSeeker$NodeStore" "PARTS" "[I") (.int (Int32.ofNat j))).eval #[Value.ref b] s none [] s = some (.int (nI (rPartL.getD j 0))) := by
    intro j hj
    have : j = 0 ∨ j = 1 ∨ j = 2 ∨ j = 3 ∨ j = 4 ∨ j = 5 ∨ j = 6 ∨ j = 7 ∨ j = 8 ∨ j = 9 := by omega
    rcases this with rfl | rfl | rfl | rfl | rfl | rfl | rfl | rfl | rfl | rfl
    · exact va_eqt (z := 0) (hs (Cond.eq (Term.elem (Term.static "ProofSeeker$NodeStore" "PARTS" "[I") (Term.int 0)) (Term.int 0)) (by decide +kernel))
    · exact va_eqt (z := 1) (hs (Cond.eq (Term.elem (Term.static "ProofSeeker$NodeStore" "PARTS" "[I") (Term.int 1)) (Term.int 1)) (by decide +kernel))
    · exact va_eqt (z := 2) (hs (Cond.eq (Term.elem (Term.static "ProofSeeker$NodeStore" "PARTS" "[I") (Term.int 2)) (Term.int 2)) (by decide +kernel))
    · exact va_eqt (z := 2) (hs (Cond.eq (Term.elem (Term.static "ProofSeeker$NodeStore" "PARTS" "[I") (Term.int 3)) (Term.int 2)) (by decide +kernel))
    · exact va_eqt (z := 1) (hs (Cond.eq (Term.elem (Term.static "ProofSeeker$NodeStore" "PARTS" "[I") (Term.int 4)) (Term.int 1)) (by decide +kernel))
    · exact va_eqt (z := 1) (hs (Cond.eq (Term.elem (Term.static "ProofSeeker$NodeStore" "PARTS" "[I") (Term.int 5)) (Term.int 1)) (by decide +kernel))
    · exact va_eqt (z := 1) (hs (Cond.eq (Term.elem (Term.static "ProofSeeker$NodeStore" "PARTS" "[I") (Term.int 6)) (Term.int 1)) (by decide +kernel))
    · exact va_eqt (z := 1) (hs (Cond.eq (Term.elem (Term.static "ProofSeeker$NodeStore" "PARTS" "[I") (Term.int 7)) (Term.int 1)) (by decide +kernel))
    · exact va_eqt (z := 3) (hs (Cond.eq (Term.elem (Term.static "ProofSeeker$NodeStore" "PARTS" "[I") (Term.int 8)) (Term.int 3)) (by decide +kernel))
    · exact va_eqt (z := 1) (hs (Cond.eq (Term.elem (Term.static "ProofSeeker$NodeStore" "PARTS" "[I") (Term.int 9)) (Term.int 1)) (by decide +kernel))
  obtain ⟨s2, e2, T2⟩ := va_Tof (tm := (Term.static "ProofSeeker$NodeStore" "PARTS" "[I")) (ty := .int) (N := 10) (f := fun j => .int (nI (rPartL.getD j 0))) (A := lwA s) (by decide) (hs (Cond.arrayOf (Term.static "ProofSeeker$NodeStore" "PARTS" "[I") .int) (by decide +kernel)) (va_eqt (z := 10) (hs (Cond.eq (Term.length (Term.static "ProofSeeker$NodeStore" "PARTS" "[I")) (Term.int 10)) (by decide +kernel))) E2 hA
  have Z2 := va_Zof (A := lwA s) (hts0 (.laysStatic "ProofSeeker$NodeStore" "PARTS" "[I") (List.mem_append_right _ (show _ ∈ tables_1 from List.mem_append_right _ (List.mem_append_right _ (List.mem_append_left _ (List.mem_of_getElem? (i := 25) rfl)))))) (hts _ w_ini_RX2) e2 hA
  have N1 : va_Nw (.methodLinkNest RX7 9 yX0_init RX7) s := va_Nw.of rfl (hts0 (.methodLinkNest RX7 9 yX0_init RX7) (List.mem_append_right _ (show _ ∈ tables_1 from List.mem_append_left _ (List.mem_of_getElem? (i := 24) rfl))))
  have N2 : va_Nw (.methodLinkNest RX7 12 yX6_init RX7) s := va_Nw.of rfl (hts0 (.methodLinkNest RX7 12 yX6_init RX7) (List.mem_append_right _ (show _ ∈ tables_1 from List.mem_append_left _ (List.mem_of_getElem? (i := 35) rfl))))
  refine ⟨((fun k => match k with | 0 => c0 | 1 => c1 | 2 => c2 | 3 => c3 | 4 => c4 | 5 => c5 | 6 => c6 | 7 => c7 | _ => c8, fun k => match k with | 0 => i0 | 1 => i1 | 2 => i2 | 3 => i3 | 4 => i4 | 5 => i5 | 6 => i6 | 7 => i7 | _ => i8), (fun k => match k with | 0 => a0 | 1 => a1 | 2 => a2 | _ => a3), s1, s2), ⟨?_, ?_⟩, ⟨⟨Z1, T1⟩, ⟨Z2, T2⟩⟩, N1, N2⟩
  · intro k q hq
    match k, hq with
    | 0, hq => cases hq; exact k0
    | 1, hq => cases hq; exact k1
    | 2, hq => cases hq; exact k2
    | 3, hq => cases hq; exact k3
    | 4, hq => cases hq; exact k4
    | 5, hq => cases hq; exact k5
    | 6, hq => cases hq; exact k6
    | 7, hq => cases hq; exact k7
    | 8, hq => cases hq; exact k8
    | k + 9, hq => simp [vwCl] at hq
  · intro k q hq
    match k, hq with
    | 0, hq => cases hq; exact ⟨fun n z => ⟨fun k h => (by cases h), kA0, h0, q0, t0⟩, n0⟩
    | 1, hq => cases hq; exact ⟨fun n z => ⟨fun k h => (by cases h), kA1, h1, q1, t1⟩, n1⟩
    | 2, hq => cases hq; exact ⟨fun n z => ⟨fun k h => (by cases h), kA2, h2, q2, t2⟩, n2⟩
    | 3, hq => cases hq; exact ⟨fun n z => ⟨fun k h => (by cases h), kA3, h3, q3, t3⟩, n3⟩
    | k + 4, hq => simp [gT] at hq

/-! THE ROLE WORLD: the cells of the system by their ROLES 0 .. n-1: role k lies at address 'ad k' and holds 'en k'. -/
/-- what is fixed for a whole run: the classes' numbers and slots, the array classes (byte, int, long, boolean), the two static arrays -/
abbrev rG : Type := va_G × (Nat → ClassId) × Nat × Nat
abbrev gT (G : rG) : List (ClassId × FieldType) := [(G.2.1 0, .byte), (G.2.1 1, .int), (G.2.1 2, .long), (G.2.1 3, .boolean)]
abbrev aB (G : rG) (N : Nat) (f : Nat → Int32) : va_E := .inl (G.2.1 0, N, .inl f)
abbrev aI (G : rG) (N : Nat) (f : Nat → Int32) : va_E := .inl (G.2.1 1, N, .inl f)
abbrev aJ (G : rG) (N : Nat) (f : Nat → Int64) : va_E := .inl (G.2.1 2, N, .inr (.inl f))
abbrev aZ (G : rG) (N : Nat) (f : Nat → Int32) : va_E := .inl (G.2.1 3, N, .inl f)
def rPremL : List Nat := [0, 0, 0, 2, 1, 1, 2, 1, 1, 1, 1, 1, 1, 2]
def rPartL : List Nat := [0, 1, 2, 2, 1, 1, 1, 1, 3, 1]
/-- the static arrays PREMISES and PARTS -/
def rZ (G : rG) (A : Nat → Prop) (U : State) (H : Heap) : Prop :=
  (va_Z "ProofSeeker$Derivation" "PREMISES" "[I" (.ref G.2.2.1) A U H ∧ va_T .int G.2.2.1 14 (fun j => .int (nI (rPremL.getD j 0))) A U H) ∧
  (va_Z "ProofSeeker$NodeStore" "PARTS" "[I" (.ref G.2.2.2) A U H ∧ va_T .int G.2.2.2 10 (fun j => .int (nI (rPartL.getD j 0))) A U H)
theorem rZ.to {G : rG} {A B : Nat → Prop} {u U : State} {H H1 : Heap} (h : rZ G A u H) (hvm : u.vm.Alike U.vm) (hq : ∀ a : Nat, a < H.size → ¬ A a → H1[a]? = H[a]?) (hAB : ∀ q, B q → A q) : rZ G B U H1 :=
  ⟨⟨((h.1.1.moved hvm).kept hq).narrow hAB, ((h.1.2.moved hvm).kept hq).narrow hAB⟩, ⟨((h.2.1.moved hvm).kept hq).narrow hAB, ((h.2.2.moved hvm).kept hq).narrow hAB⟩⟩
/-- the links to the two private constructors -/
def rN (s : State) : Prop := va_Nw (.methodLinkNest RX7 9 yX0_init RX7) s ∧ va_Nw (.methodLinkNest RX7 12 yX6_init RX7) s
/-- the tables and the statics, as a method's start has them -/
def rK (G : rG) (A : Nat → Prop) (s : State) : Prop := va_K G.1 vwCl (gT G) s ∧ rZ G A s s.heap ∧ rN s
def rW (n : Nat) (ad : Nat → Nat) (en : Nat → va_E) : va_W := (List.range n).map (fun k => (ad k, en k))
theorem rW_get {n : Nat} {ad : Nat → Nat} {en : Nat → va_E} {k : Nat} (h : k < n) : (rW n ad en)[k]? = some (ad k, en k) := by
  simp [rW, h]
theorem rW_at {n : Nat} {ad : Nat → Nat} {en : Nat → va_E} {k : Nat} {e : va_E} (h : k < n) (he : en k = e) : (rW n ad en)[k]? = some (ad k, e) := by
  rw [rW_get h, he]
theorem rW_lt {n : Nat} {ad : Nat → Nat} {en : Nat → va_E} {k : Nat} {q : Nat × va_E} (h : (rW n ad en)[k]? = some q) : k < n ∧ q = (ad k, en k) := by
  by_cases hk : k < n
  · rw [rW_get hk] at h
    exact ⟨hk, (Option.some.inj h).symm⟩
  · rw [List.getElem?_eq_none (by simp [rW]; omega)] at h
    cases h
theorem rW_set {n : Nat} {ad : Nat → Nat} {en : Nat → va_E} {k : Nat} {e : va_E} (h : k < n) : (rW n ad en).set k (ad k, e) = rW n ad (va_up en k e) := by
  apply List.ext_getElem?
  intro i
  rw [List.getElem?_set]
  by_cases hi : k = i
  · subst hi
    rw [if_pos rfl, if_pos (by simpa [rW] using h), rW_get h, va_up_self]
  · rw [if_neg hi]
    by_cases hn : i < n
    · rw [rW_get hn, rW_get hn, va_up_ne _ _ (Ne.symm hi)]
    · rw [List.getElem?_eq_none (by simp [rW]; omega), List.getElem?_eq_none (by simp [rW]; omega)]
theorem rW_push {n : Nat} {ad : Nat → Nat} {en : Nat → va_E} {q : Nat} {e : va_E} : rW n ad en ++ [(q, e)] = rW (n + 1) (va_up ad n q) (va_up en n e) := by
  apply List.ext_getElem?
  intro i
  by_cases hn : i < n
  · rw [List.getElem?_append_left (by simp [rW]; omega), rW_get hn, rW_get (by omega), va_up_ne _ _ (by omega), va_up_ne _ _ (by omega)]
  · rw [List.getElem?_append_right (by simp [rW]; omega)]
    by_cases h2 : i = n
    · subst h2
      rw [rW_get (by omega), va_up_self, va_up_self]
      simp [rW]
    · rw [List.getElem?_eq_none (by simp [rW]; omega), List.getElem?_eq_none (by simp [rW]; omega)]
/-- the state of the walk: the roles' cells, apart and in A, nothing else changed since H0 -/
def rS (G : rG) (A : Nat → Prop) (H0 : Heap) (n : Nat) (ad : Nat → Nat) (en : Nat → va_E) (H : Heap) (locs : List Loc) : Prop :=
  va_P G.1 vwCl (rW n ad en) H ∧ va_D A (rW n ad en) ∧ va_S A H0 H locs
/-- role j is given up, and the cell that came last takes its place -/
theorem rS_swap {G : rG} {A : Nat → Prop} {H0 : Heap} {n : Nat} {ad : Nat → Nat} {en : Nat → va_E} {H : Heap} {locs : List Loc} (j : Nat) (hj : j < n) (h : rS G A H0 (n + 1) ad en H locs) : rS G A H0 n (va_up ad j (ad n)) (va_up en j (en n)) H locs := by
  obtain ⟨hP, hD, hS⟩ := h
  have key : ∀ (k : Nat) (q : Nat × va_E), (rW n (va_up ad j (ad n)) (va_up en j (en n)))[k]? = some q → (rW (n + 1) ad en)[if k = j then n else k]? = some q := by
    intro k q hk
    obtain ⟨h1, rfl⟩ := rW_lt hk
    by_cases hkj : k = j
    · subst hkj
      rw [if_pos rfl, rW_get (by omega), va_up_self, va_up_self]
    · rw [if_neg hkj, rW_get (by omega), va_up_ne _ _ hkj, va_up_ne _ _ hkj]
  refine ⟨hP.by _ key, hD.by _ key ?_, hS⟩
  intro i k hi hk e
  have h1 : i < n := by simpa [rW] using hi
  have h2 : k < n := by simpa [rW] using hk
  by_cases a1 : i = j <;> by_cases a2 : k = j <;> simp only [a1, a2, if_true, if_false, ↓reduceIte] at e ⊢ <;> omega
/-- fewer roles -/
theorem rS_less {G : rG} {A : Nat → Prop} {H0 : Heap} {n n' : Nat} {ad : Nat → Nat} {en : Nat → va_E} {H : Heap} {locs : List Loc} (hn : n' ≤ n) (h : rS G A H0 n ad en H locs) : rS G A H0 n' ad en H locs := by
  obtain ⟨hP, hD, hS⟩ := h
  have key : ∀ (k : Nat) (q : Nat × va_E), (rW n' ad en)[k]? = some q → (rW n ad en)[id k]? = some q := by
    intro k q hk
    obtain ⟨h1, rfl⟩ := rW_lt hk
    exact rW_get (by simp only [id]; omega)
  exact ⟨hP.by _ key, hD.by _ key (fun i k _ _ e => e), hS⟩
def rA (n : Nat) (ad : Nat → Nat) (sz : Nat) : Nat → Prop := fun q => (∃ k, k < n ∧ ad k = q) ∨ sz ≤ q
def rPre (G : rG) (n : Nat) (ad : Nat → Nat) (en : Nat → va_E) (sz : Nat) (U : State) : Prop :=
  U.heap.size = sz ∧ va_P G.1 vwCl (rW n ad en) U.heap ∧ va_K G.1 vwCl (gT G) U ∧ va_D (fun _ => True) (rW n ad en) ∧ rZ G (rA n ad sz) U U.heap ∧ rN U
def rB (G : rG) (A : Nat → Prop) (n : Nat) (u : (Nat → Nat) × (Nat → va_E)) (t : State) : Prop := va_P G.1 vwCl (rW n u.1 u.2) t.heap ∧ va_D A (rW n u.1 u.2)
abbrev rRm (fr lo mc ms : Nat) : Room := { frames := fr, cells := mc, slots := ms, locals := lo }
/-- a contract, the answer a number: from a world of n roles to one of n2 -/
def CI (l : Launch) (G : rG) (y : MethodName) (ws : List Cond) (fr lo mc ms : Nat) (as : List Value) (n n2 : Nat) (ad : Nat → Nat) (en : Nat → va_E) (post : Int32 → (Nat → Nat) → (Nat → va_E) → Prop) : Prop :=
  ∀ sz, Met l y ws (rRm fr lo mc ms) (va_Pc as (rPre G n ad en sz)) (va_Qi (fun r (u : (Nat → Nat) × (Nat → va_E)) => post r u.1 u.2) (rB G (rA n ad sz) n2) (rA n ad sz)) mc ms (rA n ad sz)
/-- a contract without an answer -/
def CV (l : Launch) (G : rG) (y : MethodName) (ws : List Cond) (fr lo mc ms : Nat) (as : List Value) (n n2 : Nat) (ad : Nat → Nat) (en : Nat → va_E) (post : (Nat → Nat) → (Nat → va_E) → Prop) : Prop :=
  ∀ sz, Met l y ws (rRm fr lo mc ms) (va_Pc as (rPre G n ad en sz)) (va_Qv (fun (u : (Nat → Nat) × (Nat → va_E)) => post u.1 u.2) (rB G (rA n ad sz) n2) (rA n ad sz)) mc ms (rA n ad sz)
/-- a contract, the answer an address -/
def CR (l : Launch) (G : rG) (y : MethodName) (ws : List Cond) (fr lo mc ms : Nat) (as : List Value) (n n2 : Nat) (ad : Nat → Nat) (en : Nat → va_E) (post : Nat → (Nat → Nat) → (Nat → va_E) → Prop) : Prop :=
  ∀ sz, Met l y ws (rRm fr lo mc ms) (va_Pc as (rPre G n ad en sz)) (va_Qr (fun (u : Nat × (Nat → Nat) × (Nat → va_E)) => post u.1 u.2.1 u.2.2) (fun u a t => u.1 = a ∧ rB G (rA n ad sz) n2 u.2 t) (rA n ad sz)) mc ms (rA n ad sz)
abbrev qI (G : rG) (n2 : Nat) (post : Int32 → (Nat → Nat) → (Nat → va_E) → Prop) (A : Nat → Prop) : Array Value → State → Outcome → State → Prop := va_Qi (fun r (u : (Nat → Nat) × (Nat → va_E)) => post r u.1 u.2) (rB G A n2) A
abbrev qV (G : rG) (n2 : Nat) (post : (Nat → Nat) → (Nat → va_E) → Prop) (A : Nat → Prop) : Array Value → State → Outcome → State → Prop := va_Qv (fun (u : (Nat → Nat) × (Nat → va_E)) => post u.1 u.2) (rB G A n2) A
abbrev qR (G : rG) (n2 : Nat) (post : Nat → (Nat → Nat) → (Nat → va_E) → Prop) (A : Nat → Prop) : Array Value → State → Outcome → State → Prop := va_Qr (fun (u : Nat × (Nat → Nat) × (Nat → va_E)) => post u.1 u.2.1 u.2.2) (fun u a t => u.1 = a ∧ rB G A n2 u.2 t) A
theorem rPre_blind {G : rG} {n : Nat} {ad : Nat → Nat} {en : Nat → va_E} {sz : Nat} {as : List Value} : FrameBlind (va_Pc as (rPre G n ad en sz)) := by
  intro a U g mk q
  obtain ⟨q0, q1, q2, q3, q4, q5, q6⟩ := q
  exact ⟨q0, q1, q2, va_K.moved (u := U) (U := U.calling g mk a) (Vm.Alike.refl U.vm) q3, q4, q5.to (u := U) (U := U.calling g mk a) (Vm.Alike.refl U.vm) (fun _ _ _ => rfl) (fun _ h => h), va_Nw.same (u := U) (U := U.calling g mk a) (by decide) rfl q6.1, va_Nw.same (u := U) (U := U.calling g mk a) (by decide) rfl q6.2⟩
section RROWS
variable {p : Program} {l : Launch} {e : Env} {R : Room} {s : State} {m : MethodId} {args : Array Value} {below : List Frame} {meth : Method} {c : Code} {H : Heap} {locs : List Loc} {cells slots : Nat} {Q : State → Prop}
variable {pc : Nat} {ls : Array Slot} {rest st0 : List Value} {cc : ByteArray} {G : rG} {A : Nat → Prop} {H0 : Heap} {n n2 : Nat} {ad : Nat → Nat} {en : Nat → va_E}
theorem rS_A (hs : rS G A H0 n ad en H locs) (hA : ∀ q, H0.size ≤ q → A q) : ∀ q, rA n ad H.size q → A q := by
  intro q hq
  obtain ⟨hP, hD, hS⟩ := hs
  rcases hq with ⟨k, hk, rfl⟩ | h
  · exact hD.2 k (ad k, en k) (rW_get hk)
  · exact hA q (Nat.le_trans hS.1 h)
theorem rS_pre (hs : rS G A s.heap n ad en H locs) (hA : ∀ q, s.heap.size ≤ q → A q) (hK : rK G A s) {as : List Value} : ∀ U : State, U.heap = H → s.WarmedH U.vm → va_Pc as (rPre G n ad en H.size) as.toArray U := by
  intro U hU hW
  have hsA := rS_A hs hA
  obtain ⟨hP, hD, hS⟩ := hs
  exact ⟨rfl, by rw [hU], by rw [hU]; exact hP, va_K.moved hW.alike hK.1, hD.weaken (fun _ _ _ _ => trivial), hK.2.1.to hW.alike (by rw [hU]; exact hS.2.1) hsA, va_Nw.warmM hW hK.2.2.1, va_Nw.warmM hW hK.2.2.2⟩
theorem rS_recv (hs : rS G A s.heap n ad en H locs) (hK : rK G A s) {i ci : Nat} {fs : List Value} {q : vw_C} (hi : i < n) (he : en i = .inr (ci, fs)) (hq : vwCl[ci]? = some q) : ∃ cell : Cell, H[ad i]? = some cell ∧ cell.vm.isStatics = false ∧ s.vm.findClass q.1 = some cell.cls :=
  va_recv hK.1 hs.1 hq (rW_at hi he)
/-- getfield -/
theorem r_get (hexec : p.tables.exec = Jvm.exec) (hb : c.code = cc) {own C : String} {T : u_T} {N ci index : Nat} {Ts : List Cond} (hts : ∀ w ∈ Ts, w.before args s = true) (hin : ∀ w ∈ u_ws C T N, w ∈ Ts) (hown : s.vm.findClass own = some m.cls) (hK : rK G A s) (hs : rS G A H0 n ad en H locs) (i : Nat) (hi : i < n) {fs : List Value} (he : en i = .inr (ci, fs)) (hc : vwCl[ci]? = some (C, T, N)) (k : Nat) (hk : k < N) (hlink : (Cond.fieldLink own index (T k).1 (T k).2.1 (T k).2.2.1).before args s = true) {v : Value} (hv : fs[k]? = some v) (hdg : decode cc pc = .ok (.getfield index, 3))
    (kk : W p l e R s m args below meth c H locs cells slots Q (F0 m (pc + 3) ls (v :: rest))) : W p l e R s m args below meth c H locs cells slots Q (F0 m pc ls (.ref (ad i) :: rest)) :=
  va_get (D := G.1) (ci := ci) (v := v) (C := C) (T := T) (N := N) hexec hb hts hin hown hK.1 hs.1 i (rW_at hi he) hc k hk hlink (fun _ h9 => h9) hv hdg kk
/-- putfield -/
theorem r_put (hexec : p.tables.exec = Jvm.exec) (hb : c.code = cc) {own C : String} {T : u_T} {N ci index : Nat} {Ts : List Cond} (hts : ∀ w ∈ Ts, w.before args s = true) (hin : ∀ w ∈ u_ws C T N, w ∈ Ts) (ty0 : Nat → FieldType) (hty : ∀ k, k < N → parseFieldDescriptor (T k).2.2.1 = some (ty0 k)) (hnm : ∀ a, a < N → ∀ b, b < N → a ≠ b → (T a).2.1 ≠ (T b).2.1) (hown : s.vm.findClass own = some m.cls) (hK : rK G A s) (hs : rS G A H0 n ad en H locs) (i : Nat) (hi : i < n) {fs : List Value} (he : en i = .inr (ci, fs)) (hc : vwCl[ci]? = some (C, T, N)) (k : Nat) (hk : k < N) (hlink : (Cond.fieldLink own index (T k).1 (T k).2.1 (T k).2.2.1).before args s = true) (hfin : (T k).2.2.2 = false ∨ ((T k).2.2.2 = true ∧ meth.name = "<init>" ∧ (T k).1 = own)) {ty : FieldType} {v : Value} (hd : parseFieldDescriptor (T k).2.2.1 = some ty) (hn : narrow ty v = v) (hfit : fits ty v = true) (hl : k < fs.length) {fs' : List Value} (hfs : fs.set k v = fs')
    (hdg : decode cc pc = .ok (.putfield index, 3)) (kk : ∀ (H1 : Heap) (locs1 : List Loc) (en1 : Nat → va_E), en1 = va_up en i (.inr (ci, fs')) → rS G A H0 n ad en1 H1 locs1 → W p l e R s m args below meth c H1 locs1 cells slots Q (F0 m (pc + 3) ls rest)) : W p l e R s m args below meth c H locs cells slots Q (F0 m pc ls (v :: .ref (ad i) :: rest)) := by
  subst hfs
  rcases hfin with hfin | ⟨h1, h2, h3⟩
  · refine va_put (D := G.1) (ci := ci) (v := v) (ty := ty) (C := C) (T := T) (N := N) hexec hb hts hin ty0 hty hnm hown hK.1 hs.1 hs.2.1 hs.2.2 i (rW_at hi he) hc k hk hlink (fun _ h9 => h9) hfin hd hn hfit hl hdg (fun H1 locs1 hP1 hD1 hS1 => ?_)
    rw [rW_set hi] at hP1 hD1
    exact kk H1 locs1 _ rfl ⟨hP1, hD1, hS1⟩
  · refine va_putF (D := G.1) (ci := ci) (v := v) (ty := ty) (C := C) (T := T) (N := N) hexec hb hts hin ty0 hty hnm hown hK.1 hs.1 hs.2.1 hs.2.2 i (rW_at hi he) hc k hk hlink (fun _ h9 => h9) h1 h2 h3 hd hn hfit hl hdg (fun H1 locs1 hP1 hD1 hS1 => ?_)
    rw [rW_set hi] at hP1 hD1
    exact kk H1 locs1 _ rfl ⟨hP1, hD1, hS1⟩
/-- int arrays -/
theorem r_iald (hexec : p.tables.exec = Jvm.exec) (hb : c.code = cc) (hK : rK G A s) (hs : rS G A H0 n ad en H locs) (i t0 : Nat) (hi : i < n) {cA : ClassId} {N : Nat} {f : Nat → Int32} (he : en i = .inl (cA, N, .inl f)) (ht : (gT G)[t0]? = some (cA, .int)) {x : Int32} (hin : vp_in x N) (hdg : decode cc pc = .ok (.iaload, 1))
    (kk : W p l e R s m args below meth c H locs cells slots Q (F0 m (pc + 1) ls (.int (f x.toNatClampNeg) :: rest))) : W p l e R s m args below meth c H locs cells slots Q (F0 m pc ls (.int x :: .ref (ad i) :: rest)) :=
  va_iald hexec hb hK.1 hs.1 i t0 (rW_at hi he) ht hin hdg kk
theorem r_iast (hexec : p.tables.exec = Jvm.exec) (hb : c.code = cc) (hK : rK G A s) (hs : rS G A H0 n ad en H locs) (i t0 : Nat) (hi : i < n) {cA : ClassId} {N : Nat} {f : Nat → Int32} (he : en i = .inl (cA, N, .inl f)) (ht : (gT G)[t0]? = some (cA, .int)) {x y : Int32} (hin : vp_in x N) (hdg : decode cc pc = .ok (.iastore, 1))
    (kk : ∀ (H1 : Heap) (locs1 : List Loc) (en1 : Nat → va_E), en1 = va_up en i (.inl (cA, N, .inl (upd f x.toNatClampNeg y))) → rS G A H0 n ad en1 H1 locs1 → W p l e R s m args below meth c H1 locs1 cells slots Q (F0 m (pc + 1) ls rest)) : W p l e R s m args below meth c H locs cells slots Q (F0 m pc ls (.int y :: .int x :: .ref (ad i) :: rest)) := by
  refine va_iast hexec hb hK.1 hs.1 hs.2.1 hs.2.2 i t0 (rW_at hi he) ht hin hdg (fun H1 locs1 hP1 hD1 hS1 => ?_)
  rw [rW_set hi] at hP1 hD1
  exact kk H1 locs1 _ rfl ⟨hP1, hD1, hS1⟩
/-- long arrays -/
theorem r_lald (hexec : p.tables.exec = Jvm.exec) (hb : c.code = cc) (hK : rK G A s) (hs : rS G A H0 n ad en H locs) (i t0 : Nat) (hi : i < n) {cA : ClassId} {N : Nat} {f : Nat → Int64} (he : en i = .inl (cA, N, .inr (.inl f))) (ht : (gT G)[t0]? = some (cA, .long)) {x : Int32} (hin : vp_in x N) (hdg : decode cc pc = .ok (.laload, 1))
    (kk : W p l e R s m args below meth c H locs cells slots Q (F0 m (pc + 1) ls (.long (f x.toNatClampNeg) :: rest))) : W p l e R s m args below meth c H locs cells slots Q (F0 m pc ls (.int x :: .ref (ad i) :: rest)) :=
  va_lald hexec hb hK.1 hs.1 i t0 (rW_at hi he) ht hin hdg kk
theorem r_last (hexec : p.tables.exec = Jvm.exec) (hb : c.code = cc) (hK : rK G A s) (hs : rS G A H0 n ad en H locs) (i t0 : Nat) (hi : i < n) {cA : ClassId} {N : Nat} {f : Nat → Int64} (he : en i = .inl (cA, N, .inr (.inl f))) (ht : (gT G)[t0]? = some (cA, .long)) {x : Int32} {y : Int64} (hin : vp_in x N) (hdg : decode cc pc = .ok (.lastore, 1))
    (kk : ∀ (H1 : Heap) (locs1 : List Loc) (en1 : Nat → va_E), en1 = va_up en i (.inl (cA, N, .inr (.inl (vp_updL f x.toNatClampNeg y)))) → rS G A H0 n ad en1 H1 locs1 → W p l e R s m args below meth c H1 locs1 cells slots Q (F0 m (pc + 1) ls rest)) : W p l e R s m args below meth c H locs cells slots Q (F0 m pc ls (.long y :: .int x :: .ref (ad i) :: rest)) := by
  refine va_last hexec hb hK.1 hs.1 hs.2.1 hs.2.2 i t0 (rW_at hi he) ht hin hdg (fun H1 locs1 hP1 hD1 hS1 => ?_)
  rw [rW_set hi] at hP1 hD1
  exact kk H1 locs1 _ rfl ⟨hP1, hD1, hS1⟩
theorem r_alen (hexec : p.tables.exec = Jvm.exec) (hb : c.code = cc) (hK : rK G A s) (hs : rS G A H0 n ad en H locs) (i t0 : Nat) (hi : i < n) {cA : ClassId} {x : vp_A} (he : en i = .inl (cA, x)) {ty : FieldType} (ht : (gT G)[t0]? = some (cA, ty)) {v : Int32} (hv : Int32.ofNat x.1 = v) (hdg : decode cc pc = .ok (.arraylength, 1))
    (kk : W p l e R s m args below meth c H locs cells slots Q (F0 m (pc + 1) ls (.int v :: rest))) : W p l e R s m args below meth c H locs cells slots Q (F0 m pc ls (.ref (ad i) :: rest)) :=
  va_alen hexec hb hK.1 hs.1 i t0 (rW_at hi he) ht hv hdg kk
/-- ends -/
theorem r_iret {mc ms : Nat} {post : Int32 → (Nat → Nat) → (Nat → va_E) → Prop} {v : Int32} (hexec : p.tables.exec = Jvm.exec) (hb : c.code = cc) (hr : meth.sig.returnType = some .int) (hlk : meth.locks = false) (hs : rS G A s.heap n ad en H locs) (hc : cells ≤ mc) (hs2 : slots ≤ ms) (hdg : decode cc pc = .ok (.ireturn, 1)) (hQ : Q = MQ below (qI G n post A) args s mc ms A) (hp : post v ad en) :
    W p l e R s m args below meth c H locs cells slots Q (F0 m pc ls [.int v]) := by
  subst hQ
  refine W.widen (k := mc) (n := ms) hc hs2 ?_
  exact W.iret (v := v) hexec hb hr (fun t ht hW => ⟨⟨v, (ad, en), rfl, hp, by show va_P _ _ _ _; rw [ht]; exact hs.1, hs.2.1⟩, hs.2.2.F ht⟩) hs.2.2.2.2 hdg hlk
theorem r_zret {mc ms : Nat} {post : Int32 → (Nat → Nat) → (Nat → va_E) → Prop} {v : Int32} (hexec : p.tables.exec = Jvm.exec) (hb : c.code = cc) (hr : meth.sig.returnType = some .boolean) (hlk : meth.locks = false) (hs : rS G A s.heap n ad en H locs) (hc : cells ≤ mc) (hs2 : slots ≤ ms) (hdg : decode cc pc = .ok (.ireturn, 1)) (hz : v = 0 ∨ v = 1) (hQ : Q = MQ below (qI G n post A) args s mc ms A) (hp : post v ad en) :
    W p l e R s m args below meth c H locs cells slots Q (F0 m pc ls [.int v]) := by
  subst hQ
  refine W.widen (k := mc) (n := ms) hc hs2 ?_
  exact W.zret (v := v) hexec hb hr (by rcases hz with rfl | rfl <;> decide) (fun t ht hW => ⟨⟨v, (ad, en), rfl, hp, by show va_P _ _ _ _; rw [ht]; exact hs.1, hs.2.1⟩, hs.2.2.F ht⟩) hs.2.2.2.2 hdg hlk
theorem r_vret {mc ms : Nat} {post : (Nat → Nat) → (Nat → va_E) → Prop} (hexec : p.tables.exec = Jvm.exec) (hb : c.code = cc) (hr : meth.sig.returnType = none) (hlk : meth.locks = false) (hs : rS G A s.heap n ad en H locs) (hc : cells ≤ mc) (hs2 : slots ≤ ms) (hdg : decode cc pc = .ok (.return_, 1)) (hQ : Q = MQ below (qV G n post A) args s mc ms A) (hp : post ad en) :
    W p l e R s m args below meth c H locs cells slots Q (F0 m pc ls []) := by
  subst hQ
  refine W.widen (k := mc) (n := ms) hc hs2 ?_
  exact W.vret hexec hb hr (fun t ht hW => ⟨⟨(ad, en), rfl, hp, by show va_P _ _ _ _; rw [ht]; exact hs.1, hs.2.1⟩, hs.2.2.F ht⟩) hs.2.2.2.2 hdg hlk
theorem r_aret {mc ms : Nat} {post : Nat → (Nat → Nat) → (Nat → va_E) → Prop} {a : Nat} {rt : FieldType} (hexec : p.tables.exec = Jvm.exec) (hb : c.code = cc) (hr : meth.sig.returnType = some rt) (hrt : (∃ n, rt = .object n) ∨ ∃ t, rt = .array t) (hlk : meth.locks = false) (hs : rS G A s.heap n ad en H locs) (hc : cells ≤ mc) (hs2 : slots ≤ ms) (hdg : decode cc pc = .ok (.areturn, 1)) (hQ : Q = MQ below (qR G n post A) args s mc ms A) (hp : post a ad en) :
    W p l e R s m args below meth c H locs cells slots Q (F0 m pc ls [.ref a]) := by
  subst hQ
  refine W.widen (k := mc) (n := ms) hc hs2 ?_
  exact W.aret hexec hb hr hrt (Or.inr ⟨a, rfl⟩) (fun t ht hW => ⟨⟨(a, ad, en), a, rfl, hp, rfl, by show va_P _ _ _ _; rw [ht]; exact hs.1, hs.2.1⟩, hs.2.2.F ht⟩) hs.2.2.2.2 hdg hlk
/-- calls: an instance method (V), a static one (S); answer a number (i), none (v), an address (r) -/
theorem r_callVi {cc : ByteArray} {nL mc ms fr lo nA index maxL ci : Nat} {y : MethodName} {bytes : ByteArray} {ret : Option FieldType} {ws Ts : List Cond} {own C : String} {As fs : List Value} {q : vw_C} {post : Int32 → (Nat → Nat) → (Nat → va_E) → Prop} (hexec : p.tables.exec = Jvm.exec) (hb : c.code = cc) (hml : c.maxLocals = nL) (hown : s.vm.findClass own = some m.cls) (hts : ∀ w ∈ Ts, w.before args s = true) (hK : rK G A s) (hA : ∀ q, s.heap.size ≤ q → A q) (hs : rS G A s.heap n ad en H locs) (i : Nat) (hi : i < n) (he : en i = .inr (ci, fs)) (hq : vwCl[ci]? = some q) (hqC : q.1 = C)
    (hM : CI l G y ws fr lo mc ms (.ref (ad i) :: As) n n2 ad en post) (cw : CallW R s args own C index y bytes maxL ret ws (rRm fr lo mc ms) mc ms nA) (hn : As.length = nA) (hsz : ls.size = nL) (hst : st0 = As.reverse ++ .ref (ad i) :: rest) (hW : (rest.map fun v => v.category).sum ≤ 8) (hdg : decode cc pc = .ok (.invokevirtual index, 3)) (hf : cells + mc ≤ R.cells ∧ slots + ms ≤ R.slots)
    (kk : ∀ (r : Int32) (ad1 : Nat → Nat) (en1 : Nat → va_E) (H1 : Heap) (locs1 : List Loc), post r ad1 en1 → rS G A s.heap n2 ad1 en1 H1 locs1 → W p l e R s m args below meth c H1 locs1 (cells + mc) (slots + ms) Q (F0 m (pc + 3) ls (.int r :: rest))) : W p l e R s m args below meth c H locs cells slots Q (F0 m pc ls st0) := by
  subst hqC
  refine va_calli (va_runV (As := As) (rest := rest) ⟨hexec, hb, hml, hown, hts⟩ (hM H.size) cw ⟨rPre_blind, rS_recv hs hK hi he hq, rS_pre hs hA hK⟩ rfl hn hsz hst (lv_room hW) hdg hf) hs.2.2 (fun q _ h => rS_A hs hA q h) (rS_A hs hA) (fun r u t H1 locs1 ht hvm hw hB hz hk hS1 => ?_)
  exact kk r u.1 u.2 H1 locs1 hw ⟨by rw [← ht]; exact hB.1, hB.2.weaken (fun k q _ h => rS_A hs hA q.1 h), hS1⟩
theorem r_callVv {cc : ByteArray} {nL mc ms fr lo nA index maxL ci : Nat} {y : MethodName} {bytes : ByteArray} {ret : Option FieldType} {ws Ts : List Cond} {own C : String} {As fs : List Value} {q : vw_C} {post : (Nat → Nat) → (Nat → va_E) → Prop} (hexec : p.tables.exec = Jvm.exec) (hb : c.code = cc) (hml : c.maxLocals = nL) (hown : s.vm.findClass own = some m.cls) (hts : ∀ w ∈ Ts, w.before args s = true) (hK : rK G A s) (hA : ∀ q, s.heap.size ≤ q → A q) (hs : rS G A s.heap n ad en H locs) (i : Nat) (hi : i < n) (he : en i = .inr (ci, fs)) (hq : vwCl[ci]? = some q) (hqC : q.1 = C)
    (hM : CV l G y ws fr lo mc ms (.ref (ad i) :: As) n n2 ad en post) (cw : CallW R s args own C index y bytes maxL ret ws (rRm fr lo mc ms) mc ms nA) (hn : As.length = nA) (hsz : ls.size = nL) (hst : st0 = As.reverse ++ .ref (ad i) :: rest) (hW : (rest.map fun v => v.category).sum ≤ 8) (hdg : decode cc pc = .ok (.invokevirtual index, 3)) (hf : cells + mc ≤ R.cells ∧ slots + ms ≤ R.slots)
    (kk : ∀ (ad1 : Nat → Nat) (en1 : Nat → va_E) (H1 : Heap) (locs1 : List Loc), post ad1 en1 → rS G A s.heap n2 ad1 en1 H1 locs1 → W p l e R s m args below meth c H1 locs1 (cells + mc) (slots + ms) Q (F0 m (pc + 3) ls rest)) : W p l e R s m args below meth c H locs cells slots Q (F0 m pc ls st0) := by
  subst hqC
  refine va_callv (va_runV (As := As) (rest := rest) ⟨hexec, hb, hml, hown, hts⟩ (hM H.size) cw ⟨rPre_blind, rS_recv hs hK hi he hq, rS_pre hs hA hK⟩ rfl hn hsz hst (lv_room hW) hdg hf) hs.2.2 (fun q _ h => rS_A hs hA q h) (rS_A hs hA) (fun u t H1 locs1 ht hvm hw hB hz hk hS1 => ?_)
  exact kk u.1 u.2 H1 locs1 hw ⟨by rw [← ht]; exact hB.1, hB.2.weaken (fun k q _ h => rS_A hs hA q.1 h), hS1⟩
theorem r_callVr {cc : ByteArray} {nL mc ms fr lo nA index maxL ci : Nat} {y : MethodName} {bytes : ByteArray} {ret : Option FieldType} {ws Ts : List Cond} {own C : String} {As fs : List Value} {q : vw_C} {post : Nat → (Nat → Nat) → (Nat → va_E) → Prop} (hexec : p.tables.exec = Jvm.exec) (hb : c.code = cc) (hml : c.maxLocals = nL) (hown : s.vm.findClass own = some m.cls) (hts : ∀ w ∈ Ts, w.before args s = true) (hK : rK G A s) (hA : ∀ q, s.heap.size ≤ q → A q) (hs : rS G A s.heap n ad en H locs) (i : Nat) (hi : i < n) (he : en i = .inr (ci, fs)) (hq : vwCl[ci]? = some q) (hqC : q.1 = C)
    (hM : CR l G y ws fr lo mc ms (.ref (ad i) :: As) n n2 ad en post) (cw : CallW R s args own C index y bytes maxL ret ws (rRm fr lo mc ms) mc ms nA) (hn : As.length = nA) (hsz : ls.size = nL) (hst : st0 = As.reverse ++ .ref (ad i) :: rest) (hW : (rest.map fun v => v.category).sum ≤ 8) (hdg : decode cc pc = .ok (.invokevirtual index, 3)) (hf : cells + mc ≤ R.cells ∧ slots + ms ≤ R.slots)
    (kk : ∀ (a : Nat) (ad1 : Nat → Nat) (en1 : Nat → va_E) (H1 : Heap) (locs1 : List Loc), post a ad1 en1 → rS G A s.heap n2 ad1 en1 H1 locs1 → W p l e R s m args below meth c H1 locs1 (cells + mc) (slots + ms) Q (F0 m (pc + 3) ls (.ref a :: rest))) : W p l e R s m args below meth c H locs cells slots Q (F0 m pc ls st0) := by
  subst hqC
  refine va_callr (va_runV (As := As) (rest := rest) ⟨hexec, hb, hml, hown, hts⟩ (hM H.size) cw ⟨rPre_blind, rS_recv hs hK hi he hq, rS_pre hs hA hK⟩ rfl hn hsz hst (lv_room hW) hdg hf) hs.2.2 (fun q _ h => rS_A hs hA q h) (rS_A hs hA) (fun u ra t H1 locs1 ht hvm hw hB hz hk hS1 => ?_)
  obtain ⟨hu, hB1, hB2⟩ := hB
  subst hu
  exact kk u.1 u.2.1 u.2.2 H1 locs1 hw ⟨by rw [← ht]; exact hB1, hB2.weaken (fun k q _ h => rS_A hs hA q.1 h), hS1⟩
theorem r_callSi {cc : ByteArray} {nL mc ms fr lo nA index maxL : Nat} {y : MethodName} {bytes : ByteArray} {ret : Option FieldType} {ws Ts : List Cond} {own : String} {As : List Value} {post : Int32 → (Nat → Nat) → (Nat → va_E) → Prop} (hexec : p.tables.exec = Jvm.exec) (hb : c.code = cc) (hml : c.maxLocals = nL) (hown : s.vm.findClass own = some m.cls) (hts : ∀ w ∈ Ts, w.before args s = true) (hK : rK G A s) (hA : ∀ q, s.heap.size ≤ q → A q) (hs : rS G A s.heap n ad en H locs)
    (hM : CI l G y ws fr lo mc ms As n n2 ad en post) (cw : CallB R s args own index y bytes maxL ret ws (rRm fr lo mc ms) mc ms nA ∧ (Cond.static y).before args s = true) (hn : As.length = nA) (hsz : ls.size = nL) (hst : st0 = As.reverse ++ rest) (hW : (rest.map fun v => v.category).sum ≤ 8) (hdg : decode cc pc = .ok (.invokestatic index, 3)) (hf : cells + mc ≤ R.cells ∧ slots + ms ≤ R.slots)
    (kk : ∀ (r : Int32) (ad1 : Nat → Nat) (en1 : Nat → va_E) (H1 : Heap) (locs1 : List Loc), post r ad1 en1 → rS G A s.heap n2 ad1 en1 H1 locs1 → W p l e R s m args below meth c H1 locs1 (cells + mc) (slots + ms) Q (F0 m (pc + 3) ls (.int r :: rest))) : W p l e R s m args below meth c H locs cells slots Q (F0 m pc ls st0) := by
  refine va_calli (va_runS (As := As) (rest := rest) ⟨hexec, hb, hml, hown, hts⟩ (hM H.size) cw ⟨rPre_blind, rS_pre hs hA hK⟩ rfl hn hsz hst (lv_room hW) hdg hf) hs.2.2 (fun q _ h => rS_A hs hA q h) (rS_A hs hA) (fun r u t H1 locs1 ht hvm hw hB hz hk hS1 => ?_)
  exact kk r u.1 u.2 H1 locs1 hw ⟨by rw [← ht]; exact hB.1, hB.2.weaken (fun k q _ h => rS_A hs hA q.1 h), hS1⟩
theorem r_callSv {cc : ByteArray} {nL mc ms fr lo nA index maxL : Nat} {y : MethodName} {bytes : ByteArray} {ret : Option FieldType} {ws Ts : List Cond} {own : String} {As : List Value} {post : (Nat → Nat) → (Nat → va_E) → Prop} (hexec : p.tables.exec = Jvm.exec) (hb : c.code = cc) (hml : c.maxLocals = nL) (hown : s.vm.findClass own = some m.cls) (hts : ∀ w ∈ Ts, w.before args s = true) (hK : rK G A s) (hA : ∀ q, s.heap.size ≤ q → A q) (hs : rS G A s.heap n ad en H locs)
    (hM : CV l G y ws fr lo mc ms As n n2 ad en post) (cw : CallB R s args own index y bytes maxL ret ws (rRm fr lo mc ms) mc ms nA ∧ (Cond.static y).before args s = true) (hn : As.length = nA) (hsz : ls.size = nL) (hst : st0 = As.reverse ++ rest) (hW : (rest.map fun v => v.category).sum ≤ 8) (hdg : decode cc pc = .ok (.invokestatic index, 3)) (hf : cells + mc ≤ R.cells ∧ slots + ms ≤ R.slots)
    (kk : ∀ (ad1 : Nat → Nat) (en1 : Nat → va_E) (H1 : Heap) (locs1 : List Loc), post ad1 en1 → rS G A s.heap n2 ad1 en1 H1 locs1 → W p l e R s m args below meth c H1 locs1 (cells + mc) (slots + ms) Q (F0 m (pc + 3) ls rest)) : W p l e R s m args below meth c H locs cells slots Q (F0 m pc ls st0) := by
  refine va_callv (va_runS (As := As) (rest := rest) ⟨hexec, hb, hml, hown, hts⟩ (hM H.size) cw ⟨rPre_blind, rS_pre hs hA hK⟩ rfl hn hsz hst (lv_room hW) hdg hf) hs.2.2 (fun q _ h => rS_A hs hA q h) (rS_A hs hA) (fun u t H1 locs1 ht hvm hw hB hz hk hS1 => ?_)
  exact kk u.1 u.2 H1 locs1 hw ⟨by rw [← ht]; exact hB.1, hB.2.weaken (fun k q _ h => rS_A hs hA q.1 h), hS1⟩
theorem r_callSr {cc : ByteArray} {nL mc ms fr lo nA index maxL : Nat} {y : MethodName} {bytes : ByteArray} {ret : Option FieldType} {ws Ts : List Cond} {own : String} {As : List Value} {post : Nat → (Nat → Nat) → (Nat → va_E) → Prop} (hexec : p.tables.exec = Jvm.exec) (hb : c.code = cc) (hml : c.maxLocals = nL) (hown : s.vm.findClass own = some m.cls) (hts : ∀ w ∈ Ts, w.before args s = true) (hK : rK G A s) (hA : ∀ q, s.heap.size ≤ q → A q) (hs : rS G A s.heap n ad en H locs)
    (hM : CR l G y ws fr lo mc ms As n n2 ad en post) (cw : CallB R s args own index y bytes maxL ret ws (rRm fr lo mc ms) mc ms nA ∧ (Cond.static y).before args s = true) (hn : As.length = nA) (hsz : ls.size = nL) (hst : st0 = As.reverse ++ rest) (hW : (rest.map fun v => v.category).sum ≤ 8) (hdg : decode cc pc = .ok (.invokestatic index, 3)) (hf : cells + mc ≤ R.cells ∧ slots + ms ≤ R.slots)
    (kk : ∀ (a : Nat) (ad1 : Nat → Nat) (en1 : Nat → va_E) (H1 : Heap) (locs1 : List Loc), post a ad1 en1 → rS G A s.heap n2 ad1 en1 H1 locs1 → W p l e R s m args below meth c H1 locs1 (cells + mc) (slots + ms) Q (F0 m (pc + 3) ls (.ref a :: rest))) : W p l e R s m args below meth c H locs cells slots Q (F0 m pc ls st0) := by
  refine va_callr (va_runS (As := As) (rest := rest) ⟨hexec, hb, hml, hown, hts⟩ (hM H.size) cw ⟨rPre_blind, rS_pre hs hA hK⟩ rfl hn hsz hst (lv_room hW) hdg hf) hs.2.2 (fun q _ h => rS_A hs hA q h) (rS_A hs hA) (fun u ra t H1 locs1 ht hvm hw hB hz hk hS1 => ?_)
  obtain ⟨hu, hB1, hB2⟩ := hB
  subst hu
  exact kk u.1 u.2.1 u.2.2 H1 locs1 hw ⟨by rw [← ht]; exact hB1, hB2.weaken (fun k q _ h => rS_A hs hA q.1 h), hS1⟩
/-- new objects and arrays: a role more -/
theorem r_new (hexec : p.tables.exec = Jvm.exec) (hb : c.code = cc) {own C : String} {T : u_T} {N ci index : Nat} {Ts : List Cond} (hts : ∀ w ∈ Ts, w.before args s = true) (hin : ∀ w ∈ u_ws C T N, w ∈ Ts) (ty : Nat → FieldType) (hty : ∀ k, k < N → parseFieldDescriptor (T k).2.2.1 = some (ty k)) (hown : s.vm.findClass own = some m.cls) (hcl : (Cond.classLink own index C).before args s = true) (hinst : (Cond.instantiable C N).before args s = true) (hini : (Cond.initialized C).before args s = true)
    (hK : rK G A s) (hs : rS G A s.heap n ad en H locs) (hA : ∀ q, s.heap.size ≤ q → A q) (hc : vwCl[ci]? = some (C, T, N)) {fs : List Value} (hfs : ∀ j, j < N → defaultValue (ty j) = vp_V fs j) (hcells : cells + 1 ≤ R.cells) (hslots : slots + N ≤ R.slots) (hdg : decode cc pc = .ok (.new index, 3))
    (kk : ∀ (q : Nat) (H1 : Heap) (ad1 : Nat → Nat) (en1 : Nat → va_E), ad1 = va_up ad n q → en1 = va_up en n (.inr (ci, fs)) → ad1 n = q → rS G A s.heap (n + 1) ad1 en1 H1 locs →
      W p l e R s m args below meth c H1 locs (cells + 1) (slots + N) Q (F0 m (pc + 3) ls (.ref q :: rest))) : W p l e R s m args below meth c H locs cells slots Q (F0 m pc ls rest) := by
  refine va_new (ci := ci) (fs := fs) (C := C) (T := T) (N := N) hexec hb hts hin ty hty hown hcl hinst hini hK.1 hs.1 hs.2.1 hs.2.2 hA hc hfs hcells hslots hdg (fun q H1 hP1 hD1 hS1 => ?_)
  rw [rW_push] at hP1 hD1
  exact kk q H1 _ _ rfl rfl (va_up_self _ _ _) ⟨hP1, hD1, hS1⟩
theorem r_newa (hexec : p.tables.exec = Jvm.exec) (hb : c.code = cc) {atype : ArrayType} (harr : (Cond.arrayClass (newarray.typeOf atype)).before args s = true) {ty : FieldType} (hty : newarray.typeOf atype = ty) (hK : rK G A s) (hs : rS G A s.heap n ad en H locs) (hA : ∀ q, s.heap.size ≤ q → A q)
    {x : Int32} {N' : Nat} {a0 : vp_A} {cA0 : ClassId} (t0 : Nat) (ht : (gT G)[t0]? = some (cA0, ty)) (hra : ∀ c1, va_RA s c1 ty → s.vm.findClass ("[" ++ ty.toString) = some c1) (ha : ∀ cA : ClassId, vp_cell cA a0 = arrV cA N' (fun _ => defaultValue ty)) (hn : ¬ x < 0) (hN : x.toNatClampNeg = N') (hbytes : N' * componentBytes ty ≤ 536870912) (hcells : cells + 1 ≤ R.cells) (hslots : slots + N' ≤ R.slots) (hdg : decode cc pc = .ok (.newarray atype, 2))
    (kk : ∀ (q : Nat) (H1 : Heap) (ad1 : Nat → Nat) (en1 : Nat → va_E), ad1 = va_up ad n q → en1 = va_up en n (.inl (cA0, a0)) → ad1 n = q → rS G A s.heap (n + 1) ad1 en1 H1 locs →
      W p l e R s m args below meth c H1 locs (cells + 1) (slots + N') Q (F0 m (pc + 2) ls (.ref q :: rest))) : W p l e R s m args below meth c H locs cells slots Q (F0 m pc ls (.int x :: rest)) := by
  refine va_newa hexec hb harr hty hK.1 hs.1 hs.2.1 hs.2.2 hA ha hn hN hbytes hcells hslots hdg (fun q cA H1 hK1 hP1 hD1 hS1 => ?_)
  have h1 := hra _ (hK.1.2 t0 _ ht).2
  have h2 := hra _ (hK1.2 (gT G).length (cA, ty) (by rw [List.getElem?_append_right (Nat.le_refl _), Nat.sub_self]; rfl)).2
  have h3 : cA = cA0 := Option.some.inj (h2.symm.trans h1)
  subst h3
  rw [rW_push] at hP1 hD1
  exact kk q H1 _ _ rfl rfl (va_up_self _ _ _) ⟨hP1, hD1, hS1⟩
/-- a constructor's call -/
theorem r_callI {cc : ByteArray} {nL mc ms fr lo nA index maxL a : Nat} {y : MethodName} {bytes : ByteArray} {ws Ts : List Cond} {own : String} {As : List Value} {post : (Nat → Nat) → (Nat → va_E) → Prop} (hexec : p.tables.exec = Jvm.exec) (hb : c.code = cc) (hml : c.maxLocals = nL) (hown : s.vm.findClass own = some m.cls) (hts : ∀ w ∈ Ts, w.before args s = true) (hK : rK G A s) (hA : ∀ q, s.heap.size ≤ q → A q) (hs : rS G A s.heap n ad en H locs)
    (hM : CV l G y ws fr lo mc ms (.ref a :: As) n n2 ad en post) (cw : CallB R s args own index y bytes maxL none ws (rRm fr lo mc ms) mc ms nA ∧ y.name = "<init>" ∧ (Cond.instanceMethod y).before args s = true) (hn : As.length = nA) (hsz : ls.size = nL) (hst : st0 = As.reverse ++ .ref a :: rest) (hW : (rest.map fun v => v.category).sum ≤ 8) (hdg : decode cc pc = .ok (.invokespecial index, 3)) (hf : cells + mc ≤ R.cells ∧ slots + ms ≤ R.slots)
    (kk : ∀ (ad1 : Nat → Nat) (en1 : Nat → va_E) (H1 : Heap) (locs1 : List Loc), post ad1 en1 → rS G A s.heap n2 ad1 en1 H1 locs1 → W p l e R s m args below meth c H1 locs1 (cells + mc) (slots + ms) Q (F0 m (pc + 3) ls rest)) : W p l e R s m args below meth c H locs cells slots Q (F0 m pc ls st0) := by
  refine va_callv (va_runI (As := As) (rest := rest) ⟨hexec, hb, hml, hown, hts⟩ (hM H.size) cw ⟨rPre_blind, rS_pre hs hA hK⟩ rfl hn hsz hst (lv_room hW) hdg hf) hs.2.2 (fun q _ h => rS_A hs hA q h) (rS_A hs hA) (fun u t H1 locs1 ht hvm hw hB hz hk hS1 => ?_)
  exact kk u.1 u.2 H1 locs1 hw ⟨by rw [← ht]; exact hB.1, hB.2.weaken (fun k q _ h => rS_A hs hA q.1 h), hS1⟩
theorem r_callIN {cc : ByteArray} {nL mc ms fr lo nA index maxL a : Nat} {y : MethodName} {bytes : ByteArray} {ws Ts : List Cond} {own host : String} {As : List Value} {post : (Nat → Nat) → (Nat → va_E) → Prop} (hexec : p.tables.exec = Jvm.exec) (hb : c.code = cc) (hml : c.maxLocals = nL) (hown : s.vm.findClass own = some m.cls) (hts : ∀ w ∈ Ts, w.before args s = true) (hK : rK G A s) (hA : ∀ q, s.heap.size ≤ q → A q) (hs : rS G A s.heap n ad en H locs)
    (hM : CV l G y ws fr lo mc ms (.ref a :: As) n n2 ad en post) (cw : va_CN R s args own index y host bytes maxL none ws (rRm fr lo mc ms) mc ms nA ∧ y.name = "<init>" ∧ (Cond.instanceMethod y).before args s = true) (hn : As.length = nA) (hsz : ls.size = nL) (hst : st0 = As.reverse ++ .ref a :: rest) (hW : (rest.map fun v => v.category).sum ≤ 8) (hdg : decode cc pc = .ok (.invokespecial index, 3)) (hf : cells + mc ≤ R.cells ∧ slots + ms ≤ R.slots)
    (kk : ∀ (ad1 : Nat → Nat) (en1 : Nat → va_E) (H1 : Heap) (locs1 : List Loc), post ad1 en1 → rS G A s.heap n2 ad1 en1 H1 locs1 → W p l e R s m args below meth c H1 locs1 (cells + mc) (slots + ms) Q (F0 m (pc + 3) ls rest)) : W p l e R s m args below meth c H locs cells slots Q (F0 m pc ls st0) := by
  refine va_callv (va_runIN (As := As) (rest := rest) ⟨hexec, hb, hml, hown, hts⟩ (hM H.size) cw ⟨rPre_blind, rS_pre hs hA hK⟩ rfl hn hsz hst (lv_room hW) hdg hf) hs.2.2 (fun q _ h => rS_A hs hA q h) (rS_A hs hA) (fun u t H1 locs1 ht hvm hw hB hz hk hS1 => ?_)
  exact kk u.1 u.2 H1 locs1 hw ⟨by rw [← ht]; exact hB.1, hB.2.weaken (fun k q _ h => rS_A hs hA q.1 h), hS1⟩
/-- calls that only read: nothing changes, the answer is v -/
def roV (ad : Nat → Nat) (en : Nat → va_E) (v : Int32) : Int32 → (Nat → Nat) → (Nat → va_E) → Prop := fun r ad1 en1 => r = v ∧ ad1 = ad ∧ en1 = en
theorem roV.rf {ad : Nat → Nat} {en : Nat → va_E} {v w : Int32} (h : w = v) : roV ad en v w ad en := ⟨h, rfl, rfl⟩
theorem r_callViR {cc : ByteArray} {nL fr lo nA index maxL ci : Nat} {y : MethodName} {bytes : ByteArray} {ret : Option FieldType} {ws Ts : List Cond} {own C : String} {As fs : List Value} {q : vw_C} {v : Int32} (hexec : p.tables.exec = Jvm.exec) (hb : c.code = cc) (hml : c.maxLocals = nL) (hown : s.vm.findClass own = some m.cls) (hts : ∀ w ∈ Ts, w.before args s = true) (hK : rK G A s) (hA : ∀ q, s.heap.size ≤ q → A q) (hs : rS G A s.heap n ad en H locs) (i : Nat) (hi : i < n) (he : en i = .inr (ci, fs)) (hq : vwCl[ci]? = some q) (hqC : q.1 = C)
    (hM : CI l G y ws fr lo 0 0 (.ref (ad i) :: As) n n ad en (roV ad en v)) (cw : CallW R s args own C index y bytes maxL ret ws (rRm fr lo 0 0) 0 0 nA) (hn : As.length = nA) (hsz : ls.size = nL) (hst : st0 = As.reverse ++ .ref (ad i) :: rest) (hW : (rest.map fun v => v.category).sum ≤ 8) (hdg : decode cc pc = .ok (.invokevirtual index, 3)) (hf : cells ≤ R.cells ∧ slots ≤ R.slots)
    (kk : ∀ (H1 : Heap) (locs1 : List Loc), rS G A s.heap n ad en H1 locs1 → W p l e R s m args below meth c H1 locs1 cells slots Q (F0 m (pc + 3) ls (.int v :: rest))) : W p l e R s m args below meth c H locs cells slots Q (F0 m pc ls st0) := by
  refine r_callVi hexec hb hml hown hts hK hA hs i hi he hq hqC hM cw hn hsz hst hW hdg hf (fun r ad1 en1 H1 locs1 hp hs1 => ?_)
  obtain ⟨h1, h2, h3⟩ := hp
  subst h1 h2 h3
  exact kk H1 locs1 hs1
theorem r_callSiR {cc : ByteArray} {nL fr lo nA index maxL : Nat} {y : MethodName} {bytes : ByteArray} {ret : Option FieldType} {ws Ts : List Cond} {own : String} {As : List Value} {v : Int32} (hexec : p.tables.exec = Jvm.exec) (hb : c.code = cc) (hml : c.maxLocals = nL) (hown : s.vm.findClass own = some m.cls) (hts : ∀ w ∈ Ts, w.before args s = true) (hK : rK G A s) (hA : ∀ q, s.heap.size ≤ q → A q) (hs : rS G A s.heap n ad en H locs)
    (hM : CI l G y ws fr lo 0 0 As n n ad en (roV ad en v)) (cw : CallB R s args own index y bytes maxL ret ws (rRm fr lo 0 0) 0 0 nA ∧ (Cond.static y).before args s = true) (hn : As.length = nA) (hsz : ls.size = nL) (hst : st0 = As.reverse ++ rest) (hW : (rest.map fun v => v.category).sum ≤ 8) (hdg : decode cc pc = .ok (.invokestatic index, 3)) (hf : cells ≤ R.cells ∧ slots ≤ R.slots)
    (kk : ∀ (H1 : Heap) (locs1 : List Loc), rS G A s.heap n ad en H1 locs1 → W p l e R s m args below meth c H1 locs1 cells slots Q (F0 m (pc + 3) ls (.int v :: rest))) : W p l e R s m args below meth c H locs cells slots Q (F0 m pc ls st0) := by
  refine r_callSi hexec hb hml hown hts hK hA hs hM cw hn hsz hst hW hdg hf (fun r ad1 en1 H1 locs1 hp hs1 => ?_)
  obtain ⟨h1, h2, h3⟩ := hp
  subst h1 h2 h3
  exact kk H1 locs1 hs1
/-- calls without an answer, or with an address, that only read -/
def roU (ad : Nat → Nat) (en : Nat → va_E) : (Nat → Nat) → (Nat → va_E) → Prop := fun ad1 en1 => ad1 = ad ∧ en1 = en
def roA (ad : Nat → Nat) (en : Nat → va_E) (v : Nat) : Nat → (Nat → Nat) → (Nat → va_E) → Prop := fun r ad1 en1 => r = v ∧ ad1 = ad ∧ en1 = en
theorem roU.rf {ad : Nat → Nat} {en : Nat → va_E} : roU ad en ad en := ⟨rfl, rfl⟩
theorem roA.rf {ad : Nat → Nat} {en : Nat → va_E} {v : Nat} : roA ad en v v ad en := ⟨rfl, rfl, rfl⟩
theorem r_callVvR {cc : ByteArray} {nL fr lo nA index maxL ci : Nat} {y : MethodName} {bytes : ByteArray} {ret : Option FieldType} {ws Ts : List Cond} {own C : String} {As fs : List Value} {q : vw_C} (hexec : p.tables.exec = Jvm.exec) (hb : c.code = cc) (hml : c.maxLocals = nL) (hown : s.vm.findClass own = some m.cls) (hts : ∀ w ∈ Ts, w.before args s = true) (hK : rK G A s) (hA : ∀ q, s.heap.size ≤ q → A q) (hs : rS G A s.heap n ad en H locs) (i : Nat) (hi : i < n) (he : en i = .inr (ci, fs)) (hq : vwCl[ci]? = some q) (hqC : q.1 = C)
    (hM : CV l G y ws fr lo 0 0 (.ref (ad i) :: As) n n ad en (roU ad en)) (cw : CallW R s args own C index y bytes maxL ret ws (rRm fr lo 0 0) 0 0 nA) (hn : As.length = nA) (hsz : ls.size = nL) (hst : st0 = As.reverse ++ .ref (ad i) :: rest) (hW : (rest.map fun v => v.category).sum ≤ 8) (hdg : decode cc pc = .ok (.invokevirtual index, 3)) (hf : cells ≤ R.cells ∧ slots ≤ R.slots)
    (kk : ∀ (H1 : Heap) (locs1 : List Loc), rS G A s.heap n ad en H1 locs1 → W p l e R s m args below meth c H1 locs1 cells slots Q (F0 m (pc + 3) ls rest)) : W p l e R s m args below meth c H locs cells slots Q (F0 m pc ls st0) := by
  refine r_callVv hexec hb hml hown hts hK hA hs i hi he hq hqC hM cw hn hsz hst hW hdg hf (fun ad1 en1 H1 locs1 hp hs1 => ?_)
  obtain ⟨h2, h3⟩ := hp
  subst h2 h3
  exact kk H1 locs1 hs1
theorem r_callSvR {cc : ByteArray} {nL fr lo nA index maxL : Nat} {y : MethodName} {bytes : ByteArray} {ret : Option FieldType} {ws Ts : List Cond} {own : String} {As : List Value} (hexec : p.tables.exec = Jvm.exec) (hb : c.code = cc) (hml : c.maxLocals = nL) (hown : s.vm.findClass own = some m.cls) (hts : ∀ w ∈ Ts, w.before args s = true) (hK : rK G A s) (hA : ∀ q, s.heap.size ≤ q → A q) (hs : rS G A s.heap n ad en H locs)
    (hM : CV l G y ws fr lo 0 0 As n n ad en (roU ad en)) (cw : CallB R s args own index y bytes maxL ret ws (rRm fr lo 0 0) 0 0 nA ∧ (Cond.static y).before args s = true) (hn : As.length = nA) (hsz : ls.size = nL) (hst : st0 = As.reverse ++ rest) (hW : (rest.map fun v => v.category).sum ≤ 8) (hdg : decode cc pc = .ok (.invokestatic index, 3)) (hf : cells ≤ R.cells ∧ slots ≤ R.slots)
    (kk : ∀ (H1 : Heap) (locs1 : List Loc), rS G A s.heap n ad en H1 locs1 → W p l e R s m args below meth c H1 locs1 cells slots Q (F0 m (pc + 3) ls rest)) : W p l e R s m args below meth c H locs cells slots Q (F0 m pc ls st0) := by
  refine r_callSv hexec hb hml hown hts hK hA hs hM cw hn hsz hst hW hdg hf (fun ad1 en1 H1 locs1 hp hs1 => ?_)
  obtain ⟨h2, h3⟩ := hp
  subst h2 h3
  exact kk H1 locs1 hs1
theorem r_callVrR {cc : ByteArray} {nL fr lo nA index maxL ci : Nat} {y : MethodName} {bytes : ByteArray} {ret : Option FieldType} {ws Ts : List Cond} {own C : String} {As fs : List Value} {q : vw_C} {v : Nat} (hexec : p.tables.exec = Jvm.exec) (hb : c.code = cc) (hml : c.maxLocals = nL) (hown : s.vm.findClass own = some m.cls) (hts : ∀ w ∈ Ts, w.before args s = true) (hK : rK G A s) (hA : ∀ q, s.heap.size ≤ q → A q) (hs : rS G A s.heap n ad en H locs) (i : Nat) (hi : i < n) (he : en i = .inr (ci, fs)) (hq : vwCl[ci]? = some q) (hqC : q.1 = C)
    (hM : CR l G y ws fr lo 0 0 (.ref (ad i) :: As) n n ad en (roA ad en v)) (cw : CallW R s args own C index y bytes maxL ret ws (rRm fr lo 0 0) 0 0 nA) (hn : As.length = nA) (hsz : ls.size = nL) (hst : st0 = As.reverse ++ .ref (ad i) :: rest) (hW : (rest.map fun v => v.category).sum ≤ 8) (hdg : decode cc pc = .ok (.invokevirtual index, 3)) (hf : cells ≤ R.cells ∧ slots ≤ R.slots)
    (kk : ∀ (H1 : Heap) (locs1 : List Loc), rS G A s.heap n ad en H1 locs1 → W p l e R s m args below meth c H1 locs1 cells slots Q (F0 m (pc + 3) ls (.ref v :: rest))) : W p l e R s m args below meth c H locs cells slots Q (F0 m pc ls st0) := by
  refine r_callVr hexec hb hml hown hts hK hA hs i hi he hq hqC hM cw hn hsz hst hW hdg hf (fun r ad1 en1 H1 locs1 hp hs1 => ?_)
  obtain ⟨h1, h2, h3⟩ := hp
  subst h1 h2 h3
  exact kk H1 locs1 hs1
/-- byte and boolean arrays -/
theorem r_bald (hexec : p.tables.exec = Jvm.exec) (hb : c.code = cc) (hK : rK G A s) (hs : rS G A H0 n ad en H locs) (i : Nat) (hi : i < n) {N : Nat} {f : Nat → Int32} (he : en i = aB G N f) {x : Int32} (hin : vp_in x N) (hdg : decode cc pc = .ok (.baload, 1))
    (kk : W p l e R s m args below meth c H locs cells slots Q (F0 m (pc + 1) ls (.int (f x.toNatClampNeg) :: rest))) : W p l e R s m args below meth c H locs cells slots Q (F0 m pc ls (.int x :: .ref (ad i) :: rest)) :=
  va_bald hexec hb hK.1 hs.1 i 0 (rW_at hi he) rfl hin hdg kk
theorem r_zald (hexec : p.tables.exec = Jvm.exec) (hb : c.code = cc) (hK : rK G A s) (hs : rS G A H0 n ad en H locs) (i : Nat) (hi : i < n) {N : Nat} {f : Nat → Int32} (he : en i = aZ G N f) {x : Int32} (hin : vp_in x N) (hdg : decode cc pc = .ok (.baload, 1))
    (kk : W p l e R s m args below meth c H locs cells slots Q (F0 m (pc + 1) ls (.int (f x.toNatClampNeg) :: rest))) : W p l e R s m args below meth c H locs cells slots Q (F0 m pc ls (.int x :: .ref (ad i) :: rest)) :=
  va_zald hexec hb hK.1 hs.1 i 3 (rW_at hi he) rfl hin hdg kk
theorem r_bast (hexec : p.tables.exec = Jvm.exec) (hb : c.code = cc) (hK : rK G A s) (hs : rS G A H0 n ad en H locs) (i : Nat) (hi : i < n) {N : Nat} {f : Nat → Int32} (he : en i = aB G N f) {x y : Int32} (hin : vp_in x N) (hdg : decode cc pc = .ok (.bastore, 1))
    (kk : ∀ (H1 : Heap) (locs1 : List Loc) (en1 : Nat → va_E), en1 = va_up en i (aB G N (upd f x.toNatClampNeg (vp_nar .byte y))) → rS G A H0 n ad en1 H1 locs1 → W p l e R s m args below meth c H1 locs1 cells slots Q (F0 m (pc + 1) ls rest)) : W p l e R s m args below meth c H locs cells slots Q (F0 m pc ls (.int y :: .int x :: .ref (ad i) :: rest)) := by
  refine va_bast hexec hb hK.1 hs.1 hs.2.1 hs.2.2 i 0 (rW_at hi he) rfl hin hdg (fun H1 locs1 hP1 hD1 hS1 => ?_)
  rw [rW_set hi] at hP1 hD1
  exact kk H1 locs1 _ rfl ⟨hP1, hD1, hS1⟩
theorem r_zast (hexec : p.tables.exec = Jvm.exec) (hb : c.code = cc) (hK : rK G A s) (hs : rS G A H0 n ad en H locs) (i : Nat) (hi : i < n) {N : Nat} {f : Nat → Int32} (he : en i = aZ G N f) {x y : Int32} (hin : vp_in x N) (hdg : decode cc pc = .ok (.bastore, 1))
    (kk : ∀ (H1 : Heap) (locs1 : List Loc) (en1 : Nat → va_E), en1 = va_up en i (aZ G N (upd f x.toNatClampNeg (vp_nar .boolean y))) → rS G A H0 n ad en1 H1 locs1 → W p l e R s m args below meth c H1 locs1 cells slots Q (F0 m (pc + 1) ls rest)) : W p l e R s m args below meth c H locs cells slots Q (F0 m pc ls (.int y :: .int x :: .ref (ad i) :: rest)) := by
  refine va_zast hexec hb hK.1 hs.1 hs.2.1 hs.2.2 i 3 (rW_at hi he) rfl hin hdg (fun H1 locs1 hP1 hD1 hS1 => ?_)
  rw [rW_set hi] at hP1 hD1
  exact kk H1 locs1 _ rfl ⟨hP1, hD1, hS1⟩
/-- where the walk of a method stands: the machine, its code, its words, its class, the tables -/
def rC (y : MethodName) (cc : ByteArray) (maxL : Nat) (ret : Option FieldType) (p : Program) (s : State) (m : MethodId) (args : Array Value) (meth : Method) (c : Code) : Prop :=
  p.tables.exec = Jvm.exec ∧ c.code = cc ∧ meth.sig.returnType = ret ∧ (∀ w ∈ TB, w.before args s = true) ∧ s.vm.findClass y.cls = some m.cls ∧ meth.locks = false ∧ meth.name = y.name ∧ c.maxLocals = maxL
end RROWS
theorem rMet {l : Launch} {G : rG} {y : MethodName} {ws : List Cond} {rm : Room} {mc ms maxL : Nat} {ret : Option FieldType} {cc : ByteArray} {as : List Value} {n : Nat} {ad : Nat → Nat} {en : Nat → va_E} {Qc : (Nat → Prop) → Array Value → State → Outcome → State → Prop} {sz : Nat} (hy : plainName y.cls = true) (hw : ws = Cond.code y cc maxL ret :: TB) (hl : (lg_sl as).length ≤ maxL)
    (body : ∀ (p : Program) (e : Env) (s : State) (m : MethodId) (args : Array Value) (below : List Frame) (meth : Method) (c : Code) (ls : Array Slot) (A : Nat → Prop) (Q : State → Prop), rC y cc maxL ret p s m args meth c → rK G A s → s.heap.size = sz → (∀ q, s.heap.size ≤ q → A q) → rS G A s.heap n ad en s.heap [] → lv_has ls maxL (lv_args 0 as) → Q = MQ below (Qc A) args s mc ms A → W p l e rm s m args below meth c s.heap [] 0 0 Q (F0 m 0 ls [])) :
    Met l y ws rm (va_Pc as (rPre G n ad en sz)) (Qc (rA n ad sz)) mc ms (rA n ad sz) := by
  refine Met.ofW (cc := cc) (maxL := maxL) (ret := ret) hy hw ?_
  intro p e s m args below meth c s₁ B hml hv
  obtain ⟨hargs, hsz, hP, hK, hD0, hZ, hN⟩ := hv
  have hts : ∀ w ∈ TB, w.before args s = true := fun w h => atoms_spec (ws := ws) B.pre w (by rw [hw]; exact List.mem_cons_of_mem _ h)
  have hown : s.vm.findClass y.cls = some m.cls := findClass_of_methodNamed B.named
  have hin : meth.name = y.name := (name_of_methodNamed B.named B.method).1
  subst hargs
  have hle := lv_entry as hl
  rw [lg_entry_eq]
  refine body p e s m as.toArray below meth c _ _ _ ⟨B.exec, B.bytes, B.returns, hts, hown, B.notSynchronized, hin, hml⟩ ⟨hK, hZ, hN⟩ hsz (fun q h => Or.inr (by omega)) ⟨hP, hD0.weaken ?_, va_S.rf⟩ hle rfl
  intro k q hk _
  obtain ⟨h1, rfl⟩ := rW_lt hk
  exact Or.inl ⟨k, h1, rfl⟩
section RROWS2
variable {p : Program} {l : Launch} {e : Env} {R : Room} {s : State} {m : MethodId} {args : Array Value} {below : List Frame} {meth : Method} {c : Code} {H : Heap} {locs : List Loc} {cells slots : Nat} {Q : State → Prop}
variable {pc : Nat} {ls : Array Slot} {rest : List Value} {cc : ByteArray} {A : Nat → Prop} {H0 : Heap} {G : rG} {n : Nat} {ad : Nat → Nat} {en : Nat → va_E}
/-- the number on top in another writing -/
theorem r_topi {x y : Int32} (h : x = y) (k : W p l e R s m args below meth c H locs cells slots Q (F0 m pc ls (.int y :: rest))) : W p l e R s m args below meth c H locs cells slots Q (F0 m pc ls (.int x :: rest)) := h ▸ k
theorem r_topl {x y : Int64} (h : x = y) (k : W p l e R s m args below meth c H locs cells slots Q (F0 m pc ls (.long y :: rest))) : W p l e R s m args below meth c H locs cells slots Q (F0 m pc ls (.long x :: rest)) := h ▸ k
/-- arrays at a place t : Nat -/
theorem r_ialdN (hexec : p.tables.exec = Jvm.exec) (hb : c.code = cc) (hK : rK G A s) (hs : rS G A H0 n ad en H locs) (i : Nat) (hi : i < n) {N t : Nat} {f : Nat → Int32} (he : en i = aI G N f) {x : Int32} (hx : x = nI t) (ht : t < N) (hN : N < 2 ^ 31) (hdg : decode cc pc = .ok (.iaload, 1))
    (kk : W p l e R s m args below meth c H locs cells slots Q (F0 m (pc + 1) ls (.int (f t) :: rest))) : W p l e R s m args below meth c H locs cells slots Q (F0 m pc ls (.int x :: .ref (ad i) :: rest)) := by
  subst hx
  refine r_iald hexec hb hK hs i 1 hi he rfl (vp_in_nI ht hN) hdg ?_
  rw [nI_clamp (by omega)]; exact kk
theorem r_lald_N (hexec : p.tables.exec = Jvm.exec) (hb : c.code = cc) (hK : rK G A s) (hs : rS G A H0 n ad en H locs) (i : Nat) (hi : i < n) {N t : Nat} {f : Nat → Int64} (he : en i = aJ G N f) {x : Int32} (hx : x = nI t) (ht : t < N) (hN : N < 2 ^ 31) (hdg : decode cc pc = .ok (.laload, 1))
    (kk : W p l e R s m args below meth c H locs cells slots Q (F0 m (pc + 1) ls (.long (f t) :: rest))) : W p l e R s m args below meth c H locs cells slots Q (F0 m pc ls (.int x :: .ref (ad i) :: rest)) := by
  subst hx
  refine r_lald hexec hb hK hs i 2 hi he rfl (vp_in_nI ht hN) hdg ?_
  rw [nI_clamp (by omega)]; exact kk
theorem r_baldN (hexec : p.tables.exec = Jvm.exec) (hb : c.code = cc) (hK : rK G A s) (hs : rS G A H0 n ad en H locs) (i : Nat) (hi : i < n) {N t : Nat} {f : Nat → Int32} (he : en i = aB G N f) {x : Int32} (hx : x = nI t) (ht : t < N) (hN : N < 2 ^ 31) (hdg : decode cc pc = .ok (.baload, 1))
    (kk : W p l e R s m args below meth c H locs cells slots Q (F0 m (pc + 1) ls (.int (f t) :: rest))) : W p l e R s m args below meth c H locs cells slots Q (F0 m pc ls (.int x :: .ref (ad i) :: rest)) := by
  subst hx
  refine r_bald hexec hb hK hs i hi he (vp_in_nI ht hN) hdg ?_
  rw [nI_clamp (by omega)]; exact kk
theorem r_zaldN (hexec : p.tables.exec = Jvm.exec) (hb : c.code = cc) (hK : rK G A s) (hs : rS G A H0 n ad en H locs) (i : Nat) (hi : i < n) {N t : Nat} {f : Nat → Int32} (he : en i = aZ G N f) {x : Int32} (hx : x = nI t) (ht : t < N) (hN : N < 2 ^ 31) (hdg : decode cc pc = .ok (.baload, 1))
    (kk : W p l e R s m args below meth c H locs cells slots Q (F0 m (pc + 1) ls (.int (f t) :: rest))) : W p l e R s m args below meth c H locs cells slots Q (F0 m pc ls (.int x :: .ref (ad i) :: rest)) := by
  subst hx
  refine r_zald hexec hb hK hs i hi he (vp_in_nI ht hN) hdg ?_
  rw [nI_clamp (by omega)]; exact kk
theorem r_iastN (hexec : p.tables.exec = Jvm.exec) (hb : c.code = cc) (hK : rK G A s) (hs : rS G A H0 n ad en H locs) (i : Nat) (hi : i < n) {N t : Nat} {f : Nat → Int32} (he : en i = aI G N f) {x y : Int32} (hx : x = nI t) (ht : t < N) (hN : N < 2 ^ 31) (hdg : decode cc pc = .ok (.iastore, 1))
    (kk : ∀ (H1 : Heap) (locs1 : List Loc) (en1 : Nat → va_E), en1 = va_up en i (aI G N (upd f t y)) → rS G A H0 n ad en1 H1 locs1 → W p l e R s m args below meth c H1 locs1 cells slots Q (F0 m (pc + 1) ls rest)) : W p l e R s m args below meth c H locs cells slots Q (F0 m pc ls (.int y :: .int x :: .ref (ad i) :: rest)) := by
  subst hx
  refine r_iast hexec hb hK hs i 1 hi he rfl (vp_in_nI ht hN) hdg ?_
  rw [nI_clamp (by omega)]; exact kk
theorem r_lastN (hexec : p.tables.exec = Jvm.exec) (hb : c.code = cc) (hK : rK G A s) (hs : rS G A H0 n ad en H locs) (i : Nat) (hi : i < n) {N t : Nat} {f : Nat → Int64} (he : en i = aJ G N f) {x : Int32} {y : Int64} (hx : x = nI t) (ht : t < N) (hN : N < 2 ^ 31) (hdg : decode cc pc = .ok (.lastore, 1))
    (kk : ∀ (H1 : Heap) (locs1 : List Loc) (en1 : Nat → va_E), en1 = va_up en i (aJ G N (vp_updL f t y)) → rS G A H0 n ad en1 H1 locs1 → W p l e R s m args below meth c H1 locs1 cells slots Q (F0 m (pc + 1) ls rest)) : W p l e R s m args below meth c H locs cells slots Q (F0 m pc ls (.long y :: .int x :: .ref (ad i) :: rest)) := by
  subst hx
  refine r_last hexec hb hK hs i 2 hi he rfl (vp_in_nI ht hN) hdg ?_
  rw [nI_clamp (by omega)]; exact kk
theorem r_bastN (hexec : p.tables.exec = Jvm.exec) (hb : c.code = cc) (hK : rK G A s) (hs : rS G A H0 n ad en H locs) (i : Nat) (hi : i < n) {N t : Nat} {f : Nat → Int32} (he : en i = aB G N f) {x y : Int32} (hx : x = nI t) (ht : t < N) (hN : N < 2 ^ 31) (hdg : decode cc pc = .ok (.bastore, 1))
    (kk : ∀ (H1 : Heap) (locs1 : List Loc) (en1 : Nat → va_E), en1 = va_up en i (aB G N (upd f t (vp_nar .byte y))) → rS G A H0 n ad en1 H1 locs1 → W p l e R s m args below meth c H1 locs1 cells slots Q (F0 m (pc + 1) ls rest)) : W p l e R s m args below meth c H locs cells slots Q (F0 m pc ls (.int y :: .int x :: .ref (ad i) :: rest)) := by
  subst hx
  refine r_bast hexec hb hK hs i hi he (vp_in_nI ht hN) hdg ?_
  rw [nI_clamp (by omega)]; exact kk
theorem r_zastN (hexec : p.tables.exec = Jvm.exec) (hb : c.code = cc) (hK : rK G A s) (hs : rS G A H0 n ad en H locs) (i : Nat) (hi : i < n) {N t : Nat} {f : Nat → Int32} (he : en i = aZ G N f) {x y : Int32} (hx : x = nI t) (ht : t < N) (hN : N < 2 ^ 31) (hdg : decode cc pc = .ok (.bastore, 1))
    (kk : ∀ (H1 : Heap) (locs1 : List Loc) (en1 : Nat → va_E), en1 = va_up en i (aZ G N (upd f t (vp_nar .boolean y))) → rS G A H0 n ad en1 H1 locs1 → W p l e R s m args below meth c H1 locs1 cells slots Q (F0 m (pc + 1) ls rest)) : W p l e R s m args below meth c H locs cells slots Q (F0 m pc ls (.int y :: .int x :: .ref (ad i) :: rest)) := by
  subst hx
  refine r_zast hexec hb hK hs i hi he (vp_in_nI ht hN) hdg ?_
  rw [nI_clamp (by omega)]; exact kk
end RROWS2
theorem l0 : (0 : Int32) = nI 0 := rfl
theorem l1 : (1 : Int32) = nI 1 := rfl
theorem l2 : (2 : Int32) = nI 2 := rfl
theorem l3 : (3 : Int32) = nI 3 := rfl
theorem l4 : (4 : Int32) = nI 4 := rfl
theorem l5 : (5 : Int32) = nI 5 := rfl
theorem l6 : (6 : Int32) = nI 6 := rfl
theorem l10 : (10 : Int32) = nI 10 := rfl
theorem l600 : (600 : Int32) = nI 600 := rfl
/-- a switch's default -/
theorem sw_ne {x k : Int32} (h : ¬ x = k) : x.toInt ≠ k.toInt := fun e => h (Int32.toInt_inj.mp e)
theorem va_up_up {α : Type} (f : Nat → α) (k : Nat) (a b : α) : va_up (va_up f k a) k b = va_up f k b := by
  funext j
  unfold va_up
  by_cases h : j = k
  · rw [if_pos h, if_pos h]
  · rw [if_neg h, if_neg h, if_neg h]
theorem va_up_id {α : Type} (f : Nat → α) (k : Nat) {a : α} (h : f k = a) : va_up f k a = f := by
  funext j
  unfold va_up
  by_cases e : j = k
  · rw [if_pos e, e, h]
  · rw [if_neg e]

section RROWS3
variable {p : Program} {l : Launch} {e : Env} {R : Room} {s : State} {m : MethodId} {args : Array Value} {below : List Frame} {meth : Method} {c : Code} {H : Heap} {locs : List Loc} {cells slots : Nat} {Q : State → Prop}
variable {pc : Nat} {ls : Array Slot} {rest : List Value} {cc : ByteArray} {A : Nat → Prop} {G : rG} {n : Nat} {ad : Nat → Nat} {en : Nat → va_E}
theorem r_copyi (hexec : p.tables.exec = Jvm.exec) (hb : c.code = cc) (hml : c.maxLocals = ls.size) {own : String} {index : Nat} (hown : s.vm.findClass own = some m.cls) (hlink : (Cond.methodLink own index arraycopyName).before args s = true) (hnat : (Cond.native arraycopyName).before args s = true) (hstat : (Cond.static arraycopyName).before args s = true) (hini : (Cond.initialized "java/lang/System").before args s = true)
    (hK : rK G A s) (hs : rS G A s.heap n ad en H locs) (i0 i1 : Nat) (h0 : i0 < n) (h1 : i1 < n) {n0 n1 sp dp k : Nat} {f g : Nat → Int32} (he0 : en i0 = aI G n0 f) (he1 : en i1 = aI G n1 g) (hb0 : sp < 2 ^ 31 ∧ dp < 2 ^ 31 ∧ k < 2 ^ 31) (h4 : sp + k ≤ n0) (h5 : dp + k ≤ n1) (hframes : 1 ≤ R.frames) (hlocals : (rest.map fun v => v.category).sum + 18 ≤ R.locals) (hdg : decode cc pc = .ok (.invokestatic index, 3))
    (kk : ∀ (H1 : Heap) (locs1 : List Loc) (en1 : Nat → va_E), en1 = va_up en i1 (aI G n1 (va_cpy f g sp dp k)) → rS G A s.heap n ad en1 H1 locs1 → W p l e R s m args below meth c H1 locs1 cells slots Q (F0 m (pc + 3) ls rest)) : W p l e R s m args below meth c H locs cells slots Q (F0 m pc ls (.int (nI k) :: .int (nI dp) :: .ref (ad i1) :: .int (nI sp) :: .ref (ad i0) :: rest)) := by
  have e1 := nI_clamp hb0.1
  have e2 := nI_clamp hb0.2.1
  have e3 := nI_clamp hb0.2.2
  refine va_copyi hexec hb hml hown hlink hnat hstat hini hK.1 hs.1 hs.2.1 hs.2.2 i0 i1 1 1 (rW_at h0 he0) (rW_at h1 he1) rfl rfl rfl (nI_pos hb0.1) (nI_pos hb0.2.1) (nI_pos hb0.2.2) (by rw [e1, e3]; exact h4) (by rw [e2, e3]; exact h5) (fun _ _ => rfl) hframes hlocals hdg (fun H1 locs1 hP1 hD1 hS1 => ?_)
  rw [rW_set h1, e1, e2, e3] at hP1 hD1
  exact kk H1 locs1 _ rfl ⟨hP1, hD1, hS1⟩
theorem r_copyl (hexec : p.tables.exec = Jvm.exec) (hb : c.code = cc) (hml : c.maxLocals = ls.size) {own : String} {index : Nat} (hown : s.vm.findClass own = some m.cls) (hlink : (Cond.methodLink own index arraycopyName).before args s = true) (hnat : (Cond.native arraycopyName).before args s = true) (hstat : (Cond.static arraycopyName).before args s = true) (hini : (Cond.initialized "java/lang/System").before args s = true)
    (hK : rK G A s) (hs : rS G A s.heap n ad en H locs) (i0 i1 : Nat) (h0 : i0 < n) (h1 : i1 < n) {n0 n1 sp dp k : Nat} {f g : Nat → Int64} (he0 : en i0 = aJ G n0 f) (he1 : en i1 = aJ G n1 g) (hb0 : sp < 2 ^ 31 ∧ dp < 2 ^ 31 ∧ k < 2 ^ 31) (h4 : sp + k ≤ n0) (h5 : dp + k ≤ n1) (hframes : 1 ≤ R.frames) (hlocals : (rest.map fun v => v.category).sum + 18 ≤ R.locals) (hdg : decode cc pc = .ok (.invokestatic index, 3))
    (kk : ∀ (H1 : Heap) (locs1 : List Loc) (en1 : Nat → va_E), en1 = va_up en i1 (aJ G n1 (va_cpy f g sp dp k)) → rS G A s.heap n ad en1 H1 locs1 → W p l e R s m args below meth c H1 locs1 cells slots Q (F0 m (pc + 3) ls rest)) : W p l e R s m args below meth c H locs cells slots Q (F0 m pc ls (.int (nI k) :: .int (nI dp) :: .ref (ad i1) :: .int (nI sp) :: .ref (ad i0) :: rest)) := by
  have e1 := nI_clamp hb0.1
  have e2 := nI_clamp hb0.2.1
  have e3 := nI_clamp hb0.2.2
  refine va_copyl hexec hb hml hown hlink hnat hstat hini hK.1 hs.1 hs.2.1 hs.2.2 i0 i1 2 2 (rW_at h0 he0) (rW_at h1 he1) rfl rfl rfl (nI_pos hb0.1) (nI_pos hb0.2.1) (nI_pos hb0.2.2) (by rw [e1, e3]; exact h4) (by rw [e2, e3]; exact h5) (fun _ _ => rfl) hframes hlocals hdg (fun H1 locs1 hP1 hD1 hS1 => ?_)
  rw [rW_set h1, e1, e2, e3] at hP1 hD1
  exact kk H1 locs1 _ rfl ⟨hP1, hD1, hS1⟩
end RROWS3
theorem bounds_of_ne {a b : Nat} (h : a < b) (hb : b < 2 ^ 31) : ¬ nI b = nI a := fun e => by
  have := (nI_eq hb (by omega)).mp e
  omega
theorem min_nI {a b : Nat} (h : a < b) (hb : b < 2 ^ 31) : (if nI b < nI a then nI b else nI a) = nI a := if_neg (nI_nlt (by omega) hb)

/-! calls with up to 16 words below them on the operand stack -/
section RDEEP
variable {p : Program} {l : Launch} {e : Env} {R : Room} {s : State} {m : MethodId} {args : Array Value} {below : List Frame} {meth : Method} {c : Code} {H : Heap} {locs : List Loc} {cells slots : Nat} {Q : State → Prop}
variable {pc : Nat} {ls : Array Slot} {rest st0 : List Value} {A : Nat → Prop} {G : rG} {n n2 : Nat} {ad : Nat → Nat} {en : Nat → va_E}
theorem deep_room {st : List Value} (h : (st.map fun v => v.category).sum ≤ 16) : 2 * (F0 m pc ls rest).monitorRoom + (st.map fun v => v.category).sum ≤ 16 := by
  have h0 : (F0 m pc ls rest).monitorRoom = 0 := rfl
  omega
theorem r_runD {y : MethodName} {bytes cc : ByteArray} {maxL nL mc ms nA index : Nat} {ret : Option FieldType} {ws : List Cond} {rm : Room} {Pc : Array Value → State → Prop} {Qc : Array Value → State → Outcome → State → Prop} {free : Addr → Prop} {Ts : List Cond} {own C : String} {b : Addr} {As : List Value} {g : JFrame}
    (S : CallFix p m c cc nL s args Ts own) (hM : Met l y ws rm Pc Qc mc ms free) (cw : CallW R s args own C index y bytes maxL ret ws rm mc ms nA) (h16 : 16 + (maxL + 11) + rm.locals ≤ R.locals) (hp : PreV s H C b Pc As)
    (hg : g.method = m) (hn : As.length = nA) (hsize : g.locals.size = nL) (hstack : g.stack = As.reverse ++ .ref b :: rest) (hW : 2 * g.monitorRoom + (rest.map fun v => v.category).sum ≤ 16) (hdg : decode cc g.pc = .ok (.invokevirtual index, 3)) (hf : cells + mc ≤ R.cells ∧ slots + ms ≤ R.slots) :
    va_Run p l e R s m args below meth c H locs cells slots mc ms g rest (Qc (Value.ref b :: As).toArray) free := by
  have hK : Back l R p e below s args y 3 16 (PreOf R mc ms Pc) (PostOf Qc mc ms free) := by
    obtain ⟨hrc, hrs, hfr, -, hws, hcw, -, hini, -⟩ := cw.1
    exact back_of (bytes := bytes) (maxL := maxL) (ret := ret) hM hp.1 hrc hrs hfr h16 hws hcw (fun a' U hW => word_at hW (Or.inl (by first | rfl | simp [Cond.onTables, Cond.keeps, Cond.steady])) hini)
  have c1 := cw.1.2.2.2.2.2.2
  intro T hT X
  obtain ⟨cellB, hcB, hoB, hclB⟩ := hp.2.1
  obtain ⟨v, vm1, ⟨U1, l2, c2, s2⟩, hW1, X1, ⟨g1, mk, t, L, e1, e2, hq, h1, hL, h2, h3⟩, st⟩ := callV X S.1 (C := C) (bytes := bytes) (maxL := maxL) (ret := ret) S.2.2.2.1 c1.2.2.2.2 cw.2.1 cw.2.2 c1.1 c1.2.2.1 hK (by rw [hT]; exact hcB) hoB hclB hg (hsize.trans S.2.2.1.symm) (argsL := As) (rest := rest) (fun sig h => hn.trans (c1.2.2.2.1 sig h)) hstack hW (by rw [S.2.1]; exact hdg)
    (fun vm1 hW1 => ⟨hf.1, hf.2, hp.2.2 (T.setVm vm1) hT hW1⟩)
  dsimp only [Pt.U, Pt.locs, Pt.cells, Pt.slots] at X1 e1 e2 h1 h2 h3 st
  subst h1 h2 h3
  exact ⟨v, (T.setVm vm1).calling g1 mk (Value.ref b :: As).toArray, t, U1, L, hT, X1, hL, e1, e2, hq, st⟩
theorem r_callDi {cc : ByteArray} {nL mc ms fr lo nA index maxL ci : Nat} {y : MethodName} {bytes : ByteArray} {ret : Option FieldType} {ws Ts : List Cond} {own C : String} {As fs : List Value} {q : vw_C} {post : Int32 → (Nat → Nat) → (Nat → va_E) → Prop} (hexec : p.tables.exec = Jvm.exec) (hb : c.code = cc) (hml : c.maxLocals = nL) (hown : s.vm.findClass own = some m.cls) (hts : ∀ w ∈ Ts, w.before args s = true) (hK : rK G A s) (hA : ∀ q, s.heap.size ≤ q → A q) (hs : rS G A s.heap n ad en H locs) (i : Nat) (hi : i < n) (he : en i = .inr (ci, fs)) (hq : vwCl[ci]? = some q) (hqC : q.1 = C)
    (hM : CI l G y ws fr lo mc ms (.ref (ad i) :: As) n n2 ad en post) (cw : CallW R s args own C index y bytes maxL ret ws (rRm fr lo mc ms) mc ms nA) (h16 : 16 + (maxL + 11) + lo ≤ R.locals) (hn : As.length = nA) (hsz : ls.size = nL) (hst : st0 = As.reverse ++ .ref (ad i) :: rest) (hW : (rest.map fun v => v.category).sum ≤ 16) (hdg : decode cc pc = .ok (.invokevirtual index, 3)) (hf : cells + mc ≤ R.cells ∧ slots + ms ≤ R.slots)
    (kk : ∀ (r : Int32) (ad1 : Nat → Nat) (en1 : Nat → va_E) (H1 : Heap) (locs1 : List Loc), post r ad1 en1 → rS G A s.heap n2 ad1 en1 H1 locs1 → W p l e R s m args below meth c H1 locs1 (cells + mc) (slots + ms) Q (F0 m (pc + 3) ls (.int r :: rest))) : W p l e R s m args below meth c H locs cells slots Q (F0 m pc ls st0) := by
  subst hqC
  refine va_calli (r_runD (As := As) (rest := rest) ⟨hexec, hb, hml, hown, hts⟩ (hM H.size) cw h16 ⟨rPre_blind, rS_recv hs hK hi he hq, rS_pre hs hA hK⟩ rfl hn hsz hst (deep_room hW) hdg hf) hs.2.2 (fun q _ h => rS_A hs hA q h) (rS_A hs hA) (fun r u t H1 locs1 ht hvm hw hB hz hk hS1 => ?_)
  exact kk r u.1 u.2 H1 locs1 hw ⟨by rw [← ht]; exact hB.1, hB.2.weaken (fun k q _ h => rS_A hs hA q.1 h), hS1⟩
end RDEEP
theorem aR_get {o : Option Nat} (h : o.isNone = false) : aR o = nI (o.getD 0) := by
  cases o with
  | none => cases h
  | some k => rfl
theorem get_some {o : Option Nat} (h : o.isNone = false) : o = some (o.getD 0) := by
  cases o with
  | none => cases h
  | some k => rfl

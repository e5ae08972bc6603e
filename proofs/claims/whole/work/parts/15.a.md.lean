/-! THE REFERENCE: its arrays -/
def aSo (ss : List Row) : Nat → Int32 := fun k => nI (sSort ss k)
def aLe (ss : List Row) : Nat → Int32 := fun k => nI (sL ss k)
def aRi (ss : List Row) : Nat → Int32 := fun k => nI (sR ss k)
def aTa (ns : List Row) : Nat → Int32 := fun k => nI (nT ns k)
def aGo (ns : List Row) : Nat → Int32 := fun k => nI (nG ns k)
def aFi (ns : List Row) : Nat → Int32 := fun k => nI (nA ns k)
def aSe (ns : List Row) : Nat → Int32 := fun k => nI (nB ns k)
def aTh (ns : List Row) : Nat → Int32 := fun k => nI (nC ns k)
def mEnt (G : rG) (r : Nat) (f : Nat → Int32) : va_E := if r = 31 then aB G 49200 f else if r ≤ 35 then aI G 82 f else if r ≤ 40 then aI G 3002 f else if r ≤ 44 then aI G 82 f else if r ≤ 46 then aZ G 8001 f else aZ G 601 f
def mCol (G : rG) (ss ns : List Row) (r : Nat) : va_E := if r = 23 then aI G 601 (aSo ss) else if r = 24 then aI G 601 (aLe ss) else if r = 25 then aI G 601 (aRi ss) else if r = 26 then aI G 8001 (aTa ns) else if r = 27 then aI G 8001 (aGo ns) else if r = 28 then aI G 8001 (aFi ns) else if r = 29 then aI G 8001 (aSe ns) else aI G 8001 (aTh ns)
def mObj (ad : Nat → Nat) (ss ns : List Row) (us ov dp cl : Int32) : va_E := .inr (8, [.ref (ad 23), .ref (ad 24), .ref (ad 25), .int (nI ss.length), .ref (ad 26), .ref (ad 27), .ref (ad 28), .ref (ad 29), .ref (ad 30), .int (nI ns.length), .int us, .int ov, .ref (ad 31), .ref (ad 32), .ref (ad 33), .ref (ad 34), .ref (ad 35), .int dp, .ref (ad 36), .ref (ad 37), .ref (ad 38), .ref (ad 39), .ref (ad 40), .int cl, .ref (ad 41), .ref (ad 42), .ref (ad 43), .ref (ad 44), .ref (ad 45), .ref (ad 46), .ref (ad 47)])
def MdW (G : rG) (n : Nat) (ad : Nat → Nat) (en : Nat → va_E) (ss ns : List Row) (c : Nat → Nat → Int32) (us ov dp cl : Int32) : Prop := 48 ≤ n ∧ en 22 = mObj ad ss ns us ov dp cl ∧ (∀ r, 23 ≤ r → r ≤ 30 → en r = mCol G ss ns r) ∧ (∀ r, 31 ≤ r → r ≤ 47 → en r = mEnt G r (c r)) ∧ ssOK ss ∧ nsOK ss ns
def mFr (ad : Nat → Nat) (en : Nat → va_E) (ad1 : Nat → Nat) (en1 : Nat → va_E) : Prop := ad = ad1 ∧ ∀ k, k < 22 → en1 k = en k
def cU (c : Nat → Nat → Int32) (r t : Nat) (x : Int32) : Nat → Nat → Int32 := va_up c r (upd (c r) t x)
theorem cU_s {c : Nat → Nat → Int32} {r t : Nat} {x : Int32} : cU c r t x r t = x := by unfold cU; rw [va_up_self, upd_eq]
theorem cU_o {c : Nat → Nat → Int32} {r t r2 t2 : Nat} {x : Int32} (h : r2 ≠ r ∨ t2 ≠ t) : cU c r t x r2 t2 = c r2 t2 := by
  unfold cU
  by_cases e : r2 = r
  · subst e; rw [va_up_self, upd_ne (by omega)]
  · rw [va_up_ne _ _ e]
theorem cU_r {c : Nat → Nat → Int32} {r t r2 : Nat} {x : Int32} (h : r2 ≠ r) : cU c r t x r2 = c r2 := va_up_ne _ _ h
theorem cU_e (c : Nat → Nat → Int32) (r t : Nat) (x : Int32) : cU c r t x r = upd (c r) t x := va_up_self _ _ _
theorem md_ar {G : rG} {n : Nat} {ad : Nat → Nat} {en : Nat → va_E} {ss ns : List Row} {c : Nat → Nat → Int32} {us ov dp cl : Int32} {en1 : Nat → va_E} {f : Nat → Int32} {c1 : Nat → Nat → Int32} (h : MdW G n ad en ss ns c us ov dp cl) (r : Nat) (h1 : 31 ≤ r) (h2 : r ≤ 47) (he : en1 = va_up en r (mEnt G r f)) (hc : c1 = va_up c r f) : MdW G n ad en1 ss ns c1 us ov dp cl := by
  obtain ⟨a, b, d, e, k1, k2⟩ := h
  subst he hc
  refine ⟨a, (va_up_ne _ _ (by omega)).trans b, fun q q1 q2 => (va_up_ne _ _ (by omega)).trans (d q q1 q2), fun q q1 q2 => ?_, k1, k2⟩
  by_cases z : q = r
  · subst z; rw [va_up_self, va_up_self]
  · rw [va_up_ne _ _ z, va_up_ne _ _ z]; exact e q q1 q2
theorem md_pu {G : rG} {n : Nat} {ad : Nat → Nat} {en : Nat → va_E} {ss ns : List Row} {c : Nat → Nat → Int32} {us ov dp cl : Int32} {en1 : Nat → va_E} {us1 ov1 dp1 cl1 : Int32} (h : MdW G n ad en ss ns c us ov dp cl) (he : en1 = va_up en 22 (mObj ad ss ns us1 ov1 dp1 cl1)) : MdW G n ad en1 ss ns c us1 ov1 dp1 cl1 := by
  obtain ⟨a, b, d, e, k1, k2⟩ := h
  subst he
  exact ⟨a, va_up_self _ _ _, fun q q1 q2 => (va_up_ne _ _ (by omega)).trans (d q q1 q2), fun q q1 q2 => (va_up_ne _ _ (by omega)).trans (e q q1 q2), k1, k2⟩
theorem md22 {G : rG} {n : Nat} {ad : Nat → Nat} {en : Nat → va_E} {ss ns : List Row} {c : Nat → Nat → Int32} {us ov dp cl : Int32} (h : MdW G n ad en ss ns c us ov dp cl) : en 22 = .inr (8, [.ref (ad 23), .ref (ad 24), .ref (ad 25), .int (nI ss.length), .ref (ad 26), .ref (ad 27), .ref (ad 28), .ref (ad 29), .ref (ad 30), .int (nI ns.length), .int us, .int ov, .ref (ad 31), .ref (ad 32), .ref (ad 33), .ref (ad 34), .ref (ad 35), .int dp, .ref (ad 36), .ref (ad 37), .ref (ad 38), .ref (ad 39), .ref (ad 40), .int cl, .ref (ad 41), .ref (ad 42), .ref (ad 43), .ref (ad 44), .ref (ad 45), .ref (ad 46), .ref (ad 47)]) := h.2.1
theorem md23 {G : rG} {n : Nat} {ad : Nat → Nat} {en : Nat → va_E} {ss ns : List Row} {c : Nat → Nat → Int32} {us ov dp cl : Int32} (h : MdW G n ad en ss ns c us ov dp cl) : en 23 = aI G 601 (aSo ss) := h.2.2.1 23 (by decide) (by decide)
theorem md24 {G : rG} {n : Nat} {ad : Nat → Nat} {en : Nat → va_E} {ss ns : List Row} {c : Nat → Nat → Int32} {us ov dp cl : Int32} (h : MdW G n ad en ss ns c us ov dp cl) : en 24 = aI G 601 (aLe ss) := h.2.2.1 24 (by decide) (by decide)
theorem md25 {G : rG} {n : Nat} {ad : Nat → Nat} {en : Nat → va_E} {ss ns : List Row} {c : Nat → Nat → Int32} {us ov dp cl : Int32} (h : MdW G n ad en ss ns c us ov dp cl) : en 25 = aI G 601 (aRi ss) := h.2.2.1 25 (by decide) (by decide)
theorem md26 {G : rG} {n : Nat} {ad : Nat → Nat} {en : Nat → va_E} {ss ns : List Row} {c : Nat → Nat → Int32} {us ov dp cl : Int32} (h : MdW G n ad en ss ns c us ov dp cl) : en 26 = aI G 8001 (aTa ns) := h.2.2.1 26 (by decide) (by decide)
theorem md27 {G : rG} {n : Nat} {ad : Nat → Nat} {en : Nat → va_E} {ss ns : List Row} {c : Nat → Nat → Int32} {us ov dp cl : Int32} (h : MdW G n ad en ss ns c us ov dp cl) : en 27 = aI G 8001 (aGo ns) := h.2.2.1 27 (by decide) (by decide)
theorem md28 {G : rG} {n : Nat} {ad : Nat → Nat} {en : Nat → va_E} {ss ns : List Row} {c : Nat → Nat → Int32} {us ov dp cl : Int32} (h : MdW G n ad en ss ns c us ov dp cl) : en 28 = aI G 8001 (aFi ns) := h.2.2.1 28 (by decide) (by decide)
theorem md29 {G : rG} {n : Nat} {ad : Nat → Nat} {en : Nat → va_E} {ss ns : List Row} {c : Nat → Nat → Int32} {us ov dp cl : Int32} (h : MdW G n ad en ss ns c us ov dp cl) : en 29 = aI G 8001 (aSe ns) := h.2.2.1 29 (by decide) (by decide)
theorem md30 {G : rG} {n : Nat} {ad : Nat → Nat} {en : Nat → va_E} {ss ns : List Row} {c : Nat → Nat → Int32} {us ov dp cl : Int32} (h : MdW G n ad en ss ns c us ov dp cl) : en 30 = aI G 8001 (aTh ns) := h.2.2.1 30 (by decide) (by decide)
theorem md31 {G : rG} {n : Nat} {ad : Nat → Nat} {en : Nat → va_E} {ss ns : List Row} {c : Nat → Nat → Int32} {us ov dp cl : Int32} (h : MdW G n ad en ss ns c us ov dp cl) : en 31 = aB G 49200 (c 31) := h.2.2.2.1 31 (by decide) (by decide)
theorem md32 {G : rG} {n : Nat} {ad : Nat → Nat} {en : Nat → va_E} {ss ns : List Row} {c : Nat → Nat → Int32} {us ov dp cl : Int32} (h : MdW G n ad en ss ns c us ov dp cl) : en 32 = aI G 82 (c 32) := h.2.2.2.1 32 (by decide) (by decide)
theorem md33 {G : rG} {n : Nat} {ad : Nat → Nat} {en : Nat → va_E} {ss ns : List Row} {c : Nat → Nat → Int32} {us ov dp cl : Int32} (h : MdW G n ad en ss ns c us ov dp cl) : en 33 = aI G 82 (c 33) := h.2.2.2.1 33 (by decide) (by decide)
theorem md34 {G : rG} {n : Nat} {ad : Nat → Nat} {en : Nat → va_E} {ss ns : List Row} {c : Nat → Nat → Int32} {us ov dp cl : Int32} (h : MdW G n ad en ss ns c us ov dp cl) : en 34 = aI G 82 (c 34) := h.2.2.2.1 34 (by decide) (by decide)
theorem md35 {G : rG} {n : Nat} {ad : Nat → Nat} {en : Nat → va_E} {ss ns : List Row} {c : Nat → Nat → Int32} {us ov dp cl : Int32} (h : MdW G n ad en ss ns c us ov dp cl) : en 35 = aI G 82 (c 35) := h.2.2.2.1 35 (by decide) (by decide)
theorem md41 {G : rG} {n : Nat} {ad : Nat → Nat} {en : Nat → va_E} {ss ns : List Row} {c : Nat → Nat → Int32} {us ov dp cl : Int32} (h : MdW G n ad en ss ns c us ov dp cl) : en 41 = aI G 82 (c 41) := h.2.2.2.1 41 (by decide) (by decide)
theorem md42 {G : rG} {n : Nat} {ad : Nat → Nat} {en : Nat → va_E} {ss ns : List Row} {c : Nat → Nat → Int32} {us ov dp cl : Int32} (h : MdW G n ad en ss ns c us ov dp cl) : en 42 = aI G 82 (c 42) := h.2.2.2.1 42 (by decide) (by decide)
theorem md43 {G : rG} {n : Nat} {ad : Nat → Nat} {en : Nat → va_E} {ss ns : List Row} {c : Nat → Nat → Int32} {us ov dp cl : Int32} (h : MdW G n ad en ss ns c us ov dp cl) : en 43 = aI G 82 (c 43) := h.2.2.2.1 43 (by decide) (by decide)
theorem md44 {G : rG} {n : Nat} {ad : Nat → Nat} {en : Nat → va_E} {ss ns : List Row} {c : Nat → Nat → Int32} {us ov dp cl : Int32} (h : MdW G n ad en ss ns c us ov dp cl) : en 44 = aI G 82 (c 44) := h.2.2.2.1 44 (by decide) (by decide)
theorem md36 {G : rG} {n : Nat} {ad : Nat → Nat} {en : Nat → va_E} {ss ns : List Row} {c : Nat → Nat → Int32} {us ov dp cl : Int32} (h : MdW G n ad en ss ns c us ov dp cl) : en 36 = aI G 3002 (c 36) := h.2.2.2.1 36 (by decide) (by decide)
theorem md37 {G : rG} {n : Nat} {ad : Nat → Nat} {en : Nat → va_E} {ss ns : List Row} {c : Nat → Nat → Int32} {us ov dp cl : Int32} (h : MdW G n ad en ss ns c us ov dp cl) : en 37 = aI G 3002 (c 37) := h.2.2.2.1 37 (by decide) (by decide)
theorem md38 {G : rG} {n : Nat} {ad : Nat → Nat} {en : Nat → va_E} {ss ns : List Row} {c : Nat → Nat → Int32} {us ov dp cl : Int32} (h : MdW G n ad en ss ns c us ov dp cl) : en 38 = aI G 3002 (c 38) := h.2.2.2.1 38 (by decide) (by decide)
theorem md39 {G : rG} {n : Nat} {ad : Nat → Nat} {en : Nat → va_E} {ss ns : List Row} {c : Nat → Nat → Int32} {us ov dp cl : Int32} (h : MdW G n ad en ss ns c us ov dp cl) : en 39 = aI G 3002 (c 39) := h.2.2.2.1 39 (by decide) (by decide)
theorem md40 {G : rG} {n : Nat} {ad : Nat → Nat} {en : Nat → va_E} {ss ns : List Row} {c : Nat → Nat → Int32} {us ov dp cl : Int32} (h : MdW G n ad en ss ns c us ov dp cl) : en 40 = aI G 3002 (c 40) := h.2.2.2.1 40 (by decide) (by decide)
theorem md45 {G : rG} {n : Nat} {ad : Nat → Nat} {en : Nat → va_E} {ss ns : List Row} {c : Nat → Nat → Int32} {us ov dp cl : Int32} (h : MdW G n ad en ss ns c us ov dp cl) : en 45 = aZ G 8001 (c 45) := h.2.2.2.1 45 (by decide) (by decide)
theorem md46 {G : rG} {n : Nat} {ad : Nat → Nat} {en : Nat → va_E} {ss ns : List Row} {c : Nat → Nat → Int32} {us ov dp cl : Int32} (h : MdW G n ad en ss ns c us ov dp cl) : en 46 = aZ G 8001 (c 46) := h.2.2.2.1 46 (by decide) (by decide)
theorem md47 {G : rG} {n : Nat} {ad : Nat → Nat} {en : Nat → va_E} {ss ns : List Row} {c : Nat → Nat → Int32} {us ov dp cl : Int32} (h : MdW G n ad en ss ns c us ov dp cl) : en 47 = aZ G 601 (c 47) := h.2.2.2.1 47 (by decide) (by decide)

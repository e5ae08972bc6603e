def ovB (b : Bool) : Int32 := if b then (-3) else 0
theorem ncol_app (ns : List Row) (r : Row) : aTa (ns ++ [r]) = upd (aTa ns) (ns.length + 1) (nI r.1) ∧ aGo (ns ++ [r]) = upd (aGo ns) (ns.length + 1) (nI r.2.1) ∧ aFi (ns ++ [r]) = upd (aFi ns) (ns.length + 1) (nI r.2.2.1) ∧ aSe (ns ++ [r]) = upd (aSe ns) (ns.length + 1) (nI r.2.2.2.1) ∧ aTh (ns ++ [r]) = upd (aTh ns) (ns.length + 1) (nI r.2.2.2.2) := by
  have key : ∀ k, kAt (ns ++ [r]) k = if k = ns.length + 1 then r else kAt ns k := by
    intro k
    by_cases c : k = ns.length + 1
    · rw [if_pos c, c]; unfold kAt; rw [if_neg (by omega)]; simp
    · rw [if_neg c]
      by_cases d : k ≤ ns.length
      · exact kAt_app d
      · rw [kAt_out (by simp; omega), kAt_out (by omega)]
  refine ⟨?_, ?_, ?_, ?_, ?_⟩
  · funext k; unfold aTa nT upd; rw [key]; split <;> rfl
  · funext k; unfold aGo nG upd; rw [key]; split <;> rfl
  · funext k; unfold aFi nA upd; rw [key]; split <;> rfl
  · funext k; unfold aSe nB upd; rw [key]; split <;> rfl
  · funext k; unfold aTh nC upd; rw [key]; split <;> rfl
theorem nsOK_add {ss ns : List Row} {r : Row} (h : nsOK ss ns) (hlt : ns.length < 8000) (hr : ndOK ss.length (ns.length + 1) r) (hf : kFind ns r = 0) : nsOK ss (ns ++ [r]) := by
  obtain ⟨h1, h2, h3⟩ := h
  have key : ∀ k, 1 ≤ k → k ≤ (ns ++ [r]).length → (k ≤ ns.length ∧ kAt (ns ++ [r]) k = kAt ns k) ∨ (k = ns.length + 1 ∧ kAt (ns ++ [r]) k = r) := by
    intro k a b
    have b : k ≤ ns.length + 1 := by simp at b; exact b
    by_cases c : k = ns.length + 1
    · right; refine ⟨c, ?_⟩; rw [c]; unfold kAt; rw [if_neg (by omega)]; simp
    · left; exact ⟨by omega, kAt_app (by omega)⟩
  have hno : ∀ k, 1 ≤ k → k ≤ ns.length → kAt ns k ≠ r := by
    intro k a b q
    have : ∀ m, k ≤ m → kFU ns r m ≠ 0 := by
      intro m
      induction m with
      | zero => intro z; omega
      | succ m ih =>
        intro z
        rw [kFU]
        by_cases c : kAt ns (m + 1) = r
        · rw [if_pos c]; omega
        · rw [if_neg c]
          refine ih ?_
          by_cases e : k = m + 1
          · rw [e] at q; exact absurd q c
          · omega
    exact this _ b hf
  refine ⟨by simp; omega, fun k a b => ?_, fun i j a b a2 b2 q => ?_⟩
  · rcases key k a b with ⟨c, e⟩ | ⟨c, e⟩
    · rw [e]; exact h2 k a c
    · rw [e, c]; exact hr
  · rcases key i a b with ⟨c, e⟩ | ⟨c, e⟩
    · rcases key j a2 b2 with ⟨c2, e2⟩ | ⟨c2, e2⟩
      · rw [e, e2] at q; exact h3 i j a c a2 c2 q
      · rw [e, e2] at q; exact absurd q (hno i a c)
    · rcases key j a2 b2 with ⟨c2, e2⟩ | ⟨c2, e2⟩
      · rw [e, e2] at q; exact absurd q.symm (hno j a2 c2)
      · omega
theorem md_nk {G : rG} {n : Nat} {ad : Nat → Nat} {en : Nat → va_E} {ss ns : List Row} {c : Nat → Nat → Int32} {us ov dp cl : Int32} {en1 : Nat → va_E} {tg gl a b c1 : Nat} (h : MdW G n ad en ss ns c us ov dp cl) (hlt : ns.length < 8000) (hrow : ndOK ss.length (ns.length + 1) (tg, gl, a, b, c1)) (hf : kFind ns (tg, gl, a, b, c1) = 0) (e22 : en1 22 = mObj ad ss (ns ++ [(tg, gl, a, b, c1)]) us ov dp cl) (e26 : en1 26 = aI G 8001 (upd (aTa ns) (ns.length + 1) (nI tg))) (e27 : en1 27 = aI G 8001 (upd (aGo ns) (ns.length + 1) (nI gl))) (e28 : en1 28 = aI G 8001 (upd (aFi ns) (ns.length + 1) (nI a))) (e29 : en1 29 = aI G 8001 (upd (aSe ns) (ns.length + 1) (nI b))) (e30 : en1 30 = aI G 8001 (upd (aTh ns) (ns.length + 1) (nI c1))) (ek : ∀ k, (31 ≤ k ∨ (23 ≤ k ∧ k ≤ 25)) → en1 k = en k) : MdW G n ad en1 ss (ns ++ [(tg, gl, a, b, c1)]) c us ov dp cl := by
  obtain ⟨h1, h2, h3, h4, h5, h6⟩ := h
  obtain ⟨c1', c2, c3, c4, c5⟩ := ncol_app ns (tg, gl, a, b, c1)
  refine ⟨h1, e22, fun r q1 q2 => ?_, fun r q1 q2 => (ek r (by omega)).trans (h4 r q1 q2), h5, nsOK_add h6 hlt hrow hf⟩
  have : r = 26 ∨ r = 27 ∨ r = 28 ∨ r = 29 ∨ r = 30 ∨ r = 23 ∨ r = 24 ∨ r = 25 := by omega
  rcases this with rfl | rfl | rfl | rfl | rfl | rfl | rfl | rfl
  · rw [e26, ← c1']; rfl
  · rw [e27, ← c2]; rfl
  · rw [e28, ← c3]; rfl
  · rw [e29, ← c4]; rfl
  · rw [e30, ← c5]; rfl
  · rw [ek 23 (by omega), h3 23 (by omega) (by omega)]; rfl
  · rw [ek 24 (by omega), h3 24 (by omega) (by omega)]; rfl
  · rw [ek 25 (by omega), h3 25 (by omega) (by omega)]; rfl
theorem nfM_hit {ns : List Row} (hu : ∀ i j, 1 ≤ i → i ≤ ns.length → 1 ≤ j → j ≤ ns.length → kAt ns i = kAt ns j → i = j) {f : Nat} {r : Row} (hf : 1 ≤ f ∧ f ≤ ns.length) (hr : kAt ns f = r) : kFind ns r = f := by
  have hle := kFU_le ns r ns.length
  have hn : kFind ns r ≠ 0 := by
    intro q
    have : ∀ m, f ≤ m → kFU ns r m ≠ 0 := by
      intro m
      induction m with
      | zero => intro a; omega
      | succ m ih =>
        intro a
        rw [kFU]
        by_cases c : kAt ns (m + 1) = r
        · rw [if_pos c]; omega
        · rw [if_neg c]
          refine ih ?_
          by_cases e : f = m + 1
          · rw [e] at hr; exact absurd hr c
          · omega
    exact this _ hf.2 q
  exact hu _ _ (by omega) hle hf.1 hf.2 ((kFU_at hn).trans hr.symm)
theorem nrow_of {ns : List Row} {f tg gl a b c1 : Nat} (h1 : nT ns f = tg) (h2 : nG ns f = gl) (h3 : nA ns f = a) (h4 : nB ns f = b) (h5 : nC ns f = c1) : kAt ns f = (tg, gl, a, b, c1) := by
  subst h1 h2 h3 h4 h5
  unfold nT nG nA nB nC
  rfl
theorem nd_small {ss ns : List Row} (h : nsOK ss ns) (hs : ss.length ≤ 600) (k : Nat) : nT ns k < 2 ^ 31 ∧ nG ns k < 2 ^ 31 ∧ nA ns k < 2 ^ 31 ∧ nB ns k < 2 ^ 31 ∧ nC ns k < 2 ^ 31 := by
  by_cases c : 1 ≤ k ∧ k ≤ ns.length
  · have := part_lt h c; have := h.1; omega
  · have e : kAt ns k = (0, 0, 0, 0, 0) := by
      by_cases h0 : k = 0
      · rw [h0]; rfl
      · exact kAt_out (by omega)
    unfold nT nG nA nB nC; rw [e]; decide
def mAct (G : rG) (n : Nat) (ad : Nat → Nat) (en : Nat → va_E) (c : Nat → Nat → Int32) (us dp cl : Int32) (A : Act) (s : NSt) : Int32 → (Nat → Nat) → (Nat → va_E) → Prop := fun r ad1 en1 => mFr ad en ad1 en1 ∧ r = nI ((A s).1.getD 0) ∧ MdW G n ad en1 (A s).2.1 (A s).2.2 c us (ovB (A s).1.isNone) dp cl
theorem nmk_o (r : Row) (s : NSt) : aR (aNode r s).1 = nMakeR s.2 r := aNode_r r s
set_option maxHeartbeats 600000 in
set_option maxRecDepth 100000 in
theorem c_X8_keep (l : Launch) (G : rG) {n : Nat} {ad : Nat → Nat} {en : Nat → va_E} {ss ns : List Row} {c : Nat → Nat → Int32} {us ov dp cl : Int32} (hM : MdW G n ad en ss ns c us ov dp cl) {tg gl a b c1 : Nat} (hs1 : tg < 2 ^ 31 ∧ gl < 2 ^ 31 ∧ a < 2 ^ 31 ∧ b < 2 ^ 31 ∧ c1 < 2 ^ 31) (hrow : ndOK ss.length (ns.length + 1) (tg, gl, a, b, c1)) : CI l G yX8_keep uX8_keep (0) (0) (0) (0) [.ref (ad 22), .int (nI tg), .int (nI gl), .int (nI a), .int (nI b), .int (nI c1)] (n) (n) ad en (fun r ad1 en1 => mFr ad en ad1 en1 ∧ r = nMakeR ns (tg, gl, a, b, c1) ∧ MdW G n ad en1 ss (nMake ns (tg, gl, a, b, c1)) c us ov dp cl) := by
  intro sz
  refine rMet (Qc := qI G (n) (fun r ad1 en1 => mFr ad en ad1 en1 ∧ r = nMakeR ns (tg, gl, a, b, c1) ∧ MdW G n ad en1 ss (nMake ns (tg, gl, a, b, c1)) c us ov dp cl)) (cc := cX8_keep) (maxL := 7) (ret := (some .int)) (by decide) rfl (Nat.le_of_ble_eq_true rfl) ?_
  intro pP eE sS mM aA bB tT cC ls A Q hc hK hsz hA hs hl hQ
  obtain ⟨hx, hb, hr, hts, hown, hlk, hnm, hml⟩ := hc
  have hl : lv_has ls 7 [(0, .ref (ad 22)), (1, .int (nI tg)), (2, .int (nI gl)), (3, .int (nI a)), (4, .int (nI b)), (5, .int (nI c1))] := hl
  have fr0 : ∀ k, k < 22 → en k = en k := fun _ _ => rfl
  obtain ⟨hn48, -, -, -, hok, hnk⟩ := id hM
  have h6 := hok.1
  have h8 := hnk.1
  have h22 := md22 hM
  have h26 := md26 hM
  have h27 := md27 hM
  have h28 := md28 hM
  have h29 := md29 hM
  have h30 := md30 hM
  refine lv_iconst (v := 1) hx hb dX8_keep_0 (by decide) ?_
  refine lv_istore (lv' := [(6, .int (1)), (0, .ref (ad 22)), (1, .int (nI tg)), (2, .int (nI gl)), (3, .int (nI a)), (4, .int (nI b)), (5, .int (nI c1))]) hx hb dX8_keep_1 hl (by decide) rfl (fun ls hl => ?_)
  suffices LOOP3 : ∀ (fu3 : Nat) (f : Nat) (H : Heap) (locs : List Loc) (ls : Array Slot), (1 ≤ f ∧ f ≤ ns.length + 1) → (∀ y, 1 ≤ y → y < f → kAt ns y ≠ (tg, gl, a, b, c1)) → ns.length + 2 - f < fu3 → rS G A sS.heap (n) ad en H locs → lv_has ls 7 [(0, .ref (ad 22)), (1, .int (nI tg)), (2, .int (nI gl)), (3, .int (nI a)), (4, .int (nI b)), (5, .int (nI c1)), (6, .int (nI f))] → W pP l eE (rRm (0) (0) (0) (0)) sS mM aA bB tT cC H locs (0) (0) Q (F0 mM 3 ls []) from LOOP3 _ (1) _ _ _ (by omega) (fun y p q => by omega) (Nat.lt_succ_self _) hs (lv_sub hl [1, 2, 3, 4, 5, 6, 0] rfl)
  intro fu3
  induction fu3 with
  | zero => intro f H locs ls hf hno hfu; exact absurd hfu (Nat.not_lt_zero _)
  | succ fu3 ih3 => ?_
  intro f H locs ls hf hno hfu3 hs hl
  refine lv_iload hx hb dX8_keep_3 (lv_at hl 6 rfl) ?_
  refine lv_aload_n hx hb dX8_keep_5 rfl (lv_at hl 0 rfl) ?_
  refine r_get (ci := 8) (v := .int (nI ns.length)) (C := RX8) (T := TX8) (N := 31) hx hb hts inlX8 hown hK hs (22) (by omega) h22 rfl 9 (by decide) (hts _ w_fl_RX8_103) rfl dX8_keep_6 ?_
  refine lv_icmp_gt (tgt := 75) hx hb dX8_keep_9 (by decide) (fun c9 => ?_) (fun c9 => ?_)
  · skip
    have hfl : f = ns.length + 1 := by have := (nI_ltI (by omega) (by omega)).mp c9; omega
    subst hfl
    have hf0 : kFind ns (tg, gl, a, b, c1) = 0 := kFU_none _ (fun y p q => hno y p (by omega))
    refine lv_iload hx hb dX8_keep_75 (lv_at hl 6 rfl) ?_
    refine lv_aload_n hx hb dX8_keep_77 rfl (lv_at hl 0 rfl) ?_
    refine r_get (ci := 8) (v := .int (nI ns.length)) (C := RX8) (T := TX8) (N := 31) hx hb hts inlX8 hown hK hs (22) (by omega) h22 rfl 9 (by decide) (hts _ w_fl_RX8_103) rfl dX8_keep_78 ?_
    refine lv_icmp_gt (tgt := 87) hx hb dX8_keep_81 (by decide) (fun _ => ?_) (fun c81 => absurd ((nI_ltI (by omega) (by omega)).mpr (by omega)) c81)
    refine lv_aload_n hx hb dX8_keep_87 rfl (lv_at hl 0 rfl) ?_
    refine r_get (ci := 8) (v := .int (nI ns.length)) (C := RX8) (T := TX8) (N := 31) hx hb hts inlX8 hown hK hs (22) (by omega) h22 rfl 9 (by decide) (hts _ w_fl_RX8_103) rfl dX8_keep_88 ?_
    refine lv_sipush (v := 8000) hx hb dX8_keep_91 (by decide) ?_
    refine lv_icmp_ne (tgt := 100) hx hb dX8_keep_94 (by decide) (fun c94 => ?_) (fun c94 => ?_)
    · skip
      have hlt : ns.length < 8000 := by have : ¬ ns.length = 8000 := fun q => c94 (by rw [q]; rfl); omega
      refine lv_aload_n hx hb dX8_keep_100 rfl (lv_at hl 0 rfl) ?_
      refine lv_dup hx hb dX8_keep_101 rfl ?_
      refine r_get (ci := 8) (v := .int (nI ns.length)) (C := RX8) (T := TX8) (N := 31) hx hb hts inlX8 hown hK hs (22) (by omega) h22 rfl 9 (by decide) (hts _ w_fl_RX8_103) rfl dX8_keep_102 ?_
      refine lv_iconst (v := 1) hx hb dX8_keep_105 (by decide) ?_
      refine lv_iadd hx hb dX8_keep_106 ?_
      refine r_topi (y := nI (ns.length + 1)) (nI_add _ _) ?_
      refine r_put (ci := 8) (v := .int (nI (ns.length + 1))) (ty := .int) (C := RX8) (T := TX8) (N := 31) (fs' := [.ref (ad 23), .ref (ad 24), .ref (ad 25), .int (nI ss.length), .ref (ad 26), .ref (ad 27), .ref (ad 28), .ref (ad 29), .ref (ad 30), .int (nI (ns.length + 1)), .int (us), .int (ov), .ref (ad 31), .ref (ad 32), .ref (ad 33), .ref (ad 34), .ref (ad 35), .int (dp), .ref (ad 36), .ref (ad 37), .ref (ad 38), .ref (ad 39), .ref (ad 40), .int (cl), .ref (ad 41), .ref (ad 42), .ref (ad 43), .ref (ad 44), .ref (ad 45), .ref (ad 46), .ref (ad 47)]) hx hb hts inlX8 tyX8 tyX8_ok nmX8 hown hK hs (22) (by omega) h22 rfl 9 (by decide) (hts _ w_fl_RX8_103) (Or.inl rfl) (by decide +kernel) rfl rfl (Nat.le_of_ble_eq_true rfl) rfl dX8_keep_107 (fun H locs en_1 hen_1 hs => ?_)
      have he_2 : en_1 (22) = .inr (8, [.ref (ad 23), .ref (ad 24), .ref (ad 25), .int (nI ss.length), .ref (ad 26), .ref (ad 27), .ref (ad 28), .ref (ad 29), .ref (ad 30), .int (nI (ns.length + 1)), .int (us), .int (ov), .ref (ad 31), .ref (ad 32), .ref (ad 33), .ref (ad 34), .ref (ad 35), .int (dp), .ref (ad 36), .ref (ad 37), .ref (ad 38), .ref (ad 39), .ref (ad 40), .int (cl), .ref (ad 41), .ref (ad 42), .ref (ad 43), .ref (ad 44), .ref (ad 45), .ref (ad 46), .ref (ad 47)]) := by rw [hen_1]; exact va_up_self _ _ _
      have he_3 : en_1 (26) = aI G (8001) (aTa ns) := by rw [hen_1]; exact (va_up_ne _ _ (by omega)).trans h26
      have he_4 : en_1 (27) = aI G (8001) (aGo ns) := by rw [hen_1]; exact (va_up_ne _ _ (by omega)).trans h27
      have he_5 : en_1 (28) = aI G (8001) (aFi ns) := by rw [hen_1]; exact (va_up_ne _ _ (by omega)).trans h28
      have he_6 : en_1 (29) = aI G (8001) (aSe ns) := by rw [hen_1]; exact (va_up_ne _ _ (by omega)).trans h29
      have he_7 : en_1 (30) = aI G (8001) (aTh ns) := by rw [hen_1]; exact (va_up_ne _ _ (by omega)).trans h30
      refine lv_aload_n hx hb dX8_keep_110 rfl (lv_at hl 0 rfl) ?_
      refine r_get (ci := 8) (v := .ref (ad 26)) (C := RX8) (T := TX8) (N := 31) hx hb hts inlX8 hown hK hs (22) (by omega) he_2 rfl 4 (by decide) (hts _ w_fl_RX8_19) rfl dX8_keep_111 ?_
      refine lv_iload hx hb dX8_keep_114 (lv_at hl 6 rfl) ?_
      refine lv_iload_n hx hb dX8_keep_116 rfl (lv_at hl 1 rfl) ?_
      refine r_iastN (t := ns.length + 1) hx hb hK hs (26) (by omega) he_3 (rfl) (by omega) (by omega) dX8_keep_117 (fun H locs en_9 hen_9 hs => ?_)
      have he_10 : en_9 (26) = aI G (8001) (upd (aTa ns) (ns.length + 1) (nI tg)) := by rw [hen_9]; exact va_up_self _ _ _
      have he_11 : en_9 (22) = .inr (8, [.ref (ad 23), .ref (ad 24), .ref (ad 25), .int (nI ss.length), .ref (ad 26), .ref (ad 27), .ref (ad 28), .ref (ad 29), .ref (ad 30), .int (nI (ns.length + 1)), .int (us), .int (ov), .ref (ad 31), .ref (ad 32), .ref (ad 33), .ref (ad 34), .ref (ad 35), .int (dp), .ref (ad 36), .ref (ad 37), .ref (ad 38), .ref (ad 39), .ref (ad 40), .int (cl), .ref (ad 41), .ref (ad 42), .ref (ad 43), .ref (ad 44), .ref (ad 45), .ref (ad 46), .ref (ad 47)]) := by rw [hen_9]; exact (va_up_ne _ _ (by omega)).trans he_2
      have he_12 : en_9 (27) = aI G (8001) (aGo ns) := by rw [hen_9]; exact (va_up_ne _ _ (by omega)).trans he_4
      have he_13 : en_9 (28) = aI G (8001) (aFi ns) := by rw [hen_9]; exact (va_up_ne _ _ (by omega)).trans he_5
      have he_14 : en_9 (29) = aI G (8001) (aSe ns) := by rw [hen_9]; exact (va_up_ne _ _ (by omega)).trans he_6
      have he_15 : en_9 (30) = aI G (8001) (aTh ns) := by rw [hen_9]; exact (va_up_ne _ _ (by omega)).trans he_7
      refine lv_aload_n hx hb dX8_keep_118 rfl (lv_at hl 0 rfl) ?_
      refine r_get (ci := 8) (v := .ref (ad 27)) (C := RX8) (T := TX8) (N := 31) hx hb hts inlX8 hown hK hs (22) (by omega) he_11 rfl 5 (by decide) (hts _ w_fl_RX8_22) rfl dX8_keep_119 ?_
      refine lv_iload hx hb dX8_keep_122 (lv_at hl 6 rfl) ?_
      refine lv_iload_n hx hb dX8_keep_124 rfl (lv_at hl 2 rfl) ?_
      refine r_iastN (t := ns.length + 1) hx hb hK hs (27) (by omega) he_12 (rfl) (by omega) (by omega) dX8_keep_125 (fun H locs en_17 hen_17 hs => ?_)
      have he_18 : en_17 (27) = aI G (8001) (upd (aGo ns) (ns.length + 1) (nI gl)) := by rw [hen_17]; exact va_up_self _ _ _
      have he_19 : en_17 (22) = .inr (8, [.ref (ad 23), .ref (ad 24), .ref (ad 25), .int (nI ss.length), .ref (ad 26), .ref (ad 27), .ref (ad 28), .ref (ad 29), .ref (ad 30), .int (nI (ns.length + 1)), .int (us), .int (ov), .ref (ad 31), .ref (ad 32), .ref (ad 33), .ref (ad 34), .ref (ad 35), .int (dp), .ref (ad 36), .ref (ad 37), .ref (ad 38), .ref (ad 39), .ref (ad 40), .int (cl), .ref (ad 41), .ref (ad 42), .ref (ad 43), .ref (ad 44), .ref (ad 45), .ref (ad 46), .ref (ad 47)]) := by rw [hen_17]; exact (va_up_ne _ _ (by omega)).trans he_11
      have he_20 : en_17 (26) = aI G (8001) (upd (aTa ns) (ns.length + 1) (nI tg)) := by rw [hen_17]; exact (va_up_ne _ _ (by omega)).trans he_10
      have he_21 : en_17 (28) = aI G (8001) (aFi ns) := by rw [hen_17]; exact (va_up_ne _ _ (by omega)).trans he_13
      have he_22 : en_17 (29) = aI G (8001) (aSe ns) := by rw [hen_17]; exact (va_up_ne _ _ (by omega)).trans he_14
      have he_23 : en_17 (30) = aI G (8001) (aTh ns) := by rw [hen_17]; exact (va_up_ne _ _ (by omega)).trans he_15
      refine lv_aload_n hx hb dX8_keep_126 rfl (lv_at hl 0 rfl) ?_
      refine r_get (ci := 8) (v := .ref (ad 28)) (C := RX8) (T := TX8) (N := 31) hx hb hts inlX8 hown hK hs (22) (by omega) he_19 rfl 6 (by decide) (hts _ w_fl_RX8_25) rfl dX8_keep_127 ?_
      refine lv_iload hx hb dX8_keep_130 (lv_at hl 6 rfl) ?_
      refine lv_iload_n hx hb dX8_keep_132 rfl (lv_at hl 3 rfl) ?_
      refine r_iastN (t := ns.length + 1) hx hb hK hs (28) (by omega) he_21 (rfl) (by omega) (by omega) dX8_keep_133 (fun H locs en_25 hen_25 hs => ?_)
      have he_26 : en_25 (28) = aI G (8001) (upd (aFi ns) (ns.length + 1) (nI a)) := by rw [hen_25]; exact va_up_self _ _ _
      have he_27 : en_25 (22) = .inr (8, [.ref (ad 23), .ref (ad 24), .ref (ad 25), .int (nI ss.length), .ref (ad 26), .ref (ad 27), .ref (ad 28), .ref (ad 29), .ref (ad 30), .int (nI (ns.length + 1)), .int (us), .int (ov), .ref (ad 31), .ref (ad 32), .ref (ad 33), .ref (ad 34), .ref (ad 35), .int (dp), .ref (ad 36), .ref (ad 37), .ref (ad 38), .ref (ad 39), .ref (ad 40), .int (cl), .ref (ad 41), .ref (ad 42), .ref (ad 43), .ref (ad 44), .ref (ad 45), .ref (ad 46), .ref (ad 47)]) := by rw [hen_25]; exact (va_up_ne _ _ (by omega)).trans he_19
      have he_28 : en_25 (26) = aI G (8001) (upd (aTa ns) (ns.length + 1) (nI tg)) := by rw [hen_25]; exact (va_up_ne _ _ (by omega)).trans he_20
      have he_29 : en_25 (27) = aI G (8001) (upd (aGo ns) (ns.length + 1) (nI gl)) := by rw [hen_25]; exact (va_up_ne _ _ (by omega)).trans he_18
      have he_30 : en_25 (29) = aI G (8001) (aSe ns) := by rw [hen_25]; exact (va_up_ne _ _ (by omega)).trans he_22
      have he_31 : en_25 (30) = aI G (8001) (aTh ns) := by rw [hen_25]; exact (va_up_ne _ _ (by omega)).trans he_23
      refine lv_aload_n hx hb dX8_keep_134 rfl (lv_at hl 0 rfl) ?_
      refine r_get (ci := 8) (v := .ref (ad 29)) (C := RX8) (T := TX8) (N := 31) hx hb hts inlX8 hown hK hs (22) (by omega) he_27 rfl 7 (by decide) (hts _ w_fl_RX8_28) rfl dX8_keep_135 ?_
      refine lv_iload hx hb dX8_keep_138 (lv_at hl 6 rfl) ?_
      refine lv_iload hx hb dX8_keep_140 (lv_at hl 4 rfl) ?_
      refine r_iastN (t := ns.length + 1) hx hb hK hs (29) (by omega) he_30 (rfl) (by omega) (by omega) dX8_keep_142 (fun H locs en_33 hen_33 hs => ?_)
      have he_34 : en_33 (29) = aI G (8001) (upd (aSe ns) (ns.length + 1) (nI b)) := by rw [hen_33]; exact va_up_self _ _ _
      have he_35 : en_33 (22) = .inr (8, [.ref (ad 23), .ref (ad 24), .ref (ad 25), .int (nI ss.length), .ref (ad 26), .ref (ad 27), .ref (ad 28), .ref (ad 29), .ref (ad 30), .int (nI (ns.length + 1)), .int (us), .int (ov), .ref (ad 31), .ref (ad 32), .ref (ad 33), .ref (ad 34), .ref (ad 35), .int (dp), .ref (ad 36), .ref (ad 37), .ref (ad 38), .ref (ad 39), .ref (ad 40), .int (cl), .ref (ad 41), .ref (ad 42), .ref (ad 43), .ref (ad 44), .ref (ad 45), .ref (ad 46), .ref (ad 47)]) := by rw [hen_33]; exact (va_up_ne _ _ (by omega)).trans he_27
      have he_36 : en_33 (26) = aI G (8001) (upd (aTa ns) (ns.length + 1) (nI tg)) := by rw [hen_33]; exact (va_up_ne _ _ (by omega)).trans he_28
      have he_37 : en_33 (27) = aI G (8001) (upd (aGo ns) (ns.length + 1) (nI gl)) := by rw [hen_33]; exact (va_up_ne _ _ (by omega)).trans he_29
      have he_38 : en_33 (28) = aI G (8001) (upd (aFi ns) (ns.length + 1) (nI a)) := by rw [hen_33]; exact (va_up_ne _ _ (by omega)).trans he_26
      have he_39 : en_33 (30) = aI G (8001) (aTh ns) := by rw [hen_33]; exact (va_up_ne _ _ (by omega)).trans he_31
      refine lv_aload_n hx hb dX8_keep_143 rfl (lv_at hl 0 rfl) ?_
      refine r_get (ci := 8) (v := .ref (ad 30)) (C := RX8) (T := TX8) (N := 31) hx hb hts inlX8 hown hK hs (22) (by omega) he_35 rfl 8 (by decide) (hts _ w_fl_RX8_31) rfl dX8_keep_144 ?_
      refine lv_iload hx hb dX8_keep_147 (lv_at hl 6 rfl) ?_
      refine lv_iload hx hb dX8_keep_149 (lv_at hl 5 rfl) ?_
      refine r_iastN (t := ns.length + 1) hx hb hK hs (30) (by omega) he_39 (rfl) (by omega) (by omega) dX8_keep_151 (fun H locs en_41 hen_41 hs => ?_)
      have he_42 : en_41 (30) = aI G (8001) (upd (aTh ns) (ns.length + 1) (nI c1)) := by rw [hen_41]; exact va_up_self _ _ _
      have he_43 : en_41 (22) = .inr (8, [.ref (ad 23), .ref (ad 24), .ref (ad 25), .int (nI ss.length), .ref (ad 26), .ref (ad 27), .ref (ad 28), .ref (ad 29), .ref (ad 30), .int (nI (ns.length + 1)), .int (us), .int (ov), .ref (ad 31), .ref (ad 32), .ref (ad 33), .ref (ad 34), .ref (ad 35), .int (dp), .ref (ad 36), .ref (ad 37), .ref (ad 38), .ref (ad 39), .ref (ad 40), .int (cl), .ref (ad 41), .ref (ad 42), .ref (ad 43), .ref (ad 44), .ref (ad 45), .ref (ad 46), .ref (ad 47)]) := by rw [hen_41]; exact (va_up_ne _ _ (by omega)).trans he_35
      have he_44 : en_41 (26) = aI G (8001) (upd (aTa ns) (ns.length + 1) (nI tg)) := by rw [hen_41]; exact (va_up_ne _ _ (by omega)).trans he_36
      have he_45 : en_41 (27) = aI G (8001) (upd (aGo ns) (ns.length + 1) (nI gl)) := by rw [hen_41]; exact (va_up_ne _ _ (by omega)).trans he_37
      have he_46 : en_41 (28) = aI G (8001) (upd (aFi ns) (ns.length + 1) (nI a)) := by rw [hen_41]; exact (va_up_ne _ _ (by omega)).trans he_38
      have he_47 : en_41 (29) = aI G (8001) (upd (aSe ns) (ns.length + 1) (nI b)) := by rw [hen_41]; exact (va_up_ne _ _ (by omega)).trans he_34
      refine lv_iload hx hb dX8_keep_152 (lv_at hl 6 rfl) ?_
      refine r_iret (v := nI (ns.length + 1)) (mc := 0) (ms := 0) hx hb hr hlk hs (Nat.le_refl _) (Nat.le_refl _) dX8_keep_154 hQ ?_
      have hS : nMake ns (tg, gl, a, b, c1) = ns ++ [(tg, gl, a, b, c1)] := by rw [nMake, if_pos hf0, kApp, if_pos hlt]
      have hR : nMakeR ns (tg, gl, a, b, c1) = nI (ns.length + 1) := by rw [nMakeR, if_pos hf0, kAppR, if_pos hlt]
      rw [hS, hR]
      exact ⟨⟨rfl, fun k hk => by rw [hen_41, va_up_ne _ _ (by omega), hen_33, va_up_ne _ _ (by omega), hen_25, va_up_ne _ _ (by omega), hen_17, va_up_ne _ _ (by omega), hen_9, va_up_ne _ _ (by omega), hen_1, va_up_ne _ _ (by omega)]⟩, rfl, md_nk hM hlt hrow hf0 ((he_43).trans (by unfold mObj; rw [List.length_append]; rfl)) he_44 he_45 he_46 he_47 he_42 (fun k hk => by rw [hen_41, va_up_ne _ _ (by omega), hen_33, va_up_ne _ _ (by omega), hen_25, va_up_ne _ _ (by omega), hen_17, va_up_ne _ _ (by omega), hen_9, va_up_ne _ _ (by omega), hen_1, va_up_ne _ _ (by omega)])⟩
    · skip
      have hlt : ¬ ns.length < 8000 := by have : ns.length = 8000 := sw_nI c94 rfl (by omega) (by decide); omega
      refine lv_bipush (v := (-3)) hx hb dX8_keep_97 (by decide) ?_
      refine r_iret (v := (-3)) (mc := 0) (ms := 0) hx hb hr hlk hs (Nat.le_refl _) (Nat.le_refl _) dX8_keep_99 hQ ?_
      exact ⟨⟨rfl, fun _ _ => rfl⟩, by rw [nMakeR, if_pos hf0, kAppR, if_neg hlt], by rw [nMake, if_pos hf0, kApp, if_neg hlt]; exact hM⟩
  · skip
    have hfl : f ≤ ns.length := Nat.le_of_not_lt (fun q => c9 ((nI_ltI (by omega) (by omega)).mpr q))
    refine lv_aload_n hx hb dX8_keep_12 rfl (lv_at hl 0 rfl) ?_
    refine r_get (ci := 8) (v := .ref (ad 26)) (C := RX8) (T := TX8) (N := 31) hx hb hts inlX8 hown hK hs (22) (by omega) h22 rfl 4 (by decide) (hts _ w_fl_RX8_19) rfl dX8_keep_13 ?_
    refine lv_iload hx hb dX8_keep_16 (lv_at hl 6 rfl) ?_
    refine r_ialdN (t := f) hx hb hK hs (26) (by omega) h26 (rfl) (by omega) (by omega) dX8_keep_18 ?_
    refine r_topi (y := nI (nT ns (f))) rfl ?_
    refine lv_iload_n hx hb dX8_keep_19 rfl (lv_at hl 1 rfl) ?_
    refine lv_icmp_ne (tgt := 69) hx hb dX8_keep_20 (by decide) (fun c20 => ?_) (fun c20 => ?_)
    · skip
      refine lv_iinc (v := nI (f + 1)) (lv' := [(6, .int (nI (f + 1))), (0, .ref (ad 22)), (1, .int (nI tg)), (2, .int (nI gl)), (3, .int (nI a)), (4, .int (nI b)), (5, .int (nI c1))]) hx hb dX8_keep_69 hl (k := 6) rfl (nI_add f 1) (by decide) rfl (fun ls hl => ?_)
      refine lv_goto (tgt := 3) hx hb dX8_keep_72 (by decide) ?_
      exact ih3 (f + 1) _ _ _ (by omega) (fm_next hno (fun q => c20 (by rw [show nT ns f = tg from by unfold nT; rw [q]]))) (by omega) hs (lv_sub hl [1, 2, 3, 4, 5, 6, 0] rfl)
    · skip
      refine lv_aload_n hx hb dX8_keep_23 rfl (lv_at hl 0 rfl) ?_
      refine r_get (ci := 8) (v := .ref (ad 27)) (C := RX8) (T := TX8) (N := 31) hx hb hts inlX8 hown hK hs (22) (by omega) h22 rfl 5 (by decide) (hts _ w_fl_RX8_22) rfl dX8_keep_24 ?_
      refine lv_iload hx hb dX8_keep_27 (lv_at hl 6 rfl) ?_
      refine r_ialdN (t := f) hx hb hK hs (27) (by omega) h27 (rfl) (by omega) (by omega) dX8_keep_29 ?_
      refine r_topi (y := nI (nG ns (f))) rfl ?_
      refine lv_iload_n hx hb dX8_keep_30 rfl (lv_at hl 2 rfl) ?_
      refine lv_icmp_ne (tgt := 69) hx hb dX8_keep_31 (by decide) (fun c31 => ?_) (fun c31 => ?_)
      · skip
        refine lv_iinc (v := nI (f + 1)) (lv' := [(6, .int (nI (f + 1))), (0, .ref (ad 22)), (1, .int (nI tg)), (2, .int (nI gl)), (3, .int (nI a)), (4, .int (nI b)), (5, .int (nI c1))]) hx hb dX8_keep_69 hl (k := 6) rfl (nI_add f 1) (by decide) rfl (fun ls hl => ?_)
        refine lv_goto (tgt := 3) hx hb dX8_keep_72 (by decide) ?_
        exact ih3 (f + 1) _ _ _ (by omega) (fm_next hno (fun q => c31 (by rw [show nG ns f = gl from by unfold nG; rw [q]]))) (by omega) hs (lv_sub hl [1, 2, 3, 4, 5, 6, 0] rfl)
      · skip
        refine lv_aload_n hx hb dX8_keep_34 rfl (lv_at hl 0 rfl) ?_
        refine r_get (ci := 8) (v := .ref (ad 28)) (C := RX8) (T := TX8) (N := 31) hx hb hts inlX8 hown hK hs (22) (by omega) h22 rfl 6 (by decide) (hts _ w_fl_RX8_25) rfl dX8_keep_35 ?_
        refine lv_iload hx hb dX8_keep_38 (lv_at hl 6 rfl) ?_
        refine r_ialdN (t := f) hx hb hK hs (28) (by omega) h28 (rfl) (by omega) (by omega) dX8_keep_40 ?_
        refine r_topi (y := nI (nA ns (f))) rfl ?_
        refine lv_iload_n hx hb dX8_keep_41 rfl (lv_at hl 3 rfl) ?_
        refine lv_icmp_ne (tgt := 69) hx hb dX8_keep_42 (by decide) (fun c42 => ?_) (fun c42 => ?_)
        · skip
          refine lv_iinc (v := nI (f + 1)) (lv' := [(6, .int (nI (f + 1))), (0, .ref (ad 22)), (1, .int (nI tg)), (2, .int (nI gl)), (3, .int (nI a)), (4, .int (nI b)), (5, .int (nI c1))]) hx hb dX8_keep_69 hl (k := 6) rfl (nI_add f 1) (by decide) rfl (fun ls hl => ?_)
          refine lv_goto (tgt := 3) hx hb dX8_keep_72 (by decide) ?_
          exact ih3 (f + 1) _ _ _ (by omega) (fm_next hno (fun q => c42 (by rw [show nA ns f = a from by unfold nA; rw [q]]))) (by omega) hs (lv_sub hl [1, 2, 3, 4, 5, 6, 0] rfl)
        · skip
          refine lv_aload_n hx hb dX8_keep_45 rfl (lv_at hl 0 rfl) ?_
          refine r_get (ci := 8) (v := .ref (ad 29)) (C := RX8) (T := TX8) (N := 31) hx hb hts inlX8 hown hK hs (22) (by omega) h22 rfl 7 (by decide) (hts _ w_fl_RX8_28) rfl dX8_keep_46 ?_
          refine lv_iload hx hb dX8_keep_49 (lv_at hl 6 rfl) ?_
          refine r_ialdN (t := f) hx hb hK hs (29) (by omega) h29 (rfl) (by omega) (by omega) dX8_keep_51 ?_
          refine r_topi (y := nI (nB ns (f))) rfl ?_
          refine lv_iload hx hb dX8_keep_52 (lv_at hl 4 rfl) ?_
          refine lv_icmp_ne (tgt := 69) hx hb dX8_keep_54 (by decide) (fun c54 => ?_) (fun c54 => ?_)
          · skip
            refine lv_iinc (v := nI (f + 1)) (lv' := [(6, .int (nI (f + 1))), (0, .ref (ad 22)), (1, .int (nI tg)), (2, .int (nI gl)), (3, .int (nI a)), (4, .int (nI b)), (5, .int (nI c1))]) hx hb dX8_keep_69 hl (k := 6) rfl (nI_add f 1) (by decide) rfl (fun ls hl => ?_)
            refine lv_goto (tgt := 3) hx hb dX8_keep_72 (by decide) ?_
            exact ih3 (f + 1) _ _ _ (by omega) (fm_next hno (fun q => c54 (by rw [show nB ns f = b from by unfold nB; rw [q]]))) (by omega) hs (lv_sub hl [1, 2, 3, 4, 5, 6, 0] rfl)
          · skip
            refine lv_aload_n hx hb dX8_keep_57 rfl (lv_at hl 0 rfl) ?_
            refine r_get (ci := 8) (v := .ref (ad 30)) (C := RX8) (T := TX8) (N := 31) hx hb hts inlX8 hown hK hs (22) (by omega) h22 rfl 8 (by decide) (hts _ w_fl_RX8_31) rfl dX8_keep_58 ?_
            refine lv_iload hx hb dX8_keep_61 (lv_at hl 6 rfl) ?_
            refine r_ialdN (t := f) hx hb hK hs (30) (by omega) h30 (rfl) (by omega) (by omega) dX8_keep_63 ?_
            refine r_topi (y := nI (nC ns (f))) rfl ?_
            refine lv_iload hx hb dX8_keep_64 (lv_at hl 5 rfl) ?_
            refine lv_icmp_eq (tgt := 75) hx hb dX8_keep_66 (by decide) (fun c66 => ?_) (fun c66 => ?_)
            · skip
              have hsm := nd_small hnk h6 f
              have hrow0 : kAt ns f = (tg, gl, a, b, c1) := nrow_of ((nI_eq hsm.1 hs1.1).mp c20) ((nI_eq hsm.2.1 hs1.2.1).mp c31) ((nI_eq hsm.2.2.1 hs1.2.2.1).mp c42) ((nI_eq hsm.2.2.2.1 hs1.2.2.2.1).mp c54) ((nI_eq hsm.2.2.2.2 hs1.2.2.2.2).mp c66)
              have hkf : kFind ns (tg, gl, a, b, c1) = f := nfM_hit hnk.2.2 ⟨hf.1, hfl⟩ hrow0
              refine lv_iload hx hb dX8_keep_75 (lv_at hl 6 rfl) ?_
              refine lv_aload_n hx hb dX8_keep_77 rfl (lv_at hl 0 rfl) ?_
              refine r_get (ci := 8) (v := .int (nI ns.length)) (C := RX8) (T := TX8) (N := 31) hx hb hts inlX8 hown hK hs (22) (by omega) h22 rfl 9 (by decide) (hts _ w_fl_RX8_103) rfl dX8_keep_78 ?_
              refine lv_icmp_gt (tgt := 87) hx hb dX8_keep_81 (by decide) (fun c81 => absurd c81 (fun q => by have := (nI_ltI (by omega) (by omega)).mp q; omega)) (fun _ => ?_)
              refine lv_iload hx hb dX8_keep_84 (lv_at hl 6 rfl) ?_
              refine r_iret (v := nI f) (mc := 0) (ms := 0) hx hb hr hlk hs (Nat.le_refl _) (Nat.le_refl _) dX8_keep_86 hQ ?_
              exact ⟨⟨rfl, fun _ _ => rfl⟩, by rw [nMakeR, if_neg (by omega), hkf], by rw [nMake, if_neg (by omega)]; exact hM⟩
            · skip
              refine lv_iinc (v := nI (f + 1)) (lv' := [(6, .int (nI (f + 1))), (0, .ref (ad 22)), (1, .int (nI tg)), (2, .int (nI gl)), (3, .int (nI a)), (4, .int (nI b)), (5, .int (nI c1))]) hx hb dX8_keep_69 hl (k := 6) rfl (nI_add f 1) (by decide) rfl (fun ls hl => ?_)
              refine lv_goto (tgt := 3) hx hb dX8_keep_72 (by decide) ?_
              exact ih3 (f + 1) _ _ _ (by omega) (fm_next hno (fun q => c66 (by rw [show nC ns f = c1 from by unfold nC; rw [q]]))) (by omega) hs (lv_sub hl [1, 2, 3, 4, 5, 6, 0] rfl)

set_option maxHeartbeats 600000 in
set_option maxRecDepth 100000 in
theorem c_X8_put_f (l : Launch) (G : rG) {n : Nat} {ad : Nat → Nat} {en : Nat → va_E} {s0 : NSt} {c : Nat → Nat → Int32} {us : Int32} {dp : Int32} {cl : Int32}  (hM : MdW G n ad en s0.1 s0.2 c us 0 dp cl) {tg gl a b c1 : Nat} (hs1 : tg < 2 ^ 31 ∧ gl < 2 ^ 31 ∧ a < 2 ^ 31 ∧ b < 2 ^ 31 ∧ c1 < 2 ^ 31) (hrow : ndOK s0.1.length (s0.2.length + 1) (tg, gl, a, b, c1)) : CI l G yX8_put uX8_put (1) (26) (0) (0) [.ref (ad 22), .int (nI tg), .int (nI gl), .int (nI a), .int (nI b), .int (nI c1)] (n) (n) ad en (mAct G n ad en c us dp cl (aNode (tg, gl, a, b, c1)) s0) := by
  intro sz
  refine rMet (Qc := qI G (n) (mAct G n ad en c us dp cl (aNode (tg, gl, a, b, c1)) s0)) (cc := cX8_put) (maxL := 7) (ret := (some .int)) (by decide) rfl (Nat.le_of_ble_eq_true rfl) ?_
  intro pP eE sS mM aA bB tT cC ls A Q hc hK hsz hA hs hl hQ
  obtain ⟨hx, hb, hr, hts, hown, hlk, hnm, hml⟩ := hc
  have hl : lv_has ls 7 [(0, .ref (ad 22)), (1, .int (nI tg)), (2, .int (nI gl)), (3, .int (nI a)), (4, .int (nI b)), (5, .int (nI c1))] := hl
  have fr0 : ∀ k, k < 22 → en k = en k := fun _ _ => rfl
  obtain ⟨hn48, -, -, -, hok, hnk⟩ := id hM
  have h6 := hok.1
  have h8 := hnk.1
  obtain ⟨o1, s1, hq1⟩ : ∃ o z, aNode (tg, gl, a, b, c1) s0 = (o, z) := ⟨_, _, rfl⟩
  have hlt1 : ∀ k, o1 = some k → k < 2 ^ 31 := by have q := aNode_lt (r := (tg, gl, a, b, c1)) h8; rw [hq1] at q; exact q
  refine lv_aload_n hx hb dX8_put_0 rfl (lv_at hl 0 rfl) ?_
  refine r_get (ci := 8) (v := .int (0)) (C := RX8) (T := TX8) (N := 31) hx hb hts inlX8 hown hK hs (22) (by omega) (md22 hM) rfl 11 (by decide) (hts _ w_fl_RX8_106) rfl dX8_put_1 ?_
  refine lv_if_eq (tgt := 9) hx hb dX8_put_4 (by decide) (fun _ => ?_) (fun c4 => absurd (rfl) c4)
  refine lv_aload_n hx hb dX8_put_9 rfl (lv_at hl 0 rfl) ?_
  refine lv_iload_n hx hb dX8_put_10 rfl (lv_at hl 1 rfl) ?_
  refine lv_iload_n hx hb dX8_put_11 rfl (lv_at hl 2 rfl) ?_
  refine lv_iload_n hx hb dX8_put_12 rfl (lv_at hl 3 rfl) ?_
  refine lv_iload hx hb dX8_put_13 (lv_at hl 4 rfl) ?_
  refine lv_iload hx hb dX8_put_15 (lv_at hl 5 rfl) ?_
  refine r_callVi (ci := 8) (As := [.int (nI tg), .int (nI gl), .int (nI a), .int (nI b), .int (nI c1)]) hx hb hml hown hts hK hA hs (22) (by omega) (md22 hM) rfl rfl (c_X8_keep l G hM (tg := tg) (gl := gl) (a := a) (b := b) (c1 := c1) hs1 hrow) (cwV 5 hts (tbV w_ml_RX8_167 w_im_yX8_keep w_se_yX8_keep w_ini_RX8 w_cd_yX8_keep) rfl rfl rfl (by decide +kernel) ⟨Nat.le_of_ble_eq_true rfl, Nat.le_of_ble_eq_true rfl⟩) rfl hl.1 rfl (Nat.le_of_ble_eq_true rfl) dX8_put_17 ⟨Nat.le_refl _, Nat.le_refl _⟩ (fun r_4 ad_1 en_2 H locs hp_3 hs => ?_)
  obtain ⟨⟨hAm_5, hFm_5⟩, hrm_5, hMm_5⟩ := hp_3
  subst hAm_5
  rw [hrm_5, ← nmk_o, hq1]
  have hMm_52 : MdW G n ad en_2 s1.1 s1.2 c us 0 dp cl := by have z := aNode_st (tg, gl, a, b, c1) s0; rw [hq1] at z; have z : s1 = _ := z; rw [z]; exact hMm_5
  have fr_6 : ∀ k, k < 22 → en_2 k = en k := fun k hk => Eq.trans (hFm_5 k hk) (fr0 k hk)
  refine lv_istore (lv' := [(6, .int (aR o1)), (0, .ref (ad 22)), (1, .int (nI tg)), (2, .int (nI gl)), (3, .int (nI a)), (4, .int (nI b)), (5, .int (nI c1))]) hx hb dX8_put_20 hl (by decide) rfl (fun ls hl => ?_)
  refine lv_iload hx hb dX8_put_22 (lv_at hl 0 rfl) ?_
  refine lv_bipush (v := (-3)) hx hb dX8_put_24 (by decide) ?_
  refine lv_icmp_ne (tgt := 35) hx hb dX8_put_26 (by decide) (fun c26 => ?_) (fun c26 => ?_)
  · skip
    obtain ⟨i1, hi1, ha1⟩ := aR_so c26
    refine lv_iload hx hb dX8_put_35 (lv_at hl 0 rfl) ?_
    refine lv_bipush (v := (-3)) hx hb dX8_put_37 (by decide) ?_
    refine lv_icmp_ne (tgt := 46) hx hb dX8_put_39 (by decide) (fun _ => ?_) (fun c39 => absurd c39 (c26))
    refine lv_iload hx hb dX8_put_46 (lv_at hl 0 rfl) ?_
    refine r_iret (v := aR o1) (mc := 0) (ms := 0) hx hb hr hlk hs (Nat.le_refl _) (Nat.le_refl _) dX8_put_48 hQ ?_
    unfold mAct
    rw [hq1]
    exact ⟨⟨rfl, fr_6⟩, by rw [hi1]; rfl, by rw [hi1]; exact hMm_52⟩
  · skip
    have hnn := aR_no hlt1 c26
    refine lv_aload_n hx hb dX8_put_29 rfl (lv_at hl 1 rfl) ?_
    refine lv_bipush (v := (-3)) hx hb dX8_put_30 (by decide) ?_
    refine r_put (ci := 8) (v := .int ((-3))) (ty := .int) (C := RX8) (T := TX8) (N := 31) (fs' := [.ref (ad 23), .ref (ad 24), .ref (ad 25), .int (nI s1.1.length), .ref (ad 26), .ref (ad 27), .ref (ad 28), .ref (ad 29), .ref (ad 30), .int (nI s1.2.length), .int (us), .int ((-3)), .ref (ad 31), .ref (ad 32), .ref (ad 33), .ref (ad 34), .ref (ad 35), .int (dp), .ref (ad 36), .ref (ad 37), .ref (ad 38), .ref (ad 39), .ref (ad 40), .int (cl), .ref (ad 41), .ref (ad 42), .ref (ad 43), .ref (ad 44), .ref (ad 45), .ref (ad 46), .ref (ad 47)]) hx hb hts inlX8 tyX8 tyX8_ok nmX8 hown hK hs (22) (by omega) (md22 hMm_52) rfl 11 (by decide) (hts _ w_fl_RX8_106) (Or.inl rfl) (by decide +kernel) rfl rfl (Nat.le_of_ble_eq_true rfl) rfl dX8_put_32 (fun H locs en_7 hen_7 hs => ?_)
    have hM_8 : MdW G n ad en_7 s1.1 s1.2 c us ((-3)) dp cl := md_pu hMm_52 hen_7
    have fr_9 : ∀ k, k < 22 → en_7 k = en k := fun k hk => Eq.trans (by rw [hen_7]; exact va_up_ne _ _ (by omega)) (fr_6 k hk)
    refine lv_iload hx hb dX8_put_35 (lv_at hl 0 rfl) ?_
    refine lv_bipush (v := (-3)) hx hb dX8_put_37 (by decide) ?_
    refine lv_icmp_ne (tgt := 46) hx hb dX8_put_39 (by decide) (fun c39 => absurd (c26) c39) (fun _ => ?_)
    refine lv_iconst (v := 0) hx hb dX8_put_42 (by decide) ?_
    refine lv_goto (tgt := 48) hx hb dX8_put_43 (by decide) ?_
    refine r_iret (v := 0) (mc := 0) (ms := 0) hx hb hr hlk hs (Nat.le_refl _) (Nat.le_refl _) dX8_put_48 hQ ?_
    unfold mAct
    rw [hq1]
    exact ⟨⟨rfl, fr_9⟩, by rw [hnn]; rfl, by rw [hnn]; exact hM_8⟩

set_option maxHeartbeats 600000 in
set_option maxRecDepth 100000 in
theorem c_X8_put_t (l : Launch) (G : rG) {n : Nat} {ad : Nat → Nat} {en : Nat → va_E} {s0 : NSt} {c : Nat → Nat → Int32} {us : Int32} {dp : Int32} {cl : Int32}  (hM : MdW G n ad en s0.1 s0.2 c us ((-3)) dp cl) (x1 x2 x3 x4 x5 : Int32) : CI l G yX8_put uX8_put (1) (26) (0) (0) [.ref (ad 22), .int (x1), .int (x2), .int (x3), .int (x4), .int (x5)] (n) (n) ad en (mAct G n ad en c us dp cl aStop s0) := by
  intro sz
  refine rMet (Qc := qI G (n) (mAct G n ad en c us dp cl aStop s0)) (cc := cX8_put) (maxL := 7) (ret := (some .int)) (by decide) rfl (Nat.le_of_ble_eq_true rfl) ?_
  intro pP eE sS mM aA bB tT cC ls A Q hc hK hsz hA hs hl hQ
  obtain ⟨hx, hb, hr, hts, hown, hlk, hnm, hml⟩ := hc
  have hl : lv_has ls 7 [(0, .ref (ad 22)), (1, .int (x1)), (2, .int (x2)), (3, .int (x3)), (4, .int (x4)), (5, .int (x5))] := hl
  have fr0 : ∀ k, k < 22 → en k = en k := fun _ _ => rfl
  obtain ⟨hn48, -, -, -, hok, hnk⟩ := id hM
  have h6 := hok.1
  have h8 := hnk.1
  
  refine lv_aload_n hx hb dX8_put_0 rfl (lv_at hl 0 rfl) ?_
  refine r_get (ci := 8) (v := .int ((-3))) (C := RX8) (T := TX8) (N := 31) hx hb hts inlX8 hown hK hs (22) (by omega) (md22 hM) rfl 11 (by decide) (hts _ w_fl_RX8_106) rfl dX8_put_1 ?_
  refine lv_if_eq (tgt := 9) hx hb dX8_put_4 (by decide) (fun c4 => absurd c4 (by decide)) (fun _ => ?_)
  refine lv_iconst (v := 0) hx hb dX8_put_7 (by decide) ?_
  refine r_iret (v := 0) (mc := 0) (ms := 0) hx hb hr hlk hs (Nat.le_refl _) (Nat.le_refl _) dX8_put_8 hQ ?_
  exact ⟨⟨rfl, fun _ _ => rfl⟩, rfl, hM⟩

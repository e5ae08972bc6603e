def fM (ss : List Row) (r : Row) : Nat := if kFind ss r = 0 then ss.length + 1 else kFind ss r
theorem row_of {ss : List Row} (h : ssOK ss) {f so a b : Nat} (hf : 1 ≤ f ∧ f ≤ ss.length) (h1 : sSort ss f = so) (h2 : sL ss f = a) (h3 : sR ss f = b) : kAt ss f = (so, a, b, 0, 0) := by
  have q := (h.2.1 f hf.1 hf.2).1
  subst h1 h2 h3
  unfold sSort sL sR
  revert q
  generalize kAt ss f = z
  obtain ⟨x, y, z, u, w⟩ := z
  intro q
  have : (u, w) = (0, 0) := q
  cases this
  rfl
theorem fM_hit {ss : List Row} (h : ssOK ss) {f : Nat} {r : Row} (hf : 1 ≤ f ∧ f ≤ ss.length) (hr : kAt ss f = r) : fM ss r = f := by
  have e := kFind_of h ⟨hf.1, hf.2, hr⟩
  unfold fM
  rw [e, if_neg (by omega)]
theorem kFU_none {ks : List Row} {r : Row} : ∀ (m : Nat), (∀ y, 1 ≤ y → y ≤ m → kAt ks y ≠ r) → kFU ks r m = 0
  | 0, _ => rfl
  | m + 1, h => by rw [kFU, if_neg (h (m + 1) (by omega) (Nat.le_refl _))]; exact kFU_none m (fun y a b => h y a (by omega))
theorem fM_none {ss : List Row} {r : Row} (h : ∀ y, 1 ≤ y → y < ss.length + 1 → kAt ss y ≠ r) : fM ss r = ss.length + 1 := if_pos (kFU_none _ (fun y a b => h y a (by omega)))
theorem fm_next {ss : List Row} {r : Row} {f : Nat} (hno : ∀ y, 1 ≤ y → y < f → kAt ss y ≠ r) (h : kAt ss f ≠ r) : ∀ y, 1 ≤ y → y < f + 1 → kAt ss y ≠ r := by
  intro y a b
  by_cases e : y = f
  · rw [e]; exact h
  · exact hno y a (by omega)
theorem fM_le {ss : List Row} (r : Row) : 1 ≤ fM ss r ∧ fM ss r ≤ ss.length + 1 := by
  unfold fM
  have := kFU_le ss r ss.length
  by_cases c : kFind ss r = 0
  · rw [if_pos c]; omega
  · rw [if_neg c]; have : kFind ss r ≤ ss.length := this; omega
theorem col_app (ss : List Row) (r : Row) : aSo (ss ++ [r]) = upd (aSo ss) (ss.length + 1) (nI r.1) ∧ aLe (ss ++ [r]) = upd (aLe ss) (ss.length + 1) (nI r.2.1) ∧ aRi (ss ++ [r]) = upd (aRi ss) (ss.length + 1) (nI r.2.2.1) := by
  have key : ∀ k, kAt (ss ++ [r]) k = if k = ss.length + 1 then r else kAt ss k := by
    intro k
    by_cases c : k = ss.length + 1
    · rw [if_pos c, c]; unfold kAt; rw [if_neg (by omega)]; simp
    · rw [if_neg c]
      by_cases d : k ≤ ss.length
      · exact kAt_app d
      · rw [kAt_out (by simp; omega), kAt_out (by omega)]
  refine ⟨?_, ?_, ?_⟩
  · funext k; unfold aSo sSort upd; rw [key]; split <;> rfl
  · funext k; unfold aLe sL upd; rw [key]; split <;> rfl
  · funext k; unfold aRi sR upd; rw [key]; split <;> rfl
theorem md_mk {G : rG} {n : Nat} {ad : Nat → Nat} {en : Nat → va_E} {ss ns : List Row} {c : Nat → Nat → Int32} {us ov dp cl : Int32} {en1 : Nat → va_E} {so a b : Nat} (h : MdW G n ad en ss ns c us ov dp cl) (hlt : ss.length < 600) (hrow : stOK (ss.length + 1) (so, a, b, 0, 0)) (hf : kFind ss (so, a, b, 0, 0) = 0) (e22 : en1 22 = mObj ad (ss ++ [(so, a, b, 0, 0)]) ns us ov dp cl) (e23 : en1 23 = aI G 601 (upd (aSo ss) (ss.length + 1) (nI so))) (e24 : en1 24 = aI G 601 (upd (aLe ss) (ss.length + 1) (nI a))) (e25 : en1 25 = aI G 601 (upd (aRi ss) (ss.length + 1) (nI b))) (ek : ∀ k, 26 ≤ k → en1 k = en k) : MdW G n ad en1 (ss ++ [(so, a, b, 0, 0)]) ns c us ov dp cl := by
  obtain ⟨h1, h2, h3, h4, h5, h6⟩ := h
  obtain ⟨c1, c2, c3⟩ := col_app ss (so, a, b, 0, 0)
  refine ⟨h1, e22, fun r q1 q2 => ?_, fun r q1 q2 => (ek r (by omega)).trans (h4 r q1 q2), ssOK_app h5 hlt hrow hf, nsOK_ss h6⟩
  have : r = 23 ∨ r = 24 ∨ r = 25 ∨ 26 ≤ r := by omega
  rcases this with rfl | rfl | rfl | q
  · rw [e23, ← c1]; rfl
  · rw [e24, ← c2]; rfl
  · rw [e25, ← c3]; rfl
  · rw [ek r q, h3 r q1 q2]
    simp only [mCol, show ¬ r = 23 by omega, show ¬ r = 24 by omega, show ¬ r = 25 by omega, if_false]
theorem lt1_le {x : Int32} (h : x < 1) : x ≤ 0 := by
  rw [i_lt] at h
  rw [i_le]
  have e1 : (1 : Int32).toInt = 1 := rfl
  have e0 : (0 : Int32).toInt = 0 := rfl
  omega
theorem le0_lt {x : Int32} (h : x ≤ 0) : x < 1 := by
  rw [i_le] at h
  rw [i_lt]
  have e1 : (1 : Int32).toInt = 1 := rfl
  have e0 : (0 : Int32).toInt = 0 := rfl
  omega
def mPost (G : rG) (n : Nat) (ad : Nat → Nat) (en : Nat → va_E) (V : Int32) (ss1 ns1 : List Row) (c : Nat → Nat → Int32) (us ov dp cl : Int32) : Int32 → (Nat → Nat) → (Nat → va_E) → Prop := fun r ad1 en1 => mFr ad en ad1 en1 ∧ r = V ∧ MdW G n ad en1 ss1 ns1 c us ov dp cl
theorem i_23 {x : Int32} (h1 : ¬ x < 2) (h2 : ¬ 4 < x) : x = 2 ∨ x = 3 ∨ x = 4 := by
  rw [i_lt] at h1 h2
  have e2 : (2 : Int32).toInt = 2 := rfl
  have e3 : (3 : Int32).toInt = 3 := rfl
  have e4 : (4 : Int32).toInt = 4 := rfl
  rw [i_eq, i_eq, i_eq, e2, e3, e4]
  omega
theorem i_gt31 {x : Int32} (h : ¬ x ≤ 31) : 32 ≤ x := by
  rw [i_le] at h
  rw [i_le]
  have e1 : (31 : Int32).toInt = 31 := rfl
  have e0 : (32 : Int32).toInt = 32 := rfl
  omega
theorem told_no {y : Int32} (h0 : ¬ y = 0) (h1 : ¬ y = 1) (h2 : ¬ y = 2) (h : 0 ≤ y ∧ y ≤ 2) : False := by
  rw [i_le, i_le] at h
  rw [i_eq] at h0 h1 h2
  have e0 : (0 : Int32).toInt = 0 := rfl
  have e1 : (1 : Int32).toInt = 1 := rfl
  have e2 : (2 : Int32).toInt = 2 := rfl
  omega
set_option maxHeartbeats 600000 in
set_option maxRecDepth 100000 in
theorem c_X8_find (l : Launch) (G : rG) {n : Nat} {ad : Nat → Nat} {en : Nat → va_E} {ss ns : List Row} {c : Nat → Nat → Int32} {us : Int32} {ov : Int32} {dp : Int32} {cl : Int32}  (hM : MdW G n ad en ss ns c us ov dp cl) {so a b : Nat} (hs1 : so < 2 ^ 31 ∧ a < 2 ^ 31 ∧ b < 2 ^ 31) : CI l G yX8_find uX8_find (0) (0) (0) (0) [.ref (ad 22), .int (nI so), .int (nI a), .int (nI b)] (n) (n) ad en (roV ad en (nI (fM ss (so, a, b, 0, 0)))) := by
  intro sz
  refine rMet (Qc := qI G (n) (roV ad en (nI (fM ss (so, a, b, 0, 0))))) (cc := cX8_find) (maxL := 5) (ret := (some .int)) (by decide) rfl (Nat.le_of_ble_eq_true rfl) ?_
  intro pP eE sS mM aA bB tT cC ls A Q hc hK hsz hA hs hl hQ
  obtain ⟨hx, hb, hr, hts, hown, hlk, hnm, hml⟩ := hc
  have hl : lv_has ls 5 [(0, .ref (ad 22)), (1, .int (nI so)), (2, .int (nI a)), (3, .int (nI b))] := hl
  have fr0 : ∀ k, k < 22 → en k = en k := fun _ _ => rfl
  obtain ⟨hn48, -, -, -, hok, hnk⟩ := id hM
  have h6 := hok.1
  have h8 := hnk.1
  
  refine lv_iconst (v := 1) hx hb dX8_find_0 (by decide) ?_
  refine lv_istore (lv' := [(4, .int (1)), (0, .ref (ad 22)), (1, .int (nI so)), (2, .int (nI a)), (3, .int (nI b))]) hx hb dX8_find_1 hl (by decide) rfl (fun ls hl => ?_)
  suffices LOOP3 : ∀ (fu3 : Nat) (f : Nat) (H : Heap) (locs : List Loc) (ls : Array Slot), (1 ≤ f ∧ f ≤ ss.length + 1) → (∀ y, 1 ≤ y → y < f → kAt ss y ≠ (so, a, b, 0, 0)) → ss.length + 2 - f < fu3 → rS G A sS.heap (n) ad en H locs → lv_has ls 5 [(0, .ref (ad 22)), (1, .int (nI so)), (2, .int (nI a)), (3, .int (nI b)), (4, .int (nI f))] → W pP l eE (rRm (0) (0) (0) (0)) sS mM aA bB tT cC H locs (0) (0) Q (F0 mM 3 ls []) from LOOP3 _ (1) _ _ _ (by omega) (fun y p q => by omega) (Nat.lt_succ_self _) hs (lv_sub hl [1, 2, 3, 4, 0] rfl)
  intro fu3
  induction fu3 with
  | zero => intro f H locs ls hf hno hfu; exact absurd hfu (Nat.not_lt_zero _)
  | succ fu3 ih3 => ?_
  intro f H locs ls hf hno hfu3 hs hl
  refine lv_iload hx hb dX8_find_3 (lv_at hl 4 rfl) ?_
  refine lv_aload_n hx hb dX8_find_5 rfl (lv_at hl 0 rfl) ?_
  refine r_get (ci := 8) (v := .int (nI ss.length)) (C := RX8) (T := TX8) (N := 31) hx hb hts inlX8 hown hK hs (22) (by omega) (md22 hM) rfl 3 (by decide) (hts _ w_fl_RX8_88) rfl dX8_find_6 ?_
  refine lv_icmp_gt (tgt := 51) hx hb dX8_find_9 (by decide) (fun c9 => ?_) (fun c9 => ?_)
  · skip
    have hfl : f = ss.length + 1 := by have := (nI_ltI (by omega) (by omega)).mp c9; omega
    refine lv_iload hx hb dX8_find_51 (lv_at hl 4 rfl) ?_
    refine r_iret (v := nI f) (mc := 0) (ms := 0) hx hb hr hlk hs (Nat.le_refl _) (Nat.le_refl _) dX8_find_53 hQ ?_
    exact roV.rf (congrArg nI (by subst hfl; exact (fM_none hno).symm))
  · skip
    have hfl : f ≤ ss.length := Nat.le_of_not_lt (fun q => c9 ((nI_ltI (by omega) (by omega)).mpr q))
    refine lv_aload_n hx hb dX8_find_12 rfl (lv_at hl 0 rfl) ?_
    refine r_get (ci := 8) (v := .ref (ad 23)) (C := RX8) (T := TX8) (N := 31) hx hb hts inlX8 hown hK hs (22) (by omega) (md22 hM) rfl 0 (by decide) (hts _ w_fl_RX8_7) rfl dX8_find_13 ?_
    refine lv_iload hx hb dX8_find_16 (lv_at hl 4 rfl) ?_
    refine r_ialdN (t := f) hx hb hK hs (23) (by omega) (md23 hM) (rfl) (by omega) (by omega) dX8_find_18 ?_
    refine r_topi (y := nI (sSort ss (f))) rfl ?_
    refine lv_iload_n hx hb dX8_find_19 rfl (lv_at hl 1 rfl) ?_
    refine lv_icmp_ne (tgt := 45) hx hb dX8_find_20 (by decide) (fun c20 => ?_) (fun c20 => ?_)
    · skip
      refine lv_iinc (v := nI (f + 1)) (lv' := [(4, .int (nI (f + 1))), (0, .ref (ad 22)), (1, .int (nI so)), (2, .int (nI a)), (3, .int (nI b))]) hx hb dX8_find_45 hl (k := 4) rfl (nI_add f 1) (by decide) rfl (fun ls hl => ?_)
      refine lv_goto (tgt := 3) hx hb dX8_find_48 (by decide) ?_
      exact ih3 (f + 1) _ _ _ (by omega) (fm_next hno (fun q => c20 (by rw [show sSort ss f = so from by unfold sSort; rw [q]]))) (by omega) hs (lv_sub hl [1, 2, 3, 4, 0] rfl)
    · skip
      refine lv_aload_n hx hb dX8_find_23 rfl (lv_at hl 0 rfl) ?_
      refine r_get (ci := 8) (v := .ref (ad 24)) (C := RX8) (T := TX8) (N := 31) hx hb hts inlX8 hown hK hs (22) (by omega) (md22 hM) rfl 1 (by decide) (hts _ w_fl_RX8_13) rfl dX8_find_24 ?_
      refine lv_iload hx hb dX8_find_27 (lv_at hl 4 rfl) ?_
      refine r_ialdN (t := f) hx hb hK hs (24) (by omega) (md24 hM) (rfl) (by omega) (by omega) dX8_find_29 ?_
      refine r_topi (y := nI (sL ss (f))) rfl ?_
      refine lv_iload_n hx hb dX8_find_30 rfl (lv_at hl 2 rfl) ?_
      refine lv_icmp_ne (tgt := 45) hx hb dX8_find_31 (by decide) (fun c31 => ?_) (fun c31 => ?_)
      · skip
        refine lv_iinc (v := nI (f + 1)) (lv' := [(4, .int (nI (f + 1))), (0, .ref (ad 22)), (1, .int (nI so)), (2, .int (nI a)), (3, .int (nI b))]) hx hb dX8_find_45 hl (k := 4) rfl (nI_add f 1) (by decide) rfl (fun ls hl => ?_)
        refine lv_goto (tgt := 3) hx hb dX8_find_48 (by decide) ?_
        exact ih3 (f + 1) _ _ _ (by omega) (fm_next hno (fun q => c31 (by rw [show sL ss f = a from by unfold sL; rw [q]]))) (by omega) hs (lv_sub hl [1, 2, 3, 4, 0] rfl)
      · skip
        refine lv_aload_n hx hb dX8_find_34 rfl (lv_at hl 0 rfl) ?_
        refine r_get (ci := 8) (v := .ref (ad 25)) (C := RX8) (T := TX8) (N := 31) hx hb hts inlX8 hown hK hs (22) (by omega) (md22 hM) rfl 2 (by decide) (hts _ w_fl_RX8_16) rfl dX8_find_35 ?_
        refine lv_iload hx hb dX8_find_38 (lv_at hl 4 rfl) ?_
        refine r_ialdN (t := f) hx hb hK hs (25) (by omega) (md25 hM) (rfl) (by omega) (by omega) dX8_find_40 ?_
        refine r_topi (y := nI (sR ss (f))) rfl ?_
        refine lv_iload_n hx hb dX8_find_41 rfl (lv_at hl 3 rfl) ?_
        refine lv_icmp_eq (tgt := 51) hx hb dX8_find_42 (by decide) (fun c42 => ?_) (fun c42 => ?_)
        · skip
          refine lv_iload hx hb dX8_find_51 (lv_at hl 4 rfl) ?_
          refine r_iret (v := nI f) (mc := 0) (ms := 0) hx hb hr hlk hs (Nat.le_refl _) (Nat.le_refl _) dX8_find_53 hQ ?_
          exact roV.rf (congrArg nI (fM_hit hok ⟨hf.1, hfl⟩ (row_of hok ⟨hf.1, hfl⟩ ((nI_eq (by have := sort_le hok (k := f); omega) hs1.1).mp c20) ((nI_eq (sLR_lt2 hok f).1 hs1.2.1).mp c31) ((nI_eq (sLR_lt2 hok f).2 hs1.2.2).mp c42))).symm)
        · skip
          refine lv_iinc (v := nI (f + 1)) (lv' := [(4, .int (nI (f + 1))), (0, .ref (ad 22)), (1, .int (nI so)), (2, .int (nI a)), (3, .int (nI b))]) hx hb dX8_find_45 hl (k := 4) rfl (nI_add f 1) (by decide) rfl (fun ls hl => ?_)
          refine lv_goto (tgt := 3) hx hb dX8_find_48 (by decide) ?_
          exact ih3 (f + 1) _ _ _ (by omega) (fm_next hno (fun q => c42 (by rw [show sR ss f = b from by unfold sR; rw [q]]))) (by omega) hs (lv_sub hl [1, 2, 3, 4, 0] rfl)

set_option maxHeartbeats 600000 in
set_option maxRecDepth 100000 in
theorem c_X8_make (l : Launch) (G : rG) {n : Nat} {ad : Nat → Nat} {en : Nat → va_E} {ss ns : List Row} {c : Nat → Nat → Int32} {us ov dp cl : Int32} (hM : MdW G n ad en ss ns c us ov dp cl) {so a b : Nat} (hrow : stOK (ss.length + 1) (so, a, b, 0, 0)) : CI l G yX8_make uX8_make (1) (24) (0) (0) [.ref (ad 22), .int (nI so), .int (nI a), .int (nI b)] (n) (n) ad en (fun r ad1 en1 => mFr ad en ad1 en1 ∧ r = sMakeR ss (so, a, b, 0, 0) ∧ MdW G n ad en1 (sMake ss (so, a, b, 0, 0)) ns c us ov dp cl) := by
  intro sz
  refine rMet (Qc := qI G (n) (fun r ad1 en1 => mFr ad en ad1 en1 ∧ r = sMakeR ss (so, a, b, 0, 0) ∧ MdW G n ad en1 (sMake ss (so, a, b, 0, 0)) ns c us ov dp cl)) (cc := cX8_make) (maxL := 5) (ret := (some .int)) (by decide) rfl (Nat.le_of_ble_eq_true rfl) ?_
  intro pP eE sS mM aA bB tT cC ls A Q hc hK hsz hA hs hl hQ
  obtain ⟨hx, hb, hr, hts, hown, hlk, hnm, hml⟩ := hc
  have hl : lv_has ls 5 [(0, .ref (ad 22)), (1, .int (nI so)), (2, .int (nI a)), (3, .int (nI b))] := hl
  have fr0 : ∀ k, k < 22 → en k = en k := fun _ _ => rfl
  obtain ⟨hn48, -, -, -, hok, hnk⟩ := id hM
  have h6 := hok.1
  have h8 := hnk.1
  have h22 := md22 hM
  have h23 := md23 hM
  have h24 := md24 hM
  have h25 := md25 hM
  have hs1 : so < 2 ^ 31 ∧ a < 2 ^ 31 ∧ b < 2 ^ 31 := by obtain ⟨-, q | q | q⟩ := hrow <;> simp only at q <;> omega
  have hfm := fM_le (ss := ss) (so, a, b, 0, 0)
  refine lv_aload_n hx hb dX8_make_0 rfl (lv_at hl 0 rfl) ?_
  refine lv_iload_n hx hb dX8_make_1 rfl (lv_at hl 1 rfl) ?_
  refine lv_iload_n hx hb dX8_make_2 rfl (lv_at hl 2 rfl) ?_
  refine lv_iload_n hx hb dX8_make_3 rfl (lv_at hl 3 rfl) ?_
  refine r_callViR (ci := 8) (As := [.int (nI so), .int (nI a), .int (nI b)]) hx hb hml hown hts hK hA hs (22) (by omega) h22 rfl rfl (c_X8_find l G hM (so := so) (a := a) (b := b) (hs1)) (cwV 3 hts (tbV w_ml_RX8_92 w_im_yX8_find w_se_yX8_find w_ini_RX8 w_cd_yX8_find) rfl rfl rfl (by decide +kernel) ⟨Nat.le_of_ble_eq_true rfl, Nat.le_of_ble_eq_true rfl⟩) rfl hl.1 rfl (Nat.le_of_ble_eq_true rfl) dX8_make_4 ⟨Nat.zero_le _, Nat.zero_le _⟩ (fun H locs hs => ?_)
  refine lv_istore (lv' := [(4, .int (nI (fM ss (so, a, b, 0, 0)))), (0, .ref (ad 22)), (1, .int (nI so)), (2, .int (nI a)), (3, .int (nI b))]) hx hb dX8_make_7 hl (by decide) rfl (fun ls hl => ?_)
  refine lv_iload hx hb dX8_make_9 (lv_at hl 0 rfl) ?_
  refine lv_aload_n hx hb dX8_make_11 rfl (lv_at hl 1 rfl) ?_
  refine r_get (ci := 8) (v := .int (nI ss.length)) (C := RX8) (T := TX8) (N := 31) hx hb hts inlX8 hown hK hs (22) (by omega) h22 rfl 3 (by decide) (hts _ w_fl_RX8_88) rfl dX8_make_12 ?_
  refine lv_icmp_gt (tgt := 21) hx hb dX8_make_15 (by decide) (fun c15 => ?_) (fun c15 => ?_)
  · skip
    have hlt0 := (nI_ltI (by omega) (by omega)).mp c15
    have hf0 : kFind ss (so, a, b, 0, 0) = 0 := by
      by_cases q : kFind ss (so, a, b, 0, 0) = 0
      · exact q
      · have e : fM ss (so, a, b, 0, 0) = kFind ss (so, a, b, 0, 0) := if_neg q
        have z : kFind ss (so, a, b, 0, 0) ≤ ss.length := kFU_le _ _ _
        omega
    have hfe : fM ss (so, a, b, 0, 0) = ss.length + 1 := if_pos hf0
    refine lv_aload_n hx hb dX8_make_21 rfl (lv_at hl 1 rfl) ?_
    refine r_get (ci := 8) (v := .int (nI ss.length)) (C := RX8) (T := TX8) (N := 31) hx hb hts inlX8 hown hK hs (22) (by omega) h22 rfl 3 (by decide) (hts _ w_fl_RX8_88) rfl dX8_make_22 ?_
    refine lv_sipush (v := 600) hx hb dX8_make_25 (by decide) ?_
    refine lv_icmp_ne (tgt := 34) hx hb dX8_make_28 (by decide) (fun c28 => ?_) (fun c28 => ?_)
    · skip
      have hlt : ss.length < 600 := by have : ¬ ss.length = 600 := fun q => c28 (by rw [q]; rfl); omega
      rw [hfe] at hl
      refine lv_aload_n hx hb dX8_make_34 rfl (lv_at hl 1 rfl) ?_
      refine lv_dup hx hb dX8_make_35 rfl ?_
      refine r_get (ci := 8) (v := .int (nI ss.length)) (C := RX8) (T := TX8) (N := 31) hx hb hts inlX8 hown hK hs (22) (by omega) h22 rfl 3 (by decide) (hts _ w_fl_RX8_88) rfl dX8_make_36 ?_
      refine lv_iconst (v := 1) hx hb dX8_make_39 (by decide) ?_
      refine lv_iadd hx hb dX8_make_40 ?_
      refine r_topi (y := nI (ss.length + 1)) (nI_add _ _) ?_
      refine r_put (ci := 8) (v := .int (nI (ss.length + 1))) (ty := .int) (C := RX8) (T := TX8) (N := 31) (fs' := [.ref (ad 23), .ref (ad 24), .ref (ad 25), .int (nI (ss.length + 1)), .ref (ad 26), .ref (ad 27), .ref (ad 28), .ref (ad 29), .ref (ad 30), .int (nI ns.length), .int (us), .int (ov), .ref (ad 31), .ref (ad 32), .ref (ad 33), .ref (ad 34), .ref (ad 35), .int (dp), .ref (ad 36), .ref (ad 37), .ref (ad 38), .ref (ad 39), .ref (ad 40), .int (cl), .ref (ad 41), .ref (ad 42), .ref (ad 43), .ref (ad 44), .ref (ad 45), .ref (ad 46), .ref (ad 47)]) hx hb hts inlX8 tyX8 tyX8_ok nmX8 hown hK hs (22) (by omega) h22 rfl 3 (by decide) (hts _ w_fl_RX8_88) (Or.inl rfl) (by decide +kernel) rfl rfl (Nat.le_of_ble_eq_true rfl) rfl dX8_make_41 (fun H locs en_1 hen_1 hs => ?_)
      have he_2 : en_1 (22) = .inr (8, [.ref (ad 23), .ref (ad 24), .ref (ad 25), .int (nI (ss.length + 1)), .ref (ad 26), .ref (ad 27), .ref (ad 28), .ref (ad 29), .ref (ad 30), .int (nI ns.length), .int (us), .int (ov), .ref (ad 31), .ref (ad 32), .ref (ad 33), .ref (ad 34), .ref (ad 35), .int (dp), .ref (ad 36), .ref (ad 37), .ref (ad 38), .ref (ad 39), .ref (ad 40), .int (cl), .ref (ad 41), .ref (ad 42), .ref (ad 43), .ref (ad 44), .ref (ad 45), .ref (ad 46), .ref (ad 47)]) := by rw [hen_1]; exact va_up_self _ _ _
      have he_3 : en_1 (23) = aI G (601) (aSo ss) := by rw [hen_1]; exact (va_up_ne _ _ (by omega)).trans h23
      have he_4 : en_1 (24) = aI G (601) (aLe ss) := by rw [hen_1]; exact (va_up_ne _ _ (by omega)).trans h24
      have he_5 : en_1 (25) = aI G (601) (aRi ss) := by rw [hen_1]; exact (va_up_ne _ _ (by omega)).trans h25
      refine lv_aload_n hx hb dX8_make_44 rfl (lv_at hl 1 rfl) ?_
      refine r_get (ci := 8) (v := .ref (ad 23)) (C := RX8) (T := TX8) (N := 31) hx hb hts inlX8 hown hK hs (22) (by omega) he_2 rfl 0 (by decide) (hts _ w_fl_RX8_7) rfl dX8_make_45 ?_
      refine lv_iload hx hb dX8_make_48 (lv_at hl 0 rfl) ?_
      refine lv_iload_n hx hb dX8_make_50 rfl (lv_at hl 2 rfl) ?_
      refine r_iastN (t := ss.length + 1) hx hb hK hs (23) (by omega) he_3 (rfl) (by omega) (by omega) dX8_make_51 (fun H locs en_7 hen_7 hs => ?_)
      have he_8 : en_7 (23) = aI G (601) (upd (aSo ss) (ss.length + 1) (nI so)) := by rw [hen_7]; exact va_up_self _ _ _
      have he_9 : en_7 (22) = .inr (8, [.ref (ad 23), .ref (ad 24), .ref (ad 25), .int (nI (ss.length + 1)), .ref (ad 26), .ref (ad 27), .ref (ad 28), .ref (ad 29), .ref (ad 30), .int (nI ns.length), .int (us), .int (ov), .ref (ad 31), .ref (ad 32), .ref (ad 33), .ref (ad 34), .ref (ad 35), .int (dp), .ref (ad 36), .ref (ad 37), .ref (ad 38), .ref (ad 39), .ref (ad 40), .int (cl), .ref (ad 41), .ref (ad 42), .ref (ad 43), .ref (ad 44), .ref (ad 45), .ref (ad 46), .ref (ad 47)]) := by rw [hen_7]; exact (va_up_ne _ _ (by omega)).trans he_2
      have he_10 : en_7 (24) = aI G (601) (aLe ss) := by rw [hen_7]; exact (va_up_ne _ _ (by omega)).trans he_4
      have he_11 : en_7 (25) = aI G (601) (aRi ss) := by rw [hen_7]; exact (va_up_ne _ _ (by omega)).trans he_5
      refine lv_aload_n hx hb dX8_make_52 rfl (lv_at hl 1 rfl) ?_
      refine r_get (ci := 8) (v := .ref (ad 24)) (C := RX8) (T := TX8) (N := 31) hx hb hts inlX8 hown hK hs (22) (by omega) he_9 rfl 1 (by decide) (hts _ w_fl_RX8_13) rfl dX8_make_53 ?_
      refine lv_iload hx hb dX8_make_56 (lv_at hl 0 rfl) ?_
      refine lv_iload_n hx hb dX8_make_58 rfl (lv_at hl 3 rfl) ?_
      refine r_iastN (t := ss.length + 1) hx hb hK hs (24) (by omega) he_10 (rfl) (by omega) (by omega) dX8_make_59 (fun H locs en_13 hen_13 hs => ?_)
      have he_14 : en_13 (24) = aI G (601) (upd (aLe ss) (ss.length + 1) (nI a)) := by rw [hen_13]; exact va_up_self _ _ _
      have he_15 : en_13 (22) = .inr (8, [.ref (ad 23), .ref (ad 24), .ref (ad 25), .int (nI (ss.length + 1)), .ref (ad 26), .ref (ad 27), .ref (ad 28), .ref (ad 29), .ref (ad 30), .int (nI ns.length), .int (us), .int (ov), .ref (ad 31), .ref (ad 32), .ref (ad 33), .ref (ad 34), .ref (ad 35), .int (dp), .ref (ad 36), .ref (ad 37), .ref (ad 38), .ref (ad 39), .ref (ad 40), .int (cl), .ref (ad 41), .ref (ad 42), .ref (ad 43), .ref (ad 44), .ref (ad 45), .ref (ad 46), .ref (ad 47)]) := by rw [hen_13]; exact (va_up_ne _ _ (by omega)).trans he_9
      have he_16 : en_13 (23) = aI G (601) (upd (aSo ss) (ss.length + 1) (nI so)) := by rw [hen_13]; exact (va_up_ne _ _ (by omega)).trans he_8
      have he_17 : en_13 (25) = aI G (601) (aRi ss) := by rw [hen_13]; exact (va_up_ne _ _ (by omega)).trans he_11
      refine lv_aload_n hx hb dX8_make_60 rfl (lv_at hl 1 rfl) ?_
      refine r_get (ci := 8) (v := .ref (ad 25)) (C := RX8) (T := TX8) (N := 31) hx hb hts inlX8 hown hK hs (22) (by omega) he_15 rfl 2 (by decide) (hts _ w_fl_RX8_16) rfl dX8_make_61 ?_
      refine lv_iload hx hb dX8_make_64 (lv_at hl 0 rfl) ?_
      refine lv_iload_n hx hb dX8_make_66 rfl (lv_at hl 4 rfl) ?_
      refine r_iastN (t := ss.length + 1) hx hb hK hs (25) (by omega) he_17 (rfl) (by omega) (by omega) dX8_make_67 (fun H locs en_19 hen_19 hs => ?_)
      have he_20 : en_19 (25) = aI G (601) (upd (aRi ss) (ss.length + 1) (nI b)) := by rw [hen_19]; exact va_up_self _ _ _
      have he_21 : en_19 (22) = .inr (8, [.ref (ad 23), .ref (ad 24), .ref (ad 25), .int (nI (ss.length + 1)), .ref (ad 26), .ref (ad 27), .ref (ad 28), .ref (ad 29), .ref (ad 30), .int (nI ns.length), .int (us), .int (ov), .ref (ad 31), .ref (ad 32), .ref (ad 33), .ref (ad 34), .ref (ad 35), .int (dp), .ref (ad 36), .ref (ad 37), .ref (ad 38), .ref (ad 39), .ref (ad 40), .int (cl), .ref (ad 41), .ref (ad 42), .ref (ad 43), .ref (ad 44), .ref (ad 45), .ref (ad 46), .ref (ad 47)]) := by rw [hen_19]; exact (va_up_ne _ _ (by omega)).trans he_15
      have he_22 : en_19 (23) = aI G (601) (upd (aSo ss) (ss.length + 1) (nI so)) := by rw [hen_19]; exact (va_up_ne _ _ (by omega)).trans he_16
      have he_23 : en_19 (24) = aI G (601) (upd (aLe ss) (ss.length + 1) (nI a)) := by rw [hen_19]; exact (va_up_ne _ _ (by omega)).trans he_14
      refine lv_iload hx hb dX8_make_68 (lv_at hl 0 rfl) ?_
      refine r_iret (v := nI (ss.length + 1)) (mc := 0) (ms := 0) hx hb hr hlk hs (Nat.le_refl _) (Nat.le_refl _) dX8_make_70 hQ ?_
      have hS : sMake ss (so, a, b, 0, 0) = ss ++ [(so, a, b, 0, 0)] := by rw [sMake, if_pos hf0, kApp, if_pos hlt]
      have hR : sMakeR ss (so, a, b, 0, 0) = nI (ss.length + 1) := by rw [sMakeR, if_pos hf0, kAppR, if_pos hlt]
      rw [hS, hR]
      exact ⟨⟨rfl, fun k hk => by rw [hen_19, va_up_ne _ _ (by omega), hen_13, va_up_ne _ _ (by omega), hen_7, va_up_ne _ _ (by omega), hen_1, va_up_ne _ _ (by omega)]⟩, rfl, md_mk hM hlt hrow hf0 ((he_21).trans (by unfold mObj; rw [List.length_append]; rfl)) he_22 he_23 he_20 (fun k hk => by rw [hen_19, va_up_ne _ _ (by omega), hen_13, va_up_ne _ _ (by omega), hen_7, va_up_ne _ _ (by omega), hen_1, va_up_ne _ _ (by omega)])⟩
    · skip
      have hlt : ¬ ss.length < 600 := by have : ss.length = 600 := sw_nI c28 rfl (by omega) (by decide); omega
      refine lv_bipush (v := (-3)) hx hb dX8_make_31 (by decide) ?_
      refine r_iret (v := (-3)) (mc := 0) (ms := 0) hx hb hr hlk hs (Nat.le_refl _) (Nat.le_refl _) dX8_make_33 hQ ?_
      exact ⟨⟨rfl, fun _ _ => rfl⟩, by rw [sMakeR, if_pos hf0, kAppR, if_neg hlt], by rw [sMake, if_pos hf0, kApp, if_neg hlt]; exact hM⟩
  · skip
    have hlt0 : fM ss (so, a, b, 0, 0) ≤ ss.length := Nat.le_of_not_lt (fun q => c15 ((nI_ltI (by omega) (by omega)).mpr q))
    have hf0 : ¬ kFind ss (so, a, b, 0, 0) = 0 := fun q => by have e : fM ss (so, a, b, 0, 0) = ss.length + 1 := if_pos q; omega
    have hfe : fM ss (so, a, b, 0, 0) = kFind ss (so, a, b, 0, 0) := if_neg hf0
    refine lv_iload hx hb dX8_make_18 (lv_at hl 0 rfl) ?_
    refine r_iret (v := nI (fM ss (so, a, b, 0, 0))) (mc := 0) (ms := 0) hx hb hr hlk hs (Nat.le_refl _) (Nat.le_refl _) dX8_make_20 hQ ?_
    exact ⟨⟨rfl, fun _ _ => rfl⟩, by rw [sMakeR, if_neg hf0, hfe], by rw [sMake, if_neg hf0]; exact hM⟩

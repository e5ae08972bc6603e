set_option maxHeartbeats 600000 in
set_option maxRecDepth 100000 in
theorem c_X8_isStatement (l : Launch) (G : rG) {n : Nat} {ad : Nat → Nat} {en : Nat → va_E} {ss ns : List Row} {c : Nat → Nat → Int32} {us : Int32} {ov : Int32} {dp : Int32} {cl : Int32}  (hM : MdW G n ad en ss ns c us ov dp cl) (x : Int32) : CI l G yX8_isStatement uX8_isStatement (0) (0) (0) (0) [.ref (ad 22), .int (x)] (n) (n) ad en (roV ad en (b2i (kHolds ss x))) := by
  intro sz
  refine rMet (Qc := qI G (n) (roV ad en (b2i (kHolds ss x)))) (cc := cX8_isStatement) (maxL := 2) (ret := (some .boolean)) (by decide) rfl (Nat.le_of_ble_eq_true rfl) ?_
  intro pP eE sS mM aA bB tT cC ls A Q hc hK hsz hA hs hl hQ
  obtain ⟨hx, hb, hr, hts, hown, hlk, hnm, hml⟩ := hc
  have hl : lv_has ls 2 [(0, .ref (ad 22)), (1, .int (x))] := hl
  have fr0 : ∀ k, k < 22 → en k = en k := fun _ _ => rfl
  obtain ⟨hn48, -, -, -, hok, hnk⟩ := id hM
  have h6 := hok.1
  have h8 := hnk.1
  
  refine lv_iload_n hx hb dX8_isStatement_0 rfl (lv_at hl 1 rfl) ?_
  refine lv_if_le (tgt := 16) hx hb dX8_isStatement_1 (by decide) (fun c1 => ?_) (fun c1 => ?_)
  · skip
    refine lv_iconst (v := 0) hx hb dX8_isStatement_16 (by decide) ?_
    refine r_zret (v := 0) (mc := 0) (ms := 0) hx hb hr hlk hs (Nat.le_refl _) (Nat.le_refl _) dX8_isStatement_17 ?_ hQ ?_
    · first | exact Or.inl rfl | exact Or.inr rfl | exact b2i_z _
    exact roV.rf (by rw [holds_n (by omega) (Or.inl (le0_lt c1))]; rfl)
  · skip
    refine lv_iload_n hx hb dX8_isStatement_4 rfl (lv_at hl 1 rfl) ?_
    refine lv_aload_n hx hb dX8_isStatement_5 rfl (lv_at hl 0 rfl) ?_
    refine r_get (ci := 8) (v := .int (nI ss.length)) (C := RX8) (T := TX8) (N := 31) hx hb hts inlX8 hown hK hs (22) (by omega) (md22 hM) rfl 3 (by decide) (hts _ w_fl_RX8_88) rfl dX8_isStatement_6 ?_
    refine lv_icmp_gt (tgt := 16) hx hb dX8_isStatement_9 (by decide) (fun c9 => ?_) (fun c9 => ?_)
    · skip
      refine lv_iconst (v := 0) hx hb dX8_isStatement_16 (by decide) ?_
      refine r_zret (v := 0) (mc := 0) (ms := 0) hx hb hr hlk hs (Nat.le_refl _) (Nat.le_refl _) dX8_isStatement_17 ?_ hQ ?_
      · first | exact Or.inl rfl | exact Or.inr rfl | exact b2i_z _
      exact roV.rf (by rw [holds_n (by omega) (Or.inr c9)]; rfl)
    · skip
      refine lv_iconst (v := 1) hx hb dX8_isStatement_12 (by decide) ?_
      refine lv_goto (tgt := 17) hx hb dX8_isStatement_13 (by decide) ?_
      refine r_zret (v := 1) (mc := 0) (ms := 0) hx hb hr hlk hs (Nat.le_refl _) (Nat.le_refl _) dX8_isStatement_17 ?_ hQ ?_
      · first | exact Or.inl rfl | exact Or.inr rfl | exact b2i_z _
      exact roV.rf (by rw [holds_y (by omega) (fun q => c1 (lt1_le q)) c9]; rfl)

set_option maxHeartbeats 600000 in
set_option maxRecDepth 100000 in
theorem c_X8_statements (l : Launch) (G : rG) {n : Nat} {ad : Nat → Nat} {en : Nat → va_E} {ss ns : List Row} {c : Nat → Nat → Int32} {us : Int32} {ov : Int32} {dp : Int32} {cl : Int32}  (hM : MdW G n ad en ss ns c us ov dp cl)  : CI l G yX8_statements uX8_statements (0) (0) (0) (0) [.ref (ad 22)] (n) (n) ad en (roV ad en (nI ss.length)) := by
  intro sz
  refine rMet (Qc := qI G (n) (roV ad en (nI ss.length))) (cc := cX8_statements) (maxL := 1) (ret := (some .int)) (by decide) rfl (Nat.le_of_ble_eq_true rfl) ?_
  intro pP eE sS mM aA bB tT cC ls A Q hc hK hsz hA hs hl hQ
  obtain ⟨hx, hb, hr, hts, hown, hlk, hnm, hml⟩ := hc
  have hl : lv_has ls 1 [(0, .ref (ad 22))] := hl
  have fr0 : ∀ k, k < 22 → en k = en k := fun _ _ => rfl
  obtain ⟨hn48, -, -, -, hok, hnk⟩ := id hM
  have h6 := hok.1
  have h8 := hnk.1
  
  refine lv_aload_n hx hb dX8_statements_0 rfl (lv_at hl 0 rfl) ?_
  refine r_get (ci := 8) (v := .int (nI ss.length)) (C := RX8) (T := TX8) (N := 31) hx hb hts inlX8 hown hK hs (22) (by omega) (md22 hM) rfl 3 (by decide) (hts _ w_fl_RX8_88) rfl dX8_statements_1 ?_
  refine r_iret (v := nI ss.length) (mc := 0) (ms := 0) hx hb hr hlk hs (Nat.le_refl _) (Nat.le_refl _) dX8_statements_4 hQ ?_
  exact roV.rf rfl

set_option maxHeartbeats 600000 in
set_option maxRecDepth 100000 in
theorem c_X8_nodes (l : Launch) (G : rG) {n : Nat} {ad : Nat → Nat} {en : Nat → va_E} {ss ns : List Row} {c : Nat → Nat → Int32} {us : Int32} {ov : Int32} {dp : Int32} {cl : Int32}  (hM : MdW G n ad en ss ns c us ov dp cl)  : CI l G yX8_nodes uX8_nodes (0) (0) (0) (0) [.ref (ad 22)] (n) (n) ad en (roV ad en (nI ns.length)) := by
  intro sz
  refine rMet (Qc := qI G (n) (roV ad en (nI ns.length))) (cc := cX8_nodes) (maxL := 1) (ret := (some .int)) (by decide) rfl (Nat.le_of_ble_eq_true rfl) ?_
  intro pP eE sS mM aA bB tT cC ls A Q hc hK hsz hA hs hl hQ
  obtain ⟨hx, hb, hr, hts, hown, hlk, hnm, hml⟩ := hc
  have hl : lv_has ls 1 [(0, .ref (ad 22))] := hl
  have fr0 : ∀ k, k < 22 → en k = en k := fun _ _ => rfl
  obtain ⟨hn48, -, -, -, hok, hnk⟩ := id hM
  have h6 := hok.1
  have h8 := hnk.1
  
  refine lv_aload_n hx hb dX8_nodes_0 rfl (lv_at hl 0 rfl) ?_
  refine r_get (ci := 8) (v := .int (nI ns.length)) (C := RX8) (T := TX8) (N := 31) hx hb hts inlX8 hown hK hs (22) (by omega) (md22 hM) rfl 9 (by decide) (hts _ w_fl_RX8_103) rfl dX8_nodes_1 ?_
  refine r_iret (v := nI ns.length) (mc := 0) (ms := 0) hx hb hr hlk hs (Nat.le_refl _) (Nat.le_refl _) dX8_nodes_4 hQ ?_
  exact roV.rf rfl

set_option maxHeartbeats 600000 in
set_option maxRecDepth 100000 in
theorem c_X8_used (l : Launch) (G : rG) {n : Nat} {ad : Nat → Nat} {en : Nat → va_E} {ss ns : List Row} {c : Nat → Nat → Int32} {us : Int32} {ov : Int32} {dp : Int32} {cl : Int32}  (hM : MdW G n ad en ss ns c us ov dp cl)  : CI l G yX8_used uX8_used (0) (0) (0) (0) [.ref (ad 22)] (n) (n) ad en (roV ad en us) := by
  intro sz
  refine rMet (Qc := qI G (n) (roV ad en us)) (cc := cX8_used) (maxL := 1) (ret := (some .int)) (by decide) rfl (Nat.le_of_ble_eq_true rfl) ?_
  intro pP eE sS mM aA bB tT cC ls A Q hc hK hsz hA hs hl hQ
  obtain ⟨hx, hb, hr, hts, hown, hlk, hnm, hml⟩ := hc
  have hl : lv_has ls 1 [(0, .ref (ad 22))] := hl
  have fr0 : ∀ k, k < 22 → en k = en k := fun _ _ => rfl
  obtain ⟨hn48, -, -, -, hok, hnk⟩ := id hM
  have h6 := hok.1
  have h8 := hnk.1
  
  refine lv_aload_n hx hb dX8_used_0 rfl (lv_at hl 0 rfl) ?_
  refine r_get (ci := 8) (v := .int (us)) (C := RX8) (T := TX8) (N := 31) hx hb hts inlX8 hown hK hs (22) (by omega) (md22 hM) rfl 10 (by decide) (hts _ w_fl_RX8_112) rfl dX8_used_1 ?_
  refine r_iret (v := us) (mc := 0) (ms := 0) hx hb hr hlk hs (Nat.le_refl _) (Nat.le_refl _) dX8_used_4 hQ ?_
  exact roV.rf rfl

set_option maxHeartbeats 600000 in
set_option maxRecDepth 100000 in
theorem c_X8_atom (l : Launch) (G : rG) {n : Nat} {ad : Nat → Nat} {en : Nat → va_E} {ss ns : List Row} {c : Nat → Nat → Int32} {us : Int32} {ov : Int32} {dp : Int32} {cl : Int32}  (hM : MdW G n ad en ss ns c us ov dp cl) (x : Int32) : CI l G yX8_atom uX8_atom (2) (48) (0) (0) [.ref (ad 22), .int (x)] (n) (n) ad en (mPost G n ad en (fAtom ss x).1 (fAtom ss x).2 ns c us ov dp cl) := by
  intro sz
  refine rMet (Qc := qI G (n) (mPost G n ad en (fAtom ss x).1 (fAtom ss x).2 ns c us ov dp cl)) (cc := cX8_atom) (maxL := 2) (ret := (some .int)) (by decide) rfl (Nat.le_of_ble_eq_true rfl) ?_
  intro pP eE sS mM aA bB tT cC ls A Q hc hK hsz hA hs hl hQ
  obtain ⟨hx, hb, hr, hts, hown, hlk, hnm, hml⟩ := hc
  have hl : lv_has ls 2 [(0, .ref (ad 22)), (1, .int (x))] := hl
  have fr0 : ∀ k, k < 22 → en k = en k := fun _ _ => rfl
  obtain ⟨hn48, -, -, -, hok, hnk⟩ := id hM
  have h6 := hok.1
  have h8 := hnk.1
  
  refine lv_iload_n hx hb dX8_atom_0 rfl (lv_at hl 1 rfl) ?_
  refine lv_if_lt (tgt := 10) hx hb dX8_atom_1 (by decide) (fun c1 => ?_) (fun c1 => ?_)
  · skip
    refine lv_iconst (v := (-1)) hx hb dX8_atom_10 (by decide) ?_
    refine lv_goto (tgt := 21) hx hb dX8_atom_11 (by decide) ?_
    refine r_iret (v := (-1)) (mc := 0) (ms := 0) hx hb hr hlk hs (Nat.le_refl _) (Nat.le_refl _) dX8_atom_21 hQ ?_
    have hV : fAtom ss x = (-1, ss) := by rw [fAtom, if_neg (fun q => absurd q.1 (Int32.not_le.mpr c1))]
    exact ⟨⟨rfl, fun _ _ => rfl⟩, by rw [hV], by rw [hV]; exact hM⟩
  · skip
    refine lv_iload_n hx hb dX8_atom_4 rfl (lv_at hl 1 rfl) ?_
    refine lv_bipush (v := 31) hx hb dX8_atom_5 (by decide) ?_
    refine lv_icmp_le (tgt := 14) hx hb dX8_atom_7 (by decide) (fun c7 => ?_) (fun c7 => ?_)
    · skip
      obtain ⟨k, hk0, hk1⟩ := pos_ex c1
      subst hk0
      have hk32 : k < 32 := by have := (nI_leI (b := 31) hk1 (by decide)).mp c7; omega
      have hV : fAtom ss (nI k) = (sMakeR ss (0, k, 0, 0, 0), sMake ss (0, k, 0, 0, 0)) := by rw [fAtom, if_pos ⟨nI_pos' hk1, nI_lt hk32 (by decide)⟩, tN_nI hk1]
      refine lv_aload_n hx hb dX8_atom_14 rfl (lv_at hl 0 rfl) ?_
      refine lv_iconst (v := 0) hx hb dX8_atom_15 (by decide) ?_
      refine lv_iload_n hx hb dX8_atom_16 rfl (lv_at hl 1 rfl) ?_
      refine lv_iconst (v := 0) hx hb dX8_atom_17 (by decide) ?_
      refine r_callVi (ci := 8) (As := [.int (0), .int (nI k), .int (0)]) hx hb hml hown hts hK hA hs (22) (by omega) (md22 hM) rfl rfl (c_X8_make l G hM (so := 0) (a := k) (b := 0) (⟨rfl, Or.inl ⟨rfl, hk32, rfl⟩⟩)) (cwV 3 hts (tbV w_ml_RX8_96 w_im_yX8_make w_se_yX8_make w_ini_RX8 w_cd_yX8_make) rfl rfl rfl (by decide +kernel) ⟨Nat.le_of_ble_eq_true rfl, Nat.le_of_ble_eq_true rfl⟩) rfl hl.1 rfl (Nat.le_of_ble_eq_true rfl) dX8_atom_18 ⟨Nat.le_refl _, Nat.le_refl _⟩ (fun r_4 ad_1 en_2 H locs hp_3 hs => ?_)
      obtain ⟨⟨hAm_5, hFm_5⟩, hrm_5, hMm_5⟩ := hp_3
      subst hAm_5
      rw [hrm_5]
      have fr_6 : ∀ k, k < 22 → en_2 k = en k := fun k hk => Eq.trans (hFm_5 k hk) (fr0 k hk)
      refine r_iret (v := sMakeR ss (0, k, 0, 0, 0)) (mc := 0) (ms := 0) hx hb hr hlk hs (Nat.le_refl _) (Nat.le_refl _) dX8_atom_21 hQ ?_
      exact ⟨⟨rfl, fr_6⟩, by rw [hV], by rw [hV]; exact hMm_5⟩
    · skip
      refine lv_iconst (v := (-1)) hx hb dX8_atom_10 (by decide) ?_
      refine lv_goto (tgt := 21) hx hb dX8_atom_11 (by decide) ?_
      refine r_iret (v := (-1)) (mc := 0) (ms := 0) hx hb hr hlk hs (Nat.le_refl _) (Nat.le_refl _) dX8_atom_21 hQ ?_
      have hV : fAtom ss x = (-1, ss) := by rw [fAtom, if_neg (fun q => absurd q.2 (Int32.not_lt.mpr (i_gt31 c7)))]
      exact ⟨⟨rfl, fun _ _ => rfl⟩, by rw [hV], by rw [hV]; exact hM⟩

set_option maxHeartbeats 600000 in
set_option maxRecDepth 100000 in
theorem c_X8_falsehood (l : Launch) (G : rG) {n : Nat} {ad : Nat → Nat} {en : Nat → va_E} {ss ns : List Row} {c : Nat → Nat → Int32} {us : Int32} {ov : Int32} {dp : Int32} {cl : Int32}  (hM : MdW G n ad en ss ns c us ov dp cl)  : CI l G yX8_falsehood uX8_falsehood (2) (48) (0) (0) [.ref (ad 22)] (n) (n) ad en (mPost G n ad en (fFals ss).1 (fFals ss).2 ns c us ov dp cl) := by
  intro sz
  refine rMet (Qc := qI G (n) (mPost G n ad en (fFals ss).1 (fFals ss).2 ns c us ov dp cl)) (cc := cX8_falsehood) (maxL := 1) (ret := (some .int)) (by decide) rfl (Nat.le_of_ble_eq_true rfl) ?_
  intro pP eE sS mM aA bB tT cC ls A Q hc hK hsz hA hs hl hQ
  obtain ⟨hx, hb, hr, hts, hown, hlk, hnm, hml⟩ := hc
  have hl : lv_has ls 1 [(0, .ref (ad 22))] := hl
  have fr0 : ∀ k, k < 22 → en k = en k := fun _ _ => rfl
  obtain ⟨hn48, -, -, -, hok, hnk⟩ := id hM
  have h6 := hok.1
  have h8 := hnk.1
  have hV : fFals ss = (sMakeR ss (1, 0, 0, 0, 0), sMake ss (1, 0, 0, 0, 0)) := rfl
  refine lv_aload_n hx hb dX8_falsehood_0 rfl (lv_at hl 0 rfl) ?_
  refine lv_iconst (v := 1) hx hb dX8_falsehood_1 (by decide) ?_
  refine lv_iconst (v := 0) hx hb dX8_falsehood_2 (by decide) ?_
  refine lv_iconst (v := 0) hx hb dX8_falsehood_3 (by decide) ?_
  refine r_callVi (ci := 8) (As := [.int (1), .int (0), .int (0)]) hx hb hml hown hts hK hA hs (22) (by omega) (md22 hM) rfl rfl (c_X8_make l G hM (so := 1) (a := 0) (b := 0) (⟨rfl, Or.inr (Or.inl ⟨rfl, rfl, rfl⟩)⟩)) (cwV 3 hts (tbV w_ml_RX8_96 w_im_yX8_make w_se_yX8_make w_ini_RX8 w_cd_yX8_make) rfl rfl rfl (by decide +kernel) ⟨Nat.le_of_ble_eq_true rfl, Nat.le_of_ble_eq_true rfl⟩) rfl hl.1 rfl (Nat.le_of_ble_eq_true rfl) dX8_falsehood_4 ⟨Nat.le_refl _, Nat.le_refl _⟩ (fun r_4 ad_1 en_2 H locs hp_3 hs => ?_)
  obtain ⟨⟨hAm_5, hFm_5⟩, hrm_5, hMm_5⟩ := hp_3
  subst hAm_5
  rw [hrm_5]
  have fr_6 : ∀ k, k < 22 → en_2 k = en k := fun k hk => Eq.trans (hFm_5 k hk) (fr0 k hk)
  refine r_iret (v := sMakeR ss (1, 0, 0, 0, 0)) (mc := 0) (ms := 0) hx hb hr hlk hs (Nat.le_refl _) (Nat.le_refl _) dX8_falsehood_7 hQ ?_
  exact ⟨⟨rfl, fr_6⟩, by rw [hV], by rw [hV]; exact hMm_5⟩

set_option maxHeartbeats 600000 in
set_option maxRecDepth 100000 in
theorem c_X8_join (l : Launch) (G : rG) {n : Nat} {ad : Nat → Nat} {en : Nat → va_E} {ss ns : List Row} {c : Nat → Nat → Int32} {us : Int32} {ov : Int32} {dp : Int32} {cl : Int32}  (hM : MdW G n ad en ss ns c us ov dp cl) (t x y : Int32) : CI l G yX8_join uX8_join (2) (48) (0) (0) [.ref (ad 22), .int (t), .int (x), .int (y)] (n) (n) ad en (mPost G n ad en (fJoin ss t x y).1 (fJoin ss t x y).2 ns c us ov dp cl) := by
  intro sz
  refine rMet (Qc := qI G (n) (mPost G n ad en (fJoin ss t x y).1 (fJoin ss t x y).2 ns c us ov dp cl)) (cc := cX8_join) (maxL := 4) (ret := (some .int)) (by decide) rfl (Nat.le_of_ble_eq_true rfl) ?_
  intro pP eE sS mM aA bB tT cC ls A Q hc hK hsz hA hs hl hQ
  obtain ⟨hx, hb, hr, hts, hown, hlk, hnm, hml⟩ := hc
  have hl : lv_has ls 4 [(0, .ref (ad 22)), (1, .int (t)), (2, .int (x)), (3, .int (y))] := hl
  have fr0 : ∀ k, k < 22 → en k = en k := fun _ _ => rfl
  obtain ⟨hn48, -, -, -, hok, hnk⟩ := id hM
  have h6 := hok.1
  have h8 := hnk.1
  
  refine lv_iload_n hx hb dX8_join_0 rfl (lv_at hl 1 rfl) ?_
  refine lv_iconst (v := 2) hx hb dX8_join_1 (by decide) ?_
  refine lv_icmp_lt (tgt := 26) hx hb dX8_join_2 (by decide) (fun c2 => ?_) (fun c2 => ?_)
  · skip
    refine lv_iconst (v := (-1)) hx hb dX8_join_26 (by decide) ?_
    refine lv_goto (tgt := 37) hx hb dX8_join_27 (by decide) ?_
    refine r_iret (v := (-1)) (mc := 0) (ms := 0) hx hb hr hlk hs (Nat.le_refl _) (Nat.le_refl _) dX8_join_37 hQ ?_
    have hV : fJoin ss t x y = (-1, ss) := by rw [fJoin, if_neg (fun q => q.1.elim (fun z => absurd c2 (by rw [z]; decide)) (fun z => z.elim (fun z => absurd c2 (by rw [z]; decide)) (fun z => absurd c2 (by rw [z]; decide))))]
    exact ⟨⟨rfl, fun _ _ => rfl⟩, by rw [hV], by rw [hV]; exact hM⟩
  · skip
    refine lv_iload_n hx hb dX8_join_5 rfl (lv_at hl 1 rfl) ?_
    refine lv_iconst (v := 4) hx hb dX8_join_6 (by decide) ?_
    refine lv_icmp_gt (tgt := 26) hx hb dX8_join_7 (by decide) (fun c7 => ?_) (fun c7 => ?_)
    · skip
      refine lv_iconst (v := (-1)) hx hb dX8_join_26 (by decide) ?_
      refine lv_goto (tgt := 37) hx hb dX8_join_27 (by decide) ?_
      refine r_iret (v := (-1)) (mc := 0) (ms := 0) hx hb hr hlk hs (Nat.le_refl _) (Nat.le_refl _) dX8_join_37 hQ ?_
      have hV : fJoin ss t x y = (-1, ss) := by rw [fJoin, if_neg (fun q => q.1.elim (fun z => absurd c7 (by rw [z]; decide)) (fun z => z.elim (fun z => absurd c7 (by rw [z]; decide)) (fun z => absurd c7 (by rw [z]; decide))))]
      exact ⟨⟨rfl, fun _ _ => rfl⟩, by rw [hV], by rw [hV]; exact hM⟩
    · skip
      refine lv_aload_n hx hb dX8_join_10 rfl (lv_at hl 0 rfl) ?_
      refine lv_iload_n hx hb dX8_join_11 rfl (lv_at hl 2 rfl) ?_
      refine r_callViR (ci := 8) (As := [.int (x)]) hx hb hml hown hts hK hA hs (22) (by omega) (md22 hM) rfl rfl (c_X8_isStatement l G hM (x)) (cwV 1 hts (tbV w_ml_RX8_99 w_im_yX8_isStatement w_se_yX8_isStatement w_ini_RX8 w_cd_yX8_isStatement) rfl rfl rfl (by decide +kernel) ⟨Nat.le_of_ble_eq_true rfl, Nat.le_of_ble_eq_true rfl⟩) rfl hl.1 rfl (Nat.le_of_ble_eq_true rfl) dX8_join_12 ⟨Nat.zero_le _, Nat.zero_le _⟩ (fun H locs hs => ?_)
      refine lv_if_eq (tgt := 26) hx hb dX8_join_15 (by decide) (fun c15 => ?_) (fun c15 => ?_)
      · skip
        refine lv_iconst (v := (-1)) hx hb dX8_join_26 (by decide) ?_
        refine lv_goto (tgt := 37) hx hb dX8_join_27 (by decide) ?_
        refine r_iret (v := (-1)) (mc := 0) (ms := 0) hx hb hr hlk hs (Nat.le_refl _) (Nat.le_refl _) dX8_join_37 hQ ?_
        have hV : fJoin ss t x y = (-1, ss) := by rw [fJoin, if_neg (fun q => absurd q.2.1 (by rw [b2i_0 c15]; decide))]
        exact ⟨⟨rfl, fun _ _ => rfl⟩, by rw [hV], by rw [hV]; exact hM⟩
      · skip
        refine lv_aload_n hx hb dX8_join_18 rfl (lv_at hl 0 rfl) ?_
        refine lv_iload_n hx hb dX8_join_19 rfl (lv_at hl 3 rfl) ?_
        refine r_callViR (ci := 8) (As := [.int (y)]) hx hb hml hown hts hK hA hs (22) (by omega) (md22 hM) rfl rfl (c_X8_isStatement l G hM (y)) (cwV 1 hts (tbV w_ml_RX8_99 w_im_yX8_isStatement w_se_yX8_isStatement w_ini_RX8 w_cd_yX8_isStatement) rfl rfl rfl (by decide +kernel) ⟨Nat.le_of_ble_eq_true rfl, Nat.le_of_ble_eq_true rfl⟩) rfl hl.1 rfl (Nat.le_of_ble_eq_true rfl) dX8_join_20 ⟨Nat.zero_le _, Nat.zero_le _⟩ (fun H locs hs => ?_)
        refine lv_if_ne (tgt := 30) hx hb dX8_join_23 (by decide) (fun c23 => ?_) (fun c23 => ?_)
        · skip
          obtain ⟨k, hk0, hk1, hk2⟩ := holds_ex (b2i_1 c15)
          obtain ⟨j, hj0, hj1, hj2⟩ := holds_ex (b2i_1 c23)
          obtain ⟨so, ht0, ht1, ht2⟩ : ∃ so, t = nI so ∧ 2 ≤ so ∧ so ≤ 4 := by
            rcases i_23 c2 c7 with q | q | q
            · exact ⟨2, q, by decide, by decide⟩
            · exact ⟨3, q, by decide, by decide⟩
            · exact ⟨4, q, by decide, by decide⟩
          have hV : fJoin ss t x y = (sMakeR ss (so, k, j, 0, 0), sMake ss (so, k, j, 0, 0)) := by rw [fJoin, if_pos ⟨i_23 c2 c7, b2i_1 c15, b2i_1 c23⟩, hk0, hj0, ht0, tN_nI (by omega), tN_nI (by omega), tN_nI (by omega)]
          subst hk0 hj0 ht0
          refine lv_aload_n hx hb dX8_join_30 rfl (lv_at hl 0 rfl) ?_
          refine lv_iload_n hx hb dX8_join_31 rfl (lv_at hl 1 rfl) ?_
          refine lv_iload_n hx hb dX8_join_32 rfl (lv_at hl 2 rfl) ?_
          refine lv_iload_n hx hb dX8_join_33 rfl (lv_at hl 3 rfl) ?_
          refine r_callVi (ci := 8) (As := [.int (nI so), .int (nI k), .int (nI j)]) hx hb hml hown hts hK hA hs (22) (by omega) (md22 hM) rfl rfl (c_X8_make l G hM (so := so) (a := k) (b := j) (⟨rfl, Or.inr (Or.inr ⟨ht1, ht2, hk1, by show k < _; omega, hj1, by show j < _; omega⟩)⟩)) (cwV 3 hts (tbV w_ml_RX8_96 w_im_yX8_make w_se_yX8_make w_ini_RX8 w_cd_yX8_make) rfl rfl rfl (by decide +kernel) ⟨Nat.le_of_ble_eq_true rfl, Nat.le_of_ble_eq_true rfl⟩) rfl hl.1 rfl (Nat.le_of_ble_eq_true rfl) dX8_join_34 ⟨Nat.le_refl _, Nat.le_refl _⟩ (fun r_4 ad_1 en_2 H locs hp_3 hs => ?_)
          obtain ⟨⟨hAm_5, hFm_5⟩, hrm_5, hMm_5⟩ := hp_3
          subst hAm_5
          rw [hrm_5]
          have fr_6 : ∀ k, k < 22 → en_2 k = en k := fun k hk => Eq.trans (hFm_5 k hk) (fr0 k hk)
          refine r_iret (v := sMakeR ss (so, k, j, 0, 0)) (mc := 0) (ms := 0) hx hb hr hlk hs (Nat.le_refl _) (Nat.le_refl _) dX8_join_37 hQ ?_
          exact ⟨⟨rfl, fr_6⟩, by rw [hV], by rw [hV]; exact hMm_5⟩
        · skip
          refine lv_iconst (v := (-1)) hx hb dX8_join_26 (by decide) ?_
          refine lv_goto (tgt := 37) hx hb dX8_join_27 (by decide) ?_
          refine r_iret (v := (-1)) (mc := 0) (ms := 0) hx hb hr hlk hs (Nat.le_refl _) (Nat.le_refl _) dX8_join_37 hQ ?_
          have hV : fJoin ss t x y = (-1, ss) := by rw [fJoin, if_neg (fun q => absurd q.2.2 (by rw [b2i_0 c23]; decide))]
          exact ⟨⟨rfl, fun _ _ => rfl⟩, by rw [hV], by rw [hV]; exact hM⟩

set_option maxHeartbeats 600000 in
set_option maxRecDepth 100000 in
theorem c_X8_told (l : Launch) (G : rG) {n : Nat} {ad : Nat → Nat} {en : Nat → va_E} {ss ns : List Row} {c : Nat → Nat → Int32} {us : Int32} {ov : Int32} {dp : Int32} {cl : Int32}  (hM : MdW G n ad en ss ns c us ov dp cl) (x y : Int32) : CI l G yX8_told uX8_told (1) (21) (0) (0) [.ref (ad 22), .int (x), .int (y)] (n) (n) ad en (roV ad en (fTold ss x y)) := by
  intro sz
  refine rMet (Qc := qI G (n) (roV ad en (fTold ss x y))) (cc := cX8_told) (maxL := 3) (ret := (some .int)) (by decide) rfl (Nat.le_of_ble_eq_true rfl) ?_
  intro pP eE sS mM aA bB tT cC ls A Q hc hK hsz hA hs hl hQ
  obtain ⟨hx, hb, hr, hts, hown, hlk, hnm, hml⟩ := hc
  have hl : lv_has ls 3 [(0, .ref (ad 22)), (1, .int (x)), (2, .int (y))] := hl
  have fr0 : ∀ k, k < 22 → en k = en k := fun _ _ => rfl
  obtain ⟨hn48, -, -, -, hok, hnk⟩ := id hM
  have h6 := hok.1
  have h8 := hnk.1
  
  refine lv_aload_n hx hb dX8_told_0 rfl (lv_at hl 0 rfl) ?_
  refine lv_iload_n hx hb dX8_told_1 rfl (lv_at hl 1 rfl) ?_
  refine r_callViR (ci := 8) (As := [.int (x)]) hx hb hml hown hts hK hA hs (22) (by omega) (md22 hM) rfl rfl (c_X8_isStatement l G hM (x)) (cwV 1 hts (tbV w_ml_RX8_99 w_im_yX8_isStatement w_se_yX8_isStatement w_ini_RX8 w_cd_yX8_isStatement) rfl rfl rfl (by decide +kernel) ⟨Nat.le_of_ble_eq_true rfl, Nat.le_of_ble_eq_true rfl⟩) rfl hl.1 rfl (Nat.le_of_ble_eq_true rfl) dX8_told_2 ⟨Nat.zero_le _, Nat.zero_le _⟩ (fun H locs hs => ?_)
  refine lv_if_ne (tgt := 10) hx hb dX8_told_5 (by decide) (fun c5 => ?_) (fun c5 => ?_)
  · skip
    obtain ⟨k, hk0, hk1, hk2⟩ := holds_ex (b2i_1 c5)
    have hHk := b2i_1 c5
    subst hk0
    refine lv_iload_n hx hb dX8_told_10 rfl (lv_at hl 2 rfl) ?_
    refine lv_if_ne (tgt := 23) hx hb dX8_told_11 (by decide) (fun c11 => ?_) (fun c11 => ?_)
    · skip
      refine lv_iload_n hx hb dX8_told_23 rfl (lv_at hl 2 rfl) ?_
      refine lv_iconst (v := 1) hx hb dX8_told_24 (by decide) ?_
      refine lv_icmp_ne (tgt := 37) hx hb dX8_told_25 (by decide) (fun c25 => ?_) (fun c25 => ?_)
      · skip
        refine lv_iload_n hx hb dX8_told_37 rfl (lv_at hl 2 rfl) ?_
        refine lv_iconst (v := 2) hx hb dX8_told_38 (by decide) ?_
        refine lv_icmp_ne (tgt := 51) hx hb dX8_told_39 (by decide) (fun c39 => ?_) (fun c39 => ?_)
        · skip
          refine lv_iconst (v := (-1)) hx hb dX8_told_51 (by decide) ?_
          refine r_iret (v := (-1)) (mc := 0) (ms := 0) hx hb hr hlk hs (Nat.le_refl _) (Nat.le_refl _) dX8_told_52 hQ ?_
          exact roV.rf (by rw [fTold, if_neg (fun q => told_no c11 c25 c39 q.2)])
        · skip
          refine lv_aload_n hx hb dX8_told_42 rfl (lv_at hl 0 rfl) ?_
          refine r_get (ci := 8) (v := .ref (ad 25)) (C := RX8) (T := TX8) (N := 31) hx hb hts inlX8 hown hK hs (22) (by omega) (md22 hM) rfl 2 (by decide) (hts _ w_fl_RX8_16) rfl dX8_told_43 ?_
          refine lv_iload_n hx hb dX8_told_46 rfl (lv_at hl 1 rfl) ?_
          refine r_ialdN (t := k) hx hb hK hs (25) (by omega) (md25 hM) (rfl) (by omega) (by omega) dX8_told_47 ?_
          refine r_topi (y := nI (sR ss (k))) rfl ?_
          refine lv_goto (tgt := 52) hx hb dX8_told_48 (by decide) ?_
          refine r_iret (v := nI (sR ss (k))) (mc := 0) (ms := 0) hx hb hr hlk hs (Nat.le_refl _) (Nat.le_refl _) dX8_told_52 hQ ?_
          exact roV.rf (by rw [fTold, c39, if_pos ⟨hHk, by decide, by decide⟩]; exact (kGet_nI (c := 2) (by omega) (by omega) (by decide)).symm)
      · skip
        refine lv_aload_n hx hb dX8_told_28 rfl (lv_at hl 0 rfl) ?_
        refine r_get (ci := 8) (v := .ref (ad 24)) (C := RX8) (T := TX8) (N := 31) hx hb hts inlX8 hown hK hs (22) (by omega) (md22 hM) rfl 1 (by decide) (hts _ w_fl_RX8_13) rfl dX8_told_29 ?_
        refine lv_iload_n hx hb dX8_told_32 rfl (lv_at hl 1 rfl) ?_
        refine r_ialdN (t := k) hx hb hK hs (24) (by omega) (md24 hM) (rfl) (by omega) (by omega) dX8_told_33 ?_
        refine r_topi (y := nI (sL ss (k))) rfl ?_
        refine lv_goto (tgt := 52) hx hb dX8_told_34 (by decide) ?_
        refine r_iret (v := nI (sL ss (k))) (mc := 0) (ms := 0) hx hb hr hlk hs (Nat.le_refl _) (Nat.le_refl _) dX8_told_52 hQ ?_
        exact roV.rf (by rw [fTold, c25, if_pos ⟨hHk, by decide, by decide⟩]; exact (kGet_nI (c := 1) (by omega) (by omega) (by decide)).symm)
    · skip
      refine lv_aload_n hx hb dX8_told_14 rfl (lv_at hl 0 rfl) ?_
      refine r_get (ci := 8) (v := .ref (ad 23)) (C := RX8) (T := TX8) (N := 31) hx hb hts inlX8 hown hK hs (22) (by omega) (md22 hM) rfl 0 (by decide) (hts _ w_fl_RX8_7) rfl dX8_told_15 ?_
      refine lv_iload_n hx hb dX8_told_18 rfl (lv_at hl 1 rfl) ?_
      refine r_ialdN (t := k) hx hb hK hs (23) (by omega) (md23 hM) (rfl) (by omega) (by omega) dX8_told_19 ?_
      refine r_topi (y := nI (sSort ss (k))) rfl ?_
      refine lv_goto (tgt := 52) hx hb dX8_told_20 (by decide) ?_
      refine r_iret (v := nI (sSort ss (k))) (mc := 0) (ms := 0) hx hb hr hlk hs (Nat.le_refl _) (Nat.le_refl _) dX8_told_52 hQ ?_
      exact roV.rf (by rw [fTold, c11, if_pos ⟨hHk, by decide, by decide⟩]; exact (kGet_nI (c := 0) (by omega) (by omega) (by decide)).symm)
  · skip
    refine lv_iconst (v := (-1)) hx hb dX8_told_8 (by decide) ?_
    refine r_iret (v := (-1)) (mc := 0) (ms := 0) hx hb hr hlk hs (Nat.le_refl _) (Nat.le_refl _) dX8_told_9 hQ ?_
    exact roV.rf (by rw [fTold, if_neg (fun q => absurd q.1 (by rw [b2i_0 c5]; decide))])

set_option maxHeartbeats 600000 in
set_option maxRecDepth 100000 in
theorem c_X8_implication (l : Launch) (G : rG) {n : Nat} {ad : Nat → Nat} {en : Nat → va_E} {ss ns : List Row} {c : Nat → Nat → Int32} {us : Int32} {dp : Int32} {cl : Int32}  (hM : MdW G n ad en ss ns c us 0 dp cl) {a b : Nat} (ha : 1 ≤ a ∧ a ≤ ss.length) (hb1 : 1 ≤ b ∧ b ≤ ss.length) : CI l G yX8_implication uX8_implication (2) (48) (0) (0) [.ref (ad 22), .int (nI a), .int (nI b)] (n) (n) ad en (fun r ad1 en1 => mFr ad en ad1 en1 ∧ r = nI ((impS ss a b).getD 0) ∧ MdW G n ad en1 (impT ss a b) ns c us (if (impS ss a b).isNone then (-3) else 0) dp cl) := by
  intro sz
  refine rMet (Qc := qI G (n) (fun r ad1 en1 => mFr ad en ad1 en1 ∧ r = nI ((impS ss a b).getD 0) ∧ MdW G n ad en1 (impT ss a b) ns c us (if (impS ss a b).isNone then (-3) else 0) dp cl)) (cc := cX8_implication) (maxL := 4) (ret := (some .int)) (by decide) rfl (Nat.le_of_ble_eq_true rfl) ?_
  intro pP eE sS mM aA bB tT cC ls A Q hc hK hsz hA hs hl hQ
  obtain ⟨hx, hb, hr, hts, hown, hlk, hnm, hml⟩ := hc
  have hl : lv_has ls 4 [(0, .ref (ad 22)), (1, .int (nI a)), (2, .int (nI b))] := hl
  have fr0 : ∀ k, k < 22 → en k = en k := fun _ _ => rfl
  obtain ⟨hn48, -, -, -, hok, hnk⟩ := id hM
  have h6 := hok.1
  have h8 := hnk.1
  
  refine lv_aload_n hx hb dX8_implication_0 rfl (lv_at hl 0 rfl) ?_
  refine r_get (ci := 8) (v := .int (0)) (C := RX8) (T := TX8) (N := 31) hx hb hts inlX8 hown hK hs (22) (by omega) (md22 hM) rfl 11 (by decide) (hts _ w_fl_RX8_106) rfl dX8_implication_1 ?_
  refine lv_if_eq (tgt := 9) hx hb dX8_implication_4 (by decide) (fun _ => ?_) (fun c4 => absurd (rfl) c4)
  refine lv_aload_n hx hb dX8_implication_9 rfl (lv_at hl 0 rfl) ?_
  refine lv_iconst (v := 4) hx hb dX8_implication_10 (by decide) ?_
  refine lv_iload_n hx hb dX8_implication_11 rfl (lv_at hl 1 rfl) ?_
  refine lv_iload_n hx hb dX8_implication_12 rfl (lv_at hl 2 rfl) ?_
  refine r_callVi (ci := 8) (As := [.int (4), .int (nI a), .int (nI b)]) hx hb hml hown hts hK hA hs (22) (by omega) (md22 hM) rfl rfl (c_X8_make l G hM (so := 4) (a := a) (b := b) (⟨rfl, Or.inr (Or.inr ⟨(by decide : 2 ≤ 4), (by decide : 4 ≤ 4), ha.1, by show a < _; omega, hb1.1, by show b < _; omega⟩)⟩)) (cwV 3 hts (tbV w_ml_RX8_96 w_im_yX8_make w_se_yX8_make w_ini_RX8 w_cd_yX8_make) rfl rfl rfl (by decide +kernel) ⟨Nat.le_of_ble_eq_true rfl, Nat.le_of_ble_eq_true rfl⟩) rfl hl.1 rfl (Nat.le_of_ble_eq_true rfl) dX8_implication_13 ⟨Nat.le_refl _, Nat.le_refl _⟩ (fun r_4 ad_1 en_2 H locs hp_3 hs => ?_)
  obtain ⟨⟨hAm_5, hFm_5⟩, hrm_5, hMm_5⟩ := hp_3
  subst hAm_5
  rw [hrm_5]
  have fr_6 : ∀ k, k < 22 → en_2 k = en k := fun k hk => Eq.trans (hFm_5 k hk) (fr0 k hk)
  refine r_topi (y := aR (impS ss a b)) (impS_r _ _ _) ?_
  refine lv_istore_n (lv' := [(3, .int (aR (impS ss a b))), (0, .ref (ad 22)), (1, .int (nI a)), (2, .int (nI b))]) hx hb dX8_implication_16 rfl hl (by decide) rfl (fun ls hl => ?_)
  refine lv_iload_n hx hb dX8_implication_17 rfl (lv_at hl 0 rfl) ?_
  refine lv_bipush (v := (-3)) hx hb dX8_implication_18 (by decide) ?_
  refine lv_icmp_ne (tgt := 29) hx hb dX8_implication_20 (by decide) (fun c20 => ?_) (fun c20 => ?_)
  · skip
    obtain ⟨i1, hq1, ha1⟩ := aR_so c20
    refine lv_iload_n hx hb dX8_implication_29 rfl (lv_at hl 0 rfl) ?_
    refine lv_bipush (v := (-3)) hx hb dX8_implication_30 (by decide) ?_
    refine lv_icmp_ne (tgt := 39) hx hb dX8_implication_32 (by decide) (fun _ => ?_) (fun c32 => absurd c32 (c20))
    refine lv_iload_n hx hb dX8_implication_39 rfl (lv_at hl 0 rfl) ?_
    refine r_iret (v := aR (impS ss a b)) (mc := 0) (ms := 0) hx hb hr hlk hs (Nat.le_refl _) (Nat.le_refl _) dX8_implication_40 hQ ?_
    exact ⟨⟨rfl, fr_6⟩, by rw [hq1]; rfl, by rw [hq1]; exact hMm_5⟩
  · skip
    have hqn : impS ss a b = none := aR_no (impS_lt h6 a b) c20
    refine lv_aload_n hx hb dX8_implication_23 rfl (lv_at hl 1 rfl) ?_
    refine lv_bipush (v := (-3)) hx hb dX8_implication_24 (by decide) ?_
    refine r_put (ci := 8) (v := .int ((-3))) (ty := .int) (C := RX8) (T := TX8) (N := 31) (fs' := [.ref (ad 23), .ref (ad 24), .ref (ad 25), .int (nI (sMake ss (4, a, b, 0, 0)).length), .ref (ad 26), .ref (ad 27), .ref (ad 28), .ref (ad 29), .ref (ad 30), .int (nI ns.length), .int (us), .int ((-3)), .ref (ad 31), .ref (ad 32), .ref (ad 33), .ref (ad 34), .ref (ad 35), .int (dp), .ref (ad 36), .ref (ad 37), .ref (ad 38), .ref (ad 39), .ref (ad 40), .int (cl), .ref (ad 41), .ref (ad 42), .ref (ad 43), .ref (ad 44), .ref (ad 45), .ref (ad 46), .ref (ad 47)]) hx hb hts inlX8 tyX8 tyX8_ok nmX8 hown hK hs (22) (by omega) (md22 hMm_5) rfl 11 (by decide) (hts _ w_fl_RX8_106) (Or.inl rfl) (by decide +kernel) rfl rfl (Nat.le_of_ble_eq_true rfl) rfl dX8_implication_26 (fun H locs en_7 hen_7 hs => ?_)
    have hM_8 : MdW G n ad en_7 ((sMake ss (4, a, b, 0, 0))) ns c us ((-3)) dp cl := md_pu hMm_5 hen_7
    have fr_9 : ∀ k, k < 22 → en_7 k = en k := fun k hk => Eq.trans (by rw [hen_7]; exact va_up_ne _ _ (by omega)) (fr_6 k hk)
    refine lv_iload_n hx hb dX8_implication_29 rfl (lv_at hl 0 rfl) ?_
    refine lv_bipush (v := (-3)) hx hb dX8_implication_30 (by decide) ?_
    refine lv_icmp_ne (tgt := 39) hx hb dX8_implication_32 (by decide) (fun c32 => absurd (c20) c32) (fun _ => ?_)
    refine lv_iconst (v := 0) hx hb dX8_implication_35 (by decide) ?_
    refine lv_goto (tgt := 40) hx hb dX8_implication_36 (by decide) ?_
    refine r_iret (v := 0) (mc := 0) (ms := 0) hx hb hr hlk hs (Nat.le_refl _) (Nat.le_refl _) dX8_implication_40 hQ ?_
    exact ⟨⟨rfl, fr_9⟩, by rw [hqn]; rfl, by rw [hqn]; exact hM_8⟩

set_option maxHeartbeats 600000 in
set_option maxRecDepth 100000 in
theorem c_X8_implication0 (l : Launch) (G : rG) {n : Nat} {ad : Nat → Nat} {en : Nat → va_E} {ss ns : List Row} {c : Nat → Nat → Int32} {us : Int32} {ov : Int32} {dp : Int32} {cl : Int32}  (hM : MdW G n ad en ss ns c us ov dp cl) (x y : Int32) (hov : ¬ ov = 0) : CI l G yX8_implication uX8_implication (2) (48) (0) (0) [.ref (ad 22), .int (x), .int (y)] (n) (n) ad en (roV ad en 0) := by
  intro sz
  refine rMet (Qc := qI G (n) (roV ad en 0)) (cc := cX8_implication) (maxL := 4) (ret := (some .int)) (by decide) rfl (Nat.le_of_ble_eq_true rfl) ?_
  intro pP eE sS mM aA bB tT cC ls A Q hc hK hsz hA hs hl hQ
  obtain ⟨hx, hb, hr, hts, hown, hlk, hnm, hml⟩ := hc
  have hl : lv_has ls 4 [(0, .ref (ad 22)), (1, .int (x)), (2, .int (y))] := hl
  have fr0 : ∀ k, k < 22 → en k = en k := fun _ _ => rfl
  obtain ⟨hn48, -, -, -, hok, hnk⟩ := id hM
  have h6 := hok.1
  have h8 := hnk.1
  
  refine lv_aload_n hx hb dX8_implication_0 rfl (lv_at hl 0 rfl) ?_
  refine r_get (ci := 8) (v := .int (ov)) (C := RX8) (T := TX8) (N := 31) hx hb hts inlX8 hown hK hs (22) (by omega) (md22 hM) rfl 11 (by decide) (hts _ w_fl_RX8_106) rfl dX8_implication_1 ?_
  refine lv_if_eq (tgt := 9) hx hb dX8_implication_4 (by decide) (fun c4 => absurd c4 (hov)) (fun _ => ?_)
  refine lv_iconst (v := 0) hx hb dX8_implication_7 (by decide) ?_
  refine r_iret (v := 0) (mc := 0) (ms := 0) hx hb hr hlk hs (Nat.le_refl _) (Nat.le_refl _) dX8_implication_8 hQ ?_
  exact roV.rf rfl

set_option maxHeartbeats 600000 in
set_option maxRecDepth 100000 in
theorem c_X8_isOn (l : Launch) (G : rG) {n : Nat} {ad : Nat → Nat} {en : Nat → va_E} {ss ns : List Row} {c : Nat → Nat → Int32} {us : Int32} {ov : Int32} {dp : Int32} {cl : Int32}  (hM : MdW G n ad en ss ns c us ov dp cl) {k : Nat} (hk : 1 ≤ k ∧ k ≤ ns.length) {f : Nat} (hf : 1 ≤ f ∧ f ≤ 600) (hmk : MkI ns c k 0) : CI l G yX8_isOn uX8_isOn (0) (0) (0) (0) [.ref (ad 22), .int (nI k), .int (nI f)] (n) (n) ad en (mkPost G n ad en (b2i (restB ss ns k f)) ss ns us ov dp cl k) := by
  intro sz
  refine rMet (Qc := qI G (n) (mkPost G n ad en (b2i (restB ss ns k f)) ss ns us ov dp cl k)) (cc := cX8_isOn) (maxL := 9) (ret := (some .boolean)) (by decide) rfl (Nat.le_of_ble_eq_true rfl) ?_
  intro pP eE sS mM aA bB tT cC ls A Q hc hK hsz hA hs hl hQ
  obtain ⟨hx, hb, hr, hts, hown, hlk, hnm, hml⟩ := hc
  have hl : lv_has ls 9 [(0, .ref (ad 22)), (1, .int (nI k)), (2, .int (nI f))] := hl
  have fr0 : ∀ k, k < 22 → en k = en k := fun _ _ => rfl
  obtain ⟨hn48, -, -, -, hok, hnk⟩ := id hM
  have h6 := hok.1
  have h8 := hnk.1
  
  refine lv_aload_n hx hb dX8_isOn_0 rfl (lv_at hl 0 rfl) ?_
  refine r_get (ci := 8) (v := .ref (ad 46)) (C := RX8) (T := TX8) (N := 31) hx hb hts inlX8 hown hK hs (22) (by omega) (md22 hM) rfl 29 (by decide) (hts _ w_fl_RX8_82) rfl dX8_isOn_1 ?_
  refine lv_iconst (v := 0) hx hb dX8_isOn_4 (by decide) ?_
  refine lv_iconst (v := 0) hx hb dX8_isOn_5 (by decide) ?_
  refine r_zastN (t := 0) hx hb hK hs (46) (by omega) (md46 hM) (rfl) (by decide) (by decide) dX8_isOn_6 (fun H locs en_2 hen_2 hs => ?_)
  obtain ⟨c_4, ec_4⟩ : ∃ z, z = cU c 46 (0) (0) := ⟨_, rfl⟩
  have hM_3 : MdW G n ad en_2 ss ns c_4 us ov dp cl := md_ar (f := upd (c 46) (0) (0)) hM 46 (by decide) (by decide) (by rw [hen_2, show vp_nar .boolean 0 = 0 from rfl]; rfl) ec_4
  have fr_5 : ∀ k, k < 22 → en_2 k = en k := fun k hk => Eq.trans (by rw [hen_2]; exact va_up_ne _ _ (by omega)) (fr0 k hk)
  refine lv_iconst (v := 1) hx hb dX8_isOn_7 (by decide) ?_
  refine r_topi (y := nI 1) (rfl) ?_
  refine lv_istore_n (lv' := [(3, .int (nI 1)), (0, .ref (ad 22)), (1, .int (nI k)), (2, .int (nI f))]) hx hb dX8_isOn_8 rfl hl (by decide) rfl (fun ls hl => ?_)
  suffices LOOP9 : ∀ (fu9 : Nat) (j : Nat) (c2 : Nat → Nat → Int32) (en2 : Nat → va_E) (H : Heap) (locs : List Loc) (ls : Array Slot), (1 ≤ j ∧ j ≤ k + 1) → (MkI ns c2 k 0) → (c2 46 0 = 0) → (∀ i, 1 ≤ i → i < j → c2 45 i = 1 → c2 46 i = b2i (restB ss ns i f)) → (MdW G n ad en2 ss ns c2 us ov dp cl) → (∀ k, k < 22 → en2 k = en k) → k + 2 - j < fu9 → rS G A sS.heap (n) ad en2 H locs → lv_has ls 9 [(0, .ref (ad 22)), (1, .int (nI k)), (2, .int (nI f)), (3, .int (nI j))] → W pP l eE (rRm (0) (0) (0) (0)) sS mM aA bB tT cC H locs (0) (0) Q (F0 mM 9 ls []) from LOOP9 _ (1) (c_4) (en_2) _ _ _ (by omega) (by rw [ec_4]; exact mk_46 hmk) (by rw [ec_4]; exact cU_s) (fun i a b => by omega) (hM_3) (fr_5) (Nat.lt_succ_self _) hs (lv_sub hl [1, 2, 3, 0] rfl)
  intro fu9
  induction fu9 with
  | zero => intro j c2 en2 H locs ls hj hm2 hz hrs hM2 fr2 hfu; exact absurd hfu (Nat.not_lt_zero _)
  | succ fu9 ih9 => ?_
  intro j c2 en2 H locs ls hj hm2 hz hrs hM2 fr2 hfu9 hs hl
  refine lv_iload_n hx hb dX8_isOn_9 rfl (lv_at hl 3 rfl) ?_
  refine lv_iload_n hx hb dX8_isOn_10 rfl (lv_at hl 1 rfl) ?_
  refine lv_icmp_gt (tgt := 274) hx hb dX8_isOn_11 (by decide) (fun c11 => ?_) (fun c11 => ?_)
  · skip
    have hjk : j = k + 1 := by have := (nI_ltI (by omega) (by omega)).mp c11; omega
    refine lv_aload_n hx hb dX8_isOn_274 rfl (lv_at hl 0 rfl) ?_
    refine r_get (ci := 8) (v := .ref (ad 46)) (C := RX8) (T := TX8) (N := 31) hx hb hts inlX8 hown hK hs (22) (by omega) (md22 hM2) rfl 29 (by decide) (hts _ w_fl_RX8_82) rfl dX8_isOn_275 ?_
    refine lv_iload_n hx hb dX8_isOn_278 rfl (lv_at hl 1 rfl) ?_
    refine r_zaldN (t := k) hx hb hK hs (46) (by omega) (md46 hM2) (rfl) (by omega) (by omega) dX8_isOn_279 ?_
    refine r_topi (y := b2i (restB ss ns k f)) (hrs k hk.1 (by omega) hm2.2.1) ?_
    refine r_zret (v := b2i (restB ss ns k f)) (mc := 0) (ms := 0) hx hb hr hlk hs (Nat.le_refl _) (Nat.le_refl _) dX8_isOn_280 ?_ hQ ?_
    · first | exact Or.inl rfl | exact Or.inr rfl | exact b2i_z _
    exact ⟨⟨rfl, fr2⟩, rfl, _, hM2, hm2⟩
  · skip
    have hjk : j ≤ k := Nat.le_of_not_lt (fun q => c11 ((nI_ltI (by omega) (by omega)).mpr q))
    refine lv_aload_n hx hb dX8_isOn_14 rfl (lv_at hl 0 rfl) ?_
    refine r_get (ci := 8) (v := .ref (ad 45)) (C := RX8) (T := TX8) (N := 31) hx hb hts inlX8 hown hK hs (22) (by omega) (md22 hM2) rfl 28 (by decide) (hts _ w_fl_RX8_78) rfl dX8_isOn_15 ?_
    refine lv_iload_n hx hb dX8_isOn_18 rfl (lv_at hl 3 rfl) ?_
    refine r_zaldN (t := j) hx hb hK hs (45) (by omega) (md45 hM2) (rfl) (by omega) (by omega) dX8_isOn_19 ?_
    refine lv_if_ne (tgt := 26) hx hb dX8_isOn_20 (by decide) (fun c20 => ?_) (fun c20 => ?_)
    · skip
      have hm1 : c2 45 j = 1 := (hm2.1 j hj.1 (by omega)).resolve_left c20
      obtain ⟨p1, p2, p3, p4, p5⟩ := part_lt hnk (k := j) ⟨by omega, by omega⟩
      have hgA := nG_le hnk (nA ns j)
      obtain ⟨z1, z2, z3⟩ := hm2.2.2.1 j (by omega) (by omega) hm1
      have hrA := on_part hz hrs z1 p3
      have hrB := on_part hz hrs z2 p4
      have hrC := on_part hz hrs z3 p5
      have hE0 := on_E hnk (k := j) (f := f) ⟨by omega, by omega⟩
      obtain ⟨hq0, hq1⟩ := part_0 hnk (k := j) ⟨by omega, by omega⟩
      have hsl := sLR_lt hok (nG ns j)
      have hsA := sLR_lt hok (nG ns (nA ns j))
      refine lv_aload_n hx hb dX8_isOn_26 rfl (lv_at hl 0 rfl) ?_
      refine r_get (ci := 8) (v := .ref (ad 27)) (C := RX8) (T := TX8) (N := 31) hx hb hts inlX8 hown hK hs (22) (by omega) (md22 hM2) rfl 5 (by decide) (hts _ w_fl_RX8_22) rfl dX8_isOn_27 ?_
      refine lv_iload_n hx hb dX8_isOn_30 rfl (lv_at hl 3 rfl) ?_
      refine r_ialdN (t := j) hx hb hK hs (27) (by omega) (md27 hM2) (rfl) (by omega) (by omega) dX8_isOn_31 ?_
      refine r_topi (y := nI (nG ns (j))) rfl ?_
      refine lv_istore (lv' := [(4, .int (nI (nG ns (j)))), (0, .ref (ad 22)), (1, .int (nI k)), (2, .int (nI f)), (3, .int (nI j))]) hx hb dX8_isOn_32 hl (by decide) rfl (fun ls hl => ?_)
      refine lv_aload_n hx hb dX8_isOn_34 rfl (lv_at hl 1 rfl) ?_
      refine r_get (ci := 8) (v := .ref (ad 27)) (C := RX8) (T := TX8) (N := 31) hx hb hts inlX8 hown hK hs (22) (by omega) (md22 hM2) rfl 5 (by decide) (hts _ w_fl_RX8_22) rfl dX8_isOn_35 ?_
      refine lv_aload_n hx hb dX8_isOn_38 rfl (lv_at hl 1 rfl) ?_
      refine r_get (ci := 8) (v := .ref (ad 28)) (C := RX8) (T := TX8) (N := 31) hx hb hts inlX8 hown hK hs (22) (by omega) (md22 hM2) rfl 6 (by decide) (hts _ w_fl_RX8_25) rfl dX8_isOn_39 ?_
      refine lv_iload_n hx hb dX8_isOn_42 rfl (lv_at hl 4 rfl) ?_
      refine r_ialdN (t := j) hx hb hK hs (28) (by omega) (md28 hM2) (rfl) (by omega) (by omega) dX8_isOn_43 ?_
      refine r_topi (y := nI (nA ns (j))) rfl ?_
      refine r_ialdN (t := nA ns (j)) hx hb hK hs (27) (by omega) (md27 hM2) (rfl) (by omega) (by omega) dX8_isOn_44 ?_
      refine r_topi (y := nI (nG ns (nA ns (j)))) rfl ?_
      refine lv_istore (lv' := [(5, .int (nI (nG ns (nA ns (j))))), (4, .int (nI (nG ns (j)))), (0, .ref (ad 22)), (1, .int (nI k)), (2, .int (nI f)), (3, .int (nI j))]) hx hb dX8_isOn_45 hl (by decide) rfl (fun ls hl => ?_)
      refine lv_aload_n hx hb dX8_isOn_47 rfl (lv_at hl 2 rfl) ?_
      refine r_get (ci := 8) (v := .ref (ad 46)) (C := RX8) (T := TX8) (N := 31) hx hb hts inlX8 hown hK hs (22) (by omega) (md22 hM2) rfl 29 (by decide) (hts _ w_fl_RX8_82) rfl dX8_isOn_48 ?_
      refine lv_aload_n hx hb dX8_isOn_51 rfl (lv_at hl 2 rfl) ?_
      refine r_get (ci := 8) (v := .ref (ad 28)) (C := RX8) (T := TX8) (N := 31) hx hb hts inlX8 hown hK hs (22) (by omega) (md22 hM2) rfl 6 (by decide) (hts _ w_fl_RX8_25) rfl dX8_isOn_52 ?_
      refine lv_iload_n hx hb dX8_isOn_55 rfl (lv_at hl 5 rfl) ?_
      refine r_ialdN (t := j) hx hb hK hs (28) (by omega) (md28 hM2) (rfl) (by omega) (by omega) dX8_isOn_56 ?_
      refine r_topi (y := nI (nA ns (j))) rfl ?_
      refine r_zaldN (t := nA ns (j)) hx hb hK hs (46) (by omega) (md46 hM2) (rfl) (by omega) (by omega) dX8_isOn_57 ?_
      refine r_topi (y := b2i (restB ss ns (nA ns j) f)) (hrA) ?_
      refine lv_istore (lv' := [(6, .int (b2i (restB ss ns (nA ns j) f))), (5, .int (nI (nG ns (nA ns (j))))), (4, .int (nI (nG ns (j)))), (0, .ref (ad 22)), (1, .int (nI k)), (2, .int (nI f)), (3, .int (nI j))]) hx hb dX8_isOn_58 hl (by decide) rfl (fun ls hl => ?_)
      refine lv_aload_n hx hb dX8_isOn_60 rfl (lv_at hl 3 rfl) ?_
      refine r_get (ci := 8) (v := .ref (ad 46)) (C := RX8) (T := TX8) (N := 31) hx hb hts inlX8 hown hK hs (22) (by omega) (md22 hM2) rfl 29 (by decide) (hts _ w_fl_RX8_82) rfl dX8_isOn_61 ?_
      refine lv_aload_n hx hb dX8_isOn_64 rfl (lv_at hl 3 rfl) ?_
      refine r_get (ci := 8) (v := .ref (ad 29)) (C := RX8) (T := TX8) (N := 31) hx hb hts inlX8 hown hK hs (22) (by omega) (md22 hM2) rfl 7 (by decide) (hts _ w_fl_RX8_28) rfl dX8_isOn_65 ?_
      refine lv_iload_n hx hb dX8_isOn_68 rfl (lv_at hl 6 rfl) ?_
      refine r_ialdN (t := j) hx hb hK hs (29) (by omega) (md29 hM2) (rfl) (by omega) (by omega) dX8_isOn_69 ?_
      refine r_topi (y := nI (nB ns (j))) rfl ?_
      refine r_zaldN (t := nB ns (j)) hx hb hK hs (46) (by omega) (md46 hM2) (rfl) (by omega) (by omega) dX8_isOn_70 ?_
      refine r_topi (y := b2i (restB ss ns (nB ns j) f)) (hrB) ?_
      refine lv_istore (lv' := [(7, .int (b2i (restB ss ns (nB ns j) f))), (6, .int (b2i (restB ss ns (nA ns j) f))), (5, .int (nI (nG ns (nA ns (j))))), (4, .int (nI (nG ns (j)))), (0, .ref (ad 22)), (1, .int (nI k)), (2, .int (nI f)), (3, .int (nI j))]) hx hb dX8_isOn_71 hl (by decide) rfl (fun ls hl => ?_)
      refine lv_aload_n hx hb dX8_isOn_73 rfl (lv_at hl 4 rfl) ?_
      refine r_get (ci := 8) (v := .ref (ad 46)) (C := RX8) (T := TX8) (N := 31) hx hb hts inlX8 hown hK hs (22) (by omega) (md22 hM2) rfl 29 (by decide) (hts _ w_fl_RX8_82) rfl dX8_isOn_74 ?_
      refine lv_aload_n hx hb dX8_isOn_77 rfl (lv_at hl 4 rfl) ?_
      refine r_get (ci := 8) (v := .ref (ad 30)) (C := RX8) (T := TX8) (N := 31) hx hb hts inlX8 hown hK hs (22) (by omega) (md22 hM2) rfl 8 (by decide) (hts _ w_fl_RX8_31) rfl dX8_isOn_78 ?_
      refine lv_iload_n hx hb dX8_isOn_81 rfl (lv_at hl 7 rfl) ?_
      refine r_ialdN (t := j) hx hb hK hs (30) (by omega) (md30 hM2) (rfl) (by omega) (by omega) dX8_isOn_82 ?_
      refine r_topi (y := nI (nC ns (j))) rfl ?_
      refine r_zaldN (t := nC ns (j)) hx hb hK hs (46) (by omega) (md46 hM2) (rfl) (by omega) (by omega) dX8_isOn_83 ?_
      refine r_topi (y := b2i (restB ss ns (nC ns j) f)) (hrC) ?_
      refine lv_istore (lv' := [(8, .int (b2i (restB ss ns (nC ns j) f))), (7, .int (b2i (restB ss ns (nB ns j) f))), (6, .int (b2i (restB ss ns (nA ns j) f))), (5, .int (nI (nG ns (nA ns (j))))), (4, .int (nI (nG ns (j)))), (0, .ref (ad 22)), (1, .int (nI k)), (2, .int (nI f)), (3, .int (nI j))]) hx hb dX8_isOn_84 hl (by decide) rfl (fun ls hl => ?_)
      have JOIN242 : ∀ (b6 b7 b8 : Bool) (ls : Array Slot), restB ss ns j f = (b6 || b7 || b8) → lv_has ls 9 [(8, .int (b2i b8)), (7, .int (b2i b7)), (6, .int (b2i b6)), (5, .int (nI (nG ns (nA ns (j))))), (4, .int (nI (nG ns (j)))), (0, .ref (ad 22)), (1, .int (nI k)), (2, .int (nI f)), (3, .int (nI j))] → W pP l eE (rRm (0) (0) (0) (0)) sS mM aA bB tT cC H locs (0) (0) Q (F0 mM 242 ls []) := by
        intro b6 b7 b8 ls hE hl
        refine lv_aload_n hx hb dX8_isOn_242 rfl (lv_at hl 5 rfl) ?_
        refine r_get (ci := 8) (v := .ref (ad 46)) (C := RX8) (T := TX8) (N := 31) hx hb hts inlX8 hown hK hs (22) (by omega) (md22 hM2) rfl 29 (by decide) (hts _ w_fl_RX8_82) rfl dX8_isOn_243 ?_
        refine lv_iload_n hx hb dX8_isOn_246 rfl (lv_at hl 8 rfl) ?_
        refine lv_iload hx hb dX8_isOn_247 (lv_at hl 2 rfl) ?_
        refine lv_if_ne (tgt := 262) hx hb dX8_isOn_249 (by decide) (fun c249 => ?_) (fun c249 => ?_)
        · skip
          refine lv_iconst (v := 1) hx hb dX8_isOn_262 (by decide) ?_
          refine lv_goto (tgt := 267) hx hb dX8_isOn_263 (by decide) ?_
          refine r_zastN (t := j) hx hb hK hs (46) (by omega) (md46 hM2) (rfl) (by omega) (by omega) dX8_isOn_267 (fun H locs en_7 hen_7 hs => ?_)
          obtain ⟨c_9, ec_9⟩ : ∃ z, z = cU c2 46 (j) (1) := ⟨_, rfl⟩
          have hM_8 : MdW G n ad en_7 ss ns c_9 us ov dp cl := md_ar (f := upd (c2 46) (j) (1)) hM2 46 (by decide) (by decide) (by rw [hen_7, show vp_nar .boolean 1 = 1 from rfl]; rfl) ec_9
          have fr_10 : ∀ k, k < 22 → en_7 k = en k := fun k hk => Eq.trans (by rw [hen_7]; exact va_up_ne _ _ (by omega)) (fr2 k hk)
          refine lv_iinc (v := nI (j + 1)) (lv' := [(3, .int (nI (j + 1))), (8, .int (b2i b8)), (7, .int (b2i b7)), (6, .int (b2i b6)), (5, .int (nI (nG ns (nA ns (j))))), (4, .int (nI (nG ns (j)))), (0, .ref (ad 22)), (1, .int (nI k)), (2, .int (nI f))]) hx hb dX8_isOn_268 hl (k := 8) rfl (nI_add j 1) (by decide) rfl (fun ls hl => ?_)
          refine lv_goto (tgt := 9) hx hb dX8_isOn_271 (by decide) ?_
          exact ih9 (j + 1) (c_9) (en_7) _ _ _ (by omega) (by rw [ec_9]; exact mk_46 hm2) (by rw [ec_9, cU_o (Or.inr (by omega))]; exact hz) (by rw [ec_9]; exact on_step hrs (by rw [hE, b2i_1 c249]; first | rfl | (cases b6 <;> cases b7 <;> rfl) | (cases b6 <;> rfl))) (hM_8) (fr_10) (by omega) hs (lv_sub hl [6, 7, 8, 0] rfl)
        · skip
          refine lv_iload hx hb dX8_isOn_252 (lv_at hl 1 rfl) ?_
          refine lv_if_ne (tgt := 262) hx hb dX8_isOn_254 (by decide) (fun c254 => ?_) (fun c254 => ?_)
          · skip
            refine lv_iconst (v := 1) hx hb dX8_isOn_262 (by decide) ?_
            refine lv_goto (tgt := 267) hx hb dX8_isOn_263 (by decide) ?_
            refine r_zastN (t := j) hx hb hK hs (46) (by omega) (md46 hM2) (rfl) (by omega) (by omega) dX8_isOn_267 (fun H locs en_12 hen_12 hs => ?_)
            obtain ⟨c_14, ec_14⟩ : ∃ z, z = cU c2 46 (j) (1) := ⟨_, rfl⟩
            have hM_13 : MdW G n ad en_12 ss ns c_14 us ov dp cl := md_ar (f := upd (c2 46) (j) (1)) hM2 46 (by decide) (by decide) (by rw [hen_12, show vp_nar .boolean 1 = 1 from rfl]; rfl) ec_14
            have fr_15 : ∀ k, k < 22 → en_12 k = en k := fun k hk => Eq.trans (by rw [hen_12]; exact va_up_ne _ _ (by omega)) (fr2 k hk)
            refine lv_iinc (v := nI (j + 1)) (lv' := [(3, .int (nI (j + 1))), (8, .int (b2i b8)), (7, .int (b2i b7)), (6, .int (b2i b6)), (5, .int (nI (nG ns (nA ns (j))))), (4, .int (nI (nG ns (j)))), (0, .ref (ad 22)), (1, .int (nI k)), (2, .int (nI f))]) hx hb dX8_isOn_268 hl (k := 8) rfl (nI_add j 1) (by decide) rfl (fun ls hl => ?_)
            refine lv_goto (tgt := 9) hx hb dX8_isOn_271 (by decide) ?_
            exact ih9 (j + 1) (c_14) (en_12) _ _ _ (by omega) (by rw [ec_14]; exact mk_46 hm2) (by rw [ec_14, cU_o (Or.inr (by omega))]; exact hz) (by rw [ec_14]; exact on_step hrs (by rw [hE, b2i_1 c254]; first | rfl | (cases b6 <;> cases b7 <;> rfl) | (cases b6 <;> rfl))) (hM_13) (fr_15) (by omega) hs (lv_sub hl [6, 7, 8, 0] rfl)
          · skip
            refine lv_iload hx hb dX8_isOn_257 (lv_at hl 0 rfl) ?_
            refine lv_if_eq (tgt := 266) hx hb dX8_isOn_259 (by decide) (fun c259 => ?_) (fun c259 => ?_)
            · skip
              refine lv_iconst (v := 0) hx hb dX8_isOn_266 (by decide) ?_
              refine r_zastN (t := j) hx hb hK hs (46) (by omega) (md46 hM2) (rfl) (by omega) (by omega) dX8_isOn_267 (fun H locs en_17 hen_17 hs => ?_)
              obtain ⟨c_19, ec_19⟩ : ∃ z, z = cU c2 46 (j) (0) := ⟨_, rfl⟩
              have hM_18 : MdW G n ad en_17 ss ns c_19 us ov dp cl := md_ar (f := upd (c2 46) (j) (0)) hM2 46 (by decide) (by decide) (by rw [hen_17, show vp_nar .boolean 0 = 0 from rfl]; rfl) ec_19
              have fr_20 : ∀ k, k < 22 → en_17 k = en k := fun k hk => Eq.trans (by rw [hen_17]; exact va_up_ne _ _ (by omega)) (fr2 k hk)
              refine lv_iinc (v := nI (j + 1)) (lv' := [(3, .int (nI (j + 1))), (8, .int (b2i b8)), (7, .int (b2i b7)), (6, .int (b2i b6)), (5, .int (nI (nG ns (nA ns (j))))), (4, .int (nI (nG ns (j)))), (0, .ref (ad 22)), (1, .int (nI k)), (2, .int (nI f))]) hx hb dX8_isOn_268 hl (k := 8) rfl (nI_add j 1) (by decide) rfl (fun ls hl => ?_)
              refine lv_goto (tgt := 9) hx hb dX8_isOn_271 (by decide) ?_
              exact ih9 (j + 1) (c_19) (en_17) _ _ _ (by omega) (by rw [ec_19]; exact mk_46 hm2) (by rw [ec_19, cU_o (Or.inr (by omega))]; exact hz) (by rw [ec_19]; exact on_step hrs (by rw [hE, b2i_0 c249, b2i_0 c254, b2i_0 c259]; first | rfl | (cases b6 <;> cases b7 <;> rfl) | (cases b6 <;> rfl))) (hM_18) (fr_20) (by omega) hs (lv_sub hl [6, 7, 8, 0] rfl)
            · skip
              refine lv_iconst (v := 1) hx hb dX8_isOn_262 (by decide) ?_
              refine lv_goto (tgt := 267) hx hb dX8_isOn_263 (by decide) ?_
              refine r_zastN (t := j) hx hb hK hs (46) (by omega) (md46 hM2) (rfl) (by omega) (by omega) dX8_isOn_267 (fun H locs en_22 hen_22 hs => ?_)
              obtain ⟨c_24, ec_24⟩ : ∃ z, z = cU c2 46 (j) (1) := ⟨_, rfl⟩
              have hM_23 : MdW G n ad en_22 ss ns c_24 us ov dp cl := md_ar (f := upd (c2 46) (j) (1)) hM2 46 (by decide) (by decide) (by rw [hen_22, show vp_nar .boolean 1 = 1 from rfl]; rfl) ec_24
              have fr_25 : ∀ k, k < 22 → en_22 k = en k := fun k hk => Eq.trans (by rw [hen_22]; exact va_up_ne _ _ (by omega)) (fr2 k hk)
              refine lv_iinc (v := nI (j + 1)) (lv' := [(3, .int (nI (j + 1))), (8, .int (b2i b8)), (7, .int (b2i b7)), (6, .int (b2i b6)), (5, .int (nI (nG ns (nA ns (j))))), (4, .int (nI (nG ns (j)))), (0, .ref (ad 22)), (1, .int (nI k)), (2, .int (nI f))]) hx hb dX8_isOn_268 hl (k := 8) rfl (nI_add j 1) (by decide) rfl (fun ls hl => ?_)
              refine lv_goto (tgt := 9) hx hb dX8_isOn_271 (by decide) ?_
              exact ih9 (j + 1) (c_24) (en_22) _ _ _ (by omega) (by rw [ec_24]; exact mk_46 hm2) (by rw [ec_24, cU_o (Or.inr (by omega))]; exact hz) (by rw [ec_24]; exact on_step hrs (by rw [hE, b2i_1 c259]; first | rfl | (cases b6 <;> cases b7 <;> rfl) | (cases b6 <;> rfl))) (hM_23) (fr_25) (by omega) hs (lv_sub hl [6, 7, 8, 0] rfl)
      have hT : nT ns j = 0 ∨ nT ns j = 1 ∨ nT ns j = 8 ∨ (¬ nT ns j = 0 ∧ ¬ nT ns j = 1 ∧ ¬ nT ns j = 8) := by omega
      rcases hT with hT | hT | hT | hT
      · skip
        rw [if_pos hT] at hE0
        refine lv_aload_n hx hb dX8_isOn_86 rfl (lv_at hl 5 rfl) ?_
        refine r_get (ci := 8) (v := .ref (ad 26)) (C := RX8) (T := TX8) (N := 31) hx hb hts inlX8 hown hK hs (22) (by omega) (md22 hM2) rfl 4 (by decide) (hts _ w_fl_RX8_19) rfl dX8_isOn_87 ?_
        refine lv_iload_n hx hb dX8_isOn_90 rfl (lv_at hl 8 rfl) ?_
        refine r_ialdN (t := j) hx hb hK hs (26) (by omega) (md26 hM2) (rfl) (by omega) (by omega) dX8_isOn_91 ?_
        refine r_topi (y := nI (nT ns (j))) rfl ?_
        refine lv_if_ne (tgt := 108) hx hb dX8_isOn_92 (by decide) (fun c92 => absurd (by rw [hT]; rfl) c92) (fun _ => ?_)
        refine lv_iload hx hb dX8_isOn_95 (lv_at hl 4 rfl) ?_
        refine lv_iload_n hx hb dX8_isOn_97 rfl (lv_at hl 7 rfl) ?_
        refine lv_icmp_ne (tgt := 105) hx hb dX8_isOn_98 (by decide) (fun c98 => ?_) (fun c98 => ?_)
        · skip
          refine lv_iconst (v := 0) hx hb dX8_isOn_105 (by decide) ?_
          refine r_topi (y := b2i (decide (nG ns j = f))) (by rw [decide_eq_false (fun q => c98 (by rw [q]))]; rfl) ?_
          refine lv_istore (lv' := [(6, .int (b2i (decide (nG ns j = f)))), (8, .int (b2i (restB ss ns (nC ns j) f))), (7, .int (b2i (restB ss ns (nB ns j) f))), (5, .int (nI (nG ns (nA ns (j))))), (4, .int (nI (nG ns (j)))), (0, .ref (ad 22)), (1, .int (nI k)), (2, .int (nI f)), (3, .int (nI j))]) hx hb dX8_isOn_106 hl (by decide) rfl (fun ls hl => ?_)
          refine lv_aload_n hx hb dX8_isOn_108 rfl (lv_at hl 5 rfl) ?_
          refine r_get (ci := 8) (v := .ref (ad 26)) (C := RX8) (T := TX8) (N := 31) hx hb hts inlX8 hown hK hs (22) (by omega) (md22 hM2) rfl 4 (by decide) (hts _ w_fl_RX8_19) rfl dX8_isOn_109 ?_
          refine lv_iload_n hx hb dX8_isOn_112 rfl (lv_at hl 8 rfl) ?_
          refine r_ialdN (t := j) hx hb hK hs (26) (by omega) (md26 hM2) (rfl) (by omega) (by omega) dX8_isOn_113 ?_
          refine r_topi (y := nI (nT ns (j))) rfl ?_
          refine lv_iconst (v := 1) hx hb dX8_isOn_114 (by decide) ?_
          refine lv_icmp_ne (tgt := 152) hx hb dX8_isOn_115 (by decide) (fun _ => ?_) (fun c115 => absurd c115 (fun q => by have := sw_nI (v := 1) q rfl (by omega) (by decide); omega))
          refine lv_aload_n hx hb dX8_isOn_152 rfl (lv_at hl 5 rfl) ?_
          refine r_get (ci := 8) (v := .ref (ad 26)) (C := RX8) (T := TX8) (N := 31) hx hb hts inlX8 hown hK hs (22) (by omega) (md22 hM2) rfl 4 (by decide) (hts _ w_fl_RX8_19) rfl dX8_isOn_153 ?_
          refine lv_iload_n hx hb dX8_isOn_156 rfl (lv_at hl 8 rfl) ?_
          refine r_ialdN (t := j) hx hb hK hs (26) (by omega) (md26 hM2) (rfl) (by omega) (by omega) dX8_isOn_157 ?_
          refine r_topi (y := nI (nT ns (j))) rfl ?_
          refine lv_bipush (v := 8) hx hb dX8_isOn_158 (by decide) ?_
          refine lv_icmp_ne (tgt := 197) hx hb dX8_isOn_160 (by decide) (fun _ => ?_) (fun c160 => absurd c160 (fun q => by have := sw_nI (v := 8) q rfl (by omega) (by decide); omega))
          refine lv_aload_n hx hb dX8_isOn_197 rfl (lv_at hl 5 rfl) ?_
          refine r_get (ci := 8) (v := .ref (ad 26)) (C := RX8) (T := TX8) (N := 31) hx hb hts inlX8 hown hK hs (22) (by omega) (md22 hM2) rfl 4 (by decide) (hts _ w_fl_RX8_19) rfl dX8_isOn_198 ?_
          refine lv_iload_n hx hb dX8_isOn_201 rfl (lv_at hl 8 rfl) ?_
          refine r_ialdN (t := j) hx hb hK hs (26) (by omega) (md26 hM2) (rfl) (by omega) (by omega) dX8_isOn_202 ?_
          refine r_topi (y := nI (nT ns (j))) rfl ?_
          refine lv_bipush (v := 8) hx hb dX8_isOn_203 (by decide) ?_
          refine lv_icmp_ne (tgt := 242) hx hb dX8_isOn_205 (by decide) (fun _ => ?_) (fun c205 => absurd c205 (fun q => by have := sw_nI (v := 8) q rfl (by omega) (by decide); omega))
          exact JOIN242 (decide (nG ns j = f)) (restB ss ns (nB ns j) f) (restB ss ns (nC ns j) f) _ (by rw [hE0, (hq0 hT).2.1, (hq0 hT).2.2, rstB_0]; exact (Bool.or_false _).symm.trans (congrArg (· || false) (Bool.or_false _).symm)) (lv_sub hl [1, 2, 0, 3, 4, 5, 6, 7, 8] rfl)
        · skip
          refine lv_iconst (v := 1) hx hb dX8_isOn_101 (by decide) ?_
          refine lv_goto (tgt := 106) hx hb dX8_isOn_102 (by decide) ?_
          refine r_topi (y := b2i (decide (nG ns j = f))) (by rw [decide_eq_true ((nI_eq (by omega) (by omega)).mp c98)]; rfl) ?_
          refine lv_istore (lv' := [(6, .int (b2i (decide (nG ns j = f)))), (8, .int (b2i (restB ss ns (nC ns j) f))), (7, .int (b2i (restB ss ns (nB ns j) f))), (5, .int (nI (nG ns (nA ns (j))))), (4, .int (nI (nG ns (j)))), (0, .ref (ad 22)), (1, .int (nI k)), (2, .int (nI f)), (3, .int (nI j))]) hx hb dX8_isOn_106 hl (by decide) rfl (fun ls hl => ?_)
          refine lv_aload_n hx hb dX8_isOn_108 rfl (lv_at hl 5 rfl) ?_
          refine r_get (ci := 8) (v := .ref (ad 26)) (C := RX8) (T := TX8) (N := 31) hx hb hts inlX8 hown hK hs (22) (by omega) (md22 hM2) rfl 4 (by decide) (hts _ w_fl_RX8_19) rfl dX8_isOn_109 ?_
          refine lv_iload_n hx hb dX8_isOn_112 rfl (lv_at hl 8 rfl) ?_
          refine r_ialdN (t := j) hx hb hK hs (26) (by omega) (md26 hM2) (rfl) (by omega) (by omega) dX8_isOn_113 ?_
          refine r_topi (y := nI (nT ns (j))) rfl ?_
          refine lv_iconst (v := 1) hx hb dX8_isOn_114 (by decide) ?_
          refine lv_icmp_ne (tgt := 152) hx hb dX8_isOn_115 (by decide) (fun _ => ?_) (fun c115 => absurd c115 (fun q => by have := sw_nI (v := 1) q rfl (by omega) (by decide); omega))
          refine lv_aload_n hx hb dX8_isOn_152 rfl (lv_at hl 5 rfl) ?_
          refine r_get (ci := 8) (v := .ref (ad 26)) (C := RX8) (T := TX8) (N := 31) hx hb hts inlX8 hown hK hs (22) (by omega) (md22 hM2) rfl 4 (by decide) (hts _ w_fl_RX8_19) rfl dX8_isOn_153 ?_
          refine lv_iload_n hx hb dX8_isOn_156 rfl (lv_at hl 8 rfl) ?_
          refine r_ialdN (t := j) hx hb hK hs (26) (by omega) (md26 hM2) (rfl) (by omega) (by omega) dX8_isOn_157 ?_
          refine r_topi (y := nI (nT ns (j))) rfl ?_
          refine lv_bipush (v := 8) hx hb dX8_isOn_158 (by decide) ?_
          refine lv_icmp_ne (tgt := 197) hx hb dX8_isOn_160 (by decide) (fun _ => ?_) (fun c160 => absurd c160 (fun q => by have := sw_nI (v := 8) q rfl (by omega) (by decide); omega))
          refine lv_aload_n hx hb dX8_isOn_197 rfl (lv_at hl 5 rfl) ?_
          refine r_get (ci := 8) (v := .ref (ad 26)) (C := RX8) (T := TX8) (N := 31) hx hb hts inlX8 hown hK hs (22) (by omega) (md22 hM2) rfl 4 (by decide) (hts _ w_fl_RX8_19) rfl dX8_isOn_198 ?_
          refine lv_iload_n hx hb dX8_isOn_201 rfl (lv_at hl 8 rfl) ?_
          refine r_ialdN (t := j) hx hb hK hs (26) (by omega) (md26 hM2) (rfl) (by omega) (by omega) dX8_isOn_202 ?_
          refine r_topi (y := nI (nT ns (j))) rfl ?_
          refine lv_bipush (v := 8) hx hb dX8_isOn_203 (by decide) ?_
          refine lv_icmp_ne (tgt := 242) hx hb dX8_isOn_205 (by decide) (fun _ => ?_) (fun c205 => absurd c205 (fun q => by have := sw_nI (v := 8) q rfl (by omega) (by decide); omega))
          exact JOIN242 (decide (nG ns j = f)) (restB ss ns (nB ns j) f) (restB ss ns (nC ns j) f) _ (by rw [hE0, (hq0 hT).2.1, (hq0 hT).2.2, rstB_0]; exact (Bool.or_false _).symm.trans (congrArg (· || false) (Bool.or_false _).symm)) (lv_sub hl [1, 2, 0, 3, 4, 5, 6, 7, 8] rfl)
      · skip
        rw [if_neg (by omega), if_pos hT] at hE0
        refine lv_aload_n hx hb dX8_isOn_86 rfl (lv_at hl 5 rfl) ?_
        refine r_get (ci := 8) (v := .ref (ad 26)) (C := RX8) (T := TX8) (N := 31) hx hb hts inlX8 hown hK hs (22) (by omega) (md22 hM2) rfl 4 (by decide) (hts _ w_fl_RX8_19) rfl dX8_isOn_87 ?_
        refine lv_iload_n hx hb dX8_isOn_90 rfl (lv_at hl 8 rfl) ?_
        refine r_ialdN (t := j) hx hb hK hs (26) (by omega) (md26 hM2) (rfl) (by omega) (by omega) dX8_isOn_91 ?_
        refine r_topi (y := nI (nT ns (j))) rfl ?_
        refine lv_if_ne (tgt := 108) hx hb dX8_isOn_92 (by decide) (fun _ => ?_) (fun c92 => absurd c92 (fun q => by have := sw_nI (v := 0) q rfl (by omega) (by decide); omega))
        refine lv_aload_n hx hb dX8_isOn_108 rfl (lv_at hl 5 rfl) ?_
        refine r_get (ci := 8) (v := .ref (ad 26)) (C := RX8) (T := TX8) (N := 31) hx hb hts inlX8 hown hK hs (22) (by omega) (md22 hM2) rfl 4 (by decide) (hts _ w_fl_RX8_19) rfl dX8_isOn_109 ?_
        refine lv_iload_n hx hb dX8_isOn_112 rfl (lv_at hl 8 rfl) ?_
        refine r_ialdN (t := j) hx hb hK hs (26) (by omega) (md26 hM2) (rfl) (by omega) (by omega) dX8_isOn_113 ?_
        refine r_topi (y := nI (nT ns (j))) rfl ?_
        refine lv_iconst (v := 1) hx hb dX8_isOn_114 (by decide) ?_
        refine lv_icmp_ne (tgt := 152) hx hb dX8_isOn_115 (by decide) (fun c115 => absurd (by rw [hT]; rfl) c115) (fun _ => ?_)
        refine lv_iload hx hb dX8_isOn_118 (lv_at hl 2 rfl) ?_
        refine lv_if_eq (tgt := 149) hx hb dX8_isOn_120 (by decide) (fun c120 => ?_) (fun c120 => ?_)
        · skip
          refine lv_iconst (v := 0) hx hb dX8_isOn_149 (by decide) ?_
          refine r_topi (y := b2i (restB ss ns (nA ns j) f && !decide (sSort ss (nG ns j) = 4 ∧ sL ss (nG ns j) = f))) (by rw [b2i_0 c120]; rfl) ?_
          refine lv_istore (lv' := [(6, .int (b2i (restB ss ns (nA ns j) f && !decide (sSort ss (nG ns j) = 4 ∧ sL ss (nG ns j) = f)))), (8, .int (b2i (restB ss ns (nC ns j) f))), (7, .int (b2i (restB ss ns (nB ns j) f))), (5, .int (nI (nG ns (nA ns (j))))), (4, .int (nI (nG ns (j)))), (0, .ref (ad 22)), (1, .int (nI k)), (2, .int (nI f)), (3, .int (nI j))]) hx hb dX8_isOn_150 hl (by decide) rfl (fun ls hl => ?_)
          refine lv_aload_n hx hb dX8_isOn_152 rfl (lv_at hl 5 rfl) ?_
          refine r_get (ci := 8) (v := .ref (ad 26)) (C := RX8) (T := TX8) (N := 31) hx hb hts inlX8 hown hK hs (22) (by omega) (md22 hM2) rfl 4 (by decide) (hts _ w_fl_RX8_19) rfl dX8_isOn_153 ?_
          refine lv_iload_n hx hb dX8_isOn_156 rfl (lv_at hl 8 rfl) ?_
          refine r_ialdN (t := j) hx hb hK hs (26) (by omega) (md26 hM2) (rfl) (by omega) (by omega) dX8_isOn_157 ?_
          refine r_topi (y := nI (nT ns (j))) rfl ?_
          refine lv_bipush (v := 8) hx hb dX8_isOn_158 (by decide) ?_
          refine lv_icmp_ne (tgt := 197) hx hb dX8_isOn_160 (by decide) (fun _ => ?_) (fun c160 => absurd c160 (fun q => by have := sw_nI (v := 8) q rfl (by omega) (by decide); omega))
          refine lv_aload_n hx hb dX8_isOn_197 rfl (lv_at hl 5 rfl) ?_
          refine r_get (ci := 8) (v := .ref (ad 26)) (C := RX8) (T := TX8) (N := 31) hx hb hts inlX8 hown hK hs (22) (by omega) (md22 hM2) rfl 4 (by decide) (hts _ w_fl_RX8_19) rfl dX8_isOn_198 ?_
          refine lv_iload_n hx hb dX8_isOn_201 rfl (lv_at hl 8 rfl) ?_
          refine r_ialdN (t := j) hx hb hK hs (26) (by omega) (md26 hM2) (rfl) (by omega) (by omega) dX8_isOn_202 ?_
          refine r_topi (y := nI (nT ns (j))) rfl ?_
          refine lv_bipush (v := 8) hx hb dX8_isOn_203 (by decide) ?_
          refine lv_icmp_ne (tgt := 242) hx hb dX8_isOn_205 (by decide) (fun _ => ?_) (fun c205 => absurd c205 (fun q => by have := sw_nI (v := 8) q rfl (by omega) (by decide); omega))
          exact JOIN242 (restB ss ns (nA ns j) f && !decide (sSort ss (nG ns j) = 4 ∧ sL ss (nG ns j) = f)) (restB ss ns (nB ns j) f) (restB ss ns (nC ns j) f) _ (by rw [hE0, (hq1 hT).1, (hq1 hT).2, rstB_0]; exact (Bool.or_false _).symm.trans (congrArg (· || false) (Bool.or_false _).symm)) (lv_sub hl [1, 2, 0, 3, 4, 5, 6, 7, 8] rfl)
        · skip
          refine lv_aload_n hx hb dX8_isOn_123 rfl (lv_at hl 5 rfl) ?_
          refine r_get (ci := 8) (v := .ref (ad 23)) (C := RX8) (T := TX8) (N := 31) hx hb hts inlX8 hown hK hs (22) (by omega) (md22 hM2) rfl 0 (by decide) (hts _ w_fl_RX8_7) rfl dX8_isOn_124 ?_
          refine lv_iload hx hb dX8_isOn_127 (lv_at hl 4 rfl) ?_
          refine r_ialdN (t := nG ns (j)) hx hb hK hs (23) (by omega) (md23 hM2) (rfl) (by omega) (by omega) dX8_isOn_129 ?_
          refine r_topi (y := nI (sSort ss (nG ns (j)))) rfl ?_
          refine lv_iconst (v := 4) hx hb dX8_isOn_130 (by decide) ?_
          refine lv_icmp_ne (tgt := 145) hx hb dX8_isOn_131 (by decide) (fun c131 => ?_) (fun c131 => ?_)
          · skip
            refine lv_iconst (v := 1) hx hb dX8_isOn_145 (by decide) ?_
            refine lv_goto (tgt := 150) hx hb dX8_isOn_146 (by decide) ?_
            refine r_topi (y := b2i (restB ss ns (nA ns j) f && !decide (sSort ss (nG ns j) = 4 ∧ sL ss (nG ns j) = f))) (by rw [b2i_1 c120, decide_eq_false (fun q => c131 (by rw [q.1]; rfl))]; rfl) ?_
            refine lv_istore (lv' := [(6, .int (b2i (restB ss ns (nA ns j) f && !decide (sSort ss (nG ns j) = 4 ∧ sL ss (nG ns j) = f)))), (8, .int (b2i (restB ss ns (nC ns j) f))), (7, .int (b2i (restB ss ns (nB ns j) f))), (5, .int (nI (nG ns (nA ns (j))))), (4, .int (nI (nG ns (j)))), (0, .ref (ad 22)), (1, .int (nI k)), (2, .int (nI f)), (3, .int (nI j))]) hx hb dX8_isOn_150 hl (by decide) rfl (fun ls hl => ?_)
            refine lv_aload_n hx hb dX8_isOn_152 rfl (lv_at hl 5 rfl) ?_
            refine r_get (ci := 8) (v := .ref (ad 26)) (C := RX8) (T := TX8) (N := 31) hx hb hts inlX8 hown hK hs (22) (by omega) (md22 hM2) rfl 4 (by decide) (hts _ w_fl_RX8_19) rfl dX8_isOn_153 ?_
            refine lv_iload_n hx hb dX8_isOn_156 rfl (lv_at hl 8 rfl) ?_
            refine r_ialdN (t := j) hx hb hK hs (26) (by omega) (md26 hM2) (rfl) (by omega) (by omega) dX8_isOn_157 ?_
            refine r_topi (y := nI (nT ns (j))) rfl ?_
            refine lv_bipush (v := 8) hx hb dX8_isOn_158 (by decide) ?_
            refine lv_icmp_ne (tgt := 197) hx hb dX8_isOn_160 (by decide) (fun _ => ?_) (fun c160 => absurd c160 (fun q => by have := sw_nI (v := 8) q rfl (by omega) (by decide); omega))
            refine lv_aload_n hx hb dX8_isOn_197 rfl (lv_at hl 5 rfl) ?_
            refine r_get (ci := 8) (v := .ref (ad 26)) (C := RX8) (T := TX8) (N := 31) hx hb hts inlX8 hown hK hs (22) (by omega) (md22 hM2) rfl 4 (by decide) (hts _ w_fl_RX8_19) rfl dX8_isOn_198 ?_
            refine lv_iload_n hx hb dX8_isOn_201 rfl (lv_at hl 8 rfl) ?_
            refine r_ialdN (t := j) hx hb hK hs (26) (by omega) (md26 hM2) (rfl) (by omega) (by omega) dX8_isOn_202 ?_
            refine r_topi (y := nI (nT ns (j))) rfl ?_
            refine lv_bipush (v := 8) hx hb dX8_isOn_203 (by decide) ?_
            refine lv_icmp_ne (tgt := 242) hx hb dX8_isOn_205 (by decide) (fun _ => ?_) (fun c205 => absurd c205 (fun q => by have := sw_nI (v := 8) q rfl (by omega) (by decide); omega))
            exact JOIN242 (restB ss ns (nA ns j) f && !decide (sSort ss (nG ns j) = 4 ∧ sL ss (nG ns j) = f)) (restB ss ns (nB ns j) f) (restB ss ns (nC ns j) f) _ (by rw [hE0, (hq1 hT).1, (hq1 hT).2, rstB_0]; exact (Bool.or_false _).symm.trans (congrArg (· || false) (Bool.or_false _).symm)) (lv_sub hl [1, 2, 0, 3, 4, 5, 6, 7, 8] rfl)
          · skip
            refine lv_aload_n hx hb dX8_isOn_134 rfl (lv_at hl 5 rfl) ?_
            refine r_get (ci := 8) (v := .ref (ad 24)) (C := RX8) (T := TX8) (N := 31) hx hb hts inlX8 hown hK hs (22) (by omega) (md22 hM2) rfl 1 (by decide) (hts _ w_fl_RX8_13) rfl dX8_isOn_135 ?_
            refine lv_iload hx hb dX8_isOn_138 (lv_at hl 4 rfl) ?_
            refine r_ialdN (t := nG ns (j)) hx hb hK hs (24) (by omega) (md24 hM2) (rfl) (by omega) (by omega) dX8_isOn_140 ?_
            refine r_topi (y := nI (sL ss (nG ns (j)))) rfl ?_
            refine lv_iload_n hx hb dX8_isOn_141 rfl (lv_at hl 7 rfl) ?_
            refine lv_icmp_eq (tgt := 149) hx hb dX8_isOn_142 (by decide) (fun c142 => ?_) (fun c142 => ?_)
            · skip
              refine lv_iconst (v := 0) hx hb dX8_isOn_149 (by decide) ?_
              refine r_topi (y := b2i (restB ss ns (nA ns j) f && !decide (sSort ss (nG ns j) = 4 ∧ sL ss (nG ns j) = f))) (by rw [b2i_1 c120, decide_eq_true ⟨sq hok (v := 4) c131, (nI_eq (by omega) (by omega)).mp c142⟩]; rfl) ?_
              refine lv_istore (lv' := [(6, .int (b2i (restB ss ns (nA ns j) f && !decide (sSort ss (nG ns j) = 4 ∧ sL ss (nG ns j) = f)))), (8, .int (b2i (restB ss ns (nC ns j) f))), (7, .int (b2i (restB ss ns (nB ns j) f))), (5, .int (nI (nG ns (nA ns (j))))), (4, .int (nI (nG ns (j)))), (0, .ref (ad 22)), (1, .int (nI k)), (2, .int (nI f)), (3, .int (nI j))]) hx hb dX8_isOn_150 hl (by decide) rfl (fun ls hl => ?_)
              refine lv_aload_n hx hb dX8_isOn_152 rfl (lv_at hl 5 rfl) ?_
              refine r_get (ci := 8) (v := .ref (ad 26)) (C := RX8) (T := TX8) (N := 31) hx hb hts inlX8 hown hK hs (22) (by omega) (md22 hM2) rfl 4 (by decide) (hts _ w_fl_RX8_19) rfl dX8_isOn_153 ?_
              refine lv_iload_n hx hb dX8_isOn_156 rfl (lv_at hl 8 rfl) ?_
              refine r_ialdN (t := j) hx hb hK hs (26) (by omega) (md26 hM2) (rfl) (by omega) (by omega) dX8_isOn_157 ?_
              refine r_topi (y := nI (nT ns (j))) rfl ?_
              refine lv_bipush (v := 8) hx hb dX8_isOn_158 (by decide) ?_
              refine lv_icmp_ne (tgt := 197) hx hb dX8_isOn_160 (by decide) (fun _ => ?_) (fun c160 => absurd c160 (fun q => by have := sw_nI (v := 8) q rfl (by omega) (by decide); omega))
              refine lv_aload_n hx hb dX8_isOn_197 rfl (lv_at hl 5 rfl) ?_
              refine r_get (ci := 8) (v := .ref (ad 26)) (C := RX8) (T := TX8) (N := 31) hx hb hts inlX8 hown hK hs (22) (by omega) (md22 hM2) rfl 4 (by decide) (hts _ w_fl_RX8_19) rfl dX8_isOn_198 ?_
              refine lv_iload_n hx hb dX8_isOn_201 rfl (lv_at hl 8 rfl) ?_
              refine r_ialdN (t := j) hx hb hK hs (26) (by omega) (md26 hM2) (rfl) (by omega) (by omega) dX8_isOn_202 ?_
              refine r_topi (y := nI (nT ns (j))) rfl ?_
              refine lv_bipush (v := 8) hx hb dX8_isOn_203 (by decide) ?_
              refine lv_icmp_ne (tgt := 242) hx hb dX8_isOn_205 (by decide) (fun _ => ?_) (fun c205 => absurd c205 (fun q => by have := sw_nI (v := 8) q rfl (by omega) (by decide); omega))
              exact JOIN242 (restB ss ns (nA ns j) f && !decide (sSort ss (nG ns j) = 4 ∧ sL ss (nG ns j) = f)) (restB ss ns (nB ns j) f) (restB ss ns (nC ns j) f) _ (by rw [hE0, (hq1 hT).1, (hq1 hT).2, rstB_0]; exact (Bool.or_false _).symm.trans (congrArg (· || false) (Bool.or_false _).symm)) (lv_sub hl [1, 2, 0, 3, 4, 5, 6, 7, 8] rfl)
            · skip
              refine lv_iconst (v := 1) hx hb dX8_isOn_145 (by decide) ?_
              refine lv_goto (tgt := 150) hx hb dX8_isOn_146 (by decide) ?_
              refine r_topi (y := b2i (restB ss ns (nA ns j) f && !decide (sSort ss (nG ns j) = 4 ∧ sL ss (nG ns j) = f))) (by rw [b2i_1 c120, decide_eq_false (fun q => c142 (by rw [q.2]))]; rfl) ?_
              refine lv_istore (lv' := [(6, .int (b2i (restB ss ns (nA ns j) f && !decide (sSort ss (nG ns j) = 4 ∧ sL ss (nG ns j) = f)))), (8, .int (b2i (restB ss ns (nC ns j) f))), (7, .int (b2i (restB ss ns (nB ns j) f))), (5, .int (nI (nG ns (nA ns (j))))), (4, .int (nI (nG ns (j)))), (0, .ref (ad 22)), (1, .int (nI k)), (2, .int (nI f)), (3, .int (nI j))]) hx hb dX8_isOn_150 hl (by decide) rfl (fun ls hl => ?_)
              refine lv_aload_n hx hb dX8_isOn_152 rfl (lv_at hl 5 rfl) ?_
              refine r_get (ci := 8) (v := .ref (ad 26)) (C := RX8) (T := TX8) (N := 31) hx hb hts inlX8 hown hK hs (22) (by omega) (md22 hM2) rfl 4 (by decide) (hts _ w_fl_RX8_19) rfl dX8_isOn_153 ?_
              refine lv_iload_n hx hb dX8_isOn_156 rfl (lv_at hl 8 rfl) ?_
              refine r_ialdN (t := j) hx hb hK hs (26) (by omega) (md26 hM2) (rfl) (by omega) (by omega) dX8_isOn_157 ?_
              refine r_topi (y := nI (nT ns (j))) rfl ?_
              refine lv_bipush (v := 8) hx hb dX8_isOn_158 (by decide) ?_
              refine lv_icmp_ne (tgt := 197) hx hb dX8_isOn_160 (by decide) (fun _ => ?_) (fun c160 => absurd c160 (fun q => by have := sw_nI (v := 8) q rfl (by omega) (by decide); omega))
              refine lv_aload_n hx hb dX8_isOn_197 rfl (lv_at hl 5 rfl) ?_
              refine r_get (ci := 8) (v := .ref (ad 26)) (C := RX8) (T := TX8) (N := 31) hx hb hts inlX8 hown hK hs (22) (by omega) (md22 hM2) rfl 4 (by decide) (hts _ w_fl_RX8_19) rfl dX8_isOn_198 ?_
              refine lv_iload_n hx hb dX8_isOn_201 rfl (lv_at hl 8 rfl) ?_
              refine r_ialdN (t := j) hx hb hK hs (26) (by omega) (md26 hM2) (rfl) (by omega) (by omega) dX8_isOn_202 ?_
              refine r_topi (y := nI (nT ns (j))) rfl ?_
              refine lv_bipush (v := 8) hx hb dX8_isOn_203 (by decide) ?_
              refine lv_icmp_ne (tgt := 242) hx hb dX8_isOn_205 (by decide) (fun _ => ?_) (fun c205 => absurd c205 (fun q => by have := sw_nI (v := 8) q rfl (by omega) (by decide); omega))
              exact JOIN242 (restB ss ns (nA ns j) f && !decide (sSort ss (nG ns j) = 4 ∧ sL ss (nG ns j) = f)) (restB ss ns (nB ns j) f) (restB ss ns (nC ns j) f) _ (by rw [hE0, (hq1 hT).1, (hq1 hT).2, rstB_0]; exact (Bool.or_false _).symm.trans (congrArg (· || false) (Bool.or_false _).symm)) (lv_sub hl [1, 2, 0, 3, 4, 5, 6, 7, 8] rfl)
      · skip
        rw [if_neg (by omega), if_neg (by omega), if_pos hT] at hE0
        refine lv_aload_n hx hb dX8_isOn_86 rfl (lv_at hl 5 rfl) ?_
        refine r_get (ci := 8) (v := .ref (ad 26)) (C := RX8) (T := TX8) (N := 31) hx hb hts inlX8 hown hK hs (22) (by omega) (md22 hM2) rfl 4 (by decide) (hts _ w_fl_RX8_19) rfl dX8_isOn_87 ?_
        refine lv_iload_n hx hb dX8_isOn_90 rfl (lv_at hl 8 rfl) ?_
        refine r_ialdN (t := j) hx hb hK hs (26) (by omega) (md26 hM2) (rfl) (by omega) (by omega) dX8_isOn_91 ?_
        refine r_topi (y := nI (nT ns (j))) rfl ?_
        refine lv_if_ne (tgt := 108) hx hb dX8_isOn_92 (by decide) (fun _ => ?_) (fun c92 => absurd c92 (fun q => by have := sw_nI (v := 0) q rfl (by omega) (by decide); omega))
        refine lv_aload_n hx hb dX8_isOn_108 rfl (lv_at hl 5 rfl) ?_
        refine r_get (ci := 8) (v := .ref (ad 26)) (C := RX8) (T := TX8) (N := 31) hx hb hts inlX8 hown hK hs (22) (by omega) (md22 hM2) rfl 4 (by decide) (hts _ w_fl_RX8_19) rfl dX8_isOn_109 ?_
        refine lv_iload_n hx hb dX8_isOn_112 rfl (lv_at hl 8 rfl) ?_
        refine r_ialdN (t := j) hx hb hK hs (26) (by omega) (md26 hM2) (rfl) (by omega) (by omega) dX8_isOn_113 ?_
        refine r_topi (y := nI (nT ns (j))) rfl ?_
        refine lv_iconst (v := 1) hx hb dX8_isOn_114 (by decide) ?_
        refine lv_icmp_ne (tgt := 152) hx hb dX8_isOn_115 (by decide) (fun _ => ?_) (fun c115 => absurd c115 (fun q => by have := sw_nI (v := 1) q rfl (by omega) (by decide); omega))
        refine lv_aload_n hx hb dX8_isOn_152 rfl (lv_at hl 5 rfl) ?_
        refine r_get (ci := 8) (v := .ref (ad 26)) (C := RX8) (T := TX8) (N := 31) hx hb hts inlX8 hown hK hs (22) (by omega) (md22 hM2) rfl 4 (by decide) (hts _ w_fl_RX8_19) rfl dX8_isOn_153 ?_
        refine lv_iload_n hx hb dX8_isOn_156 rfl (lv_at hl 8 rfl) ?_
        refine r_ialdN (t := j) hx hb hK hs (26) (by omega) (md26 hM2) (rfl) (by omega) (by omega) dX8_isOn_157 ?_
        refine r_topi (y := nI (nT ns (j))) rfl ?_
        refine lv_bipush (v := 8) hx hb dX8_isOn_158 (by decide) ?_
        refine lv_icmp_ne (tgt := 197) hx hb dX8_isOn_160 (by decide) (fun c160 => absurd (by rw [hT]; rfl) c160) (fun _ => ?_)
        refine lv_iload hx hb dX8_isOn_163 (lv_at hl 1 rfl) ?_
        refine lv_if_eq (tgt := 194) hx hb dX8_isOn_165 (by decide) (fun c165 => ?_) (fun c165 => ?_)
        · skip
          refine lv_iconst (v := 0) hx hb dX8_isOn_194 (by decide) ?_
          refine r_topi (y := b2i (restB ss ns (nB ns j) f && !decide (sSort ss (nG ns (nA ns j)) = 3 ∧ sL ss (nG ns (nA ns j)) = f))) (by rw [b2i_0 c165]; rfl) ?_
          refine lv_istore (lv' := [(7, .int (b2i (restB ss ns (nB ns j) f && !decide (sSort ss (nG ns (nA ns j)) = 3 ∧ sL ss (nG ns (nA ns j)) = f)))), (8, .int (b2i (restB ss ns (nC ns j) f))), (6, .int (b2i (restB ss ns (nA ns j) f))), (5, .int (nI (nG ns (nA ns (j))))), (4, .int (nI (nG ns (j)))), (0, .ref (ad 22)), (1, .int (nI k)), (2, .int (nI f)), (3, .int (nI j))]) hx hb dX8_isOn_195 hl (by decide) rfl (fun ls hl => ?_)
          refine lv_aload_n hx hb dX8_isOn_197 rfl (lv_at hl 5 rfl) ?_
          refine r_get (ci := 8) (v := .ref (ad 26)) (C := RX8) (T := TX8) (N := 31) hx hb hts inlX8 hown hK hs (22) (by omega) (md22 hM2) rfl 4 (by decide) (hts _ w_fl_RX8_19) rfl dX8_isOn_198 ?_
          refine lv_iload_n hx hb dX8_isOn_201 rfl (lv_at hl 8 rfl) ?_
          refine r_ialdN (t := j) hx hb hK hs (26) (by omega) (md26 hM2) (rfl) (by omega) (by omega) dX8_isOn_202 ?_
          refine r_topi (y := nI (nT ns (j))) rfl ?_
          refine lv_bipush (v := 8) hx hb dX8_isOn_203 (by decide) ?_
          refine lv_icmp_ne (tgt := 242) hx hb dX8_isOn_205 (by decide) (fun c205 => absurd (by rw [hT]; rfl) c205) (fun _ => ?_)
          refine lv_iload hx hb dX8_isOn_208 (lv_at hl 1 rfl) ?_
          refine lv_if_eq (tgt := 239) hx hb dX8_isOn_210 (by decide) (fun c210 => ?_) (fun c210 => ?_)
          · skip
            refine lv_iconst (v := 0) hx hb dX8_isOn_239 (by decide) ?_
            refine r_topi (y := b2i (restB ss ns (nC ns j) f && !decide (sSort ss (nG ns (nA ns j)) = 3 ∧ sR ss (nG ns (nA ns j)) = f))) (by rw [b2i_0 c210]; rfl) ?_
            refine lv_istore (lv' := [(8, .int (b2i (restB ss ns (nC ns j) f && !decide (sSort ss (nG ns (nA ns j)) = 3 ∧ sR ss (nG ns (nA ns j)) = f)))), (7, .int (b2i (restB ss ns (nB ns j) f && !decide (sSort ss (nG ns (nA ns j)) = 3 ∧ sL ss (nG ns (nA ns j)) = f)))), (6, .int (b2i (restB ss ns (nA ns j) f))), (5, .int (nI (nG ns (nA ns (j))))), (4, .int (nI (nG ns (j)))), (0, .ref (ad 22)), (1, .int (nI k)), (2, .int (nI f)), (3, .int (nI j))]) hx hb dX8_isOn_240 hl (by decide) rfl (fun ls hl => ?_)
            exact JOIN242 (restB ss ns (nA ns j) f) (restB ss ns (nB ns j) f && !decide (sSort ss (nG ns (nA ns j)) = 3 ∧ sL ss (nG ns (nA ns j)) = f)) (restB ss ns (nC ns j) f && !decide (sSort ss (nG ns (nA ns j)) = 3 ∧ sR ss (nG ns (nA ns j)) = f)) _ (hE0) (lv_sub hl [0, 1, 2, 3, 4, 5, 6, 7, 8] rfl)
          · skip
            refine lv_aload_n hx hb dX8_isOn_213 rfl (lv_at hl 5 rfl) ?_
            refine r_get (ci := 8) (v := .ref (ad 23)) (C := RX8) (T := TX8) (N := 31) hx hb hts inlX8 hown hK hs (22) (by omega) (md22 hM2) rfl 0 (by decide) (hts _ w_fl_RX8_7) rfl dX8_isOn_214 ?_
            refine lv_iload hx hb dX8_isOn_217 (lv_at hl 3 rfl) ?_
            refine r_ialdN (t := nG ns (nA ns (j))) hx hb hK hs (23) (by omega) (md23 hM2) (rfl) (by omega) (by omega) dX8_isOn_219 ?_
            refine r_topi (y := nI (sSort ss (nG ns (nA ns (j))))) rfl ?_
            refine lv_iconst (v := 3) hx hb dX8_isOn_220 (by decide) ?_
            refine lv_icmp_ne (tgt := 235) hx hb dX8_isOn_221 (by decide) (fun c221 => ?_) (fun c221 => ?_)
            · skip
              refine lv_iconst (v := 1) hx hb dX8_isOn_235 (by decide) ?_
              refine lv_goto (tgt := 240) hx hb dX8_isOn_236 (by decide) ?_
              refine r_topi (y := b2i (restB ss ns (nC ns j) f && !decide (sSort ss (nG ns (nA ns j)) = 3 ∧ sR ss (nG ns (nA ns j)) = f))) (by rw [b2i_1 c210, decide_eq_false (fun q => c221 (by rw [q.1]; rfl))]; rfl) ?_
              refine lv_istore (lv' := [(8, .int (b2i (restB ss ns (nC ns j) f && !decide (sSort ss (nG ns (nA ns j)) = 3 ∧ sR ss (nG ns (nA ns j)) = f)))), (7, .int (b2i (restB ss ns (nB ns j) f && !decide (sSort ss (nG ns (nA ns j)) = 3 ∧ sL ss (nG ns (nA ns j)) = f)))), (6, .int (b2i (restB ss ns (nA ns j) f))), (5, .int (nI (nG ns (nA ns (j))))), (4, .int (nI (nG ns (j)))), (0, .ref (ad 22)), (1, .int (nI k)), (2, .int (nI f)), (3, .int (nI j))]) hx hb dX8_isOn_240 hl (by decide) rfl (fun ls hl => ?_)
              exact JOIN242 (restB ss ns (nA ns j) f) (restB ss ns (nB ns j) f && !decide (sSort ss (nG ns (nA ns j)) = 3 ∧ sL ss (nG ns (nA ns j)) = f)) (restB ss ns (nC ns j) f && !decide (sSort ss (nG ns (nA ns j)) = 3 ∧ sR ss (nG ns (nA ns j)) = f)) _ (hE0) (lv_sub hl [0, 1, 2, 3, 4, 5, 6, 7, 8] rfl)
            · skip
              refine lv_aload_n hx hb dX8_isOn_224 rfl (lv_at hl 5 rfl) ?_
              refine r_get (ci := 8) (v := .ref (ad 25)) (C := RX8) (T := TX8) (N := 31) hx hb hts inlX8 hown hK hs (22) (by omega) (md22 hM2) rfl 2 (by decide) (hts _ w_fl_RX8_16) rfl dX8_isOn_225 ?_
              refine lv_iload hx hb dX8_isOn_228 (lv_at hl 3 rfl) ?_
              refine r_ialdN (t := nG ns (nA ns (j))) hx hb hK hs (25) (by omega) (md25 hM2) (rfl) (by omega) (by omega) dX8_isOn_230 ?_
              refine r_topi (y := nI (sR ss (nG ns (nA ns (j))))) rfl ?_
              refine lv_iload_n hx hb dX8_isOn_231 rfl (lv_at hl 7 rfl) ?_
              refine lv_icmp_eq (tgt := 239) hx hb dX8_isOn_232 (by decide) (fun c232 => ?_) (fun c232 => ?_)
              · skip
                refine lv_iconst (v := 0) hx hb dX8_isOn_239 (by decide) ?_
                refine r_topi (y := b2i (restB ss ns (nC ns j) f && !decide (sSort ss (nG ns (nA ns j)) = 3 ∧ sR ss (nG ns (nA ns j)) = f))) (by rw [b2i_1 c210, decide_eq_true ⟨sq hok (v := 3) c221, (nI_eq (by omega) (by omega)).mp c232⟩]; rfl) ?_
                refine lv_istore (lv' := [(8, .int (b2i (restB ss ns (nC ns j) f && !decide (sSort ss (nG ns (nA ns j)) = 3 ∧ sR ss (nG ns (nA ns j)) = f)))), (7, .int (b2i (restB ss ns (nB ns j) f && !decide (sSort ss (nG ns (nA ns j)) = 3 ∧ sL ss (nG ns (nA ns j)) = f)))), (6, .int (b2i (restB ss ns (nA ns j) f))), (5, .int (nI (nG ns (nA ns (j))))), (4, .int (nI (nG ns (j)))), (0, .ref (ad 22)), (1, .int (nI k)), (2, .int (nI f)), (3, .int (nI j))]) hx hb dX8_isOn_240 hl (by decide) rfl (fun ls hl => ?_)
                exact JOIN242 (restB ss ns (nA ns j) f) (restB ss ns (nB ns j) f && !decide (sSort ss (nG ns (nA ns j)) = 3 ∧ sL ss (nG ns (nA ns j)) = f)) (restB ss ns (nC ns j) f && !decide (sSort ss (nG ns (nA ns j)) = 3 ∧ sR ss (nG ns (nA ns j)) = f)) _ (hE0) (lv_sub hl [0, 1, 2, 3, 4, 5, 6, 7, 8] rfl)
              · skip
                refine lv_iconst (v := 1) hx hb dX8_isOn_235 (by decide) ?_
                refine lv_goto (tgt := 240) hx hb dX8_isOn_236 (by decide) ?_
                refine r_topi (y := b2i (restB ss ns (nC ns j) f && !decide (sSort ss (nG ns (nA ns j)) = 3 ∧ sR ss (nG ns (nA ns j)) = f))) (by rw [b2i_1 c210, decide_eq_false (fun q => c232 (by rw [q.2]))]; rfl) ?_
                refine lv_istore (lv' := [(8, .int (b2i (restB ss ns (nC ns j) f && !decide (sSort ss (nG ns (nA ns j)) = 3 ∧ sR ss (nG ns (nA ns j)) = f)))), (7, .int (b2i (restB ss ns (nB ns j) f && !decide (sSort ss (nG ns (nA ns j)) = 3 ∧ sL ss (nG ns (nA ns j)) = f)))), (6, .int (b2i (restB ss ns (nA ns j) f))), (5, .int (nI (nG ns (nA ns (j))))), (4, .int (nI (nG ns (j)))), (0, .ref (ad 22)), (1, .int (nI k)), (2, .int (nI f)), (3, .int (nI j))]) hx hb dX8_isOn_240 hl (by decide) rfl (fun ls hl => ?_)
                exact JOIN242 (restB ss ns (nA ns j) f) (restB ss ns (nB ns j) f && !decide (sSort ss (nG ns (nA ns j)) = 3 ∧ sL ss (nG ns (nA ns j)) = f)) (restB ss ns (nC ns j) f && !decide (sSort ss (nG ns (nA ns j)) = 3 ∧ sR ss (nG ns (nA ns j)) = f)) _ (hE0) (lv_sub hl [0, 1, 2, 3, 4, 5, 6, 7, 8] rfl)
        · skip
          refine lv_aload_n hx hb dX8_isOn_168 rfl (lv_at hl 5 rfl) ?_
          refine r_get (ci := 8) (v := .ref (ad 23)) (C := RX8) (T := TX8) (N := 31) hx hb hts inlX8 hown hK hs (22) (by omega) (md22 hM2) rfl 0 (by decide) (hts _ w_fl_RX8_7) rfl dX8_isOn_169 ?_
          refine lv_iload hx hb dX8_isOn_172 (lv_at hl 3 rfl) ?_
          refine r_ialdN (t := nG ns (nA ns (j))) hx hb hK hs (23) (by omega) (md23 hM2) (rfl) (by omega) (by omega) dX8_isOn_174 ?_
          refine r_topi (y := nI (sSort ss (nG ns (nA ns (j))))) rfl ?_
          refine lv_iconst (v := 3) hx hb dX8_isOn_175 (by decide) ?_
          refine lv_icmp_ne (tgt := 190) hx hb dX8_isOn_176 (by decide) (fun c176 => ?_) (fun c176 => ?_)
          · skip
            refine lv_iconst (v := 1) hx hb dX8_isOn_190 (by decide) ?_
            refine lv_goto (tgt := 195) hx hb dX8_isOn_191 (by decide) ?_
            refine r_topi (y := b2i (restB ss ns (nB ns j) f && !decide (sSort ss (nG ns (nA ns j)) = 3 ∧ sL ss (nG ns (nA ns j)) = f))) (by rw [b2i_1 c165, decide_eq_false (fun q => c176 (by rw [q.1]; rfl))]; rfl) ?_
            refine lv_istore (lv' := [(7, .int (b2i (restB ss ns (nB ns j) f && !decide (sSort ss (nG ns (nA ns j)) = 3 ∧ sL ss (nG ns (nA ns j)) = f)))), (8, .int (b2i (restB ss ns (nC ns j) f))), (6, .int (b2i (restB ss ns (nA ns j) f))), (5, .int (nI (nG ns (nA ns (j))))), (4, .int (nI (nG ns (j)))), (0, .ref (ad 22)), (1, .int (nI k)), (2, .int (nI f)), (3, .int (nI j))]) hx hb dX8_isOn_195 hl (by decide) rfl (fun ls hl => ?_)
            refine lv_aload_n hx hb dX8_isOn_197 rfl (lv_at hl 5 rfl) ?_
            refine r_get (ci := 8) (v := .ref (ad 26)) (C := RX8) (T := TX8) (N := 31) hx hb hts inlX8 hown hK hs (22) (by omega) (md22 hM2) rfl 4 (by decide) (hts _ w_fl_RX8_19) rfl dX8_isOn_198 ?_
            refine lv_iload_n hx hb dX8_isOn_201 rfl (lv_at hl 8 rfl) ?_
            refine r_ialdN (t := j) hx hb hK hs (26) (by omega) (md26 hM2) (rfl) (by omega) (by omega) dX8_isOn_202 ?_
            refine r_topi (y := nI (nT ns (j))) rfl ?_
            refine lv_bipush (v := 8) hx hb dX8_isOn_203 (by decide) ?_
            refine lv_icmp_ne (tgt := 242) hx hb dX8_isOn_205 (by decide) (fun c205 => absurd (by rw [hT]; rfl) c205) (fun _ => ?_)
            refine lv_iload hx hb dX8_isOn_208 (lv_at hl 1 rfl) ?_
            refine lv_if_eq (tgt := 239) hx hb dX8_isOn_210 (by decide) (fun c210 => ?_) (fun c210 => ?_)
            · skip
              refine lv_iconst (v := 0) hx hb dX8_isOn_239 (by decide) ?_
              refine r_topi (y := b2i (restB ss ns (nC ns j) f && !decide (sSort ss (nG ns (nA ns j)) = 3 ∧ sR ss (nG ns (nA ns j)) = f))) (by rw [b2i_0 c210]; rfl) ?_
              refine lv_istore (lv' := [(8, .int (b2i (restB ss ns (nC ns j) f && !decide (sSort ss (nG ns (nA ns j)) = 3 ∧ sR ss (nG ns (nA ns j)) = f)))), (7, .int (b2i (restB ss ns (nB ns j) f && !decide (sSort ss (nG ns (nA ns j)) = 3 ∧ sL ss (nG ns (nA ns j)) = f)))), (6, .int (b2i (restB ss ns (nA ns j) f))), (5, .int (nI (nG ns (nA ns (j))))), (4, .int (nI (nG ns (j)))), (0, .ref (ad 22)), (1, .int (nI k)), (2, .int (nI f)), (3, .int (nI j))]) hx hb dX8_isOn_240 hl (by decide) rfl (fun ls hl => ?_)
              exact JOIN242 (restB ss ns (nA ns j) f) (restB ss ns (nB ns j) f && !decide (sSort ss (nG ns (nA ns j)) = 3 ∧ sL ss (nG ns (nA ns j)) = f)) (restB ss ns (nC ns j) f && !decide (sSort ss (nG ns (nA ns j)) = 3 ∧ sR ss (nG ns (nA ns j)) = f)) _ (hE0) (lv_sub hl [0, 1, 2, 3, 4, 5, 6, 7, 8] rfl)
            · skip
              refine lv_aload_n hx hb dX8_isOn_213 rfl (lv_at hl 5 rfl) ?_
              refine r_get (ci := 8) (v := .ref (ad 23)) (C := RX8) (T := TX8) (N := 31) hx hb hts inlX8 hown hK hs (22) (by omega) (md22 hM2) rfl 0 (by decide) (hts _ w_fl_RX8_7) rfl dX8_isOn_214 ?_
              refine lv_iload hx hb dX8_isOn_217 (lv_at hl 3 rfl) ?_
              refine r_ialdN (t := nG ns (nA ns (j))) hx hb hK hs (23) (by omega) (md23 hM2) (rfl) (by omega) (by omega) dX8_isOn_219 ?_
              refine r_topi (y := nI (sSort ss (nG ns (nA ns (j))))) rfl ?_
              refine lv_iconst (v := 3) hx hb dX8_isOn_220 (by decide) ?_
              refine lv_icmp_ne (tgt := 235) hx hb dX8_isOn_221 (by decide) (fun c221 => ?_) (fun c221 => ?_)
              · skip
                refine lv_iconst (v := 1) hx hb dX8_isOn_235 (by decide) ?_
                refine lv_goto (tgt := 240) hx hb dX8_isOn_236 (by decide) ?_
                refine r_topi (y := b2i (restB ss ns (nC ns j) f && !decide (sSort ss (nG ns (nA ns j)) = 3 ∧ sR ss (nG ns (nA ns j)) = f))) (by rw [b2i_1 c210, decide_eq_false (fun q => c221 (by rw [q.1]; rfl))]; rfl) ?_
                refine lv_istore (lv' := [(8, .int (b2i (restB ss ns (nC ns j) f && !decide (sSort ss (nG ns (nA ns j)) = 3 ∧ sR ss (nG ns (nA ns j)) = f)))), (7, .int (b2i (restB ss ns (nB ns j) f && !decide (sSort ss (nG ns (nA ns j)) = 3 ∧ sL ss (nG ns (nA ns j)) = f)))), (6, .int (b2i (restB ss ns (nA ns j) f))), (5, .int (nI (nG ns (nA ns (j))))), (4, .int (nI (nG ns (j)))), (0, .ref (ad 22)), (1, .int (nI k)), (2, .int (nI f)), (3, .int (nI j))]) hx hb dX8_isOn_240 hl (by decide) rfl (fun ls hl => ?_)
                exact JOIN242 (restB ss ns (nA ns j) f) (restB ss ns (nB ns j) f && !decide (sSort ss (nG ns (nA ns j)) = 3 ∧ sL ss (nG ns (nA ns j)) = f)) (restB ss ns (nC ns j) f && !decide (sSort ss (nG ns (nA ns j)) = 3 ∧ sR ss (nG ns (nA ns j)) = f)) _ (hE0) (lv_sub hl [0, 1, 2, 3, 4, 5, 6, 7, 8] rfl)
              · skip
                refine lv_aload_n hx hb dX8_isOn_224 rfl (lv_at hl 5 rfl) ?_
                refine r_get (ci := 8) (v := .ref (ad 25)) (C := RX8) (T := TX8) (N := 31) hx hb hts inlX8 hown hK hs (22) (by omega) (md22 hM2) rfl 2 (by decide) (hts _ w_fl_RX8_16) rfl dX8_isOn_225 ?_
                refine lv_iload hx hb dX8_isOn_228 (lv_at hl 3 rfl) ?_
                refine r_ialdN (t := nG ns (nA ns (j))) hx hb hK hs (25) (by omega) (md25 hM2) (rfl) (by omega) (by omega) dX8_isOn_230 ?_
                refine r_topi (y := nI (sR ss (nG ns (nA ns (j))))) rfl ?_
                refine lv_iload_n hx hb dX8_isOn_231 rfl (lv_at hl 7 rfl) ?_
                refine lv_icmp_eq (tgt := 239) hx hb dX8_isOn_232 (by decide) (fun c232 => ?_) (fun c232 => ?_)
                · skip
                  refine lv_iconst (v := 0) hx hb dX8_isOn_239 (by decide) ?_
                  refine r_topi (y := b2i (restB ss ns (nC ns j) f && !decide (sSort ss (nG ns (nA ns j)) = 3 ∧ sR ss (nG ns (nA ns j)) = f))) (by rw [b2i_1 c210, decide_eq_true ⟨sq hok (v := 3) c221, (nI_eq (by omega) (by omega)).mp c232⟩]; rfl) ?_
                  refine lv_istore (lv' := [(8, .int (b2i (restB ss ns (nC ns j) f && !decide (sSort ss (nG ns (nA ns j)) = 3 ∧ sR ss (nG ns (nA ns j)) = f)))), (7, .int (b2i (restB ss ns (nB ns j) f && !decide (sSort ss (nG ns (nA ns j)) = 3 ∧ sL ss (nG ns (nA ns j)) = f)))), (6, .int (b2i (restB ss ns (nA ns j) f))), (5, .int (nI (nG ns (nA ns (j))))), (4, .int (nI (nG ns (j)))), (0, .ref (ad 22)), (1, .int (nI k)), (2, .int (nI f)), (3, .int (nI j))]) hx hb dX8_isOn_240 hl (by decide) rfl (fun ls hl => ?_)
                  exact JOIN242 (restB ss ns (nA ns j) f) (restB ss ns (nB ns j) f && !decide (sSort ss (nG ns (nA ns j)) = 3 ∧ sL ss (nG ns (nA ns j)) = f)) (restB ss ns (nC ns j) f && !decide (sSort ss (nG ns (nA ns j)) = 3 ∧ sR ss (nG ns (nA ns j)) = f)) _ (hE0) (lv_sub hl [0, 1, 2, 3, 4, 5, 6, 7, 8] rfl)
                · skip
                  refine lv_iconst (v := 1) hx hb dX8_isOn_235 (by decide) ?_
                  refine lv_goto (tgt := 240) hx hb dX8_isOn_236 (by decide) ?_
                  refine r_topi (y := b2i (restB ss ns (nC ns j) f && !decide (sSort ss (nG ns (nA ns j)) = 3 ∧ sR ss (nG ns (nA ns j)) = f))) (by rw [b2i_1 c210, decide_eq_false (fun q => c232 (by rw [q.2]))]; rfl) ?_
                  refine lv_istore (lv' := [(8, .int (b2i (restB ss ns (nC ns j) f && !decide (sSort ss (nG ns (nA ns j)) = 3 ∧ sR ss (nG ns (nA ns j)) = f)))), (7, .int (b2i (restB ss ns (nB ns j) f && !decide (sSort ss (nG ns (nA ns j)) = 3 ∧ sL ss (nG ns (nA ns j)) = f)))), (6, .int (b2i (restB ss ns (nA ns j) f))), (5, .int (nI (nG ns (nA ns (j))))), (4, .int (nI (nG ns (j)))), (0, .ref (ad 22)), (1, .int (nI k)), (2, .int (nI f)), (3, .int (nI j))]) hx hb dX8_isOn_240 hl (by decide) rfl (fun ls hl => ?_)
                  exact JOIN242 (restB ss ns (nA ns j) f) (restB ss ns (nB ns j) f && !decide (sSort ss (nG ns (nA ns j)) = 3 ∧ sL ss (nG ns (nA ns j)) = f)) (restB ss ns (nC ns j) f && !decide (sSort ss (nG ns (nA ns j)) = 3 ∧ sR ss (nG ns (nA ns j)) = f)) _ (hE0) (lv_sub hl [0, 1, 2, 3, 4, 5, 6, 7, 8] rfl)
          · skip
            refine lv_aload_n hx hb dX8_isOn_179 rfl (lv_at hl 5 rfl) ?_
            refine r_get (ci := 8) (v := .ref (ad 24)) (C := RX8) (T := TX8) (N := 31) hx hb hts inlX8 hown hK hs (22) (by omega) (md22 hM2) rfl 1 (by decide) (hts _ w_fl_RX8_13) rfl dX8_isOn_180 ?_
            refine lv_iload hx hb dX8_isOn_183 (lv_at hl 3 rfl) ?_
            refine r_ialdN (t := nG ns (nA ns (j))) hx hb hK hs (24) (by omega) (md24 hM2) (rfl) (by omega) (by omega) dX8_isOn_185 ?_
            refine r_topi (y := nI (sL ss (nG ns (nA ns (j))))) rfl ?_
            refine lv_iload_n hx hb dX8_isOn_186 rfl (lv_at hl 7 rfl) ?_
            refine lv_icmp_eq (tgt := 194) hx hb dX8_isOn_187 (by decide) (fun c187 => ?_) (fun c187 => ?_)
            · skip
              refine lv_iconst (v := 0) hx hb dX8_isOn_194 (by decide) ?_
              refine r_topi (y := b2i (restB ss ns (nB ns j) f && !decide (sSort ss (nG ns (nA ns j)) = 3 ∧ sL ss (nG ns (nA ns j)) = f))) (by rw [b2i_1 c165, decide_eq_true ⟨sq hok (v := 3) c176, (nI_eq (by omega) (by omega)).mp c187⟩]; rfl) ?_
              refine lv_istore (lv' := [(7, .int (b2i (restB ss ns (nB ns j) f && !decide (sSort ss (nG ns (nA ns j)) = 3 ∧ sL ss (nG ns (nA ns j)) = f)))), (8, .int (b2i (restB ss ns (nC ns j) f))), (6, .int (b2i (restB ss ns (nA ns j) f))), (5, .int (nI (nG ns (nA ns (j))))), (4, .int (nI (nG ns (j)))), (0, .ref (ad 22)), (1, .int (nI k)), (2, .int (nI f)), (3, .int (nI j))]) hx hb dX8_isOn_195 hl (by decide) rfl (fun ls hl => ?_)
              refine lv_aload_n hx hb dX8_isOn_197 rfl (lv_at hl 5 rfl) ?_
              refine r_get (ci := 8) (v := .ref (ad 26)) (C := RX8) (T := TX8) (N := 31) hx hb hts inlX8 hown hK hs (22) (by omega) (md22 hM2) rfl 4 (by decide) (hts _ w_fl_RX8_19) rfl dX8_isOn_198 ?_
              refine lv_iload_n hx hb dX8_isOn_201 rfl (lv_at hl 8 rfl) ?_
              refine r_ialdN (t := j) hx hb hK hs (26) (by omega) (md26 hM2) (rfl) (by omega) (by omega) dX8_isOn_202 ?_
              refine r_topi (y := nI (nT ns (j))) rfl ?_
              refine lv_bipush (v := 8) hx hb dX8_isOn_203 (by decide) ?_
              refine lv_icmp_ne (tgt := 242) hx hb dX8_isOn_205 (by decide) (fun c205 => absurd (by rw [hT]; rfl) c205) (fun _ => ?_)
              refine lv_iload hx hb dX8_isOn_208 (lv_at hl 1 rfl) ?_
              refine lv_if_eq (tgt := 239) hx hb dX8_isOn_210 (by decide) (fun c210 => ?_) (fun c210 => ?_)
              · skip
                refine lv_iconst (v := 0) hx hb dX8_isOn_239 (by decide) ?_
                refine r_topi (y := b2i (restB ss ns (nC ns j) f && !decide (sSort ss (nG ns (nA ns j)) = 3 ∧ sR ss (nG ns (nA ns j)) = f))) (by rw [b2i_0 c210]; rfl) ?_
                refine lv_istore (lv' := [(8, .int (b2i (restB ss ns (nC ns j) f && !decide (sSort ss (nG ns (nA ns j)) = 3 ∧ sR ss (nG ns (nA ns j)) = f)))), (7, .int (b2i (restB ss ns (nB ns j) f && !decide (sSort ss (nG ns (nA ns j)) = 3 ∧ sL ss (nG ns (nA ns j)) = f)))), (6, .int (b2i (restB ss ns (nA ns j) f))), (5, .int (nI (nG ns (nA ns (j))))), (4, .int (nI (nG ns (j)))), (0, .ref (ad 22)), (1, .int (nI k)), (2, .int (nI f)), (3, .int (nI j))]) hx hb dX8_isOn_240 hl (by decide) rfl (fun ls hl => ?_)
                exact JOIN242 (restB ss ns (nA ns j) f) (restB ss ns (nB ns j) f && !decide (sSort ss (nG ns (nA ns j)) = 3 ∧ sL ss (nG ns (nA ns j)) = f)) (restB ss ns (nC ns j) f && !decide (sSort ss (nG ns (nA ns j)) = 3 ∧ sR ss (nG ns (nA ns j)) = f)) _ (hE0) (lv_sub hl [0, 1, 2, 3, 4, 5, 6, 7, 8] rfl)
              · skip
                refine lv_aload_n hx hb dX8_isOn_213 rfl (lv_at hl 5 rfl) ?_
                refine r_get (ci := 8) (v := .ref (ad 23)) (C := RX8) (T := TX8) (N := 31) hx hb hts inlX8 hown hK hs (22) (by omega) (md22 hM2) rfl 0 (by decide) (hts _ w_fl_RX8_7) rfl dX8_isOn_214 ?_
                refine lv_iload hx hb dX8_isOn_217 (lv_at hl 3 rfl) ?_
                refine r_ialdN (t := nG ns (nA ns (j))) hx hb hK hs (23) (by omega) (md23 hM2) (rfl) (by omega) (by omega) dX8_isOn_219 ?_
                refine r_topi (y := nI (sSort ss (nG ns (nA ns (j))))) rfl ?_
                refine lv_iconst (v := 3) hx hb dX8_isOn_220 (by decide) ?_
                refine lv_icmp_ne (tgt := 235) hx hb dX8_isOn_221 (by decide) (fun c221 => ?_) (fun c221 => ?_)
                · skip
                  refine lv_iconst (v := 1) hx hb dX8_isOn_235 (by decide) ?_
                  refine lv_goto (tgt := 240) hx hb dX8_isOn_236 (by decide) ?_
                  refine r_topi (y := b2i (restB ss ns (nC ns j) f && !decide (sSort ss (nG ns (nA ns j)) = 3 ∧ sR ss (nG ns (nA ns j)) = f))) (by rw [b2i_1 c210, decide_eq_false (fun q => c221 (by rw [q.1]; rfl))]; rfl) ?_
                  refine lv_istore (lv' := [(8, .int (b2i (restB ss ns (nC ns j) f && !decide (sSort ss (nG ns (nA ns j)) = 3 ∧ sR ss (nG ns (nA ns j)) = f)))), (7, .int (b2i (restB ss ns (nB ns j) f && !decide (sSort ss (nG ns (nA ns j)) = 3 ∧ sL ss (nG ns (nA ns j)) = f)))), (6, .int (b2i (restB ss ns (nA ns j) f))), (5, .int (nI (nG ns (nA ns (j))))), (4, .int (nI (nG ns (j)))), (0, .ref (ad 22)), (1, .int (nI k)), (2, .int (nI f)), (3, .int (nI j))]) hx hb dX8_isOn_240 hl (by decide) rfl (fun ls hl => ?_)
                  exact JOIN242 (restB ss ns (nA ns j) f) (restB ss ns (nB ns j) f && !decide (sSort ss (nG ns (nA ns j)) = 3 ∧ sL ss (nG ns (nA ns j)) = f)) (restB ss ns (nC ns j) f && !decide (sSort ss (nG ns (nA ns j)) = 3 ∧ sR ss (nG ns (nA ns j)) = f)) _ (hE0) (lv_sub hl [0, 1, 2, 3, 4, 5, 6, 7, 8] rfl)
                · skip
                  refine lv_aload_n hx hb dX8_isOn_224 rfl (lv_at hl 5 rfl) ?_
                  refine r_get (ci := 8) (v := .ref (ad 25)) (C := RX8) (T := TX8) (N := 31) hx hb hts inlX8 hown hK hs (22) (by omega) (md22 hM2) rfl 2 (by decide) (hts _ w_fl_RX8_16) rfl dX8_isOn_225 ?_
                  refine lv_iload hx hb dX8_isOn_228 (lv_at hl 3 rfl) ?_
                  refine r_ialdN (t := nG ns (nA ns (j))) hx hb hK hs (25) (by omega) (md25 hM2) (rfl) (by omega) (by omega) dX8_isOn_230 ?_
                  refine r_topi (y := nI (sR ss (nG ns (nA ns (j))))) rfl ?_
                  refine lv_iload_n hx hb dX8_isOn_231 rfl (lv_at hl 7 rfl) ?_
                  refine lv_icmp_eq (tgt := 239) hx hb dX8_isOn_232 (by decide) (fun c232 => ?_) (fun c232 => ?_)
                  · skip
                    refine lv_iconst (v := 0) hx hb dX8_isOn_239 (by decide) ?_
                    refine r_topi (y := b2i (restB ss ns (nC ns j) f && !decide (sSort ss (nG ns (nA ns j)) = 3 ∧ sR ss (nG ns (nA ns j)) = f))) (by rw [b2i_1 c210, decide_eq_true ⟨sq hok (v := 3) c221, (nI_eq (by omega) (by omega)).mp c232⟩]; rfl) ?_
                    refine lv_istore (lv' := [(8, .int (b2i (restB ss ns (nC ns j) f && !decide (sSort ss (nG ns (nA ns j)) = 3 ∧ sR ss (nG ns (nA ns j)) = f)))), (7, .int (b2i (restB ss ns (nB ns j) f && !decide (sSort ss (nG ns (nA ns j)) = 3 ∧ sL ss (nG ns (nA ns j)) = f)))), (6, .int (b2i (restB ss ns (nA ns j) f))), (5, .int (nI (nG ns (nA ns (j))))), (4, .int (nI (nG ns (j)))), (0, .ref (ad 22)), (1, .int (nI k)), (2, .int (nI f)), (3, .int (nI j))]) hx hb dX8_isOn_240 hl (by decide) rfl (fun ls hl => ?_)
                    exact JOIN242 (restB ss ns (nA ns j) f) (restB ss ns (nB ns j) f && !decide (sSort ss (nG ns (nA ns j)) = 3 ∧ sL ss (nG ns (nA ns j)) = f)) (restB ss ns (nC ns j) f && !decide (sSort ss (nG ns (nA ns j)) = 3 ∧ sR ss (nG ns (nA ns j)) = f)) _ (hE0) (lv_sub hl [0, 1, 2, 3, 4, 5, 6, 7, 8] rfl)
                  · skip
                    refine lv_iconst (v := 1) hx hb dX8_isOn_235 (by decide) ?_
                    refine lv_goto (tgt := 240) hx hb dX8_isOn_236 (by decide) ?_
                    refine r_topi (y := b2i (restB ss ns (nC ns j) f && !decide (sSort ss (nG ns (nA ns j)) = 3 ∧ sR ss (nG ns (nA ns j)) = f))) (by rw [b2i_1 c210, decide_eq_false (fun q => c232 (by rw [q.2]))]; rfl) ?_
                    refine lv_istore (lv' := [(8, .int (b2i (restB ss ns (nC ns j) f && !decide (sSort ss (nG ns (nA ns j)) = 3 ∧ sR ss (nG ns (nA ns j)) = f)))), (7, .int (b2i (restB ss ns (nB ns j) f && !decide (sSort ss (nG ns (nA ns j)) = 3 ∧ sL ss (nG ns (nA ns j)) = f)))), (6, .int (b2i (restB ss ns (nA ns j) f))), (5, .int (nI (nG ns (nA ns (j))))), (4, .int (nI (nG ns (j)))), (0, .ref (ad 22)), (1, .int (nI k)), (2, .int (nI f)), (3, .int (nI j))]) hx hb dX8_isOn_240 hl (by decide) rfl (fun ls hl => ?_)
                    exact JOIN242 (restB ss ns (nA ns j) f) (restB ss ns (nB ns j) f && !decide (sSort ss (nG ns (nA ns j)) = 3 ∧ sL ss (nG ns (nA ns j)) = f)) (restB ss ns (nC ns j) f && !decide (sSort ss (nG ns (nA ns j)) = 3 ∧ sR ss (nG ns (nA ns j)) = f)) _ (hE0) (lv_sub hl [0, 1, 2, 3, 4, 5, 6, 7, 8] rfl)
            · skip
              refine lv_iconst (v := 1) hx hb dX8_isOn_190 (by decide) ?_
              refine lv_goto (tgt := 195) hx hb dX8_isOn_191 (by decide) ?_
              refine r_topi (y := b2i (restB ss ns (nB ns j) f && !decide (sSort ss (nG ns (nA ns j)) = 3 ∧ sL ss (nG ns (nA ns j)) = f))) (by rw [b2i_1 c165, decide_eq_false (fun q => c187 (by rw [q.2]))]; rfl) ?_
              refine lv_istore (lv' := [(7, .int (b2i (restB ss ns (nB ns j) f && !decide (sSort ss (nG ns (nA ns j)) = 3 ∧ sL ss (nG ns (nA ns j)) = f)))), (8, .int (b2i (restB ss ns (nC ns j) f))), (6, .int (b2i (restB ss ns (nA ns j) f))), (5, .int (nI (nG ns (nA ns (j))))), (4, .int (nI (nG ns (j)))), (0, .ref (ad 22)), (1, .int (nI k)), (2, .int (nI f)), (3, .int (nI j))]) hx hb dX8_isOn_195 hl (by decide) rfl (fun ls hl => ?_)
              refine lv_aload_n hx hb dX8_isOn_197 rfl (lv_at hl 5 rfl) ?_
              refine r_get (ci := 8) (v := .ref (ad 26)) (C := RX8) (T := TX8) (N := 31) hx hb hts inlX8 hown hK hs (22) (by omega) (md22 hM2) rfl 4 (by decide) (hts _ w_fl_RX8_19) rfl dX8_isOn_198 ?_
              refine lv_iload_n hx hb dX8_isOn_201 rfl (lv_at hl 8 rfl) ?_
              refine r_ialdN (t := j) hx hb hK hs (26) (by omega) (md26 hM2) (rfl) (by omega) (by omega) dX8_isOn_202 ?_
              refine r_topi (y := nI (nT ns (j))) rfl ?_
              refine lv_bipush (v := 8) hx hb dX8_isOn_203 (by decide) ?_
              refine lv_icmp_ne (tgt := 242) hx hb dX8_isOn_205 (by decide) (fun c205 => absurd (by rw [hT]; rfl) c205) (fun _ => ?_)
              refine lv_iload hx hb dX8_isOn_208 (lv_at hl 1 rfl) ?_
              refine lv_if_eq (tgt := 239) hx hb dX8_isOn_210 (by decide) (fun c210 => ?_) (fun c210 => ?_)
              · skip
                refine lv_iconst (v := 0) hx hb dX8_isOn_239 (by decide) ?_
                refine r_topi (y := b2i (restB ss ns (nC ns j) f && !decide (sSort ss (nG ns (nA ns j)) = 3 ∧ sR ss (nG ns (nA ns j)) = f))) (by rw [b2i_0 c210]; rfl) ?_
                refine lv_istore (lv' := [(8, .int (b2i (restB ss ns (nC ns j) f && !decide (sSort ss (nG ns (nA ns j)) = 3 ∧ sR ss (nG ns (nA ns j)) = f)))), (7, .int (b2i (restB ss ns (nB ns j) f && !decide (sSort ss (nG ns (nA ns j)) = 3 ∧ sL ss (nG ns (nA ns j)) = f)))), (6, .int (b2i (restB ss ns (nA ns j) f))), (5, .int (nI (nG ns (nA ns (j))))), (4, .int (nI (nG ns (j)))), (0, .ref (ad 22)), (1, .int (nI k)), (2, .int (nI f)), (3, .int (nI j))]) hx hb dX8_isOn_240 hl (by decide) rfl (fun ls hl => ?_)
                exact JOIN242 (restB ss ns (nA ns j) f) (restB ss ns (nB ns j) f && !decide (sSort ss (nG ns (nA ns j)) = 3 ∧ sL ss (nG ns (nA ns j)) = f)) (restB ss ns (nC ns j) f && !decide (sSort ss (nG ns (nA ns j)) = 3 ∧ sR ss (nG ns (nA ns j)) = f)) _ (hE0) (lv_sub hl [0, 1, 2, 3, 4, 5, 6, 7, 8] rfl)
              · skip
                refine lv_aload_n hx hb dX8_isOn_213 rfl (lv_at hl 5 rfl) ?_
                refine r_get (ci := 8) (v := .ref (ad 23)) (C := RX8) (T := TX8) (N := 31) hx hb hts inlX8 hown hK hs (22) (by omega) (md22 hM2) rfl 0 (by decide) (hts _ w_fl_RX8_7) rfl dX8_isOn_214 ?_
                refine lv_iload hx hb dX8_isOn_217 (lv_at hl 3 rfl) ?_
                refine r_ialdN (t := nG ns (nA ns (j))) hx hb hK hs (23) (by omega) (md23 hM2) (rfl) (by omega) (by omega) dX8_isOn_219 ?_
                refine r_topi (y := nI (sSort ss (nG ns (nA ns (j))))) rfl ?_
                refine lv_iconst (v := 3) hx hb dX8_isOn_220 (by decide) ?_
                refine lv_icmp_ne (tgt := 235) hx hb dX8_isOn_221 (by decide) (fun c221 => ?_) (fun c221 => ?_)
                · skip
                  refine lv_iconst (v := 1) hx hb dX8_isOn_235 (by decide) ?_
                  refine lv_goto (tgt := 240) hx hb dX8_isOn_236 (by decide) ?_
                  refine r_topi (y := b2i (restB ss ns (nC ns j) f && !decide (sSort ss (nG ns (nA ns j)) = 3 ∧ sR ss (nG ns (nA ns j)) = f))) (by rw [b2i_1 c210, decide_eq_false (fun q => c221 (by rw [q.1]; rfl))]; rfl) ?_
                  refine lv_istore (lv' := [(8, .int (b2i (restB ss ns (nC ns j) f && !decide (sSort ss (nG ns (nA ns j)) = 3 ∧ sR ss (nG ns (nA ns j)) = f)))), (7, .int (b2i (restB ss ns (nB ns j) f && !decide (sSort ss (nG ns (nA ns j)) = 3 ∧ sL ss (nG ns (nA ns j)) = f)))), (6, .int (b2i (restB ss ns (nA ns j) f))), (5, .int (nI (nG ns (nA ns (j))))), (4, .int (nI (nG ns (j)))), (0, .ref (ad 22)), (1, .int (nI k)), (2, .int (nI f)), (3, .int (nI j))]) hx hb dX8_isOn_240 hl (by decide) rfl (fun ls hl => ?_)
                  exact JOIN242 (restB ss ns (nA ns j) f) (restB ss ns (nB ns j) f && !decide (sSort ss (nG ns (nA ns j)) = 3 ∧ sL ss (nG ns (nA ns j)) = f)) (restB ss ns (nC ns j) f && !decide (sSort ss (nG ns (nA ns j)) = 3 ∧ sR ss (nG ns (nA ns j)) = f)) _ (hE0) (lv_sub hl [0, 1, 2, 3, 4, 5, 6, 7, 8] rfl)
                · skip
                  refine lv_aload_n hx hb dX8_isOn_224 rfl (lv_at hl 5 rfl) ?_
                  refine r_get (ci := 8) (v := .ref (ad 25)) (C := RX8) (T := TX8) (N := 31) hx hb hts inlX8 hown hK hs (22) (by omega) (md22 hM2) rfl 2 (by decide) (hts _ w_fl_RX8_16) rfl dX8_isOn_225 ?_
                  refine lv_iload hx hb dX8_isOn_228 (lv_at hl 3 rfl) ?_
                  refine r_ialdN (t := nG ns (nA ns (j))) hx hb hK hs (25) (by omega) (md25 hM2) (rfl) (by omega) (by omega) dX8_isOn_230 ?_
                  refine r_topi (y := nI (sR ss (nG ns (nA ns (j))))) rfl ?_
                  refine lv_iload_n hx hb dX8_isOn_231 rfl (lv_at hl 7 rfl) ?_
                  refine lv_icmp_eq (tgt := 239) hx hb dX8_isOn_232 (by decide) (fun c232 => ?_) (fun c232 => ?_)
                  · skip
                    refine lv_iconst (v := 0) hx hb dX8_isOn_239 (by decide) ?_
                    refine r_topi (y := b2i (restB ss ns (nC ns j) f && !decide (sSort ss (nG ns (nA ns j)) = 3 ∧ sR ss (nG ns (nA ns j)) = f))) (by rw [b2i_1 c210, decide_eq_true ⟨sq hok (v := 3) c221, (nI_eq (by omega) (by omega)).mp c232⟩]; rfl) ?_
                    refine lv_istore (lv' := [(8, .int (b2i (restB ss ns (nC ns j) f && !decide (sSort ss (nG ns (nA ns j)) = 3 ∧ sR ss (nG ns (nA ns j)) = f)))), (7, .int (b2i (restB ss ns (nB ns j) f && !decide (sSort ss (nG ns (nA ns j)) = 3 ∧ sL ss (nG ns (nA ns j)) = f)))), (6, .int (b2i (restB ss ns (nA ns j) f))), (5, .int (nI (nG ns (nA ns (j))))), (4, .int (nI (nG ns (j)))), (0, .ref (ad 22)), (1, .int (nI k)), (2, .int (nI f)), (3, .int (nI j))]) hx hb dX8_isOn_240 hl (by decide) rfl (fun ls hl => ?_)
                    exact JOIN242 (restB ss ns (nA ns j) f) (restB ss ns (nB ns j) f && !decide (sSort ss (nG ns (nA ns j)) = 3 ∧ sL ss (nG ns (nA ns j)) = f)) (restB ss ns (nC ns j) f && !decide (sSort ss (nG ns (nA ns j)) = 3 ∧ sR ss (nG ns (nA ns j)) = f)) _ (hE0) (lv_sub hl [0, 1, 2, 3, 4, 5, 6, 7, 8] rfl)
                  · skip
                    refine lv_iconst (v := 1) hx hb dX8_isOn_235 (by decide) ?_
                    refine lv_goto (tgt := 240) hx hb dX8_isOn_236 (by decide) ?_
                    refine r_topi (y := b2i (restB ss ns (nC ns j) f && !decide (sSort ss (nG ns (nA ns j)) = 3 ∧ sR ss (nG ns (nA ns j)) = f))) (by rw [b2i_1 c210, decide_eq_false (fun q => c232 (by rw [q.2]))]; rfl) ?_
                    refine lv_istore (lv' := [(8, .int (b2i (restB ss ns (nC ns j) f && !decide (sSort ss (nG ns (nA ns j)) = 3 ∧ sR ss (nG ns (nA ns j)) = f)))), (7, .int (b2i (restB ss ns (nB ns j) f && !decide (sSort ss (nG ns (nA ns j)) = 3 ∧ sL ss (nG ns (nA ns j)) = f)))), (6, .int (b2i (restB ss ns (nA ns j) f))), (5, .int (nI (nG ns (nA ns (j))))), (4, .int (nI (nG ns (j)))), (0, .ref (ad 22)), (1, .int (nI k)), (2, .int (nI f)), (3, .int (nI j))]) hx hb dX8_isOn_240 hl (by decide) rfl (fun ls hl => ?_)
                    exact JOIN242 (restB ss ns (nA ns j) f) (restB ss ns (nB ns j) f && !decide (sSort ss (nG ns (nA ns j)) = 3 ∧ sL ss (nG ns (nA ns j)) = f)) (restB ss ns (nC ns j) f && !decide (sSort ss (nG ns (nA ns j)) = 3 ∧ sR ss (nG ns (nA ns j)) = f)) _ (hE0) (lv_sub hl [0, 1, 2, 3, 4, 5, 6, 7, 8] rfl)
      · skip
        rw [if_neg hT.1, if_neg hT.2.1, if_neg hT.2.2] at hE0
        refine lv_aload_n hx hb dX8_isOn_86 rfl (lv_at hl 5 rfl) ?_
        refine r_get (ci := 8) (v := .ref (ad 26)) (C := RX8) (T := TX8) (N := 31) hx hb hts inlX8 hown hK hs (22) (by omega) (md22 hM2) rfl 4 (by decide) (hts _ w_fl_RX8_19) rfl dX8_isOn_87 ?_
        refine lv_iload_n hx hb dX8_isOn_90 rfl (lv_at hl 8 rfl) ?_
        refine r_ialdN (t := j) hx hb hK hs (26) (by omega) (md26 hM2) (rfl) (by omega) (by omega) dX8_isOn_91 ?_
        refine r_topi (y := nI (nT ns (j))) rfl ?_
        refine lv_if_ne (tgt := 108) hx hb dX8_isOn_92 (by decide) (fun _ => ?_) (fun c92 => absurd c92 (fun q => by have := sw_nI (v := 0) q rfl (by omega) (by decide); omega))
        refine lv_aload_n hx hb dX8_isOn_108 rfl (lv_at hl 5 rfl) ?_
        refine r_get (ci := 8) (v := .ref (ad 26)) (C := RX8) (T := TX8) (N := 31) hx hb hts inlX8 hown hK hs (22) (by omega) (md22 hM2) rfl 4 (by decide) (hts _ w_fl_RX8_19) rfl dX8_isOn_109 ?_
        refine lv_iload_n hx hb dX8_isOn_112 rfl (lv_at hl 8 rfl) ?_
        refine r_ialdN (t := j) hx hb hK hs (26) (by omega) (md26 hM2) (rfl) (by omega) (by omega) dX8_isOn_113 ?_
        refine r_topi (y := nI (nT ns (j))) rfl ?_
        refine lv_iconst (v := 1) hx hb dX8_isOn_114 (by decide) ?_
        refine lv_icmp_ne (tgt := 152) hx hb dX8_isOn_115 (by decide) (fun _ => ?_) (fun c115 => absurd c115 (fun q => by have := sw_nI (v := 1) q rfl (by omega) (by decide); omega))
        refine lv_aload_n hx hb dX8_isOn_152 rfl (lv_at hl 5 rfl) ?_
        refine r_get (ci := 8) (v := .ref (ad 26)) (C := RX8) (T := TX8) (N := 31) hx hb hts inlX8 hown hK hs (22) (by omega) (md22 hM2) rfl 4 (by decide) (hts _ w_fl_RX8_19) rfl dX8_isOn_153 ?_
        refine lv_iload_n hx hb dX8_isOn_156 rfl (lv_at hl 8 rfl) ?_
        refine r_ialdN (t := j) hx hb hK hs (26) (by omega) (md26 hM2) (rfl) (by omega) (by omega) dX8_isOn_157 ?_
        refine r_topi (y := nI (nT ns (j))) rfl ?_
        refine lv_bipush (v := 8) hx hb dX8_isOn_158 (by decide) ?_
        refine lv_icmp_ne (tgt := 197) hx hb dX8_isOn_160 (by decide) (fun _ => ?_) (fun c160 => absurd c160 (fun q => by have := sw_nI (v := 8) q rfl (by omega) (by decide); omega))
        refine lv_aload_n hx hb dX8_isOn_197 rfl (lv_at hl 5 rfl) ?_
        refine r_get (ci := 8) (v := .ref (ad 26)) (C := RX8) (T := TX8) (N := 31) hx hb hts inlX8 hown hK hs (22) (by omega) (md22 hM2) rfl 4 (by decide) (hts _ w_fl_RX8_19) rfl dX8_isOn_198 ?_
        refine lv_iload_n hx hb dX8_isOn_201 rfl (lv_at hl 8 rfl) ?_
        refine r_ialdN (t := j) hx hb hK hs (26) (by omega) (md26 hM2) (rfl) (by omega) (by omega) dX8_isOn_202 ?_
        refine r_topi (y := nI (nT ns (j))) rfl ?_
        refine lv_bipush (v := 8) hx hb dX8_isOn_203 (by decide) ?_
        refine lv_icmp_ne (tgt := 242) hx hb dX8_isOn_205 (by decide) (fun _ => ?_) (fun c205 => absurd c205 (fun q => by have := sw_nI (v := 8) q rfl (by omega) (by decide); omega))
        exact JOIN242 (restB ss ns (nA ns j) f) (restB ss ns (nB ns j) f) (restB ss ns (nC ns j) f) _ (hE0) (lv_sub hl [0, 1, 2, 3, 4, 5, 6, 7, 8] rfl)
    · skip
      refine lv_goto (tgt := 268) hx hb dX8_isOn_23 (by decide) ?_
      refine lv_iinc (v := nI (j + 1)) (lv' := [(3, .int (nI (j + 1))), (0, .ref (ad 22)), (1, .int (nI k)), (2, .int (nI f))]) hx hb dX8_isOn_268 hl (k := 3) rfl (nI_add j 1) (by decide) rfl (fun ls hl => ?_)
      refine lv_goto (tgt := 9) hx hb dX8_isOn_271 (by decide) ?_
      exact ih9 (j + 1) (c2) (en2) _ _ _ (by omega) (hm2) (hz) (on_skip hrs c20) (hM2) (fr2) (by omega) hs (lv_sub hl [1, 2, 3, 0] rfl)

set_option maxHeartbeats 600000 in
set_option maxRecDepth 100000 in
theorem c_X8_next (l : Launch) (G : rG) {n : Nat} {ad : Nat → Nat} {en : Nat → va_E} {ss ns : List Row} {c : Nat → Nat → Int32} {us : Int32} {ov : Int32} {dp : Int32} {cl : Int32}  (hM : MdW G n ad en ss ns c us ov dp cl) {k : Nat} (hk : 1 ≤ k ∧ k ≤ ns.length) {z : Nat} (hz6 : z ≤ ss.length) (hmk : MkI ns c k 0) : CI l G yX8_next uX8_next (1) (28) (0) (0) [.ref (ad 22), .int (nI k), .int (nI z)] (n) (n) ad en (mkPost G n ad en (nI (sLeast (restB ss ns k) (nI z))) ss ns us ov dp cl k) := by
  intro sz
  refine rMet (Qc := qI G (n) (mkPost G n ad en (nI (sLeast (restB ss ns k) (nI z))) ss ns us ov dp cl k)) (cc := cX8_next) (maxL := 6) (ret := (some .int)) (by decide) rfl (Nat.le_of_ble_eq_true rfl) ?_
  intro pP eE sS mM aA bB tT cC ls A Q hc hK hsz hA hs hl hQ
  obtain ⟨hx, hb, hr, hts, hown, hlk, hnm, hml⟩ := hc
  have hl : lv_has ls 6 [(0, .ref (ad 22)), (1, .int (nI k)), (2, .int (nI z))] := hl
  have fr0 : ∀ k, k < 22 → en k = en k := fun _ _ => rfl
  obtain ⟨hn48, -, -, -, hok, hnk⟩ := id hM
  have h6 := hok.1
  have h8 := hnk.1
  have hRI : ∀ y, restB ss ns k y = true → 1 ≤ y ∧ y ≤ ss.length := fun y q => rest_in hnk k k (Nat.le_refl _) hk.2 y q
  refine lv_iload_n hx hb dX8_next_0 rfl (lv_at hl 2 rfl) ?_
  refine lv_iconst (v := 1) hx hb dX8_next_1 (by decide) ?_
  refine lv_iadd hx hb dX8_next_2 ?_
  refine r_topi (y := nI (z + 1)) (nI_add _ _) ?_
  refine lv_istore_n (lv' := [(3, .int (nI (z + 1))), (0, .ref (ad 22)), (1, .int (nI k)), (2, .int (nI z))]) hx hb dX8_next_3 rfl hl (by decide) rfl (fun ls hl => ?_)
  suffices LOOP4 : ∀ (fu4 : Nat) (w : Nat) (c2 : Nat → Nat → Int32) (en2 : Nat → va_E) (H : Heap) (locs : List Loc) (ls : Array Slot), (z < w ∧ w ≤ ss.length + 1) → (∀ y, z < y → y < w → restB ss ns k y = false) → (MkI ns c2 k 0) → (MdW G n ad en2 ss ns c2 us ov dp cl) → (∀ k, k < 22 → en2 k = en k) → 700 - w < fu4 → rS G A sS.heap (n) ad en2 H locs → lv_has ls 6 [(0, .ref (ad 22)), (1, .int (nI k)), (2, .int (nI z)), (3, .int (nI w))] → W pP l eE (rRm (1) (28) (0) (0)) sS mM aA bB tT cC H locs (0) (0) Q (F0 mM 4 ls []) from LOOP4 _ (z + 1) (c) (en) _ _ _ (by omega) (fun y a b => by omega) (hmk) (hM) (fr0) (Nat.lt_succ_self _) hs (lv_sub hl [1, 2, 3, 0] rfl)
  intro fu4
  induction fu4 with
  | zero => intro w c2 en2 H locs ls hw hno hm2 hM2 fr2 hfu; exact absurd hfu (Nat.not_lt_zero _)
  | succ fu4 ih4 => ?_
  intro w c2 en2 H locs ls hw hno hm2 hM2 fr2 hfu4 hs hl
  refine lv_iload_n hx hb dX8_next_4 rfl (lv_at hl 3 rfl) ?_
  refine lv_aload_n hx hb dX8_next_5 rfl (lv_at hl 0 rfl) ?_
  refine r_get (ci := 8) (v := .int (nI ss.length)) (C := RX8) (T := TX8) (N := 31) hx hb hts inlX8 hown hK hs (22) (by omega) (md22 hM2) rfl 3 (by decide) (hts _ w_fl_RX8_88) rfl dX8_next_6 ?_
  refine lv_icmp_gt (tgt := 119) hx hb dX8_next_9 (by decide) (fun c9 => ?_) (fun c9 => ?_)
  · skip
    have hwe : w = ss.length + 1 := by have := (nI_ltI (by omega) (by omega)).mp c9; omega
    refine lv_iconst (v := 0) hx hb dX8_next_119 (by decide) ?_
    refine r_iret (v := 0) (mc := 0) (ms := 0) hx hb hr hlk hs (Nat.le_refl _) (Nat.le_refl _) dX8_next_120 hQ ?_
    exact ⟨⟨rfl, fr2⟩, by rw [show sLeast (restB ss ns k) (nI z) = 0 from ls_out hRI h6 (fun y a b => hno y a (by omega)) (by omega)]; rfl, _, hM2, hm2⟩
  · skip
    have hwe : w ≤ ss.length := Nat.le_of_not_lt (fun q => c9 ((nI_ltI (by omega) (by omega)).mpr q))
    refine lv_aload_n hx hb dX8_next_12 rfl (lv_at hl 0 rfl) ?_
    refine r_get (ci := 8) (v := .int (nI ss.length)) (C := RX8) (T := TX8) (N := 31) hx hb hts inlX8 hown hK hs (22) (by omega) (md22 hM2) rfl 3 (by decide) (hts _ w_fl_RX8_88) rfl dX8_next_13 ?_
    refine lv_iconst (v := 1) hx hb dX8_next_16 (by decide) ?_
    refine lv_iadd hx hb dX8_next_17 ?_
    refine r_topi (y := nI (ss.length + 1)) (nI_add _ _) ?_
    refine lv_istore (lv' := [(4, .int (nI (ss.length + 1))), (0, .ref (ad 22)), (1, .int (nI k)), (2, .int (nI z)), (3, .int (nI w))]) hx hb dX8_next_18 hl (by decide) rfl (fun ls hl => ?_)
    refine lv_iconst (v := 1) hx hb dX8_next_20 (by decide) ?_
    refine r_topi (y := nI 1) (rfl) ?_
    refine lv_istore (lv' := [(5, .int (nI 1)), (4, .int (nI (ss.length + 1))), (0, .ref (ad 22)), (1, .int (nI k)), (2, .int (nI z)), (3, .int (nI w))]) hx hb dX8_next_21 hl (by decide) rfl (fun ls hl => ?_)
    suffices LOOP23 : ∀ (fu23 : Nat) (j : Nat) (m : Nat) (H : Heap) (locs : List Loc) (ls : Array Slot), (1 ≤ j ∧ j ≤ k + 1) → (w ≤ m ∧ m ≤ ss.length + 1) → (∀ i, 1 ≤ i → i < j → c2 45 i = 1 → nT ns i = 0 → w ≤ nG ns i → m ≤ nG ns i) → k + 2 - j < fu23 → rS G A sS.heap (n) ad en2 H locs → lv_has ls 6 [(0, .ref (ad 22)), (1, .int (nI k)), (2, .int (nI z)), (3, .int (nI w)), (4, .int (nI m)), (5, .int (nI j))] → W pP l eE (rRm (1) (28) (0) (0)) sS mM aA bB tT cC H locs (0) (0) Q (F0 mM 23 ls []) from LOOP23 _ (1) (ss.length + 1) _ _ _ (by omega) (by omega) (fun i a b => by omega) (Nat.lt_succ_self _) hs (lv_sub hl [2, 3, 4, 5, 1, 0] rfl)
    intro fu23
    induction fu23 with
    | zero => intro j m H locs ls hj hm hmin hfu; exact absurd hfu (Nat.not_lt_zero _)
    | succ fu23 ih23 => ?_
    intro j m H locs ls hj hm hmin hfu23 hs hl
    refine lv_iload hx hb dX8_next_23 (lv_at hl 5 rfl) ?_
    refine lv_iload_n hx hb dX8_next_25 rfl (lv_at hl 1 rfl) ?_
    refine lv_icmp_gt (tgt := 87) hx hb dX8_next_26 (by decide) (fun c26 => ?_) (fun c26 => ?_)
    · skip
      have hjk : j = k + 1 := by have := (nI_ltI (by omega) (by omega)).mp c26; omega
      have hlow : ∀ y, z < y → y < m → restB ss ns k y = false := by
        intro y a b
        by_cases q : y < w
        · exact hno y a q
        · cases e : restB ss ns k y with
          | false => rfl
          | true =>
            obtain ⟨i, hi, e1, e2, e3⟩ := rest_goal hnk hk hm2 e
            have := hmin i hi.1 (by omega) e1 e2 (by omega)
            omega
      refine lv_iload hx hb dX8_next_87 (lv_at hl 4 rfl) ?_
      refine lv_aload_n hx hb dX8_next_89 rfl (lv_at hl 0 rfl) ?_
      refine r_get (ci := 8) (v := .int (nI ss.length)) (C := RX8) (T := TX8) (N := 31) hx hb hts inlX8 hown hK hs (22) (by omega) (md22 hM2) rfl 3 (by decide) (hts _ w_fl_RX8_88) rfl dX8_next_90 ?_
      refine lv_icmp_le (tgt := 98) hx hb dX8_next_93 (by decide) (fun c93 => ?_) (fun c93 => ?_)
      · skip
        have hml2 : m ≤ ss.length := (nI_leI (by omega) (by omega)).mp c93
        refine lv_aload_n hx hb dX8_next_98 rfl (lv_at hl 0 rfl) ?_
        refine lv_iload_n hx hb dX8_next_99 rfl (lv_at hl 1 rfl) ?_
        refine lv_iload hx hb dX8_next_100 (lv_at hl 4 rfl) ?_
        refine r_callVi (ci := 8) (As := [.int (nI k), .int (nI m)]) hx hb hml hown hts hK hA hs (22) (by omega) (md22 hM2) rfl rfl (c_X8_isOn l G hM2 (k := k) hk (f := m) ⟨by omega, by omega⟩ hm2) (cwV 2 hts (tbV w_ml_RX8_215 w_im_yX8_isOn w_se_yX8_isOn w_ini_RX8 w_cd_yX8_isOn) rfl rfl rfl (by decide +kernel) ⟨Nat.le_of_ble_eq_true rfl, Nat.le_of_ble_eq_true rfl⟩) rfl hl.1 rfl (Nat.le_of_ble_eq_true rfl) dX8_next_102 ⟨Nat.le_refl _, Nat.le_refl _⟩ (fun r_5 ad_2 en_3 H locs hp_4 hs => ?_)
        obtain ⟨⟨hAm_6, hFm_6⟩, hrm_6, c_1, hMm_6, hmk_7⟩ := hp_4
        subst hAm_6
        rw [hrm_6]
        have fr_8 : ∀ k, k < 22 → en_3 k = en k := fun k hk => Eq.trans (hFm_6 k hk) (fr2 k hk)
        refine lv_if_eq (tgt := 111) hx hb dX8_next_105 (by decide) (fun c105 => ?_) (fun c105 => ?_)
        · skip
          refine lv_iload hx hb dX8_next_111 (lv_at hl 4 rfl) ?_
          refine lv_iconst (v := 1) hx hb dX8_next_113 (by decide) ?_
          refine lv_iadd hx hb dX8_next_114 ?_
          refine r_topi (y := nI (m + 1)) (nI_add _ _) ?_
          refine lv_istore_n (lv' := [(3, .int (nI (m + 1))), (0, .ref (ad 22)), (1, .int (nI k)), (2, .int (nI z)), (4, .int (nI m)), (5, .int (nI j))]) hx hb dX8_next_115 rfl hl (by decide) rfl (fun ls hl => ?_)
          refine lv_goto (tgt := 4) hx hb dX8_next_116 (by decide) ?_
          exact ih4 (m + 1) (c_1) (en_3) _ _ _ (by omega) (fun y a b => if q : y = m then by rw [q]; exact b2i_0 c105 else hlow y a (by omega)) (hmk_7) (hMm_6) (fr_8) (by omega) hs (lv_sub hl [1, 2, 3, 0] rfl)
        · skip
          refine lv_iload hx hb dX8_next_108 (lv_at hl 4 rfl) ?_
          refine r_iret (v := nI m) (mc := 0) (ms := 0) hx hb hr hlk hs (Nat.le_refl _) (Nat.le_refl _) dX8_next_110 hQ ?_
          exact ⟨⟨rfl, fr_8⟩, by rw [show sLeast (restB ss ns k) (nI z) = m from ls_hit ⟨by omega, by omega⟩ (b2i_1 c105) hlow], _, hMm_6, hmk_7⟩
      · skip
        have hml2 : ¬ m ≤ ss.length := fun q => c93 ((nI_leI (by omega) (by omega)).mpr q)
        refine lv_iconst (v := 0) hx hb dX8_next_96 (by decide) ?_
        refine r_iret (v := 0) (mc := 0) (ms := 0) hx hb hr hlk hs (Nat.le_refl _) (Nat.le_refl _) dX8_next_97 hQ ?_
        exact ⟨⟨rfl, fr2⟩, by rw [show sLeast (restB ss ns k) (nI z) = 0 from ls_out hRI h6 (fun y a b => hlow y a (by omega)) (by omega)]; rfl, _, hM2, hm2⟩
    · skip
      have hjk : j ≤ k := Nat.le_of_not_lt (fun q => c26 ((nI_ltI (by omega) (by omega)).mpr q))
      have hnj := nG_le hnk j
      obtain ⟨p1, p2, p3, p4, p5⟩ := part_lt hnk (k := j) ⟨by omega, by omega⟩
      refine lv_aload_n hx hb dX8_next_29 rfl (lv_at hl 0 rfl) ?_
      refine r_get (ci := 8) (v := .ref (ad 45)) (C := RX8) (T := TX8) (N := 31) hx hb hts inlX8 hown hK hs (22) (by omega) (md22 hM2) rfl 28 (by decide) (hts _ w_fl_RX8_78) rfl dX8_next_30 ?_
      refine lv_iload hx hb dX8_next_33 (lv_at hl 5 rfl) ?_
      refine r_zaldN (t := j) hx hb hK hs (45) (by omega) (md45 hM2) (rfl) (by omega) (by omega) dX8_next_35 ?_
      refine lv_if_eq (tgt := 81) hx hb dX8_next_36 (by decide) (fun c36 => ?_) (fun c36 => ?_)
      · skip
        refine lv_iinc (v := nI (j + 1)) (lv' := [(5, .int (nI (j + 1))), (0, .ref (ad 22)), (1, .int (nI k)), (2, .int (nI z)), (3, .int (nI w)), (4, .int (nI m))]) hx hb dX8_next_81 hl (k := 5) rfl (nI_add j 1) (by decide) rfl (fun ls hl => ?_)
        refine lv_goto (tgt := 23) hx hb dX8_next_84 (by decide) ?_
        exact ih23 (j + 1) (m) _ _ _ (by omega) (hm) (fun i a b e t u => if q : i = j then by rw [q, c36] at e; exact absurd e (by decide) else hmin i a (by omega) e t u) (by omega) hs (lv_sub hl [1, 2, 3, 4, 5, 0] rfl)
      · skip
        refine lv_aload_n hx hb dX8_next_39 rfl (lv_at hl 0 rfl) ?_
        refine r_get (ci := 8) (v := .ref (ad 26)) (C := RX8) (T := TX8) (N := 31) hx hb hts inlX8 hown hK hs (22) (by omega) (md22 hM2) rfl 4 (by decide) (hts _ w_fl_RX8_19) rfl dX8_next_40 ?_
        refine lv_iload hx hb dX8_next_43 (lv_at hl 5 rfl) ?_
        refine r_ialdN (t := j) hx hb hK hs (26) (by omega) (md26 hM2) (rfl) (by omega) (by omega) dX8_next_45 ?_
        refine r_topi (y := nI (nT ns (j))) rfl ?_
        refine lv_if_ne (tgt := 81) hx hb dX8_next_46 (by decide) (fun c46 => ?_) (fun c46 => ?_)
        · skip
          refine lv_iinc (v := nI (j + 1)) (lv' := [(5, .int (nI (j + 1))), (0, .ref (ad 22)), (1, .int (nI k)), (2, .int (nI z)), (3, .int (nI w)), (4, .int (nI m))]) hx hb dX8_next_81 hl (k := 5) rfl (nI_add j 1) (by decide) rfl (fun ls hl => ?_)
          refine lv_goto (tgt := 23) hx hb dX8_next_84 (by decide) ?_
          exact ih23 (j + 1) (m) _ _ _ (by omega) (hm) (fun i a b e t u => if q : i = j then by exact absurd (show nT ns j = 0 from q ▸ t) (fun z => c46 (by rw [z]; rfl)) else hmin i a (by omega) e t u) (by omega) hs (lv_sub hl [1, 2, 3, 4, 5, 0] rfl)
        · skip
          refine lv_aload_n hx hb dX8_next_49 rfl (lv_at hl 0 rfl) ?_
          refine r_get (ci := 8) (v := .ref (ad 27)) (C := RX8) (T := TX8) (N := 31) hx hb hts inlX8 hown hK hs (22) (by omega) (md22 hM2) rfl 5 (by decide) (hts _ w_fl_RX8_22) rfl dX8_next_50 ?_
          refine lv_iload hx hb dX8_next_53 (lv_at hl 5 rfl) ?_
          refine r_ialdN (t := j) hx hb hK hs (27) (by omega) (md27 hM2) (rfl) (by omega) (by omega) dX8_next_55 ?_
          refine r_topi (y := nI (nG ns (j))) rfl ?_
          refine lv_iload_n hx hb dX8_next_56 rfl (lv_at hl 3 rfl) ?_
          refine lv_icmp_lt (tgt := 81) hx hb dX8_next_57 (by decide) (fun c57 => ?_) (fun c57 => ?_)
          · skip
            refine lv_iinc (v := nI (j + 1)) (lv' := [(5, .int (nI (j + 1))), (0, .ref (ad 22)), (1, .int (nI k)), (2, .int (nI z)), (3, .int (nI w)), (4, .int (nI m))]) hx hb dX8_next_81 hl (k := 5) rfl (nI_add j 1) (by decide) rfl (fun ls hl => ?_)
            refine lv_goto (tgt := 23) hx hb dX8_next_84 (by decide) ?_
            exact ih23 (j + 1) (m) _ _ _ (by omega) (hm) (fun i a b e t u => if q : i = j then by have := (nI_ltI (by omega) (by omega)).mp c57; rw [q] at u; omega else hmin i a (by omega) e t u) (by omega) hs (lv_sub hl [1, 2, 3, 4, 5, 0] rfl)
          · skip
            refine lv_aload_n hx hb dX8_next_60 rfl (lv_at hl 0 rfl) ?_
            refine r_get (ci := 8) (v := .ref (ad 27)) (C := RX8) (T := TX8) (N := 31) hx hb hts inlX8 hown hK hs (22) (by omega) (md22 hM2) rfl 5 (by decide) (hts _ w_fl_RX8_22) rfl dX8_next_61 ?_
            refine lv_iload hx hb dX8_next_64 (lv_at hl 5 rfl) ?_
            refine r_ialdN (t := j) hx hb hK hs (27) (by omega) (md27 hM2) (rfl) (by omega) (by omega) dX8_next_66 ?_
            refine r_topi (y := nI (nG ns (j))) rfl ?_
            refine lv_iload hx hb dX8_next_67 (lv_at hl 4 rfl) ?_
            refine lv_icmp_ge (tgt := 81) hx hb dX8_next_69 (by decide) (fun c69 => ?_) (fun c69 => ?_)
            · skip
              refine lv_iinc (v := nI (j + 1)) (lv' := [(5, .int (nI (j + 1))), (0, .ref (ad 22)), (1, .int (nI k)), (2, .int (nI z)), (3, .int (nI w)), (4, .int (nI m))]) hx hb dX8_next_81 hl (k := 5) rfl (nI_add j 1) (by decide) rfl (fun ls hl => ?_)
              refine lv_goto (tgt := 23) hx hb dX8_next_84 (by decide) ?_
              exact ih23 (j + 1) (m) _ _ _ (by omega) (hm) (fun i a b e t u => if q : i = j then by rw [q]; exact (nI_leI (by omega) (by omega)).mp c69 else hmin i a (by omega) e t u) (by omega) hs (lv_sub hl [1, 2, 3, 4, 5, 0] rfl)
            · skip
              refine lv_aload_n hx hb dX8_next_72 rfl (lv_at hl 0 rfl) ?_
              refine r_get (ci := 8) (v := .ref (ad 27)) (C := RX8) (T := TX8) (N := 31) hx hb hts inlX8 hown hK hs (22) (by omega) (md22 hM2) rfl 5 (by decide) (hts _ w_fl_RX8_22) rfl dX8_next_73 ?_
              refine lv_iload hx hb dX8_next_76 (lv_at hl 5 rfl) ?_
              refine r_ialdN (t := j) hx hb hK hs (27) (by omega) (md27 hM2) (rfl) (by omega) (by omega) dX8_next_78 ?_
              refine r_topi (y := nI (nG ns (j))) rfl ?_
              refine lv_istore (lv' := [(4, .int (nI (nG ns (j)))), (0, .ref (ad 22)), (1, .int (nI k)), (2, .int (nI z)), (3, .int (nI w)), (5, .int (nI j))]) hx hb dX8_next_79 hl (by decide) rfl (fun ls hl => ?_)
              refine lv_iinc (v := nI (j + 1)) (lv' := [(5, .int (nI (j + 1))), (4, .int (nI (nG ns (j)))), (0, .ref (ad 22)), (1, .int (nI k)), (2, .int (nI z)), (3, .int (nI w))]) hx hb dX8_next_81 hl (k := 5) rfl (nI_add j 1) (by decide) rfl (fun ls hl => ?_)
              refine lv_goto (tgt := 23) hx hb dX8_next_84 (by decide) ?_
              exact ih23 (j + 1) (nG ns j) _ _ _ (by omega) (by have := Nat.le_of_not_lt (fun q => c57 ((nI_ltI (by omega) (by omega)).mpr q)); omega) (fun i a b e t u => if q : i = j then by rw [q]; exact Nat.le_refl _ else Nat.le_trans (by have : ¬ m ≤ nG ns j := (fun q => c69 ((nI_leI (by omega) (by omega)).mpr q)); omega) (hmin i a (by omega) e t u)) (by omega) hs (lv_sub hl [2, 3, 4, 5, 1, 0] rfl)

set_option maxHeartbeats 600000 in
set_option maxRecDepth 100000 in
theorem law_loop (l : Launch) {pP : Program} {eE : Env} {sS : State} {mM : MethodId} {bB : List Frame} {tT : Method} {cC : Code} {b L : Nat} {xs : Nat → Int32} {G : rG} (hL : L ≤ 3072) (C0 : lw_At pP sS mM tT cC b L xs) (hK : rK G (lwA sS) sS) : ∀ (k i : Nat), i ≤ L → L < i + k → LawI pP l eE sS mM bB tT cC b G i := by
  obtain ⟨hx, hb, hr, hml, hown, hts0, hX, hbl, hlocks, hgv⟩ := id C0
  have hts : ∀ w ∈ TB, w.before #[Value.ref b] sS = true := fun w h => hts0 w (List.mem_filter.mp h).1
  have hown : sS.vm.findClass RL = some mM.cls := hown
  have hA : ∀ q : Nat, sS.heap.size ≤ q → lwA sS q := fun _ h => h
  have hbA : ¬ lwA sS b := Nat.not_le.mpr hbl
  intro k
  induction k with
  | zero => intro i h1 h2; exact absurd h2 (by omega)
  | succ k ih => ?_
  intro i hi0 hik s0 jd RR SL SN sf fl hw dv SG fuel sp c ov dp cl C D ad en H locs ls hW hM hC hD hs hl
  obtain ⟨he0, hPm, hSc, hRR, hSL⟩ := id hW
  obtain ⟨hSt, hNd, hOk, -, he21⟩ := id hPm
  have h6 := hSt.2.2.2.2.2
  have h8 := hOk.1.1
  have hhw : hw ≤ 3000 := hSc.2.2.1.2.1
  have hp7 := p7_le (s := s0) h6.1 h8 hhw hRR hSL
  refine lv_iload_n hx hb dL_law_18 rfl (lv_at hl 0 rfl) ?_
  refine lv_aload_n hx hb dL_law_19 rfl (lv_at hl 1 rfl) ?_
  refine va_slen hx hb hX hbl hbA hs.2.2 dL_law_20 ?_
  refine lv_bipush (v := 6) hx hb dL_law_21 (by decide) ?_
  refine lv_isub hx hb dL_law_23 ?_
  refine lv_icmp_gt (tgt := 529) hx hb dL_law_24 (by decide) (fun c24 => ?_) (fun c24 => ?_)
  · refine lv_iconst (v := 1) hx hb dL_law_529 (by decide) ?_
    refine va_forget (fun q hq => hs.2.2.2.2 q hq) ?_
    refine W.widen (k := 600000) (n := 7302250) (by omega) (by omega) ?_
    exact lw_ret hx hb hr hlocks dL_law_530
  have hi := lw_hd hL (by omega) c24
  have IH := ih (i + 6) hi (by omega)
  refine lv_aload_n hx hb dL_law_27 rfl (lv_at hl 1 rfl) ?_
  refine lv_iload_n hx hb dL_law_28 rfl (lv_at hl 0 rfl) ?_
  refine va_sld (i := nI i) hx hb hX hbl hbA hs.2.2 (vp_in_nI (by omega) (by omega)) dL_law_29 ?_
  refine lv_bipush (v := 15) hx hb dL_law_30 (by decide) ?_
  refine lv_iand hx hb dL_law_32 ?_
  refine lv_topi (fun z ez => ?_)
  clear ez
  by_cases k0 : z = 0
  · refine lv_tableIn (off := 75) (tgt := 108) hx hb dL_law_33 (by rw [k0]; decide) (by rw [k0]; decide) (by rw [k0]; decide) (by decide) ?_
    exact law_c0 l hL C0 hK hi IH hW hM hC hD hs hl
  by_cases k1 : z = 1
  · refine lv_tableIn (off := 98) (tgt := 131) hx hb dL_law_33 (by rw [k1]; decide) (by rw [k1]; decide) (by rw [k1]; decide) (by decide) ?_
    exact law_c1 l hL C0 hK hi IH hW hM hC hD hs hl
  by_cases k2 : z = 2
  · refine lv_tableIn (off := 111) (tgt := 144) hx hb dL_law_33 (by rw [k2]; decide) (by rw [k2]; decide) (by rw [k2]; decide) (by decide) ?_
    exact law_c2 l hL C0 hK hi IH hW hM hC hD hs hl
  by_cases k3 : z = 3
  · refine lv_tableIn (off := 154) (tgt := 187) hx hb dL_law_33 (by rw [k3]; decide) (by rw [k3]; decide) (by rw [k3]; decide) (by decide) ?_
    exact law_c3 l hL C0 hK hi IH hW hM hC hD hs hl
  by_cases k4 : z = 4
  · refine lv_tableIn (off := 187) (tgt := 220) hx hb dL_law_33 (by rw [k4]; decide) (by rw [k4]; decide) (by rw [k4]; decide) (by decide) ?_
    exact law_c4 l hL C0 hK hi IH hW hM hC hD hs hl
  by_cases k5 : z = 5
  · refine lv_tableIn (off := 200) (tgt := 233) hx hb dL_law_33 (by rw [k5]; decide) (by rw [k5]; decide) (by rw [k5]; decide) (by decide) ?_
    exact law_c5 l hL C0 hK hi IH hW hM hC hD hs hl
  by_cases k6 : z = 6
  · refine lv_tableIn (off := 213) (tgt := 246) hx hb dL_law_33 (by rw [k6]; decide) (by rw [k6]; decide) (by rw [k6]; decide) (by decide) ?_
    exact law_c6 l hL C0 hK hi IH hW hM hC hD hs hl
  by_cases k7 : z = 7
  · refine lv_tableIn (off := 246) (tgt := 279) hx hb dL_law_33 (by rw [k7]; decide) (by rw [k7]; decide) (by rw [k7]; decide) (by decide) ?_
    exact law_c7 l hL C0 hK hi IH hW hM hC hD hs hl
  by_cases k8 : z = 8
  · refine lv_tableIn (off := 259) (tgt := 292) hx hb dL_law_33 (by rw [k8]; decide) (by rw [k8]; decide) (by rw [k8]; decide) (by decide) ?_
    exact law_c8 l hL C0 hK hi IH hW hM hC hD hs hl
  by_cases k9 : z = 9
  · refine lv_tableIn (off := 322) (tgt := 355) hx hb dL_law_33 (by rw [k9]; decide) (by rw [k9]; decide) (by rw [k9]; decide) (by decide) ?_
    exact law_c9 l hL C0 hK hi IH hW hM hC hD hs hl
  by_cases k10 : z = 10
  · refine lv_tableIn (off := 355) (tgt := 388) hx hb dL_law_33 (by rw [k10]; decide) (by rw [k10]; decide) (by rw [k10]; decide) (by decide) ?_
    exact law_c10 l hL C0 hK hi IH hW hM hC hD hs hl
  by_cases k11 : z = 11
  · refine lv_tableIn (off := 378) (tgt := 411) hx hb dL_law_33 (by rw [k11]; decide) (by rw [k11]; decide) (by rw [k11]; decide) (by decide) ?_
    exact law_c11 l hL C0 hK hi IH hW hM hC hD hs hl
  by_cases k12 : z = 12
  · refine lv_tableIn (off := 401) (tgt := 434) hx hb dL_law_33 (by rw [k12]; decide) (by rw [k12]; decide) (by rw [k12]; decide) (by decide) ?_
    exact law_c12 l hL C0 hK hi IH hW hM hC hD hs hl
  by_cases k13 : z = 13
  · refine lv_tableIn (off := 434) (tgt := 467) hx hb dL_law_33 (by rw [k13]; decide) (by rw [k13]; decide) (by rw [k13]; decide) (by decide) ?_
    exact law_c13 l hL C0 hK hi IH hW hM hC hD hs hl
  by_cases k14 : z = 14
  · refine lv_tableIn (off := 457) (tgt := 490) hx hb dL_law_33 (by rw [k14]; decide) (by rw [k14]; decide) (by rw [k14]; decide) (by decide) ?_
    exact law_c14 l hL C0 hK hi IH hW hM hC hD hs hl
  refine lv_tableOut (tgt := 523) hx hb dL_law_33 (by have q0 : (z : Int32).toInt ≠ 0 := sw_ne k0; have q1 : (z : Int32).toInt ≠ 1 := sw_ne k1; have q2 : (z : Int32).toInt ≠ 2 := sw_ne k2; have q3 : (z : Int32).toInt ≠ 3 := sw_ne k3; have q4 : (z : Int32).toInt ≠ 4 := sw_ne k4; have q5 : (z : Int32).toInt ≠ 5 := sw_ne k5; have q6 : (z : Int32).toInt ≠ 6 := sw_ne k6; have q7 : (z : Int32).toInt ≠ 7 := sw_ne k7; have q8 : (z : Int32).toInt ≠ 8 := sw_ne k8; have q9 : (z : Int32).toInt ≠ 9 := sw_ne k9; have q10 : (z : Int32).toInt ≠ 10 := sw_ne k10; have q11 : (z : Int32).toInt ≠ 11 := sw_ne k11; have q12 : (z : Int32).toInt ≠ 12 := sw_ne k12; have q13 : (z : Int32).toInt ≠ 13 := sw_ne k13; have q14 : (z : Int32).toInt ≠ 14 := sw_ne k14; omega) (by decide) ?_
  refine lv_iinc (v := nI (i + 6)) (lv' := [(3, .int (nI (i + 6))), (0, .ref b), (1, .ref (ad 0)), (2, .ref (ad 22))]) hx hb dL_law_523 hl (k := 0) rfl (nI_add i 6) (by decide) rfl (fun ls hl => ?_)
  refine lv_goto (tgt := 18) hx hb dL_law_526 (by decide) ?_
  exact IH _ _ _ _ _ _ _ _ _ _ _ _ _ _ _ _ _ _ _ _ _ _ _ hW hM hC hD hs hl

set_option maxHeartbeats 600000 in
set_option maxRecDepth 100000 in
/-- YOUR PART: from the entry, for every script of at most 3072 ints, the law comes to its end with true -/
theorem whole_start {p : Program} {e : Env} {s : State} {m : MethodId} {below : List Frame} {meth : Method} {c : Code} (l : Launch) {b L : Nat} {xs : Nat → Int32} (hL : L ≤ 3072) (C0 : lw_At p s m meth c b L xs) : W p l e room_1 s m #[Value.ref b] below meth c s.heap [] 0 0 (lw_Z below #[Value.ref b] s) (entryFrame m ([Value.ref b] : List Value).toArray 4) := by
  obtain ⟨G, hK⟩ := law_K C0
  obtain ⟨hx, hb, hr, hml, hown, hts0, hX, hbl, hlocks, hgv⟩ := id C0
  have hts : ∀ w ∈ TB, w.before #[Value.ref b] s = true := fun w h => hts0 w (List.mem_filter.mp h).1
  have hown : s.vm.findClass RL = some m.cls := hown
  have hA : ∀ q : Nat, s.heap.size ≤ q → lwA s q := fun _ h => h
  have hbA : ¬ lwA s b := Nat.not_le.mpr hbl
  have hs : rS G (lwA s) s.heap 0 (fun _ => 0) (fun _ => .inr (0, [])) s.heap [] := ⟨fun k q h => by simp [rW] at h, ⟨fun i j p q h => by simp [rW] at h, fun k q h => by simp [rW] at h⟩, va_S.rf⟩
  have hl := lv_entry ([.ref b]) (n := 4) (Nat.le_of_ble_eq_true rfl)
  rw [lg_entry_eq]
  generalize (lg_sl ([.ref b]) ++ List.replicate (4 - (lg_sl ([.ref b])).length) Slot.unset).toArray = ls at hl ⊢
  have hl : lv_has ls 4 [(0, .ref b)] := hl
  refine r_new (ci := 7) (fs := [.null, .null, .null, .null]) (C := RX7) (T := TX7) (N := 4) hx hb hts inlX7 tyX7 tyX7_ok hown (hts _ w_cl_RL_7) (hts _ w_ins_RX7) (hts _ w_ini_RX7) hK hs hA rfl (fun j hj => by rcases (show j = 0 ∨ j = 1 ∨ j = 2 ∨ j = 3 by omega) with rfl | rfl | rfl | rfl <;> rfl) (Nat.le_of_ble_eq_true rfl) (Nat.le_of_ble_eq_true rfl) dL_law_0 (fun qq H ad1 en1 had1 hen1 hq hs => ?_)
  subst hq
  have he1 : en1 0 = .inr (7, [.null, .null, .null, .null]) := by rw [hen1]; exact va_up_self _ _ _
  refine lv_dup hx hb dL_law_3 rfl ?_
  refine r_callI (As := []) hx hb hml hown hts hK hA hs (c_X7_init l G he1) (cwI 0 hts (tbI w_cd_yX7_init) rfl rfl rfl (hts _ w_ini_RX7) (hts _ w_ml_RL_9) (hts _ w_im_yX7_init) rfl (by decide +kernel) ⟨Nat.le_of_ble_eq_true rfl, Nat.le_of_ble_eq_true rfl⟩) rfl hl.1 rfl (Nat.le_of_ble_eq_true rfl) dL_law_4 ⟨(Nat.le_of_ble_eq_true rfl), (Nat.le_of_ble_eq_true rfl)⟩ (fun ad2 en2 H locs hp hs => ?_)
  obtain ⟨hP0, ha0⟩ := hp
  rw [← ha0]
  refine lv_astore_n (lv' := [(1, .ref (ad2 0)), (0, .ref b)]) hx hb dL_law_7 rfl hl (by decide) rfl (fun ls hl => ?_)
  refine r_new (ci := 8) (fs := [.null, .null, .null, .int (0), .null, .null, .null, .null, .null, .int (0), .int (0), .int (0), .null, .null, .null, .null, .null, .int (0), .null, .null, .null, .null, .null, .int (0), .null, .null, .null, .null, .null, .null, .null]) (C := RX8) (T := TX8) (N := 31) hx hb hts inlX8 tyX8 tyX8_ok hown (hts _ w_cl_RL_10) (hts _ w_ins_RX8) (hts _ w_ini_RX8) hK hs hA rfl (fun j hj => by rcases (show j = 0 ∨ j = 1 ∨ j = 2 ∨ j = 3 ∨ j = 4 ∨ j = 5 ∨ j = 6 ∨ j = 7 ∨ j = 8 ∨ j = 9 ∨ j = 10 ∨ j = 11 ∨ j = 12 ∨ j = 13 ∨ j = 14 ∨ j = 15 ∨ j = 16 ∨ j = 17 ∨ j = 18 ∨ j = 19 ∨ j = 20 ∨ j = 21 ∨ j = 22 ∨ j = 23 ∨ j = 24 ∨ j = 25 ∨ j = 26 ∨ j = 27 ∨ j = 28 ∨ j = 29 ∨ j = 30 by omega) with rfl | rfl | rfl | rfl | rfl | rfl | rfl | rfl | rfl | rfl | rfl | rfl | rfl | rfl | rfl | rfl | rfl | rfl | rfl | rfl | rfl | rfl | rfl | rfl | rfl | rfl | rfl | rfl | rfl | rfl | rfl <;> rfl) (Nat.le_of_ble_eq_true rfl) (Nat.le_of_ble_eq_true rfl) dL_law_8 (fun qq H ad3 en3 had3 hen3 hq hs => ?_)
  subst hq
  have he3 : en3 22 = .inr (8, [.null, .null, .null, .int (0), .null, .null, .null, .null, .null, .int (0), .int (0), .int (0), .null, .null, .null, .null, .null, .int (0), .null, .null, .null, .null, .null, .int (0), .null, .null, .null, .null, .null, .null, .null]) := by rw [hen3]; exact va_up_self _ _ _
  have ka3 : ∀ k, k < 22 → ad3 k = ad2 k := fun k hk => by rw [had3]; exact va_up_ne _ _ (by omega)
  have ke3 : ∀ k, k < 22 → en3 k = en2 k := fun k hk => by rw [hen3]; exact va_up_ne _ _ (by omega)
  refine lv_dup hx hb dL_law_11 rfl ?_
  refine r_callI (As := []) hx hb hml hown hts hK hA hs (c_X8_init l G he3) (cwI 0 hts (tbI w_cd_yX8_init) rfl rfl rfl (hts _ w_ini_RX8) (hts _ w_ml_RL_12) (hts _ w_im_yX8_init) rfl (by decide +kernel) ⟨Nat.le_of_ble_eq_true rfl, Nat.le_of_ble_eq_true rfl⟩) rfl hl.1 rfl (Nat.le_of_ble_eq_true rfl) dL_law_12 ⟨(Nat.le_of_ble_eq_true rfl), (Nat.le_of_ble_eq_true rfl)⟩ (fun ad4 en4 H locs hp hs => ?_)
  obtain ⟨hM4, ha4, hk4⟩ := hp
  rw [← ha4 22 (by omega)]
  have e0 : ad4 0 = ad2 0 := (ha4 0 (by omega)).trans (ka3 0 (by omega))
  have hl : lv_has ls 4 [(1, .ref (ad4 0)), (0, .ref b)] := by rw [e0]; exact hl
  refine lv_astore_n (lv' := [(2, .ref (ad4 22)), (1, .ref (ad4 0)), (0, .ref b)]) hx hb dL_law_15 rfl hl (by decide) rfl (fun ls hl => ?_)
  refine lv_iconst (v := 0) hx hb dL_law_16 (by decide) ?_
  refine lv_istore_n (lv' := [(3, .int 0), (2, .ref (ad4 22)), (1, .ref (ad4 0)), (0, .ref b)]) hx hb dL_law_17 rfl hl (by decide) rfl (fun ls hl => ?_)
  have hW4 := Ps_new hP0 (ad1 := ad4) (en1 := en4) (fun k hk => (ha4 k (by omega)).trans (ka3 k hk)) (fun k hk => (hk4 k hk).trans (ke3 k hk))
  have hM5 : MdW G 48 ad4 en4 (([], []) : NSt).1 (([], []) : NSt).2 (fun _ _ => 0) (nI 0) 0 0 0 := hM4
  exact law_loop l hL C0 hK (L + 1) 0 (by omega) (by omega) _ _ _ _ _ _ _ _ _ _ _ _ _ _ _ _ _ _ _ _ _ _ _ hW4 hM5 (by omega) (by omega) hs (lv_sub hl [0, 3, 2, 1] rfl)

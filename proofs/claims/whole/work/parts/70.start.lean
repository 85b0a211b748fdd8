/-! The law from its entry -/
theorem duF_0 : duF [] = fun _ => none := by funext k; simp [duF]
theorem kW_0 (κ : Nat → ClassId) (T S : Nat) (ad : Nat → Nat) : kW κ T S ad (CS0 T S) [] = tdW κ T S ad (fun _ => 0) (s2F (fun _ => 0) S (T + 2)) (plF T) (fun _ => 0) (fun _ => 0) (nI 0) (nI 0) (fun _ => none) (nI 0) (fun _ => 0) (fun _ => 0) (fun _ => 0) (nI 0) (fun _ => 0) (nI 0) (nI 0) (nI 0) := by
  show [] ++ cW κ T S ad (CS0 T S) [] = _
  rw [List.nil_append, cW, duF_0]
  rfl
set_option maxHeartbeats 4000000 in
set_option maxRecDepth 100000 in
theorem whole_start {p : Program} {e : Env} {s : State} {m : MethodId} {below : List Frame} {meth : Method} {c : Code} (l : Launch) (hst : l.stackTraces = false) {b L : Nat} {xs : Nat → Int32} (hL : L ≤ 2562) (C0 : lw_At p s m meth c b L xs) : W p l e room_1 s m #[Value.ref b] below meth c s.heap [] 0 0 (lw_Z below #[Value.ref b] s) (entryFrame m ([Value.ref b] : List Value).toArray 7) := by
  obtain ⟨hx, hb, hr, hml, hown0, hts0, hX, hbl, hlocks, hgv⟩ := C0
  have hown : s.vm.findClass RL = some m.cls := hown0
  obtain ⟨D, κ, hK⟩ := st_K hts0
  have hthr := st_thr hts0 hgv
  have hnx := st_nx hts0
  have hcl13 := st_cl13 hts0
  have hts : ∀ w ∈ wsL_law, w.before #[Value.ref b] s = true := fun w h => hts0 w (wsL_law_in w h)
  obtain ⟨T, -, hT, eT⟩ := hd_nat (clF xs L 0) (lo := 1) (hi := 12) (by omega) (by omega)
  obtain ⟨S, -, hS8, eS⟩ := hd_nat (clF xs L 1) (lo := 1) (hi := 8) (by omega) (by omega)
  have hA : ∀ q : Nat, s.heap.size ≤ q → (fun q : Nat => s.heap.size ≤ q) q := fun _ h => h
  have hP : va_P D vwCl [] s.heap := va_P_iff.mpr fun q h => absurd h List.not_mem_nil
  have hD : va_D (fun q : Nat => s.heap.size ≤ q) [] := va_D_iff.mpr ⟨List.Pairwise.nil, fun q h => absurd h List.not_mem_nil⟩
  have hS : va_S (fun q : Nat => s.heap.size ≤ q) s.heap s.heap [] := va_S.rf
  have hl := lv_entry ([.ref b]) (n := 7) (Nat.le_of_ble_eq_true rfl)
  rw [lg_entry_eq]
  generalize (lg_sl ([.ref b]) ++ List.replicate (7 - (lg_sl ([.ref b])).length) Slot.unset).toArray = ls at hl ⊢
  have hl : lv_has ls 7 [(0, .ref b)] := hl
  refine va_new (ci := 4) (fs := [.int 0, .int 0, .null, .null, .int 0, .null, .null, .int 0]) (C := RX3) (T := TX3) (N := 8) hx hb hts0 inX3 tyX3 tyX3_ok hown (hts0 (.classLink RL 8 RX3) (by decide +kernel)) (hts0 (.instantiable RX3 8) (by decide +kernel)) (hts0 (.initialized RX3) (by decide +kernel)) hK hP hD hS hA rfl (fun j hj => by rcases (show j = 0 ∨ j = 1 ∨ j = 2 ∨ j = 3 ∨ j = 4 ∨ j = 5 ∨ j = 6 ∨ j = 7 by omega) with rfl | rfl | rfl | rfl | rfl | rfl | rfl | rfl <;> rfl) (Nat.le_of_ble_eq_true rfl) (Nat.le_of_ble_eq_true rfl) dL_law_0 (fun q0 H hP hD hS => ?_)
  have hP : va_P D vwCl [(q0, .inr (4, [.int 0, .int 0, .null, .null, .int 0, .null, .null, .int 0]))] H := hP
  have hD : va_D (fun q : Nat => s.heap.size ≤ q) [(q0, .inr (4, [.int 0, .int 0, .null, .null, .int 0, .null, .null, .int 0]))] := hD
  refine lv_dup hx hb dL_law_3 rfl ?_
  refine lv_aload_n hx hb dL_law_4 rfl (lv_at hl 0 rfl) ?_
  refine lv_iconst (v := nI 0) hx hb dL_law_5 (by decide) ?_
  refine pu_call (va_runS (As := [.ref b, .int (nI 0)]) (rest := [.ref q0, .ref q0]) ⟨hx, hb, hml, hown, hts⟩ (l_cell l b L xs hL 0 (by omega)) (va_cwS 2 hts gL_law_L_cell rfl rfl rfl (by decide +kernel) ⟨Nat.le_of_ble_eq_true rfl, Nat.le_of_ble_eq_true rfl⟩) ⟨cl_blind, cl_pre hX hbl hS⟩ rfl rfl hl.1 rfl (lv_room (Nat.le_of_ble_eq_true rfl)) dL_law_6 ⟨Nat.le_of_ble_eq_true rfl, Nat.le_of_ble_eq_true rfl⟩) ?_
  refine lv_aload_n hx hb dL_law_9 rfl (lv_at hl 0 rfl) ?_
  refine lv_iconst (v := nI 1) hx hb dL_law_10 (by decide) ?_
  refine pu_call (va_runS (As := [.ref b, .int (nI 1)]) (rest := [.int (clF xs L 0), .ref q0, .ref q0]) ⟨hx, hb, hml, hown, hts⟩ (l_cell l b L xs hL 1 (by omega)) (va_cwS 2 hts gL_law_L_cell rfl rfl rfl (by decide +kernel) ⟨Nat.le_of_ble_eq_true rfl, Nat.le_of_ble_eq_true rfl⟩) ⟨cl_blind, cl_pre hX hbl hS⟩ rfl rfl hl.1 rfl (lv_room (Nat.le_of_ble_eq_true rfl)) dL_law_11 ⟨Nat.le_of_ble_eq_true rfl, Nat.le_of_ble_eq_true rfl⟩) ?_
  refine al_call (wc := [(q0, .inr (4, [.int 0, .int 0, .null, .null, .int 0, .null, .null, .int 0]))]) (wr := []) (va_runI (As := [.int (clF xs L 0), .int (clF xs L 1)]) (rest := [.ref q0]) ⟨hx, hb, hml, hown, hts⟩ (c_tinit l D κ H.size q0 T S hT hS8 _ _ eT eS) (cwI 2 hts gL_law_X3_init rfl rfl rfl (hts0 (.initialized RX3) (by decide +kernel)) (hts0 (.methodLink RL 21 yX3_init) (by decide +kernel)) (hts0 (.instanceMethod yX3_init) (by decide +kernel)) rfl (by decide +kernel) ⟨Nat.le_of_ble_eq_true rfl, Nat.le_of_ble_eq_true rfl⟩) ⟨nx_blind, nx_pre hnx hK hP hD⟩ rfl rfl hl.1 rfl (lv_room (Nat.le_of_ble_eq_true rfl)) dL_law_14 ⟨Nat.le_of_ble_eq_true rfl, Nat.le_of_ble_eq_true rfl⟩) hP hD hS hA (by exact List.Perm.refl _) (fun ad hG H locs hP1 hD1 hS => ?_)
  subst hG
  refine W.eq (g2 := F0 m 17 ls [.ref (ad 0)]) rfl ?_
  refine lv_astore_n (lv' := [(1, .ref (ad 0)), (0, .ref b)]) hx hb dL_law_17 rfl hl (by decide) rfl (fun ls hl => ?_)
  rw [List.nil_append, ← kW_0] at hP1 hD1
  clear hP hD
  have hP := hP1
  have hD := hD1
  refine va_new (ci := 5) (fs := [.int 0, .int 0, .int 0, .null, .null, .null, .null, .null, .null, .null, .null, .null, .int 0, .int 0, .null, .null, .null, .int 0, .null, .int 0, .int 0]) (C := RX4) (T := TX4) (N := 21) hx hb hts0 inX4 tyX4 tyX4_ok hown (hts0 (.classLink RL 24 RX4) (by decide +kernel)) (hts0 (.instantiable RX4 21) (by decide +kernel)) (hts0 (.initialized RX4) (by decide +kernel)) hK hP hD hS hA rfl (fun j hj => by rcases (show j = 0 ∨ j = 1 ∨ j = 2 ∨ j = 3 ∨ j = 4 ∨ j = 5 ∨ j = 6 ∨ j = 7 ∨ j = 8 ∨ j = 9 ∨ j = 10 ∨ j = 11 ∨ j = 12 ∨ j = 13 ∨ j = 14 ∨ j = 15 ∨ j = 16 ∨ j = 17 ∨ j = 18 ∨ j = 19 ∨ j = 20 by omega) with rfl | rfl | rfl | rfl | rfl | rfl | rfl | rfl | rfl | rfl | rfl | rfl | rfl | rfl | rfl | rfl | rfl | rfl | rfl | rfl | rfl <;> rfl) (Nat.le_of_ble_eq_true rfl) (Nat.le_of_ble_eq_true rfl) dL_law_18 (fun q1 H hP hD hS => ?_)
  refine lv_dup hx hb dL_law_21 rfl ?_
  refine lv_aload_n hx hb dL_law_22 rfl (lv_at hl 1 rfl) ?_
  refine lv_iconst (v := nI 0) hx hb dL_law_23 (by decide) ?_
  refine pu_call (va_runS (As := [.ref b, .int (nI 0)]) (rest := [.ref q1, .ref q1]) ⟨hx, hb, hml, hown, hts⟩ (l_cell l b L xs hL 0 (by omega)) (va_cwS 2 hts gL_law_L_cell rfl rfl rfl (by decide +kernel) ⟨Nat.le_of_ble_eq_true rfl, Nat.le_of_ble_eq_true rfl⟩) ⟨cl_blind, cl_pre hX hbl hS⟩ rfl rfl hl.1 rfl (lv_room (Nat.le_of_ble_eq_true rfl)) dL_law_24 ⟨Nat.le_of_ble_eq_true rfl, Nat.le_of_ble_eq_true rfl⟩) ?_
  refine lv_aload_n hx hb dL_law_27 rfl (lv_at hl 1 rfl) ?_
  refine lv_iconst (v := nI 1) hx hb dL_law_28 (by decide) ?_
  refine pu_call (va_runS (As := [.ref b, .int (nI 1)]) (rest := [.int (clF xs L 0), .ref q1, .ref q1]) ⟨hx, hb, hml, hown, hts⟩ (l_cell l b L xs hL 1 (by omega)) (va_cwS 2 hts gL_law_L_cell rfl rfl rfl (by decide +kernel) ⟨Nat.le_of_ble_eq_true rfl, Nat.le_of_ble_eq_true rfl⟩) ⟨cl_blind, cl_pre hX hbl hS⟩ rfl rfl hl.1 rfl (lv_room (Nat.le_of_ble_eq_true rfl)) dL_law_29 ⟨Nat.le_of_ble_eq_true rfl, Nat.le_of_ble_eq_true rfl⟩) ?_
  have hPc : va_P D vwCl [(q1, .inr (5, [.int 0, .int 0, .int 0, .null, .null, .null, .null, .null, .null, .null, .null, .null, .int 0, .int 0, .null, .null, .null, .int 0, .null, .int 0, .int 0]))] H := va_P_mem (fun q h => List.mem_append_right _ h) hP
  have hDc : va_D (fun q : Nat => s.heap.size ≤ q) [(q1, .inr (5, [.int 0, .int 0, .int 0, .null, .null, .null, .null, .null, .null, .null, .null, .null, .int 0, .int 0, .null, .null, .null, .int 0, .null, .int 0, .int 0]))] := va_D_right hD
  clear hP1 hD1
  refine al_call (wc := [(q1, .inr (5, [.int 0, .int 0, .int 0, .null, .null, .null, .null, .null, .null, .null, .null, .null, .int 0, .int 0, .null, .null, .null, .int 0, .null, .int 0, .int 0]))]) (wr := kW κ T S ad (CS0 T S) []) (va_runI (As := [.int (clF xs L 0), .int (clF xs L 1)]) (rest := [.ref q1]) ⟨hx, hb, hml, hown, hts⟩ (m_init l D κ H.size q1 T S hT hS8 _ _ eT eS) (cwI 2 hts gL_law_X4_init rfl rfl rfl (hts0 (.initialized RX4) (by decide +kernel)) (hts0 (.methodLink RL 26 yX4_init) (by decide +kernel)) (hts0 (.instanceMethod yX4_init) (by decide +kernel)) rfl (by decide +kernel) ⟨Nat.le_of_ble_eq_true rfl, Nat.le_of_ble_eq_true rfl⟩) ⟨mu_blind, mu_pre hK hPc hDc⟩ rfl rfl hl.1 rfl (lv_room (Nat.le_of_ble_eq_true rfl)) dL_law_32 ⟨Nat.le_of_ble_eq_true rfl, Nat.le_of_ble_eq_true rfl⟩) hP hD hS hA (by exact List.Perm.refl _) (fun bd hG H locs hP1 hD1 hS => ?_)
  subst hG
  refine W.eq (g2 := F0 m 35 ls [.ref (bd 0)]) rfl ?_
  refine lv_astore_n (lv' := [(2, .ref (bd 0)), (1, .ref (ad 0)), (0, .ref b)]) hx hb dL_law_35 rfl hl (by decide) rfl (fun ls hl => ?_)
  clear hP hD hPc hDc
  have hP := hP1
  have hD := hD1
  refine lv_iconst (v := nI 1) hx hb dL_law_36 (by decide) ?_
  refine va_newa (atype := .long) (ty := .long) (a0 := (1, .inr (.inl (fun _ => 0)))) hx hb (hts0 (.arrayClass .long) (by decide +kernel)) rfl hK hP hD hS hA (fun _ => rfl) (nI_pos (by omega)) (nI_clamp (by omega)) (by decide +kernel) (Nat.le_of_ble_eq_true rfl) (Nat.le_of_ble_eq_true rfl) dL_law_37 (fun o cA H hK9 hP hD hS => ?_)
  obtain rfl : cA = κ 3 := ty_same hK hK9 rfl (by decide)
  clear hK9
  refine lv_astore_n (lv' := [(3, .ref o), (2, .ref (bd 0)), (1, .ref (ad 0)), (0, .ref b)]) hx hb dL_law_39 rfl hl (by decide) rfl (fun ls hl => ?_)
  refine lv_iconst (v := nI 2) hx hb dL_law_40 (by decide) ?_
  refine lv_istore (lv' := [(4, .int (nI 2)), (3, .ref o), (2, .ref (bd 0)), (1, .ref (ad 0)), (0, .ref b)]) hx hb dL_law_41 hl (by decide) rfl (fun ls hl => ?_)
  have hP9 : va_P D vwCl (LW κ T S ad bd o (CS0 T S) [] (MS0 T S) (fun _ => 0)) H := by unfold LW; rw [← List.append_assoc]; exact hP
  have hD9 : va_D (fun q : Nat => s.heap.size ≤ q) (LW κ T S ad bd o (CS0 T S) [] (MS0 T S) (fun _ => 0)) := by unfold LW; rw [← List.append_assoc]; exact hD
  refine W.widen (k := 29) (n := 14076) (Nat.le_of_ble_eq_true rfl) (Nat.le_of_ble_eq_true rfl) ?_
  exact law_loop ⟨hx, hb, hml, hown, hts, hX, hbl, hK, hL⟩ hr hlocks hst hthr hcl13 hT hS8 512 0 2 29 14076 (CS0 T S) [] (MS0 T S) (fun _ => 0) H locs ls (by omega) rfl rfl rfl (by omega) (rel_0 hT hS8) hP9 hD9 hS (lv_sub hl [4, 3, 2, 1, 0] rfl)

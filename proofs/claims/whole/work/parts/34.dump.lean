/-! TrackDisk and its dumps: one dump beside the disk -/

set_option maxHeartbeats 4000000 in
set_option maxRecDepth 100000 in
/-- differingFromLatestDump: none -/
theorem c_dfl_n (l : Launch) (D : va_G) (κ : Nat → ClassId) (T S : Nat) (ad : Nat → Nat) (bs sm pl r0 r1 : Nat → Int32) (tk vo : Int32) (du : Nat → Option Nat) (wt wx wb : Nat → Int32) (wn : Int32) (tp : Nat → Int32) (tn ts dn : Int32)   : Met l yX3_differingFromLatestDump wsX3_differingFromLatestDump ({ frames := 1, cells := 0, slots := 0, locals := 21 }) (va_Pc [.ref ((ad 0))] (pu_B D κ (tdW κ T S ad bs sm pl r0 r1 tk vo du (nI 0) wt wx wb wn tp tn ts dn))) (pu_Q (.int ((-1)))) 0 0 pu_N := by
  refine Met.ofW (cc := cX3_differingFromLatestDump) (maxL := 2) (ret := (some .int)) (by decide) rfl ?_
  intro p e s m args below meth c s₁ B hml hv
  obtain ⟨rfl, hP, hK⟩ := hv
  have hx := B.exec
  have hb := B.bytes
  have hr := B.returns
  have hts := atoms_spec (ws := wsX3_differingFromLatestDump) B.pre
  have hown : s.vm.findClass RX3 = some m.cls := findClass_of_methodNamed B.named
  have hlocks := B.notSynchronized
  have hl := lv_entry ([.ref ((ad 0))]) (n := 2) (Nat.le_of_ble_eq_true rfl)
  rw [lg_entry_eq]
  generalize (lg_sl ([.ref ((ad 0))]) ++ List.replicate (2 - (lg_sl ([.ref ((ad 0))])).length) Slot.unset).toArray = ls at hl ⊢
  have hl : lv_has ls 2 [(0, .ref ((ad 0)))] := hl
  refine lv_aload_n hx hb dX3_differingFromLatestDump_0 rfl (lv_at hl 0 rfl) ?_
  refine lv_aload_n hx hb dX3_differingFromLatestDump_1 rfl (lv_at hl 0 rfl) ?_
  refine va_get (D := D) (ci := 4) (v := .int (nI 0)) (C := RX3) (T := TX3) (N := 8) hx hb hts (by decide +kernel) hown hK hP 0 rfl rfl 4 (by decide) (hts (.fieldLink RX3 33 "TrackDisk" "dumpsMade" "I") (by decide +kernel)) (fun _ h9 => h9) rfl dX3_differingFromLatestDump_2 ?_
  have hPc := hP.sub (ws' := tdW κ T S ad bs sm pl r0 r1 tk vo du (nI 0) wt wx wb wn tp tn ts dn) [0, 1, 2, 3, 4, 5, 6, 7, 8, 9, 10, 11, 12, 13] rfl
  refine pu_call (va_runV (As := [.int (nI 0)]) (rest := []) ⟨hx, hb, hml, hown, hts⟩ (c_dumpOf_lo l D κ T S ad bs sm pl r0 r1 tk vo du (nI 0) wt wx wb wn tp tn ts dn (nI 0) (by decide)) (cwV 1 hts gX3_differingFromLatestDump_X3_dumpOf rfl rfl rfl (by decide +kernel) ⟨Nat.le_of_ble_eq_true rfl, Nat.le_of_ble_eq_true rfl⟩) ⟨pu_blind, va_recv hK hPc (ci := 4) (q0 := 0) rfl rfl, pu_pre hK hPc⟩ rfl rfl hl.1 rfl (lv_room (Nat.le_of_ble_eq_true rfl)) dX3_differingFromLatestDump_5 ⟨Nat.le_of_ble_eq_true rfl, Nat.le_of_ble_eq_true rfl⟩) ?_
  refine lv_astore_nN (lv' := [(1, .null), (0, .ref ((ad 0)))]) hx hb dX3_differingFromLatestDump_8 rfl hl (by decide) rfl (fun ls hl => ?_)
  refine lv_aload_nN hx hb dX3_differingFromLatestDump_9 rfl (lv_at hl 0 rfl) ?_
  refine lv_ifnonnullN hx hb dX3_differingFromLatestDump_10 ?_
  refine lv_iconst (v := (-1)) hx hb dX3_differingFromLatestDump_13 (by decide) ?_
  refine lv_goto (tgt := 25) hx hb dX3_differingFromLatestDump_14 (by decide) ?_
  exact pu_iret hx hb hr hlocks dX3_differingFromLatestDump_25

set_option maxHeartbeats 4000000 in
set_option maxRecDepth 100000 in
/-- differingFromLatestDump -/
theorem c_dfl (l : Launch) (D : va_G) (κ : Nat → ClassId) (T S : Nat) (ad : Nat → Nat) (bs sm pl r0 r1 : Nat → Int32) (tk vo : Int32) (du : Nat → Option Nat) (wt wx wb : Nat → Int32) (wn : Int32) (tp : Nat → Int32) (tn ts dn : Int32)  (bad : Nat → Nat) (bbs bsm bpl br0 br1 : Nat → Int32) (btk bvo : Int32) (hT : T ≤ 12) (hS8 : S ≤ 8) (n : Nat) (hn : n < 5) (hdu : du n = some (bad 0)) : Met l yX3_differingFromLatestDump wsX3_differingFromLatestDump ({ frames := 2, cells := 0, slots := 0, locals := 47 }) (va_Pc [.ref ((ad 0))] (pu_B D κ (tdW κ T S ad bs sm pl r0 r1 tk vo du (nI (n + 1)) wt wx wb wn tp tn ts dn ++ sfW κ T S bad bbs bsm bpl br0 br1 btk bvo))) (pu_Q (.int (nI (cnt (fun q => dnF bs bbs (q * 16) 16) ((T + 2) * S))))) 0 0 pu_N := by
  refine Met.ofW (cc := cX3_differingFromLatestDump) (maxL := 2) (ret := (some .int)) (by decide) rfl ?_
  intro p e s m args below meth c s₁ B hml hv
  obtain ⟨rfl, hP, hK⟩ := hv
  have hx := B.exec
  have hb := B.bytes
  have hr := B.returns
  have hts := atoms_spec (ws := wsX3_differingFromLatestDump) B.pre
  have hown : s.vm.findClass RX3 = some m.cls := findClass_of_methodNamed B.named
  have hlocks := B.notSynchronized
  have hl := lv_entry ([.ref ((ad 0))]) (n := 2) (Nat.le_of_ble_eq_true rfl)
  rw [lg_entry_eq]
  generalize (lg_sl ([.ref ((ad 0))]) ++ List.replicate (2 - (lg_sl ([.ref ((ad 0))])).length) Slot.unset).toArray = ls at hl ⊢
  have hl : lv_has ls 2 [(0, .ref ((ad 0)))] := hl
  have hmx := sf_max hT hS8
  refine lv_aload_n hx hb dX3_differingFromLatestDump_0 rfl (lv_at hl 0 rfl) ?_
  refine lv_aload_n hx hb dX3_differingFromLatestDump_1 rfl (lv_at hl 0 rfl) ?_
  refine va_get (D := D) (ci := 4) (v := .int (nI (n + 1))) (C := RX3) (T := TX3) (N := 8) hx hb hts (by decide +kernel) hown hK hP 0 rfl rfl 4 (by decide) (hts (.fieldLink RX3 33 "TrackDisk" "dumpsMade" "I") (by decide +kernel)) (fun _ h9 => h9) rfl dX3_differingFromLatestDump_2 ?_
  have hPc := hP.sub (ws' := tdW κ T S ad bs sm pl r0 r1 tk vo du (nI (n + 1)) wt wx wb wn tp tn ts dn) [0, 1, 2, 3, 4, 5, 6, 7, 8, 9, 10, 11, 12, 13] rfl
  refine pu_call (va_runV (As := [.int (nI (n + 1))]) (rest := []) ⟨hx, hb, hml, hown, hts⟩ (c_dumpOf l D κ T S ad bs sm pl r0 r1 tk vo du wt wx wb wn tp tn ts dn (n + 1) n (bad 0) (by omega) (by omega) hdu) (cwV 1 hts gX3_differingFromLatestDump_X3_dumpOf rfl rfl rfl (by decide +kernel) ⟨Nat.le_of_ble_eq_true rfl, Nat.le_of_ble_eq_true rfl⟩) ⟨pu_blind, va_recv hK hPc (ci := 4) (q0 := 0) rfl rfl, pu_pre hK hPc⟩ rfl rfl hl.1 rfl (lv_room (Nat.le_of_ble_eq_true rfl)) dX3_differingFromLatestDump_5 ⟨Nat.le_of_ble_eq_true rfl, Nat.le_of_ble_eq_true rfl⟩) ?_
  refine lv_astore_n (lv' := [(1, .ref ((bad 0))), (0, .ref ((ad 0)))]) hx hb dX3_differingFromLatestDump_8 rfl hl (by decide) rfl (fun ls hl => ?_)
  refine lv_aload_n hx hb dX3_differingFromLatestDump_9 rfl (lv_at hl 0 rfl) ?_
  refine lv_ifnonnull (tgt := 17) hx hb dX3_differingFromLatestDump_10 (by decide) ?_
  refine lv_aload_n hx hb dX3_differingFromLatestDump_17 rfl (lv_at hl 1 rfl) ?_
  refine va_get (D := D) (ci := 4) (v := .ref ((ad 1))) (C := RX3) (T := TX3) (N := 8) hx hb hts (by decide +kernel) hown hK hP 0 rfl rfl 2 (by decide) (hts (.fieldLink RX3 25 "TrackDisk" "disk" "LTrackDisk$Surface;") (by decide +kernel)) (fun _ h9 => h9) rfl dX3_differingFromLatestDump_18 ?_
  refine lv_aload_n hx hb dX3_differingFromLatestDump_21 rfl (lv_at hl 0 rfl) ?_
  have hPc := hP.sub (ws' := sfW κ T S (fun j => ad (j + 1)) bs sm pl r0 r1 tk vo ++ sfW κ T S bad bbs bsm bpl br0 br1 btk bvo) [1, 2, 3, 4, 5, 6, 14, 15, 16, 17, 18, 19] rfl
  refine pu_call (va_runV (As := [.ref ((bad 0))]) (rest := []) ⟨hx, hb, hml, hown, hts⟩ (c_differing l D κ T S (fun j => ad (j + 1)) bs sm pl r0 r1 tk vo bad bbs bsm bpl br0 br1 btk bvo hT hS8) (cwV 1 hts gX3_differingFromLatestDump_X1_differingSectors rfl rfl rfl (by decide +kernel) ⟨Nat.le_of_ble_eq_true rfl, Nat.le_of_ble_eq_true rfl⟩) ⟨pu_blind, va_recv hK hPc (ci := 2) (q0 := 0) rfl rfl, pu_pre hK hPc⟩ rfl rfl hl.1 rfl (lv_room (Nat.le_of_ble_eq_true rfl)) dX3_differingFromLatestDump_22 ⟨Nat.le_of_ble_eq_true rfl, Nat.le_of_ble_eq_true rfl⟩) ?_
  exact pu_iret hx hb hr hlocks dX3_differingFromLatestDump_25

set_option maxHeartbeats 4000000 in
set_option maxRecDepth 100000 in
/-- count(6): none -/
theorem c_count_6n (l : Launch) (D : va_G) (κ : Nat → ClassId) (sz : Nat) (T S : Nat) (ad : Nat → Nat) (bs sm pl r0 r1 : Nat → Int32) (tk vo : Int32) (du : Nat → Option Nat) (wt wx wb : Nat → Int32) (wn : Int32) (tp : Nat → Int32) (tn ts dn : Int32)   : Met l yX3_count wsX3_count ({ frames := 3, cells := 0, slots := 0, locals := 68 }) (va_Pc [.ref ((ad 0)), .int (nI 6)] (mu_B D κ (tdW κ T S ad bs sm pl r0 r1 tk vo du (nI 0) wt wx wb wn tp tn ts dn) sz)) (mu_Q D (some (.int ((-1)))) (tdW κ T S ad bs sm pl r0 r1 tk vo du (nI 0) wt wx wb wn tp tn ts dn) (va_A (tdW κ T S ad bs sm pl r0 r1 tk vo du (nI 0) wt wx wb wn tp tn ts dn) sz)) 0 0 (va_A (tdW κ T S ad bs sm pl r0 r1 tk vo du (nI 0) wt wx wb wn tp tn ts dn) sz) := by
  refine Met.ofW (cc := cX3_count) (maxL := 2) (ret := (some .int)) (by decide) rfl ?_
  intro p e s m args below meth c s₁ B hml hv
  obtain ⟨rfl, hsz, hP, hK, hD0⟩ := hv
  have hx := B.exec
  have hb := B.bytes
  have hr := B.returns
  have hts := atoms_spec (ws := wsX3_count) B.pre
  have hown : s.vm.findClass RX3 = some m.cls := findClass_of_methodNamed B.named
  have hlocks := B.notSynchronized
  subst hsz
  have hD := hD0.self (sz := s.heap.size)
  generalize hAe : va_A (tdW κ T S ad bs sm pl r0 r1 tk vo du (nI 0) wt wx wb wn tp tn ts dn) s.heap.size = A at hD ⊢
  have hA : ∀ q : Nat, s.heap.size ≤ q → A q := fun q h => by rw [← hAe]; exact Or.inr h
  refine W.gen (P := fun H locs => va_P D vwCl (tdW κ T S ad bs sm pl r0 r1 tk vo du (nI 0) wt wx wb wn tp tn ts dn) H ∧ va_S A s.heap H locs) (fun H locs h => ?_) ⟨hP, va_S.rf⟩
  clear hP
  obtain ⟨hP, hS⟩ := h
  have hl := lv_entry ([.ref ((ad 0)), .int (nI 6)]) (n := 2) (Nat.le_of_ble_eq_true rfl)
  rw [lg_entry_eq]
  generalize (lg_sl ([.ref ((ad 0)), .int (nI 6)]) ++ List.replicate (2 - (lg_sl ([.ref ((ad 0)), .int (nI 6)])).length) Slot.unset).toArray = ls at hl ⊢
  have hl : lv_has ls 2 [(0, .ref ((ad 0))), (1, .int (nI 6))] := hl
  refine lv_iload_n hx hb dX3_count_0 rfl (lv_at hl 1 rfl) ?_
  refine lv_tableIn (off := 87) (tgt := 88) hx hb dX3_count_1 (by decide) (by decide) (by decide) (by decide) ?_
  refine lv_aload_n hx hb dX3_count_88 rfl (lv_at hl 0 rfl) ?_
  have hPc := hP.sub (ws' := tdW κ T S ad bs sm pl r0 r1 tk vo du (nI 0) wt wx wb wn tp tn ts dn) [0, 1, 2, 3, 4, 5, 6, 7, 8, 9, 10, 11, 12, 13] rfl
  refine pu_call (va_runV (As := []) (rest := []) ⟨hx, hb, hml, hown, hts⟩ (c_dfl_n l D κ T S ad bs sm pl r0 r1 tk vo du wt wx wb wn tp tn ts dn) (cwV 0 hts gX3_count_X3_differingFromLatestDump rfl rfl rfl (by decide +kernel) ⟨Nat.le_of_ble_eq_true rfl, Nat.le_of_ble_eq_true rfl⟩) ⟨pu_blind, va_recv hK hPc (ci := 4) (q0 := 0) rfl rfl, pu_pre hK hPc⟩ rfl rfl hl.1 rfl (lv_room (Nat.le_of_ble_eq_true rfl)) dX3_count_89 ⟨Nat.le_of_ble_eq_true rfl, Nat.le_of_ble_eq_true rfl⟩) ?_
  have hP9 : va_P D vwCl (tdW κ T S ad bs sm pl r0 r1 tk vo du (nI 0) wt wx wb wn tp tn ts dn) H := hP
  have hD9 : va_D A (tdW κ T S ad bs sm pl r0 r1 tk vo du (nI 0) wt wx wb wn tp tn ts dn) := hD
  exact W.iret hx hb hr (fun t ht _ => ⟨⟨rfl, by rw [ht]; exact hP9, hD9⟩, hS.F ht⟩) hS.2.2 dX3_count_92 hlocks

set_option maxHeartbeats 4000000 in
set_option maxRecDepth 100000 in
/-- count(6) -/
theorem c_count_6 (l : Launch) (D : va_G) (κ : Nat → ClassId) (sz : Nat) (T S : Nat) (ad : Nat → Nat) (bs sm pl r0 r1 : Nat → Int32) (tk vo : Int32) (du : Nat → Option Nat) (wt wx wb : Nat → Int32) (wn : Int32) (tp : Nat → Int32) (tn ts dn : Int32)  (bad : Nat → Nat) (bbs bsm bpl br0 br1 : Nat → Int32) (btk bvo : Int32) (hT : T ≤ 12) (hS8 : S ≤ 8) (n : Nat) (hn : n < 5) (hdu : du n = some (bad 0)) : Met l yX3_count wsX3_count ({ frames := 3, cells := 0, slots := 0, locals := 68 }) (va_Pc [.ref ((ad 0)), .int (nI 6)] (mu_B D κ (tdW κ T S ad bs sm pl r0 r1 tk vo du (nI (n + 1)) wt wx wb wn tp tn ts dn ++ sfW κ T S bad bbs bsm bpl br0 br1 btk bvo) sz)) (mu_Q D (some (.int (nI (cnt (fun q => dnF bs bbs (q * 16) 16) ((T + 2) * S))))) (tdW κ T S ad bs sm pl r0 r1 tk vo du (nI (n + 1)) wt wx wb wn tp tn ts dn ++ sfW κ T S bad bbs bsm bpl br0 br1 btk bvo) (va_A (tdW κ T S ad bs sm pl r0 r1 tk vo du (nI (n + 1)) wt wx wb wn tp tn ts dn ++ sfW κ T S bad bbs bsm bpl br0 br1 btk bvo) sz)) 0 0 (va_A (tdW κ T S ad bs sm pl r0 r1 tk vo du (nI (n + 1)) wt wx wb wn tp tn ts dn ++ sfW κ T S bad bbs bsm bpl br0 br1 btk bvo) sz) := by
  refine Met.ofW (cc := cX3_count) (maxL := 2) (ret := (some .int)) (by decide) rfl ?_
  intro p e s m args below meth c s₁ B hml hv
  obtain ⟨rfl, hsz, hP, hK, hD0⟩ := hv
  have hx := B.exec
  have hb := B.bytes
  have hr := B.returns
  have hts := atoms_spec (ws := wsX3_count) B.pre
  have hown : s.vm.findClass RX3 = some m.cls := findClass_of_methodNamed B.named
  have hlocks := B.notSynchronized
  subst hsz
  have hD := hD0.self (sz := s.heap.size)
  generalize hAe : va_A (tdW κ T S ad bs sm pl r0 r1 tk vo du (nI (n + 1)) wt wx wb wn tp tn ts dn ++ sfW κ T S bad bbs bsm bpl br0 br1 btk bvo) s.heap.size = A at hD ⊢
  have hA : ∀ q : Nat, s.heap.size ≤ q → A q := fun q h => by rw [← hAe]; exact Or.inr h
  refine W.gen (P := fun H locs => va_P D vwCl (tdW κ T S ad bs sm pl r0 r1 tk vo du (nI (n + 1)) wt wx wb wn tp tn ts dn ++ sfW κ T S bad bbs bsm bpl br0 br1 btk bvo) H ∧ va_S A s.heap H locs) (fun H locs h => ?_) ⟨hP, va_S.rf⟩
  clear hP
  obtain ⟨hP, hS⟩ := h
  have hl := lv_entry ([.ref ((ad 0)), .int (nI 6)]) (n := 2) (Nat.le_of_ble_eq_true rfl)
  rw [lg_entry_eq]
  generalize (lg_sl ([.ref ((ad 0)), .int (nI 6)]) ++ List.replicate (2 - (lg_sl ([.ref ((ad 0)), .int (nI 6)])).length) Slot.unset).toArray = ls at hl ⊢
  have hl : lv_has ls 2 [(0, .ref ((ad 0))), (1, .int (nI 6))] := hl
  refine lv_iload_n hx hb dX3_count_0 rfl (lv_at hl 1 rfl) ?_
  refine lv_tableIn (off := 87) (tgt := 88) hx hb dX3_count_1 (by decide) (by decide) (by decide) (by decide) ?_
  refine lv_aload_n hx hb dX3_count_88 rfl (lv_at hl 0 rfl) ?_
  have hPc := hP.sub (ws' := tdW κ T S ad bs sm pl r0 r1 tk vo du (nI (n + 1)) wt wx wb wn tp tn ts dn ++ sfW κ T S bad bbs bsm bpl br0 br1 btk bvo) [0, 1, 2, 3, 4, 5, 6, 7, 8, 9, 10, 11, 12, 13, 14, 15, 16, 17, 18, 19] rfl
  refine pu_call (va_runV (As := []) (rest := []) ⟨hx, hb, hml, hown, hts⟩ (c_dfl l D κ T S ad bs sm pl r0 r1 tk vo du wt wx wb wn tp tn ts dn bad bbs bsm bpl br0 br1 btk bvo hT hS8 n hn hdu) (cwV 0 hts gX3_count_X3_differingFromLatestDump rfl rfl rfl (by decide +kernel) ⟨Nat.le_of_ble_eq_true rfl, Nat.le_of_ble_eq_true rfl⟩) ⟨pu_blind, va_recv hK hPc (ci := 4) (q0 := 0) rfl rfl, pu_pre hK hPc⟩ rfl rfl hl.1 rfl (lv_room (Nat.le_of_ble_eq_true rfl)) dX3_count_89 ⟨Nat.le_of_ble_eq_true rfl, Nat.le_of_ble_eq_true rfl⟩) ?_
  have hP9 : va_P D vwCl (tdW κ T S ad bs sm pl r0 r1 tk vo du (nI (n + 1)) wt wx wb wn tp tn ts dn ++ sfW κ T S bad bbs bsm bpl br0 br1 btk bvo) H := hP
  have hD9 : va_D A (tdW κ T S ad bs sm pl r0 r1 tk vo du (nI (n + 1)) wt wx wb wn tp tn ts dn ++ sfW κ T S bad bbs bsm bpl br0 br1 btk bvo) := hD
  exact W.iret hx hb hr (fun t ht _ => ⟨⟨rfl, by rw [ht]; exact hP9, hD9⟩, hS.F ht⟩) hS.2.2 dX3_count_92 hlocks

set_option maxHeartbeats 4000000 in
set_option maxRecDepth 100000 in
/-- restore: below -/
theorem c_res_lo (l : Launch) (D : va_G) (κ : Nat → ClassId) (sz : Nat) (T S : Nat) (ad : Nat → Nat) (bs sm pl r0 r1 : Nat → Int32) (tk vo : Int32) (du : Nat → Option Nat) (nd : Int32) (wt wx wb : Nat → Int32) (wn : Int32) (tp : Nat → Int32) (tn ts dn : Int32) (x y : Int32) (hlo : x < nI 1) : Met l yX3_restore wsX3_restore ({ frames := 2, cells := 0, slots := 0, locals := 81 }) (va_Pc [.ref ((ad 0)), .int x, .int y] (mu_B D κ (tdW κ T S ad bs sm pl r0 r1 tk vo du nd wt wx wb wn tp tn ts dn) sz)) (mu_Q D (some (.int ((-2)))) (tdW κ T S ad bs sm pl r0 r1 tk vo du nd wt wx wb wn tp tn ts dn) (va_A (tdW κ T S ad bs sm pl r0 r1 tk vo du nd wt wx wb wn tp tn ts dn) sz)) 0 0 (va_A (tdW κ T S ad bs sm pl r0 r1 tk vo du nd wt wx wb wn tp tn ts dn) sz) := by
  refine Met.ofW (cc := cX3_restore) (maxL := 4) (ret := (some .int)) (by decide) rfl ?_
  intro p e s m args below meth c s₁ B hml hv
  obtain ⟨rfl, hsz, hP, hK, hD0⟩ := hv
  have hx := B.exec
  have hb := B.bytes
  have hr := B.returns
  have hts := atoms_spec (ws := wsX3_restore) B.pre
  have hown : s.vm.findClass RX3 = some m.cls := findClass_of_methodNamed B.named
  have hlocks := B.notSynchronized
  subst hsz
  have hD := hD0.self (sz := s.heap.size)
  generalize hAe : va_A (tdW κ T S ad bs sm pl r0 r1 tk vo du nd wt wx wb wn tp tn ts dn) s.heap.size = A at hD ⊢
  have hA : ∀ q : Nat, s.heap.size ≤ q → A q := fun q h => by rw [← hAe]; exact Or.inr h
  refine W.gen (P := fun H locs => va_P D vwCl (tdW κ T S ad bs sm pl r0 r1 tk vo du nd wt wx wb wn tp tn ts dn) H ∧ va_S A s.heap H locs) (fun H locs h => ?_) ⟨hP, va_S.rf⟩
  clear hP
  obtain ⟨hP, hS⟩ := h
  have hl := lv_entry ([.ref ((ad 0)), .int x, .int y]) (n := 4) (Nat.le_of_ble_eq_true rfl)
  rw [lg_entry_eq]
  generalize (lg_sl ([.ref ((ad 0)), .int x, .int y]) ++ List.replicate (4 - (lg_sl ([.ref ((ad 0)), .int x, .int y])).length) Slot.unset).toArray = ls at hl ⊢
  have hl : lv_has ls 4 [(0, .ref ((ad 0))), (1, .int x), (2, .int y)] := hl
  refine lv_aload_n hx hb dX3_restore_0 rfl (lv_at hl 0 rfl) ?_
  refine lv_iload_n hx hb dX3_restore_1 rfl (lv_at hl 1 rfl) ?_
  have hPc := hP.sub (ws' := tdW κ T S ad bs sm pl r0 r1 tk vo du nd wt wx wb wn tp tn ts dn) [0, 1, 2, 3, 4, 5, 6, 7, 8, 9, 10, 11, 12, 13] rfl
  refine pu_call (va_runV (As := [.int x]) (rest := []) ⟨hx, hb, hml, hown, hts⟩ (c_dumpOf_lo l D κ T S ad bs sm pl r0 r1 tk vo du nd wt wx wb wn tp tn ts dn x hlo) (cwV 1 hts gX3_restore_X3_dumpOf rfl rfl rfl (by decide +kernel) ⟨Nat.le_of_ble_eq_true rfl, Nat.le_of_ble_eq_true rfl⟩) ⟨pu_blind, va_recv hK hPc (ci := 4) (q0 := 0) rfl rfl, pu_pre hK hPc⟩ rfl rfl hl.1 rfl (lv_room (Nat.le_of_ble_eq_true rfl)) dX3_restore_2 ⟨Nat.le_of_ble_eq_true rfl, Nat.le_of_ble_eq_true rfl⟩) ?_
  refine lv_astore_nN (lv' := [(3, .null), (0, .ref ((ad 0))), (1, .int x), (2, .int y)]) hx hb dX3_restore_5 rfl hl (by decide) rfl (fun ls hl => ?_)
  refine lv_aload_nN hx hb dX3_restore_6 rfl (lv_at hl 0 rfl) ?_
  refine lv_ifnonnullN hx hb dX3_restore_7 ?_
  refine lv_bipush (v := (-2)) hx hb dX3_restore_10 (by decide) ?_
  have hP9 : va_P D vwCl (tdW κ T S ad bs sm pl r0 r1 tk vo du nd wt wx wb wn tp tn ts dn) H := hP
  have hD9 : va_D A (tdW κ T S ad bs sm pl r0 r1 tk vo du nd wt wx wb wn tp tn ts dn) := hD
  exact W.iret hx hb hr (fun t ht _ => ⟨⟨rfl, by rw [ht]; exact hP9, hD9⟩, hS.F ht⟩) hS.2.2 dX3_restore_12 hlocks

set_option maxHeartbeats 4000000 in
set_option maxRecDepth 100000 in
/-- restore: above -/
theorem c_res_hi (l : Launch) (D : va_G) (κ : Nat → ClassId) (sz : Nat) (T S : Nat) (ad : Nat → Nat) (bs sm pl r0 r1 : Nat → Int32) (tk vo : Int32) (du : Nat → Option Nat) (nd : Int32) (wt wx wb : Nat → Int32) (wn : Int32) (tp : Nat → Int32) (tn ts dn : Int32) (x y : Int32) (hlo : ¬ x < nI 1) (hhi : nd < x) : Met l yX3_restore wsX3_restore ({ frames := 2, cells := 0, slots := 0, locals := 81 }) (va_Pc [.ref ((ad 0)), .int x, .int y] (mu_B D κ (tdW κ T S ad bs sm pl r0 r1 tk vo du nd wt wx wb wn tp tn ts dn) sz)) (mu_Q D (some (.int ((-2)))) (tdW κ T S ad bs sm pl r0 r1 tk vo du nd wt wx wb wn tp tn ts dn) (va_A (tdW κ T S ad bs sm pl r0 r1 tk vo du nd wt wx wb wn tp tn ts dn) sz)) 0 0 (va_A (tdW κ T S ad bs sm pl r0 r1 tk vo du nd wt wx wb wn tp tn ts dn) sz) := by
  refine Met.ofW (cc := cX3_restore) (maxL := 4) (ret := (some .int)) (by decide) rfl ?_
  intro p e s m args below meth c s₁ B hml hv
  obtain ⟨rfl, hsz, hP, hK, hD0⟩ := hv
  have hx := B.exec
  have hb := B.bytes
  have hr := B.returns
  have hts := atoms_spec (ws := wsX3_restore) B.pre
  have hown : s.vm.findClass RX3 = some m.cls := findClass_of_methodNamed B.named
  have hlocks := B.notSynchronized
  subst hsz
  have hD := hD0.self (sz := s.heap.size)
  generalize hAe : va_A (tdW κ T S ad bs sm pl r0 r1 tk vo du nd wt wx wb wn tp tn ts dn) s.heap.size = A at hD ⊢
  have hA : ∀ q : Nat, s.heap.size ≤ q → A q := fun q h => by rw [← hAe]; exact Or.inr h
  refine W.gen (P := fun H locs => va_P D vwCl (tdW κ T S ad bs sm pl r0 r1 tk vo du nd wt wx wb wn tp tn ts dn) H ∧ va_S A s.heap H locs) (fun H locs h => ?_) ⟨hP, va_S.rf⟩
  clear hP
  obtain ⟨hP, hS⟩ := h
  have hl := lv_entry ([.ref ((ad 0)), .int x, .int y]) (n := 4) (Nat.le_of_ble_eq_true rfl)
  rw [lg_entry_eq]
  generalize (lg_sl ([.ref ((ad 0)), .int x, .int y]) ++ List.replicate (4 - (lg_sl ([.ref ((ad 0)), .int x, .int y])).length) Slot.unset).toArray = ls at hl ⊢
  have hl : lv_has ls 4 [(0, .ref ((ad 0))), (1, .int x), (2, .int y)] := hl
  refine lv_aload_n hx hb dX3_restore_0 rfl (lv_at hl 0 rfl) ?_
  refine lv_iload_n hx hb dX3_restore_1 rfl (lv_at hl 1 rfl) ?_
  have hPc := hP.sub (ws' := tdW κ T S ad bs sm pl r0 r1 tk vo du nd wt wx wb wn tp tn ts dn) [0, 1, 2, 3, 4, 5, 6, 7, 8, 9, 10, 11, 12, 13] rfl
  refine pu_call (va_runV (As := [.int x]) (rest := []) ⟨hx, hb, hml, hown, hts⟩ (c_dumpOf_hi l D κ T S ad bs sm pl r0 r1 tk vo du nd wt wx wb wn tp tn ts dn x hlo hhi) (cwV 1 hts gX3_restore_X3_dumpOf rfl rfl rfl (by decide +kernel) ⟨Nat.le_of_ble_eq_true rfl, Nat.le_of_ble_eq_true rfl⟩) ⟨pu_blind, va_recv hK hPc (ci := 4) (q0 := 0) rfl rfl, pu_pre hK hPc⟩ rfl rfl hl.1 rfl (lv_room (Nat.le_of_ble_eq_true rfl)) dX3_restore_2 ⟨Nat.le_of_ble_eq_true rfl, Nat.le_of_ble_eq_true rfl⟩) ?_
  refine lv_astore_nN (lv' := [(3, .null), (0, .ref ((ad 0))), (1, .int x), (2, .int y)]) hx hb dX3_restore_5 rfl hl (by decide) rfl (fun ls hl => ?_)
  refine lv_aload_nN hx hb dX3_restore_6 rfl (lv_at hl 0 rfl) ?_
  refine lv_ifnonnullN hx hb dX3_restore_7 ?_
  refine lv_bipush (v := (-2)) hx hb dX3_restore_10 (by decide) ?_
  have hP9 : va_P D vwCl (tdW κ T S ad bs sm pl r0 r1 tk vo du nd wt wx wb wn tp tn ts dn) H := hP
  have hD9 : va_D A (tdW κ T S ad bs sm pl r0 r1 tk vo du nd wt wx wb wn tp tn ts dn) := hD
  exact W.iret hx hb hr (fun t ht _ => ⟨⟨rfl, by rw [ht]; exact hP9, hD9⟩, hS.F ht⟩) hS.2.2 dX3_restore_12 hlocks

set_option maxHeartbeats 4000000 in
set_option maxRecDepth 100000 in
/-- restore: down -/
theorem c_res_down (l : Launch) (D : va_G) (κ : Nat → ClassId) (sz : Nat) (T S : Nat) (ad : Nat → Nat) (bs sm pl r0 r1 : Nat → Int32) (tk vo : Int32) (du : Nat → Option Nat) (wt wx wb : Nat → Int32) (wn : Int32) (tp : Nat → Int32) (tn ts : Int32)  (d k a : Nat) (hk : k < d) (hd : d ≤ 5) (hdu : du k = some a) (y : Int32) : Met l yX3_restore wsX3_restore ({ frames := 2, cells := 0, slots := 0, locals := 81 }) (va_Pc [.ref ((ad 0)), .int (nI (k + 1)), .int y] (mu_B D κ (tdW κ T S ad bs sm pl r0 r1 tk vo du (nI d) wt wx wb wn tp tn ts (nI 1)) sz)) (mu_Q D (some (.int ((-5)))) (tdW κ T S ad bs sm pl r0 r1 tk vo du (nI d) wt wx wb wn tp tn ts (nI 1)) (va_A (tdW κ T S ad bs sm pl r0 r1 tk vo du (nI d) wt wx wb wn tp tn ts (nI 1)) sz)) 0 0 (va_A (tdW κ T S ad bs sm pl r0 r1 tk vo du (nI d) wt wx wb wn tp tn ts (nI 1)) sz) := by
  refine Met.ofW (cc := cX3_restore) (maxL := 4) (ret := (some .int)) (by decide) rfl ?_
  intro p e s m args below meth c s₁ B hml hv
  obtain ⟨rfl, hsz, hP, hK, hD0⟩ := hv
  have hx := B.exec
  have hb := B.bytes
  have hr := B.returns
  have hts := atoms_spec (ws := wsX3_restore) B.pre
  have hown : s.vm.findClass RX3 = some m.cls := findClass_of_methodNamed B.named
  have hlocks := B.notSynchronized
  subst hsz
  have hD := hD0.self (sz := s.heap.size)
  generalize hAe : va_A (tdW κ T S ad bs sm pl r0 r1 tk vo du (nI d) wt wx wb wn tp tn ts (nI 1)) s.heap.size = A at hD ⊢
  have hA : ∀ q : Nat, s.heap.size ≤ q → A q := fun q h => by rw [← hAe]; exact Or.inr h
  refine W.gen (P := fun H locs => va_P D vwCl (tdW κ T S ad bs sm pl r0 r1 tk vo du (nI d) wt wx wb wn tp tn ts (nI 1)) H ∧ va_S A s.heap H locs) (fun H locs h => ?_) ⟨hP, va_S.rf⟩
  clear hP
  obtain ⟨hP, hS⟩ := h
  have hl := lv_entry ([.ref ((ad 0)), .int (nI (k + 1)), .int y]) (n := 4) (Nat.le_of_ble_eq_true rfl)
  rw [lg_entry_eq]
  generalize (lg_sl ([.ref ((ad 0)), .int (nI (k + 1)), .int y]) ++ List.replicate (4 - (lg_sl ([.ref ((ad 0)), .int (nI (k + 1)), .int y])).length) Slot.unset).toArray = ls at hl ⊢
  have hl : lv_has ls 4 [(0, .ref ((ad 0))), (1, .int (nI (k + 1))), (2, .int y)] := hl
  refine lv_aload_n hx hb dX3_restore_0 rfl (lv_at hl 0 rfl) ?_
  refine lv_iload_n hx hb dX3_restore_1 rfl (lv_at hl 1 rfl) ?_
  have hPc := hP.sub (ws' := tdW κ T S ad bs sm pl r0 r1 tk vo du (nI d) wt wx wb wn tp tn ts (nI 1)) [0, 1, 2, 3, 4, 5, 6, 7, 8, 9, 10, 11, 12, 13] rfl
  refine pu_call (va_runV (As := [.int (nI (k + 1))]) (rest := []) ⟨hx, hb, hml, hown, hts⟩ (c_dumpOf l D κ T S ad bs sm pl r0 r1 tk vo du wt wx wb wn tp tn ts (nI 1) d k a hk hd hdu) (cwV 1 hts gX3_restore_X3_dumpOf rfl rfl rfl (by decide +kernel) ⟨Nat.le_of_ble_eq_true rfl, Nat.le_of_ble_eq_true rfl⟩) ⟨pu_blind, va_recv hK hPc (ci := 4) (q0 := 0) rfl rfl, pu_pre hK hPc⟩ rfl rfl hl.1 rfl (lv_room (Nat.le_of_ble_eq_true rfl)) dX3_restore_2 ⟨Nat.le_of_ble_eq_true rfl, Nat.le_of_ble_eq_true rfl⟩) ?_
  refine lv_astore_n (lv' := [(3, .ref a), (0, .ref ((ad 0))), (1, .int (nI (k + 1))), (2, .int y)]) hx hb dX3_restore_5 rfl hl (by decide) rfl (fun ls hl => ?_)
  refine lv_aload_n hx hb dX3_restore_6 rfl (lv_at hl 0 rfl) ?_
  refine lv_ifnonnull (tgt := 13) hx hb dX3_restore_7 (by decide) ?_
  refine lv_aload_n hx hb dX3_restore_13 rfl (lv_at hl 1 rfl) ?_
  refine va_get (D := D) (ci := 4) (v := .int (nI 1)) (C := RX3) (T := TX3) (N := 8) hx hb hts (by decide +kernel) hown hK hP 0 rfl rfl 7 (by decide) (hts (.fieldLink RX3 50 "TrackDisk" "down" "Z") (by decide +kernel)) (fun _ h9 => h9) rfl dX3_restore_14 ?_
  refine lv_if_eq (tgt := 23) hx hb dX3_restore_17 (by decide) (fun c_17 => ?_) (fun c_17 => ?_)
  · exact absurd c_17 (by decide)
  · skip
    refine lv_bipush (v := (-5)) hx hb dX3_restore_20 (by decide) ?_
    have hP9 : va_P D vwCl (tdW κ T S ad bs sm pl r0 r1 tk vo du (nI d) wt wx wb wn tp tn ts (nI 1)) H := hP
    have hD9 : va_D A (tdW κ T S ad bs sm pl r0 r1 tk vo du (nI d) wt wx wb wn tp tn ts (nI 1)) := hD
    exact W.iret hx hb hr (fun t ht _ => ⟨⟨rfl, by rw [ht]; exact hP9, hD9⟩, hS.F ht⟩) hS.2.2 dX3_restore_22 hlocks

set_option maxHeartbeats 4000000 in
set_option maxRecDepth 100000 in
/-- restore: another volume -/
theorem c_res_vol (l : Launch) (D : va_G) (κ : Nat → ClassId) (sz : Nat) (T S : Nat) (ad : Nat → Nat) (bs sm pl r0 r1 : Nat → Int32) (tk vo : Int32) (du : Nat → Option Nat) (wt wx wb : Nat → Int32) (wn : Int32) (tp : Nat → Int32) (tn ts : Int32)  (bad : Nat → Nat) (bbs bsm bpl br0 br1 : Nat → Int32) (btk bvo : Int32) (d k : Nat) (hk : k < d) (hd : d ≤ 5) (hdu : du k = some (bad 0)) (y : Int32) (hv : ¬ bvo = y) : Met l yX3_restore wsX3_restore ({ frames := 2, cells := 0, slots := 0, locals := 81 }) (va_Pc [.ref ((ad 0)), .int (nI (k + 1)), .int y] (mu_B D κ (tdW κ T S ad bs sm pl r0 r1 tk vo du (nI d) wt wx wb wn tp tn ts (nI 0) ++ sfW κ T S bad bbs bsm bpl br0 br1 btk bvo) sz)) (mu_Q D (some (.int (nI 0))) (tdW κ T S ad bs sm pl r0 r1 tk vo du (nI d) wt wx wb wn tp tn ts (nI 0) ++ sfW κ T S bad bbs bsm bpl br0 br1 btk bvo) (va_A (tdW κ T S ad bs sm pl r0 r1 tk vo du (nI d) wt wx wb wn tp tn ts (nI 0) ++ sfW κ T S bad bbs bsm bpl br0 br1 btk bvo) sz)) 0 0 (va_A (tdW κ T S ad bs sm pl r0 r1 tk vo du (nI d) wt wx wb wn tp tn ts (nI 0) ++ sfW κ T S bad bbs bsm bpl br0 br1 btk bvo) sz) := by
  refine Met.ofW (cc := cX3_restore) (maxL := 4) (ret := (some .int)) (by decide) rfl ?_
  intro p e s m args below meth c s₁ B hml hv
  obtain ⟨rfl, hsz, hP, hK, hD0⟩ := hv
  have hx := B.exec
  have hb := B.bytes
  have hr := B.returns
  have hts := atoms_spec (ws := wsX3_restore) B.pre
  have hown : s.vm.findClass RX3 = some m.cls := findClass_of_methodNamed B.named
  have hlocks := B.notSynchronized
  subst hsz
  have hD := hD0.self (sz := s.heap.size)
  generalize hAe : va_A (tdW κ T S ad bs sm pl r0 r1 tk vo du (nI d) wt wx wb wn tp tn ts (nI 0) ++ sfW κ T S bad bbs bsm bpl br0 br1 btk bvo) s.heap.size = A at hD ⊢
  have hA : ∀ q : Nat, s.heap.size ≤ q → A q := fun q h => by rw [← hAe]; exact Or.inr h
  refine W.gen (P := fun H locs => va_P D vwCl (tdW κ T S ad bs sm pl r0 r1 tk vo du (nI d) wt wx wb wn tp tn ts (nI 0) ++ sfW κ T S bad bbs bsm bpl br0 br1 btk bvo) H ∧ va_S A s.heap H locs) (fun H locs h => ?_) ⟨hP, va_S.rf⟩
  clear hP
  obtain ⟨hP, hS⟩ := h
  have hl := lv_entry ([.ref ((ad 0)), .int (nI (k + 1)), .int y]) (n := 4) (Nat.le_of_ble_eq_true rfl)
  rw [lg_entry_eq]
  generalize (lg_sl ([.ref ((ad 0)), .int (nI (k + 1)), .int y]) ++ List.replicate (4 - (lg_sl ([.ref ((ad 0)), .int (nI (k + 1)), .int y])).length) Slot.unset).toArray = ls at hl ⊢
  have hl : lv_has ls 4 [(0, .ref ((ad 0))), (1, .int (nI (k + 1))), (2, .int y)] := hl
  refine lv_aload_n hx hb dX3_restore_0 rfl (lv_at hl 0 rfl) ?_
  refine lv_iload_n hx hb dX3_restore_1 rfl (lv_at hl 1 rfl) ?_
  have hPc := hP.sub (ws' := tdW κ T S ad bs sm pl r0 r1 tk vo du (nI d) wt wx wb wn tp tn ts (nI 0)) [0, 1, 2, 3, 4, 5, 6, 7, 8, 9, 10, 11, 12, 13] rfl
  refine pu_call (va_runV (As := [.int (nI (k + 1))]) (rest := []) ⟨hx, hb, hml, hown, hts⟩ (c_dumpOf l D κ T S ad bs sm pl r0 r1 tk vo du wt wx wb wn tp tn ts (nI 0) d k (bad 0) hk hd hdu) (cwV 1 hts gX3_restore_X3_dumpOf rfl rfl rfl (by decide +kernel) ⟨Nat.le_of_ble_eq_true rfl, Nat.le_of_ble_eq_true rfl⟩) ⟨pu_blind, va_recv hK hPc (ci := 4) (q0 := 0) rfl rfl, pu_pre hK hPc⟩ rfl rfl hl.1 rfl (lv_room (Nat.le_of_ble_eq_true rfl)) dX3_restore_2 ⟨Nat.le_of_ble_eq_true rfl, Nat.le_of_ble_eq_true rfl⟩) ?_
  refine lv_astore_n (lv' := [(3, .ref ((bad 0))), (0, .ref ((ad 0))), (1, .int (nI (k + 1))), (2, .int y)]) hx hb dX3_restore_5 rfl hl (by decide) rfl (fun ls hl => ?_)
  refine lv_aload_n hx hb dX3_restore_6 rfl (lv_at hl 0 rfl) ?_
  refine lv_ifnonnull (tgt := 13) hx hb dX3_restore_7 (by decide) ?_
  refine lv_aload_n hx hb dX3_restore_13 rfl (lv_at hl 1 rfl) ?_
  refine va_get (D := D) (ci := 4) (v := .int (nI 0)) (C := RX3) (T := TX3) (N := 8) hx hb hts (by decide +kernel) hown hK hP 0 rfl rfl 7 (by decide) (hts (.fieldLink RX3 50 "TrackDisk" "down" "Z") (by decide +kernel)) (fun _ h9 => h9) rfl dX3_restore_14 ?_
  refine lv_if_eq (tgt := 23) hx hb dX3_restore_17 (by decide) (fun c_17 => ?_) (fun c_17 => ?_)
  · skip
    refine lv_aload_n hx hb dX3_restore_23 rfl (lv_at hl 0 rfl) ?_
    refine va_get (D := D) (ci := 2) (v := .int bvo) (C := RX1) (T := TX1) (N := 9) hx hb hts (by decide +kernel) hown hK hP 14 rfl rfl 8 (by decide) (hts (.fieldLink RX3 138 "TrackDisk$Surface" "volume" "I") (by decide +kernel)) (fun _ h9 => h9) rfl dX3_restore_24 ?_
    refine lv_iload_n hx hb dX3_restore_27 rfl (lv_at hl 3 rfl) ?_
    refine lv_icmp_eq (tgt := 33) hx hb dX3_restore_28 (by decide) (fun c_28 => ?_) (fun c_28 => ?_)
    · exact absurd c_28 hv
    · skip
      refine lv_iconst (v := nI 0) hx hb dX3_restore_31 (by decide) ?_
      have hP9 : va_P D vwCl (tdW κ T S ad bs sm pl r0 r1 tk vo du (nI d) wt wx wb wn tp tn ts (nI 0) ++ sfW κ T S bad bbs bsm bpl br0 br1 btk bvo) H := hP
      have hD9 : va_D A (tdW κ T S ad bs sm pl r0 r1 tk vo du (nI d) wt wx wb wn tp tn ts (nI 0) ++ sfW κ T S bad bbs bsm bpl br0 br1 btk bvo) := hD
      exact W.iret hx hb hr (fun t ht _ => ⟨⟨rfl, by rw [ht]; exact hP9, hD9⟩, hS.F ht⟩) hS.2.2 dX3_restore_32 hlocks
  · exact absurd (by decide) c_17

set_option maxHeartbeats 4000000 in
set_option maxRecDepth 100000 in
/-- restore -/
theorem c_res (l : Launch) (D : va_G) (κ : Nat → ClassId) (sz : Nat) (T S : Nat) (ad : Nat → Nat) (bs sm pl r0 r1 : Nat → Int32) (tk vo : Int32) (du : Nat → Option Nat) (wt wx wb : Nat → Int32) (wn : Int32) (tp : Nat → Int32) (tn ts : Int32)  (bad : Nat → Nat) (bbs bsm bpl br0 br1 : Nat → Int32) (btk bvo : Int32) (hT : T ≤ 12) (hS8 : S ≤ 8) (d k : Nat) (hk : k < d) (hd : d ≤ 5) (hdu : du k = some (bad 0)) (y : Int32) (hv : bvo = y) (hft : sb_Fit bbs) : Met l yX3_restore wsX3_restore ({ frames := 2, cells := 0, slots := 0, locals := 81 }) (va_Pc [.ref ((ad 0)), .int (nI (k + 1)), .int y] (mu_B D κ (tdW κ T S ad bs sm pl r0 r1 tk vo du (nI d) wt wx wb wn tp tn ts (nI 0) ++ sfW κ T S bad bbs bsm bpl br0 br1 btk bvo) sz)) (mu_Q D (some (.int (nI 1))) (tdW κ T S ad (va_cpy bbs bs 0 0 ((T + 2) * S * 16)) (va_cpy bsm sm 0 0 ((T + 2) * S)) (va_cpy bpl pl 0 0 T) (va_cpy br0 r0 0 0 T) (va_cpy br1 r1 0 0 T) btk bvo du (nI d) wt wx wb (nI 0) tp tn ts (nI 0) ++ sfW κ T S bad bbs bsm bpl br0 br1 btk bvo) (va_A (tdW κ T S ad bs sm pl r0 r1 tk vo du (nI d) wt wx wb wn tp tn ts (nI 0) ++ sfW κ T S bad bbs bsm bpl br0 br1 btk bvo) sz)) 0 0 (va_A (tdW κ T S ad bs sm pl r0 r1 tk vo du (nI d) wt wx wb wn tp tn ts (nI 0) ++ sfW κ T S bad bbs bsm bpl br0 br1 btk bvo) sz) := by
  refine Met.ofW (cc := cX3_restore) (maxL := 4) (ret := (some .int)) (by decide) rfl ?_
  intro p e s m args below meth c s₁ B hml hv
  obtain ⟨rfl, hsz, hP, hK, hD0⟩ := hv
  have hx := B.exec
  have hb := B.bytes
  have hr := B.returns
  have hts := atoms_spec (ws := wsX3_restore) B.pre
  have hown : s.vm.findClass RX3 = some m.cls := findClass_of_methodNamed B.named
  have hlocks := B.notSynchronized
  subst hsz
  have hD := hD0.self (sz := s.heap.size)
  generalize hAe : va_A (tdW κ T S ad bs sm pl r0 r1 tk vo du (nI d) wt wx wb wn tp tn ts (nI 0) ++ sfW κ T S bad bbs bsm bpl br0 br1 btk bvo) s.heap.size = A at hD ⊢
  have hA : ∀ q : Nat, s.heap.size ≤ q → A q := fun q h => by rw [← hAe]; exact Or.inr h
  refine W.gen (P := fun H locs => va_P D vwCl (tdW κ T S ad bs sm pl r0 r1 tk vo du (nI d) wt wx wb wn tp tn ts (nI 0) ++ sfW κ T S bad bbs bsm bpl br0 br1 btk bvo) H ∧ va_S A s.heap H locs) (fun H locs h => ?_) ⟨hP, va_S.rf⟩
  clear hP
  obtain ⟨hP, hS⟩ := h
  have hl := lv_entry ([.ref ((ad 0)), .int (nI (k + 1)), .int y]) (n := 4) (Nat.le_of_ble_eq_true rfl)
  rw [lg_entry_eq]
  generalize (lg_sl ([.ref ((ad 0)), .int (nI (k + 1)), .int y]) ++ List.replicate (4 - (lg_sl ([.ref ((ad 0)), .int (nI (k + 1)), .int y])).length) Slot.unset).toArray = ls at hl ⊢
  have hl : lv_has ls 4 [(0, .ref ((ad 0))), (1, .int (nI (k + 1))), (2, .int y)] := hl
  refine lv_aload_n hx hb dX3_restore_0 rfl (lv_at hl 0 rfl) ?_
  refine lv_iload_n hx hb dX3_restore_1 rfl (lv_at hl 1 rfl) ?_
  have hPc := hP.sub (ws' := tdW κ T S ad bs sm pl r0 r1 tk vo du (nI d) wt wx wb wn tp tn ts (nI 0)) [0, 1, 2, 3, 4, 5, 6, 7, 8, 9, 10, 11, 12, 13] rfl
  refine pu_call (va_runV (As := [.int (nI (k + 1))]) (rest := []) ⟨hx, hb, hml, hown, hts⟩ (c_dumpOf l D κ T S ad bs sm pl r0 r1 tk vo du wt wx wb wn tp tn ts (nI 0) d k (bad 0) hk hd hdu) (cwV 1 hts gX3_restore_X3_dumpOf rfl rfl rfl (by decide +kernel) ⟨Nat.le_of_ble_eq_true rfl, Nat.le_of_ble_eq_true rfl⟩) ⟨pu_blind, va_recv hK hPc (ci := 4) (q0 := 0) rfl rfl, pu_pre hK hPc⟩ rfl rfl hl.1 rfl (lv_room (Nat.le_of_ble_eq_true rfl)) dX3_restore_2 ⟨Nat.le_of_ble_eq_true rfl, Nat.le_of_ble_eq_true rfl⟩) ?_
  refine lv_astore_n (lv' := [(3, .ref ((bad 0))), (0, .ref ((ad 0))), (1, .int (nI (k + 1))), (2, .int y)]) hx hb dX3_restore_5 rfl hl (by decide) rfl (fun ls hl => ?_)
  refine lv_aload_n hx hb dX3_restore_6 rfl (lv_at hl 0 rfl) ?_
  refine lv_ifnonnull (tgt := 13) hx hb dX3_restore_7 (by decide) ?_
  refine lv_aload_n hx hb dX3_restore_13 rfl (lv_at hl 1 rfl) ?_
  refine va_get (D := D) (ci := 4) (v := .int (nI 0)) (C := RX3) (T := TX3) (N := 8) hx hb hts (by decide +kernel) hown hK hP 0 rfl rfl 7 (by decide) (hts (.fieldLink RX3 50 "TrackDisk" "down" "Z") (by decide +kernel)) (fun _ h9 => h9) rfl dX3_restore_14 ?_
  refine lv_if_eq (tgt := 23) hx hb dX3_restore_17 (by decide) (fun c_17 => ?_) (fun c_17 => ?_)
  · skip
    refine lv_aload_n hx hb dX3_restore_23 rfl (lv_at hl 0 rfl) ?_
    refine va_get (D := D) (ci := 2) (v := .int bvo) (C := RX1) (T := TX1) (N := 9) hx hb hts (by decide +kernel) hown hK hP 14 rfl rfl 8 (by decide) (hts (.fieldLink RX3 138 "TrackDisk$Surface" "volume" "I") (by decide +kernel)) (fun _ h9 => h9) rfl dX3_restore_24 ?_
    refine lv_iload_n hx hb dX3_restore_27 rfl (lv_at hl 3 rfl) ?_
    refine lv_icmp_eq (tgt := 33) hx hb dX3_restore_28 (by decide) (fun c_28 => ?_) (fun c_28 => ?_)
    · skip
      refine lv_aload_n hx hb dX3_restore_33 rfl (lv_at hl 1 rfl) ?_
      refine va_get (D := D) (ci := 4) (v := .ref ((ad 1))) (C := RX3) (T := TX3) (N := 8) hx hb hts (by decide +kernel) hown hK hP 0 rfl rfl 2 (by decide) (hts (.fieldLink RX3 25 "TrackDisk" "disk" "LTrackDisk$Surface;") (by decide +kernel)) (fun _ h9 => h9) rfl dX3_restore_34 ?_
      refine lv_aload_n hx hb dX3_restore_37 rfl (lv_at hl 0 rfl) ?_
      have hPc := hP.sub (ws' := sfW κ T S (fun j => ad (j + 1)) bs sm pl r0 r1 tk vo ++ sfW κ T S bad bbs bsm bpl br0 br1 btk bvo) [1, 2, 3, 4, 5, 6, 14, 15, 16, 17, 18, 19] rfl
      have hDc := hD.sub (ws' := sfW κ T S (fun j => ad (j + 1)) bs sm pl r0 r1 tk vo ++ sfW κ T S bad bbs bsm bpl br0 br1 btk bvo) [1, 2, 3, 4, 5, 6, 14, 15, 16, 17, 18, 19] (by decide) rfl
      refine mu_call (wc := sfW κ T S (fun j => ad (j + 1)) bs sm pl r0 r1 tk vo ++ sfW κ T S bad bbs bsm bpl br0 br1 btk bvo) (wc' := sfW κ T S (fun j => ad (j + 1)) (va_cpy bbs bs 0 0 ((T + 2) * S * 16)) (va_cpy bsm sm 0 0 ((T + 2) * S)) (va_cpy bpl pl 0 0 T) (va_cpy br0 r0 0 0 T) (va_cpy br1 r1 0 0 T) btk bvo ++ sfW κ T S bad bbs bsm bpl br0 br1 btk bvo) (ws' := tdW κ T S ad (va_cpy bbs bs 0 0 ((T + 2) * S * 16)) (va_cpy bsm sm 0 0 ((T + 2) * S)) (va_cpy bpl pl 0 0 T) (va_cpy br0 r0 0 0 T) (va_cpy br1 r1 0 0 T) btk bvo du (nI d) wt wx wb wn tp tn ts (nI 0) ++ sfW κ T S bad bbs bsm bpl br0 br1 btk bvo) (wr := (([0, 7, 8, 9, 10, 11, 12, 13] : List Nat).filterMap fun i => (tdW κ T S ad bs sm pl r0 r1 tk vo du (nI d) wt wx wb wn tp tn ts (nI 0) ++ sfW κ T S bad bbs bsm bpl br0 br1 btk bvo)[i]?)) (va_runV (As := [.ref ((bad 0))]) (rest := []) ⟨hx, hb, hml, hown, hts⟩ (c_takeOver l D κ H.size T S (fun j => ad (j + 1)) bs sm pl r0 r1 tk vo bad bbs bsm bpl br0 br1 btk bvo hT hS8 hft) (cwV 1 hts gX3_restore_X1_takeOver rfl rfl rfl (by decide +kernel) ⟨Nat.le_of_ble_eq_true rfl, Nat.le_of_ble_eq_true rfl⟩) ⟨mu_blind, va_recv hK hPc (ci := 2) (q0 := 0) rfl rfl, mu_pre hK hPc hDc⟩ rfl rfl hl.1 rfl (lv_room (Nat.le_of_ble_eq_true rfl)) dX3_restore_38 ⟨Nat.le_of_ble_eq_true rfl, Nat.le_of_ble_eq_true rfl⟩) hP hD hS hA [1, 2, 3, 4, 5, 6, 14, 15, 16, 17, 18, 19] [0, 7, 8, 9, 10, 11, 12, 13] [0, 8, 9, 10, 11, 12, 13, 1, 2, 3, 4, 5, 6, 7, 14, 15, 16, 17, 18, 19] rfl rfl (by decide) (by decide) rfl rfl (by decide) (fun H locs hP hD hS => ?_)
      refine W.eq (g2 := F0 m 41 ls []) rfl ?_
      refine lv_aload_n hx hb dX3_restore_41 rfl (lv_at hl 1 rfl) ?_
      refine va_get (D := D) (ci := 4) (v := .ref ((ad 8))) (C := RX3) (T := TX3) (N := 8) hx hb hts (by decide +kernel) hown hK hP 0 rfl rfl 5 (by decide) (hts (.fieldLink RX3 39 "TrackDisk" "waiting" "LTrackDisk$Waiting;") (by decide +kernel)) (fun _ h9 => h9) rfl dX3_restore_42 ?_
      have hPc := hP.sub (ws' := waW κ (fun j => ad (j + 8)) wt wx wb wn) [8, 9, 10, 11] rfl
      have hDc := hD.sub (ws' := waW κ (fun j => ad (j + 8)) wt wx wb wn) [8, 9, 10, 11] (by decide) rfl
      refine mu_call (wc := waW κ (fun j => ad (j + 8)) wt wx wb wn) (wc' := waW κ (fun j => ad (j + 8)) wt wx wb (nI 0)) (ws' := tdW κ T S ad (va_cpy bbs bs 0 0 ((T + 2) * S * 16)) (va_cpy bsm sm 0 0 ((T + 2) * S)) (va_cpy bpl pl 0 0 T) (va_cpy br0 r0 0 0 T) (va_cpy br1 r1 0 0 T) btk bvo du (nI d) wt wx wb (nI 0) tp tn ts (nI 0) ++ sfW κ T S bad bbs bsm bpl br0 br1 btk bvo) (wr := (([0, 1, 2, 3, 4, 5, 6, 7, 12, 13, 14, 15, 16, 17, 18, 19] : List Nat).filterMap fun i => (tdW κ T S ad (va_cpy bbs bs 0 0 ((T + 2) * S * 16)) (va_cpy bsm sm 0 0 ((T + 2) * S)) (va_cpy bpl pl 0 0 T) (va_cpy br0 r0 0 0 T) (va_cpy br1 r1 0 0 T) btk bvo du (nI d) wt wx wb wn tp tn ts (nI 0) ++ sfW κ T S bad bbs bsm bpl br0 br1 btk bvo)[i]?)) (va_runV (As := []) (rest := []) ⟨hx, hb, hml, hown, hts⟩ (c_drop l D κ H.size (fun j => ad (j + 8)) wt wx wb wn) (cwV 0 hts gX3_restore_X2_drop rfl rfl rfl (by decide +kernel) ⟨Nat.le_of_ble_eq_true rfl, Nat.le_of_ble_eq_true rfl⟩) ⟨mu_blind, va_recv hK hPc (ci := 3) (q0 := 0) rfl rfl, mu_pre hK hPc hDc⟩ rfl rfl hl.1 rfl (lv_room (Nat.le_of_ble_eq_true rfl)) dX3_restore_45 ⟨Nat.le_of_ble_eq_true rfl, Nat.le_of_ble_eq_true rfl⟩) hP hD hS hA [8, 9, 10, 11] [0, 1, 2, 3, 4, 5, 6, 7, 12, 13, 14, 15, 16, 17, 18, 19] [0, 1, 2, 3, 4, 5, 6, 7, 16, 17, 18, 19, 8, 9, 10, 11, 12, 13, 14, 15] rfl rfl (by decide) (by decide) rfl rfl (by decide) (fun H locs hP hD hS => ?_)
      refine W.eq (g2 := F0 m 48 ls []) rfl ?_
      refine lv_iconst (v := nI 1) hx hb dX3_restore_48 (by decide) ?_
      have hP9 : va_P D vwCl (tdW κ T S ad (va_cpy bbs bs 0 0 ((T + 2) * S * 16)) (va_cpy bsm sm 0 0 ((T + 2) * S)) (va_cpy bpl pl 0 0 T) (va_cpy br0 r0 0 0 T) (va_cpy br1 r1 0 0 T) btk bvo du (nI d) wt wx wb (nI 0) tp tn ts (nI 0) ++ sfW κ T S bad bbs bsm bpl br0 br1 btk bvo) H := hP
      have hD9 : va_D A (tdW κ T S ad (va_cpy bbs bs 0 0 ((T + 2) * S * 16)) (va_cpy bsm sm 0 0 ((T + 2) * S)) (va_cpy bpl pl 0 0 T) (va_cpy br0 r0 0 0 T) (va_cpy br1 r1 0 0 T) btk bvo du (nI d) wt wx wb (nI 0) tp tn ts (nI 0) ++ sfW κ T S bad bbs bsm bpl br0 br1 btk bvo) := hD
      exact W.iret hx hb hr (fun t ht _ => ⟨⟨rfl, by rw [ht]; exact hP9, hD9⟩, hS.F ht⟩) hS.2.2 dX3_restore_49 hlocks
    · exact absurd hv c_28
  · exact absurd (by decide) c_17

set_option maxHeartbeats 4000000 in
set_option maxRecDepth 100000 in
/-- dump: down -/
theorem c_dump_down (l : Launch) (D : va_G) (κ : Nat → ClassId) (sz : Nat) (T S : Nat) (ad : Nat → Nat) (bs sm pl r0 r1 : Nat → Int32) (tk vo : Int32) (du : Nat → Option Nat) (nd : Int32) (wt wx wb : Nat → Int32) (wn : Int32) (tp : Nat → Int32) (tn ts : Int32)  (x : Int32) : Met l yX3_dump wsX3_dump ({ frames := 4, cells := 0, slots := 0, locals := 94 }) (va_Pc [.ref ((ad 0)), .int x] (mu_B D κ (tdW κ T S ad bs sm pl r0 r1 tk vo du nd wt wx wb wn tp tn ts (nI 1)) sz)) (mu_Q D (some (.int ((-5)))) (tdW κ T S ad bs sm pl r0 r1 tk vo du nd wt wx wb wn tp tn ts (nI 1)) (va_A (tdW κ T S ad bs sm pl r0 r1 tk vo du nd wt wx wb wn tp tn ts (nI 1)) sz)) 0 0 (va_A (tdW κ T S ad bs sm pl r0 r1 tk vo du nd wt wx wb wn tp tn ts (nI 1)) sz) := by
  refine Met.ofW (cc := cX3_dump) (maxL := 3) (ret := (some .int)) (by decide) rfl ?_
  intro p e s m args below meth c s₁ B hml hv
  obtain ⟨rfl, hsz, hP, hK, hD0⟩ := hv
  have hx := B.exec
  have hb := B.bytes
  have hr := B.returns
  have hts := atoms_spec (ws := wsX3_dump) B.pre
  have hown : s.vm.findClass RX3 = some m.cls := findClass_of_methodNamed B.named
  have hlocks := B.notSynchronized
  subst hsz
  have hD := hD0.self (sz := s.heap.size)
  generalize hAe : va_A (tdW κ T S ad bs sm pl r0 r1 tk vo du nd wt wx wb wn tp tn ts (nI 1)) s.heap.size = A at hD ⊢
  have hA : ∀ q : Nat, s.heap.size ≤ q → A q := fun q h => by rw [← hAe]; exact Or.inr h
  refine W.gen (P := fun H locs => va_P D vwCl (tdW κ T S ad bs sm pl r0 r1 tk vo du nd wt wx wb wn tp tn ts (nI 1)) H ∧ va_S A s.heap H locs) (fun H locs h => ?_) ⟨hP, va_S.rf⟩
  clear hP
  obtain ⟨hP, hS⟩ := h
  have hl := lv_entry ([.ref ((ad 0)), .int x]) (n := 3) (Nat.le_of_ble_eq_true rfl)
  rw [lg_entry_eq]
  generalize (lg_sl ([.ref ((ad 0)), .int x]) ++ List.replicate (3 - (lg_sl ([.ref ((ad 0)), .int x])).length) Slot.unset).toArray = ls at hl ⊢
  have hl : lv_has ls 3 [(0, .ref ((ad 0))), (1, .int x)] := hl
  refine lv_aload_n hx hb dX3_dump_0 rfl (lv_at hl 0 rfl) ?_
  refine va_get (D := D) (ci := 4) (v := .int (nI 1)) (C := RX3) (T := TX3) (N := 8) hx hb hts (by decide +kernel) hown hK hP 0 rfl rfl 7 (by decide) (hts (.fieldLink RX3 50 "TrackDisk" "down" "Z") (by decide +kernel)) (fun _ h9 => h9) rfl dX3_dump_1 ?_
  refine lv_if_eq (tgt := 10) hx hb dX3_dump_4 (by decide) (fun c_4 => ?_) (fun c_4 => ?_)
  · exact absurd c_4 (by decide)
  · skip
    refine lv_bipush (v := (-5)) hx hb dX3_dump_7 (by decide) ?_
    have hP9 : va_P D vwCl (tdW κ T S ad bs sm pl r0 r1 tk vo du nd wt wx wb wn tp tn ts (nI 1)) H := hP
    have hD9 : va_D A (tdW κ T S ad bs sm pl r0 r1 tk vo du nd wt wx wb wn tp tn ts (nI 1)) := hD
    exact W.iret hx hb hr (fun t ht _ => ⟨⟨rfl, by rw [ht]; exact hP9, hD9⟩, hS.F ht⟩) hS.2.2 dX3_dump_9 hlocks

set_option maxHeartbeats 4000000 in
set_option maxRecDepth 100000 in
/-- dump: 5 -/
theorem c_dump_full (l : Launch) (D : va_G) (κ : Nat → ClassId) (sz : Nat) (T S : Nat) (ad : Nat → Nat) (bs sm pl r0 r1 : Nat → Int32) (tk vo : Int32) (du : Nat → Option Nat) (wt wx wb : Nat → Int32) (wn : Int32) (tp : Nat → Int32) (tn ts : Int32)  (x : Int32) : Met l yX3_dump wsX3_dump ({ frames := 4, cells := 0, slots := 0, locals := 94 }) (va_Pc [.ref ((ad 0)), .int x] (mu_B D κ (tdW κ T S ad bs sm pl r0 r1 tk vo du (nI 5) wt wx wb wn tp tn ts (nI 0)) sz)) (mu_Q D (some (.int ((-1)))) (tdW κ T S ad bs sm pl r0 r1 tk vo du (nI 5) wt wx wb wn tp tn ts (nI 0)) (va_A (tdW κ T S ad bs sm pl r0 r1 tk vo du (nI 5) wt wx wb wn tp tn ts (nI 0)) sz)) 0 0 (va_A (tdW κ T S ad bs sm pl r0 r1 tk vo du (nI 5) wt wx wb wn tp tn ts (nI 0)) sz) := by
  refine Met.ofW (cc := cX3_dump) (maxL := 3) (ret := (some .int)) (by decide) rfl ?_
  intro p e s m args below meth c s₁ B hml hv
  obtain ⟨rfl, hsz, hP, hK, hD0⟩ := hv
  have hx := B.exec
  have hb := B.bytes
  have hr := B.returns
  have hts := atoms_spec (ws := wsX3_dump) B.pre
  have hown : s.vm.findClass RX3 = some m.cls := findClass_of_methodNamed B.named
  have hlocks := B.notSynchronized
  subst hsz
  have hD := hD0.self (sz := s.heap.size)
  generalize hAe : va_A (tdW κ T S ad bs sm pl r0 r1 tk vo du (nI 5) wt wx wb wn tp tn ts (nI 0)) s.heap.size = A at hD ⊢
  have hA : ∀ q : Nat, s.heap.size ≤ q → A q := fun q h => by rw [← hAe]; exact Or.inr h
  refine W.gen (P := fun H locs => va_P D vwCl (tdW κ T S ad bs sm pl r0 r1 tk vo du (nI 5) wt wx wb wn tp tn ts (nI 0)) H ∧ va_S A s.heap H locs) (fun H locs h => ?_) ⟨hP, va_S.rf⟩
  clear hP
  obtain ⟨hP, hS⟩ := h
  have hl := lv_entry ([.ref ((ad 0)), .int x]) (n := 3) (Nat.le_of_ble_eq_true rfl)
  rw [lg_entry_eq]
  generalize (lg_sl ([.ref ((ad 0)), .int x]) ++ List.replicate (3 - (lg_sl ([.ref ((ad 0)), .int x])).length) Slot.unset).toArray = ls at hl ⊢
  have hl : lv_has ls 3 [(0, .ref ((ad 0))), (1, .int x)] := hl
  refine lv_aload_n hx hb dX3_dump_0 rfl (lv_at hl 0 rfl) ?_
  refine va_get (D := D) (ci := 4) (v := .int (nI 0)) (C := RX3) (T := TX3) (N := 8) hx hb hts (by decide +kernel) hown hK hP 0 rfl rfl 7 (by decide) (hts (.fieldLink RX3 50 "TrackDisk" "down" "Z") (by decide +kernel)) (fun _ h9 => h9) rfl dX3_dump_1 ?_
  refine lv_if_eq (tgt := 10) hx hb dX3_dump_4 (by decide) (fun c_4 => ?_) (fun c_4 => ?_)
  · skip
    refine lv_aload_n hx hb dX3_dump_10 rfl (lv_at hl 0 rfl) ?_
    refine va_get (D := D) (ci := 4) (v := .int (nI 5)) (C := RX3) (T := TX3) (N := 8) hx hb hts (by decide +kernel) hown hK hP 0 rfl rfl 4 (by decide) (hts (.fieldLink RX3 33 "TrackDisk" "dumpsMade" "I") (by decide +kernel)) (fun _ h9 => h9) rfl dX3_dump_11 ?_
    refine lv_iconst (v := nI 5) hx hb dX3_dump_14 (by decide) ?_
    refine lv_icmp_lt (tgt := 20) hx hb dX3_dump_15 (by decide) (fun c_15 => ?_) (fun c_15 => ?_)
    · exact absurd c_15 (by decide)
    · skip
      refine lv_iconst (v := (-1)) hx hb dX3_dump_18 (by decide) ?_
      have hP9 : va_P D vwCl (tdW κ T S ad bs sm pl r0 r1 tk vo du (nI 5) wt wx wb wn tp tn ts (nI 0)) H := hP
      have hD9 : va_D A (tdW κ T S ad bs sm pl r0 r1 tk vo du (nI 5) wt wx wb wn tp tn ts (nI 0)) := hD
      exact W.iret hx hb hr (fun t ht _ => ⟨⟨rfl, by rw [ht]; exact hP9, hD9⟩, hS.F ht⟩) hS.2.2 dX3_dump_19 hlocks
  · exact absurd (by decide) c_4

set_option maxHeartbeats 4000000 in
set_option maxRecDepth 100000 in
/-- dump -/
theorem c_dump (l : Launch) (D : va_G) (κ : Nat → ClassId) (sz : Nat) (T S : Nat) (ad : Nat → Nat) (bs sm pl r0 r1 : Nat → Int32) (tk vo : Int32) (du : Nat → Option Nat) (wt wx wb : Nat → Int32) (wn : Int32) (tp : Nat → Int32) (tn ts : Int32)  (hT : T ≤ 12) (hS8 : S ≤ 8) (n : Nat) (hn : n < 5) (x : Int32) (hft : sb_Fit bs) : Met l yX3_dump wsX3_dump ({ frames := 4, cells := 6, slots := 1949, locals := 94 }) (va_Pc [.ref ((ad 0)), .int x] (mu_B D κ (tdW κ T S ad bs sm pl r0 r1 tk vo du (nI n) wt wx wb wn tp tn ts (nI 0)) sz)) (al_Q (X := Nat → Nat) D (some (.int (nI (n + 1)))) (fun _ => True) (fun bd => tdW κ T S ad bs sm pl r0 r1 tk vo (va_up du n (some (bd 0))) (nI (n + 1)) wt wx wb wn tp tn ts (nI 0) ++ sfW κ T S bd (va_cpy bs (fun _ => 0) 0 0 ((T + 2) * S * 16)) (va_cpy sm (s2F (fun _ => 0) S (T + 2)) 0 0 ((T + 2) * S)) (va_cpy pl (plF T) 0 0 T) (va_cpy r0 (fun _ => 0) 0 0 T) (va_cpy r1 (fun _ => 0) 0 0 T) tk x) (va_A (tdW κ T S ad bs sm pl r0 r1 tk vo du (nI n) wt wx wb wn tp tn ts (nI 0)) sz)) 6 1949 (va_A (tdW κ T S ad bs sm pl r0 r1 tk vo du (nI n) wt wx wb wn tp tn ts (nI 0)) sz) := by
  refine Met.ofW (cc := cX3_dump) (maxL := 3) (ret := (some .int)) (by decide) rfl ?_
  intro p e s m args below meth c s₁ B hml hv
  obtain ⟨rfl, hsz, hP, hK, hD0⟩ := hv
  have hx := B.exec
  have hb := B.bytes
  have hr := B.returns
  have hts := atoms_spec (ws := wsX3_dump) B.pre
  have hown : s.vm.findClass RX3 = some m.cls := findClass_of_methodNamed B.named
  have hlocks := B.notSynchronized
  subst hsz
  have hD := hD0.self (sz := s.heap.size)
  generalize hAe : va_A (tdW κ T S ad bs sm pl r0 r1 tk vo du (nI n) wt wx wb wn tp tn ts (nI 0)) s.heap.size = A at hD ⊢
  have hA : ∀ q : Nat, s.heap.size ≤ q → A q := fun q h => by rw [← hAe]; exact Or.inr h
  refine W.gen (P := fun H locs => va_P D vwCl (tdW κ T S ad bs sm pl r0 r1 tk vo du (nI n) wt wx wb wn tp tn ts (nI 0)) H ∧ va_S A s.heap H locs) (fun H locs h => ?_) ⟨hP, va_S.rf⟩
  clear hP
  obtain ⟨hP, hS⟩ := h
  have hl := lv_entry ([.ref ((ad 0)), .int x]) (n := 3) (Nat.le_of_ble_eq_true rfl)
  rw [lg_entry_eq]
  generalize (lg_sl ([.ref ((ad 0)), .int x]) ++ List.replicate (3 - (lg_sl ([.ref ((ad 0)), .int x])).length) Slot.unset).toArray = ls at hl ⊢
  have hl : lv_has ls 3 [(0, .ref ((ad 0))), (1, .int x)] := hl
  refine lv_aload_n hx hb dX3_dump_0 rfl (lv_at hl 0 rfl) ?_
  refine va_get (D := D) (ci := 4) (v := .int (nI 0)) (C := RX3) (T := TX3) (N := 8) hx hb hts (by decide +kernel) hown hK hP 0 rfl rfl 7 (by decide) (hts (.fieldLink RX3 50 "TrackDisk" "down" "Z") (by decide +kernel)) (fun _ h9 => h9) rfl dX3_dump_1 ?_
  refine lv_if_eq (tgt := 10) hx hb dX3_dump_4 (by decide) (fun c_4 => ?_) (fun c_4 => ?_)
  · skip
    refine lv_aload_n hx hb dX3_dump_10 rfl (lv_at hl 0 rfl) ?_
    refine va_get (D := D) (ci := 4) (v := .int (nI n)) (C := RX3) (T := TX3) (N := 8) hx hb hts (by decide +kernel) hown hK hP 0 rfl rfl 4 (by decide) (hts (.fieldLink RX3 33 "TrackDisk" "dumpsMade" "I") (by decide +kernel)) (fun _ h9 => h9) rfl dX3_dump_11 ?_
    refine lv_iconst (v := nI 5) hx hb dX3_dump_14 (by decide) ?_
    refine lv_icmp_lt (tgt := 20) hx hb dX3_dump_15 (by decide) (fun c_15 => ?_) (fun c_15 => ?_)
    · skip
      refine va_new (ci := 2) (fs := [.int 0, .int 0, .null, .null, .null, .null, .null, .int 0, .int 0]) (C := RX1) (T := TX1) (N := 9) hx hb hts (by decide +kernel) tyX1 tyX1_ok hown (hts (.classLink RX3 20 RX1) (by decide +kernel)) (hts (.instantiable RX1 9) (by decide +kernel)) (hts (.initialized RX1) (by decide +kernel)) hK hP hD hS hA rfl (fun j hj => by rcases (show j = 0 ∨ j = 1 ∨ j = 2 ∨ j = 3 ∨ j = 4 ∨ j = 5 ∨ j = 6 ∨ j = 7 ∨ j = 8 by omega) with rfl | rfl | rfl | rfl | rfl | rfl | rfl | rfl | rfl <;> rfl) (Nat.le_of_ble_eq_true rfl) (Nat.le_of_ble_eq_true rfl) dX3_dump_20 (fun q20 H hP hD hS => ?_)
      refine W.widen (k := 1) (n := 9) (by omega) (by omega) ?_
      have hP : va_P D vwCl (tdW κ T S ad bs sm pl r0 r1 tk vo du (nI n) wt wx wb wn tp tn ts (nI 0) ++ [(q20, .inr (2, [.int 0, .int 0, .null, .null, .null, .null, .null, .int 0, .int 0]))]) H := hP
      have hD : va_D A (tdW κ T S ad bs sm pl r0 r1 tk vo du (nI n) wt wx wb wn tp tn ts (nI 0) ++ [(q20, .inr (2, [.int 0, .int 0, .null, .null, .null, .null, .null, .int 0, .int 0]))]) := hD
      refine lv_dup hx hb dX3_dump_23 rfl ?_
      refine lv_aload_n hx hb dX3_dump_24 rfl (lv_at hl 0 rfl) ?_
      refine va_get (D := D) (ci := 4) (v := .int (nI T)) (C := RX3) (T := TX3) (N := 8) hx hb hts (by decide +kernel) hown hK hP 0 rfl rfl 0 (by decide) (hts (.fieldLink RX3 13 "TrackDisk" "tracks" "I") (by decide +kernel)) (fun _ h9 => h9) rfl dX3_dump_25 ?_
      refine lv_aload_n hx hb dX3_dump_28 rfl (lv_at hl 0 rfl) ?_
      refine va_get (D := D) (ci := 4) (v := .int (nI S)) (C := RX3) (T := TX3) (N := 8) hx hb hts (by decide +kernel) hown hK hP 0 rfl rfl 1 (by decide) (hts (.fieldLink RX3 17 "TrackDisk" "sectors" "I") (by decide +kernel)) (fun _ h9 => h9) rfl dX3_dump_29 ?_
      have hPc := hP.sub (ws' := [(q20, .inr (2, [.int 0, .int 0, .null, .null, .null, .null, .null, .int 0, .int 0]))]) [14] rfl
      have hDc := hD.sub (ws' := [(q20, .inr (2, [.int 0, .int 0, .null, .null, .null, .null, .null, .int 0, .int 0]))]) [14] (by decide) rfl
      refine al_call (wc := [(q20, .inr (2, [.int 0, .int 0, .null, .null, .null, .null, .null, .int 0, .int 0]))]) (wr := tdW κ T S ad bs sm pl r0 r1 tk vo du (nI n) wt wx wb wn tp tn ts (nI 0)) (va_runI (As := [.int (nI T), .int (nI S)]) (rest := [.ref q20]) ⟨hx, hb, hml, hown, hts⟩ (c_sinit l D κ H.size q20 T S hT hS8) (cwI 2 hts gX3_dump_X1_init rfl rfl rfl (hts (.initialized RX1) (by decide +kernel)) (hts (.methodLink RX3 22 yX1_init) (by decide +kernel)) (hts (.instanceMethod yX1_init) (by decide +kernel)) rfl (by decide +kernel) ⟨Nat.le_of_ble_eq_true rfl, Nat.le_of_ble_eq_true rfl⟩) ⟨mu_blind, mu_pre hK hPc hDc⟩ rfl rfl hl.1 rfl (lv_room (Nat.le_of_ble_eq_true rfl)) dX3_dump_32 ⟨Nat.le_of_ble_eq_true rfl, Nat.le_of_ble_eq_true rfl⟩) hP hD hS hA (by exact List.Perm.refl _) (fun ad32 hG H locs hP1 hD1 hS1 => ?_)
      clear hPc hDc hP hD hS
      subst hG
      have hP := hP1
      have hD := hD1
      have hS := hS1
      clear hP1 hD1 hS1
      refine W.widen (k := 6) (n := 1949) (by omega) (by omega) ?_
      refine W.eq (g2 := F0 m 35 ls [.ref ((ad32 0))]) rfl ?_
      have hP : va_P D vwCl (tdW κ T S ad bs sm pl r0 r1 tk vo du (nI n) wt wx wb wn tp tn ts (nI 0) ++ [((ad32 0), .inr (2, [.int (nI T), .int (nI S), .ref (ad32 1), .ref (ad32 2), .ref (ad32 3), .ref (ad32 4), .ref (ad32 5), .int (nI 0), .int (nI 0)])), ((ad32 1), .inl (κ 1, (T + 2) * S * 16, .inl (fun _ => 0))), ((ad32 2), .inl (κ 0, (T + 2) * S, .inl (s2F (fun _ => 0) S (T + 2)))), ((ad32 3), .inl (κ 0, T, .inl (plF T))), ((ad32 4), .inl (κ 0, T, .inl (fun _ => 0))), ((ad32 5), .inl (κ 0, T, .inl (fun _ => 0)))]) H := hP
      have hD : va_D A (tdW κ T S ad bs sm pl r0 r1 tk vo du (nI n) wt wx wb wn tp tn ts (nI 0) ++ [((ad32 0), .inr (2, [.int (nI T), .int (nI S), .ref (ad32 1), .ref (ad32 2), .ref (ad32 3), .ref (ad32 4), .ref (ad32 5), .int (nI 0), .int (nI 0)])), ((ad32 1), .inl (κ 1, (T + 2) * S * 16, .inl (fun _ => 0))), ((ad32 2), .inl (κ 0, (T + 2) * S, .inl (s2F (fun _ => 0) S (T + 2)))), ((ad32 3), .inl (κ 0, T, .inl (plF T))), ((ad32 4), .inl (κ 0, T, .inl (fun _ => 0))), ((ad32 5), .inl (κ 0, T, .inl (fun _ => 0)))]) := hD
      refine lv_astore_n (lv' := [(2, .ref ((ad32 0))), (0, .ref ((ad 0))), (1, .int x)]) hx hb dX3_dump_35 rfl hl (by decide) rfl (fun ls hl => ?_)
      refine lv_aload_n hx hb dX3_dump_36 rfl (lv_at hl 0 rfl) ?_
      refine lv_aload_n hx hb dX3_dump_37 rfl (lv_at hl 1 rfl) ?_
      refine va_get (D := D) (ci := 4) (v := .ref ((ad 1))) (C := RX3) (T := TX3) (N := 8) hx hb hts (by decide +kernel) hown hK hP 0 rfl rfl 2 (by decide) (hts (.fieldLink RX3 25 "TrackDisk" "disk" "LTrackDisk$Surface;") (by decide +kernel)) (fun _ h9 => h9) rfl dX3_dump_38 ?_
      have hPc := hP.sub (ws' := sfW κ T S ad32 (fun _ => 0) (s2F (fun _ => 0) S (T + 2)) (plF T) (fun _ => 0) (fun _ => 0) (nI 0) (nI 0) ++ sfW κ T S (fun j => ad (j + 1)) bs sm pl r0 r1 tk vo) [14, 15, 16, 17, 18, 19, 1, 2, 3, 4, 5, 6] rfl
      have hDc := hD.sub (ws' := sfW κ T S ad32 (fun _ => 0) (s2F (fun _ => 0) S (T + 2)) (plF T) (fun _ => 0) (fun _ => 0) (nI 0) (nI 0) ++ sfW κ T S (fun j => ad (j + 1)) bs sm pl r0 r1 tk vo) [14, 15, 16, 17, 18, 19, 1, 2, 3, 4, 5, 6] (by decide) rfl
      refine mu_call (wc := sfW κ T S ad32 (fun _ => 0) (s2F (fun _ => 0) S (T + 2)) (plF T) (fun _ => 0) (fun _ => 0) (nI 0) (nI 0) ++ sfW κ T S (fun j => ad (j + 1)) bs sm pl r0 r1 tk vo) (wc' := sfW κ T S ad32 (va_cpy bs (fun _ => 0) 0 0 ((T + 2) * S * 16)) (va_cpy sm (s2F (fun _ => 0) S (T + 2)) 0 0 ((T + 2) * S)) (va_cpy pl (plF T) 0 0 T) (va_cpy r0 (fun _ => 0) 0 0 T) (va_cpy r1 (fun _ => 0) 0 0 T) tk vo ++ sfW κ T S (fun j => ad (j + 1)) bs sm pl r0 r1 tk vo) (ws' := tdW κ T S ad bs sm pl r0 r1 tk vo du (nI n) wt wx wb wn tp tn ts (nI 0) ++ [((ad32 0), .inr (2, [.int (nI T), .int (nI S), .ref (ad32 1), .ref (ad32 2), .ref (ad32 3), .ref (ad32 4), .ref (ad32 5), .int tk, .int vo])), ((ad32 1), .inl (κ 1, (T + 2) * S * 16, .inl (va_cpy bs (fun _ => 0) 0 0 ((T + 2) * S * 16)))), ((ad32 2), .inl (κ 0, (T + 2) * S, .inl (va_cpy sm (s2F (fun _ => 0) S (T + 2)) 0 0 ((T + 2) * S)))), ((ad32 3), .inl (κ 0, T, .inl (va_cpy pl (plF T) 0 0 T))), ((ad32 4), .inl (κ 0, T, .inl (va_cpy r0 (fun _ => 0) 0 0 T))), ((ad32 5), .inl (κ 0, T, .inl (va_cpy r1 (fun _ => 0) 0 0 T)))]) (wr := (([0, 7, 8, 9, 10, 11, 12, 13] : List Nat).filterMap fun i => (tdW κ T S ad bs sm pl r0 r1 tk vo du (nI n) wt wx wb wn tp tn ts (nI 0) ++ [((ad32 0), .inr (2, [.int (nI T), .int (nI S), .ref (ad32 1), .ref (ad32 2), .ref (ad32 3), .ref (ad32 4), .ref (ad32 5), .int (nI 0), .int (nI 0)])), ((ad32 1), .inl (κ 1, (T + 2) * S * 16, .inl (fun _ => 0))), ((ad32 2), .inl (κ 0, (T + 2) * S, .inl (s2F (fun _ => 0) S (T + 2)))), ((ad32 3), .inl (κ 0, T, .inl (plF T))), ((ad32 4), .inl (κ 0, T, .inl (fun _ => 0))), ((ad32 5), .inl (κ 0, T, .inl (fun _ => 0)))])[i]?)) (va_runV (As := [.ref ((ad 1))]) (rest := []) ⟨hx, hb, hml, hown, hts⟩ (c_takeOver l D κ H.size T S ad32 (fun _ => 0) (s2F (fun _ => 0) S (T + 2)) (plF T) (fun _ => 0) (fun _ => 0) (nI 0) (nI 0) (fun j => ad (j + 1)) bs sm pl r0 r1 tk vo hT hS8 hft) (cwV 1 hts gX3_dump_X1_takeOver rfl rfl rfl (by decide +kernel) ⟨Nat.le_of_ble_eq_true rfl, Nat.le_of_ble_eq_true rfl⟩) ⟨mu_blind, va_recv hK hPc (ci := 2) (q0 := 0) rfl rfl, mu_pre hK hPc hDc⟩ rfl rfl hl.1 rfl (lv_room (Nat.le_of_ble_eq_true rfl)) dX3_dump_41 ⟨Nat.le_of_ble_eq_true rfl, Nat.le_of_ble_eq_true rfl⟩) hP hD hS hA [14, 15, 16, 17, 18, 19, 1, 2, 3, 4, 5, 6] [0, 7, 8, 9, 10, 11, 12, 13] [0, 14, 15, 16, 17, 18, 19, 1, 2, 3, 4, 5, 6, 7, 8, 9, 10, 11, 12, 13] rfl rfl (by decide) (by decide) rfl rfl (by decide) (fun H locs hP hD hS => ?_)
      refine W.eq (g2 := F0 m 44 ls []) rfl ?_
      refine lv_aload_n hx hb dX3_dump_44 rfl (lv_at hl 0 rfl) ?_
      refine lv_iload_n hx hb dX3_dump_45 rfl (lv_at hl 2 rfl) ?_
      refine va_put (D := D) (ci := 2) (v := .int x) (ty := .int) (C := RX1) (T := TX1) (N := 9) hx hb hts (by decide +kernel) tyX1 tyX1_ok nmX1 hown hK hP hD hS 14 rfl rfl 8 (by decide) (hts (.fieldLink RX3 138 "TrackDisk$Surface" "volume" "I") (by decide +kernel)) (fun _ h9 => h9) rfl (by decide +kernel) rfl rfl (Nat.le_of_ble_eq_true rfl) dX3_dump_46 (fun H locs hP hD hS => ?_)
      have hP : va_P D vwCl (tdW κ T S ad bs sm pl r0 r1 tk vo du (nI n) wt wx wb wn tp tn ts (nI 0) ++ [((ad32 0), .inr (2, [.int (nI T), .int (nI S), .ref (ad32 1), .ref (ad32 2), .ref (ad32 3), .ref (ad32 4), .ref (ad32 5), .int tk, .int x])), ((ad32 1), .inl (κ 1, (T + 2) * S * 16, .inl (va_cpy bs (fun _ => 0) 0 0 ((T + 2) * S * 16)))), ((ad32 2), .inl (κ 0, (T + 2) * S, .inl (va_cpy sm (s2F (fun _ => 0) S (T + 2)) 0 0 ((T + 2) * S)))), ((ad32 3), .inl (κ 0, T, .inl (va_cpy pl (plF T) 0 0 T))), ((ad32 4), .inl (κ 0, T, .inl (va_cpy r0 (fun _ => 0) 0 0 T))), ((ad32 5), .inl (κ 0, T, .inl (va_cpy r1 (fun _ => 0) 0 0 T)))]) H := hP
      have hD : va_D A (tdW κ T S ad bs sm pl r0 r1 tk vo du (nI n) wt wx wb wn tp tn ts (nI 0) ++ [((ad32 0), .inr (2, [.int (nI T), .int (nI S), .ref (ad32 1), .ref (ad32 2), .ref (ad32 3), .ref (ad32 4), .ref (ad32 5), .int tk, .int x])), ((ad32 1), .inl (κ 1, (T + 2) * S * 16, .inl (va_cpy bs (fun _ => 0) 0 0 ((T + 2) * S * 16)))), ((ad32 2), .inl (κ 0, (T + 2) * S, .inl (va_cpy sm (s2F (fun _ => 0) S (T + 2)) 0 0 ((T + 2) * S)))), ((ad32 3), .inl (κ 0, T, .inl (va_cpy pl (plF T) 0 0 T))), ((ad32 4), .inl (κ 0, T, .inl (va_cpy r0 (fun _ => 0) 0 0 T))), ((ad32 5), .inl (κ 0, T, .inl (va_cpy r1 (fun _ => 0) 0 0 T)))]) := hD
      refine lv_aload_n hx hb dX3_dump_49 rfl (lv_at hl 1 rfl) ?_
      refine va_get (D := D) (ci := 4) (v := .ref ((ad 7))) (C := RX3) (T := TX3) (N := 8) hx hb hts (by decide +kernel) hown hK hP 0 rfl rfl 3 (by decide) (hts (.fieldLink RX3 29 "TrackDisk" "dumps" "[LTrackDisk$Surface;") (by decide +kernel)) (fun _ h9 => h9) rfl dX3_dump_50 ?_
      refine lv_aload_n hx hb dX3_dump_53 rfl (lv_at hl 1 rfl) ?_
      refine va_get (D := D) (ci := 4) (v := .int (nI n)) (C := RX3) (T := TX3) (N := 8) hx hb hts (by decide +kernel) hown hK hP 0 rfl rfl 4 (by decide) (hts (.fieldLink RX3 33 "TrackDisk" "dumpsMade" "I") (by decide +kernel)) (fun _ h9 => h9) rfl dX3_dump_54 ?_
      refine lv_aload_n hx hb dX3_dump_57 rfl (lv_at hl 0 rfl) ?_
      refine va_astq hx hb hK hP hD hS 7 2 14 2 rfl rfl rfl rfl (vp_in_nI (by omega) (by omega)) dX3_dump_58 (fun H locs hP hD hS => ?_)
      rw [nI_clamp (n := n) (by omega)] at hP hD
      have hP : va_P D vwCl (tdW κ T S ad bs sm pl r0 r1 tk vo (va_up du n (some (ad32 0))) (nI n) wt wx wb wn tp tn ts (nI 0) ++ [((ad32 0), .inr (2, [.int (nI T), .int (nI S), .ref (ad32 1), .ref (ad32 2), .ref (ad32 3), .ref (ad32 4), .ref (ad32 5), .int tk, .int x])), ((ad32 1), .inl (κ 1, (T + 2) * S * 16, .inl (va_cpy bs (fun _ => 0) 0 0 ((T + 2) * S * 16)))), ((ad32 2), .inl (κ 0, (T + 2) * S, .inl (va_cpy sm (s2F (fun _ => 0) S (T + 2)) 0 0 ((T + 2) * S)))), ((ad32 3), .inl (κ 0, T, .inl (va_cpy pl (plF T) 0 0 T))), ((ad32 4), .inl (κ 0, T, .inl (va_cpy r0 (fun _ => 0) 0 0 T))), ((ad32 5), .inl (κ 0, T, .inl (va_cpy r1 (fun _ => 0) 0 0 T)))]) H := hP
      have hD : va_D A (tdW κ T S ad bs sm pl r0 r1 tk vo (va_up du n (some (ad32 0))) (nI n) wt wx wb wn tp tn ts (nI 0) ++ [((ad32 0), .inr (2, [.int (nI T), .int (nI S), .ref (ad32 1), .ref (ad32 2), .ref (ad32 3), .ref (ad32 4), .ref (ad32 5), .int tk, .int x])), ((ad32 1), .inl (κ 1, (T + 2) * S * 16, .inl (va_cpy bs (fun _ => 0) 0 0 ((T + 2) * S * 16)))), ((ad32 2), .inl (κ 0, (T + 2) * S, .inl (va_cpy sm (s2F (fun _ => 0) S (T + 2)) 0 0 ((T + 2) * S)))), ((ad32 3), .inl (κ 0, T, .inl (va_cpy pl (plF T) 0 0 T))), ((ad32 4), .inl (κ 0, T, .inl (va_cpy r0 (fun _ => 0) 0 0 T))), ((ad32 5), .inl (κ 0, T, .inl (va_cpy r1 (fun _ => 0) 0 0 T)))]) := hD
      refine lv_aload_n hx hb dX3_dump_59 rfl (lv_at hl 1 rfl) ?_
      refine lv_dup hx hb dX3_dump_60 rfl ?_
      refine va_get (D := D) (ci := 4) (v := .int (nI n)) (C := RX3) (T := TX3) (N := 8) hx hb hts (by decide +kernel) hown hK hP 0 rfl rfl 4 (by decide) (hts (.fieldLink RX3 33 "TrackDisk" "dumpsMade" "I") (by decide +kernel)) (fun _ h9 => h9) rfl dX3_dump_61 ?_
      refine lv_iconst (v := nI 1) hx hb dX3_dump_64 (by decide) ?_
      refine lv_iadd hx hb dX3_dump_65 ?_
      refine tp_i (y := nI (n + 1)) (by exact nI_add _ _) ?_
      refine va_put (D := D) (ci := 4) (v := .int (nI (n + 1))) (ty := .int) (C := RX3) (T := TX3) (N := 8) hx hb hts (by decide +kernel) tyX3 tyX3_ok nmX3 hown hK hP hD hS 0 rfl rfl 4 (by decide) (hts (.fieldLink RX3 33 "TrackDisk" "dumpsMade" "I") (by decide +kernel)) (fun _ h9 => h9) rfl (by decide +kernel) rfl rfl (Nat.le_of_ble_eq_true rfl) dX3_dump_66 (fun H locs hP hD hS => ?_)
      have hP : va_P D vwCl (tdW κ T S ad bs sm pl r0 r1 tk vo (va_up du n (some (ad32 0))) (nI (n + 1)) wt wx wb wn tp tn ts (nI 0) ++ [((ad32 0), .inr (2, [.int (nI T), .int (nI S), .ref (ad32 1), .ref (ad32 2), .ref (ad32 3), .ref (ad32 4), .ref (ad32 5), .int tk, .int x])), ((ad32 1), .inl (κ 1, (T + 2) * S * 16, .inl (va_cpy bs (fun _ => 0) 0 0 ((T + 2) * S * 16)))), ((ad32 2), .inl (κ 0, (T + 2) * S, .inl (va_cpy sm (s2F (fun _ => 0) S (T + 2)) 0 0 ((T + 2) * S)))), ((ad32 3), .inl (κ 0, T, .inl (va_cpy pl (plF T) 0 0 T))), ((ad32 4), .inl (κ 0, T, .inl (va_cpy r0 (fun _ => 0) 0 0 T))), ((ad32 5), .inl (κ 0, T, .inl (va_cpy r1 (fun _ => 0) 0 0 T)))]) H := hP
      have hD : va_D A (tdW κ T S ad bs sm pl r0 r1 tk vo (va_up du n (some (ad32 0))) (nI (n + 1)) wt wx wb wn tp tn ts (nI 0) ++ [((ad32 0), .inr (2, [.int (nI T), .int (nI S), .ref (ad32 1), .ref (ad32 2), .ref (ad32 3), .ref (ad32 4), .ref (ad32 5), .int tk, .int x])), ((ad32 1), .inl (κ 1, (T + 2) * S * 16, .inl (va_cpy bs (fun _ => 0) 0 0 ((T + 2) * S * 16)))), ((ad32 2), .inl (κ 0, (T + 2) * S, .inl (va_cpy sm (s2F (fun _ => 0) S (T + 2)) 0 0 ((T + 2) * S)))), ((ad32 3), .inl (κ 0, T, .inl (va_cpy pl (plF T) 0 0 T))), ((ad32 4), .inl (κ 0, T, .inl (va_cpy r0 (fun _ => 0) 0 0 T))), ((ad32 5), .inl (κ 0, T, .inl (va_cpy r1 (fun _ => 0) 0 0 T)))]) := hD
      refine lv_aload_n hx hb dX3_dump_69 rfl (lv_at hl 1 rfl) ?_
      refine va_get (D := D) (ci := 4) (v := .int (nI (n + 1))) (C := RX3) (T := TX3) (N := 8) hx hb hts (by decide +kernel) hown hK hP 0 rfl rfl 4 (by decide) (hts (.fieldLink RX3 33 "TrackDisk" "dumpsMade" "I") (by decide +kernel)) (fun _ h9 => h9) rfl dX3_dump_70 ?_
      have hP9 : va_P D vwCl (tdW κ T S ad bs sm pl r0 r1 tk vo (va_up du n (some (ad32 0))) (nI (n + 1)) wt wx wb wn tp tn ts (nI 0) ++ sfW κ T S ad32 (va_cpy bs (fun _ => 0) 0 0 ((T + 2) * S * 16)) (va_cpy sm (s2F (fun _ => 0) S (T + 2)) 0 0 ((T + 2) * S)) (va_cpy pl (plF T) 0 0 T) (va_cpy r0 (fun _ => 0) 0 0 T) (va_cpy r1 (fun _ => 0) 0 0 T) tk x) H := hP
      have hD9 : va_D A (tdW κ T S ad bs sm pl r0 r1 tk vo (va_up du n (some (ad32 0))) (nI (n + 1)) wt wx wb wn tp tn ts (nI 0) ++ sfW κ T S ad32 (va_cpy bs (fun _ => 0) 0 0 ((T + 2) * S * 16)) (va_cpy sm (s2F (fun _ => 0) S (T + 2)) 0 0 ((T + 2) * S)) (va_cpy pl (plF T) 0 0 T) (va_cpy r0 (fun _ => 0) 0 0 T) (va_cpy r1 (fun _ => 0) 0 0 T) tk x) := hD
      exact W.iret hx hb hr (fun t ht _ => ⟨⟨ad32, trivial, rfl, by rw [ht]; exact hP9, hD9⟩, hS.F ht⟩) hS.2.2 dX3_dump_73 hlocks
    · exact absurd (nI_lt hn (by omega)) c_15
  · exact absurd (by decide) c_4

set_option maxHeartbeats 4000000 in
set_option maxRecDepth 100000 in
/-- TrackDiskModel(many, each) -/
theorem m_init (l : Launch) (D : va_G) (κ : Nat → ClassId) (sz h : Nat) (T S : Nat) (hT : T ≤ 12) (hS8 : S ≤ 8) (x y : Int32) (hxT : hdF x (nI 1) (nI 12) = nI T) (hyS : hdF y (nI 1) (nI 8) = nI S) : Met l yX4_init wsX4_init ({ frames := 1, cells := 13, slots := 11865, locals := 24 }) (va_Pc [.ref h, .int x, .int y] (mu_B D κ ([(h, .inr (5, [.int 0, .int 0, .int 0, .null, .null, .null, .null, .null, .null, .null, .null, .null, .int 0, .int 0, .null, .null, .null, .int 0, .null, .int 0, .int 0]))]) sz)) (al_Q (X := Nat → Nat) D none (fun ad => ad 0 = h) (fun ad => moW κ T S ad (nI 0) (fun _ => 0) (fun _ => 0) (m2F (fun _ => 0) S (T + 2)) (fun _ => 0) (seF 12) (fun _ => 0) (fun _ => 0) (fun _ => 0) (fun _ => 0) (nI 0) (nI 0) (fun _ => 0) (fun _ => 0) (fun _ => 0) (nI 0) (fun _ => 0) (nI 0) (nI 0)) (va_A ([(h, .inr (5, [.int 0, .int 0, .int 0, .null, .null, .null, .null, .null, .null, .null, .null, .null, .int 0, .int 0, .null, .null, .null, .int 0, .null, .int 0, .int 0]))]) sz)) 13 11865 (va_A ([(h, .inr (5, [.int 0, .int 0, .int 0, .null, .null, .null, .null, .null, .null, .null, .null, .null, .int 0, .int 0, .null, .null, .null, .int 0, .null, .int 0, .int 0]))]) sz) := by
  refine Met.ofW (cc := cX4_init) (maxL := 5) (ret := none) (by decide) rfl ?_
  intro p e s m args below meth c s₁ B hml hv
  obtain ⟨rfl, hsz, hP, hK, hD0⟩ := hv
  have hx := B.exec
  have hb := B.bytes
  have hr := B.returns
  have hts := atoms_spec (ws := wsX4_init) B.pre
  have hown : s.vm.findClass RX4 = some m.cls := findClass_of_methodNamed B.named
  have hlocks := B.notSynchronized
  have hin : meth.name = "<init>" := (name_of_methodNamed B.named B.method).1
  subst hsz
  have hD := hD0.self (sz := s.heap.size)
  generalize hAe : va_A ([(h, .inr (5, [.int 0, .int 0, .int 0, .null, .null, .null, .null, .null, .null, .null, .null, .null, .int 0, .int 0, .null, .null, .null, .int 0, .null, .int 0, .int 0]))]) s.heap.size = A at hD ⊢
  have hA : ∀ q : Nat, s.heap.size ≤ q → A q := fun q h => by rw [← hAe]; exact Or.inr h
  refine W.gen (P := fun H locs => va_P D vwCl ([(h, .inr (5, [.int 0, .int 0, .int 0, .null, .null, .null, .null, .null, .null, .null, .null, .null, .int 0, .int 0, .null, .null, .null, .int 0, .null, .int 0, .int 0]))]) H ∧ va_S A s.heap H locs) (fun H locs h => ?_) ⟨hP, va_S.rf⟩
  clear hP
  obtain ⟨hP, hS⟩ := h
  have hl := lv_entry ([.ref h, .int x, .int y]) (n := 5) (Nat.le_of_ble_eq_true rfl)
  rw [lg_entry_eq]
  generalize (lg_sl ([.ref h, .int x, .int y]) ++ List.replicate (5 - (lg_sl ([.ref h, .int x, .int y])).length) Slot.unset).toArray = ls at hl ⊢
  have hl : lv_has ls 5 [(0, .ref h), (1, .int x), (2, .int y)] := hl
  have hmx := sf_max hT hS8
  refine lv_aload_n hx hb dX4_init_0 rfl (lv_at hl 0 rfl) ?_
  refine W.objInit hx hb hown (hts (.methodLink RX4 1 objectInit) (by decide +kernel)) (hts (.instanceMethod objectInit) (by decide +kernel)) (hts (.code objectInit ⟨#[0xb1]⟩ 1 none) (List.mem_of_getElem? (i := 3) (by rfl))) rfl (by rw [hml]; exact hl.1) rfl dX4_init_1 (Nat.le_of_ble_eq_true rfl) (Nat.le_of_ble_eq_true rfl) ?_
  refine W.eq (g2 := F0 m 4 ls []) rfl ?_
  refine lv_aload_n hx hb dX4_init_4 rfl (lv_at hl 0 rfl) ?_
  refine lv_sipush (v := nI 1792) hx hb dX4_init_5 (by decide) ?_
  refine va_newa (atype := .byte) (ty := .byte) (a0 := (1792, .inl (fun _ => 0))) hx hb (hts (.arrayClass .byte) (by decide +kernel)) rfl hK hP hD hS hA (fun _ => rfl) (nI_pos (by omega)) (nI_clamp (by omega)) (Nat.le_trans (Nat.mul_le_mul_right _ (show 1792 ≤ 1792 by omega)) (by decide +kernel)) (Nat.le_of_ble_eq_true rfl) (show 0 + 1792 ≤ 11865 by omega) dX4_init_8 (fun q8 cA H hK9 hP hD hS => ?_)
  obtain rfl : cA = κ 1 := ty_same hK hK9 rfl (by decide)
  clear hK9
  refine W.widen (k := 1) (n := 1792) (by omega) (by omega) ?_
  have hP : va_P D vwCl ([(h, .inr (5, [.int 0, .int 0, .int 0, .null, .null, .null, .null, .null, .null, .null, .null, .null, .int 0, .int 0, .null, .null, .null, .int 0, .null, .int 0, .int 0])), (q8, .inl (κ 1, 1792, .inl (fun _ => 0)))]) H := hP
  have hD : va_D A ([(h, .inr (5, [.int 0, .int 0, .int 0, .null, .null, .null, .null, .null, .null, .null, .null, .null, .int 0, .int 0, .null, .null, .null, .int 0, .null, .int 0, .int 0])), (q8, .inl (κ 1, 1792, .inl (fun _ => 0)))]) := hD
  refine va_putF (D := D) (ci := 5) (v := .ref q8) (ty := .array .byte) (C := RX4) (T := TX4) (N := 21) hx hb hts (by decide +kernel) tyX4 tyX4_ok nmX4 hown hK hP hD hS 0 rfl rfl 3 (by decide) (hts (.fieldLink RX4 7 "TrackDiskModel" "bytes" "[B") (by decide +kernel)) (fun _ h9 => h9) rfl hin rfl (by decide +kernel) rfl rfl (Nat.le_of_ble_eq_true rfl) dX4_init_10 (fun H locs hP hD hS => ?_)
  have hP : va_P D vwCl ([(h, .inr (5, [.int 0, .int 0, .int 0, .ref q8, .null, .null, .null, .null, .null, .null, .null, .null, .int 0, .int 0, .null, .null, .null, .int 0, .null, .int 0, .int 0])), (q8, .inl (κ 1, 1792, .inl (fun _ => 0)))]) H := hP
  have hD : va_D A ([(h, .inr (5, [.int 0, .int 0, .int 0, .ref q8, .null, .null, .null, .null, .null, .null, .null, .null, .int 0, .int 0, .null, .null, .null, .int 0, .null, .int 0, .int 0])), (q8, .inl (κ 1, 1792, .inl (fun _ => 0)))]) := hD
  refine lv_aload_n hx hb dX4_init_13 rfl (lv_at hl 0 rfl) ?_
  refine lv_sipush (v := nI 8960) hx hb dX4_init_14 (by decide) ?_
  refine va_newa (atype := .byte) (ty := .byte) (a0 := (8960, .inl (fun _ => 0))) hx hb (hts (.arrayClass .byte) (by decide +kernel)) rfl hK hP hD hS hA (fun _ => rfl) (nI_pos (by omega)) (nI_clamp (by omega)) (Nat.le_trans (Nat.mul_le_mul_right _ (show 8960 ≤ 8960 by omega)) (by decide +kernel)) (Nat.le_of_ble_eq_true rfl) (show 1792 + 8960 ≤ 11865 by omega) dX4_init_17 (fun q17 cA H hK9 hP hD hS => ?_)
  obtain rfl : cA = κ 1 := ty_same hK hK9 rfl (by decide)
  clear hK9
  refine W.widen (k := 2) (n := 10752) (by omega) (by omega) ?_
  have hP : va_P D vwCl ([(h, .inr (5, [.int 0, .int 0, .int 0, .ref q8, .null, .null, .null, .null, .null, .null, .null, .null, .int 0, .int 0, .null, .null, .null, .int 0, .null, .int 0, .int 0])), (q8, .inl (κ 1, 1792, .inl (fun _ => 0))), (q17, .inl (κ 1, 8960, .inl (fun _ => 0)))]) H := hP
  have hD : va_D A ([(h, .inr (5, [.int 0, .int 0, .int 0, .ref q8, .null, .null, .null, .null, .null, .null, .null, .null, .int 0, .int 0, .null, .null, .null, .int 0, .null, .int 0, .int 0])), (q8, .inl (κ 1, 1792, .inl (fun _ => 0))), (q17, .inl (κ 1, 8960, .inl (fun _ => 0)))]) := hD
  refine va_putF (D := D) (ci := 5) (v := .ref q17) (ty := .array .byte) (C := RX4) (T := TX4) (N := 21) hx hb hts (by decide +kernel) tyX4 tyX4_ok nmX4 hown hK hP hD hS 0 rfl rfl 4 (by decide) (hts (.fieldLink RX4 13 "TrackDiskModel" "kept" "[B") (by decide +kernel)) (fun _ h9 => h9) rfl hin rfl (by decide +kernel) rfl rfl (Nat.le_of_ble_eq_true rfl) dX4_init_19 (fun H locs hP hD hS => ?_)
  have hP : va_P D vwCl ([(h, .inr (5, [.int 0, .int 0, .int 0, .ref q8, .ref q17, .null, .null, .null, .null, .null, .null, .null, .int 0, .int 0, .null, .null, .null, .int 0, .null, .int 0, .int 0])), (q8, .inl (κ 1, 1792, .inl (fun _ => 0))), (q17, .inl (κ 1, 8960, .inl (fun _ => 0)))]) H := hP
  have hD : va_D A ([(h, .inr (5, [.int 0, .int 0, .int 0, .ref q8, .ref q17, .null, .null, .null, .null, .null, .null, .null, .int 0, .int 0, .null, .null, .null, .int 0, .null, .int 0, .int 0])), (q8, .inl (κ 1, 1792, .inl (fun _ => 0))), (q17, .inl (κ 1, 8960, .inl (fun _ => 0)))]) := hD
  refine lv_aload_n hx hb dX4_init_22 rfl (lv_at hl 0 rfl) ?_
  refine lv_bipush (v := nI 112) hx hb dX4_init_23 (by decide) ?_
  refine va_newa (atype := .int) (ty := .int) (a0 := (112, .inl (fun _ => 0))) hx hb (hts (.arrayClass .int) (by decide +kernel)) rfl hK hP hD hS hA (fun _ => rfl) (nI_pos (by omega)) (nI_clamp (by omega)) (Nat.le_trans (Nat.mul_le_mul_right _ (show 112 ≤ 112 by omega)) (by decide +kernel)) (Nat.le_of_ble_eq_true rfl) (show 10752 + 112 ≤ 11865 by omega) dX4_init_25 (fun q25 cA H hK9 hP hD hS => ?_)
  obtain rfl : cA = κ 0 := ty_same hK hK9 rfl (by decide)
  clear hK9
  refine W.widen (k := 3) (n := 10864) (by omega) (by omega) ?_
  have hP : va_P D vwCl ([(h, .inr (5, [.int 0, .int 0, .int 0, .ref q8, .ref q17, .null, .null, .null, .null, .null, .null, .null, .int 0, .int 0, .null, .null, .null, .int 0, .null, .int 0, .int 0])), (q8, .inl (κ 1, 1792, .inl (fun _ => 0))), (q17, .inl (κ 1, 8960, .inl (fun _ => 0))), (q25, .inl (κ 0, 112, .inl (fun _ => 0)))]) H := hP
  have hD : va_D A ([(h, .inr (5, [.int 0, .int 0, .int 0, .ref q8, .ref q17, .null, .null, .null, .null, .null, .null, .null, .int 0, .int 0, .null, .null, .null, .int 0, .null, .int 0, .int 0])), (q8, .inl (κ 1, 1792, .inl (fun _ => 0))), (q17, .inl (κ 1, 8960, .inl (fun _ => 0))), (q25, .inl (κ 0, 112, .inl (fun _ => 0)))]) := hD
  refine va_putF (D := D) (ci := 5) (v := .ref q25) (ty := .array .int) (C := RX4) (T := TX4) (N := 21) hx hb hts (by decide +kernel) tyX4 tyX4_ok nmX4 hown hK hP hD hS 0 rfl rfl 5 (by decide) (hts (.fieldLink RX4 16 "TrackDiskModel" "sums" "[I") (by decide +kernel)) (fun _ h9 => h9) rfl hin rfl (by decide +kernel) rfl rfl (Nat.le_of_ble_eq_true rfl) dX4_init_27 (fun H locs hP hD hS => ?_)
  have hP : va_P D vwCl ([(h, .inr (5, [.int 0, .int 0, .int 0, .ref q8, .ref q17, .ref q25, .null, .null, .null, .null, .null, .null, .int 0, .int 0, .null, .null, .null, .int 0, .null, .int 0, .int 0])), (q8, .inl (κ 1, 1792, .inl (fun _ => 0))), (q17, .inl (κ 1, 8960, .inl (fun _ => 0))), (q25, .inl (κ 0, 112, .inl (fun _ => 0)))]) H := hP
  have hD : va_D A ([(h, .inr (5, [.int 0, .int 0, .int 0, .ref q8, .ref q17, .ref q25, .null, .null, .null, .null, .null, .null, .int 0, .int 0, .null, .null, .null, .int 0, .null, .int 0, .int 0])), (q8, .inl (κ 1, 1792, .inl (fun _ => 0))), (q17, .inl (κ 1, 8960, .inl (fun _ => 0))), (q25, .inl (κ 0, 112, .inl (fun _ => 0)))]) := hD
  refine lv_aload_n hx hb dX4_init_30 rfl (lv_at hl 0 rfl) ?_
  refine lv_sipush (v := nI 560) hx hb dX4_init_31 (by decide) ?_
  refine va_newa (atype := .int) (ty := .int) (a0 := (560, .inl (fun _ => 0))) hx hb (hts (.arrayClass .int) (by decide +kernel)) rfl hK hP hD hS hA (fun _ => rfl) (nI_pos (by omega)) (nI_clamp (by omega)) (Nat.le_trans (Nat.mul_le_mul_right _ (show 560 ≤ 560 by omega)) (by decide +kernel)) (Nat.le_of_ble_eq_true rfl) (show 10864 + 560 ≤ 11865 by omega) dX4_init_34 (fun q34 cA H hK9 hP hD hS => ?_)
  obtain rfl : cA = κ 0 := ty_same hK hK9 rfl (by decide)
  clear hK9
  refine W.widen (k := 4) (n := 11424) (by omega) (by omega) ?_
  have hP : va_P D vwCl ([(h, .inr (5, [.int 0, .int 0, .int 0, .ref q8, .ref q17, .ref q25, .null, .null, .null, .null, .null, .null, .int 0, .int 0, .null, .null, .null, .int 0, .null, .int 0, .int 0])), (q8, .inl (κ 1, 1792, .inl (fun _ => 0))), (q17, .inl (κ 1, 8960, .inl (fun _ => 0))), (q25, .inl (κ 0, 112, .inl (fun _ => 0))), (q34, .inl (κ 0, 560, .inl (fun _ => 0)))]) H := hP
  have hD : va_D A ([(h, .inr (5, [.int 0, .int 0, .int 0, .ref q8, .ref q17, .ref q25, .null, .null, .null, .null, .null, .null, .int 0, .int 0, .null, .null, .null, .int 0, .null, .int 0, .int 0])), (q8, .inl (κ 1, 1792, .inl (fun _ => 0))), (q17, .inl (κ 1, 8960, .inl (fun _ => 0))), (q25, .inl (κ 0, 112, .inl (fun _ => 0))), (q34, .inl (κ 0, 560, .inl (fun _ => 0)))]) := hD
  refine va_putF (D := D) (ci := 5) (v := .ref q34) (ty := .array .int) (C := RX4) (T := TX4) (N := 21) hx hb hts (by decide +kernel) tyX4 tyX4_ok nmX4 hown hK hP hD hS 0 rfl rfl 6 (by decide) (hts (.fieldLink RX4 20 "TrackDiskModel" "keptSums" "[I") (by decide +kernel)) (fun _ h9 => h9) rfl hin rfl (by decide +kernel) rfl rfl (Nat.le_of_ble_eq_true rfl) dX4_init_36 (fun H locs hP hD hS => ?_)
  have hP : va_P D vwCl ([(h, .inr (5, [.int 0, .int 0, .int 0, .ref q8, .ref q17, .ref q25, .ref q34, .null, .null, .null, .null, .null, .int 0, .int 0, .null, .null, .null, .int 0, .null, .int 0, .int 0])), (q8, .inl (κ 1, 1792, .inl (fun _ => 0))), (q17, .inl (κ 1, 8960, .inl (fun _ => 0))), (q25, .inl (κ 0, 112, .inl (fun _ => 0))), (q34, .inl (κ 0, 560, .inl (fun _ => 0)))]) H := hP
  have hD : va_D A ([(h, .inr (5, [.int 0, .int 0, .int 0, .ref q8, .ref q17, .ref q25, .ref q34, .null, .null, .null, .null, .null, .int 0, .int 0, .null, .null, .null, .int 0, .null, .int 0, .int 0])), (q8, .inl (κ 1, 1792, .inl (fun _ => 0))), (q17, .inl (κ 1, 8960, .inl (fun _ => 0))), (q25, .inl (κ 0, 112, .inl (fun _ => 0))), (q34, .inl (κ 0, 560, .inl (fun _ => 0)))]) := hD
  refine lv_aload_n hx hb dX4_init_39 rfl (lv_at hl 0 rfl) ?_
  refine lv_bipush (v := nI 12) hx hb dX4_init_40 (by decide) ?_
  refine va_newa (atype := .int) (ty := .int) (a0 := (12, .inl (fun _ => 0))) hx hb (hts (.arrayClass .int) (by decide +kernel)) rfl hK hP hD hS hA (fun _ => rfl) (nI_pos (by omega)) (nI_clamp (by omega)) (Nat.le_trans (Nat.mul_le_mul_right _ (show 12 ≤ 12 by omega)) (by decide +kernel)) (Nat.le_of_ble_eq_true rfl) (show 11424 + 12 ≤ 11865 by omega) dX4_init_42 (fun q42 cA H hK9 hP hD hS => ?_)
  obtain rfl : cA = κ 0 := ty_same hK hK9 rfl (by decide)
  clear hK9
  refine W.widen (k := 5) (n := 11436) (by omega) (by omega) ?_
  have hP : va_P D vwCl ([(h, .inr (5, [.int 0, .int 0, .int 0, .ref q8, .ref q17, .ref q25, .ref q34, .null, .null, .null, .null, .null, .int 0, .int 0, .null, .null, .null, .int 0, .null, .int 0, .int 0])), (q8, .inl (κ 1, 1792, .inl (fun _ => 0))), (q17, .inl (κ 1, 8960, .inl (fun _ => 0))), (q25, .inl (κ 0, 112, .inl (fun _ => 0))), (q34, .inl (κ 0, 560, .inl (fun _ => 0))), (q42, .inl (κ 0, 12, .inl (fun _ => 0)))]) H := hP
  have hD : va_D A ([(h, .inr (5, [.int 0, .int 0, .int 0, .ref q8, .ref q17, .ref q25, .ref q34, .null, .null, .null, .null, .null, .int 0, .int 0, .null, .null, .null, .int 0, .null, .int 0, .int 0])), (q8, .inl (κ 1, 1792, .inl (fun _ => 0))), (q17, .inl (κ 1, 8960, .inl (fun _ => 0))), (q25, .inl (κ 0, 112, .inl (fun _ => 0))), (q34, .inl (κ 0, 560, .inl (fun _ => 0))), (q42, .inl (κ 0, 12, .inl (fun _ => 0)))]) := hD
  refine va_putF (D := D) (ci := 5) (v := .ref q42) (ty := .array .int) (C := RX4) (T := TX4) (N := 21) hx hb hts (by decide +kernel) tyX4 tyX4_ok nmX4 hown hK hP hD hS 0 rfl rfl 7 (by decide) (hts (.fieldLink RX4 23 "TrackDiskModel" "sent" "[I") (by decide +kernel)) (fun _ h9 => h9) rfl hin rfl (by decide +kernel) rfl rfl (Nat.le_of_ble_eq_true rfl) dX4_init_44 (fun H locs hP hD hS => ?_)
  have hP : va_P D vwCl ([(h, .inr (5, [.int 0, .int 0, .int 0, .ref q8, .ref q17, .ref q25, .ref q34, .ref q42, .null, .null, .null, .null, .int 0, .int 0, .null, .null, .null, .int 0, .null, .int 0, .int 0])), (q8, .inl (κ 1, 1792, .inl (fun _ => 0))), (q17, .inl (κ 1, 8960, .inl (fun _ => 0))), (q25, .inl (κ 0, 112, .inl (fun _ => 0))), (q34, .inl (κ 0, 560, .inl (fun _ => 0))), (q42, .inl (κ 0, 12, .inl (fun _ => 0)))]) H := hP
  have hD : va_D A ([(h, .inr (5, [.int 0, .int 0, .int 0, .ref q8, .ref q17, .ref q25, .ref q34, .ref q42, .null, .null, .null, .null, .int 0, .int 0, .null, .null, .null, .int 0, .null, .int 0, .int 0])), (q8, .inl (κ 1, 1792, .inl (fun _ => 0))), (q17, .inl (κ 1, 8960, .inl (fun _ => 0))), (q25, .inl (κ 0, 112, .inl (fun _ => 0))), (q34, .inl (κ 0, 560, .inl (fun _ => 0))), (q42, .inl (κ 0, 12, .inl (fun _ => 0)))]) := hD
  refine lv_aload_n hx hb dX4_init_47 rfl (lv_at hl 0 rfl) ?_
  refine lv_bipush (v := nI 24) hx hb dX4_init_48 (by decide) ?_
  refine va_newa (atype := .int) (ty := .int) (a0 := (24, .inl (fun _ => 0))) hx hb (hts (.arrayClass .int) (by decide +kernel)) rfl hK hP hD hS hA (fun _ => rfl) (nI_pos (by omega)) (nI_clamp (by omega)) (Nat.le_trans (Nat.mul_le_mul_right _ (show 24 ≤ 24 by omega)) (by decide +kernel)) (Nat.le_of_ble_eq_true rfl) (show 11436 + 24 ≤ 11865 by omega) dX4_init_50 (fun q50 cA H hK9 hP hD hS => ?_)
  obtain rfl : cA = κ 0 := ty_same hK hK9 rfl (by decide)
  clear hK9
  refine W.widen (k := 6) (n := 11460) (by omega) (by omega) ?_
  have hP : va_P D vwCl ([(h, .inr (5, [.int 0, .int 0, .int 0, .ref q8, .ref q17, .ref q25, .ref q34, .ref q42, .null, .null, .null, .null, .int 0, .int 0, .null, .null, .null, .int 0, .null, .int 0, .int 0])), (q8, .inl (κ 1, 1792, .inl (fun _ => 0))), (q17, .inl (κ 1, 8960, .inl (fun _ => 0))), (q25, .inl (κ 0, 112, .inl (fun _ => 0))), (q34, .inl (κ 0, 560, .inl (fun _ => 0))), (q42, .inl (κ 0, 12, .inl (fun _ => 0))), (q50, .inl (κ 0, 24, .inl (fun _ => 0)))]) H := hP
  have hD : va_D A ([(h, .inr (5, [.int 0, .int 0, .int 0, .ref q8, .ref q17, .ref q25, .ref q34, .ref q42, .null, .null, .null, .null, .int 0, .int 0, .null, .null, .null, .int 0, .null, .int 0, .int 0])), (q8, .inl (κ 1, 1792, .inl (fun _ => 0))), (q17, .inl (κ 1, 8960, .inl (fun _ => 0))), (q25, .inl (κ 0, 112, .inl (fun _ => 0))), (q34, .inl (κ 0, 560, .inl (fun _ => 0))), (q42, .inl (κ 0, 12, .inl (fun _ => 0))), (q50, .inl (κ 0, 24, .inl (fun _ => 0)))]) := hD
  refine va_putF (D := D) (ci := 5) (v := .ref q50) (ty := .array .int) (C := RX4) (T := TX4) (N := 21) hx hb hts (by decide +kernel) tyX4 tyX4_ok nmX4 hown hK hP hD hS 0 rfl rfl 8 (by decide) (hts (.fieldLink RX4 26 "TrackDiskModel" "space" "[I") (by decide +kernel)) (fun _ h9 => h9) rfl hin rfl (by decide +kernel) rfl rfl (Nat.le_of_ble_eq_true rfl) dX4_init_52 (fun H locs hP hD hS => ?_)
  have hP : va_P D vwCl ([(h, .inr (5, [.int 0, .int 0, .int 0, .ref q8, .ref q17, .ref q25, .ref q34, .ref q42, .ref q50, .null, .null, .null, .int 0, .int 0, .null, .null, .null, .int 0, .null, .int 0, .int 0])), (q8, .inl (κ 1, 1792, .inl (fun _ => 0))), (q17, .inl (κ 1, 8960, .inl (fun _ => 0))), (q25, .inl (κ 0, 112, .inl (fun _ => 0))), (q34, .inl (κ 0, 560, .inl (fun _ => 0))), (q42, .inl (κ 0, 12, .inl (fun _ => 0))), (q50, .inl (κ 0, 24, .inl (fun _ => 0)))]) H := hP
  have hD : va_D A ([(h, .inr (5, [.int 0, .int 0, .int 0, .ref q8, .ref q17, .ref q25, .ref q34, .ref q42, .ref q50, .null, .null, .null, .int 0, .int 0, .null, .null, .null, .int 0, .null, .int 0, .int 0])), (q8, .inl (κ 1, 1792, .inl (fun _ => 0))), (q17, .inl (κ 1, 8960, .inl (fun _ => 0))), (q25, .inl (κ 0, 112, .inl (fun _ => 0))), (q34, .inl (κ 0, 560, .inl (fun _ => 0))), (q42, .inl (κ 0, 12, .inl (fun _ => 0))), (q50, .inl (κ 0, 24, .inl (fun _ => 0)))]) := hD
  refine lv_aload_n hx hb dX4_init_55 rfl (lv_at hl 0 rfl) ?_
  refine lv_bipush (v := nI 60) hx hb dX4_init_56 (by decide) ?_
  refine va_newa (atype := .int) (ty := .int) (a0 := (60, .inl (fun _ => 0))) hx hb (hts (.arrayClass .int) (by decide +kernel)) rfl hK hP hD hS hA (fun _ => rfl) (nI_pos (by omega)) (nI_clamp (by omega)) (Nat.le_trans (Nat.mul_le_mul_right _ (show 60 ≤ 60 by omega)) (by decide +kernel)) (Nat.le_of_ble_eq_true rfl) (show 11460 + 60 ≤ 11865 by omega) dX4_init_58 (fun q58 cA H hK9 hP hD hS => ?_)
  obtain rfl : cA = κ 0 := ty_same hK hK9 rfl (by decide)
  clear hK9
  refine W.widen (k := 7) (n := 11520) (by omega) (by omega) ?_
  have hP : va_P D vwCl ([(h, .inr (5, [.int 0, .int 0, .int 0, .ref q8, .ref q17, .ref q25, .ref q34, .ref q42, .ref q50, .null, .null, .null, .int 0, .int 0, .null, .null, .null, .int 0, .null, .int 0, .int 0])), (q8, .inl (κ 1, 1792, .inl (fun _ => 0))), (q17, .inl (κ 1, 8960, .inl (fun _ => 0))), (q25, .inl (κ 0, 112, .inl (fun _ => 0))), (q34, .inl (κ 0, 560, .inl (fun _ => 0))), (q42, .inl (κ 0, 12, .inl (fun _ => 0))), (q50, .inl (κ 0, 24, .inl (fun _ => 0))), (q58, .inl (κ 0, 60, .inl (fun _ => 0)))]) H := hP
  have hD : va_D A ([(h, .inr (5, [.int 0, .int 0, .int 0, .ref q8, .ref q17, .ref q25, .ref q34, .ref q42, .ref q50, .null, .null, .null, .int 0, .int 0, .null, .null, .null, .int 0, .null, .int 0, .int 0])), (q8, .inl (κ 1, 1792, .inl (fun _ => 0))), (q17, .inl (κ 1, 8960, .inl (fun _ => 0))), (q25, .inl (κ 0, 112, .inl (fun _ => 0))), (q34, .inl (κ 0, 560, .inl (fun _ => 0))), (q42, .inl (κ 0, 12, .inl (fun _ => 0))), (q50, .inl (κ 0, 24, .inl (fun _ => 0))), (q58, .inl (κ 0, 60, .inl (fun _ => 0)))]) := hD
  refine va_putF (D := D) (ci := 5) (v := .ref q58) (ty := .array .int) (C := RX4) (T := TX4) (N := 21) hx hb hts (by decide +kernel) tyX4 tyX4_ok nmX4 hown hK hP hD hS 0 rfl rfl 9 (by decide) (hts (.fieldLink RX4 29 "TrackDiskModel" "keptSent" "[I") (by decide +kernel)) (fun _ h9 => h9) rfl hin rfl (by decide +kernel) rfl rfl (Nat.le_of_ble_eq_true rfl) dX4_init_60 (fun H locs hP hD hS => ?_)
  have hP : va_P D vwCl ([(h, .inr (5, [.int 0, .int 0, .int 0, .ref q8, .ref q17, .ref q25, .ref q34, .ref q42, .ref q50, .ref q58, .null, .null, .int 0, .int 0, .null, .null, .null, .int 0, .null, .int 0, .int 0])), (q8, .inl (κ 1, 1792, .inl (fun _ => 0))), (q17, .inl (κ 1, 8960, .inl (fun _ => 0))), (q25, .inl (κ 0, 112, .inl (fun _ => 0))), (q34, .inl (κ 0, 560, .inl (fun _ => 0))), (q42, .inl (κ 0, 12, .inl (fun _ => 0))), (q50, .inl (κ 0, 24, .inl (fun _ => 0))), (q58, .inl (κ 0, 60, .inl (fun _ => 0)))]) H := hP
  have hD : va_D A ([(h, .inr (5, [.int 0, .int 0, .int 0, .ref q8, .ref q17, .ref q25, .ref q34, .ref q42, .ref q50, .ref q58, .null, .null, .int 0, .int 0, .null, .null, .null, .int 0, .null, .int 0, .int 0])), (q8, .inl (κ 1, 1792, .inl (fun _ => 0))), (q17, .inl (κ 1, 8960, .inl (fun _ => 0))), (q25, .inl (κ 0, 112, .inl (fun _ => 0))), (q34, .inl (κ 0, 560, .inl (fun _ => 0))), (q42, .inl (κ 0, 12, .inl (fun _ => 0))), (q50, .inl (κ 0, 24, .inl (fun _ => 0))), (q58, .inl (κ 0, 60, .inl (fun _ => 0)))]) := hD
  refine lv_aload_n hx hb dX4_init_63 rfl (lv_at hl 0 rfl) ?_
  refine lv_bipush (v := nI 120) hx hb dX4_init_64 (by decide) ?_
  refine va_newa (atype := .int) (ty := .int) (a0 := (120, .inl (fun _ => 0))) hx hb (hts (.arrayClass .int) (by decide +kernel)) rfl hK hP hD hS hA (fun _ => rfl) (nI_pos (by omega)) (nI_clamp (by omega)) (Nat.le_trans (Nat.mul_le_mul_right _ (show 120 ≤ 120 by omega)) (by decide +kernel)) (Nat.le_of_ble_eq_true rfl) (show 11520 + 120 ≤ 11865 by omega) dX4_init_66 (fun q66 cA H hK9 hP hD hS => ?_)
  obtain rfl : cA = κ 0 := ty_same hK hK9 rfl (by decide)
  clear hK9
  refine W.widen (k := 8) (n := 11640) (by omega) (by omega) ?_
  have hP : va_P D vwCl ([(h, .inr (5, [.int 0, .int 0, .int 0, .ref q8, .ref q17, .ref q25, .ref q34, .ref q42, .ref q50, .ref q58, .null, .null, .int 0, .int 0, .null, .null, .null, .int 0, .null, .int 0, .int 0])), (q8, .inl (κ 1, 1792, .inl (fun _ => 0))), (q17, .inl (κ 1, 8960, .inl (fun _ => 0))), (q25, .inl (κ 0, 112, .inl (fun _ => 0))), (q34, .inl (κ 0, 560, .inl (fun _ => 0))), (q42, .inl (κ 0, 12, .inl (fun _ => 0))), (q50, .inl (κ 0, 24, .inl (fun _ => 0))), (q58, .inl (κ 0, 60, .inl (fun _ => 0))), (q66, .inl (κ 0, 120, .inl (fun _ => 0)))]) H := hP
  have hD : va_D A ([(h, .inr (5, [.int 0, .int 0, .int 0, .ref q8, .ref q17, .ref q25, .ref q34, .ref q42, .ref q50, .ref q58, .null, .null, .int 0, .int 0, .null, .null, .null, .int 0, .null, .int 0, .int 0])), (q8, .inl (κ 1, 1792, .inl (fun _ => 0))), (q17, .inl (κ 1, 8960, .inl (fun _ => 0))), (q25, .inl (κ 0, 112, .inl (fun _ => 0))), (q34, .inl (κ 0, 560, .inl (fun _ => 0))), (q42, .inl (κ 0, 12, .inl (fun _ => 0))), (q50, .inl (κ 0, 24, .inl (fun _ => 0))), (q58, .inl (κ 0, 60, .inl (fun _ => 0))), (q66, .inl (κ 0, 120, .inl (fun _ => 0)))]) := hD
  refine va_putF (D := D) (ci := 5) (v := .ref q66) (ty := .array .int) (C := RX4) (T := TX4) (N := 21) hx hb hts (by decide +kernel) tyX4 tyX4_ok nmX4 hown hK hP hD hS 0 rfl rfl 10 (by decide) (hts (.fieldLink RX4 32 "TrackDiskModel" "keptSpace" "[I") (by decide +kernel)) (fun _ h9 => h9) rfl hin rfl (by decide +kernel) rfl rfl (Nat.le_of_ble_eq_true rfl) dX4_init_68 (fun H locs hP hD hS => ?_)
  have hP : va_P D vwCl ([(h, .inr (5, [.int 0, .int 0, .int 0, .ref q8, .ref q17, .ref q25, .ref q34, .ref q42, .ref q50, .ref q58, .ref q66, .null, .int 0, .int 0, .null, .null, .null, .int 0, .null, .int 0, .int 0])), (q8, .inl (κ 1, 1792, .inl (fun _ => 0))), (q17, .inl (κ 1, 8960, .inl (fun _ => 0))), (q25, .inl (κ 0, 112, .inl (fun _ => 0))), (q34, .inl (κ 0, 560, .inl (fun _ => 0))), (q42, .inl (κ 0, 12, .inl (fun _ => 0))), (q50, .inl (κ 0, 24, .inl (fun _ => 0))), (q58, .inl (κ 0, 60, .inl (fun _ => 0))), (q66, .inl (κ 0, 120, .inl (fun _ => 0)))]) H := hP
  have hD : va_D A ([(h, .inr (5, [.int 0, .int 0, .int 0, .ref q8, .ref q17, .ref q25, .ref q34, .ref q42, .ref q50, .ref q58, .ref q66, .null, .int 0, .int 0, .null, .null, .null, .int 0, .null, .int 0, .int 0])), (q8, .inl (κ 1, 1792, .inl (fun _ => 0))), (q17, .inl (κ 1, 8960, .inl (fun _ => 0))), (q25, .inl (κ 0, 112, .inl (fun _ => 0))), (q34, .inl (κ 0, 560, .inl (fun _ => 0))), (q42, .inl (κ 0, 12, .inl (fun _ => 0))), (q50, .inl (κ 0, 24, .inl (fun _ => 0))), (q58, .inl (κ 0, 60, .inl (fun _ => 0))), (q66, .inl (κ 0, 120, .inl (fun _ => 0)))]) := hD
  refine lv_aload_n hx hb dX4_init_71 rfl (lv_at hl 0 rfl) ?_
  refine lv_iconst (v := nI 5) hx hb dX4_init_72 (by decide) ?_
  refine va_newa (atype := .int) (ty := .int) (a0 := (5, .inl (fun _ => 0))) hx hb (hts (.arrayClass .int) (by decide +kernel)) rfl hK hP hD hS hA (fun _ => rfl) (nI_pos (by omega)) (nI_clamp (by omega)) (Nat.le_trans (Nat.mul_le_mul_right _ (show 5 ≤ 5 by omega)) (by decide +kernel)) (Nat.le_of_ble_eq_true rfl) (show 11640 + 5 ≤ 11865 by omega) dX4_init_73 (fun q73 cA H hK9 hP hD hS => ?_)
  obtain rfl : cA = κ 0 := ty_same hK hK9 rfl (by decide)
  clear hK9
  refine W.widen (k := 9) (n := 11645) (by omega) (by omega) ?_
  have hP : va_P D vwCl ([(h, .inr (5, [.int 0, .int 0, .int 0, .ref q8, .ref q17, .ref q25, .ref q34, .ref q42, .ref q50, .ref q58, .ref q66, .null, .int 0, .int 0, .null, .null, .null, .int 0, .null, .int 0, .int 0])), (q8, .inl (κ 1, 1792, .inl (fun _ => 0))), (q17, .inl (κ 1, 8960, .inl (fun _ => 0))), (q25, .inl (κ 0, 112, .inl (fun _ => 0))), (q34, .inl (κ 0, 560, .inl (fun _ => 0))), (q42, .inl (κ 0, 12, .inl (fun _ => 0))), (q50, .inl (κ 0, 24, .inl (fun _ => 0))), (q58, .inl (κ 0, 60, .inl (fun _ => 0))), (q66, .inl (κ 0, 120, .inl (fun _ => 0))), (q73, .inl (κ 0, 5, .inl (fun _ => 0)))]) H := hP
  have hD : va_D A ([(h, .inr (5, [.int 0, .int 0, .int 0, .ref q8, .ref q17, .ref q25, .ref q34, .ref q42, .ref q50, .ref q58, .ref q66, .null, .int 0, .int 0, .null, .null, .null, .int 0, .null, .int 0, .int 0])), (q8, .inl (κ 1, 1792, .inl (fun _ => 0))), (q17, .inl (κ 1, 8960, .inl (fun _ => 0))), (q25, .inl (κ 0, 112, .inl (fun _ => 0))), (q34, .inl (κ 0, 560, .inl (fun _ => 0))), (q42, .inl (κ 0, 12, .inl (fun _ => 0))), (q50, .inl (κ 0, 24, .inl (fun _ => 0))), (q58, .inl (κ 0, 60, .inl (fun _ => 0))), (q66, .inl (κ 0, 120, .inl (fun _ => 0))), (q73, .inl (κ 0, 5, .inl (fun _ => 0)))]) := hD
  refine va_putF (D := D) (ci := 5) (v := .ref q73) (ty := .array .int) (C := RX4) (T := TX4) (N := 21) hx hb hts (by decide +kernel) tyX4 tyX4_ok nmX4 hown hK hP hD hS 0 rfl rfl 11 (by decide) (hts (.fieldLink RX4 35 "TrackDiskModel" "volumes" "[I") (by decide +kernel)) (fun _ h9 => h9) rfl hin rfl (by decide +kernel) rfl rfl (Nat.le_of_ble_eq_true rfl) dX4_init_75 (fun H locs hP hD hS => ?_)
  have hP : va_P D vwCl ([(h, .inr (5, [.int 0, .int 0, .int 0, .ref q8, .ref q17, .ref q25, .ref q34, .ref q42, .ref q50, .ref q58, .ref q66, .ref q73, .int 0, .int 0, .null, .null, .null, .int 0, .null, .int 0, .int 0])), (q8, .inl (κ 1, 1792, .inl (fun _ => 0))), (q17, .inl (κ 1, 8960, .inl (fun _ => 0))), (q25, .inl (κ 0, 112, .inl (fun _ => 0))), (q34, .inl (κ 0, 560, .inl (fun _ => 0))), (q42, .inl (κ 0, 12, .inl (fun _ => 0))), (q50, .inl (κ 0, 24, .inl (fun _ => 0))), (q58, .inl (κ 0, 60, .inl (fun _ => 0))), (q66, .inl (κ 0, 120, .inl (fun _ => 0))), (q73, .inl (κ 0, 5, .inl (fun _ => 0)))]) H := hP
  have hD : va_D A ([(h, .inr (5, [.int 0, .int 0, .int 0, .ref q8, .ref q17, .ref q25, .ref q34, .ref q42, .ref q50, .ref q58, .ref q66, .ref q73, .int 0, .int 0, .null, .null, .null, .int 0, .null, .int 0, .int 0])), (q8, .inl (κ 1, 1792, .inl (fun _ => 0))), (q17, .inl (κ 1, 8960, .inl (fun _ => 0))), (q25, .inl (κ 0, 112, .inl (fun _ => 0))), (q34, .inl (κ 0, 560, .inl (fun _ => 0))), (q42, .inl (κ 0, 12, .inl (fun _ => 0))), (q50, .inl (κ 0, 24, .inl (fun _ => 0))), (q58, .inl (κ 0, 60, .inl (fun _ => 0))), (q66, .inl (κ 0, 120, .inl (fun _ => 0))), (q73, .inl (κ 0, 5, .inl (fun _ => 0)))]) := hD
  refine lv_aload_n hx hb dX4_init_78 rfl (lv_at hl 0 rfl) ?_
  refine lv_bipush (v := nI 40) hx hb dX4_init_79 (by decide) ?_
  refine va_newa (atype := .int) (ty := .int) (a0 := (40, .inl (fun _ => 0))) hx hb (hts (.arrayClass .int) (by decide +kernel)) rfl hK hP hD hS hA (fun _ => rfl) (nI_pos (by omega)) (nI_clamp (by omega)) (Nat.le_trans (Nat.mul_le_mul_right _ (show 40 ≤ 40 by omega)) (by decide +kernel)) (Nat.le_of_ble_eq_true rfl) (show 11645 + 40 ≤ 11865 by omega) dX4_init_81 (fun q81 cA H hK9 hP hD hS => ?_)
  obtain rfl : cA = κ 0 := ty_same hK hK9 rfl (by decide)
  clear hK9
  refine W.widen (k := 10) (n := 11685) (by omega) (by omega) ?_
  have hP : va_P D vwCl ([(h, .inr (5, [.int 0, .int 0, .int 0, .ref q8, .ref q17, .ref q25, .ref q34, .ref q42, .ref q50, .ref q58, .ref q66, .ref q73, .int 0, .int 0, .null, .null, .null, .int 0, .null, .int 0, .int 0])), (q8, .inl (κ 1, 1792, .inl (fun _ => 0))), (q17, .inl (κ 1, 8960, .inl (fun _ => 0))), (q25, .inl (κ 0, 112, .inl (fun _ => 0))), (q34, .inl (κ 0, 560, .inl (fun _ => 0))), (q42, .inl (κ 0, 12, .inl (fun _ => 0))), (q50, .inl (κ 0, 24, .inl (fun _ => 0))), (q58, .inl (κ 0, 60, .inl (fun _ => 0))), (q66, .inl (κ 0, 120, .inl (fun _ => 0))), (q73, .inl (κ 0, 5, .inl (fun _ => 0))), (q81, .inl (κ 0, 40, .inl (fun _ => 0)))]) H := hP
  have hD : va_D A ([(h, .inr (5, [.int 0, .int 0, .int 0, .ref q8, .ref q17, .ref q25, .ref q34, .ref q42, .ref q50, .ref q58, .ref q66, .ref q73, .int 0, .int 0, .null, .null, .null, .int 0, .null, .int 0, .int 0])), (q8, .inl (κ 1, 1792, .inl (fun _ => 0))), (q17, .inl (κ 1, 8960, .inl (fun _ => 0))), (q25, .inl (κ 0, 112, .inl (fun _ => 0))), (q34, .inl (κ 0, 560, .inl (fun _ => 0))), (q42, .inl (κ 0, 12, .inl (fun _ => 0))), (q50, .inl (κ 0, 24, .inl (fun _ => 0))), (q58, .inl (κ 0, 60, .inl (fun _ => 0))), (q66, .inl (κ 0, 120, .inl (fun _ => 0))), (q73, .inl (κ 0, 5, .inl (fun _ => 0))), (q81, .inl (κ 0, 40, .inl (fun _ => 0)))]) := hD
  refine va_putF (D := D) (ci := 5) (v := .ref q81) (ty := .array .int) (C := RX4) (T := TX4) (N := 21) hx hb hts (by decide +kernel) tyX4 tyX4_ok nmX4 hown hK hP hD hS 0 rfl rfl 14 (by decide) (hts (.fieldLink RX4 38 "TrackDiskModel" "waitTracks" "[I") (by decide +kernel)) (fun _ h9 => h9) rfl hin rfl (by decide +kernel) rfl rfl (Nat.le_of_ble_eq_true rfl) dX4_init_83 (fun H locs hP hD hS => ?_)
  have hP : va_P D vwCl ([(h, .inr (5, [.int 0, .int 0, .int 0, .ref q8, .ref q17, .ref q25, .ref q34, .ref q42, .ref q50, .ref q58, .ref q66, .ref q73, .int 0, .int 0, .ref q81, .null, .null, .int 0, .null, .int 0, .int 0])), (q8, .inl (κ 1, 1792, .inl (fun _ => 0))), (q17, .inl (κ 1, 8960, .inl (fun _ => 0))), (q25, .inl (κ 0, 112, .inl (fun _ => 0))), (q34, .inl (κ 0, 560, .inl (fun _ => 0))), (q42, .inl (κ 0, 12, .inl (fun _ => 0))), (q50, .inl (κ 0, 24, .inl (fun _ => 0))), (q58, .inl (κ 0, 60, .inl (fun _ => 0))), (q66, .inl (κ 0, 120, .inl (fun _ => 0))), (q73, .inl (κ 0, 5, .inl (fun _ => 0))), (q81, .inl (κ 0, 40, .inl (fun _ => 0)))]) H := hP
  have hD : va_D A ([(h, .inr (5, [.int 0, .int 0, .int 0, .ref q8, .ref q17, .ref q25, .ref q34, .ref q42, .ref q50, .ref q58, .ref q66, .ref q73, .int 0, .int 0, .ref q81, .null, .null, .int 0, .null, .int 0, .int 0])), (q8, .inl (κ 1, 1792, .inl (fun _ => 0))), (q17, .inl (κ 1, 8960, .inl (fun _ => 0))), (q25, .inl (κ 0, 112, .inl (fun _ => 0))), (q34, .inl (κ 0, 560, .inl (fun _ => 0))), (q42, .inl (κ 0, 12, .inl (fun _ => 0))), (q50, .inl (κ 0, 24, .inl (fun _ => 0))), (q58, .inl (κ 0, 60, .inl (fun _ => 0))), (q66, .inl (κ 0, 120, .inl (fun _ => 0))), (q73, .inl (κ 0, 5, .inl (fun _ => 0))), (q81, .inl (κ 0, 40, .inl (fun _ => 0)))]) := hD
  refine lv_aload_n hx hb dX4_init_86 rfl (lv_at hl 0 rfl) ?_
  refine lv_bipush (v := nI 40) hx hb dX4_init_87 (by decide) ?_
  refine va_newa (atype := .int) (ty := .int) (a0 := (40, .inl (fun _ => 0))) hx hb (hts (.arrayClass .int) (by decide +kernel)) rfl hK hP hD hS hA (fun _ => rfl) (nI_pos (by omega)) (nI_clamp (by omega)) (Nat.le_trans (Nat.mul_le_mul_right _ (show 40 ≤ 40 by omega)) (by decide +kernel)) (Nat.le_of_ble_eq_true rfl) (show 11685 + 40 ≤ 11865 by omega) dX4_init_89 (fun q89 cA H hK9 hP hD hS => ?_)
  obtain rfl : cA = κ 0 := ty_same hK hK9 rfl (by decide)
  clear hK9
  refine W.widen (k := 11) (n := 11725) (by omega) (by omega) ?_
  have hP : va_P D vwCl ([(h, .inr (5, [.int 0, .int 0, .int 0, .ref q8, .ref q17, .ref q25, .ref q34, .ref q42, .ref q50, .ref q58, .ref q66, .ref q73, .int 0, .int 0, .ref q81, .null, .null, .int 0, .null, .int 0, .int 0])), (q8, .inl (κ 1, 1792, .inl (fun _ => 0))), (q17, .inl (κ 1, 8960, .inl (fun _ => 0))), (q25, .inl (κ 0, 112, .inl (fun _ => 0))), (q34, .inl (κ 0, 560, .inl (fun _ => 0))), (q42, .inl (κ 0, 12, .inl (fun _ => 0))), (q50, .inl (κ 0, 24, .inl (fun _ => 0))), (q58, .inl (κ 0, 60, .inl (fun _ => 0))), (q66, .inl (κ 0, 120, .inl (fun _ => 0))), (q73, .inl (κ 0, 5, .inl (fun _ => 0))), (q81, .inl (κ 0, 40, .inl (fun _ => 0))), (q89, .inl (κ 0, 40, .inl (fun _ => 0)))]) H := hP
  have hD : va_D A ([(h, .inr (5, [.int 0, .int 0, .int 0, .ref q8, .ref q17, .ref q25, .ref q34, .ref q42, .ref q50, .ref q58, .ref q66, .ref q73, .int 0, .int 0, .ref q81, .null, .null, .int 0, .null, .int 0, .int 0])), (q8, .inl (κ 1, 1792, .inl (fun _ => 0))), (q17, .inl (κ 1, 8960, .inl (fun _ => 0))), (q25, .inl (κ 0, 112, .inl (fun _ => 0))), (q34, .inl (κ 0, 560, .inl (fun _ => 0))), (q42, .inl (κ 0, 12, .inl (fun _ => 0))), (q50, .inl (κ 0, 24, .inl (fun _ => 0))), (q58, .inl (κ 0, 60, .inl (fun _ => 0))), (q66, .inl (κ 0, 120, .inl (fun _ => 0))), (q73, .inl (κ 0, 5, .inl (fun _ => 0))), (q81, .inl (κ 0, 40, .inl (fun _ => 0))), (q89, .inl (κ 0, 40, .inl (fun _ => 0)))]) := hD
  refine va_putF (D := D) (ci := 5) (v := .ref q89) (ty := .array .int) (C := RX4) (T := TX4) (N := 21) hx hb hts (by decide +kernel) tyX4 tyX4_ok nmX4 hown hK hP hD hS 0 rfl rfl 15 (by decide) (hts (.fieldLink RX4 41 "TrackDiskModel" "waitSectors" "[I") (by decide +kernel)) (fun _ h9 => h9) rfl hin rfl (by decide +kernel) rfl rfl (Nat.le_of_ble_eq_true rfl) dX4_init_91 (fun H locs hP hD hS => ?_)
  have hP : va_P D vwCl ([(h, .inr (5, [.int 0, .int 0, .int 0, .ref q8, .ref q17, .ref q25, .ref q34, .ref q42, .ref q50, .ref q58, .ref q66, .ref q73, .int 0, .int 0, .ref q81, .ref q89, .null, .int 0, .null, .int 0, .int 0])), (q8, .inl (κ 1, 1792, .inl (fun _ => 0))), (q17, .inl (κ 1, 8960, .inl (fun _ => 0))), (q25, .inl (κ 0, 112, .inl (fun _ => 0))), (q34, .inl (κ 0, 560, .inl (fun _ => 0))), (q42, .inl (κ 0, 12, .inl (fun _ => 0))), (q50, .inl (κ 0, 24, .inl (fun _ => 0))), (q58, .inl (κ 0, 60, .inl (fun _ => 0))), (q66, .inl (κ 0, 120, .inl (fun _ => 0))), (q73, .inl (κ 0, 5, .inl (fun _ => 0))), (q81, .inl (κ 0, 40, .inl (fun _ => 0))), (q89, .inl (κ 0, 40, .inl (fun _ => 0)))]) H := hP
  have hD : va_D A ([(h, .inr (5, [.int 0, .int 0, .int 0, .ref q8, .ref q17, .ref q25, .ref q34, .ref q42, .ref q50, .ref q58, .ref q66, .ref q73, .int 0, .int 0, .ref q81, .ref q89, .null, .int 0, .null, .int 0, .int 0])), (q8, .inl (κ 1, 1792, .inl (fun _ => 0))), (q17, .inl (κ 1, 8960, .inl (fun _ => 0))), (q25, .inl (κ 0, 112, .inl (fun _ => 0))), (q34, .inl (κ 0, 560, .inl (fun _ => 0))), (q42, .inl (κ 0, 12, .inl (fun _ => 0))), (q50, .inl (κ 0, 24, .inl (fun _ => 0))), (q58, .inl (κ 0, 60, .inl (fun _ => 0))), (q66, .inl (κ 0, 120, .inl (fun _ => 0))), (q73, .inl (κ 0, 5, .inl (fun _ => 0))), (q81, .inl (κ 0, 40, .inl (fun _ => 0))), (q89, .inl (κ 0, 40, .inl (fun _ => 0)))]) := hD
  refine lv_aload_n hx hb dX4_init_94 rfl (lv_at hl 0 rfl) ?_
  refine lv_bipush (v := nI 40) hx hb dX4_init_95 (by decide) ?_
  refine va_newa (atype := .int) (ty := .int) (a0 := (40, .inl (fun _ => 0))) hx hb (hts (.arrayClass .int) (by decide +kernel)) rfl hK hP hD hS hA (fun _ => rfl) (nI_pos (by omega)) (nI_clamp (by omega)) (Nat.le_trans (Nat.mul_le_mul_right _ (show 40 ≤ 40 by omega)) (by decide +kernel)) (Nat.le_of_ble_eq_true rfl) (show 11725 + 40 ≤ 11865 by omega) dX4_init_97 (fun q97 cA H hK9 hP hD hS => ?_)
  obtain rfl : cA = κ 0 := ty_same hK hK9 rfl (by decide)
  clear hK9
  refine W.widen (k := 12) (n := 11765) (by omega) (by omega) ?_
  have hP : va_P D vwCl ([(h, .inr (5, [.int 0, .int 0, .int 0, .ref q8, .ref q17, .ref q25, .ref q34, .ref q42, .ref q50, .ref q58, .ref q66, .ref q73, .int 0, .int 0, .ref q81, .ref q89, .null, .int 0, .null, .int 0, .int 0])), (q8, .inl (κ 1, 1792, .inl (fun _ => 0))), (q17, .inl (κ 1, 8960, .inl (fun _ => 0))), (q25, .inl (κ 0, 112, .inl (fun _ => 0))), (q34, .inl (κ 0, 560, .inl (fun _ => 0))), (q42, .inl (κ 0, 12, .inl (fun _ => 0))), (q50, .inl (κ 0, 24, .inl (fun _ => 0))), (q58, .inl (κ 0, 60, .inl (fun _ => 0))), (q66, .inl (κ 0, 120, .inl (fun _ => 0))), (q73, .inl (κ 0, 5, .inl (fun _ => 0))), (q81, .inl (κ 0, 40, .inl (fun _ => 0))), (q89, .inl (κ 0, 40, .inl (fun _ => 0))), (q97, .inl (κ 0, 40, .inl (fun _ => 0)))]) H := hP
  have hD : va_D A ([(h, .inr (5, [.int 0, .int 0, .int 0, .ref q8, .ref q17, .ref q25, .ref q34, .ref q42, .ref q50, .ref q58, .ref q66, .ref q73, .int 0, .int 0, .ref q81, .ref q89, .null, .int 0, .null, .int 0, .int 0])), (q8, .inl (κ 1, 1792, .inl (fun _ => 0))), (q17, .inl (κ 1, 8960, .inl (fun _ => 0))), (q25, .inl (κ 0, 112, .inl (fun _ => 0))), (q34, .inl (κ 0, 560, .inl (fun _ => 0))), (q42, .inl (κ 0, 12, .inl (fun _ => 0))), (q50, .inl (κ 0, 24, .inl (fun _ => 0))), (q58, .inl (κ 0, 60, .inl (fun _ => 0))), (q66, .inl (κ 0, 120, .inl (fun _ => 0))), (q73, .inl (κ 0, 5, .inl (fun _ => 0))), (q81, .inl (κ 0, 40, .inl (fun _ => 0))), (q89, .inl (κ 0, 40, .inl (fun _ => 0))), (q97, .inl (κ 0, 40, .inl (fun _ => 0)))]) := hD
  refine va_putF (D := D) (ci := 5) (v := .ref q97) (ty := .array .int) (C := RX4) (T := TX4) (N := 21) hx hb hts (by decide +kernel) tyX4 tyX4_ok nmX4 hown hK hP hD hS 0 rfl rfl 16 (by decide) (hts (.fieldLink RX4 44 "TrackDiskModel" "waitBytes" "[I") (by decide +kernel)) (fun _ h9 => h9) rfl hin rfl (by decide +kernel) rfl rfl (Nat.le_of_ble_eq_true rfl) dX4_init_99 (fun H locs hP hD hS => ?_)
  have hP : va_P D vwCl ([(h, .inr (5, [.int 0, .int 0, .int 0, .ref q8, .ref q17, .ref q25, .ref q34, .ref q42, .ref q50, .ref q58, .ref q66, .ref q73, .int 0, .int 0, .ref q81, .ref q89, .ref q97, .int 0, .null, .int 0, .int 0])), (q8, .inl (κ 1, 1792, .inl (fun _ => 0))), (q17, .inl (κ 1, 8960, .inl (fun _ => 0))), (q25, .inl (κ 0, 112, .inl (fun _ => 0))), (q34, .inl (κ 0, 560, .inl (fun _ => 0))), (q42, .inl (κ 0, 12, .inl (fun _ => 0))), (q50, .inl (κ 0, 24, .inl (fun _ => 0))), (q58, .inl (κ 0, 60, .inl (fun _ => 0))), (q66, .inl (κ 0, 120, .inl (fun _ => 0))), (q73, .inl (κ 0, 5, .inl (fun _ => 0))), (q81, .inl (κ 0, 40, .inl (fun _ => 0))), (q89, .inl (κ 0, 40, .inl (fun _ => 0))), (q97, .inl (κ 0, 40, .inl (fun _ => 0)))]) H := hP
  have hD : va_D A ([(h, .inr (5, [.int 0, .int 0, .int 0, .ref q8, .ref q17, .ref q25, .ref q34, .ref q42, .ref q50, .ref q58, .ref q66, .ref q73, .int 0, .int 0, .ref q81, .ref q89, .ref q97, .int 0, .null, .int 0, .int 0])), (q8, .inl (κ 1, 1792, .inl (fun _ => 0))), (q17, .inl (κ 1, 8960, .inl (fun _ => 0))), (q25, .inl (κ 0, 112, .inl (fun _ => 0))), (q34, .inl (κ 0, 560, .inl (fun _ => 0))), (q42, .inl (κ 0, 12, .inl (fun _ => 0))), (q50, .inl (κ 0, 24, .inl (fun _ => 0))), (q58, .inl (κ 0, 60, .inl (fun _ => 0))), (q66, .inl (κ 0, 120, .inl (fun _ => 0))), (q73, .inl (κ 0, 5, .inl (fun _ => 0))), (q81, .inl (κ 0, 40, .inl (fun _ => 0))), (q89, .inl (κ 0, 40, .inl (fun _ => 0))), (q97, .inl (κ 0, 40, .inl (fun _ => 0)))]) := hD
  refine lv_aload_n hx hb dX4_init_102 rfl (lv_at hl 0 rfl) ?_
  refine lv_bipush (v := nI 100) hx hb dX4_init_103 (by decide) ?_
  refine va_newa (atype := .int) (ty := .int) (a0 := (100, .inl (fun _ => 0))) hx hb (hts (.arrayClass .int) (by decide +kernel)) rfl hK hP hD hS hA (fun _ => rfl) (nI_pos (by omega)) (nI_clamp (by omega)) (Nat.le_trans (Nat.mul_le_mul_right _ (show 100 ≤ 100 by omega)) (by decide +kernel)) (Nat.le_of_ble_eq_true rfl) (show 11765 + 100 ≤ 11865 by omega) dX4_init_105 (fun q105 cA H hK9 hP hD hS => ?_)
  obtain rfl : cA = κ 0 := ty_same hK hK9 rfl (by decide)
  clear hK9
  refine W.widen (k := 13) (n := 11865) (by omega) (by omega) ?_
  have hP : va_P D vwCl ([(h, .inr (5, [.int 0, .int 0, .int 0, .ref q8, .ref q17, .ref q25, .ref q34, .ref q42, .ref q50, .ref q58, .ref q66, .ref q73, .int 0, .int 0, .ref q81, .ref q89, .ref q97, .int 0, .null, .int 0, .int 0])), (q8, .inl (κ 1, 1792, .inl (fun _ => 0))), (q17, .inl (κ 1, 8960, .inl (fun _ => 0))), (q25, .inl (κ 0, 112, .inl (fun _ => 0))), (q34, .inl (κ 0, 560, .inl (fun _ => 0))), (q42, .inl (κ 0, 12, .inl (fun _ => 0))), (q50, .inl (κ 0, 24, .inl (fun _ => 0))), (q58, .inl (κ 0, 60, .inl (fun _ => 0))), (q66, .inl (κ 0, 120, .inl (fun _ => 0))), (q73, .inl (κ 0, 5, .inl (fun _ => 0))), (q81, .inl (κ 0, 40, .inl (fun _ => 0))), (q89, .inl (κ 0, 40, .inl (fun _ => 0))), (q97, .inl (κ 0, 40, .inl (fun _ => 0))), (q105, .inl (κ 0, 100, .inl (fun _ => 0)))]) H := hP
  have hD : va_D A ([(h, .inr (5, [.int 0, .int 0, .int 0, .ref q8, .ref q17, .ref q25, .ref q34, .ref q42, .ref q50, .ref q58, .ref q66, .ref q73, .int 0, .int 0, .ref q81, .ref q89, .ref q97, .int 0, .null, .int 0, .int 0])), (q8, .inl (κ 1, 1792, .inl (fun _ => 0))), (q17, .inl (κ 1, 8960, .inl (fun _ => 0))), (q25, .inl (κ 0, 112, .inl (fun _ => 0))), (q34, .inl (κ 0, 560, .inl (fun _ => 0))), (q42, .inl (κ 0, 12, .inl (fun _ => 0))), (q50, .inl (κ 0, 24, .inl (fun _ => 0))), (q58, .inl (κ 0, 60, .inl (fun _ => 0))), (q66, .inl (κ 0, 120, .inl (fun _ => 0))), (q73, .inl (κ 0, 5, .inl (fun _ => 0))), (q81, .inl (κ 0, 40, .inl (fun _ => 0))), (q89, .inl (κ 0, 40, .inl (fun _ => 0))), (q97, .inl (κ 0, 40, .inl (fun _ => 0))), (q105, .inl (κ 0, 100, .inl (fun _ => 0)))]) := hD
  refine va_putF (D := D) (ci := 5) (v := .ref q105) (ty := .array .int) (C := RX4) (T := TX4) (N := 21) hx hb hts (by decide +kernel) tyX4 tyX4_ok nmX4 hown hK hP hD hS 0 rfl rfl 18 (by decide) (hts (.fieldLink RX4 47 "TrackDiskModel" "tape" "[I") (by decide +kernel)) (fun _ h9 => h9) rfl hin rfl (by decide +kernel) rfl rfl (Nat.le_of_ble_eq_true rfl) dX4_init_107 (fun H locs hP hD hS => ?_)
  have hP : va_P D vwCl ([(h, .inr (5, [.int 0, .int 0, .int 0, .ref q8, .ref q17, .ref q25, .ref q34, .ref q42, .ref q50, .ref q58, .ref q66, .ref q73, .int 0, .int 0, .ref q81, .ref q89, .ref q97, .int 0, .ref q105, .int 0, .int 0])), (q8, .inl (κ 1, 1792, .inl (fun _ => 0))), (q17, .inl (κ 1, 8960, .inl (fun _ => 0))), (q25, .inl (κ 0, 112, .inl (fun _ => 0))), (q34, .inl (κ 0, 560, .inl (fun _ => 0))), (q42, .inl (κ 0, 12, .inl (fun _ => 0))), (q50, .inl (κ 0, 24, .inl (fun _ => 0))), (q58, .inl (κ 0, 60, .inl (fun _ => 0))), (q66, .inl (κ 0, 120, .inl (fun _ => 0))), (q73, .inl (κ 0, 5, .inl (fun _ => 0))), (q81, .inl (κ 0, 40, .inl (fun _ => 0))), (q89, .inl (κ 0, 40, .inl (fun _ => 0))), (q97, .inl (κ 0, 40, .inl (fun _ => 0))), (q105, .inl (κ 0, 100, .inl (fun _ => 0)))]) H := hP
  have hD : va_D A ([(h, .inr (5, [.int 0, .int 0, .int 0, .ref q8, .ref q17, .ref q25, .ref q34, .ref q42, .ref q50, .ref q58, .ref q66, .ref q73, .int 0, .int 0, .ref q81, .ref q89, .ref q97, .int 0, .ref q105, .int 0, .int 0])), (q8, .inl (κ 1, 1792, .inl (fun _ => 0))), (q17, .inl (κ 1, 8960, .inl (fun _ => 0))), (q25, .inl (κ 0, 112, .inl (fun _ => 0))), (q34, .inl (κ 0, 560, .inl (fun _ => 0))), (q42, .inl (κ 0, 12, .inl (fun _ => 0))), (q50, .inl (κ 0, 24, .inl (fun _ => 0))), (q58, .inl (κ 0, 60, .inl (fun _ => 0))), (q66, .inl (κ 0, 120, .inl (fun _ => 0))), (q73, .inl (κ 0, 5, .inl (fun _ => 0))), (q81, .inl (κ 0, 40, .inl (fun _ => 0))), (q89, .inl (κ 0, 40, .inl (fun _ => 0))), (q97, .inl (κ 0, 40, .inl (fun _ => 0))), (q105, .inl (κ 0, 100, .inl (fun _ => 0)))]) := hD
  refine lv_aload_n hx hb dX4_init_110 rfl (lv_at hl 0 rfl) ?_
  refine W.cut2 (g2 := F0 m 132 ls [.int (nI T), .ref h]) ?_ (fun K132 => ?_)
  · skip
    refine va_putF (D := D) (ci := 5) (v := .int (nI T)) (ty := .int) (C := RX4) (T := TX4) (N := 21) hx hb hts (by decide +kernel) tyX4 tyX4_ok nmX4 hown hK hP hD hS 0 rfl rfl 1 (by decide) (hts (.fieldLink RX4 50 "TrackDiskModel" "tracks" "I") (by decide +kernel)) (fun _ h9 => h9) rfl hin rfl (by decide +kernel) rfl rfl (Nat.le_of_ble_eq_true rfl) dX4_init_132 (fun H locs hP hD hS => ?_)
    have hP : va_P D vwCl ([(h, .inr (5, [.int 0, .int (nI T), .int 0, .ref q8, .ref q17, .ref q25, .ref q34, .ref q42, .ref q50, .ref q58, .ref q66, .ref q73, .int 0, .int 0, .ref q81, .ref q89, .ref q97, .int 0, .ref q105, .int 0, .int 0])), (q8, .inl (κ 1, 1792, .inl (fun _ => 0))), (q17, .inl (κ 1, 8960, .inl (fun _ => 0))), (q25, .inl (κ 0, 112, .inl (fun _ => 0))), (q34, .inl (κ 0, 560, .inl (fun _ => 0))), (q42, .inl (κ 0, 12, .inl (fun _ => 0))), (q50, .inl (κ 0, 24, .inl (fun _ => 0))), (q58, .inl (κ 0, 60, .inl (fun _ => 0))), (q66, .inl (κ 0, 120, .inl (fun _ => 0))), (q73, .inl (κ 0, 5, .inl (fun _ => 0))), (q81, .inl (κ 0, 40, .inl (fun _ => 0))), (q89, .inl (κ 0, 40, .inl (fun _ => 0))), (q97, .inl (κ 0, 40, .inl (fun _ => 0))), (q105, .inl (κ 0, 100, .inl (fun _ => 0)))]) H := hP
    have hD : va_D A ([(h, .inr (5, [.int 0, .int (nI T), .int 0, .ref q8, .ref q17, .ref q25, .ref q34, .ref q42, .ref q50, .ref q58, .ref q66, .ref q73, .int 0, .int 0, .ref q81, .ref q89, .ref q97, .int 0, .ref q105, .int 0, .int 0])), (q8, .inl (κ 1, 1792, .inl (fun _ => 0))), (q17, .inl (κ 1, 8960, .inl (fun _ => 0))), (q25, .inl (κ 0, 112, .inl (fun _ => 0))), (q34, .inl (κ 0, 560, .inl (fun _ => 0))), (q42, .inl (κ 0, 12, .inl (fun _ => 0))), (q50, .inl (κ 0, 24, .inl (fun _ => 0))), (q58, .inl (κ 0, 60, .inl (fun _ => 0))), (q66, .inl (κ 0, 120, .inl (fun _ => 0))), (q73, .inl (κ 0, 5, .inl (fun _ => 0))), (q81, .inl (κ 0, 40, .inl (fun _ => 0))), (q89, .inl (κ 0, 40, .inl (fun _ => 0))), (q97, .inl (κ 0, 40, .inl (fun _ => 0))), (q105, .inl (κ 0, 100, .inl (fun _ => 0)))]) := hD
    refine lv_aload_n hx hb dX4_init_135 rfl (lv_at hl 0 rfl) ?_
    refine W.cut2 (g2 := F0 m 157 ls [.int (nI S), .ref h]) ?_ (fun K157 => ?_)
    · skip
      refine va_putF (D := D) (ci := 5) (v := .int (nI S)) (ty := .int) (C := RX4) (T := TX4) (N := 21) hx hb hts (by decide +kernel) tyX4 tyX4_ok nmX4 hown hK hP hD hS 0 rfl rfl 2 (by decide) (hts (.fieldLink RX4 54 "TrackDiskModel" "sectors" "I") (by decide +kernel)) (fun _ h9 => h9) rfl hin rfl (by decide +kernel) rfl rfl (Nat.le_of_ble_eq_true rfl) dX4_init_157 (fun H locs hP hD hS => ?_)
      have hP : va_P D vwCl ([(h, .inr (5, [.int 0, .int (nI T), .int (nI S), .ref q8, .ref q17, .ref q25, .ref q34, .ref q42, .ref q50, .ref q58, .ref q66, .ref q73, .int 0, .int 0, .ref q81, .ref q89, .ref q97, .int 0, .ref q105, .int 0, .int 0])), (q8, .inl (κ 1, 1792, .inl (fun _ => 0))), (q17, .inl (κ 1, 8960, .inl (fun _ => 0))), (q25, .inl (κ 0, 112, .inl (fun _ => 0))), (q34, .inl (κ 0, 560, .inl (fun _ => 0))), (q42, .inl (κ 0, 12, .inl (fun _ => 0))), (q50, .inl (κ 0, 24, .inl (fun _ => 0))), (q58, .inl (κ 0, 60, .inl (fun _ => 0))), (q66, .inl (κ 0, 120, .inl (fun _ => 0))), (q73, .inl (κ 0, 5, .inl (fun _ => 0))), (q81, .inl (κ 0, 40, .inl (fun _ => 0))), (q89, .inl (κ 0, 40, .inl (fun _ => 0))), (q97, .inl (κ 0, 40, .inl (fun _ => 0))), (q105, .inl (κ 0, 100, .inl (fun _ => 0)))]) H := hP
      have hD : va_D A ([(h, .inr (5, [.int 0, .int (nI T), .int (nI S), .ref q8, .ref q17, .ref q25, .ref q34, .ref q42, .ref q50, .ref q58, .ref q66, .ref q73, .int 0, .int 0, .ref q81, .ref q89, .ref q97, .int 0, .ref q105, .int 0, .int 0])), (q8, .inl (κ 1, 1792, .inl (fun _ => 0))), (q17, .inl (κ 1, 8960, .inl (fun _ => 0))), (q25, .inl (κ 0, 112, .inl (fun _ => 0))), (q34, .inl (κ 0, 560, .inl (fun _ => 0))), (q42, .inl (κ 0, 12, .inl (fun _ => 0))), (q50, .inl (κ 0, 24, .inl (fun _ => 0))), (q58, .inl (κ 0, 60, .inl (fun _ => 0))), (q66, .inl (κ 0, 120, .inl (fun _ => 0))), (q73, .inl (κ 0, 5, .inl (fun _ => 0))), (q81, .inl (κ 0, 40, .inl (fun _ => 0))), (q89, .inl (κ 0, 40, .inl (fun _ => 0))), (q97, .inl (κ 0, 40, .inl (fun _ => 0))), (q105, .inl (κ 0, 100, .inl (fun _ => 0)))]) := hD
      have hP : va_P D vwCl (moW κ T S (adF [h, q8, q17, q25, q34, q42, q50, q58, q66, q73, q81, q89, q97, q105]) (nI 0) (fun _ => 0) (fun _ => 0) (fun _ => 0) (fun _ => 0) (fun _ => 0) (fun _ => 0) (fun _ => 0) (fun _ => 0) (fun _ => 0) (nI 0) (nI 0) (fun _ => 0) (fun _ => 0) (fun _ => 0) (nI 0) (fun _ => 0) (nI 0) (nI 0)) H := hP
      have hD : va_D A (moW κ T S (adF [h, q8, q17, q25, q34, q42, q50, q58, q66, q73, q81, q89, q97, q105]) (nI 0) (fun _ => 0) (fun _ => 0) (fun _ => 0) (fun _ => 0) (fun _ => 0) (fun _ => 0) (fun _ => 0) (fun _ => 0) (fun _ => 0) (nI 0) (nI 0) (fun _ => 0) (fun _ => 0) (fun _ => 0) (nI 0) (fun _ => 0) (nI 0) (nI 0)) := hD
      -- the model stands
      refine lv_iconst (v := nI 0) hx hb dX4_init_160 (by decide) ?_
      refine lv_istore_n (lv' := [(3, .int (nI 0)), (0, .ref h), (1, .int x), (2, .int y)]) hx hb dX4_init_161 rfl hl (by decide) rfl (fun ls hl => ?_)
      refine W.loop (N := 12) (I := fun k ls H locs => lv_has ls 5 [(3, .int (nI k)), (0, .ref h), (1, .int x), (2, .int y)] ∧ va_P D vwCl (moW κ T S (adF [h, q8, q17, q25, q34, q42, q50, q58, q66, q73, q81, q89, q97, q105]) (nI 0) (fun _ => 0) (fun _ => 0) (fun _ => 0) (fun _ => 0) (seF k) (fun _ => 0) (fun _ => 0) (fun _ => 0) (fun _ => 0) (nI 0) (nI 0) (fun _ => 0) (fun _ => 0) (fun _ => 0) (nI 0) (fun _ => 0) (nI 0) (nI 0)) H ∧ va_D A (moW κ T S (adF [h, q8, q17, q25, q34, q42, q50, q58, q66, q73, q81, q89, q97, q105]) (nI 0) (fun _ => 0) (fun _ => 0) (fun _ => 0) (fun _ => 0) (seF k) (fun _ => 0) (fun _ => 0) (fun _ => 0) (fun _ => 0) (nI 0) (nI 0) (fun _ => 0) (fun _ => 0) (fun _ => 0) (nI 0) (fun _ => 0) (nI 0) (nI 0)) ∧ va_S A s.heap H locs) 0 (by omega) (fun k ls H locs hk hI ihk => ?_) (fun ls H locs hI => ?_) ⟨lv_sub hl [0, 1, 2, 3] rfl, hP, hD, hS⟩
      · skip
        clear hl hP hD hS
        obtain ⟨hl, hP, hD, hS⟩ := hI
        refine lv_iload_n hx hb dX4_init_162 rfl (lv_at hl 0 rfl) ?_
        refine lv_bipush (v := nI 12) hx hb dX4_init_163 (by decide) ?_
        refine lv_icmp_ge (tgt := 181) hx hb dX4_init_165 (by decide) (fun c_165 => ?_) (fun c_165 => ?_)
        · exact absurd c_165 (nI_ge hk (by omega))
        · skip
          refine lv_aload_n hx hb dX4_init_168 rfl (lv_at hl 1 rfl) ?_
          refine va_get (D := D) (ci := 5) (v := .ref q42) (C := RX4) (T := TX4) (N := 21) hx hb hts (by decide +kernel) hown hK hP 0 rfl rfl 7 (by decide) (hts (.fieldLink RX4 23 "TrackDiskModel" "sent" "[I") (by decide +kernel)) (fun _ h9 => h9) rfl dX4_init_169 ?_
          refine lv_iload_n hx hb dX4_init_172 rfl (lv_at hl 0 rfl) ?_
          refine lv_iconst (v := (-1)) hx hb dX4_init_173 (by decide) ?_
          refine va_iast hx hb hK hP hD hS 5 0 rfl rfl (vp_in_nI (by omega) (by omega)) dX4_init_174 (fun H locs hP hD hS => ?_)
          rw [nI_clamp (n := k) (by omega)] at hP hD
          have hP : va_P D vwCl (moW κ T S (adF [h, q8, q17, q25, q34, q42, q50, q58, q66, q73, q81, q89, q97, q105]) (nI 0) (fun _ => 0) (fun _ => 0) (fun _ => 0) (fun _ => 0) (upd (seF k) (k) ((-1))) (fun _ => 0) (fun _ => 0) (fun _ => 0) (fun _ => 0) (nI 0) (nI 0) (fun _ => 0) (fun _ => 0) (fun _ => 0) (nI 0) (fun _ => 0) (nI 0) (nI 0)) H := hP
          have hD : va_D A (moW κ T S (adF [h, q8, q17, q25, q34, q42, q50, q58, q66, q73, q81, q89, q97, q105]) (nI 0) (fun _ => 0) (fun _ => 0) (fun _ => 0) (fun _ => 0) (upd (seF k) (k) ((-1))) (fun _ => 0) (fun _ => 0) (fun _ => 0) (fun _ => 0) (nI 0) (nI 0) (fun _ => 0) (fun _ => 0) (fun _ => 0) (nI 0) (fun _ => 0) (nI 0) (nI 0)) := hD
          refine lv_iinc (v := nI (k + 1)) (lv' := [(3, .int (nI (k + 1))), (0, .ref h), (1, .int x), (2, .int y)]) hx hb dX4_init_175 hl (k := 0) rfl (by exact nI_1 _) (by decide) rfl (fun ls hl => ?_)
          refine lv_goto (tgt := 162) hx hb dX4_init_178 (by decide) ?_
          exact ihk ls H locs ⟨lv_sub hl [0, 1, 2, 3] rfl, hP, hD, hS⟩
      · skip
        clear hl hP hD hS
        obtain ⟨hl, hP, hD, hS⟩ := hI
        refine lv_iload_n hx hb dX4_init_162 rfl (lv_at hl 0 rfl) ?_
        refine lv_bipush (v := nI 12) hx hb dX4_init_163 (by decide) ?_
        refine lv_icmp_ge (tgt := 181) hx hb dX4_init_165 (by decide) (fun c_165 => ?_) (fun c_165 => ?_)
        · skip
          refine lv_iconst (v := nI 0) hx hb dX4_init_181 (by decide) ?_
          refine lv_istore_n (lv' := [(3, .int (nI 0)), (0, .ref h), (1, .int x), (2, .int y)]) hx hb dX4_init_182 rfl hl (by decide) rfl (fun ls hl => ?_)
          refine W.loop (N := (T + 2)) (I := fun t ls H locs => lv_has ls 5 [(3, .int (nI t)), (0, .ref h), (1, .int x), (2, .int y)] ∧ va_P D vwCl (moW κ T S (adF [h, q8, q17, q25, q34, q42, q50, q58, q66, q73, q81, q89, q97, q105]) (nI 0) (fun _ => 0) (fun _ => 0) (m2F (fun _ => 0) S t) (fun _ => 0) (seF 12) (fun _ => 0) (fun _ => 0) (fun _ => 0) (fun _ => 0) (nI 0) (nI 0) (fun _ => 0) (fun _ => 0) (fun _ => 0) (nI 0) (fun _ => 0) (nI 0) (nI 0)) H ∧ va_D A (moW κ T S (adF [h, q8, q17, q25, q34, q42, q50, q58, q66, q73, q81, q89, q97, q105]) (nI 0) (fun _ => 0) (fun _ => 0) (m2F (fun _ => 0) S t) (fun _ => 0) (seF 12) (fun _ => 0) (fun _ => 0) (fun _ => 0) (fun _ => 0) (nI 0) (nI 0) (fun _ => 0) (fun _ => 0) (fun _ => 0) (nI 0) (fun _ => 0) (nI 0) (nI 0)) ∧ va_S A s.heap H locs) 0 (by omega) (fun t ls H locs ht hI iht => ?_) (fun ls H locs hI => ?_) ⟨lv_sub hl [0, 1, 2, 3] rfl, hP, hD, hS⟩
          · skip
            clear hl hP hD hS
            obtain ⟨hl, hP, hD, hS⟩ := hI
            refine lv_iload_n hx hb dX4_init_183 rfl (lv_at hl 0 rfl) ?_
            refine lv_aload_n hx hb dX4_init_184 rfl (lv_at hl 1 rfl) ?_
            refine va_get (D := D) (ci := 5) (v := .int (nI T)) (C := RX4) (T := TX4) (N := 21) hx hb hts (by decide +kernel) hown hK hP 0 rfl rfl 1 (by decide) (hts (.fieldLink RX4 50 "TrackDiskModel" "tracks" "I") (by decide +kernel)) (fun _ h9 => h9) rfl dX4_init_185 ?_
            refine lv_iconst (v := nI 2) hx hb dX4_init_188 (by decide) ?_
            refine lv_iadd hx hb dX4_init_189 ?_
            refine tp_i (y := nI (T + 2)) (by exact nI_add _ _) ?_
            refine lv_icmp_ge (tgt := 240) hx hb dX4_init_190 (by decide) (fun c_190 => ?_) (fun c_190 => ?_)
            · exact absurd c_190 (nI_ge ht (by omega))
            · skip
              refine lv_iconst (v := nI 0) hx hb dX4_init_193 (by decide) ?_
              refine lv_istore (lv' := [(4, .int (nI 0)), (3, .int (nI t)), (0, .ref h), (1, .int x), (2, .int y)]) hx hb dX4_init_194 hl (by decide) rfl (fun ls hl => ?_)
              refine W.loop (N := S) (I := fun k ls H locs => lv_has ls 5 [(4, .int (nI k)), (3, .int (nI t)), (0, .ref h), (1, .int x), (2, .int y)] ∧ va_P D vwCl (moW κ T S (adF [h, q8, q17, q25, q34, q42, q50, q58, q66, q73, q81, q89, q97, q105]) (nI 0) (fun _ => 0) (fun _ => 0) (msF (fun _ => 0) (m2F (fun _ => 0) S t) t k) (fun _ => 0) (seF 12) (fun _ => 0) (fun _ => 0) (fun _ => 0) (fun _ => 0) (nI 0) (nI 0) (fun _ => 0) (fun _ => 0) (fun _ => 0) (nI 0) (fun _ => 0) (nI 0) (nI 0)) H ∧ va_D A (moW κ T S (adF [h, q8, q17, q25, q34, q42, q50, q58, q66, q73, q81, q89, q97, q105]) (nI 0) (fun _ => 0) (fun _ => 0) (msF (fun _ => 0) (m2F (fun _ => 0) S t) t k) (fun _ => 0) (seF 12) (fun _ => 0) (fun _ => 0) (fun _ => 0) (fun _ => 0) (nI 0) (nI 0) (fun _ => 0) (fun _ => 0) (fun _ => 0) (nI 0) (fun _ => 0) (nI 0) (nI 0)) ∧ va_S A s.heap H locs) 0 (by omega) (fun k ls H locs hk hI ihk => ?_) (fun ls H locs hI => ?_) ⟨lv_sub hl [0, 1, 2, 3, 4] rfl, hP, hD, hS⟩
              · skip
                clear hl hP hD hS
                obtain ⟨hl, hP, hD, hS⟩ := hI
                refine lv_iload hx hb dX4_init_196 (lv_at hl 0 rfl) ?_
                refine lv_aload_n hx hb dX4_init_198 rfl (lv_at hl 2 rfl) ?_
                refine va_get (D := D) (ci := 5) (v := .int (nI S)) (C := RX4) (T := TX4) (N := 21) hx hb hts (by decide +kernel) hown hK hP 0 rfl rfl 2 (by decide) (hts (.fieldLink RX4 54 "TrackDiskModel" "sectors" "I") (by decide +kernel)) (fun _ h9 => h9) rfl dX4_init_199 ?_
                refine lv_icmp_ge (tgt := 234) hx hb dX4_init_202 (by decide) (fun c_202 => ?_) (fun c_202 => ?_)
                · exact absurd c_202 (nI_ge hk (by omega))
                · skip
                  refine lv_aload_n hx hb dX4_init_205 rfl (lv_at hl 2 rfl) ?_
                  refine va_get (D := D) (ci := 5) (v := .ref q25) (C := RX4) (T := TX4) (N := 21) hx hb hts (by decide +kernel) hown hK hP 0 rfl rfl 5 (by decide) (hts (.fieldLink RX4 16 "TrackDiskModel" "sums" "[I") (by decide +kernel)) (fun _ h9 => h9) rfl dX4_init_206 ?_
                  refine lv_bipush (v := nI 8) hx hb dX4_init_209 (by decide) ?_
                  refine lv_iload_n hx hb dX4_init_211 rfl (lv_at hl 1 rfl) ?_
                  refine lv_imul hx hb dX4_init_212 ?_
                  refine tp_i (y := nI (8 * t)) (by exact pk_mul _ _) ?_
                  refine lv_iload hx hb dX4_init_213 (lv_at hl 0 rfl) ?_
                  refine lv_iadd hx hb dX4_init_215 ?_
                  refine tp_i (y := nI ((8 * t) + k)) (by exact nI_add _ _) ?_
                  refine lv_aload_n hx hb dX4_init_216 rfl (lv_at hl 2 rfl) ?_
                  refine lv_bipush (v := nI 8) hx hb dX4_init_217 (by decide) ?_
                  refine lv_iload_n hx hb dX4_init_219 rfl (lv_at hl 1 rfl) ?_
                  refine lv_imul hx hb dX4_init_220 ?_
                  refine tp_i (y := nI (8 * t)) (by exact pk_mul _ _) ?_
                  refine lv_iload hx hb dX4_init_221 (lv_at hl 0 rfl) ?_
                  refine lv_iadd hx hb dX4_init_223 ?_
                  refine tp_i (y := nI ((8 * t) + k)) (by exact nI_add _ _) ?_
                  have hPc := hP.sub (ws' := moW κ T S (adF [h, q8, q17, q25, q34, q42, q50, q58, q66, q73, q81, q89, q97, q105]) (nI 0) (fun _ => 0) (fun _ => 0) (msF (fun _ => 0) (m2F (fun _ => 0) S t) t k) (fun _ => 0) (seF 12) (fun _ => 0) (fun _ => 0) (fun _ => 0) (fun _ => 0) (nI 0) (nI 0) (fun _ => 0) (fun _ => 0) (fun _ => 0) (nI 0) (fun _ => 0) (nI 0) (nI 0)) [0, 1, 2, 3, 4, 5, 6, 7, 8, 9, 10, 11, 12, 13] rfl
                  refine pu_call (va_runV (As := [.int (nI ((8 * t) + k))]) (rest := [.int (nI ((8 * t) + k)), .ref q25]) ⟨hx, hb, hml, hown, hts⟩ (m_sumOf l D κ T S (adF [h, q8, q17, q25, q34, q42, q50, q58, q66, q73, q81, q89, q97, q105]) (nI 0) (fun _ => 0) (fun _ => 0) (msF (fun _ => 0) (m2F (fun _ => 0) S t) t k) (fun _ => 0) (seF 12) (fun _ => 0) (fun _ => 0) (fun _ => 0) (fun _ => 0) (nI 0) (nI 0) (fun _ => 0) (fun _ => 0) (fun _ => 0) (nI 0) (fun _ => 0) (nI 0) (nI 0) (8 * t + k) (by omega)) (cwV 1 hts gX4_init_X4_sumOf rfl rfl rfl (by decide +kernel) ⟨Nat.le_of_ble_eq_true rfl, Nat.le_of_ble_eq_true rfl⟩) ⟨pu_blind, va_recv hK hPc (ci := 5) (q0 := 0) rfl rfl, pu_pre hK hPc⟩ rfl rfl hl.1 rfl (lv_room (Nat.le_of_ble_eq_true rfl)) dX4_init_224 ⟨Nat.le_of_ble_eq_true rfl, Nat.le_of_ble_eq_true rfl⟩) ?_
                  refine va_iast hx hb hK hP hD hS 3 0 rfl rfl (vp_in_nI (by omega) (by omega)) dX4_init_227 (fun H locs hP hD hS => ?_)
                  rw [nI_clamp (n := (8 * t) + k) (by omega)] at hP hD
                  have hP : va_P D vwCl (moW κ T S (adF [h, q8, q17, q25, q34, q42, q50, q58, q66, q73, q81, q89, q97, q105]) (nI 0) (fun _ => 0) (fun _ => 0) (upd (msF (fun _ => 0) (m2F (fun _ => 0) S t) t k) ((8 * t) + k) (msA (fun _ => 0) (8 * t + k))) (fun _ => 0) (seF 12) (fun _ => 0) (fun _ => 0) (fun _ => 0) (fun _ => 0) (nI 0) (nI 0) (fun _ => 0) (fun _ => 0) (fun _ => 0) (nI 0) (fun _ => 0) (nI 0) (nI 0)) H := hP
                  have hD : va_D A (moW κ T S (adF [h, q8, q17, q25, q34, q42, q50, q58, q66, q73, q81, q89, q97, q105]) (nI 0) (fun _ => 0) (fun _ => 0) (upd (msF (fun _ => 0) (m2F (fun _ => 0) S t) t k) ((8 * t) + k) (msA (fun _ => 0) (8 * t + k))) (fun _ => 0) (seF 12) (fun _ => 0) (fun _ => 0) (fun _ => 0) (fun _ => 0) (nI 0) (nI 0) (fun _ => 0) (fun _ => 0) (fun _ => 0) (nI 0) (fun _ => 0) (nI 0) (nI 0)) := hD
                  refine lv_iinc (v := nI (k + 1)) (lv' := [(4, .int (nI (k + 1))), (3, .int (nI t)), (0, .ref h), (1, .int x), (2, .int y)]) hx hb dX4_init_228 hl (k := 0) rfl (by exact nI_1 _) (by decide) rfl (fun ls hl => ?_)
                  refine lv_goto (tgt := 196) hx hb dX4_init_231 (by decide) ?_
                  exact ihk ls H locs ⟨lv_sub hl [0, 1, 2, 3, 4] rfl, hP, hD, hS⟩
              · skip
                clear hl hP hD hS
                obtain ⟨hl, hP, hD, hS⟩ := hI
                refine lv_iload hx hb dX4_init_196 (lv_at hl 0 rfl) ?_
                refine lv_aload_n hx hb dX4_init_198 rfl (lv_at hl 2 rfl) ?_
                refine va_get (D := D) (ci := 5) (v := .int (nI S)) (C := RX4) (T := TX4) (N := 21) hx hb hts (by decide +kernel) hown hK hP 0 rfl rfl 2 (by decide) (hts (.fieldLink RX4 54 "TrackDiskModel" "sectors" "I") (by decide +kernel)) (fun _ h9 => h9) rfl dX4_init_199 ?_
                refine lv_icmp_ge (tgt := 234) hx hb dX4_init_202 (by decide) (fun c_202 => ?_) (fun c_202 => ?_)
                · skip
                  refine lv_iinc (v := nI (t + 1)) (lv' := [(3, .int (nI (t + 1))), (4, .int (nI S)), (0, .ref h), (1, .int x), (2, .int y)]) hx hb dX4_init_234 hl (k := 1) rfl (by exact nI_1 _) (by decide) rfl (fun ls hl => ?_)
                  refine lv_goto (tgt := 183) hx hb dX4_init_237 (by decide) ?_
                  exact iht ls H locs ⟨lv_sub hl [0, 2, 3, 4] rfl, hP, hD, hS⟩
                · exact absurd (nI_le (Nat.le_refl _) (by omega)) c_202
          · skip
            clear hl hP hD hS
            obtain ⟨hl, hP, hD, hS⟩ := hI
            refine lv_iload_n hx hb dX4_init_183 rfl (lv_at hl 0 rfl) ?_
            refine lv_aload_n hx hb dX4_init_184 rfl (lv_at hl 1 rfl) ?_
            refine va_get (D := D) (ci := 5) (v := .int (nI T)) (C := RX4) (T := TX4) (N := 21) hx hb hts (by decide +kernel) hown hK hP 0 rfl rfl 1 (by decide) (hts (.fieldLink RX4 50 "TrackDiskModel" "tracks" "I") (by decide +kernel)) (fun _ h9 => h9) rfl dX4_init_185 ?_
            refine lv_iconst (v := nI 2) hx hb dX4_init_188 (by decide) ?_
            refine lv_iadd hx hb dX4_init_189 ?_
            refine tp_i (y := nI (T + 2)) (by exact nI_add _ _) ?_
            refine lv_icmp_ge (tgt := 240) hx hb dX4_init_190 (by decide) (fun c_190 => ?_) (fun c_190 => ?_)
            · skip
              have hP9 : va_P D vwCl (moW κ T S (adF [h, q8, q17, q25, q34, q42, q50, q58, q66, q73, q81, q89, q97, q105]) (nI 0) (fun _ => 0) (fun _ => 0) (m2F (fun _ => 0) S (T + 2)) (fun _ => 0) (seF 12) (fun _ => 0) (fun _ => 0) (fun _ => 0) (fun _ => 0) (nI 0) (nI 0) (fun _ => 0) (fun _ => 0) (fun _ => 0) (nI 0) (fun _ => 0) (nI 0) (nI 0)) H := hP
              have hD9 : va_D A (moW κ T S (adF [h, q8, q17, q25, q34, q42, q50, q58, q66, q73, q81, q89, q97, q105]) (nI 0) (fun _ => 0) (fun _ => 0) (m2F (fun _ => 0) S (T + 2)) (fun _ => 0) (seF 12) (fun _ => 0) (fun _ => 0) (fun _ => 0) (fun _ => 0) (nI 0) (nI 0) (fun _ => 0) (fun _ => 0) (fun _ => 0) (nI 0) (fun _ => 0) (nI 0) (nI 0)) := hD
              refine W.widen (k := 13) (n := 11865) (by omega) (by omega) ?_
              exact W.vret hx hb hr (fun t ht _ => ⟨⟨(adF [h, q8, q17, q25, q34, q42, q50, q58, q66, q73, q81, q89, q97, q105]), rfl, rfl, by rw [ht]; exact hP9, hD9⟩, hS.F ht⟩) hS.2.2 dX4_init_240 hlocks
            · exact absurd (nI_le (Nat.le_refl _) (by omega)) c_190
        · exact absurd (nI_le (Nat.le_refl _) (by omega)) c_165
    · skip
      refine lv_iload_n hx hb dX4_init_136 rfl (lv_at hl 2 rfl) ?_
      refine lv_iconst (v := nI 1) hx hb dX4_init_137 (by decide) ?_
      refine lv_icmp_ge (tgt := 145) hx hb dX4_init_138 (by decide) (fun c_138 => ?_) (fun c_138 => ?_)
      · skip
        refine lv_iload_n hx hb dX4_init_145 rfl (lv_at hl 2 rfl) ?_
        refine lv_bipush (v := nI 8) hx hb dX4_init_146 (by decide) ?_
        refine lv_icmp_le (tgt := 156) hx hb dX4_init_148 (by decide) (fun c_148 => ?_) (fun c_148 => ?_)
        · skip
          refine lv_iload_n hx hb dX4_init_156 rfl (lv_at hl 2 rfl) ?_
          refine tp_i (y := nI S) (by rw [← hyS]; first | exact (hd_lo (Int32.not_le.mp c_138) (by decide)).symm | exact (hd_hi (Int32.not_le.mp c_148) (by decide)).symm | exact (hd_in c_138 c_148).symm) ?_
          exact K157
        · skip
          refine lv_bipush (v := nI 8) hx hb dX4_init_151 (by decide) ?_
          refine lv_goto (tgt := 157) hx hb dX4_init_153 (by decide) ?_
          refine tp_i (y := nI S) (by rw [← hyS]; first | exact (hd_lo (Int32.not_le.mp c_138) (by decide)).symm | exact (hd_hi (Int32.not_le.mp c_148) (by decide)).symm | exact (hd_in c_138 c_148).symm) ?_
          exact K157
      · skip
        refine lv_iconst (v := nI 1) hx hb dX4_init_141 (by decide) ?_
        refine lv_goto (tgt := 157) hx hb dX4_init_142 (by decide) ?_
        refine tp_i (y := nI S) (by rw [← hyS]; first | exact (hd_lo (Int32.not_le.mp c_138) (by decide)).symm | exact (hd_hi (Int32.not_le.mp c_148) (by decide)).symm | exact (hd_in c_138 c_148).symm) ?_
        exact K157
  · skip
    refine lv_iload_n hx hb dX4_init_111 rfl (lv_at hl 1 rfl) ?_
    refine lv_iconst (v := nI 1) hx hb dX4_init_112 (by decide) ?_
    refine lv_icmp_ge (tgt := 120) hx hb dX4_init_113 (by decide) (fun c_113 => ?_) (fun c_113 => ?_)
    · skip
      refine lv_iload_n hx hb dX4_init_120 rfl (lv_at hl 1 rfl) ?_
      refine lv_bipush (v := nI 12) hx hb dX4_init_121 (by decide) ?_
      refine lv_icmp_le (tgt := 131) hx hb dX4_init_123 (by decide) (fun c_123 => ?_) (fun c_123 => ?_)
      · skip
        refine lv_iload_n hx hb dX4_init_131 rfl (lv_at hl 1 rfl) ?_
        refine tp_i (y := nI T) (by rw [← hxT]; first | exact (hd_lo (Int32.not_le.mp c_113) (by decide)).symm | exact (hd_hi (Int32.not_le.mp c_123) (by decide)).symm | exact (hd_in c_113 c_123).symm) ?_
        exact K132
      · skip
        refine lv_bipush (v := nI 12) hx hb dX4_init_126 (by decide) ?_
        refine lv_goto (tgt := 132) hx hb dX4_init_128 (by decide) ?_
        refine tp_i (y := nI T) (by rw [← hxT]; first | exact (hd_lo (Int32.not_le.mp c_113) (by decide)).symm | exact (hd_hi (Int32.not_le.mp c_123) (by decide)).symm | exact (hd_in c_113 c_123).symm) ?_
        exact K132
    · skip
      refine lv_iconst (v := nI 1) hx hb dX4_init_116 (by decide) ?_
      refine lv_goto (tgt := 132) hx hb dX4_init_117 (by decide) ?_
      refine tp_i (y := nI T) (by rw [← hxT]; first | exact (hd_lo (Int32.not_le.mp c_113) (by decide)).symm | exact (hd_hi (Int32.not_le.mp c_123) (by decide)).symm | exact (hd_in c_113 c_123).symm) ?_
      exact K132

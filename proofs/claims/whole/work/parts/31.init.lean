/-! Constructors -/
def plF : Nat → Nat → Int32
  | 0 => fun _ => 0
  | n + 1 => upd (plF n) n (nI n)
def s2F (bs : Nat → Int32) (S : Nat) : Nat → Nat → Int32
  | 0 => fun _ => 0
  | n + 1 => ssF bs (s2F bs S n) S n S
def m2F (bs : Nat → Int32) (S : Nat) : Nat → Nat → Int32
  | 0 => fun _ => 0
  | n + 1 => msF bs (m2F bs S n) n S
def seF : Nat → Nat → Int32
  | 0 => fun _ => 0
  | n + 1 => upd (seF n) n (-1)

set_option maxHeartbeats 4000000 in
set_option maxRecDepth 100000 in
/-- Waiting() -/
theorem c_winit (l : Launch) (D : va_G) (κ : Nat → ClassId) (sz h : Nat)  : Met l yX2_init wsX2_init ({ frames := 1, cells := 3, slots := 120, locals := 12 }) (va_Pc [.ref h] (mu_B D κ ([(h, .inr (3, [.null, .null, .null, .int 0]))]) sz)) (al_Q (X := Nat → Nat) D none (fun ad => ad 0 = h) (fun ad => waW κ ad (fun _ => 0) (fun _ => 0) (fun _ => 0) (nI 0)) (va_A ([(h, .inr (3, [.null, .null, .null, .int 0]))]) sz)) 3 120 (va_A ([(h, .inr (3, [.null, .null, .null, .int 0]))]) sz) := by
  refine Met.ofW (cc := cX2_init) (maxL := 1) (ret := none) (by decide) rfl ?_
  intro p e s m args below meth c s₁ B hml hv
  obtain ⟨rfl, hsz, hP, hK, hD0⟩ := hv
  have hx := B.exec
  have hb := B.bytes
  have hr := B.returns
  have hts := atoms_spec (ws := wsX2_init) B.pre
  have hown : s.vm.findClass RX2 = some m.cls := findClass_of_methodNamed B.named
  have hlocks := B.notSynchronized
  have hin : meth.name = "<init>" := (name_of_methodNamed B.named B.method).1
  subst hsz
  have hD := hD0.self (sz := s.heap.size)
  generalize hAe : va_A ([(h, .inr (3, [.null, .null, .null, .int 0]))]) s.heap.size = A at hD ⊢
  have hA : ∀ q : Nat, s.heap.size ≤ q → A q := fun q h => by rw [← hAe]; exact Or.inr h
  refine W.gen (P := fun H locs => va_P D vwCl ([(h, .inr (3, [.null, .null, .null, .int 0]))]) H ∧ va_S A s.heap H locs) (fun H locs h => ?_) ⟨hP, va_S.rf⟩
  clear hP
  obtain ⟨hP, hS⟩ := h
  have hl := lv_entry ([.ref h]) (n := 1) (Nat.le_of_ble_eq_true rfl)
  rw [lg_entry_eq]
  generalize (lg_sl ([.ref h]) ++ List.replicate (1 - (lg_sl ([.ref h])).length) Slot.unset).toArray = ls at hl ⊢
  have hl : lv_has ls 1 [(0, .ref h)] := hl
  refine lv_aload_n hx hb dX2_init_0 rfl (lv_at hl 0 rfl) ?_
  refine W.objInit hx hb hown (hts (.methodLink RX2 3 objectInit) (by decide +kernel)) (hts (.instanceMethod objectInit) (by decide +kernel)) (hts (.code objectInit ⟨#[0xb1]⟩ 1 none) (List.mem_of_getElem? (i := 3) (by rfl))) rfl (by rw [hml]; exact hl.1) rfl dX2_init_1 (Nat.le_of_ble_eq_true rfl) (Nat.le_of_ble_eq_true rfl) ?_
  refine W.eq (g2 := F0 m 4 ls []) rfl ?_
  refine lv_aload_n hx hb dX2_init_4 rfl (lv_at hl 0 rfl) ?_
  refine lv_bipush (v := nI 40) hx hb dX2_init_5 (by decide) ?_
  refine va_newa (atype := .int) (ty := .int) (a0 := (40, .inl (fun _ => 0))) hx hb (hts (.arrayClass .int) (by decide +kernel)) rfl hK hP hD hS hA (fun _ => rfl) (nI_pos (by omega)) (nI_clamp (by omega)) (Nat.le_trans (Nat.mul_le_mul_right _ (show 40 ≤ 40 by omega)) (by decide +kernel)) (Nat.le_of_ble_eq_true rfl) (show 0 + 40 ≤ 120 by omega) dX2_init_7 (fun q7 cA H hK9 hP hD hS => ?_)
  obtain rfl : cA = κ 0 := ty_same hK hK9 rfl (by decide)
  clear hK9
  refine W.widen (k := 1) (n := 40) (by omega) (by omega) ?_
  have hP : va_P D vwCl ([(h, .inr (3, [.null, .null, .null, .int 0])), (q7, .inl (κ 0, 40, .inl (fun _ => 0)))]) H := hP
  have hD : va_D A ([(h, .inr (3, [.null, .null, .null, .int 0])), (q7, .inl (κ 0, 40, .inl (fun _ => 0)))]) := hD
  refine va_putF (D := D) (ci := 3) (v := .ref q7) (ty := .array .int) (C := RX2) (T := TX2) (N := 4) hx hb hts (by decide +kernel) tyX2 tyX2_ok nmX2 hown hK hP hD hS 0 rfl rfl 0 (by decide) (hts (.fieldLink RX2 9 "TrackDisk$Waiting" "track" "[I") (by decide +kernel)) (fun _ h9 => h9) rfl hin rfl (by decide +kernel) rfl rfl (Nat.le_of_ble_eq_true rfl) dX2_init_9 (fun H locs hP hD hS => ?_)
  have hP : va_P D vwCl ([(h, .inr (3, [.ref q7, .null, .null, .int 0])), (q7, .inl (κ 0, 40, .inl (fun _ => 0)))]) H := hP
  have hD : va_D A ([(h, .inr (3, [.ref q7, .null, .null, .int 0])), (q7, .inl (κ 0, 40, .inl (fun _ => 0)))]) := hD
  refine lv_aload_n hx hb dX2_init_12 rfl (lv_at hl 0 rfl) ?_
  refine lv_bipush (v := nI 40) hx hb dX2_init_13 (by decide) ?_
  refine va_newa (atype := .int) (ty := .int) (a0 := (40, .inl (fun _ => 0))) hx hb (hts (.arrayClass .int) (by decide +kernel)) rfl hK hP hD hS hA (fun _ => rfl) (nI_pos (by omega)) (nI_clamp (by omega)) (Nat.le_trans (Nat.mul_le_mul_right _ (show 40 ≤ 40 by omega)) (by decide +kernel)) (Nat.le_of_ble_eq_true rfl) (show 40 + 40 ≤ 120 by omega) dX2_init_15 (fun q15 cA H hK9 hP hD hS => ?_)
  obtain rfl : cA = κ 0 := ty_same hK hK9 rfl (by decide)
  clear hK9
  refine W.widen (k := 2) (n := 80) (by omega) (by omega) ?_
  have hP : va_P D vwCl ([(h, .inr (3, [.ref q7, .null, .null, .int 0])), (q7, .inl (κ 0, 40, .inl (fun _ => 0))), (q15, .inl (κ 0, 40, .inl (fun _ => 0)))]) H := hP
  have hD : va_D A ([(h, .inr (3, [.ref q7, .null, .null, .int 0])), (q7, .inl (κ 0, 40, .inl (fun _ => 0))), (q15, .inl (κ 0, 40, .inl (fun _ => 0)))]) := hD
  refine va_putF (D := D) (ci := 3) (v := .ref q15) (ty := .array .int) (C := RX2) (T := TX2) (N := 4) hx hb hts (by decide +kernel) tyX2 tyX2_ok nmX2 hown hK hP hD hS 0 rfl rfl 1 (by decide) (hts (.fieldLink RX2 15 "TrackDisk$Waiting" "sector" "[I") (by decide +kernel)) (fun _ h9 => h9) rfl hin rfl (by decide +kernel) rfl rfl (Nat.le_of_ble_eq_true rfl) dX2_init_17 (fun H locs hP hD hS => ?_)
  have hP : va_P D vwCl ([(h, .inr (3, [.ref q7, .ref q15, .null, .int 0])), (q7, .inl (κ 0, 40, .inl (fun _ => 0))), (q15, .inl (κ 0, 40, .inl (fun _ => 0)))]) H := hP
  have hD : va_D A ([(h, .inr (3, [.ref q7, .ref q15, .null, .int 0])), (q7, .inl (κ 0, 40, .inl (fun _ => 0))), (q15, .inl (κ 0, 40, .inl (fun _ => 0)))]) := hD
  refine lv_aload_n hx hb dX2_init_20 rfl (lv_at hl 0 rfl) ?_
  refine lv_bipush (v := nI 40) hx hb dX2_init_21 (by decide) ?_
  refine va_newa (atype := .byte) (ty := .byte) (a0 := (40, .inl (fun _ => 0))) hx hb (hts (.arrayClass .byte) (by decide +kernel)) rfl hK hP hD hS hA (fun _ => rfl) (nI_pos (by omega)) (nI_clamp (by omega)) (Nat.le_trans (Nat.mul_le_mul_right _ (show 40 ≤ 40 by omega)) (by decide +kernel)) (Nat.le_of_ble_eq_true rfl) (show 80 + 40 ≤ 120 by omega) dX2_init_23 (fun q23 cA H hK9 hP hD hS => ?_)
  obtain rfl : cA = κ 1 := ty_same hK hK9 rfl (by decide)
  clear hK9
  refine W.widen (k := 3) (n := 120) (by omega) (by omega) ?_
  have hP : va_P D vwCl ([(h, .inr (3, [.ref q7, .ref q15, .null, .int 0])), (q7, .inl (κ 0, 40, .inl (fun _ => 0))), (q15, .inl (κ 0, 40, .inl (fun _ => 0))), (q23, .inl (κ 1, 40, .inl (fun _ => 0)))]) H := hP
  have hD : va_D A ([(h, .inr (3, [.ref q7, .ref q15, .null, .int 0])), (q7, .inl (κ 0, 40, .inl (fun _ => 0))), (q15, .inl (κ 0, 40, .inl (fun _ => 0))), (q23, .inl (κ 1, 40, .inl (fun _ => 0)))]) := hD
  refine va_putF (D := D) (ci := 3) (v := .ref q23) (ty := .array .byte) (C := RX2) (T := TX2) (N := 4) hx hb hts (by decide +kernel) tyX2 tyX2_ok nmX2 hown hK hP hD hS 0 rfl rfl 2 (by decide) (hts (.fieldLink RX2 18 "TrackDisk$Waiting" "first" "[B") (by decide +kernel)) (fun _ h9 => h9) rfl hin rfl (by decide +kernel) rfl rfl (Nat.le_of_ble_eq_true rfl) dX2_init_25 (fun H locs hP hD hS => ?_)
  have hP : va_P D vwCl ([(h, .inr (3, [.ref q7, .ref q15, .ref q23, .int 0])), (q7, .inl (κ 0, 40, .inl (fun _ => 0))), (q15, .inl (κ 0, 40, .inl (fun _ => 0))), (q23, .inl (κ 1, 40, .inl (fun _ => 0)))]) H := hP
  have hD : va_D A ([(h, .inr (3, [.ref q7, .ref q15, .ref q23, .int 0])), (q7, .inl (κ 0, 40, .inl (fun _ => 0))), (q15, .inl (κ 0, 40, .inl (fun _ => 0))), (q23, .inl (κ 1, 40, .inl (fun _ => 0)))]) := hD
  refine lv_aload_n hx hb dX2_init_28 rfl (lv_at hl 0 rfl) ?_
  refine lv_iconst (v := nI 0) hx hb dX2_init_29 (by decide) ?_
  refine va_put (D := D) (ci := 3) (v := .int (nI 0)) (ty := .int) (C := RX2) (T := TX2) (N := 4) hx hb hts (by decide +kernel) tyX2 tyX2_ok nmX2 hown hK hP hD hS 0 rfl rfl 3 (by decide) (hts (.fieldLink RX2 22 "TrackDisk$Waiting" "size" "I") (by decide +kernel)) (fun _ h9 => h9) rfl (by decide +kernel) rfl rfl (Nat.le_of_ble_eq_true rfl) dX2_init_30 (fun H locs hP hD hS => ?_)
  have hP : va_P D vwCl ([(h, .inr (3, [.ref q7, .ref q15, .ref q23, .int (nI 0)])), (q7, .inl (κ 0, 40, .inl (fun _ => 0))), (q15, .inl (κ 0, 40, .inl (fun _ => 0))), (q23, .inl (κ 1, 40, .inl (fun _ => 0)))]) H := hP
  have hD : va_D A ([(h, .inr (3, [.ref q7, .ref q15, .ref q23, .int (nI 0)])), (q7, .inl (κ 0, 40, .inl (fun _ => 0))), (q15, .inl (κ 0, 40, .inl (fun _ => 0))), (q23, .inl (κ 1, 40, .inl (fun _ => 0)))]) := hD
  have hP9 : va_P D vwCl (waW κ (adF [h, q7, q15, q23]) (fun _ => 0) (fun _ => 0) (fun _ => 0) (nI 0)) H := hP
  have hD9 : va_D A (waW κ (adF [h, q7, q15, q23]) (fun _ => 0) (fun _ => 0) (fun _ => 0) (nI 0)) := hD
  refine W.widen (k := 3) (n := 120) (by omega) (by omega) ?_
  exact W.vret hx hb hr (fun t ht _ => ⟨⟨(adF [h, q7, q15, q23]), rfl, rfl, by rw [ht]; exact hP9, hD9⟩, hS.F ht⟩) hS.2.2 dX2_init_33 hlocks

set_option maxHeartbeats 4000000 in
set_option maxRecDepth 100000 in
/-- Reel() -/
theorem c_rinit (l : Launch) (D : va_G) (κ : Nat → ClassId) (sz h : Nat)  : Met l yX0_init wsX0_init ({ frames := 1, cells := 1, slots := 100, locals := 12 }) (va_Pc [.ref h] (mu_B D κ ([(h, .inr (1, [.null, .int 0, .int 0]))]) sz)) (al_Q (X := Nat → Nat) D none (fun ad => ad 0 = h) (fun ad => reW κ ad (fun _ => 0) (nI 0) (nI 0)) (va_A ([(h, .inr (1, [.null, .int 0, .int 0]))]) sz)) 1 100 (va_A ([(h, .inr (1, [.null, .int 0, .int 0]))]) sz) := by
  refine Met.ofW (cc := cX0_init) (maxL := 1) (ret := none) (by decide) rfl ?_
  intro p e s m args below meth c s₁ B hml hv
  obtain ⟨rfl, hsz, hP, hK, hD0⟩ := hv
  have hx := B.exec
  have hb := B.bytes
  have hr := B.returns
  have hts := atoms_spec (ws := wsX0_init) B.pre
  have hown : s.vm.findClass RX0 = some m.cls := findClass_of_methodNamed B.named
  have hlocks := B.notSynchronized
  have hin : meth.name = "<init>" := (name_of_methodNamed B.named B.method).1
  subst hsz
  have hD := hD0.self (sz := s.heap.size)
  generalize hAe : va_A ([(h, .inr (1, [.null, .int 0, .int 0]))]) s.heap.size = A at hD ⊢
  have hA : ∀ q : Nat, s.heap.size ≤ q → A q := fun q h => by rw [← hAe]; exact Or.inr h
  refine W.gen (P := fun H locs => va_P D vwCl ([(h, .inr (1, [.null, .int 0, .int 0]))]) H ∧ va_S A s.heap H locs) (fun H locs h => ?_) ⟨hP, va_S.rf⟩
  clear hP
  obtain ⟨hP, hS⟩ := h
  have hl := lv_entry ([.ref h]) (n := 1) (Nat.le_of_ble_eq_true rfl)
  rw [lg_entry_eq]
  generalize (lg_sl ([.ref h]) ++ List.replicate (1 - (lg_sl ([.ref h])).length) Slot.unset).toArray = ls at hl ⊢
  have hl : lv_has ls 1 [(0, .ref h)] := hl
  refine lv_aload_n hx hb dX0_init_0 rfl (lv_at hl 0 rfl) ?_
  refine W.objInit hx hb hown (hts (.methodLink RX0 3 objectInit) (by decide +kernel)) (hts (.instanceMethod objectInit) (by decide +kernel)) (hts (.code objectInit ⟨#[0xb1]⟩ 1 none) (List.mem_of_getElem? (i := 3) (by rfl))) rfl (by rw [hml]; exact hl.1) rfl dX0_init_1 (Nat.le_of_ble_eq_true rfl) (Nat.le_of_ble_eq_true rfl) ?_
  refine W.eq (g2 := F0 m 4 ls []) rfl ?_
  refine lv_aload_n hx hb dX0_init_4 rfl (lv_at hl 0 rfl) ?_
  refine lv_bipush (v := nI 100) hx hb dX0_init_5 (by decide) ?_
  refine va_newa (atype := .int) (ty := .int) (a0 := (100, .inl (fun _ => 0))) hx hb (hts (.arrayClass .int) (by decide +kernel)) rfl hK hP hD hS hA (fun _ => rfl) (nI_pos (by omega)) (nI_clamp (by omega)) (Nat.le_trans (Nat.mul_le_mul_right _ (show 100 ≤ 100 by omega)) (by decide +kernel)) (Nat.le_of_ble_eq_true rfl) (show 0 + 100 ≤ 100 by omega) dX0_init_7 (fun q7 cA H hK9 hP hD hS => ?_)
  obtain rfl : cA = κ 0 := ty_same hK hK9 rfl (by decide)
  clear hK9
  refine W.widen (k := 1) (n := 100) (by omega) (by omega) ?_
  have hP : va_P D vwCl ([(h, .inr (1, [.null, .int 0, .int 0])), (q7, .inl (κ 0, 100, .inl (fun _ => 0)))]) H := hP
  have hD : va_D A ([(h, .inr (1, [.null, .int 0, .int 0])), (q7, .inl (κ 0, 100, .inl (fun _ => 0)))]) := hD
  refine va_putF (D := D) (ci := 1) (v := .ref q7) (ty := .array .int) (C := RX0) (T := TX0) (N := 3) hx hb hts (by decide +kernel) tyX0 tyX0_ok nmX0 hown hK hP hD hS 0 rfl rfl 0 (by decide) (hts (.fieldLink RX0 9 "TrackDisk$Reel" "rows" "[I") (by decide +kernel)) (fun _ h9 => h9) rfl hin rfl (by decide +kernel) rfl rfl (Nat.le_of_ble_eq_true rfl) dX0_init_9 (fun H locs hP hD hS => ?_)
  have hP : va_P D vwCl ([(h, .inr (1, [.ref q7, .int 0, .int 0])), (q7, .inl (κ 0, 100, .inl (fun _ => 0)))]) H := hP
  have hD : va_D A ([(h, .inr (1, [.ref q7, .int 0, .int 0])), (q7, .inl (κ 0, 100, .inl (fun _ => 0)))]) := hD
  refine lv_aload_n hx hb dX0_init_12 rfl (lv_at hl 0 rfl) ?_
  refine lv_iconst (v := nI 0) hx hb dX0_init_13 (by decide) ?_
  refine va_put (D := D) (ci := 1) (v := .int (nI 0)) (ty := .int) (C := RX0) (T := TX0) (N := 3) hx hb hts (by decide +kernel) tyX0 tyX0_ok nmX0 hown hK hP hD hS 0 rfl rfl 1 (by decide) (hts (.fieldLink RX0 15 "TrackDisk$Reel" "size" "I") (by decide +kernel)) (fun _ h9 => h9) rfl (by decide +kernel) rfl rfl (Nat.le_of_ble_eq_true rfl) dX0_init_14 (fun H locs hP hD hS => ?_)
  have hP : va_P D vwCl ([(h, .inr (1, [.ref q7, .int (nI 0), .int 0])), (q7, .inl (κ 0, 100, .inl (fun _ => 0)))]) H := hP
  have hD : va_D A ([(h, .inr (1, [.ref q7, .int (nI 0), .int 0])), (q7, .inl (κ 0, 100, .inl (fun _ => 0)))]) := hD
  refine lv_aload_n hx hb dX0_init_17 rfl (lv_at hl 0 rfl) ?_
  refine lv_iconst (v := nI 0) hx hb dX0_init_18 (by decide) ?_
  refine va_put (D := D) (ci := 1) (v := .int (nI 0)) (ty := .int) (C := RX0) (T := TX0) (N := 3) hx hb hts (by decide +kernel) tyX0 tyX0_ok nmX0 hown hK hP hD hS 0 rfl rfl 2 (by decide) (hts (.fieldLink RX0 19 "TrackDisk$Reel" "stand" "I") (by decide +kernel)) (fun _ h9 => h9) rfl (by decide +kernel) rfl rfl (Nat.le_of_ble_eq_true rfl) dX0_init_19 (fun H locs hP hD hS => ?_)
  have hP : va_P D vwCl ([(h, .inr (1, [.ref q7, .int (nI 0), .int (nI 0)])), (q7, .inl (κ 0, 100, .inl (fun _ => 0)))]) H := hP
  have hD : va_D A ([(h, .inr (1, [.ref q7, .int (nI 0), .int (nI 0)])), (q7, .inl (κ 0, 100, .inl (fun _ => 0)))]) := hD
  have hP9 : va_P D vwCl (reW κ (adF [h, q7]) (fun _ => 0) (nI 0) (nI 0)) H := hP
  have hD9 : va_D A (reW κ (adF [h, q7]) (fun _ => 0) (nI 0) (nI 0)) := hD
  refine W.widen (k := 1) (n := 100) (by omega) (by omega) ?_
  exact W.vret hx hb hr (fun t ht _ => ⟨⟨(adF [h, q7]), rfl, rfl, by rw [ht]; exact hP9, hD9⟩, hS.F ht⟩) hS.2.2 dX0_init_22 hlocks

set_option maxHeartbeats 4000000 in
set_option maxRecDepth 100000 in
/-- Surface(tracks, sectors) -/
theorem c_sinit (l : Launch) (D : va_G) (κ : Nat → ClassId) (sz h : Nat) (T S : Nat) (hT : T ≤ 12) (hS8 : S ≤ 8)  : Met l yX1_init wsX1_init ({ frames := 3, cells := 5, slots := 1940, locals := 70 }) (va_Pc [.ref h, .int (nI T), .int (nI S)] (mu_B D κ ([(h, .inr (2, [.int 0, .int 0, .null, .null, .null, .null, .null, .int 0, .int 0]))]) sz)) (al_Q (X := Nat → Nat) D none (fun ad => ad 0 = h) (fun ad => sfW κ T S ad (fun _ => 0) (s2F (fun _ => 0) S (T + 2)) (plF T) (fun _ => 0) (fun _ => 0) (nI 0) (nI 0)) (va_A ([(h, .inr (2, [.int 0, .int 0, .null, .null, .null, .null, .null, .int 0, .int 0]))]) sz)) 5 1940 (va_A ([(h, .inr (2, [.int 0, .int 0, .null, .null, .null, .null, .null, .int 0, .int 0]))]) sz) := by
  refine Met.ofW (cc := cX1_init) (maxL := 5) (ret := none) (by decide) rfl ?_
  intro p e s m args below meth c s₁ B hml hv
  obtain ⟨rfl, hsz, hP, hK, hD0⟩ := hv
  have hx := B.exec
  have hb := B.bytes
  have hr := B.returns
  have hts := atoms_spec (ws := wsX1_init) B.pre
  have hown : s.vm.findClass RX1 = some m.cls := findClass_of_methodNamed B.named
  have hlocks := B.notSynchronized
  have hin : meth.name = "<init>" := (name_of_methodNamed B.named B.method).1
  subst hsz
  have hD := hD0.self (sz := s.heap.size)
  generalize hAe : va_A ([(h, .inr (2, [.int 0, .int 0, .null, .null, .null, .null, .null, .int 0, .int 0]))]) s.heap.size = A at hD ⊢
  have hA : ∀ q : Nat, s.heap.size ≤ q → A q := fun q h => by rw [← hAe]; exact Or.inr h
  refine W.gen (P := fun H locs => va_P D vwCl ([(h, .inr (2, [.int 0, .int 0, .null, .null, .null, .null, .null, .int 0, .int 0]))]) H ∧ va_S A s.heap H locs) (fun H locs h => ?_) ⟨hP, va_S.rf⟩
  clear hP
  obtain ⟨hP, hS⟩ := h
  have hl := lv_entry ([.ref h, .int (nI T), .int (nI S)]) (n := 5) (Nat.le_of_ble_eq_true rfl)
  rw [lg_entry_eq]
  generalize (lg_sl ([.ref h, .int (nI T), .int (nI S)]) ++ List.replicate (5 - (lg_sl ([.ref h, .int (nI T), .int (nI S)])).length) Slot.unset).toArray = ls at hl ⊢
  have hl : lv_has ls 5 [(0, .ref h), (1, .int (nI T)), (2, .int (nI S))] := hl
  have hmx := sf_max hT hS8
  refine lv_aload_n hx hb dX1_init_0 rfl (lv_at hl 0 rfl) ?_
  refine W.objInit hx hb hown (hts (.methodLink RX1 3 objectInit) (by decide +kernel)) (hts (.instanceMethod objectInit) (by decide +kernel)) (hts (.code objectInit ⟨#[0xb1]⟩ 1 none) (List.mem_of_getElem? (i := 3) (by rfl))) rfl (by rw [hml]; exact hl.1) rfl dX1_init_1 (Nat.le_of_ble_eq_true rfl) (Nat.le_of_ble_eq_true rfl) ?_
  refine W.eq (g2 := F0 m 4 ls []) rfl ?_
  refine lv_iload_n hx hb dX1_init_4 rfl (lv_at hl 1 rfl) ?_
  refine lv_iconst (v := nI 2) hx hb dX1_init_5 (by decide) ?_
  refine lv_iadd hx hb dX1_init_6 ?_
  refine tp_i (y := nI (T + 2)) (by exact nI_add _ _) ?_
  refine lv_istore_n (lv' := [(3, .int (nI (T + 2))), (0, .ref h), (1, .int (nI T)), (2, .int (nI S))]) hx hb dX1_init_7 rfl hl (by decide) rfl (fun ls hl => ?_)
  refine lv_aload_n hx hb dX1_init_8 rfl (lv_at hl 1 rfl) ?_
  refine lv_iload_n hx hb dX1_init_9 rfl (lv_at hl 2 rfl) ?_
  refine va_putF (D := D) (ci := 2) (v := .int (nI T)) (ty := .int) (C := RX1) (T := TX1) (N := 9) hx hb hts (by decide +kernel) tyX1 tyX1_ok nmX1 hown hK hP hD hS 0 rfl rfl 0 (by decide) (hts (.fieldLink RX1 9 "TrackDisk$Surface" "tracks" "I") (by decide +kernel)) (fun _ h9 => h9) rfl hin rfl (by decide +kernel) rfl rfl (Nat.le_of_ble_eq_true rfl) dX1_init_10 (fun H locs hP hD hS => ?_)
  have hP : va_P D vwCl ([(h, .inr (2, [.int (nI T), .int 0, .null, .null, .null, .null, .null, .int 0, .int 0]))]) H := hP
  have hD : va_D A ([(h, .inr (2, [.int (nI T), .int 0, .null, .null, .null, .null, .null, .int 0, .int 0]))]) := hD
  refine lv_aload_n hx hb dX1_init_13 rfl (lv_at hl 1 rfl) ?_
  refine lv_iload_n hx hb dX1_init_14 rfl (lv_at hl 3 rfl) ?_
  refine va_putF (D := D) (ci := 2) (v := .int (nI S)) (ty := .int) (C := RX1) (T := TX1) (N := 9) hx hb hts (by decide +kernel) tyX1 tyX1_ok nmX1 hown hK hP hD hS 0 rfl rfl 1 (by decide) (hts (.fieldLink RX1 15 "TrackDisk$Surface" "sectors" "I") (by decide +kernel)) (fun _ h9 => h9) rfl hin rfl (by decide +kernel) rfl rfl (Nat.le_of_ble_eq_true rfl) dX1_init_15 (fun H locs hP hD hS => ?_)
  have hP : va_P D vwCl ([(h, .inr (2, [.int (nI T), .int (nI S), .null, .null, .null, .null, .null, .int 0, .int 0]))]) H := hP
  have hD : va_D A ([(h, .inr (2, [.int (nI T), .int (nI S), .null, .null, .null, .null, .null, .int 0, .int 0]))]) := hD
  refine lv_aload_n hx hb dX1_init_18 rfl (lv_at hl 1 rfl) ?_
  refine lv_iload_n hx hb dX1_init_19 rfl (lv_at hl 0 rfl) ?_
  refine lv_iload_n hx hb dX1_init_20 rfl (lv_at hl 3 rfl) ?_
  refine lv_imul hx hb dX1_init_21 ?_
  refine tp_i (y := nI ((T + 2) * S)) (by exact pk_mul _ _) ?_
  refine lv_bipush (v := nI 16) hx hb dX1_init_22 (by decide) ?_
  refine lv_imul hx hb dX1_init_24 ?_
  refine tp_i (y := nI (((T + 2) * S) * 16)) (by exact pk_mul _ _) ?_
  refine va_newa (atype := .byte) (ty := .byte) (a0 := ((((T + 2) * S) * 16), .inl (fun _ => 0))) hx hb (hts (.arrayClass .byte) (by decide +kernel)) rfl hK hP hD hS hA (fun _ => rfl) (nI_pos (by omega)) (nI_clamp (by omega)) (Nat.le_trans (Nat.mul_le_mul_right _ (show (((T + 2) * S) * 16) ≤ 1792 by omega)) (by decide +kernel)) (Nat.le_of_ble_eq_true rfl) (show 0 + (((T + 2) * S) * 16) ≤ 1940 by omega) dX1_init_25 (fun q25 cA H hK9 hP hD hS => ?_)
  obtain rfl : cA = κ 1 := ty_same hK hK9 rfl (by decide)
  clear hK9
  refine W.widen (k := 1) (n := 1792) (by omega) (by omega) ?_
  have hP : va_P D vwCl ([(h, .inr (2, [.int (nI T), .int (nI S), .null, .null, .null, .null, .null, .int 0, .int 0])), (q25, .inl (κ 1, (((T + 2) * S) * 16), .inl (fun _ => 0)))]) H := hP
  have hD : va_D A ([(h, .inr (2, [.int (nI T), .int (nI S), .null, .null, .null, .null, .null, .int 0, .int 0])), (q25, .inl (κ 1, (((T + 2) * S) * 16), .inl (fun _ => 0)))]) := hD
  refine va_putF (D := D) (ci := 2) (v := .ref q25) (ty := .array .byte) (C := RX1) (T := TX1) (N := 9) hx hb hts (by decide +kernel) tyX1 tyX1_ok nmX1 hown hK hP hD hS 0 rfl rfl 2 (by decide) (hts (.fieldLink RX1 18 "TrackDisk$Surface" "bytes" "[B") (by decide +kernel)) (fun _ h9 => h9) rfl hin rfl (by decide +kernel) rfl rfl (Nat.le_of_ble_eq_true rfl) dX1_init_27 (fun H locs hP hD hS => ?_)
  have hP : va_P D vwCl ([(h, .inr (2, [.int (nI T), .int (nI S), .ref q25, .null, .null, .null, .null, .int 0, .int 0])), (q25, .inl (κ 1, (((T + 2) * S) * 16), .inl (fun _ => 0)))]) H := hP
  have hD : va_D A ([(h, .inr (2, [.int (nI T), .int (nI S), .ref q25, .null, .null, .null, .null, .int 0, .int 0])), (q25, .inl (κ 1, (((T + 2) * S) * 16), .inl (fun _ => 0)))]) := hD
  refine lv_aload_n hx hb dX1_init_30 rfl (lv_at hl 1 rfl) ?_
  refine lv_iload_n hx hb dX1_init_31 rfl (lv_at hl 0 rfl) ?_
  refine lv_iload_n hx hb dX1_init_32 rfl (lv_at hl 3 rfl) ?_
  refine lv_imul hx hb dX1_init_33 ?_
  refine tp_i (y := nI ((T + 2) * S)) (by exact pk_mul _ _) ?_
  refine va_newa (atype := .int) (ty := .int) (a0 := (((T + 2) * S), .inl (fun _ => 0))) hx hb (hts (.arrayClass .int) (by decide +kernel)) rfl hK hP hD hS hA (fun _ => rfl) (nI_pos (by omega)) (nI_clamp (by omega)) (Nat.le_trans (Nat.mul_le_mul_right _ (show ((T + 2) * S) ≤ 112 by omega)) (by decide +kernel)) (Nat.le_of_ble_eq_true rfl) (show 1792 + ((T + 2) * S) ≤ 1940 by omega) dX1_init_34 (fun q34 cA H hK9 hP hD hS => ?_)
  obtain rfl : cA = κ 0 := ty_same hK hK9 rfl (by decide)
  clear hK9
  refine W.widen (k := 2) (n := 1904) (by omega) (by omega) ?_
  have hP : va_P D vwCl ([(h, .inr (2, [.int (nI T), .int (nI S), .ref q25, .null, .null, .null, .null, .int 0, .int 0])), (q25, .inl (κ 1, (((T + 2) * S) * 16), .inl (fun _ => 0))), (q34, .inl (κ 0, ((T + 2) * S), .inl (fun _ => 0)))]) H := hP
  have hD : va_D A ([(h, .inr (2, [.int (nI T), .int (nI S), .ref q25, .null, .null, .null, .null, .int 0, .int 0])), (q25, .inl (κ 1, (((T + 2) * S) * 16), .inl (fun _ => 0))), (q34, .inl (κ 0, ((T + 2) * S), .inl (fun _ => 0)))]) := hD
  refine va_putF (D := D) (ci := 2) (v := .ref q34) (ty := .array .int) (C := RX1) (T := TX1) (N := 9) hx hb hts (by decide +kernel) tyX1 tyX1_ok nmX1 hown hK hP hD hS 0 rfl rfl 3 (by decide) (hts (.fieldLink RX1 22 "TrackDisk$Surface" "sums" "[I") (by decide +kernel)) (fun _ h9 => h9) rfl hin rfl (by decide +kernel) rfl rfl (Nat.le_of_ble_eq_true rfl) dX1_init_36 (fun H locs hP hD hS => ?_)
  have hP : va_P D vwCl ([(h, .inr (2, [.int (nI T), .int (nI S), .ref q25, .ref q34, .null, .null, .null, .int 0, .int 0])), (q25, .inl (κ 1, (((T + 2) * S) * 16), .inl (fun _ => 0))), (q34, .inl (κ 0, ((T + 2) * S), .inl (fun _ => 0)))]) H := hP
  have hD : va_D A ([(h, .inr (2, [.int (nI T), .int (nI S), .ref q25, .ref q34, .null, .null, .null, .int 0, .int 0])), (q25, .inl (κ 1, (((T + 2) * S) * 16), .inl (fun _ => 0))), (q34, .inl (κ 0, ((T + 2) * S), .inl (fun _ => 0)))]) := hD
  refine lv_aload_n hx hb dX1_init_39 rfl (lv_at hl 1 rfl) ?_
  refine lv_iload_n hx hb dX1_init_40 rfl (lv_at hl 2 rfl) ?_
  refine va_newa (atype := .int) (ty := .int) (a0 := (T, .inl (fun _ => 0))) hx hb (hts (.arrayClass .int) (by decide +kernel)) rfl hK hP hD hS hA (fun _ => rfl) (nI_pos (by omega)) (nI_clamp (by omega)) (Nat.le_trans (Nat.mul_le_mul_right _ (show T ≤ 12 by omega)) (by decide +kernel)) (Nat.le_of_ble_eq_true rfl) (show 1904 + T ≤ 1940 by omega) dX1_init_41 (fun q41 cA H hK9 hP hD hS => ?_)
  obtain rfl : cA = κ 0 := ty_same hK hK9 rfl (by decide)
  clear hK9
  refine W.widen (k := 3) (n := 1916) (by omega) (by omega) ?_
  have hP : va_P D vwCl ([(h, .inr (2, [.int (nI T), .int (nI S), .ref q25, .ref q34, .null, .null, .null, .int 0, .int 0])), (q25, .inl (κ 1, (((T + 2) * S) * 16), .inl (fun _ => 0))), (q34, .inl (κ 0, ((T + 2) * S), .inl (fun _ => 0))), (q41, .inl (κ 0, T, .inl (fun _ => 0)))]) H := hP
  have hD : va_D A ([(h, .inr (2, [.int (nI T), .int (nI S), .ref q25, .ref q34, .null, .null, .null, .int 0, .int 0])), (q25, .inl (κ 1, (((T + 2) * S) * 16), .inl (fun _ => 0))), (q34, .inl (κ 0, ((T + 2) * S), .inl (fun _ => 0))), (q41, .inl (κ 0, T, .inl (fun _ => 0)))]) := hD
  refine va_putF (D := D) (ci := 2) (v := .ref q41) (ty := .array .int) (C := RX1) (T := TX1) (N := 9) hx hb hts (by decide +kernel) tyX1 tyX1_ok nmX1 hown hK hP hD hS 0 rfl rfl 4 (by decide) (hts (.fieldLink RX1 26 "TrackDisk$Surface" "place" "[I") (by decide +kernel)) (fun _ h9 => h9) rfl hin rfl (by decide +kernel) rfl rfl (Nat.le_of_ble_eq_true rfl) dX1_init_43 (fun H locs hP hD hS => ?_)
  have hP : va_P D vwCl ([(h, .inr (2, [.int (nI T), .int (nI S), .ref q25, .ref q34, .ref q41, .null, .null, .int 0, .int 0])), (q25, .inl (κ 1, (((T + 2) * S) * 16), .inl (fun _ => 0))), (q34, .inl (κ 0, ((T + 2) * S), .inl (fun _ => 0))), (q41, .inl (κ 0, T, .inl (fun _ => 0)))]) H := hP
  have hD : va_D A ([(h, .inr (2, [.int (nI T), .int (nI S), .ref q25, .ref q34, .ref q41, .null, .null, .int 0, .int 0])), (q25, .inl (κ 1, (((T + 2) * S) * 16), .inl (fun _ => 0))), (q34, .inl (κ 0, ((T + 2) * S), .inl (fun _ => 0))), (q41, .inl (κ 0, T, .inl (fun _ => 0)))]) := hD
  refine lv_aload_n hx hb dX1_init_46 rfl (lv_at hl 1 rfl) ?_
  refine lv_iload_n hx hb dX1_init_47 rfl (lv_at hl 2 rfl) ?_
  refine va_newa (atype := .int) (ty := .int) (a0 := (T, .inl (fun _ => 0))) hx hb (hts (.arrayClass .int) (by decide +kernel)) rfl hK hP hD hS hA (fun _ => rfl) (nI_pos (by omega)) (nI_clamp (by omega)) (Nat.le_trans (Nat.mul_le_mul_right _ (show T ≤ 12 by omega)) (by decide +kernel)) (Nat.le_of_ble_eq_true rfl) (show 1916 + T ≤ 1940 by omega) dX1_init_48 (fun q48 cA H hK9 hP hD hS => ?_)
  obtain rfl : cA = κ 0 := ty_same hK hK9 rfl (by decide)
  clear hK9
  refine W.widen (k := 4) (n := 1928) (by omega) (by omega) ?_
  have hP : va_P D vwCl ([(h, .inr (2, [.int (nI T), .int (nI S), .ref q25, .ref q34, .ref q41, .null, .null, .int 0, .int 0])), (q25, .inl (κ 1, (((T + 2) * S) * 16), .inl (fun _ => 0))), (q34, .inl (κ 0, ((T + 2) * S), .inl (fun _ => 0))), (q41, .inl (κ 0, T, .inl (fun _ => 0))), (q48, .inl (κ 0, T, .inl (fun _ => 0)))]) H := hP
  have hD : va_D A ([(h, .inr (2, [.int (nI T), .int (nI S), .ref q25, .ref q34, .ref q41, .null, .null, .int 0, .int 0])), (q25, .inl (κ 1, (((T + 2) * S) * 16), .inl (fun _ => 0))), (q34, .inl (κ 0, ((T + 2) * S), .inl (fun _ => 0))), (q41, .inl (κ 0, T, .inl (fun _ => 0))), (q48, .inl (κ 0, T, .inl (fun _ => 0)))]) := hD
  refine va_putF (D := D) (ci := 2) (v := .ref q48) (ty := .array .int) (C := RX1) (T := TX1) (N := 9) hx hb hts (by decide +kernel) tyX1 tyX1_ok nmX1 hown hK hP hD hS 0 rfl rfl 5 (by decide) (hts (.fieldLink RX1 29 "TrackDisk$Surface" "usedByRow0" "[I") (by decide +kernel)) (fun _ h9 => h9) rfl hin rfl (by decide +kernel) rfl rfl (Nat.le_of_ble_eq_true rfl) dX1_init_50 (fun H locs hP hD hS => ?_)
  have hP : va_P D vwCl ([(h, .inr (2, [.int (nI T), .int (nI S), .ref q25, .ref q34, .ref q41, .ref q48, .null, .int 0, .int 0])), (q25, .inl (κ 1, (((T + 2) * S) * 16), .inl (fun _ => 0))), (q34, .inl (κ 0, ((T + 2) * S), .inl (fun _ => 0))), (q41, .inl (κ 0, T, .inl (fun _ => 0))), (q48, .inl (κ 0, T, .inl (fun _ => 0)))]) H := hP
  have hD : va_D A ([(h, .inr (2, [.int (nI T), .int (nI S), .ref q25, .ref q34, .ref q41, .ref q48, .null, .int 0, .int 0])), (q25, .inl (κ 1, (((T + 2) * S) * 16), .inl (fun _ => 0))), (q34, .inl (κ 0, ((T + 2) * S), .inl (fun _ => 0))), (q41, .inl (κ 0, T, .inl (fun _ => 0))), (q48, .inl (κ 0, T, .inl (fun _ => 0)))]) := hD
  refine lv_aload_n hx hb dX1_init_53 rfl (lv_at hl 1 rfl) ?_
  refine lv_iload_n hx hb dX1_init_54 rfl (lv_at hl 2 rfl) ?_
  refine va_newa (atype := .int) (ty := .int) (a0 := (T, .inl (fun _ => 0))) hx hb (hts (.arrayClass .int) (by decide +kernel)) rfl hK hP hD hS hA (fun _ => rfl) (nI_pos (by omega)) (nI_clamp (by omega)) (Nat.le_trans (Nat.mul_le_mul_right _ (show T ≤ 12 by omega)) (by decide +kernel)) (Nat.le_of_ble_eq_true rfl) (show 1928 + T ≤ 1940 by omega) dX1_init_55 (fun q55 cA H hK9 hP hD hS => ?_)
  obtain rfl : cA = κ 0 := ty_same hK hK9 rfl (by decide)
  clear hK9
  refine W.widen (k := 5) (n := 1940) (by omega) (by omega) ?_
  have hP : va_P D vwCl ([(h, .inr (2, [.int (nI T), .int (nI S), .ref q25, .ref q34, .ref q41, .ref q48, .null, .int 0, .int 0])), (q25, .inl (κ 1, (((T + 2) * S) * 16), .inl (fun _ => 0))), (q34, .inl (κ 0, ((T + 2) * S), .inl (fun _ => 0))), (q41, .inl (κ 0, T, .inl (fun _ => 0))), (q48, .inl (κ 0, T, .inl (fun _ => 0))), (q55, .inl (κ 0, T, .inl (fun _ => 0)))]) H := hP
  have hD : va_D A ([(h, .inr (2, [.int (nI T), .int (nI S), .ref q25, .ref q34, .ref q41, .ref q48, .null, .int 0, .int 0])), (q25, .inl (κ 1, (((T + 2) * S) * 16), .inl (fun _ => 0))), (q34, .inl (κ 0, ((T + 2) * S), .inl (fun _ => 0))), (q41, .inl (κ 0, T, .inl (fun _ => 0))), (q48, .inl (κ 0, T, .inl (fun _ => 0))), (q55, .inl (κ 0, T, .inl (fun _ => 0)))]) := hD
  refine va_putF (D := D) (ci := 2) (v := .ref q55) (ty := .array .int) (C := RX1) (T := TX1) (N := 9) hx hb hts (by decide +kernel) tyX1 tyX1_ok nmX1 hown hK hP hD hS 0 rfl rfl 6 (by decide) (hts (.fieldLink RX1 32 "TrackDisk$Surface" "usedByRow1" "[I") (by decide +kernel)) (fun _ h9 => h9) rfl hin rfl (by decide +kernel) rfl rfl (Nat.le_of_ble_eq_true rfl) dX1_init_57 (fun H locs hP hD hS => ?_)
  have hP : va_P D vwCl ([(h, .inr (2, [.int (nI T), .int (nI S), .ref q25, .ref q34, .ref q41, .ref q48, .ref q55, .int 0, .int 0])), (q25, .inl (κ 1, (((T + 2) * S) * 16), .inl (fun _ => 0))), (q34, .inl (κ 0, ((T + 2) * S), .inl (fun _ => 0))), (q41, .inl (κ 0, T, .inl (fun _ => 0))), (q48, .inl (κ 0, T, .inl (fun _ => 0))), (q55, .inl (κ 0, T, .inl (fun _ => 0)))]) H := hP
  have hD : va_D A ([(h, .inr (2, [.int (nI T), .int (nI S), .ref q25, .ref q34, .ref q41, .ref q48, .ref q55, .int 0, .int 0])), (q25, .inl (κ 1, (((T + 2) * S) * 16), .inl (fun _ => 0))), (q34, .inl (κ 0, ((T + 2) * S), .inl (fun _ => 0))), (q41, .inl (κ 0, T, .inl (fun _ => 0))), (q48, .inl (κ 0, T, .inl (fun _ => 0))), (q55, .inl (κ 0, T, .inl (fun _ => 0)))]) := hD
  refine lv_aload_n hx hb dX1_init_60 rfl (lv_at hl 1 rfl) ?_
  refine lv_iconst (v := nI 0) hx hb dX1_init_61 (by decide) ?_
  refine va_put (D := D) (ci := 2) (v := .int (nI 0)) (ty := .int) (C := RX1) (T := TX1) (N := 9) hx hb hts (by decide +kernel) tyX1 tyX1_ok nmX1 hown hK hP hD hS 0 rfl rfl 7 (by decide) (hts (.fieldLink RX1 35 "TrackDisk$Surface" "taken" "I") (by decide +kernel)) (fun _ h9 => h9) rfl (by decide +kernel) rfl rfl (Nat.le_of_ble_eq_true rfl) dX1_init_62 (fun H locs hP hD hS => ?_)
  have hP : va_P D vwCl ([(h, .inr (2, [.int (nI T), .int (nI S), .ref q25, .ref q34, .ref q41, .ref q48, .ref q55, .int (nI 0), .int 0])), (q25, .inl (κ 1, (((T + 2) * S) * 16), .inl (fun _ => 0))), (q34, .inl (κ 0, ((T + 2) * S), .inl (fun _ => 0))), (q41, .inl (κ 0, T, .inl (fun _ => 0))), (q48, .inl (κ 0, T, .inl (fun _ => 0))), (q55, .inl (κ 0, T, .inl (fun _ => 0)))]) H := hP
  have hD : va_D A ([(h, .inr (2, [.int (nI T), .int (nI S), .ref q25, .ref q34, .ref q41, .ref q48, .ref q55, .int (nI 0), .int 0])), (q25, .inl (κ 1, (((T + 2) * S) * 16), .inl (fun _ => 0))), (q34, .inl (κ 0, ((T + 2) * S), .inl (fun _ => 0))), (q41, .inl (κ 0, T, .inl (fun _ => 0))), (q48, .inl (κ 0, T, .inl (fun _ => 0))), (q55, .inl (κ 0, T, .inl (fun _ => 0)))]) := hD
  refine lv_aload_n hx hb dX1_init_65 rfl (lv_at hl 1 rfl) ?_
  refine lv_iconst (v := nI 0) hx hb dX1_init_66 (by decide) ?_
  refine va_put (D := D) (ci := 2) (v := .int (nI 0)) (ty := .int) (C := RX1) (T := TX1) (N := 9) hx hb hts (by decide +kernel) tyX1 tyX1_ok nmX1 hown hK hP hD hS 0 rfl rfl 8 (by decide) (hts (.fieldLink RX1 38 "TrackDisk$Surface" "volume" "I") (by decide +kernel)) (fun _ h9 => h9) rfl (by decide +kernel) rfl rfl (Nat.le_of_ble_eq_true rfl) dX1_init_67 (fun H locs hP hD hS => ?_)
  have hP : va_P D vwCl ([(h, .inr (2, [.int (nI T), .int (nI S), .ref q25, .ref q34, .ref q41, .ref q48, .ref q55, .int (nI 0), .int (nI 0)])), (q25, .inl (κ 1, (((T + 2) * S) * 16), .inl (fun _ => 0))), (q34, .inl (κ 0, ((T + 2) * S), .inl (fun _ => 0))), (q41, .inl (κ 0, T, .inl (fun _ => 0))), (q48, .inl (κ 0, T, .inl (fun _ => 0))), (q55, .inl (κ 0, T, .inl (fun _ => 0)))]) H := hP
  have hD : va_D A ([(h, .inr (2, [.int (nI T), .int (nI S), .ref q25, .ref q34, .ref q41, .ref q48, .ref q55, .int (nI 0), .int (nI 0)])), (q25, .inl (κ 1, (((T + 2) * S) * 16), .inl (fun _ => 0))), (q34, .inl (κ 0, ((T + 2) * S), .inl (fun _ => 0))), (q41, .inl (κ 0, T, .inl (fun _ => 0))), (q48, .inl (κ 0, T, .inl (fun _ => 0))), (q55, .inl (κ 0, T, .inl (fun _ => 0)))]) := hD
  have hP : va_P D vwCl (sfW κ T S (adF [h, q25, q34, q41, q48, q55]) (fun _ => 0) (fun _ => 0) (fun _ => 0) (fun _ => 0) (fun _ => 0) (nI 0) (nI 0)) H := hP
  have hD : va_D A (sfW κ T S (adF [h, q25, q34, q41, q48, q55]) (fun _ => 0) (fun _ => 0) (fun _ => 0) (fun _ => 0) (fun _ => 0) (nI 0) (nI 0)) := hD
  -- the Surface stands
  refine lv_iconst (v := nI 0) hx hb dX1_init_70 (by decide) ?_
  refine lv_istore (lv' := [(4, .int (nI 0)), (3, .int (nI (T + 2))), (0, .ref h), (1, .int (nI T)), (2, .int (nI S))]) hx hb dX1_init_71 hl (by decide) rfl (fun ls hl => ?_)
  refine W.loop (N := T) (I := fun k ls H locs => lv_has ls 5 [(4, .int (nI k)), (3, .int (nI (T + 2))), (0, .ref h), (1, .int (nI T)), (2, .int (nI S))] ∧ va_P D vwCl (sfW κ T S (adF [h, q25, q34, q41, q48, q55]) (fun _ => 0) (fun _ => 0) (plF k) (fun _ => 0) (fun _ => 0) (nI 0) (nI 0)) H ∧ va_D A (sfW κ T S (adF [h, q25, q34, q41, q48, q55]) (fun _ => 0) (fun _ => 0) (plF k) (fun _ => 0) (fun _ => 0) (nI 0) (nI 0)) ∧ va_S A s.heap H locs) 0 (by omega) (fun k ls H locs hk hI ihk => ?_) (fun ls H locs hI => ?_) ⟨lv_sub hl [0, 1, 2, 3, 4] rfl, hP, hD, hS⟩
  · skip
    clear hl hP hD hS
    obtain ⟨hl, hP, hD, hS⟩ := hI
    refine lv_iload hx hb dX1_init_73 (lv_at hl 0 rfl) ?_
    refine lv_iload_n hx hb dX1_init_75 rfl (lv_at hl 3 rfl) ?_
    refine lv_icmp_ge (tgt := 94) hx hb dX1_init_76 (by decide) (fun c_76 => ?_) (fun c_76 => ?_)
    · exact absurd c_76 (nI_ge hk (by omega))
    · skip
      refine lv_aload_n hx hb dX1_init_79 rfl (lv_at hl 2 rfl) ?_
      refine va_get (D := D) (ci := 2) (v := .ref q41) (C := RX1) (T := TX1) (N := 9) hx hb hts (by decide +kernel) hown hK hP 0 rfl rfl 4 (by decide) (hts (.fieldLink RX1 26 "TrackDisk$Surface" "place" "[I") (by decide +kernel)) (fun _ h9 => h9) rfl dX1_init_80 ?_
      refine lv_iload hx hb dX1_init_83 (lv_at hl 0 rfl) ?_
      refine lv_iload hx hb dX1_init_85 (lv_at hl 0 rfl) ?_
      refine va_iast hx hb hK hP hD hS 3 0 rfl rfl (vp_in_nI (by omega) (by omega)) dX1_init_87 (fun H locs hP hD hS => ?_)
      rw [nI_clamp (n := k) (by omega)] at hP hD
      have hP : va_P D vwCl (sfW κ T S (adF [h, q25, q34, q41, q48, q55]) (fun _ => 0) (fun _ => 0) (upd (plF k) (k) (nI k)) (fun _ => 0) (fun _ => 0) (nI 0) (nI 0)) H := hP
      have hD : va_D A (sfW κ T S (adF [h, q25, q34, q41, q48, q55]) (fun _ => 0) (fun _ => 0) (upd (plF k) (k) (nI k)) (fun _ => 0) (fun _ => 0) (nI 0) (nI 0)) := hD
      refine lv_iinc (v := nI (k + 1)) (lv' := [(4, .int (nI (k + 1))), (3, .int (nI (T + 2))), (0, .ref h), (1, .int (nI T)), (2, .int (nI S))]) hx hb dX1_init_88 hl (k := 0) rfl (by exact nI_1 _) (by decide) rfl (fun ls hl => ?_)
      refine lv_goto (tgt := 73) hx hb dX1_init_91 (by decide) ?_
      exact ihk ls H locs ⟨lv_sub hl [0, 1, 2, 3, 4] rfl, hP, hD, hS⟩
  · skip
    clear hl hP hD hS
    obtain ⟨hl, hP, hD, hS⟩ := hI
    refine lv_iload hx hb dX1_init_73 (lv_at hl 0 rfl) ?_
    refine lv_iload_n hx hb dX1_init_75 rfl (lv_at hl 3 rfl) ?_
    refine lv_icmp_ge (tgt := 94) hx hb dX1_init_76 (by decide) (fun c_76 => ?_) (fun c_76 => ?_)
    · skip
      refine lv_iconst (v := nI 0) hx hb dX1_init_94 (by decide) ?_
      refine lv_istore (lv' := [(4, .int (nI 0)), (3, .int (nI (T + 2))), (0, .ref h), (1, .int (nI T)), (2, .int (nI S))]) hx hb dX1_init_95 hl (by decide) rfl (fun ls hl => ?_)
      refine W.loop (N := (T + 2)) (I := fun k ls H locs => lv_has ls 5 [(4, .int (nI k)), (3, .int (nI (T + 2))), (0, .ref h), (1, .int (nI T)), (2, .int (nI S))] ∧ va_P D vwCl (sfW κ T S (adF [h, q25, q34, q41, q48, q55]) (fun _ => 0) (s2F (fun _ => 0) S k) (plF T) (fun _ => 0) (fun _ => 0) (nI 0) (nI 0)) H ∧ va_D A (sfW κ T S (adF [h, q25, q34, q41, q48, q55]) (fun _ => 0) (s2F (fun _ => 0) S k) (plF T) (fun _ => 0) (fun _ => 0) (nI 0) (nI 0)) ∧ va_S A s.heap H locs) 0 (by omega) (fun k ls H locs hk hI ihk => ?_) (fun ls H locs hI => ?_) ⟨lv_sub hl [0, 1, 2, 3, 4] rfl, hP, hD, hS⟩
      · skip
        clear hl hP hD hS
        obtain ⟨hl, hP, hD, hS⟩ := hI
        refine lv_iload hx hb dX1_init_97 (lv_at hl 0 rfl) ?_
        refine lv_iload_n hx hb dX1_init_99 rfl (lv_at hl 1 rfl) ?_
        refine lv_icmp_ge (tgt := 115) hx hb dX1_init_100 (by decide) (fun c_100 => ?_) (fun c_100 => ?_)
        · exact absurd c_100 (nI_ge hk (by omega))
        · skip
          refine lv_aload_n hx hb dX1_init_103 rfl (lv_at hl 2 rfl) ?_
          refine lv_iload hx hb dX1_init_104 (lv_at hl 0 rfl) ?_
          have hPc := hP.sub (ws' := sfW κ T S (adF [h, q25, q34, q41, q48, q55]) (fun _ => 0) (s2F (fun _ => 0) S k) (plF T) (fun _ => 0) (fun _ => 0) (nI 0) (nI 0)) [0, 1, 2, 3, 4, 5] rfl
          have hDc := hD.sub (ws' := sfW κ T S (adF [h, q25, q34, q41, q48, q55]) (fun _ => 0) (s2F (fun _ => 0) S k) (plF T) (fun _ => 0) (fun _ => 0) (nI 0) (nI 0)) [0, 1, 2, 3, 4, 5] (by decide) rfl
          refine mu_call (wc := sfW κ T S (adF [h, q25, q34, q41, q48, q55]) (fun _ => 0) (s2F (fun _ => 0) S k) (plF T) (fun _ => 0) (fun _ => 0) (nI 0) (nI 0)) (wc' := sfW κ T S (adF [h, q25, q34, q41, q48, q55]) (fun _ => 0) (ssF (fun _ => 0) (s2F (fun _ => 0) S k) S k S) (plF T) (fun _ => 0) (fun _ => 0) (nI 0) (nI 0)) (ws' := sfW κ T S (adF [h, q25, q34, q41, q48, q55]) (fun _ => 0) (ssF (fun _ => 0) (s2F (fun _ => 0) S k) S k S) (plF T) (fun _ => 0) (fun _ => 0) (nI 0) (nI 0)) (wr := (([] : List Nat).filterMap fun i => (sfW κ T S (adF [h, q25, q34, q41, q48, q55]) (fun _ => 0) (s2F (fun _ => 0) S k) (plF T) (fun _ => 0) (fun _ => 0) (nI 0) (nI 0))[i]?)) (va_runV (As := [.int (nI k)]) (rest := []) ⟨hx, hb, hml, hown, hts⟩ (c_setSums l D κ H.size T S (adF [h, q25, q34, q41, q48, q55]) (fun _ => 0) (s2F (fun _ => 0) S k) (plF T) (fun _ => 0) (fun _ => 0) (nI 0) (nI 0) hT hS8 k hk) (cwV 1 hts gX1_init_X1_setSums rfl rfl rfl (by decide +kernel) ⟨Nat.le_of_ble_eq_true rfl, Nat.le_of_ble_eq_true rfl⟩) ⟨mu_blind, va_recv hK hPc (ci := 2) (q0 := 0) rfl rfl, mu_pre hK hPc hDc⟩ rfl rfl hl.1 rfl (lv_room (Nat.le_of_ble_eq_true rfl)) dX1_init_106 ⟨Nat.le_of_ble_eq_true rfl, Nat.le_of_ble_eq_true rfl⟩) hP hD hS hA [0, 1, 2, 3, 4, 5] [] [0, 1, 2, 3, 4, 5] rfl rfl (by decide) (by decide) rfl rfl (by decide) (fun H locs hP hD hS => ?_)
          refine W.eq (g2 := F0 m 109 ls []) rfl ?_
          refine lv_iinc (v := nI (k + 1)) (lv' := [(4, .int (nI (k + 1))), (3, .int (nI (T + 2))), (0, .ref h), (1, .int (nI T)), (2, .int (nI S))]) hx hb dX1_init_109 hl (k := 0) rfl (by exact nI_1 _) (by decide) rfl (fun ls hl => ?_)
          refine lv_goto (tgt := 97) hx hb dX1_init_112 (by decide) ?_
          exact ihk ls H locs ⟨lv_sub hl [0, 1, 2, 3, 4] rfl, hP, hD, hS⟩
      · skip
        clear hl hP hD hS
        obtain ⟨hl, hP, hD, hS⟩ := hI
        refine lv_iload hx hb dX1_init_97 (lv_at hl 0 rfl) ?_
        refine lv_iload_n hx hb dX1_init_99 rfl (lv_at hl 1 rfl) ?_
        refine lv_icmp_ge (tgt := 115) hx hb dX1_init_100 (by decide) (fun c_100 => ?_) (fun c_100 => ?_)
        · skip
          have hP9 : va_P D vwCl (sfW κ T S (adF [h, q25, q34, q41, q48, q55]) (fun _ => 0) (s2F (fun _ => 0) S (T + 2)) (plF T) (fun _ => 0) (fun _ => 0) (nI 0) (nI 0)) H := hP
          have hD9 : va_D A (sfW κ T S (adF [h, q25, q34, q41, q48, q55]) (fun _ => 0) (s2F (fun _ => 0) S (T + 2)) (plF T) (fun _ => 0) (fun _ => 0) (nI 0) (nI 0)) := hD
          refine W.widen (k := 5) (n := 1940) (by omega) (by omega) ?_
          exact W.vret hx hb hr (fun t ht _ => ⟨⟨(adF [h, q25, q34, q41, q48, q55]), rfl, rfl, by rw [ht]; exact hP9, hD9⟩, hS.F ht⟩) hS.2.2 dX1_init_115 hlocks
        · exact absurd (nI_le (Nat.le_refl _) (by omega)) c_100
    · exact absurd (nI_le (Nat.le_refl _) (by omega)) c_76

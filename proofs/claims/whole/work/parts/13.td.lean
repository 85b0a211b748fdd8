/-! Waiting, Reel, TrackDisk: worlds and contracts (but dumps) -/
def waW (κ : Nat → ClassId) (ad : Nat → Nat) (wt wx wb : Nat → Int32) (wn : Int32) : va_W := [(ad 0, .inr (3, [.ref (ad 1), .ref (ad 2), .ref (ad 3), .int wn])), (ad 1, .inl (κ 0, 40, .inl wt)), (ad 2, .inl (κ 0, 40, .inl wx)), (ad 3, .inl (κ 1, 40, .inl wb))]
def reW (κ : Nat → ClassId) (ad : Nat → Nat) (tp : Nat → Int32) (tn ts : Int32) : va_W := [(ad 0, .inr (1, [.ref (ad 1), .int tn, .int ts])), (ad 1, .inl (κ 0, 100, .inl tp))]
def tdW (κ : Nat → ClassId) (T S : Nat) (ad : Nat → Nat) (bs sm pl r0 r1 : Nat → Int32) (tk vo : Int32) (du : Nat → Option Nat) (nd : Int32) (wt wx wb : Nat → Int32) (wn : Int32) (tp : Nat → Int32) (tn ts dn : Int32) : va_W := [(ad 0, .inr (4, [.int (nI T), .int (nI S), .ref (ad 1), .ref (ad 7), .int nd, .ref (ad 8), .ref (ad 12), .int dn])), (ad 1, .inr (2, [.int (nI T), .int (nI S), .ref (ad 2), .ref (ad 3), .ref (ad 4), .ref (ad 5), .ref (ad 6), .int tk, .int vo])), (ad 2, .inl (κ 1, (T + 2) * S * 16, .inl bs)), (ad 3, .inl (κ 0, (T + 2) * S, .inl sm)), (ad 4, .inl (κ 0, T, .inl pl)), (ad 5, .inl (κ 0, T, .inl r0)), (ad 6, .inl (κ 0, T, .inl r1)), (ad 7, .inl (κ 2, 5, .inr (.inr (.inr (.inr du))))), (ad 8, .inr (3, [.ref (ad 9), .ref (ad 10), .ref (ad 11), .int wn])), (ad 9, .inl (κ 0, 40, .inl wt)), (ad 10, .inl (κ 0, 40, .inl wx)), (ad 11, .inl (κ 1, 40, .inl wb)), (ad 12, .inr (1, [.ref (ad 13), .int tn, .int ts])), (ad 13, .inl (κ 0, 100, .inl tp))]
theorem bI_ct {b : Bool} (h : b = true) (c : bI b = 0) : False := by rw [h] at c; exact absurd c (by decide)
theorem bI_cf {b : Bool} (h : b = false) (c : ¬ bI b = 0) : False := by rw [h] at c; exact c rfl
/-- whether x is one of 0 .. n - 1 -/
def inF (x : Int32) (n : Nat) : Bool := decide (¬ x < 0) && decide (¬ nI n ≤ x)
theorem inF_t {x : Int32} {n : Nat} (h1 : ¬ x < 0) (h2 : ¬ nI n ≤ x) : inF x n = true := by simp [inF, h1, h2]
theorem inF_f1 {x : Int32} {n : Nat} (h : x < 0) : inF x n = false := by simp [inF, h]
theorem inF_f2 {x : Int32} {n : Nat} (h : nI n ≤ x) : inF x n = false := by simp [inF, h]
theorem inF_nI {a n : Nat} (h : a < n) (hn : n < 2 ^ 31) : inF (nI a) n = true := inF_t (nI_pos (by omega)) (nI_ge h hn)
theorem inF_of {x : Int32} {n : Nat} (h : inF x n = true) (hn : n < 2 ^ 31) : ∃ a, a < n ∧ x = nI a := by
  simp only [inF, Bool.and_eq_true, decide_eq_true_eq] at h
  rcases pk_ix x hn with q | q | q
  · exact absurd q h.1
  · exact absurd q h.2
  · exact q
/-- held to lo .. hi -/
def hdF (x lo hi : Int32) : Int32 := if lo < (if x < hi then x else hi) then (if x < hi then x else hi) else lo

set_option maxHeartbeats 4000000 in
set_option maxRecDepth 100000 in
/-- append -/
theorem c_append (l : Launch) (D : va_G) (κ : Nat → ClassId) (sz : Nat) (ad : Nat → Nat) (wt wx wb : Nat → Int32) (w : Nat) (hw : w < 40) (x y z : Int32) : Met l yX2_append wsX2_append ({ frames := 0, cells := 0, slots := 0, locals := 0 }) (va_Pc [.ref ((ad 0)), .int x, .int y, .int z.toInt8.toInt32] (mu_B D κ (waW κ ad wt wx wb (nI w)) sz)) (mu_Q D none (waW κ ad (upd wt w x) (upd wx w y) (upd wb w (z.toInt8.toInt32)) (nI (w + 1))) (va_A (waW κ ad wt wx wb (nI w)) sz)) 0 0 (va_A (waW κ ad wt wx wb (nI w)) sz) := by
  refine Met.ofW (cc := cX2_append) (maxL := 4) (ret := none) (by decide) rfl ?_
  intro p e s m args below meth c s₁ B hml hv
  obtain ⟨rfl, hsz, hP, hK, hD0⟩ := hv
  have hx := B.exec
  have hb := B.bytes
  have hr := B.returns
  have hts := atoms_spec (ws := wsX2_append) B.pre
  have hown : s.vm.findClass RX2 = some m.cls := findClass_of_methodNamed B.named
  have hlocks := B.notSynchronized
  subst hsz
  have hD := hD0.self (sz := s.heap.size)
  generalize hAe : va_A (waW κ ad wt wx wb (nI w)) s.heap.size = A at hD ⊢
  have hA : ∀ q : Nat, s.heap.size ≤ q → A q := fun q h => by rw [← hAe]; exact Or.inr h
  refine W.gen (P := fun H locs => va_P D vwCl (waW κ ad wt wx wb (nI w)) H ∧ va_S A s.heap H locs) (fun H locs h => ?_) ⟨hP, va_S.rf⟩
  clear hP
  obtain ⟨hP, hS⟩ := h
  have hl := lv_entry ([.ref ((ad 0)), .int x, .int y, .int z.toInt8.toInt32]) (n := 4) (Nat.le_of_ble_eq_true rfl)
  rw [lg_entry_eq]
  generalize (lg_sl ([.ref ((ad 0)), .int x, .int y, .int z.toInt8.toInt32]) ++ List.replicate (4 - (lg_sl ([.ref ((ad 0)), .int x, .int y, .int z.toInt8.toInt32])).length) Slot.unset).toArray = ls at hl ⊢
  have hl : lv_has ls 4 [(0, .ref ((ad 0))), (1, .int x), (2, .int y), (3, .int z.toInt8.toInt32)] := hl
  refine lv_aload_n hx hb dX2_append_0 rfl (lv_at hl 0 rfl) ?_
  refine va_get (D := D) (ci := 3) (v := .int (nI w)) (C := RX2) (T := TX2) (N := 4) hx hb hts (by decide +kernel) hown hK hP 0 rfl rfl 3 (by decide) (hts (.fieldLink RX2 22 "TrackDisk$Waiting" "size" "I") (by decide +kernel)) (fun _ h9 => h9) rfl dX2_append_1 ?_
  refine lv_bipush (v := nI 40) hx hb dX2_append_4 (by decide) ?_
  refine lv_icmp_ge (tgt := 49) hx hb dX2_append_6 (by decide) (fun c_6 => ?_) (fun c_6 => ?_)
  · exact absurd c_6 (nI_ge hw (by omega))
  · skip
    refine lv_aload_n hx hb dX2_append_9 rfl (lv_at hl 0 rfl) ?_
    refine va_get (D := D) (ci := 3) (v := .ref ((ad 1))) (C := RX2) (T := TX2) (N := 4) hx hb hts (by decide +kernel) hown hK hP 0 rfl rfl 0 (by decide) (hts (.fieldLink RX2 9 "TrackDisk$Waiting" "track" "[I") (by decide +kernel)) (fun _ h9 => h9) rfl dX2_append_10 ?_
    refine lv_aload_n hx hb dX2_append_13 rfl (lv_at hl 0 rfl) ?_
    refine va_get (D := D) (ci := 3) (v := .int (nI w)) (C := RX2) (T := TX2) (N := 4) hx hb hts (by decide +kernel) hown hK hP 0 rfl rfl 3 (by decide) (hts (.fieldLink RX2 22 "TrackDisk$Waiting" "size" "I") (by decide +kernel)) (fun _ h9 => h9) rfl dX2_append_14 ?_
    refine lv_iload_n hx hb dX2_append_17 rfl (lv_at hl 1 rfl) ?_
    refine va_iast hx hb hK hP hD hS 1 0 rfl rfl (vp_in_nI (by omega) (by omega)) dX2_append_18 (fun H locs hP hD hS => ?_)
    rw [nI_clamp (n := w) (by omega)] at hP hD
    have hP : va_P D vwCl (waW κ ad (upd (wt) (w) (x)) wx wb (nI w)) H := hP
    have hD : va_D A (waW κ ad (upd (wt) (w) (x)) wx wb (nI w)) := hD
    refine lv_aload_n hx hb dX2_append_19 rfl (lv_at hl 0 rfl) ?_
    refine va_get (D := D) (ci := 3) (v := .ref ((ad 2))) (C := RX2) (T := TX2) (N := 4) hx hb hts (by decide +kernel) hown hK hP 0 rfl rfl 1 (by decide) (hts (.fieldLink RX2 15 "TrackDisk$Waiting" "sector" "[I") (by decide +kernel)) (fun _ h9 => h9) rfl dX2_append_20 ?_
    refine lv_aload_n hx hb dX2_append_23 rfl (lv_at hl 0 rfl) ?_
    refine va_get (D := D) (ci := 3) (v := .int (nI w)) (C := RX2) (T := TX2) (N := 4) hx hb hts (by decide +kernel) hown hK hP 0 rfl rfl 3 (by decide) (hts (.fieldLink RX2 22 "TrackDisk$Waiting" "size" "I") (by decide +kernel)) (fun _ h9 => h9) rfl dX2_append_24 ?_
    refine lv_iload_n hx hb dX2_append_27 rfl (lv_at hl 2 rfl) ?_
    refine va_iast hx hb hK hP hD hS 2 0 rfl rfl (vp_in_nI (by omega) (by omega)) dX2_append_28 (fun H locs hP hD hS => ?_)
    rw [nI_clamp (n := w) (by omega)] at hP hD
    have hP : va_P D vwCl (waW κ ad (upd (wt) (w) (x)) (upd (wx) (w) (y)) wb (nI w)) H := hP
    have hD : va_D A (waW κ ad (upd (wt) (w) (x)) (upd (wx) (w) (y)) wb (nI w)) := hD
    refine lv_aload_n hx hb dX2_append_29 rfl (lv_at hl 0 rfl) ?_
    refine va_get (D := D) (ci := 3) (v := .ref ((ad 3))) (C := RX2) (T := TX2) (N := 4) hx hb hts (by decide +kernel) hown hK hP 0 rfl rfl 2 (by decide) (hts (.fieldLink RX2 18 "TrackDisk$Waiting" "first" "[B") (by decide +kernel)) (fun _ h9 => h9) rfl dX2_append_30 ?_
    refine lv_aload_n hx hb dX2_append_33 rfl (lv_at hl 0 rfl) ?_
    refine va_get (D := D) (ci := 3) (v := .int (nI w)) (C := RX2) (T := TX2) (N := 4) hx hb hts (by decide +kernel) hown hK hP 0 rfl rfl 3 (by decide) (hts (.fieldLink RX2 22 "TrackDisk$Waiting" "size" "I") (by decide +kernel)) (fun _ h9 => h9) rfl dX2_append_34 ?_
    refine lv_iload_n hx hb dX2_append_37 rfl (lv_at hl 3 rfl) ?_
    refine va_bast hx hb hK hP hD hS 3 1 rfl rfl (vp_in_nI (by omega) (by omega)) dX2_append_38 (fun H locs hP hD hS => ?_)
    rw [nI_clamp (n := w) (by omega)] at hP hD
    rw [pk_vb] at hP hD
    have hP : va_P D vwCl (waW κ ad (upd (wt) (w) (x)) (upd (wx) (w) (y)) (upd (wb) (w) (z.toInt8.toInt32)) (nI w)) H := hP
    have hD : va_D A (waW κ ad (upd (wt) (w) (x)) (upd (wx) (w) (y)) (upd (wb) (w) (z.toInt8.toInt32)) (nI w)) := hD
    refine lv_aload_n hx hb dX2_append_39 rfl (lv_at hl 0 rfl) ?_
    refine lv_dup hx hb dX2_append_40 rfl ?_
    refine va_get (D := D) (ci := 3) (v := .int (nI w)) (C := RX2) (T := TX2) (N := 4) hx hb hts (by decide +kernel) hown hK hP 0 rfl rfl 3 (by decide) (hts (.fieldLink RX2 22 "TrackDisk$Waiting" "size" "I") (by decide +kernel)) (fun _ h9 => h9) rfl dX2_append_41 ?_
    refine lv_iconst (v := nI 1) hx hb dX2_append_44 (by decide) ?_
    refine lv_iadd hx hb dX2_append_45 ?_
    refine tp_i (y := nI (w + 1)) (by exact nI_add _ _) ?_
    refine va_put (D := D) (ci := 3) (v := .int (nI (w + 1))) (ty := .int) (C := RX2) (T := TX2) (N := 4) hx hb hts (by decide +kernel) tyX2 tyX2_ok nmX2 hown hK hP hD hS 0 rfl rfl 3 (by decide) (hts (.fieldLink RX2 22 "TrackDisk$Waiting" "size" "I") (by decide +kernel)) (fun _ h9 => h9) rfl (by decide +kernel) rfl rfl (Nat.le_of_ble_eq_true rfl) dX2_append_46 (fun H locs hP hD hS => ?_)
    have hP : va_P D vwCl (waW κ ad (upd (wt) (w) (x)) (upd (wx) (w) (y)) (upd (wb) (w) (z.toInt8.toInt32)) (nI (w + 1))) H := hP
    have hD : va_D A (waW κ ad (upd (wt) (w) (x)) (upd (wx) (w) (y)) (upd (wb) (w) (z.toInt8.toInt32)) (nI (w + 1))) := hD
    have hP9 : va_P D vwCl (waW κ ad (upd wt w x) (upd wx w y) (upd wb w (z.toInt8.toInt32)) (nI (w + 1))) H := hP
    have hD9 : va_D A (waW κ ad (upd wt w x) (upd wx w y) (upd wb w (z.toInt8.toInt32)) (nI (w + 1))) := hD
    exact W.vret hx hb hr (fun t ht _ => ⟨⟨rfl, by rw [ht]; exact hP9, hD9⟩, hS.F ht⟩) hS.2.2 dX2_append_49 hlocks

set_option maxHeartbeats 4000000 in
set_option maxRecDepth 100000 in
/-- drop -/
theorem c_drop (l : Launch) (D : va_G) (κ : Nat → ClassId) (sz : Nat) (ad : Nat → Nat) (wt wx wb : Nat → Int32) (wn : Int32) : Met l yX2_drop wsX2_drop ({ frames := 0, cells := 0, slots := 0, locals := 0 }) (va_Pc [.ref ((ad 0))] (mu_B D κ (waW κ ad wt wx wb wn) sz)) (mu_Q D none (waW κ ad wt wx wb (nI 0)) (va_A (waW κ ad wt wx wb wn) sz)) 0 0 (va_A (waW κ ad wt wx wb wn) sz) := by
  refine Met.ofW (cc := cX2_drop) (maxL := 1) (ret := none) (by decide) rfl ?_
  intro p e s m args below meth c s₁ B hml hv
  obtain ⟨rfl, hsz, hP, hK, hD0⟩ := hv
  have hx := B.exec
  have hb := B.bytes
  have hr := B.returns
  have hts := atoms_spec (ws := wsX2_drop) B.pre
  have hown : s.vm.findClass RX2 = some m.cls := findClass_of_methodNamed B.named
  have hlocks := B.notSynchronized
  subst hsz
  have hD := hD0.self (sz := s.heap.size)
  generalize hAe : va_A (waW κ ad wt wx wb wn) s.heap.size = A at hD ⊢
  have hA : ∀ q : Nat, s.heap.size ≤ q → A q := fun q h => by rw [← hAe]; exact Or.inr h
  refine W.gen (P := fun H locs => va_P D vwCl (waW κ ad wt wx wb wn) H ∧ va_S A s.heap H locs) (fun H locs h => ?_) ⟨hP, va_S.rf⟩
  clear hP
  obtain ⟨hP, hS⟩ := h
  have hl := lv_entry ([.ref ((ad 0))]) (n := 1) (Nat.le_of_ble_eq_true rfl)
  rw [lg_entry_eq]
  generalize (lg_sl ([.ref ((ad 0))]) ++ List.replicate (1 - (lg_sl ([.ref ((ad 0))])).length) Slot.unset).toArray = ls at hl ⊢
  have hl : lv_has ls 1 [(0, .ref ((ad 0)))] := hl
  refine lv_aload_n hx hb dX2_drop_0 rfl (lv_at hl 0 rfl) ?_
  refine lv_iconst (v := nI 0) hx hb dX2_drop_1 (by decide) ?_
  refine va_put (D := D) (ci := 3) (v := .int (nI 0)) (ty := .int) (C := RX2) (T := TX2) (N := 4) hx hb hts (by decide +kernel) tyX2 tyX2_ok nmX2 hown hK hP hD hS 0 rfl rfl 3 (by decide) (hts (.fieldLink RX2 22 "TrackDisk$Waiting" "size" "I") (by decide +kernel)) (fun _ h9 => h9) rfl (by decide +kernel) rfl rfl (Nat.le_of_ble_eq_true rfl) dX2_drop_2 (fun H locs hP hD hS => ?_)
  have hP : va_P D vwCl (waW κ ad wt wx wb (nI 0)) H := hP
  have hD : va_D A (waW κ ad wt wx wb (nI 0)) := hD
  have hP9 : va_P D vwCl (waW κ ad wt wx wb (nI 0)) H := hP
  have hD9 : va_D A (waW κ ad wt wx wb (nI 0)) := hD
  exact W.vret hx hb hr (fun t ht _ => ⟨⟨rfl, by rw [ht]; exact hP9, hD9⟩, hS.F ht⟩) hS.2.2 dX2_drop_5 hlocks

set_option maxHeartbeats 4000000 in
set_option maxRecDepth 100000 in
/-- record -/
theorem c_record (l : Launch) (D : va_G) (κ : Nat → ClassId) (sz : Nat) (ad : Nat → Nat) (tp : Nat → Int32) (tn : Int32) (a : Nat) (ha : a < 100) (x : Int32) : Met l yX0_record wsX0_record ({ frames := 0, cells := 0, slots := 0, locals := 0 }) (va_Pc [.ref ((ad 0)), .int x] (mu_B D κ (reW κ ad tp tn (nI a)) sz)) (mu_Q D none (reW κ ad (upd tp a x) (nI (a + 1)) (nI (a + 1))) (va_A (reW κ ad tp tn (nI a)) sz)) 0 0 (va_A (reW κ ad tp tn (nI a)) sz) := by
  refine Met.ofW (cc := cX0_record) (maxL := 2) (ret := none) (by decide) rfl ?_
  intro p e s m args below meth c s₁ B hml hv
  obtain ⟨rfl, hsz, hP, hK, hD0⟩ := hv
  have hx := B.exec
  have hb := B.bytes
  have hr := B.returns
  have hts := atoms_spec (ws := wsX0_record) B.pre
  have hown : s.vm.findClass RX0 = some m.cls := findClass_of_methodNamed B.named
  have hlocks := B.notSynchronized
  subst hsz
  have hD := hD0.self (sz := s.heap.size)
  generalize hAe : va_A (reW κ ad tp tn (nI a)) s.heap.size = A at hD ⊢
  have hA : ∀ q : Nat, s.heap.size ≤ q → A q := fun q h => by rw [← hAe]; exact Or.inr h
  refine W.gen (P := fun H locs => va_P D vwCl (reW κ ad tp tn (nI a)) H ∧ va_S A s.heap H locs) (fun H locs h => ?_) ⟨hP, va_S.rf⟩
  clear hP
  obtain ⟨hP, hS⟩ := h
  have hl := lv_entry ([.ref ((ad 0)), .int x]) (n := 2) (Nat.le_of_ble_eq_true rfl)
  rw [lg_entry_eq]
  generalize (lg_sl ([.ref ((ad 0)), .int x]) ++ List.replicate (2 - (lg_sl ([.ref ((ad 0)), .int x])).length) Slot.unset).toArray = ls at hl ⊢
  have hl : lv_has ls 2 [(0, .ref ((ad 0))), (1, .int x)] := hl
  refine lv_aload_n hx hb dX0_record_0 rfl (lv_at hl 0 rfl) ?_
  refine va_get (D := D) (ci := 1) (v := .int (nI a)) (C := RX0) (T := TX0) (N := 3) hx hb hts (by decide +kernel) hown hK hP 0 rfl rfl 2 (by decide) (hts (.fieldLink RX0 19 "TrackDisk$Reel" "stand" "I") (by decide +kernel)) (fun _ h9 => h9) rfl dX0_record_1 ?_
  refine lv_bipush (v := nI 100) hx hb dX0_record_4 (by decide) ?_
  refine lv_icmp_ge (tgt := 37) hx hb dX0_record_6 (by decide) (fun c_6 => ?_) (fun c_6 => ?_)
  · exact absurd c_6 (nI_ge ha (by omega))
  · skip
    refine lv_aload_n hx hb dX0_record_9 rfl (lv_at hl 0 rfl) ?_
    refine va_get (D := D) (ci := 1) (v := .ref ((ad 1))) (C := RX0) (T := TX0) (N := 3) hx hb hts (by decide +kernel) hown hK hP 0 rfl rfl 0 (by decide) (hts (.fieldLink RX0 9 "TrackDisk$Reel" "rows" "[I") (by decide +kernel)) (fun _ h9 => h9) rfl dX0_record_10 ?_
    refine lv_aload_n hx hb dX0_record_13 rfl (lv_at hl 0 rfl) ?_
    refine va_get (D := D) (ci := 1) (v := .int (nI a)) (C := RX0) (T := TX0) (N := 3) hx hb hts (by decide +kernel) hown hK hP 0 rfl rfl 2 (by decide) (hts (.fieldLink RX0 19 "TrackDisk$Reel" "stand" "I") (by decide +kernel)) (fun _ h9 => h9) rfl dX0_record_14 ?_
    refine lv_iload_n hx hb dX0_record_17 rfl (lv_at hl 1 rfl) ?_
    refine va_iast hx hb hK hP hD hS 1 0 rfl rfl (vp_in_nI (by omega) (by omega)) dX0_record_18 (fun H locs hP hD hS => ?_)
    rw [nI_clamp (n := a) (by omega)] at hP hD
    have hP : va_P D vwCl (reW κ ad (upd (tp) (a) (x)) tn (nI a)) H := hP
    have hD : va_D A (reW κ ad (upd (tp) (a) (x)) tn (nI a)) := hD
    refine lv_aload_n hx hb dX0_record_19 rfl (lv_at hl 0 rfl) ?_
    refine lv_dup hx hb dX0_record_20 rfl ?_
    refine va_get (D := D) (ci := 1) (v := .int (nI a)) (C := RX0) (T := TX0) (N := 3) hx hb hts (by decide +kernel) hown hK hP 0 rfl rfl 2 (by decide) (hts (.fieldLink RX0 19 "TrackDisk$Reel" "stand" "I") (by decide +kernel)) (fun _ h9 => h9) rfl dX0_record_21 ?_
    refine lv_iconst (v := nI 1) hx hb dX0_record_24 (by decide) ?_
    refine lv_iadd hx hb dX0_record_25 ?_
    refine tp_i (y := nI (a + 1)) (by exact nI_add _ _) ?_
    refine va_put (D := D) (ci := 1) (v := .int (nI (a + 1))) (ty := .int) (C := RX0) (T := TX0) (N := 3) hx hb hts (by decide +kernel) tyX0 tyX0_ok nmX0 hown hK hP hD hS 0 rfl rfl 2 (by decide) (hts (.fieldLink RX0 19 "TrackDisk$Reel" "stand" "I") (by decide +kernel)) (fun _ h9 => h9) rfl (by decide +kernel) rfl rfl (Nat.le_of_ble_eq_true rfl) dX0_record_26 (fun H locs hP hD hS => ?_)
    have hP : va_P D vwCl (reW κ ad (upd (tp) (a) (x)) tn (nI (a + 1))) H := hP
    have hD : va_D A (reW κ ad (upd (tp) (a) (x)) tn (nI (a + 1))) := hD
    refine lv_aload_n hx hb dX0_record_29 rfl (lv_at hl 0 rfl) ?_
    refine lv_aload_n hx hb dX0_record_30 rfl (lv_at hl 0 rfl) ?_
    refine va_get (D := D) (ci := 1) (v := .int (nI (a + 1))) (C := RX0) (T := TX0) (N := 3) hx hb hts (by decide +kernel) hown hK hP 0 rfl rfl 2 (by decide) (hts (.fieldLink RX0 19 "TrackDisk$Reel" "stand" "I") (by decide +kernel)) (fun _ h9 => h9) rfl dX0_record_31 ?_
    refine va_put (D := D) (ci := 1) (v := .int (nI (a + 1))) (ty := .int) (C := RX0) (T := TX0) (N := 3) hx hb hts (by decide +kernel) tyX0 tyX0_ok nmX0 hown hK hP hD hS 0 rfl rfl 1 (by decide) (hts (.fieldLink RX0 15 "TrackDisk$Reel" "size" "I") (by decide +kernel)) (fun _ h9 => h9) rfl (by decide +kernel) rfl rfl (Nat.le_of_ble_eq_true rfl) dX0_record_34 (fun H locs hP hD hS => ?_)
    have hP : va_P D vwCl (reW κ ad (upd (tp) (a) (x)) (nI (a + 1)) (nI (a + 1))) H := hP
    have hD : va_D A (reW κ ad (upd (tp) (a) (x)) (nI (a + 1)) (nI (a + 1))) := hD
    have hP9 : va_P D vwCl (reW κ ad (upd tp a x) (nI (a + 1)) (nI (a + 1))) H := hP
    have hD9 : va_D A (reW κ ad (upd tp a x) (nI (a + 1)) (nI (a + 1))) := hD
    exact W.vret hx hb hr (fun t ht _ => ⟨⟨rfl, by rw [ht]; exact hP9, hD9⟩, hS.F ht⟩) hS.2.2 dX0_record_37 hlocks

set_option maxHeartbeats 4000000 in
set_option maxRecDepth 100000 in
/-- record, full -/
theorem c_recordF (l : Launch) (D : va_G) (κ : Nat → ClassId) (sz : Nat) (ad : Nat → Nat) (tp : Nat → Int32) (tn ts : Int32) (ha : nI 100 ≤ ts) (x : Int32) : Met l yX0_record wsX0_record ({ frames := 0, cells := 0, slots := 0, locals := 0 }) (va_Pc [.ref ((ad 0)), .int x] (mu_B D κ (reW κ ad tp tn ts) sz)) (mu_Q D none (reW κ ad tp tn ts) (va_A (reW κ ad tp tn ts) sz)) 0 0 (va_A (reW κ ad tp tn ts) sz) := by
  refine Met.ofW (cc := cX0_record) (maxL := 2) (ret := none) (by decide) rfl ?_
  intro p e s m args below meth c s₁ B hml hv
  obtain ⟨rfl, hsz, hP, hK, hD0⟩ := hv
  have hx := B.exec
  have hb := B.bytes
  have hr := B.returns
  have hts := atoms_spec (ws := wsX0_record) B.pre
  have hown : s.vm.findClass RX0 = some m.cls := findClass_of_methodNamed B.named
  have hlocks := B.notSynchronized
  subst hsz
  have hD := hD0.self (sz := s.heap.size)
  generalize hAe : va_A (reW κ ad tp tn ts) s.heap.size = A at hD ⊢
  have hA : ∀ q : Nat, s.heap.size ≤ q → A q := fun q h => by rw [← hAe]; exact Or.inr h
  refine W.gen (P := fun H locs => va_P D vwCl (reW κ ad tp tn ts) H ∧ va_S A s.heap H locs) (fun H locs h => ?_) ⟨hP, va_S.rf⟩
  clear hP
  obtain ⟨hP, hS⟩ := h
  have hl := lv_entry ([.ref ((ad 0)), .int x]) (n := 2) (Nat.le_of_ble_eq_true rfl)
  rw [lg_entry_eq]
  generalize (lg_sl ([.ref ((ad 0)), .int x]) ++ List.replicate (2 - (lg_sl ([.ref ((ad 0)), .int x])).length) Slot.unset).toArray = ls at hl ⊢
  have hl : lv_has ls 2 [(0, .ref ((ad 0))), (1, .int x)] := hl
  refine lv_aload_n hx hb dX0_record_0 rfl (lv_at hl 0 rfl) ?_
  refine va_get (D := D) (ci := 1) (v := .int ts) (C := RX0) (T := TX0) (N := 3) hx hb hts (by decide +kernel) hown hK hP 0 rfl rfl 2 (by decide) (hts (.fieldLink RX0 19 "TrackDisk$Reel" "stand" "I") (by decide +kernel)) (fun _ h9 => h9) rfl dX0_record_1 ?_
  refine lv_bipush (v := nI 100) hx hb dX0_record_4 (by decide) ?_
  refine lv_icmp_ge (tgt := 37) hx hb dX0_record_6 (by decide) (fun c_6 => ?_) (fun c_6 => ?_)
  · skip
    have hP9 : va_P D vwCl (reW κ ad tp tn ts) H := hP
    have hD9 : va_D A (reW κ ad tp tn ts) := hD
    exact W.vret hx hb hr (fun t ht _ => ⟨⟨rfl, by rw [ht]; exact hP9, hD9⟩, hS.F ht⟩) hS.2.2 dX0_record_37 hlocks
  · exact absurd ha c_6

set_option maxHeartbeats 4000000 in
set_option maxRecDepth 100000 in
/-- pass -/
theorem c_pass (l : Launch) (D : va_G) (κ : Nat → ClassId) (sz : Nat) (ad : Nat → Nat) (tp : Nat → Int32) (n a : Nat) (ha : a < n) (hn : n ≤ 100) : Met l yX0_pass wsX0_pass ({ frames := 0, cells := 0, slots := 0, locals := 0 }) (va_Pc [.ref ((ad 0))] (mu_B D κ (reW κ ad tp (nI n) (nI a)) sz)) (mu_Q D (some (.int (tp a))) (reW κ ad tp (nI n) (nI (a + 1))) (va_A (reW κ ad tp (nI n) (nI a)) sz)) 0 0 (va_A (reW κ ad tp (nI n) (nI a)) sz) := by
  refine Met.ofW (cc := cX0_pass) (maxL := 2) (ret := (some .int)) (by decide) rfl ?_
  intro p e s m args below meth c s₁ B hml hv
  obtain ⟨rfl, hsz, hP, hK, hD0⟩ := hv
  have hx := B.exec
  have hb := B.bytes
  have hr := B.returns
  have hts := atoms_spec (ws := wsX0_pass) B.pre
  have hown : s.vm.findClass RX0 = some m.cls := findClass_of_methodNamed B.named
  have hlocks := B.notSynchronized
  subst hsz
  have hD := hD0.self (sz := s.heap.size)
  generalize hAe : va_A (reW κ ad tp (nI n) (nI a)) s.heap.size = A at hD ⊢
  have hA : ∀ q : Nat, s.heap.size ≤ q → A q := fun q h => by rw [← hAe]; exact Or.inr h
  refine W.gen (P := fun H locs => va_P D vwCl (reW κ ad tp (nI n) (nI a)) H ∧ va_S A s.heap H locs) (fun H locs h => ?_) ⟨hP, va_S.rf⟩
  clear hP
  obtain ⟨hP, hS⟩ := h
  have hl := lv_entry ([.ref ((ad 0))]) (n := 2) (Nat.le_of_ble_eq_true rfl)
  rw [lg_entry_eq]
  generalize (lg_sl ([.ref ((ad 0))]) ++ List.replicate (2 - (lg_sl ([.ref ((ad 0))])).length) Slot.unset).toArray = ls at hl ⊢
  have hl : lv_has ls 2 [(0, .ref ((ad 0)))] := hl
  refine lv_aload_n hx hb dX0_pass_0 rfl (lv_at hl 0 rfl) ?_
  refine va_get (D := D) (ci := 1) (v := .int (nI a)) (C := RX0) (T := TX0) (N := 3) hx hb hts (by decide +kernel) hown hK hP 0 rfl rfl 2 (by decide) (hts (.fieldLink RX0 19 "TrackDisk$Reel" "stand" "I") (by decide +kernel)) (fun _ h9 => h9) rfl dX0_pass_1 ?_
  refine lv_aload_n hx hb dX0_pass_4 rfl (lv_at hl 0 rfl) ?_
  refine va_get (D := D) (ci := 1) (v := .int (nI n)) (C := RX0) (T := TX0) (N := 3) hx hb hts (by decide +kernel) hown hK hP 0 rfl rfl 1 (by decide) (hts (.fieldLink RX0 15 "TrackDisk$Reel" "size" "I") (by decide +kernel)) (fun _ h9 => h9) rfl dX0_pass_5 ?_
  refine lv_icmp_lt (tgt := 13) hx hb dX0_pass_8 (by decide) (fun c_8 => ?_) (fun c_8 => ?_)
  · skip
    refine lv_aload_n hx hb dX0_pass_13 rfl (lv_at hl 0 rfl) ?_
    refine va_get (D := D) (ci := 1) (v := .ref ((ad 1))) (C := RX0) (T := TX0) (N := 3) hx hb hts (by decide +kernel) hown hK hP 0 rfl rfl 0 (by decide) (hts (.fieldLink RX0 9 "TrackDisk$Reel" "rows" "[I") (by decide +kernel)) (fun _ h9 => h9) rfl dX0_pass_14 ?_
    refine lv_aload_n hx hb dX0_pass_17 rfl (lv_at hl 0 rfl) ?_
    refine va_get (D := D) (ci := 1) (v := .int (nI a)) (C := RX0) (T := TX0) (N := 3) hx hb hts (by decide +kernel) hown hK hP 0 rfl rfl 2 (by decide) (hts (.fieldLink RX0 19 "TrackDisk$Reel" "stand" "I") (by decide +kernel)) (fun _ h9 => h9) rfl dX0_pass_18 ?_
    refine va_iald hx hb hK hP 1 0 rfl rfl (vp_in_nI (by omega) (by omega)) dX0_pass_21 ?_
    refine tp_i (y := tp a) (by rw [nI_clamp (by omega)]) ?_
    refine lv_istore_n (lv' := [(1, .int (tp a)), (0, .ref ((ad 0)))]) hx hb dX0_pass_22 rfl hl (by decide) rfl (fun ls hl => ?_)
    refine lv_aload_n hx hb dX0_pass_23 rfl (lv_at hl 1 rfl) ?_
    refine lv_dup hx hb dX0_pass_24 rfl ?_
    refine va_get (D := D) (ci := 1) (v := .int (nI a)) (C := RX0) (T := TX0) (N := 3) hx hb hts (by decide +kernel) hown hK hP 0 rfl rfl 2 (by decide) (hts (.fieldLink RX0 19 "TrackDisk$Reel" "stand" "I") (by decide +kernel)) (fun _ h9 => h9) rfl dX0_pass_25 ?_
    refine lv_iconst (v := nI 1) hx hb dX0_pass_28 (by decide) ?_
    refine lv_iadd hx hb dX0_pass_29 ?_
    refine tp_i (y := nI (a + 1)) (by exact nI_add _ _) ?_
    refine va_put (D := D) (ci := 1) (v := .int (nI (a + 1))) (ty := .int) (C := RX0) (T := TX0) (N := 3) hx hb hts (by decide +kernel) tyX0 tyX0_ok nmX0 hown hK hP hD hS 0 rfl rfl 2 (by decide) (hts (.fieldLink RX0 19 "TrackDisk$Reel" "stand" "I") (by decide +kernel)) (fun _ h9 => h9) rfl (by decide +kernel) rfl rfl (Nat.le_of_ble_eq_true rfl) dX0_pass_30 (fun H locs hP hD hS => ?_)
    have hP : va_P D vwCl (reW κ ad tp (nI n) (nI (a + 1))) H := hP
    have hD : va_D A (reW κ ad tp (nI n) (nI (a + 1))) := hD
    refine lv_iload_n hx hb dX0_pass_33 rfl (lv_at hl 0 rfl) ?_
    have hP9 : va_P D vwCl (reW κ ad tp (nI n) (nI (a + 1))) H := hP
    have hD9 : va_D A (reW κ ad tp (nI n) (nI (a + 1))) := hD
    exact W.iret hx hb hr (fun t ht _ => ⟨⟨rfl, by rw [ht]; exact hP9, hD9⟩, hS.F ht⟩) hS.2.2 dX0_pass_34 hlocks
  · exact absurd (nI_lt ha (by omega)) c_8

set_option maxHeartbeats 4000000 in
set_option maxRecDepth 100000 in
/-- pass, at the end -/
theorem c_passE (l : Launch) (D : va_G) (κ : Nat → ClassId) (sz : Nat) (ad : Nat → Nat) (tp : Nat → Int32) (tn ts : Int32) (ha : ¬ ts < tn) : Met l yX0_pass wsX0_pass ({ frames := 0, cells := 0, slots := 0, locals := 0 }) (va_Pc [.ref ((ad 0))] (mu_B D κ (reW κ ad tp tn ts) sz)) (mu_Q D (some (.int ((-1)))) (reW κ ad tp tn ts) (va_A (reW κ ad tp tn ts) sz)) 0 0 (va_A (reW κ ad tp tn ts) sz) := by
  refine Met.ofW (cc := cX0_pass) (maxL := 2) (ret := (some .int)) (by decide) rfl ?_
  intro p e s m args below meth c s₁ B hml hv
  obtain ⟨rfl, hsz, hP, hK, hD0⟩ := hv
  have hx := B.exec
  have hb := B.bytes
  have hr := B.returns
  have hts := atoms_spec (ws := wsX0_pass) B.pre
  have hown : s.vm.findClass RX0 = some m.cls := findClass_of_methodNamed B.named
  have hlocks := B.notSynchronized
  subst hsz
  have hD := hD0.self (sz := s.heap.size)
  generalize hAe : va_A (reW κ ad tp tn ts) s.heap.size = A at hD ⊢
  have hA : ∀ q : Nat, s.heap.size ≤ q → A q := fun q h => by rw [← hAe]; exact Or.inr h
  refine W.gen (P := fun H locs => va_P D vwCl (reW κ ad tp tn ts) H ∧ va_S A s.heap H locs) (fun H locs h => ?_) ⟨hP, va_S.rf⟩
  clear hP
  obtain ⟨hP, hS⟩ := h
  have hl := lv_entry ([.ref ((ad 0))]) (n := 2) (Nat.le_of_ble_eq_true rfl)
  rw [lg_entry_eq]
  generalize (lg_sl ([.ref ((ad 0))]) ++ List.replicate (2 - (lg_sl ([.ref ((ad 0))])).length) Slot.unset).toArray = ls at hl ⊢
  have hl : lv_has ls 2 [(0, .ref ((ad 0)))] := hl
  refine lv_aload_n hx hb dX0_pass_0 rfl (lv_at hl 0 rfl) ?_
  refine va_get (D := D) (ci := 1) (v := .int ts) (C := RX0) (T := TX0) (N := 3) hx hb hts (by decide +kernel) hown hK hP 0 rfl rfl 2 (by decide) (hts (.fieldLink RX0 19 "TrackDisk$Reel" "stand" "I") (by decide +kernel)) (fun _ h9 => h9) rfl dX0_pass_1 ?_
  refine lv_aload_n hx hb dX0_pass_4 rfl (lv_at hl 0 rfl) ?_
  refine va_get (D := D) (ci := 1) (v := .int tn) (C := RX0) (T := TX0) (N := 3) hx hb hts (by decide +kernel) hown hK hP 0 rfl rfl 1 (by decide) (hts (.fieldLink RX0 15 "TrackDisk$Reel" "size" "I") (by decide +kernel)) (fun _ h9 => h9) rfl dX0_pass_5 ?_
  refine lv_icmp_lt (tgt := 13) hx hb dX0_pass_8 (by decide) (fun c_8 => ?_) (fun c_8 => ?_)
  · exact absurd c_8 ha
  · skip
    refine lv_iconst (v := (-1)) hx hb dX0_pass_11 (by decide) ?_
    have hP9 : va_P D vwCl (reW κ ad tp tn ts) H := hP
    have hD9 : va_D A (reW κ ad tp tn ts) := hD
    exact W.iret hx hb hr (fun t ht _ => ⟨⟨rfl, by rw [ht]; exact hP9, hD9⟩, hS.F ht⟩) hS.2.2 dX0_pass_12 hlocks

set_option maxHeartbeats 4000000 in
set_option maxRecDepth 100000 in
/-- held -/
theorem c_held (l : Launch) (D : va_G) (κ : Nat → ClassId) (x lo hi : Int32) : Met l yX3_held wsX3_held ({ frames := 1, cells := 0, slots := 0, locals := 40 }) (va_Pc [.int x, .int lo, .int hi] (pu_B D κ ([]))) (pu_Q (.int (hdF x lo hi))) 0 0 pu_N := by
  refine Met.ofW (cc := cX3_held) (maxL := 3) (ret := (some .int)) (by decide) rfl ?_
  intro p e s m args below meth c s₁ B hml hv
  obtain ⟨rfl, hP, hK⟩ := hv
  have hx := B.exec
  have hb := B.bytes
  have hr := B.returns
  have hts := atoms_spec (ws := wsX3_held) B.pre
  have hown : s.vm.findClass RX3 = some m.cls := findClass_of_methodNamed B.named
  have hlocks := B.notSynchronized
  have hl := lv_entry ([.int x, .int lo, .int hi]) (n := 3) (Nat.le_of_ble_eq_true rfl)
  rw [lg_entry_eq]
  generalize (lg_sl ([.int x, .int lo, .int hi]) ++ List.replicate (3 - (lg_sl ([.int x, .int lo, .int hi])).length) Slot.unset).toArray = ls at hl ⊢
  have hl : lv_has ls 3 [(0, .int x), (1, .int lo), (2, .int hi)] := hl
  refine lv_iload_n hx hb dX3_held_0 rfl (lv_at hl 1 rfl) ?_
  refine lv_iload_n hx hb dX3_held_1 rfl (lv_at hl 2 rfl) ?_
  refine lv_iload_n hx hb dX3_held_2 rfl (lv_at hl 0 rfl) ?_
  refine va_mmin hx hb (by rw [hml]; exact hl.1.symm) hown (hts (.methodLink RX3 158 Lib.Math.min.name) (by decide +kernel)) (hts (.static Lib.Math.min.name) (by decide +kernel)) (hts (.initialized "java/lang/Math") (by decide +kernel)) (hts (.code Lib.Math.min.name Lib.Math.min.code 2 (some .int)) (by decide +kernel)) (Nat.le_of_ble_eq_true rfl) (Nat.le_of_ble_eq_true rfl) (Nat.zero_le _) (Nat.zero_le _) dX3_held_3 ?_
  refine va_mmax hx hb (by rw [hml]; exact hl.1.symm) hown (hts (.methodLink RX3 163 Lib.Math.max.name) (by decide +kernel)) (hts (.static Lib.Math.max.name) (by decide +kernel)) (hts (.initialized "java/lang/Math") (by decide +kernel)) (hts (.code Lib.Math.max.name Lib.Math.max.code 2 (some .int)) (by decide +kernel)) (Nat.le_of_ble_eq_true rfl) (Nat.le_of_ble_eq_true rfl) (Nat.zero_le _) (Nat.zero_le _) dX3_held_6 ?_
  refine tp_i (y := hdF x lo hi) (by rfl) ?_
  exact pu_iret hx hb hr hlocks dX3_held_9

set_option maxHeartbeats 4000000 in
set_option maxRecDepth 100000 in
/-- isByteNumber -/
theorem c_isByte (l : Launch) (D : va_G) (κ : Nat → ClassId) (x : Int32) : Met l yX3_isByteNumber wsX3_isByteNumber ({ frames := 0, cells := 0, slots := 0, locals := 0 }) (va_Pc [.int x] (pu_B D κ ([]))) (pu_Q (.int (bI (inF x 16)))) 0 0 pu_N := by
  refine Met.ofW (cc := cX3_isByteNumber) (maxL := 1) (ret := (some .boolean)) (by decide) rfl ?_
  intro p e s m args below meth c s₁ B hml hv
  obtain ⟨rfl, hP, hK⟩ := hv
  have hx := B.exec
  have hb := B.bytes
  have hr := B.returns
  have hts := atoms_spec (ws := wsX3_isByteNumber) B.pre
  have hown : s.vm.findClass RX3 = some m.cls := findClass_of_methodNamed B.named
  have hlocks := B.notSynchronized
  have hl := lv_entry ([.int x]) (n := 1) (Nat.le_of_ble_eq_true rfl)
  rw [lg_entry_eq]
  generalize (lg_sl ([.int x]) ++ List.replicate (1 - (lg_sl ([.int x])).length) Slot.unset).toArray = ls at hl ⊢
  have hl : lv_has ls 1 [(0, .int x)] := hl
  refine lv_iload_n hx hb dX3_isByteNumber_0 rfl (lv_at hl 0 rfl) ?_
  refine lv_if_lt (tgt := 14) hx hb dX3_isByteNumber_1 (by decide) (fun c_1 => ?_) (fun c_1 => ?_)
  · skip
    refine lv_iconst (v := nI 0) hx hb dX3_isByteNumber_14 (by decide) ?_
    refine tp_i (y := bI (inF x 16)) (by first | exact bI_f (inF_f1 c_1) | exact bI_f (inF_f2 c_7) | exact bI_t (inF_t c_1 c_7)) ?_
    exact pu_zret hx hb hr (by cases inF x 16 <;> rfl) hlocks dX3_isByteNumber_15
  · skip
    refine lv_iload_n hx hb dX3_isByteNumber_4 rfl (lv_at hl 0 rfl) ?_
    refine lv_bipush (v := nI 16) hx hb dX3_isByteNumber_5 (by decide) ?_
    refine lv_icmp_ge (tgt := 14) hx hb dX3_isByteNumber_7 (by decide) (fun c_7 => ?_) (fun c_7 => ?_)
    · skip
      refine lv_iconst (v := nI 0) hx hb dX3_isByteNumber_14 (by decide) ?_
      refine tp_i (y := bI (inF x 16)) (by first | exact bI_f (inF_f1 c_1) | exact bI_f (inF_f2 c_7) | exact bI_t (inF_t c_1 c_7)) ?_
      exact pu_zret hx hb hr (by cases inF x 16 <;> rfl) hlocks dX3_isByteNumber_15
    · skip
      refine lv_iconst (v := nI 1) hx hb dX3_isByteNumber_10 (by decide) ?_
      refine lv_goto (tgt := 15) hx hb dX3_isByteNumber_11 (by decide) ?_
      refine tp_i (y := bI (inF x 16)) (by first | exact bI_f (inF_f1 c_1) | exact bI_f (inF_f2 c_7) | exact bI_t (inF_t c_1 c_7)) ?_
      exact pu_zret hx hb hr (by cases inF x 16 <;> rfl) hlocks dX3_isByteNumber_15

set_option maxHeartbeats 4000000 in
set_option maxRecDepth 100000 in
/-- hasTrack -/
theorem c_hasTrack (l : Launch) (D : va_G) (κ : Nat → ClassId) (T S : Nat) (ad : Nat → Nat) (bs sm pl r0 r1 : Nat → Int32) (tk vo : Int32) (du : Nat → Option Nat) (nd : Int32) (wt wx wb : Nat → Int32) (wn : Int32) (tp : Nat → Int32) (tn ts dn : Int32) (x : Int32) : Met l yX3_hasTrack wsX3_hasTrack ({ frames := 0, cells := 0, slots := 0, locals := 0 }) (va_Pc [.ref ((ad 0)), .int x] (pu_B D κ (tdW κ T S ad bs sm pl r0 r1 tk vo du nd wt wx wb wn tp tn ts dn))) (pu_Q (.int (bI (inF x T)))) 0 0 pu_N := by
  refine Met.ofW (cc := cX3_hasTrack) (maxL := 2) (ret := (some .boolean)) (by decide) rfl ?_
  intro p e s m args below meth c s₁ B hml hv
  obtain ⟨rfl, hP, hK⟩ := hv
  have hx := B.exec
  have hb := B.bytes
  have hr := B.returns
  have hts := atoms_spec (ws := wsX3_hasTrack) B.pre
  have hown : s.vm.findClass RX3 = some m.cls := findClass_of_methodNamed B.named
  have hlocks := B.notSynchronized
  have hl := lv_entry ([.ref ((ad 0)), .int x]) (n := 2) (Nat.le_of_ble_eq_true rfl)
  rw [lg_entry_eq]
  generalize (lg_sl ([.ref ((ad 0)), .int x]) ++ List.replicate (2 - (lg_sl ([.ref ((ad 0)), .int x])).length) Slot.unset).toArray = ls at hl ⊢
  have hl : lv_has ls 2 [(0, .ref ((ad 0))), (1, .int x)] := hl
  refine lv_iload_n hx hb dX3_hasTrack_0 rfl (lv_at hl 1 rfl) ?_
  refine lv_if_lt (tgt := 16) hx hb dX3_hasTrack_1 (by decide) (fun c_1 => ?_) (fun c_1 => ?_)
  · skip
    refine lv_iconst (v := nI 0) hx hb dX3_hasTrack_16 (by decide) ?_
    refine tp_i (y := bI (inF x T)) (by first | exact bI_f (inF_f1 c_1) | exact bI_f (inF_f2 c_9) | exact bI_t (inF_t c_1 c_9)) ?_
    exact pu_zret hx hb hr (by cases inF x T <;> rfl) hlocks dX3_hasTrack_17
  · skip
    refine lv_iload_n hx hb dX3_hasTrack_4 rfl (lv_at hl 1 rfl) ?_
    refine lv_aload_n hx hb dX3_hasTrack_5 rfl (lv_at hl 0 rfl) ?_
    refine va_get (D := D) (ci := 4) (v := .int (nI T)) (C := RX3) (T := TX3) (N := 8) hx hb hts (by decide +kernel) hown hK hP 0 rfl rfl 0 (by decide) (hts (.fieldLink RX3 13 "TrackDisk" "tracks" "I") (by decide +kernel)) (fun _ h9 => h9) rfl dX3_hasTrack_6 ?_
    refine lv_icmp_ge (tgt := 16) hx hb dX3_hasTrack_9 (by decide) (fun c_9 => ?_) (fun c_9 => ?_)
    · skip
      refine lv_iconst (v := nI 0) hx hb dX3_hasTrack_16 (by decide) ?_
      refine tp_i (y := bI (inF x T)) (by first | exact bI_f (inF_f1 c_1) | exact bI_f (inF_f2 c_9) | exact bI_t (inF_t c_1 c_9)) ?_
      exact pu_zret hx hb hr (by cases inF x T <;> rfl) hlocks dX3_hasTrack_17
    · skip
      refine lv_iconst (v := nI 1) hx hb dX3_hasTrack_12 (by decide) ?_
      refine lv_goto (tgt := 17) hx hb dX3_hasTrack_13 (by decide) ?_
      refine tp_i (y := bI (inF x T)) (by first | exact bI_f (inF_f1 c_1) | exact bI_f (inF_f2 c_9) | exact bI_t (inF_t c_1 c_9)) ?_
      exact pu_zret hx hb hr (by cases inF x T <;> rfl) hlocks dX3_hasTrack_17

set_option maxHeartbeats 4000000 in
set_option maxRecDepth 100000 in
/-- hasSector -/
theorem c_hasSector (l : Launch) (D : va_G) (κ : Nat → ClassId) (T S : Nat) (ad : Nat → Nat) (bs sm pl r0 r1 : Nat → Int32) (tk vo : Int32) (du : Nat → Option Nat) (nd : Int32) (wt wx wb : Nat → Int32) (wn : Int32) (tp : Nat → Int32) (tn ts dn : Int32) (x y : Int32) : Met l yX3_hasSector wsX3_hasSector ({ frames := 1, cells := 0, slots := 0, locals := 21 }) (va_Pc [.ref ((ad 0)), .int x, .int y] (pu_B D κ (tdW κ T S ad bs sm pl r0 r1 tk vo du nd wt wx wb wn tp tn ts dn))) (pu_Q (.int (bI (inF x T && inF y S)))) 0 0 pu_N := by
  refine Met.ofW (cc := cX3_hasSector) (maxL := 3) (ret := (some .boolean)) (by decide) rfl ?_
  intro p e s m args below meth c s₁ B hml hv
  obtain ⟨rfl, hP, hK⟩ := hv
  have hx := B.exec
  have hb := B.bytes
  have hr := B.returns
  have hts := atoms_spec (ws := wsX3_hasSector) B.pre
  have hown : s.vm.findClass RX3 = some m.cls := findClass_of_methodNamed B.named
  have hlocks := B.notSynchronized
  have hl := lv_entry ([.ref ((ad 0)), .int x, .int y]) (n := 3) (Nat.le_of_ble_eq_true rfl)
  rw [lg_entry_eq]
  generalize (lg_sl ([.ref ((ad 0)), .int x, .int y]) ++ List.replicate (3 - (lg_sl ([.ref ((ad 0)), .int x, .int y])).length) Slot.unset).toArray = ls at hl ⊢
  have hl : lv_has ls 3 [(0, .ref ((ad 0))), (1, .int x), (2, .int y)] := hl
  refine lv_aload_n hx hb dX3_hasSector_0 rfl (lv_at hl 0 rfl) ?_
  refine lv_iload_n hx hb dX3_hasSector_1 rfl (lv_at hl 1 rfl) ?_
  have hPc := hP.sub (ws' := tdW κ T S ad bs sm pl r0 r1 tk vo du nd wt wx wb wn tp tn ts dn) [0, 1, 2, 3, 4, 5, 6, 7, 8, 9, 10, 11, 12, 13] rfl
  refine pu_call (va_runV (As := [.int x]) (rest := []) ⟨hx, hb, hml, hown, hts⟩ (c_hasTrack l D κ T S ad bs sm pl r0 r1 tk vo du nd wt wx wb wn tp tn ts dn x) (cwV 1 hts gX3_hasSector_X3_hasTrack rfl rfl rfl (by decide +kernel) ⟨Nat.le_of_ble_eq_true rfl, Nat.le_of_ble_eq_true rfl⟩) ⟨pu_blind, va_recv hK hPc (ci := 4) (q0 := 0) rfl rfl, pu_pre hK hPc⟩ rfl rfl hl.1 rfl (lv_room (Nat.le_of_ble_eq_true rfl)) dX3_hasSector_2 ⟨Nat.le_of_ble_eq_true rfl, Nat.le_of_ble_eq_true rfl⟩) ?_
  refine lv_if_eq (tgt := 24) hx hb dX3_hasSector_5 (by decide) (fun c_5 => ?_) (fun c_5 => ?_)
  · skip
    refine lv_iconst (v := nI 0) hx hb dX3_hasSector_24 (by decide) ?_
    refine tp_i (y := bI (inF x T && inF y S)) (by first | exact bI_f (by rw [bI_eq c_5]; rfl) | exact bI_f (by rw [inF_f1 c_9, Bool.and_false]) | exact bI_f (by rw [inF_f2 c_17, Bool.and_false]) | exact bI_t (by rw [bI_ne c_5, inF_t c_9 c_17]; rfl)) ?_
    exact pu_zret hx hb hr (by cases (inF x T && inF y S) <;> rfl) hlocks dX3_hasSector_25
  · skip
    refine lv_iload_n hx hb dX3_hasSector_8 rfl (lv_at hl 2 rfl) ?_
    refine lv_if_lt (tgt := 24) hx hb dX3_hasSector_9 (by decide) (fun c_9 => ?_) (fun c_9 => ?_)
    · skip
      refine lv_iconst (v := nI 0) hx hb dX3_hasSector_24 (by decide) ?_
      refine tp_i (y := bI (inF x T && inF y S)) (by first | exact bI_f (by rw [bI_eq c_5]; rfl) | exact bI_f (by rw [inF_f1 c_9, Bool.and_false]) | exact bI_f (by rw [inF_f2 c_17, Bool.and_false]) | exact bI_t (by rw [bI_ne c_5, inF_t c_9 c_17]; rfl)) ?_
      exact pu_zret hx hb hr (by cases (inF x T && inF y S) <;> rfl) hlocks dX3_hasSector_25
    · skip
      refine lv_iload_n hx hb dX3_hasSector_12 rfl (lv_at hl 2 rfl) ?_
      refine lv_aload_n hx hb dX3_hasSector_13 rfl (lv_at hl 0 rfl) ?_
      refine va_get (D := D) (ci := 4) (v := .int (nI S)) (C := RX3) (T := TX3) (N := 8) hx hb hts (by decide +kernel) hown hK hP 0 rfl rfl 1 (by decide) (hts (.fieldLink RX3 17 "TrackDisk" "sectors" "I") (by decide +kernel)) (fun _ h9 => h9) rfl dX3_hasSector_14 ?_
      refine lv_icmp_ge (tgt := 24) hx hb dX3_hasSector_17 (by decide) (fun c_17 => ?_) (fun c_17 => ?_)
      · skip
        refine lv_iconst (v := nI 0) hx hb dX3_hasSector_24 (by decide) ?_
        refine tp_i (y := bI (inF x T && inF y S)) (by first | exact bI_f (by rw [bI_eq c_5]; rfl) | exact bI_f (by rw [inF_f1 c_9, Bool.and_false]) | exact bI_f (by rw [inF_f2 c_17, Bool.and_false]) | exact bI_t (by rw [bI_ne c_5, inF_t c_9 c_17]; rfl)) ?_
        exact pu_zret hx hb hr (by cases (inF x T && inF y S) <;> rfl) hlocks dX3_hasSector_25
      · skip
        refine lv_iconst (v := nI 1) hx hb dX3_hasSector_20 (by decide) ?_
        refine lv_goto (tgt := 25) hx hb dX3_hasSector_21 (by decide) ?_
        refine tp_i (y := bI (inF x T && inF y S)) (by first | exact bI_f (by rw [bI_eq c_5]; rfl) | exact bI_f (by rw [inF_f1 c_9, Bool.and_false]) | exact bI_f (by rw [inF_f2 c_17, Bool.and_false]) | exact bI_t (by rw [bI_ne c_5, inF_t c_9 c_17]; rfl)) ?_
        exact pu_zret hx hb hr (by cases (inF x T && inF y S) <;> rfl) hlocks dX3_hasSector_25

/-- the waiting writes, done one behind another: bytes, sums, row 0, row 1 -/
abbrev LY : Type := (Nat → Int32) × (Nat → Int32) × (Nat → Int32) × (Nat → Int32)
def ly1 (S : Nat) (pl : Nat → Int32) (t s : Nat) (x : Int32) (q : LY) : LY := (flF q.1 ((cl (pl t) * S + s) * 16) x 16, upd q.2.1 (cl (pl t) * S + s) (smA (flF q.1 ((cl (pl t) * S + s) * 16) x 16) S (cl (pl t)) s), upd q.2.2.1 t (nI 1), upd q.2.2.2 t (nI 1))
def lyF (S : Nat) (pl wt wx wb : Nat → Int32) (q : LY) : Nat → LY
  | 0 => q
  | n + 1 => ly1 S pl (cl (wt n)) (cl (wx n)) (wb n) (lyF S pl wt wx wb q n)

set_option maxHeartbeats 4000000 in
set_option maxRecDepth 100000 in
/-- layFirst(many) -/
theorem c_layFirst (l : Launch) (D : va_G) (κ : Nat → ClassId) (sz : Nat) (T S : Nat) (ad : Nat → Nat) (bs sm pl r0 r1 : Nat → Int32) (tk vo : Int32) (du : Nat → Option Nat) (nd : Int32) (wt wx wb : Nat → Int32) (wn : Int32) (tp : Nat → Int32) (tn ts dn : Int32) (hT : T ≤ 12) (hS8 : S ≤ 8) (hpl : ∀ t, t < T → vp_in (pl t) (T + 2)) (n : Nat) (hn : n ≤ 40) (hwt : ∀ k, k < n → vp_in (wt k) T) (hwx : ∀ k, k < n → vp_in (wx k) S)  : Met l yX3_layFirst wsX3_layFirst ({ frames := 4, cells := 0, slots := 0, locals := 94 }) (va_Pc [.ref ((ad 0)), .int (nI n)] (mu_B D κ (tdW κ T S ad bs sm pl r0 r1 tk vo du nd wt wx wb wn tp tn ts dn) sz)) (mu_Q D none (tdW κ T S ad ((lyF S pl wt wx wb (bs, sm, r0, r1) n).1) ((lyF S pl wt wx wb (bs, sm, r0, r1) n).2.1) pl ((lyF S pl wt wx wb (bs, sm, r0, r1) n).2.2.1) ((lyF S pl wt wx wb (bs, sm, r0, r1) n).2.2.2) tk vo du nd wt wx wb wn tp tn ts dn) (va_A (tdW κ T S ad bs sm pl r0 r1 tk vo du nd wt wx wb wn tp tn ts dn) sz)) 0 0 (va_A (tdW κ T S ad bs sm pl r0 r1 tk vo du nd wt wx wb wn tp tn ts dn) sz) := by
  refine Met.ofW (cc := cX3_layFirst) (maxL := 3) (ret := none) (by decide) rfl ?_
  intro p e s m args below meth c s₁ B hml hv
  obtain ⟨rfl, hsz, hP, hK, hD0⟩ := hv
  have hx := B.exec
  have hb := B.bytes
  have hr := B.returns
  have hts := atoms_spec (ws := wsX3_layFirst) B.pre
  have hown : s.vm.findClass RX3 = some m.cls := findClass_of_methodNamed B.named
  have hlocks := B.notSynchronized
  subst hsz
  have hD := hD0.self (sz := s.heap.size)
  generalize hAe : va_A (tdW κ T S ad bs sm pl r0 r1 tk vo du nd wt wx wb wn tp tn ts dn) s.heap.size = A at hD ⊢
  have hA : ∀ q : Nat, s.heap.size ≤ q → A q := fun q h => by rw [← hAe]; exact Or.inr h
  refine W.gen (P := fun H locs => va_P D vwCl (tdW κ T S ad bs sm pl r0 r1 tk vo du nd wt wx wb wn tp tn ts dn) H ∧ va_S A s.heap H locs) (fun H locs h => ?_) ⟨hP, va_S.rf⟩
  clear hP
  obtain ⟨hP, hS⟩ := h
  have hl := lv_entry ([.ref ((ad 0)), .int (nI n)]) (n := 3) (Nat.le_of_ble_eq_true rfl)
  rw [lg_entry_eq]
  generalize (lg_sl ([.ref ((ad 0)), .int (nI n)]) ++ List.replicate (3 - (lg_sl ([.ref ((ad 0)), .int (nI n)])).length) Slot.unset).toArray = ls at hl ⊢
  have hl : lv_has ls 3 [(0, .ref ((ad 0))), (1, .int (nI n))] := hl
  have hmx := sf_max hT hS8
  refine lv_iconst (v := nI 0) hx hb dX3_layFirst_0 (by decide) ?_
  refine lv_istore_n (lv' := [(2, .int (nI 0)), (0, .ref ((ad 0))), (1, .int (nI n))]) hx hb dX3_layFirst_1 rfl hl (by decide) rfl (fun ls hl => ?_)
  refine W.loop (N := n) (I := fun k ls H locs => lv_has ls 3 [(2, .int (nI k)), (0, .ref ((ad 0))), (1, .int (nI n))] ∧ va_P D vwCl (tdW κ T S ad ((lyF S pl wt wx wb (bs, sm, r0, r1) k).1) ((lyF S pl wt wx wb (bs, sm, r0, r1) k).2.1) pl ((lyF S pl wt wx wb (bs, sm, r0, r1) k).2.2.1) ((lyF S pl wt wx wb (bs, sm, r0, r1) k).2.2.2) tk vo du nd wt wx wb wn tp tn ts dn) H ∧ va_D A (tdW κ T S ad ((lyF S pl wt wx wb (bs, sm, r0, r1) k).1) ((lyF S pl wt wx wb (bs, sm, r0, r1) k).2.1) pl ((lyF S pl wt wx wb (bs, sm, r0, r1) k).2.2.1) ((lyF S pl wt wx wb (bs, sm, r0, r1) k).2.2.2) tk vo du nd wt wx wb wn tp tn ts dn) ∧ va_S A s.heap H locs) 0 (by omega) (fun k ls H locs hk hI ihk => ?_) (fun ls H locs hI => ?_) ⟨lv_sub hl [0, 1, 2] rfl, hP, hD, hS⟩
  · skip
    clear hl hP hD hS
    obtain ⟨hl, hP, hD, hS⟩ := hI
    have hwtk := cl_nI (hwt k hk) (by omega)
    have hwxk := cl_nI (hwx k hk) (by omega)
    refine lv_iload_n hx hb dX3_layFirst_2 rfl (lv_at hl 0 rfl) ?_
    refine lv_iload_n hx hb dX3_layFirst_3 rfl (lv_at hl 2 rfl) ?_
    refine lv_icmp_ge (tgt := 47) hx hb dX3_layFirst_4 (by decide) (fun c_4 => ?_) (fun c_4 => ?_)
    · exact absurd c_4 (nI_ge hk (by omega))
    · skip
      refine lv_aload_n hx hb dX3_layFirst_7 rfl (lv_at hl 1 rfl) ?_
      refine va_get (D := D) (ci := 4) (v := .ref ((ad 1))) (C := RX3) (T := TX3) (N := 8) hx hb hts (by decide +kernel) hown hK hP 0 rfl rfl 2 (by decide) (hts (.fieldLink RX3 25 "TrackDisk" "disk" "LTrackDisk$Surface;") (by decide +kernel)) (fun _ h9 => h9) rfl dX3_layFirst_8 ?_
      refine lv_aload_n hx hb dX3_layFirst_11 rfl (lv_at hl 1 rfl) ?_
      refine va_get (D := D) (ci := 4) (v := .ref ((ad 8))) (C := RX3) (T := TX3) (N := 8) hx hb hts (by decide +kernel) hown hK hP 0 rfl rfl 5 (by decide) (hts (.fieldLink RX3 39 "TrackDisk" "waiting" "LTrackDisk$Waiting;") (by decide +kernel)) (fun _ h9 => h9) rfl dX3_layFirst_12 ?_
      refine va_get (D := D) (ci := 3) (v := .ref ((ad 9))) (C := RX2) (T := TX2) (N := 4) hx hb hts (by decide +kernel) hown hK hP 8 rfl rfl 0 (by decide) (hts (.fieldLink RX3 91 "TrackDisk$Waiting" "track" "[I") (by decide +kernel)) (fun _ h9 => h9) rfl dX3_layFirst_15 ?_
      refine lv_iload_n hx hb dX3_layFirst_18 rfl (lv_at hl 0 rfl) ?_
      refine va_iald hx hb hK hP 9 0 rfl rfl (vp_in_nI (by omega) (by omega)) dX3_layFirst_19 ?_
      refine tp_i (y := nI (cl (wt k))) (by rw [nI_clamp (by omega)]; exact hwtk.1) ?_
      refine lv_aload_n hx hb dX3_layFirst_20 rfl (lv_at hl 1 rfl) ?_
      refine va_get (D := D) (ci := 4) (v := .ref ((ad 8))) (C := RX3) (T := TX3) (N := 8) hx hb hts (by decide +kernel) hown hK hP 0 rfl rfl 5 (by decide) (hts (.fieldLink RX3 39 "TrackDisk" "waiting" "LTrackDisk$Waiting;") (by decide +kernel)) (fun _ h9 => h9) rfl dX3_layFirst_21 ?_
      refine va_get (D := D) (ci := 3) (v := .ref ((ad 10))) (C := RX2) (T := TX2) (N := 4) hx hb hts (by decide +kernel) hown hK hP 8 rfl rfl 1 (by decide) (hts (.fieldLink RX3 95 "TrackDisk$Waiting" "sector" "[I") (by decide +kernel)) (fun _ h9 => h9) rfl dX3_layFirst_24 ?_
      refine lv_iload_n hx hb dX3_layFirst_27 rfl (lv_at hl 0 rfl) ?_
      refine va_iald hx hb hK hP 10 0 rfl rfl (vp_in_nI (by omega) (by omega)) dX3_layFirst_28 ?_
      refine tp_i (y := nI (cl (wx k))) (by rw [nI_clamp (by omega)]; exact hwxk.1) ?_
      refine lv_aload_n hx hb dX3_layFirst_29 rfl (lv_at hl 1 rfl) ?_
      refine va_get (D := D) (ci := 4) (v := .ref ((ad 8))) (C := RX3) (T := TX3) (N := 8) hx hb hts (by decide +kernel) hown hK hP 0 rfl rfl 5 (by decide) (hts (.fieldLink RX3 39 "TrackDisk" "waiting" "LTrackDisk$Waiting;") (by decide +kernel)) (fun _ h9 => h9) rfl dX3_layFirst_30 ?_
      refine va_get (D := D) (ci := 3) (v := .ref ((ad 11))) (C := RX2) (T := TX2) (N := 4) hx hb hts (by decide +kernel) hown hK hP 8 rfl rfl 2 (by decide) (hts (.fieldLink RX3 98 "TrackDisk$Waiting" "first" "[B") (by decide +kernel)) (fun _ h9 => h9) rfl dX3_layFirst_33 ?_
      refine lv_iload_n hx hb dX3_layFirst_36 rfl (lv_at hl 0 rfl) ?_
      refine va_bald hx hb hK hP 11 1 rfl rfl (vp_in_nI (by omega) (by omega)) dX3_layFirst_37 ?_
      refine tp_i (y := wb k) (by rw [nI_clamp (by omega)]) ?_
      have hPc := hP.sub (ws' := sfW κ T S (fun j => ad (j + 1)) ((lyF S pl wt wx wb (bs, sm, r0, r1) k).1) ((lyF S pl wt wx wb (bs, sm, r0, r1) k).2.1) pl ((lyF S pl wt wx wb (bs, sm, r0, r1) k).2.2.1) ((lyF S pl wt wx wb (bs, sm, r0, r1) k).2.2.2) tk vo) [1, 2, 3, 4, 5, 6] rfl
      have hDc := hD.sub (ws' := sfW κ T S (fun j => ad (j + 1)) ((lyF S pl wt wx wb (bs, sm, r0, r1) k).1) ((lyF S pl wt wx wb (bs, sm, r0, r1) k).2.1) pl ((lyF S pl wt wx wb (bs, sm, r0, r1) k).2.2.1) ((lyF S pl wt wx wb (bs, sm, r0, r1) k).2.2.2) tk vo) [1, 2, 3, 4, 5, 6] (by decide) rfl
      refine mu_call (wc := sfW κ T S (fun j => ad (j + 1)) ((lyF S pl wt wx wb (bs, sm, r0, r1) k).1) ((lyF S pl wt wx wb (bs, sm, r0, r1) k).2.1) pl ((lyF S pl wt wx wb (bs, sm, r0, r1) k).2.2.1) ((lyF S pl wt wx wb (bs, sm, r0, r1) k).2.2.2) tk vo) (wc' := sfW κ T S (fun j => ad (j + 1)) (flF (lyF S pl wt wx wb (bs, sm, r0, r1) k).1 ((cl (pl (cl (wt k))) * S + cl (wx k)) * 16) (wb k) 16) (upd (lyF S pl wt wx wb (bs, sm, r0, r1) k).2.1 (cl (pl (cl (wt k))) * S + cl (wx k)) (smA (flF (lyF S pl wt wx wb (bs, sm, r0, r1) k).1 ((cl (pl (cl (wt k))) * S + cl (wx k)) * 16) (wb k) 16) S (cl (pl (cl (wt k)))) (cl (wx k)))) pl (upd (lyF S pl wt wx wb (bs, sm, r0, r1) k).2.2.1 (cl (wt k)) (nI 1)) (upd (lyF S pl wt wx wb (bs, sm, r0, r1) k).2.2.2 (cl (wt k)) (nI 1)) tk vo) (ws' := tdW κ T S ad (flF (lyF S pl wt wx wb (bs, sm, r0, r1) k).1 ((cl (pl (cl (wt k))) * S + cl (wx k)) * 16) (wb k) 16) (upd (lyF S pl wt wx wb (bs, sm, r0, r1) k).2.1 (cl (pl (cl (wt k))) * S + cl (wx k)) (smA (flF (lyF S pl wt wx wb (bs, sm, r0, r1) k).1 ((cl (pl (cl (wt k))) * S + cl (wx k)) * 16) (wb k) 16) S (cl (pl (cl (wt k)))) (cl (wx k)))) pl (upd (lyF S pl wt wx wb (bs, sm, r0, r1) k).2.2.1 (cl (wt k)) (nI 1)) (upd (lyF S pl wt wx wb (bs, sm, r0, r1) k).2.2.2 (cl (wt k)) (nI 1)) tk vo du nd wt wx wb wn tp tn ts dn) (wr := (([0, 7, 8, 9, 10, 11, 12, 13] : List Nat).filterMap fun i => (tdW κ T S ad ((lyF S pl wt wx wb (bs, sm, r0, r1) k).1) ((lyF S pl wt wx wb (bs, sm, r0, r1) k).2.1) pl ((lyF S pl wt wx wb (bs, sm, r0, r1) k).2.2.1) ((lyF S pl wt wx wb (bs, sm, r0, r1) k).2.2.2) tk vo du nd wt wx wb wn tp tn ts dn)[i]?)) (va_runV (As := [.int (nI (cl (wt k))), .int (nI (cl (wx k))), .int (wb k)]) (rest := []) ⟨hx, hb, hml, hown, hts⟩ (c_lay l D κ H.size T S (fun j => ad (j + 1)) ((lyF S pl wt wx wb (bs, sm, r0, r1) k).1) ((lyF S pl wt wx wb (bs, sm, r0, r1) k).2.1) pl ((lyF S pl wt wx wb (bs, sm, r0, r1) k).2.2.1) ((lyF S pl wt wx wb (bs, sm, r0, r1) k).2.2.2) tk vo hT hS8 hpl (cl (wt k)) (cl (wx k)) hwtk.2 hwxk.2 (wb k)) (cwV 3 hts gX3_layFirst_X1_lay rfl rfl rfl (by decide +kernel) ⟨Nat.le_of_ble_eq_true rfl, Nat.le_of_ble_eq_true rfl⟩) ⟨mu_blind, va_recv hK hPc (ci := 2) (q0 := 0) rfl rfl, mu_pre hK hPc hDc⟩ rfl rfl hl.1 rfl (lv_room (Nat.le_of_ble_eq_true rfl)) dX3_layFirst_38 ⟨Nat.le_of_ble_eq_true rfl, Nat.le_of_ble_eq_true rfl⟩) hP hD hS hA [1, 2, 3, 4, 5, 6] [0, 7, 8, 9, 10, 11, 12, 13] [0, 8, 9, 10, 11, 12, 13, 1, 2, 3, 4, 5, 6, 7] rfl rfl (by decide) (by decide) rfl rfl (by decide) (fun H locs hP hD hS => ?_)
      refine W.eq (g2 := F0 m 41 ls []) rfl ?_
      refine lv_iinc (v := nI (k + 1)) (lv' := [(2, .int (nI (k + 1))), (0, .ref ((ad 0))), (1, .int (nI n))]) hx hb dX3_layFirst_41 hl (k := 0) rfl (by exact nI_1 _) (by decide) rfl (fun ls hl => ?_)
      refine lv_goto (tgt := 2) hx hb dX3_layFirst_44 (by decide) ?_
      exact ihk ls H locs ⟨lv_sub hl [0, 1, 2] rfl, hP, hD, hS⟩
  · skip
    clear hl hP hD hS
    obtain ⟨hl, hP, hD, hS⟩ := hI
    refine lv_iload_n hx hb dX3_layFirst_2 rfl (lv_at hl 0 rfl) ?_
    refine lv_iload_n hx hb dX3_layFirst_3 rfl (lv_at hl 2 rfl) ?_
    refine lv_icmp_ge (tgt := 47) hx hb dX3_layFirst_4 (by decide) (fun c_4 => ?_) (fun c_4 => ?_)
    · skip
      have hP9 : va_P D vwCl (tdW κ T S ad ((lyF S pl wt wx wb (bs, sm, r0, r1) n).1) ((lyF S pl wt wx wb (bs, sm, r0, r1) n).2.1) pl ((lyF S pl wt wx wb (bs, sm, r0, r1) n).2.2.1) ((lyF S pl wt wx wb (bs, sm, r0, r1) n).2.2.2) tk vo du nd wt wx wb wn tp tn ts dn) H := hP
      have hD9 : va_D A (tdW κ T S ad ((lyF S pl wt wx wb (bs, sm, r0, r1) n).1) ((lyF S pl wt wx wb (bs, sm, r0, r1) n).2.1) pl ((lyF S pl wt wx wb (bs, sm, r0, r1) n).2.2.1) ((lyF S pl wt wx wb (bs, sm, r0, r1) n).2.2.2) tk vo du nd wt wx wb wn tp tn ts dn) := hD
      exact W.vret hx hb hr (fun t ht _ => ⟨⟨rfl, by rw [ht]; exact hP9, hD9⟩, hS.F ht⟩) hS.2.2 dX3_layFirst_47 hlocks
    · exact absurd (nI_le (Nat.le_refl _) (by omega)) c_4

set_option maxHeartbeats 4000000 in
set_option maxRecDepth 100000 in
/-- write: no such sector -/
theorem c_write_no (l : Launch) (D : va_G) (κ : Nat → ClassId) (sz : Nat) (T S : Nat) (ad : Nat → Nat) (bs sm pl r0 r1 : Nat → Int32) (tk vo : Int32) (du : Nat → Option Nat) (nd : Int32) (wt wx wb : Nat → Int32) (wn : Int32) (tp : Nat → Int32) (tn ts dn : Int32) (x y z : Int32) (hno : (inF x T && inF y S) = false) : Met l yX3_write wsX3_write ({ frames := 2, cells := 0, slots := 0, locals := 43 }) (va_Pc [.ref ((ad 0)), .int x, .int y, .int z.toInt8.toInt32] (mu_B D κ (tdW κ T S ad bs sm pl r0 r1 tk vo du nd wt wx wb wn tp tn ts dn) sz)) (mu_Q D (some (.int ((-2)))) (tdW κ T S ad bs sm pl r0 r1 tk vo du nd wt wx wb wn tp tn ts dn) (va_A (tdW κ T S ad bs sm pl r0 r1 tk vo du nd wt wx wb wn tp tn ts dn) sz)) 0 0 (va_A (tdW κ T S ad bs sm pl r0 r1 tk vo du nd wt wx wb wn tp tn ts dn) sz) := by
  refine Met.ofW (cc := cX3_write) (maxL := 4) (ret := (some .int)) (by decide) rfl ?_
  intro p e s m args below meth c s₁ B hml hv
  obtain ⟨rfl, hsz, hP, hK, hD0⟩ := hv
  have hx := B.exec
  have hb := B.bytes
  have hr := B.returns
  have hts := atoms_spec (ws := wsX3_write) B.pre
  have hown : s.vm.findClass RX3 = some m.cls := findClass_of_methodNamed B.named
  have hlocks := B.notSynchronized
  subst hsz
  have hD := hD0.self (sz := s.heap.size)
  generalize hAe : va_A (tdW κ T S ad bs sm pl r0 r1 tk vo du nd wt wx wb wn tp tn ts dn) s.heap.size = A at hD ⊢
  have hA : ∀ q : Nat, s.heap.size ≤ q → A q := fun q h => by rw [← hAe]; exact Or.inr h
  refine W.gen (P := fun H locs => va_P D vwCl (tdW κ T S ad bs sm pl r0 r1 tk vo du nd wt wx wb wn tp tn ts dn) H ∧ va_S A s.heap H locs) (fun H locs h => ?_) ⟨hP, va_S.rf⟩
  clear hP
  obtain ⟨hP, hS⟩ := h
  have hl := lv_entry ([.ref ((ad 0)), .int x, .int y, .int z.toInt8.toInt32]) (n := 4) (Nat.le_of_ble_eq_true rfl)
  rw [lg_entry_eq]
  generalize (lg_sl ([.ref ((ad 0)), .int x, .int y, .int z.toInt8.toInt32]) ++ List.replicate (4 - (lg_sl ([.ref ((ad 0)), .int x, .int y, .int z.toInt8.toInt32])).length) Slot.unset).toArray = ls at hl ⊢
  have hl : lv_has ls 4 [(0, .ref ((ad 0))), (1, .int x), (2, .int y), (3, .int z.toInt8.toInt32)] := hl
  refine lv_aload_n hx hb dX3_write_0 rfl (lv_at hl 0 rfl) ?_
  refine lv_iload_n hx hb dX3_write_1 rfl (lv_at hl 1 rfl) ?_
  refine lv_iload_n hx hb dX3_write_2 rfl (lv_at hl 2 rfl) ?_
  have hPc := hP.sub (ws' := tdW κ T S ad bs sm pl r0 r1 tk vo du nd wt wx wb wn tp tn ts dn) [0, 1, 2, 3, 4, 5, 6, 7, 8, 9, 10, 11, 12, 13] rfl
  refine pu_call (va_runV (As := [.int x, .int y]) (rest := []) ⟨hx, hb, hml, hown, hts⟩ (c_hasSector l D κ T S ad bs sm pl r0 r1 tk vo du nd wt wx wb wn tp tn ts dn x y) (cwV 2 hts gX3_write_X3_hasSector rfl rfl rfl (by decide +kernel) ⟨Nat.le_of_ble_eq_true rfl, Nat.le_of_ble_eq_true rfl⟩) ⟨pu_blind, va_recv hK hPc (ci := 4) (q0 := 0) rfl rfl, pu_pre hK hPc⟩ rfl rfl hl.1 rfl (lv_room (Nat.le_of_ble_eq_true rfl)) dX3_write_3 ⟨Nat.le_of_ble_eq_true rfl, Nat.le_of_ble_eq_true rfl⟩) ?_
  refine lv_if_ne (tgt := 12) hx hb dX3_write_6 (by decide) (fun c_6 => ?_) (fun c_6 => ?_)
  · exact (bI_cf hno c_6).elim
  · skip
    refine lv_bipush (v := (-2)) hx hb dX3_write_9 (by decide) ?_
    have hP9 : va_P D vwCl (tdW κ T S ad bs sm pl r0 r1 tk vo du nd wt wx wb wn tp tn ts dn) H := hP
    have hD9 : va_D A (tdW κ T S ad bs sm pl r0 r1 tk vo du nd wt wx wb wn tp tn ts dn) := hD
    exact W.iret hx hb hr (fun t ht _ => ⟨⟨rfl, by rw [ht]; exact hP9, hD9⟩, hS.F ht⟩) hS.2.2 dX3_write_11 hlocks

set_option maxHeartbeats 4000000 in
set_option maxRecDepth 100000 in
/-- write: down -/
theorem c_write_down (l : Launch) (D : va_G) (κ : Nat → ClassId) (sz : Nat) (T S : Nat) (ad : Nat → Nat) (bs sm pl r0 r1 : Nat → Int32) (tk vo : Int32) (du : Nat → Option Nat) (nd : Int32) (wt wx wb : Nat → Int32) (wn : Int32) (tp : Nat → Int32) (tn ts : Int32)  (hT : T ≤ 12) (hS8 : S ≤ 8) (t b : Nat) (ht : t < T) (hb0 : b < S) (z : Int32) : Met l yX3_write wsX3_write ({ frames := 2, cells := 0, slots := 0, locals := 43 }) (va_Pc [.ref ((ad 0)), .int (nI t), .int (nI b), .int z.toInt8.toInt32] (mu_B D κ (tdW κ T S ad bs sm pl r0 r1 tk vo du nd wt wx wb wn tp tn ts (nI 1)) sz)) (mu_Q D (some (.int ((-5)))) (tdW κ T S ad bs sm pl r0 r1 tk vo du nd wt wx wb wn tp tn ts (nI 1)) (va_A (tdW κ T S ad bs sm pl r0 r1 tk vo du nd wt wx wb wn tp tn ts (nI 1)) sz)) 0 0 (va_A (tdW κ T S ad bs sm pl r0 r1 tk vo du nd wt wx wb wn tp tn ts (nI 1)) sz) := by
  refine Met.ofW (cc := cX3_write) (maxL := 4) (ret := (some .int)) (by decide) rfl ?_
  intro p e s m args below meth c s₁ B hml hv
  obtain ⟨rfl, hsz, hP, hK, hD0⟩ := hv
  have hx := B.exec
  have hb := B.bytes
  have hr := B.returns
  have hts := atoms_spec (ws := wsX3_write) B.pre
  have hown : s.vm.findClass RX3 = some m.cls := findClass_of_methodNamed B.named
  have hlocks := B.notSynchronized
  subst hsz
  have hD := hD0.self (sz := s.heap.size)
  generalize hAe : va_A (tdW κ T S ad bs sm pl r0 r1 tk vo du nd wt wx wb wn tp tn ts (nI 1)) s.heap.size = A at hD ⊢
  have hA : ∀ q : Nat, s.heap.size ≤ q → A q := fun q h => by rw [← hAe]; exact Or.inr h
  refine W.gen (P := fun H locs => va_P D vwCl (tdW κ T S ad bs sm pl r0 r1 tk vo du nd wt wx wb wn tp tn ts (nI 1)) H ∧ va_S A s.heap H locs) (fun H locs h => ?_) ⟨hP, va_S.rf⟩
  clear hP
  obtain ⟨hP, hS⟩ := h
  have hl := lv_entry ([.ref ((ad 0)), .int (nI t), .int (nI b), .int z.toInt8.toInt32]) (n := 4) (Nat.le_of_ble_eq_true rfl)
  rw [lg_entry_eq]
  generalize (lg_sl ([.ref ((ad 0)), .int (nI t), .int (nI b), .int z.toInt8.toInt32]) ++ List.replicate (4 - (lg_sl ([.ref ((ad 0)), .int (nI t), .int (nI b), .int z.toInt8.toInt32])).length) Slot.unset).toArray = ls at hl ⊢
  have hl : lv_has ls 4 [(0, .ref ((ad 0))), (1, .int (nI t)), (2, .int (nI b)), (3, .int z.toInt8.toInt32)] := hl
  refine lv_aload_n hx hb dX3_write_0 rfl (lv_at hl 0 rfl) ?_
  refine lv_iload_n hx hb dX3_write_1 rfl (lv_at hl 1 rfl) ?_
  refine lv_iload_n hx hb dX3_write_2 rfl (lv_at hl 2 rfl) ?_
  have hPc := hP.sub (ws' := tdW κ T S ad bs sm pl r0 r1 tk vo du nd wt wx wb wn tp tn ts (nI 1)) [0, 1, 2, 3, 4, 5, 6, 7, 8, 9, 10, 11, 12, 13] rfl
  refine pu_call (va_runV (As := [.int (nI t), .int (nI b)]) (rest := []) ⟨hx, hb, hml, hown, hts⟩ (c_hasSector l D κ T S ad bs sm pl r0 r1 tk vo du nd wt wx wb wn tp tn ts (nI 1) (nI t) (nI b)) (cwV 2 hts gX3_write_X3_hasSector rfl rfl rfl (by decide +kernel) ⟨Nat.le_of_ble_eq_true rfl, Nat.le_of_ble_eq_true rfl⟩) ⟨pu_blind, va_recv hK hPc (ci := 4) (q0 := 0) rfl rfl, pu_pre hK hPc⟩ rfl rfl hl.1 rfl (lv_room (Nat.le_of_ble_eq_true rfl)) dX3_write_3 ⟨Nat.le_of_ble_eq_true rfl, Nat.le_of_ble_eq_true rfl⟩) ?_
  refine lv_if_ne (tgt := 12) hx hb dX3_write_6 (by decide) (fun c_6 => ?_) (fun c_6 => ?_)
  · skip
    refine lv_aload_n hx hb dX3_write_12 rfl (lv_at hl 0 rfl) ?_
    refine va_get (D := D) (ci := 4) (v := .int (nI 1)) (C := RX3) (T := TX3) (N := 8) hx hb hts (by decide +kernel) hown hK hP 0 rfl rfl 7 (by decide) (hts (.fieldLink RX3 50 "TrackDisk" "down" "Z") (by decide +kernel)) (fun _ h9 => h9) rfl dX3_write_13 ?_
    refine lv_if_eq (tgt := 22) hx hb dX3_write_16 (by decide) (fun c_16 => ?_) (fun c_16 => ?_)
    · exact absurd c_16 (by decide)
    · skip
      refine lv_bipush (v := (-5)) hx hb dX3_write_19 (by decide) ?_
      have hP9 : va_P D vwCl (tdW κ T S ad bs sm pl r0 r1 tk vo du nd wt wx wb wn tp tn ts (nI 1)) H := hP
      have hD9 : va_D A (tdW κ T S ad bs sm pl r0 r1 tk vo du nd wt wx wb wn tp tn ts (nI 1)) := hD
      exact W.iret hx hb hr (fun t ht _ => ⟨⟨rfl, by rw [ht]; exact hP9, hD9⟩, hS.F ht⟩) hS.2.2 dX3_write_21 hlocks
  · exact (bI_ct (by rw [inF_nI ht (by omega), inF_nI hb0 (by omega)]; rfl) c_6).elim

set_option maxHeartbeats 4000000 in
set_option maxRecDepth 100000 in
/-- write: 40 wait -/
theorem c_write_full (l : Launch) (D : va_G) (κ : Nat → ClassId) (sz : Nat) (T S : Nat) (ad : Nat → Nat) (bs sm pl r0 r1 : Nat → Int32) (tk vo : Int32) (du : Nat → Option Nat) (nd : Int32) (wt wx wb : Nat → Int32) (tp : Nat → Int32) (tn ts : Int32)  (hT : T ≤ 12) (hS8 : S ≤ 8) (t b : Nat) (ht : t < T) (hb0 : b < S) (z : Int32) : Met l yX3_write wsX3_write ({ frames := 2, cells := 0, slots := 0, locals := 43 }) (va_Pc [.ref ((ad 0)), .int (nI t), .int (nI b), .int z.toInt8.toInt32] (mu_B D κ (tdW κ T S ad bs sm pl r0 r1 tk vo du nd wt wx wb (nI 40) tp tn ts (nI 0)) sz)) (mu_Q D (some (.int ((-1)))) (tdW κ T S ad bs sm pl r0 r1 tk vo du nd wt wx wb (nI 40) tp tn ts (nI 0)) (va_A (tdW κ T S ad bs sm pl r0 r1 tk vo du nd wt wx wb (nI 40) tp tn ts (nI 0)) sz)) 0 0 (va_A (tdW κ T S ad bs sm pl r0 r1 tk vo du nd wt wx wb (nI 40) tp tn ts (nI 0)) sz) := by
  refine Met.ofW (cc := cX3_write) (maxL := 4) (ret := (some .int)) (by decide) rfl ?_
  intro p e s m args below meth c s₁ B hml hv
  obtain ⟨rfl, hsz, hP, hK, hD0⟩ := hv
  have hx := B.exec
  have hb := B.bytes
  have hr := B.returns
  have hts := atoms_spec (ws := wsX3_write) B.pre
  have hown : s.vm.findClass RX3 = some m.cls := findClass_of_methodNamed B.named
  have hlocks := B.notSynchronized
  subst hsz
  have hD := hD0.self (sz := s.heap.size)
  generalize hAe : va_A (tdW κ T S ad bs sm pl r0 r1 tk vo du nd wt wx wb (nI 40) tp tn ts (nI 0)) s.heap.size = A at hD ⊢
  have hA : ∀ q : Nat, s.heap.size ≤ q → A q := fun q h => by rw [← hAe]; exact Or.inr h
  refine W.gen (P := fun H locs => va_P D vwCl (tdW κ T S ad bs sm pl r0 r1 tk vo du nd wt wx wb (nI 40) tp tn ts (nI 0)) H ∧ va_S A s.heap H locs) (fun H locs h => ?_) ⟨hP, va_S.rf⟩
  clear hP
  obtain ⟨hP, hS⟩ := h
  have hl := lv_entry ([.ref ((ad 0)), .int (nI t), .int (nI b), .int z.toInt8.toInt32]) (n := 4) (Nat.le_of_ble_eq_true rfl)
  rw [lg_entry_eq]
  generalize (lg_sl ([.ref ((ad 0)), .int (nI t), .int (nI b), .int z.toInt8.toInt32]) ++ List.replicate (4 - (lg_sl ([.ref ((ad 0)), .int (nI t), .int (nI b), .int z.toInt8.toInt32])).length) Slot.unset).toArray = ls at hl ⊢
  have hl : lv_has ls 4 [(0, .ref ((ad 0))), (1, .int (nI t)), (2, .int (nI b)), (3, .int z.toInt8.toInt32)] := hl
  refine lv_aload_n hx hb dX3_write_0 rfl (lv_at hl 0 rfl) ?_
  refine lv_iload_n hx hb dX3_write_1 rfl (lv_at hl 1 rfl) ?_
  refine lv_iload_n hx hb dX3_write_2 rfl (lv_at hl 2 rfl) ?_
  have hPc := hP.sub (ws' := tdW κ T S ad bs sm pl r0 r1 tk vo du nd wt wx wb (nI 40) tp tn ts (nI 0)) [0, 1, 2, 3, 4, 5, 6, 7, 8, 9, 10, 11, 12, 13] rfl
  refine pu_call (va_runV (As := [.int (nI t), .int (nI b)]) (rest := []) ⟨hx, hb, hml, hown, hts⟩ (c_hasSector l D κ T S ad bs sm pl r0 r1 tk vo du nd wt wx wb (nI 40) tp tn ts (nI 0) (nI t) (nI b)) (cwV 2 hts gX3_write_X3_hasSector rfl rfl rfl (by decide +kernel) ⟨Nat.le_of_ble_eq_true rfl, Nat.le_of_ble_eq_true rfl⟩) ⟨pu_blind, va_recv hK hPc (ci := 4) (q0 := 0) rfl rfl, pu_pre hK hPc⟩ rfl rfl hl.1 rfl (lv_room (Nat.le_of_ble_eq_true rfl)) dX3_write_3 ⟨Nat.le_of_ble_eq_true rfl, Nat.le_of_ble_eq_true rfl⟩) ?_
  refine lv_if_ne (tgt := 12) hx hb dX3_write_6 (by decide) (fun c_6 => ?_) (fun c_6 => ?_)
  · skip
    refine lv_aload_n hx hb dX3_write_12 rfl (lv_at hl 0 rfl) ?_
    refine va_get (D := D) (ci := 4) (v := .int (nI 0)) (C := RX3) (T := TX3) (N := 8) hx hb hts (by decide +kernel) hown hK hP 0 rfl rfl 7 (by decide) (hts (.fieldLink RX3 50 "TrackDisk" "down" "Z") (by decide +kernel)) (fun _ h9 => h9) rfl dX3_write_13 ?_
    refine lv_if_eq (tgt := 22) hx hb dX3_write_16 (by decide) (fun c_16 => ?_) (fun c_16 => ?_)
    · skip
      refine lv_aload_n hx hb dX3_write_22 rfl (lv_at hl 0 rfl) ?_
      refine va_get (D := D) (ci := 4) (v := .ref ((ad 8))) (C := RX3) (T := TX3) (N := 8) hx hb hts (by decide +kernel) hown hK hP 0 rfl rfl 5 (by decide) (hts (.fieldLink RX3 39 "TrackDisk" "waiting" "LTrackDisk$Waiting;") (by decide +kernel)) (fun _ h9 => h9) rfl dX3_write_23 ?_
      refine va_get (D := D) (ci := 3) (v := .int (nI 40)) (C := RX2) (T := TX2) (N := 4) hx hb hts (by decide +kernel) hown hK hP 8 rfl rfl 3 (by decide) (hts (.fieldLink RX3 58 "TrackDisk$Waiting" "size" "I") (by decide +kernel)) (fun _ h9 => h9) rfl dX3_write_26 ?_
      refine lv_bipush (v := nI 40) hx hb dX3_write_29 (by decide) ?_
      refine lv_icmp_lt (tgt := 36) hx hb dX3_write_31 (by decide) (fun c_31 => ?_) (fun c_31 => ?_)
      · exact absurd c_31 (by decide)
      · skip
        refine lv_iconst (v := (-1)) hx hb dX3_write_34 (by decide) ?_
        have hP9 : va_P D vwCl (tdW κ T S ad bs sm pl r0 r1 tk vo du nd wt wx wb (nI 40) tp tn ts (nI 0)) H := hP
        have hD9 : va_D A (tdW κ T S ad bs sm pl r0 r1 tk vo du nd wt wx wb (nI 40) tp tn ts (nI 0)) := hD
        exact W.iret hx hb hr (fun t ht _ => ⟨⟨rfl, by rw [ht]; exact hP9, hD9⟩, hS.F ht⟩) hS.2.2 dX3_write_35 hlocks
    · exact absurd (by decide) c_16
  · exact (bI_ct (by rw [inF_nI ht (by omega), inF_nI hb0 (by omega)]; rfl) c_6).elim

set_option maxHeartbeats 4000000 in
set_option maxRecDepth 100000 in
/-- write -/
theorem c_write (l : Launch) (D : va_G) (κ : Nat → ClassId) (sz : Nat) (T S : Nat) (ad : Nat → Nat) (bs sm pl r0 r1 : Nat → Int32) (tk vo : Int32) (du : Nat → Option Nat) (nd : Int32) (wt wx wb : Nat → Int32) (tp : Nat → Int32) (tn ts : Int32)  (hT : T ≤ 12) (hS8 : S ≤ 8) (t b : Nat) (ht : t < T) (hb0 : b < S) (z : Int32) (w : Nat) (hw : w < 40) : Met l yX3_write wsX3_write ({ frames := 2, cells := 0, slots := 0, locals := 43 }) (va_Pc [.ref ((ad 0)), .int (nI t), .int (nI b), .int z.toInt8.toInt32] (mu_B D κ (tdW κ T S ad bs sm pl r0 r1 tk vo du nd wt wx wb (nI w) tp tn ts (nI 0)) sz)) (mu_Q D (some (.int (nI (w + 1)))) (tdW κ T S ad bs sm pl r0 r1 tk vo du nd (upd wt w (nI t)) (upd wx w (nI b)) (upd wb w (z.toInt8.toInt32)) (nI (w + 1)) tp tn ts (nI 0)) (va_A (tdW κ T S ad bs sm pl r0 r1 tk vo du nd wt wx wb (nI w) tp tn ts (nI 0)) sz)) 0 0 (va_A (tdW κ T S ad bs sm pl r0 r1 tk vo du nd wt wx wb (nI w) tp tn ts (nI 0)) sz) := by
  refine Met.ofW (cc := cX3_write) (maxL := 4) (ret := (some .int)) (by decide) rfl ?_
  intro p e s m args below meth c s₁ B hml hv
  obtain ⟨rfl, hsz, hP, hK, hD0⟩ := hv
  have hx := B.exec
  have hb := B.bytes
  have hr := B.returns
  have hts := atoms_spec (ws := wsX3_write) B.pre
  have hown : s.vm.findClass RX3 = some m.cls := findClass_of_methodNamed B.named
  have hlocks := B.notSynchronized
  subst hsz
  have hD := hD0.self (sz := s.heap.size)
  generalize hAe : va_A (tdW κ T S ad bs sm pl r0 r1 tk vo du nd wt wx wb (nI w) tp tn ts (nI 0)) s.heap.size = A at hD ⊢
  have hA : ∀ q : Nat, s.heap.size ≤ q → A q := fun q h => by rw [← hAe]; exact Or.inr h
  refine W.gen (P := fun H locs => va_P D vwCl (tdW κ T S ad bs sm pl r0 r1 tk vo du nd wt wx wb (nI w) tp tn ts (nI 0)) H ∧ va_S A s.heap H locs) (fun H locs h => ?_) ⟨hP, va_S.rf⟩
  clear hP
  obtain ⟨hP, hS⟩ := h
  have hl := lv_entry ([.ref ((ad 0)), .int (nI t), .int (nI b), .int z.toInt8.toInt32]) (n := 4) (Nat.le_of_ble_eq_true rfl)
  rw [lg_entry_eq]
  generalize (lg_sl ([.ref ((ad 0)), .int (nI t), .int (nI b), .int z.toInt8.toInt32]) ++ List.replicate (4 - (lg_sl ([.ref ((ad 0)), .int (nI t), .int (nI b), .int z.toInt8.toInt32])).length) Slot.unset).toArray = ls at hl ⊢
  have hl : lv_has ls 4 [(0, .ref ((ad 0))), (1, .int (nI t)), (2, .int (nI b)), (3, .int z.toInt8.toInt32)] := hl
  refine lv_aload_n hx hb dX3_write_0 rfl (lv_at hl 0 rfl) ?_
  refine lv_iload_n hx hb dX3_write_1 rfl (lv_at hl 1 rfl) ?_
  refine lv_iload_n hx hb dX3_write_2 rfl (lv_at hl 2 rfl) ?_
  have hPc := hP.sub (ws' := tdW κ T S ad bs sm pl r0 r1 tk vo du nd wt wx wb (nI w) tp tn ts (nI 0)) [0, 1, 2, 3, 4, 5, 6, 7, 8, 9, 10, 11, 12, 13] rfl
  refine pu_call (va_runV (As := [.int (nI t), .int (nI b)]) (rest := []) ⟨hx, hb, hml, hown, hts⟩ (c_hasSector l D κ T S ad bs sm pl r0 r1 tk vo du nd wt wx wb (nI w) tp tn ts (nI 0) (nI t) (nI b)) (cwV 2 hts gX3_write_X3_hasSector rfl rfl rfl (by decide +kernel) ⟨Nat.le_of_ble_eq_true rfl, Nat.le_of_ble_eq_true rfl⟩) ⟨pu_blind, va_recv hK hPc (ci := 4) (q0 := 0) rfl rfl, pu_pre hK hPc⟩ rfl rfl hl.1 rfl (lv_room (Nat.le_of_ble_eq_true rfl)) dX3_write_3 ⟨Nat.le_of_ble_eq_true rfl, Nat.le_of_ble_eq_true rfl⟩) ?_
  refine lv_if_ne (tgt := 12) hx hb dX3_write_6 (by decide) (fun c_6 => ?_) (fun c_6 => ?_)
  · skip
    refine lv_aload_n hx hb dX3_write_12 rfl (lv_at hl 0 rfl) ?_
    refine va_get (D := D) (ci := 4) (v := .int (nI 0)) (C := RX3) (T := TX3) (N := 8) hx hb hts (by decide +kernel) hown hK hP 0 rfl rfl 7 (by decide) (hts (.fieldLink RX3 50 "TrackDisk" "down" "Z") (by decide +kernel)) (fun _ h9 => h9) rfl dX3_write_13 ?_
    refine lv_if_eq (tgt := 22) hx hb dX3_write_16 (by decide) (fun c_16 => ?_) (fun c_16 => ?_)
    · skip
      refine lv_aload_n hx hb dX3_write_22 rfl (lv_at hl 0 rfl) ?_
      refine va_get (D := D) (ci := 4) (v := .ref ((ad 8))) (C := RX3) (T := TX3) (N := 8) hx hb hts (by decide +kernel) hown hK hP 0 rfl rfl 5 (by decide) (hts (.fieldLink RX3 39 "TrackDisk" "waiting" "LTrackDisk$Waiting;") (by decide +kernel)) (fun _ h9 => h9) rfl dX3_write_23 ?_
      refine va_get (D := D) (ci := 3) (v := .int (nI w)) (C := RX2) (T := TX2) (N := 4) hx hb hts (by decide +kernel) hown hK hP 8 rfl rfl 3 (by decide) (hts (.fieldLink RX3 58 "TrackDisk$Waiting" "size" "I") (by decide +kernel)) (fun _ h9 => h9) rfl dX3_write_26 ?_
      refine lv_bipush (v := nI 40) hx hb dX3_write_29 (by decide) ?_
      refine lv_icmp_lt (tgt := 36) hx hb dX3_write_31 (by decide) (fun c_31 => ?_) (fun c_31 => ?_)
      · skip
        refine lv_aload_n hx hb dX3_write_36 rfl (lv_at hl 0 rfl) ?_
        refine va_get (D := D) (ci := 4) (v := .ref ((ad 8))) (C := RX3) (T := TX3) (N := 8) hx hb hts (by decide +kernel) hown hK hP 0 rfl rfl 5 (by decide) (hts (.fieldLink RX3 39 "TrackDisk" "waiting" "LTrackDisk$Waiting;") (by decide +kernel)) (fun _ h9 => h9) rfl dX3_write_37 ?_
        refine lv_iload_n hx hb dX3_write_40 rfl (lv_at hl 1 rfl) ?_
        refine lv_iload_n hx hb dX3_write_41 rfl (lv_at hl 2 rfl) ?_
        refine lv_iload_n hx hb dX3_write_42 rfl (lv_at hl 3 rfl) ?_
        have hPc := hP.sub (ws' := waW κ (fun j => ad (j + 8)) wt wx wb (nI w)) [8, 9, 10, 11] rfl
        have hDc := hD.sub (ws' := waW κ (fun j => ad (j + 8)) wt wx wb (nI w)) [8, 9, 10, 11] (by decide) rfl
        refine mu_call (wc := waW κ (fun j => ad (j + 8)) wt wx wb (nI w)) (wc' := waW κ (fun j => ad (j + 8)) (upd wt w (nI t)) (upd wx w (nI b)) (upd wb w (z.toInt8.toInt32)) (nI (w + 1))) (ws' := tdW κ T S ad bs sm pl r0 r1 tk vo du nd (upd wt w (nI t)) (upd wx w (nI b)) (upd wb w (z.toInt8.toInt32)) (nI (w + 1)) tp tn ts (nI 0)) (wr := (([0, 1, 2, 3, 4, 5, 6, 7, 12, 13] : List Nat).filterMap fun i => (tdW κ T S ad bs sm pl r0 r1 tk vo du nd wt wx wb (nI w) tp tn ts (nI 0))[i]?)) (va_runV (As := [.int (nI t), .int (nI b), .int z.toInt8.toInt32]) (rest := []) ⟨hx, hb, hml, hown, hts⟩ (c_append l D κ H.size (fun j => ad (j + 8)) wt wx wb w hw (nI t) (nI b) z) (cwV 3 hts gX3_write_X2_append rfl rfl rfl (by decide +kernel) ⟨Nat.le_of_ble_eq_true rfl, Nat.le_of_ble_eq_true rfl⟩) ⟨mu_blind, va_recv hK hPc (ci := 3) (q0 := 0) rfl rfl, mu_pre hK hPc hDc⟩ rfl rfl hl.1 rfl (lv_room (Nat.le_of_ble_eq_true rfl)) dX3_write_43 ⟨Nat.le_of_ble_eq_true rfl, Nat.le_of_ble_eq_true rfl⟩) hP hD hS hA [8, 9, 10, 11] [0, 1, 2, 3, 4, 5, 6, 7, 12, 13] [0, 1, 2, 3, 4, 5, 6, 7, 10, 11, 12, 13, 8, 9] rfl rfl (by decide) (by decide) rfl rfl (by decide) (fun H locs hP hD hS => ?_)
        refine W.eq (g2 := F0 m 46 ls []) rfl ?_
        refine lv_aload_n hx hb dX3_write_46 rfl (lv_at hl 0 rfl) ?_
        refine va_get (D := D) (ci := 4) (v := .ref ((ad 8))) (C := RX3) (T := TX3) (N := 8) hx hb hts (by decide +kernel) hown hK hP 0 rfl rfl 5 (by decide) (hts (.fieldLink RX3 39 "TrackDisk" "waiting" "LTrackDisk$Waiting;") (by decide +kernel)) (fun _ h9 => h9) rfl dX3_write_47 ?_
        refine va_get (D := D) (ci := 3) (v := .int (nI (w + 1))) (C := RX2) (T := TX2) (N := 4) hx hb hts (by decide +kernel) hown hK hP 8 rfl rfl 3 (by decide) (hts (.fieldLink RX3 58 "TrackDisk$Waiting" "size" "I") (by decide +kernel)) (fun _ h9 => h9) rfl dX3_write_50 ?_
        have hP9 : va_P D vwCl (tdW κ T S ad bs sm pl r0 r1 tk vo du nd (upd wt w (nI t)) (upd wx w (nI b)) (upd wb w (z.toInt8.toInt32)) (nI (w + 1)) tp tn ts (nI 0)) H := hP
        have hD9 : va_D A (tdW κ T S ad bs sm pl r0 r1 tk vo du nd (upd wt w (nI t)) (upd wx w (nI b)) (upd wb w (z.toInt8.toInt32)) (nI (w + 1)) tp tn ts (nI 0)) := hD
        exact W.iret hx hb hr (fun t ht _ => ⟨⟨rfl, by rw [ht]; exact hP9, hD9⟩, hS.F ht⟩) hS.2.2 dX3_write_53 hlocks
      · exact absurd (nI_lt hw (by omega)) c_31
    · exact absurd (by decide) c_16
  · exact (bI_ct (by rw [inF_nI ht (by omega), inF_nI hb0 (by omega)]; rfl) c_6).elim

set_option maxHeartbeats 4000000 in
set_option maxRecDepth 100000 in
/-- sync: down -/
theorem c_sync_down (l : Launch) (D : va_G) (κ : Nat → ClassId) (sz : Nat) (T S : Nat) (ad : Nat → Nat) (bs sm pl r0 r1 : Nat → Int32) (tk vo : Int32) (du : Nat → Option Nat) (nd : Int32) (wt wx wb : Nat → Int32) (wn : Int32) (tp : Nat → Int32) (tn ts : Int32)   : Met l yX3_sync wsX3_sync ({ frames := 5, cells := 0, slots := 0, locals := 116 }) (va_Pc [.ref ((ad 0))] (mu_B D κ (tdW κ T S ad bs sm pl r0 r1 tk vo du nd wt wx wb wn tp tn ts (nI 1)) sz)) (mu_Q D (some (.int ((-5)))) (tdW κ T S ad bs sm pl r0 r1 tk vo du nd wt wx wb wn tp tn ts (nI 1)) (va_A (tdW κ T S ad bs sm pl r0 r1 tk vo du nd wt wx wb wn tp tn ts (nI 1)) sz)) 0 0 (va_A (tdW κ T S ad bs sm pl r0 r1 tk vo du nd wt wx wb wn tp tn ts (nI 1)) sz) := by
  refine Met.ofW (cc := cX3_sync) (maxL := 2) (ret := (some .int)) (by decide) rfl ?_
  intro p e s m args below meth c s₁ B hml hv
  obtain ⟨rfl, hsz, hP, hK, hD0⟩ := hv
  have hx := B.exec
  have hb := B.bytes
  have hr := B.returns
  have hts := atoms_spec (ws := wsX3_sync) B.pre
  have hown : s.vm.findClass RX3 = some m.cls := findClass_of_methodNamed B.named
  have hlocks := B.notSynchronized
  subst hsz
  have hD := hD0.self (sz := s.heap.size)
  generalize hAe : va_A (tdW κ T S ad bs sm pl r0 r1 tk vo du nd wt wx wb wn tp tn ts (nI 1)) s.heap.size = A at hD ⊢
  have hA : ∀ q : Nat, s.heap.size ≤ q → A q := fun q h => by rw [← hAe]; exact Or.inr h
  refine W.gen (P := fun H locs => va_P D vwCl (tdW κ T S ad bs sm pl r0 r1 tk vo du nd wt wx wb wn tp tn ts (nI 1)) H ∧ va_S A s.heap H locs) (fun H locs h => ?_) ⟨hP, va_S.rf⟩
  clear hP
  obtain ⟨hP, hS⟩ := h
  have hl := lv_entry ([.ref ((ad 0))]) (n := 2) (Nat.le_of_ble_eq_true rfl)
  rw [lg_entry_eq]
  generalize (lg_sl ([.ref ((ad 0))]) ++ List.replicate (2 - (lg_sl ([.ref ((ad 0))])).length) Slot.unset).toArray = ls at hl ⊢
  have hl : lv_has ls 2 [(0, .ref ((ad 0)))] := hl
  refine lv_aload_n hx hb dX3_sync_0 rfl (lv_at hl 0 rfl) ?_
  refine va_get (D := D) (ci := 4) (v := .int (nI 1)) (C := RX3) (T := TX3) (N := 8) hx hb hts (by decide +kernel) hown hK hP 0 rfl rfl 7 (by decide) (hts (.fieldLink RX3 50 "TrackDisk" "down" "Z") (by decide +kernel)) (fun _ h9 => h9) rfl dX3_sync_1 ?_
  refine lv_if_eq (tgt := 10) hx hb dX3_sync_4 (by decide) (fun c_4 => ?_) (fun c_4 => ?_)
  · exact absurd c_4 (by decide)
  · skip
    refine lv_bipush (v := (-5)) hx hb dX3_sync_7 (by decide) ?_
    have hP9 : va_P D vwCl (tdW κ T S ad bs sm pl r0 r1 tk vo du nd wt wx wb wn tp tn ts (nI 1)) H := hP
    have hD9 : va_D A (tdW κ T S ad bs sm pl r0 r1 tk vo du nd wt wx wb wn tp tn ts (nI 1)) := hD
    exact W.iret hx hb hr (fun t ht _ => ⟨⟨rfl, by rw [ht]; exact hP9, hD9⟩, hS.F ht⟩) hS.2.2 dX3_sync_9 hlocks

set_option maxHeartbeats 4000000 in
set_option maxRecDepth 100000 in
/-- sync -/
theorem c_sync (l : Launch) (D : va_G) (κ : Nat → ClassId) (sz : Nat) (T S : Nat) (ad : Nat → Nat) (bs sm pl r0 r1 : Nat → Int32) (tk vo : Int32) (du : Nat → Option Nat) (nd : Int32) (wt wx wb : Nat → Int32) (tp : Nat → Int32) (tn ts : Int32)  (hT : T ≤ 12) (hS8 : S ≤ 8) (hpl : ∀ t, t < T → vp_in (pl t) (T + 2)) (n : Nat) (hn : n ≤ 40) (hwt : ∀ k, k < n → vp_in (wt k) T) (hwx : ∀ k, k < n → vp_in (wx k) S)  : Met l yX3_sync wsX3_sync ({ frames := 5, cells := 0, slots := 0, locals := 116 }) (va_Pc [.ref ((ad 0))] (mu_B D κ (tdW κ T S ad bs sm pl r0 r1 tk vo du nd wt wx wb (nI n) tp tn ts (nI 0)) sz)) (mu_Q D (some (.int (nI n))) (tdW κ T S ad ((lyF S pl wt wx wb (bs, sm, r0, r1) n).1) ((lyF S pl wt wx wb (bs, sm, r0, r1) n).2.1) pl ((lyF S pl wt wx wb (bs, sm, r0, r1) n).2.2.1) ((lyF S pl wt wx wb (bs, sm, r0, r1) n).2.2.2) tk vo du nd wt wx wb (nI 0) tp tn ts (nI 0)) (va_A (tdW κ T S ad bs sm pl r0 r1 tk vo du nd wt wx wb (nI n) tp tn ts (nI 0)) sz)) 0 0 (va_A (tdW κ T S ad bs sm pl r0 r1 tk vo du nd wt wx wb (nI n) tp tn ts (nI 0)) sz) := by
  refine Met.ofW (cc := cX3_sync) (maxL := 2) (ret := (some .int)) (by decide) rfl ?_
  intro p e s m args below meth c s₁ B hml hv
  obtain ⟨rfl, hsz, hP, hK, hD0⟩ := hv
  have hx := B.exec
  have hb := B.bytes
  have hr := B.returns
  have hts := atoms_spec (ws := wsX3_sync) B.pre
  have hown : s.vm.findClass RX3 = some m.cls := findClass_of_methodNamed B.named
  have hlocks := B.notSynchronized
  subst hsz
  have hD := hD0.self (sz := s.heap.size)
  generalize hAe : va_A (tdW κ T S ad bs sm pl r0 r1 tk vo du nd wt wx wb (nI n) tp tn ts (nI 0)) s.heap.size = A at hD ⊢
  have hA : ∀ q : Nat, s.heap.size ≤ q → A q := fun q h => by rw [← hAe]; exact Or.inr h
  refine W.gen (P := fun H locs => va_P D vwCl (tdW κ T S ad bs sm pl r0 r1 tk vo du nd wt wx wb (nI n) tp tn ts (nI 0)) H ∧ va_S A s.heap H locs) (fun H locs h => ?_) ⟨hP, va_S.rf⟩
  clear hP
  obtain ⟨hP, hS⟩ := h
  have hl := lv_entry ([.ref ((ad 0))]) (n := 2) (Nat.le_of_ble_eq_true rfl)
  rw [lg_entry_eq]
  generalize (lg_sl ([.ref ((ad 0))]) ++ List.replicate (2 - (lg_sl ([.ref ((ad 0))])).length) Slot.unset).toArray = ls at hl ⊢
  have hl : lv_has ls 2 [(0, .ref ((ad 0)))] := hl
  refine lv_aload_n hx hb dX3_sync_0 rfl (lv_at hl 0 rfl) ?_
  refine va_get (D := D) (ci := 4) (v := .int (nI 0)) (C := RX3) (T := TX3) (N := 8) hx hb hts (by decide +kernel) hown hK hP 0 rfl rfl 7 (by decide) (hts (.fieldLink RX3 50 "TrackDisk" "down" "Z") (by decide +kernel)) (fun _ h9 => h9) rfl dX3_sync_1 ?_
  refine lv_if_eq (tgt := 10) hx hb dX3_sync_4 (by decide) (fun c_4 => ?_) (fun c_4 => ?_)
  · skip
    refine lv_aload_n hx hb dX3_sync_10 rfl (lv_at hl 0 rfl) ?_
    refine va_get (D := D) (ci := 4) (v := .ref ((ad 8))) (C := RX3) (T := TX3) (N := 8) hx hb hts (by decide +kernel) hown hK hP 0 rfl rfl 5 (by decide) (hts (.fieldLink RX3 39 "TrackDisk" "waiting" "LTrackDisk$Waiting;") (by decide +kernel)) (fun _ h9 => h9) rfl dX3_sync_11 ?_
    refine va_get (D := D) (ci := 3) (v := .int (nI n)) (C := RX2) (T := TX2) (N := 4) hx hb hts (by decide +kernel) hown hK hP 8 rfl rfl 3 (by decide) (hts (.fieldLink RX3 58 "TrackDisk$Waiting" "size" "I") (by decide +kernel)) (fun _ h9 => h9) rfl dX3_sync_14 ?_
    refine lv_istore_n (lv' := [(1, .int (nI n)), (0, .ref ((ad 0)))]) hx hb dX3_sync_17 rfl hl (by decide) rfl (fun ls hl => ?_)
    refine lv_aload_n hx hb dX3_sync_18 rfl (lv_at hl 1 rfl) ?_
    refine lv_iload_n hx hb dX3_sync_19 rfl (lv_at hl 0 rfl) ?_
    have hPc := hP.sub (ws' := tdW κ T S ad bs sm pl r0 r1 tk vo du nd wt wx wb (nI n) tp tn ts (nI 0)) [0, 1, 2, 3, 4, 5, 6, 7, 8, 9, 10, 11, 12, 13] rfl
    have hDc := hD.sub (ws' := tdW κ T S ad bs sm pl r0 r1 tk vo du nd wt wx wb (nI n) tp tn ts (nI 0)) [0, 1, 2, 3, 4, 5, 6, 7, 8, 9, 10, 11, 12, 13] (by decide) rfl
    refine mu_call (wc := tdW κ T S ad bs sm pl r0 r1 tk vo du nd wt wx wb (nI n) tp tn ts (nI 0)) (wc' := tdW κ T S ad ((lyF S pl wt wx wb (bs, sm, r0, r1) n).1) ((lyF S pl wt wx wb (bs, sm, r0, r1) n).2.1) pl ((lyF S pl wt wx wb (bs, sm, r0, r1) n).2.2.1) ((lyF S pl wt wx wb (bs, sm, r0, r1) n).2.2.2) tk vo du nd wt wx wb (nI n) tp tn ts (nI 0)) (ws' := tdW κ T S ad ((lyF S pl wt wx wb (bs, sm, r0, r1) n).1) ((lyF S pl wt wx wb (bs, sm, r0, r1) n).2.1) pl ((lyF S pl wt wx wb (bs, sm, r0, r1) n).2.2.1) ((lyF S pl wt wx wb (bs, sm, r0, r1) n).2.2.2) tk vo du nd wt wx wb (nI n) tp tn ts (nI 0)) (wr := (([] : List Nat).filterMap fun i => (tdW κ T S ad bs sm pl r0 r1 tk vo du nd wt wx wb (nI n) tp tn ts (nI 0))[i]?)) (va_runV (As := [.int (nI n)]) (rest := []) ⟨hx, hb, hml, hown, hts⟩ (c_layFirst l D κ H.size T S ad bs sm pl r0 r1 tk vo du nd wt wx wb (nI n) tp tn ts (nI 0) hT hS8 hpl n hn hwt hwx) (cwV 1 hts gX3_sync_X3_layFirst rfl rfl rfl (by decide +kernel) ⟨Nat.le_of_ble_eq_true rfl, Nat.le_of_ble_eq_true rfl⟩) ⟨mu_blind, va_recv hK hPc (ci := 4) (q0 := 0) rfl rfl, mu_pre hK hPc hDc⟩ rfl rfl hl.1 rfl (lv_room (Nat.le_of_ble_eq_true rfl)) dX3_sync_20 ⟨Nat.le_of_ble_eq_true rfl, Nat.le_of_ble_eq_true rfl⟩) hP hD hS hA [0, 1, 2, 3, 4, 5, 6, 7, 8, 9, 10, 11, 12, 13] [] [0, 1, 2, 3, 4, 5, 6, 7, 8, 9, 10, 11, 12, 13] rfl rfl (by decide) (by decide) rfl rfl (by decide) (fun H locs hP hD hS => ?_)
    refine W.eq (g2 := F0 m 23 ls []) rfl ?_
    refine lv_aload_n hx hb dX3_sync_23 rfl (lv_at hl 1 rfl) ?_
    refine va_get (D := D) (ci := 4) (v := .ref ((ad 8))) (C := RX3) (T := TX3) (N := 8) hx hb hts (by decide +kernel) hown hK hP 0 rfl rfl 5 (by decide) (hts (.fieldLink RX3 39 "TrackDisk" "waiting" "LTrackDisk$Waiting;") (by decide +kernel)) (fun _ h9 => h9) rfl dX3_sync_24 ?_
    have hPc := hP.sub (ws' := waW κ (fun j => ad (j + 8)) wt wx wb (nI n)) [8, 9, 10, 11] rfl
    have hDc := hD.sub (ws' := waW κ (fun j => ad (j + 8)) wt wx wb (nI n)) [8, 9, 10, 11] (by decide) rfl
    refine mu_call (wc := waW κ (fun j => ad (j + 8)) wt wx wb (nI n)) (wc' := waW κ (fun j => ad (j + 8)) wt wx wb (nI 0)) (ws' := tdW κ T S ad ((lyF S pl wt wx wb (bs, sm, r0, r1) n).1) ((lyF S pl wt wx wb (bs, sm, r0, r1) n).2.1) pl ((lyF S pl wt wx wb (bs, sm, r0, r1) n).2.2.1) ((lyF S pl wt wx wb (bs, sm, r0, r1) n).2.2.2) tk vo du nd wt wx wb (nI 0) tp tn ts (nI 0)) (wr := (([0, 1, 2, 3, 4, 5, 6, 7, 12, 13] : List Nat).filterMap fun i => (tdW κ T S ad ((lyF S pl wt wx wb (bs, sm, r0, r1) n).1) ((lyF S pl wt wx wb (bs, sm, r0, r1) n).2.1) pl ((lyF S pl wt wx wb (bs, sm, r0, r1) n).2.2.1) ((lyF S pl wt wx wb (bs, sm, r0, r1) n).2.2.2) tk vo du nd wt wx wb (nI n) tp tn ts (nI 0))[i]?)) (va_runV (As := []) (rest := []) ⟨hx, hb, hml, hown, hts⟩ (c_drop l D κ H.size (fun j => ad (j + 8)) wt wx wb (nI n)) (cwV 0 hts gX3_sync_X2_drop rfl rfl rfl (by decide +kernel) ⟨Nat.le_of_ble_eq_true rfl, Nat.le_of_ble_eq_true rfl⟩) ⟨mu_blind, va_recv hK hPc (ci := 3) (q0 := 0) rfl rfl, mu_pre hK hPc hDc⟩ rfl rfl hl.1 rfl (lv_room (Nat.le_of_ble_eq_true rfl)) dX3_sync_27 ⟨Nat.le_of_ble_eq_true rfl, Nat.le_of_ble_eq_true rfl⟩) hP hD hS hA [8, 9, 10, 11] [0, 1, 2, 3, 4, 5, 6, 7, 12, 13] [0, 1, 2, 3, 4, 5, 6, 7, 10, 11, 12, 13, 8, 9] rfl rfl (by decide) (by decide) rfl rfl (by decide) (fun H locs hP hD hS => ?_)
    refine W.eq (g2 := F0 m 30 ls []) rfl ?_
    refine lv_iload_n hx hb dX3_sync_30 rfl (lv_at hl 0 rfl) ?_
    have hP9 : va_P D vwCl (tdW κ T S ad ((lyF S pl wt wx wb (bs, sm, r0, r1) n).1) ((lyF S pl wt wx wb (bs, sm, r0, r1) n).2.1) pl ((lyF S pl wt wx wb (bs, sm, r0, r1) n).2.2.1) ((lyF S pl wt wx wb (bs, sm, r0, r1) n).2.2.2) tk vo du nd wt wx wb (nI 0) tp tn ts (nI 0)) H := hP
    have hD9 : va_D A (tdW κ T S ad ((lyF S pl wt wx wb (bs, sm, r0, r1) n).1) ((lyF S pl wt wx wb (bs, sm, r0, r1) n).2.1) pl ((lyF S pl wt wx wb (bs, sm, r0, r1) n).2.2.1) ((lyF S pl wt wx wb (bs, sm, r0, r1) n).2.2.2) tk vo du nd wt wx wb (nI 0) tp tn ts (nI 0)) := hD
    exact W.iret hx hb hr (fun t ht _ => ⟨⟨rfl, by rw [ht]; exact hP9, hD9⟩, hS.F ht⟩) hS.2.2 dX3_sync_31 hlocks
  · exact absurd (by decide) c_4

set_option maxHeartbeats 4000000 in
set_option maxRecDepth 100000 in
/-- cut: down -/
theorem c_cut_down (l : Launch) (D : va_G) (κ : Nat → ClassId) (sz : Nat) (T S : Nat) (ad : Nat → Nat) (bs sm pl r0 r1 : Nat → Int32) (tk vo : Int32) (du : Nat → Option Nat) (nd : Int32) (wt wx wb : Nat → Int32) (wn : Int32) (tp : Nat → Int32) (tn ts : Int32)  (x y : Int32) : Met l yX3_cut wsX3_cut ({ frames := 5, cells := 0, slots := 0, locals := 116 }) (va_Pc [.ref ((ad 0)), .int x, .int y] (mu_B D κ (tdW κ T S ad bs sm pl r0 r1 tk vo du nd wt wx wb wn tp tn ts (nI 1)) sz)) (mu_Q D none (tdW κ T S ad bs sm pl r0 r1 tk vo du nd wt wx wb wn tp tn ts (nI 1)) (va_A (tdW κ T S ad bs sm pl r0 r1 tk vo du nd wt wx wb wn tp tn ts (nI 1)) sz)) 0 0 (va_A (tdW κ T S ad bs sm pl r0 r1 tk vo du nd wt wx wb wn tp tn ts (nI 1)) sz) := by
  refine Met.ofW (cc := cX3_cut) (maxL := 4) (ret := none) (by decide) rfl ?_
  intro p e s m args below meth c s₁ B hml hv
  obtain ⟨rfl, hsz, hP, hK, hD0⟩ := hv
  have hx := B.exec
  have hb := B.bytes
  have hr := B.returns
  have hts := atoms_spec (ws := wsX3_cut) B.pre
  have hown : s.vm.findClass RX3 = some m.cls := findClass_of_methodNamed B.named
  have hlocks := B.notSynchronized
  subst hsz
  have hD := hD0.self (sz := s.heap.size)
  generalize hAe : va_A (tdW κ T S ad bs sm pl r0 r1 tk vo du nd wt wx wb wn tp tn ts (nI 1)) s.heap.size = A at hD ⊢
  have hA : ∀ q : Nat, s.heap.size ≤ q → A q := fun q h => by rw [← hAe]; exact Or.inr h
  refine W.gen (P := fun H locs => va_P D vwCl (tdW κ T S ad bs sm pl r0 r1 tk vo du nd wt wx wb wn tp tn ts (nI 1)) H ∧ va_S A s.heap H locs) (fun H locs h => ?_) ⟨hP, va_S.rf⟩
  clear hP
  obtain ⟨hP, hS⟩ := h
  have hl := lv_entry ([.ref ((ad 0)), .int x, .int y]) (n := 4) (Nat.le_of_ble_eq_true rfl)
  rw [lg_entry_eq]
  generalize (lg_sl ([.ref ((ad 0)), .int x, .int y]) ++ List.replicate (4 - (lg_sl ([.ref ((ad 0)), .int x, .int y])).length) Slot.unset).toArray = ls at hl ⊢
  have hl : lv_has ls 4 [(0, .ref ((ad 0))), (1, .int x), (2, .int y)] := hl
  refine lv_aload_n hx hb dX3_cut_0 rfl (lv_at hl 0 rfl) ?_
  refine va_get (D := D) (ci := 4) (v := .int (nI 1)) (C := RX3) (T := TX3) (N := 8) hx hb hts (by decide +kernel) hown hK hP 0 rfl rfl 7 (by decide) (hts (.fieldLink RX3 50 "TrackDisk" "down" "Z") (by decide +kernel)) (fun _ h9 => h9) rfl dX3_cut_1 ?_
  refine lv_if_eq (tgt := 8) hx hb dX3_cut_4 (by decide) (fun c_4 => ?_) (fun c_4 => ?_)
  · exact absurd c_4 (by decide)
  · skip
    have hP9 : va_P D vwCl (tdW κ T S ad bs sm pl r0 r1 tk vo du nd wt wx wb wn tp tn ts (nI 1)) H := hP
    have hD9 : va_D A (tdW κ T S ad bs sm pl r0 r1 tk vo du nd wt wx wb wn tp tn ts (nI 1)) := hD
    exact W.vret hx hb hr (fun t ht _ => ⟨⟨rfl, by rw [ht]; exact hP9, hD9⟩, hS.F ht⟩) hS.2.2 dX3_cut_7 hlocks

set_option maxHeartbeats 4000000 in
set_option maxRecDepth 100000 in
/-- cut: all kept -/
theorem c_cut_all (l : Launch) (D : va_G) (κ : Nat → ClassId) (sz : Nat) (T S : Nat) (ad : Nat → Nat) (bs sm pl r0 r1 : Nat → Int32) (tk vo : Int32) (du : Nat → Option Nat) (nd : Int32) (wt wx wb : Nat → Int32) (tp : Nat → Int32) (tn ts : Int32)  (hT : T ≤ 12) (hS8 : S ≤ 8) (hpl : ∀ t, t < T → vp_in (pl t) (T + 2)) (w : Nat) (hw : w ≤ 40) (hwt : ∀ k, k < w → vp_in (wt k) T) (hwx : ∀ k, k < w → vp_in (wx k) S) (x y : Int32) (n : Nat) (hj : hdF x (nI 0) (nI w) = nI n) (hnw : n = w) : Met l yX3_cut wsX3_cut ({ frames := 5, cells := 0, slots := 0, locals := 116 }) (va_Pc [.ref ((ad 0)), .int x, .int y] (mu_B D κ (tdW κ T S ad bs sm pl r0 r1 tk vo du nd wt wx wb (nI w) tp tn ts (nI 0)) sz)) (mu_Q D none (tdW κ T S ad ((lyF S pl wt wx wb (bs, sm, r0, r1) n).1) ((lyF S pl wt wx wb (bs, sm, r0, r1) n).2.1) pl ((lyF S pl wt wx wb (bs, sm, r0, r1) n).2.2.1) ((lyF S pl wt wx wb (bs, sm, r0, r1) n).2.2.2) tk vo du nd wt wx wb (nI 0) tp tn ts (nI 1)) (va_A (tdW κ T S ad bs sm pl r0 r1 tk vo du nd wt wx wb (nI w) tp tn ts (nI 0)) sz)) 0 0 (va_A (tdW κ T S ad bs sm pl r0 r1 tk vo du nd wt wx wb (nI w) tp tn ts (nI 0)) sz) := by
  refine Met.ofW (cc := cX3_cut) (maxL := 4) (ret := none) (by decide) rfl ?_
  intro p e s m args below meth c s₁ B hml hv
  obtain ⟨rfl, hsz, hP, hK, hD0⟩ := hv
  have hx := B.exec
  have hb := B.bytes
  have hr := B.returns
  have hts := atoms_spec (ws := wsX3_cut) B.pre
  have hown : s.vm.findClass RX3 = some m.cls := findClass_of_methodNamed B.named
  have hlocks := B.notSynchronized
  subst hsz
  have hD := hD0.self (sz := s.heap.size)
  generalize hAe : va_A (tdW κ T S ad bs sm pl r0 r1 tk vo du nd wt wx wb (nI w) tp tn ts (nI 0)) s.heap.size = A at hD ⊢
  have hA : ∀ q : Nat, s.heap.size ≤ q → A q := fun q h => by rw [← hAe]; exact Or.inr h
  refine W.gen (P := fun H locs => va_P D vwCl (tdW κ T S ad bs sm pl r0 r1 tk vo du nd wt wx wb (nI w) tp tn ts (nI 0)) H ∧ va_S A s.heap H locs) (fun H locs h => ?_) ⟨hP, va_S.rf⟩
  clear hP
  obtain ⟨hP, hS⟩ := h
  have hl := lv_entry ([.ref ((ad 0)), .int x, .int y]) (n := 4) (Nat.le_of_ble_eq_true rfl)
  rw [lg_entry_eq]
  generalize (lg_sl ([.ref ((ad 0)), .int x, .int y]) ++ List.replicate (4 - (lg_sl ([.ref ((ad 0)), .int x, .int y])).length) Slot.unset).toArray = ls at hl ⊢
  have hl : lv_has ls 4 [(0, .ref ((ad 0))), (1, .int x), (2, .int y)] := hl
  have hmx := sf_max hT hS8
  refine lv_aload_n hx hb dX3_cut_0 rfl (lv_at hl 0 rfl) ?_
  refine va_get (D := D) (ci := 4) (v := .int (nI 0)) (C := RX3) (T := TX3) (N := 8) hx hb hts (by decide +kernel) hown hK hP 0 rfl rfl 7 (by decide) (hts (.fieldLink RX3 50 "TrackDisk" "down" "Z") (by decide +kernel)) (fun _ h9 => h9) rfl dX3_cut_1 ?_
  refine lv_if_eq (tgt := 8) hx hb dX3_cut_4 (by decide) (fun c_4 => ?_) (fun c_4 => ?_)
  · skip
    refine lv_iload_n hx hb dX3_cut_8 rfl (lv_at hl 1 rfl) ?_
    refine lv_iconst (v := nI 0) hx hb dX3_cut_9 (by decide) ?_
    refine lv_aload_n hx hb dX3_cut_10 rfl (lv_at hl 0 rfl) ?_
    refine va_get (D := D) (ci := 4) (v := .ref ((ad 8))) (C := RX3) (T := TX3) (N := 8) hx hb hts (by decide +kernel) hown hK hP 0 rfl rfl 5 (by decide) (hts (.fieldLink RX3 39 "TrackDisk" "waiting" "LTrackDisk$Waiting;") (by decide +kernel)) (fun _ h9 => h9) rfl dX3_cut_11 ?_
    refine va_get (D := D) (ci := 3) (v := .int (nI w)) (C := RX2) (T := TX2) (N := 4) hx hb hts (by decide +kernel) hown hK hP 8 rfl rfl 3 (by decide) (hts (.fieldLink RX3 58 "TrackDisk$Waiting" "size" "I") (by decide +kernel)) (fun _ h9 => h9) rfl dX3_cut_14 ?_
    have hPc := hP.sub (ws' := []) [] rfl
    refine pu_call (va_runS (As := [.int x, .int (nI 0), .int (nI w)]) (rest := []) ⟨hx, hb, hml, hown, hts⟩ (c_held l D κ x (nI 0) (nI w)) (va_cwS 3 hts gX3_cut_X3_held rfl rfl rfl (by decide +kernel) ⟨Nat.le_of_ble_eq_true rfl, Nat.le_of_ble_eq_true rfl⟩) ⟨pu_blind, pu_pre hK hPc⟩ rfl rfl hl.1 rfl (lv_room (Nat.le_of_ble_eq_true rfl)) dX3_cut_17 ⟨Nat.le_of_ble_eq_true rfl, Nat.le_of_ble_eq_true rfl⟩) ?_
    refine tp_i (y := nI n) (hj) ?_
    refine lv_istore_n (lv' := [(3, .int (nI n)), (0, .ref ((ad 0))), (1, .int x), (2, .int y)]) hx hb dX3_cut_20 rfl hl (by decide) rfl (fun ls hl => ?_)
    refine lv_aload_n hx hb dX3_cut_21 rfl (lv_at hl 1 rfl) ?_
    refine lv_iload_n hx hb dX3_cut_22 rfl (lv_at hl 0 rfl) ?_
    have hPc := hP.sub (ws' := tdW κ T S ad bs sm pl r0 r1 tk vo du nd wt wx wb (nI w) tp tn ts (nI 0)) [0, 1, 2, 3, 4, 5, 6, 7, 8, 9, 10, 11, 12, 13] rfl
    have hDc := hD.sub (ws' := tdW κ T S ad bs sm pl r0 r1 tk vo du nd wt wx wb (nI w) tp tn ts (nI 0)) [0, 1, 2, 3, 4, 5, 6, 7, 8, 9, 10, 11, 12, 13] (by decide) rfl
    refine mu_call (wc := tdW κ T S ad bs sm pl r0 r1 tk vo du nd wt wx wb (nI w) tp tn ts (nI 0)) (wc' := tdW κ T S ad ((lyF S pl wt wx wb (bs, sm, r0, r1) n).1) ((lyF S pl wt wx wb (bs, sm, r0, r1) n).2.1) pl ((lyF S pl wt wx wb (bs, sm, r0, r1) n).2.2.1) ((lyF S pl wt wx wb (bs, sm, r0, r1) n).2.2.2) tk vo du nd wt wx wb (nI w) tp tn ts (nI 0)) (ws' := tdW κ T S ad ((lyF S pl wt wx wb (bs, sm, r0, r1) n).1) ((lyF S pl wt wx wb (bs, sm, r0, r1) n).2.1) pl ((lyF S pl wt wx wb (bs, sm, r0, r1) n).2.2.1) ((lyF S pl wt wx wb (bs, sm, r0, r1) n).2.2.2) tk vo du nd wt wx wb (nI w) tp tn ts (nI 0)) (wr := (([] : List Nat).filterMap fun i => (tdW κ T S ad bs sm pl r0 r1 tk vo du nd wt wx wb (nI w) tp tn ts (nI 0))[i]?)) (va_runV (As := [.int (nI n)]) (rest := []) ⟨hx, hb, hml, hown, hts⟩ (c_layFirst l D κ H.size T S ad bs sm pl r0 r1 tk vo du nd wt wx wb (nI w) tp tn ts (nI 0) hT hS8 hpl n (by omega) (fun k hk => hwt k (by omega)) (fun k hk => hwx k (by omega))) (cwV 1 hts gX3_cut_X3_layFirst rfl rfl rfl (by decide +kernel) ⟨Nat.le_of_ble_eq_true rfl, Nat.le_of_ble_eq_true rfl⟩) ⟨mu_blind, va_recv hK hPc (ci := 4) (q0 := 0) rfl rfl, mu_pre hK hPc hDc⟩ rfl rfl hl.1 rfl (lv_room (Nat.le_of_ble_eq_true rfl)) dX3_cut_23 ⟨Nat.le_of_ble_eq_true rfl, Nat.le_of_ble_eq_true rfl⟩) hP hD hS hA [0, 1, 2, 3, 4, 5, 6, 7, 8, 9, 10, 11, 12, 13] [] [0, 1, 2, 3, 4, 5, 6, 7, 8, 9, 10, 11, 12, 13] rfl rfl (by decide) (by decide) rfl rfl (by decide) (fun H locs hP hD hS => ?_)
    refine W.eq (g2 := F0 m 26 ls []) rfl ?_
    refine lv_iload_n hx hb dX3_cut_26 rfl (lv_at hl 0 rfl) ?_
    refine lv_aload_n hx hb dX3_cut_27 rfl (lv_at hl 1 rfl) ?_
    refine va_get (D := D) (ci := 4) (v := .ref ((ad 8))) (C := RX3) (T := TX3) (N := 8) hx hb hts (by decide +kernel) hown hK hP 0 rfl rfl 5 (by decide) (hts (.fieldLink RX3 39 "TrackDisk" "waiting" "LTrackDisk$Waiting;") (by decide +kernel)) (fun _ h9 => h9) rfl dX3_cut_28 ?_
    refine va_get (D := D) (ci := 3) (v := .int (nI w)) (C := RX2) (T := TX2) (N := 4) hx hb hts (by decide +kernel) hown hK hP 8 rfl rfl 3 (by decide) (hts (.fieldLink RX3 58 "TrackDisk$Waiting" "size" "I") (by decide +kernel)) (fun _ h9 => h9) rfl dX3_cut_31 ?_
    refine lv_icmp_ge (tgt := 78) hx hb dX3_cut_34 (by decide) (fun c_34 => ?_) (fun c_34 => ?_)
    · skip
      refine lv_aload_n hx hb dX3_cut_78 rfl (lv_at hl 1 rfl) ?_
      refine va_get (D := D) (ci := 4) (v := .ref ((ad 8))) (C := RX3) (T := TX3) (N := 8) hx hb hts (by decide +kernel) hown hK hP 0 rfl rfl 5 (by decide) (hts (.fieldLink RX3 39 "TrackDisk" "waiting" "LTrackDisk$Waiting;") (by decide +kernel)) (fun _ h9 => h9) rfl dX3_cut_79 ?_
      have hPc := hP.sub (ws' := waW κ (fun j => ad (j + 8)) wt wx wb (nI w)) [8, 9, 10, 11] rfl
      have hDc := hD.sub (ws' := waW κ (fun j => ad (j + 8)) wt wx wb (nI w)) [8, 9, 10, 11] (by decide) rfl
      refine mu_call (wc := waW κ (fun j => ad (j + 8)) wt wx wb (nI w)) (wc' := waW κ (fun j => ad (j + 8)) wt wx wb (nI 0)) (ws' := tdW κ T S ad ((lyF S pl wt wx wb (bs, sm, r0, r1) n).1) ((lyF S pl wt wx wb (bs, sm, r0, r1) n).2.1) pl ((lyF S pl wt wx wb (bs, sm, r0, r1) n).2.2.1) ((lyF S pl wt wx wb (bs, sm, r0, r1) n).2.2.2) tk vo du nd wt wx wb (nI 0) tp tn ts (nI 0)) (wr := (([0, 1, 2, 3, 4, 5, 6, 7, 12, 13] : List Nat).filterMap fun i => (tdW κ T S ad ((lyF S pl wt wx wb (bs, sm, r0, r1) n).1) ((lyF S pl wt wx wb (bs, sm, r0, r1) n).2.1) pl ((lyF S pl wt wx wb (bs, sm, r0, r1) n).2.2.1) ((lyF S pl wt wx wb (bs, sm, r0, r1) n).2.2.2) tk vo du nd wt wx wb (nI w) tp tn ts (nI 0))[i]?)) (va_runV (As := []) (rest := []) ⟨hx, hb, hml, hown, hts⟩ (c_drop l D κ H.size (fun j => ad (j + 8)) wt wx wb (nI w)) (cwV 0 hts gX3_cut_X2_drop rfl rfl rfl (by decide +kernel) ⟨Nat.le_of_ble_eq_true rfl, Nat.le_of_ble_eq_true rfl⟩) ⟨mu_blind, va_recv hK hPc (ci := 3) (q0 := 0) rfl rfl, mu_pre hK hPc hDc⟩ rfl rfl hl.1 rfl (lv_room (Nat.le_of_ble_eq_true rfl)) dX3_cut_82 ⟨Nat.le_of_ble_eq_true rfl, Nat.le_of_ble_eq_true rfl⟩) hP hD hS hA [8, 9, 10, 11] [0, 1, 2, 3, 4, 5, 6, 7, 12, 13] [0, 1, 2, 3, 4, 5, 6, 7, 10, 11, 12, 13, 8, 9] rfl rfl (by decide) (by decide) rfl rfl (by decide) (fun H locs hP hD hS => ?_)
      refine W.eq (g2 := F0 m 85 ls []) rfl ?_
      refine lv_aload_n hx hb dX3_cut_85 rfl (lv_at hl 1 rfl) ?_
      refine lv_iconst (v := nI 1) hx hb dX3_cut_86 (by decide) ?_
      refine va_put (D := D) (ci := 4) (v := .int (nI 1)) (ty := .boolean) (C := RX3) (T := TX3) (N := 8) hx hb hts (by decide +kernel) tyX3 tyX3_ok nmX3 hown hK hP hD hS 0 rfl rfl 7 (by decide) (hts (.fieldLink RX3 50 "TrackDisk" "down" "Z") (by decide +kernel)) (fun _ h9 => h9) rfl (by decide +kernel) rfl rfl (Nat.le_of_ble_eq_true rfl) dX3_cut_87 (fun H locs hP hD hS => ?_)
      have hP : va_P D vwCl (tdW κ T S ad ((lyF S pl wt wx wb (bs, sm, r0, r1) n).1) ((lyF S pl wt wx wb (bs, sm, r0, r1) n).2.1) pl ((lyF S pl wt wx wb (bs, sm, r0, r1) n).2.2.1) ((lyF S pl wt wx wb (bs, sm, r0, r1) n).2.2.2) tk vo du nd wt wx wb (nI 0) tp tn ts (nI 1)) H := hP
      have hD : va_D A (tdW κ T S ad ((lyF S pl wt wx wb (bs, sm, r0, r1) n).1) ((lyF S pl wt wx wb (bs, sm, r0, r1) n).2.1) pl ((lyF S pl wt wx wb (bs, sm, r0, r1) n).2.2.1) ((lyF S pl wt wx wb (bs, sm, r0, r1) n).2.2.2) tk vo du nd wt wx wb (nI 0) tp tn ts (nI 1)) := hD
      have hP9 : va_P D vwCl (tdW κ T S ad ((lyF S pl wt wx wb (bs, sm, r0, r1) n).1) ((lyF S pl wt wx wb (bs, sm, r0, r1) n).2.1) pl ((lyF S pl wt wx wb (bs, sm, r0, r1) n).2.2.1) ((lyF S pl wt wx wb (bs, sm, r0, r1) n).2.2.2) tk vo du nd wt wx wb (nI 0) tp tn ts (nI 1)) H := hP
      have hD9 : va_D A (tdW κ T S ad ((lyF S pl wt wx wb (bs, sm, r0, r1) n).1) ((lyF S pl wt wx wb (bs, sm, r0, r1) n).2.1) pl ((lyF S pl wt wx wb (bs, sm, r0, r1) n).2.2.1) ((lyF S pl wt wx wb (bs, sm, r0, r1) n).2.2.2) tk vo du nd wt wx wb (nI 0) tp tn ts (nI 1)) := hD
      exact W.vret hx hb hr (fun t ht _ => ⟨⟨rfl, by rw [ht]; exact hP9, hD9⟩, hS.F ht⟩) hS.2.2 dX3_cut_90 hlocks
    · exact absurd (nI_le (Nat.le_of_eq hnw.symm) (by omega)) c_34
  · exact absurd (by decide) c_4

set_option maxHeartbeats 4000000 in
set_option maxRecDepth 100000 in
/-- cut: one torn -/
theorem c_cut (l : Launch) (D : va_G) (κ : Nat → ClassId) (sz : Nat) (T S : Nat) (ad : Nat → Nat) (bs sm pl r0 r1 : Nat → Int32) (tk vo : Int32) (du : Nat → Option Nat) (nd : Int32) (wt wx wb : Nat → Int32) (tp : Nat → Int32) (tn ts : Int32)  (hT : T ≤ 12) (hS8 : S ≤ 8) (hpl : ∀ t, t < T → vp_in (pl t) (T + 2)) (w : Nat) (hw : w ≤ 40) (hwt : ∀ k, k < w → vp_in (wt k) T) (hwx : ∀ k, k < w → vp_in (wx k) S) (x y : Int32) (n : Nat) (hj : hdF x (nI 0) (nI w) = nI n) (hnw : n < w) (g : Nat) (hg : hdF y (nI 0) (nI 16) = nI g) (hg6 : g ≤ 16) : Met l yX3_cut wsX3_cut ({ frames := 5, cells := 0, slots := 0, locals := 116 }) (va_Pc [.ref ((ad 0)), .int x, .int y] (mu_B D κ (tdW κ T S ad bs sm pl r0 r1 tk vo du nd wt wx wb (nI w) tp tn ts (nI 0)) sz)) (mu_Q D none (tdW κ T S ad (flF (lyF S pl wt wx wb (bs, sm, r0, r1) n).1 ((cl (pl (cl (wt n))) * S + cl (wx n)) * 16) (wb n) g) ((lyF S pl wt wx wb (bs, sm, r0, r1) n).2.1) pl (upd (lyF S pl wt wx wb (bs, sm, r0, r1) n).2.2.1 (cl (wt n)) (nI 1)) ((lyF S pl wt wx wb (bs, sm, r0, r1) n).2.2.2) tk vo du nd wt wx wb (nI 0) tp tn ts (nI 1)) (va_A (tdW κ T S ad bs sm pl r0 r1 tk vo du nd wt wx wb (nI w) tp tn ts (nI 0)) sz)) 0 0 (va_A (tdW κ T S ad bs sm pl r0 r1 tk vo du nd wt wx wb (nI w) tp tn ts (nI 0)) sz) := by
  refine Met.ofW (cc := cX3_cut) (maxL := 4) (ret := none) (by decide) rfl ?_
  intro p e s m args below meth c s₁ B hml hv
  obtain ⟨rfl, hsz, hP, hK, hD0⟩ := hv
  have hx := B.exec
  have hb := B.bytes
  have hr := B.returns
  have hts := atoms_spec (ws := wsX3_cut) B.pre
  have hown : s.vm.findClass RX3 = some m.cls := findClass_of_methodNamed B.named
  have hlocks := B.notSynchronized
  subst hsz
  have hD := hD0.self (sz := s.heap.size)
  generalize hAe : va_A (tdW κ T S ad bs sm pl r0 r1 tk vo du nd wt wx wb (nI w) tp tn ts (nI 0)) s.heap.size = A at hD ⊢
  have hA : ∀ q : Nat, s.heap.size ≤ q → A q := fun q h => by rw [← hAe]; exact Or.inr h
  refine W.gen (P := fun H locs => va_P D vwCl (tdW κ T S ad bs sm pl r0 r1 tk vo du nd wt wx wb (nI w) tp tn ts (nI 0)) H ∧ va_S A s.heap H locs) (fun H locs h => ?_) ⟨hP, va_S.rf⟩
  clear hP
  obtain ⟨hP, hS⟩ := h
  have hl := lv_entry ([.ref ((ad 0)), .int x, .int y]) (n := 4) (Nat.le_of_ble_eq_true rfl)
  rw [lg_entry_eq]
  generalize (lg_sl ([.ref ((ad 0)), .int x, .int y]) ++ List.replicate (4 - (lg_sl ([.ref ((ad 0)), .int x, .int y])).length) Slot.unset).toArray = ls at hl ⊢
  have hl : lv_has ls 4 [(0, .ref ((ad 0))), (1, .int x), (2, .int y)] := hl
  have hmx := sf_max hT hS8
  have hwtk := cl_nI (hwt n hnw) (by omega)
  have hwxk := cl_nI (hwx n hnw) (by omega)
  refine lv_aload_n hx hb dX3_cut_0 rfl (lv_at hl 0 rfl) ?_
  refine va_get (D := D) (ci := 4) (v := .int (nI 0)) (C := RX3) (T := TX3) (N := 8) hx hb hts (by decide +kernel) hown hK hP 0 rfl rfl 7 (by decide) (hts (.fieldLink RX3 50 "TrackDisk" "down" "Z") (by decide +kernel)) (fun _ h9 => h9) rfl dX3_cut_1 ?_
  refine lv_if_eq (tgt := 8) hx hb dX3_cut_4 (by decide) (fun c_4 => ?_) (fun c_4 => ?_)
  · skip
    refine lv_iload_n hx hb dX3_cut_8 rfl (lv_at hl 1 rfl) ?_
    refine lv_iconst (v := nI 0) hx hb dX3_cut_9 (by decide) ?_
    refine lv_aload_n hx hb dX3_cut_10 rfl (lv_at hl 0 rfl) ?_
    refine va_get (D := D) (ci := 4) (v := .ref ((ad 8))) (C := RX3) (T := TX3) (N := 8) hx hb hts (by decide +kernel) hown hK hP 0 rfl rfl 5 (by decide) (hts (.fieldLink RX3 39 "TrackDisk" "waiting" "LTrackDisk$Waiting;") (by decide +kernel)) (fun _ h9 => h9) rfl dX3_cut_11 ?_
    refine va_get (D := D) (ci := 3) (v := .int (nI w)) (C := RX2) (T := TX2) (N := 4) hx hb hts (by decide +kernel) hown hK hP 8 rfl rfl 3 (by decide) (hts (.fieldLink RX3 58 "TrackDisk$Waiting" "size" "I") (by decide +kernel)) (fun _ h9 => h9) rfl dX3_cut_14 ?_
    have hPc := hP.sub (ws' := []) [] rfl
    refine pu_call (va_runS (As := [.int x, .int (nI 0), .int (nI w)]) (rest := []) ⟨hx, hb, hml, hown, hts⟩ (c_held l D κ x (nI 0) (nI w)) (va_cwS 3 hts gX3_cut_X3_held rfl rfl rfl (by decide +kernel) ⟨Nat.le_of_ble_eq_true rfl, Nat.le_of_ble_eq_true rfl⟩) ⟨pu_blind, pu_pre hK hPc⟩ rfl rfl hl.1 rfl (lv_room (Nat.le_of_ble_eq_true rfl)) dX3_cut_17 ⟨Nat.le_of_ble_eq_true rfl, Nat.le_of_ble_eq_true rfl⟩) ?_
    refine tp_i (y := nI n) (hj) ?_
    refine lv_istore_n (lv' := [(3, .int (nI n)), (0, .ref ((ad 0))), (1, .int x), (2, .int y)]) hx hb dX3_cut_20 rfl hl (by decide) rfl (fun ls hl => ?_)
    refine lv_aload_n hx hb dX3_cut_21 rfl (lv_at hl 1 rfl) ?_
    refine lv_iload_n hx hb dX3_cut_22 rfl (lv_at hl 0 rfl) ?_
    have hPc := hP.sub (ws' := tdW κ T S ad bs sm pl r0 r1 tk vo du nd wt wx wb (nI w) tp tn ts (nI 0)) [0, 1, 2, 3, 4, 5, 6, 7, 8, 9, 10, 11, 12, 13] rfl
    have hDc := hD.sub (ws' := tdW κ T S ad bs sm pl r0 r1 tk vo du nd wt wx wb (nI w) tp tn ts (nI 0)) [0, 1, 2, 3, 4, 5, 6, 7, 8, 9, 10, 11, 12, 13] (by decide) rfl
    refine mu_call (wc := tdW κ T S ad bs sm pl r0 r1 tk vo du nd wt wx wb (nI w) tp tn ts (nI 0)) (wc' := tdW κ T S ad ((lyF S pl wt wx wb (bs, sm, r0, r1) n).1) ((lyF S pl wt wx wb (bs, sm, r0, r1) n).2.1) pl ((lyF S pl wt wx wb (bs, sm, r0, r1) n).2.2.1) ((lyF S pl wt wx wb (bs, sm, r0, r1) n).2.2.2) tk vo du nd wt wx wb (nI w) tp tn ts (nI 0)) (ws' := tdW κ T S ad ((lyF S pl wt wx wb (bs, sm, r0, r1) n).1) ((lyF S pl wt wx wb (bs, sm, r0, r1) n).2.1) pl ((lyF S pl wt wx wb (bs, sm, r0, r1) n).2.2.1) ((lyF S pl wt wx wb (bs, sm, r0, r1) n).2.2.2) tk vo du nd wt wx wb (nI w) tp tn ts (nI 0)) (wr := (([] : List Nat).filterMap fun i => (tdW κ T S ad bs sm pl r0 r1 tk vo du nd wt wx wb (nI w) tp tn ts (nI 0))[i]?)) (va_runV (As := [.int (nI n)]) (rest := []) ⟨hx, hb, hml, hown, hts⟩ (c_layFirst l D κ H.size T S ad bs sm pl r0 r1 tk vo du nd wt wx wb (nI w) tp tn ts (nI 0) hT hS8 hpl n (by omega) (fun k hk => hwt k (by omega)) (fun k hk => hwx k (by omega))) (cwV 1 hts gX3_cut_X3_layFirst rfl rfl rfl (by decide +kernel) ⟨Nat.le_of_ble_eq_true rfl, Nat.le_of_ble_eq_true rfl⟩) ⟨mu_blind, va_recv hK hPc (ci := 4) (q0 := 0) rfl rfl, mu_pre hK hPc hDc⟩ rfl rfl hl.1 rfl (lv_room (Nat.le_of_ble_eq_true rfl)) dX3_cut_23 ⟨Nat.le_of_ble_eq_true rfl, Nat.le_of_ble_eq_true rfl⟩) hP hD hS hA [0, 1, 2, 3, 4, 5, 6, 7, 8, 9, 10, 11, 12, 13] [] [0, 1, 2, 3, 4, 5, 6, 7, 8, 9, 10, 11, 12, 13] rfl rfl (by decide) (by decide) rfl rfl (by decide) (fun H locs hP hD hS => ?_)
    refine W.eq (g2 := F0 m 26 ls []) rfl ?_
    refine lv_iload_n hx hb dX3_cut_26 rfl (lv_at hl 0 rfl) ?_
    refine lv_aload_n hx hb dX3_cut_27 rfl (lv_at hl 1 rfl) ?_
    refine va_get (D := D) (ci := 4) (v := .ref ((ad 8))) (C := RX3) (T := TX3) (N := 8) hx hb hts (by decide +kernel) hown hK hP 0 rfl rfl 5 (by decide) (hts (.fieldLink RX3 39 "TrackDisk" "waiting" "LTrackDisk$Waiting;") (by decide +kernel)) (fun _ h9 => h9) rfl dX3_cut_28 ?_
    refine va_get (D := D) (ci := 3) (v := .int (nI w)) (C := RX2) (T := TX2) (N := 4) hx hb hts (by decide +kernel) hown hK hP 8 rfl rfl 3 (by decide) (hts (.fieldLink RX3 58 "TrackDisk$Waiting" "size" "I") (by decide +kernel)) (fun _ h9 => h9) rfl dX3_cut_31 ?_
    refine lv_icmp_ge (tgt := 78) hx hb dX3_cut_34 (by decide) (fun c_34 => ?_) (fun c_34 => ?_)
    · exact absurd c_34 (nI_ge hnw (by omega))
    · skip
      refine lv_aload_n hx hb dX3_cut_37 rfl (lv_at hl 1 rfl) ?_
      refine va_get (D := D) (ci := 4) (v := .ref ((ad 1))) (C := RX3) (T := TX3) (N := 8) hx hb hts (by decide +kernel) hown hK hP 0 rfl rfl 2 (by decide) (hts (.fieldLink RX3 25 "TrackDisk" "disk" "LTrackDisk$Surface;") (by decide +kernel)) (fun _ h9 => h9) rfl dX3_cut_38 ?_
      refine lv_aload_n hx hb dX3_cut_41 rfl (lv_at hl 1 rfl) ?_
      refine va_get (D := D) (ci := 4) (v := .ref ((ad 8))) (C := RX3) (T := TX3) (N := 8) hx hb hts (by decide +kernel) hown hK hP 0 rfl rfl 5 (by decide) (hts (.fieldLink RX3 39 "TrackDisk" "waiting" "LTrackDisk$Waiting;") (by decide +kernel)) (fun _ h9 => h9) rfl dX3_cut_42 ?_
      refine va_get (D := D) (ci := 3) (v := .ref ((ad 9))) (C := RX2) (T := TX2) (N := 4) hx hb hts (by decide +kernel) hown hK hP 8 rfl rfl 0 (by decide) (hts (.fieldLink RX3 91 "TrackDisk$Waiting" "track" "[I") (by decide +kernel)) (fun _ h9 => h9) rfl dX3_cut_45 ?_
      refine lv_iload_n hx hb dX3_cut_48 rfl (lv_at hl 0 rfl) ?_
      refine va_iald hx hb hK hP 9 0 rfl rfl (vp_in_nI (by omega) (by omega)) dX3_cut_49 ?_
      refine tp_i (y := nI (cl (wt n))) (by rw [nI_clamp (by omega)]; exact hwtk.1) ?_
      refine lv_aload_n hx hb dX3_cut_50 rfl (lv_at hl 1 rfl) ?_
      refine va_get (D := D) (ci := 4) (v := .ref ((ad 8))) (C := RX3) (T := TX3) (N := 8) hx hb hts (by decide +kernel) hown hK hP 0 rfl rfl 5 (by decide) (hts (.fieldLink RX3 39 "TrackDisk" "waiting" "LTrackDisk$Waiting;") (by decide +kernel)) (fun _ h9 => h9) rfl dX3_cut_51 ?_
      refine va_get (D := D) (ci := 3) (v := .ref ((ad 10))) (C := RX2) (T := TX2) (N := 4) hx hb hts (by decide +kernel) hown hK hP 8 rfl rfl 1 (by decide) (hts (.fieldLink RX3 95 "TrackDisk$Waiting" "sector" "[I") (by decide +kernel)) (fun _ h9 => h9) rfl dX3_cut_54 ?_
      refine lv_iload_n hx hb dX3_cut_57 rfl (lv_at hl 0 rfl) ?_
      refine va_iald hx hb hK hP 10 0 rfl rfl (vp_in_nI (by omega) (by omega)) dX3_cut_58 ?_
      refine tp_i (y := nI (cl (wx n))) (by rw [nI_clamp (by omega)]; exact hwxk.1) ?_
      refine lv_aload_n hx hb dX3_cut_59 rfl (lv_at hl 1 rfl) ?_
      refine va_get (D := D) (ci := 4) (v := .ref ((ad 8))) (C := RX3) (T := TX3) (N := 8) hx hb hts (by decide +kernel) hown hK hP 0 rfl rfl 5 (by decide) (hts (.fieldLink RX3 39 "TrackDisk" "waiting" "LTrackDisk$Waiting;") (by decide +kernel)) (fun _ h9 => h9) rfl dX3_cut_60 ?_
      refine va_get (D := D) (ci := 3) (v := .ref ((ad 11))) (C := RX2) (T := TX2) (N := 4) hx hb hts (by decide +kernel) hown hK hP 8 rfl rfl 2 (by decide) (hts (.fieldLink RX3 98 "TrackDisk$Waiting" "first" "[B") (by decide +kernel)) (fun _ h9 => h9) rfl dX3_cut_63 ?_
      refine lv_iload_n hx hb dX3_cut_66 rfl (lv_at hl 0 rfl) ?_
      refine va_bald hx hb hK hP 11 1 rfl rfl (vp_in_nI (by omega) (by omega)) dX3_cut_67 ?_
      refine tp_i (y := wb n) (by rw [nI_clamp (by omega)]) ?_
      refine lv_iload_n hx hb dX3_cut_68 rfl (lv_at hl 3 rfl) ?_
      refine lv_iconst (v := nI 0) hx hb dX3_cut_69 (by decide) ?_
      refine lv_bipush (v := nI 16) hx hb dX3_cut_70 (by decide) ?_
      have hPc := hP.sub (ws' := []) [] rfl
      refine pu_call (va_runS (As := [.int y, .int (nI 0), .int (nI 16)]) (rest := [.int (wb n), .int (nI (cl (wx n))), .int (nI (cl (wt n))), .ref ((ad 1))]) ⟨hx, hb, hml, hown, hts⟩ (c_held l D κ y (nI 0) (nI 16)) (va_cwS 3 hts gX3_cut_X3_held rfl rfl rfl (by decide +kernel) ⟨Nat.le_of_ble_eq_true rfl, Nat.le_of_ble_eq_true rfl⟩) ⟨pu_blind, pu_pre hK hPc⟩ rfl rfl hl.1 rfl (lv_room (Nat.le_of_ble_eq_true rfl)) dX3_cut_72 ⟨Nat.le_of_ble_eq_true rfl, Nat.le_of_ble_eq_true rfl⟩) ?_
      refine tp_i (y := nI g) (hg) ?_
      have hPc := hP.sub (ws' := sfW κ T S (fun j => ad (j + 1)) ((lyF S pl wt wx wb (bs, sm, r0, r1) n).1) ((lyF S pl wt wx wb (bs, sm, r0, r1) n).2.1) pl ((lyF S pl wt wx wb (bs, sm, r0, r1) n).2.2.1) ((lyF S pl wt wx wb (bs, sm, r0, r1) n).2.2.2) tk vo) [1, 2, 3, 4, 5, 6] rfl
      have hDc := hD.sub (ws' := sfW κ T S (fun j => ad (j + 1)) ((lyF S pl wt wx wb (bs, sm, r0, r1) n).1) ((lyF S pl wt wx wb (bs, sm, r0, r1) n).2.1) pl ((lyF S pl wt wx wb (bs, sm, r0, r1) n).2.2.1) ((lyF S pl wt wx wb (bs, sm, r0, r1) n).2.2.2) tk vo) [1, 2, 3, 4, 5, 6] (by decide) rfl
      refine mu_call (wc := sfW κ T S (fun j => ad (j + 1)) ((lyF S pl wt wx wb (bs, sm, r0, r1) n).1) ((lyF S pl wt wx wb (bs, sm, r0, r1) n).2.1) pl ((lyF S pl wt wx wb (bs, sm, r0, r1) n).2.2.1) ((lyF S pl wt wx wb (bs, sm, r0, r1) n).2.2.2) tk vo) (wc' := sfW κ T S (fun j => ad (j + 1)) (flF (lyF S pl wt wx wb (bs, sm, r0, r1) n).1 ((cl (pl (cl (wt n))) * S + cl (wx n)) * 16) (wb n) g) ((lyF S pl wt wx wb (bs, sm, r0, r1) n).2.1) pl (upd (lyF S pl wt wx wb (bs, sm, r0, r1) n).2.2.1 (cl (wt n)) (nI 1)) ((lyF S pl wt wx wb (bs, sm, r0, r1) n).2.2.2) tk vo) (ws' := tdW κ T S ad (flF (lyF S pl wt wx wb (bs, sm, r0, r1) n).1 ((cl (pl (cl (wt n))) * S + cl (wx n)) * 16) (wb n) g) ((lyF S pl wt wx wb (bs, sm, r0, r1) n).2.1) pl (upd (lyF S pl wt wx wb (bs, sm, r0, r1) n).2.2.1 (cl (wt n)) (nI 1)) ((lyF S pl wt wx wb (bs, sm, r0, r1) n).2.2.2) tk vo du nd wt wx wb (nI w) tp tn ts (nI 0)) (wr := (([0, 7, 8, 9, 10, 11, 12, 13] : List Nat).filterMap fun i => (tdW κ T S ad ((lyF S pl wt wx wb (bs, sm, r0, r1) n).1) ((lyF S pl wt wx wb (bs, sm, r0, r1) n).2.1) pl ((lyF S pl wt wx wb (bs, sm, r0, r1) n).2.2.1) ((lyF S pl wt wx wb (bs, sm, r0, r1) n).2.2.2) tk vo du nd wt wx wb (nI w) tp tn ts (nI 0))[i]?)) (va_runV (As := [.int (nI (cl (wt n))), .int (nI (cl (wx n))), .int (wb n), .int (nI g)]) (rest := []) ⟨hx, hb, hml, hown, hts⟩ (c_layTorn l D κ H.size T S (fun j => ad (j + 1)) ((lyF S pl wt wx wb (bs, sm, r0, r1) n).1) ((lyF S pl wt wx wb (bs, sm, r0, r1) n).2.1) pl ((lyF S pl wt wx wb (bs, sm, r0, r1) n).2.2.1) ((lyF S pl wt wx wb (bs, sm, r0, r1) n).2.2.2) tk vo hT hS8 hpl (cl (wt n)) (cl (wx n)) hwtk.2 hwxk.2 (wb n) g hg6) (cwV 4 hts gX3_cut_X1_layTorn rfl rfl rfl (by decide +kernel) ⟨Nat.le_of_ble_eq_true rfl, Nat.le_of_ble_eq_true rfl⟩) ⟨mu_blind, va_recv hK hPc (ci := 2) (q0 := 0) rfl rfl, mu_pre hK hPc hDc⟩ rfl rfl hl.1 rfl (lv_room (Nat.le_of_ble_eq_true rfl)) dX3_cut_75 ⟨Nat.le_of_ble_eq_true rfl, Nat.le_of_ble_eq_true rfl⟩) hP hD hS hA [1, 2, 3, 4, 5, 6] [0, 7, 8, 9, 10, 11, 12, 13] [0, 8, 9, 10, 11, 12, 13, 1, 2, 3, 4, 5, 6, 7] rfl rfl (by decide) (by decide) rfl rfl (by decide) (fun H locs hP hD hS => ?_)
      refine W.eq (g2 := F0 m 78 ls []) rfl ?_
      refine lv_aload_n hx hb dX3_cut_78 rfl (lv_at hl 1 rfl) ?_
      refine va_get (D := D) (ci := 4) (v := .ref ((ad 8))) (C := RX3) (T := TX3) (N := 8) hx hb hts (by decide +kernel) hown hK hP 0 rfl rfl 5 (by decide) (hts (.fieldLink RX3 39 "TrackDisk" "waiting" "LTrackDisk$Waiting;") (by decide +kernel)) (fun _ h9 => h9) rfl dX3_cut_79 ?_
      have hPc := hP.sub (ws' := waW κ (fun j => ad (j + 8)) wt wx wb (nI w)) [8, 9, 10, 11] rfl
      have hDc := hD.sub (ws' := waW κ (fun j => ad (j + 8)) wt wx wb (nI w)) [8, 9, 10, 11] (by decide) rfl
      refine mu_call (wc := waW κ (fun j => ad (j + 8)) wt wx wb (nI w)) (wc' := waW κ (fun j => ad (j + 8)) wt wx wb (nI 0)) (ws' := tdW κ T S ad (flF (lyF S pl wt wx wb (bs, sm, r0, r1) n).1 ((cl (pl (cl (wt n))) * S + cl (wx n)) * 16) (wb n) g) ((lyF S pl wt wx wb (bs, sm, r0, r1) n).2.1) pl (upd (lyF S pl wt wx wb (bs, sm, r0, r1) n).2.2.1 (cl (wt n)) (nI 1)) ((lyF S pl wt wx wb (bs, sm, r0, r1) n).2.2.2) tk vo du nd wt wx wb (nI 0) tp tn ts (nI 0)) (wr := (([0, 1, 2, 3, 4, 5, 6, 7, 12, 13] : List Nat).filterMap fun i => (tdW κ T S ad (flF (lyF S pl wt wx wb (bs, sm, r0, r1) n).1 ((cl (pl (cl (wt n))) * S + cl (wx n)) * 16) (wb n) g) ((lyF S pl wt wx wb (bs, sm, r0, r1) n).2.1) pl (upd (lyF S pl wt wx wb (bs, sm, r0, r1) n).2.2.1 (cl (wt n)) (nI 1)) ((lyF S pl wt wx wb (bs, sm, r0, r1) n).2.2.2) tk vo du nd wt wx wb (nI w) tp tn ts (nI 0))[i]?)) (va_runV (As := []) (rest := []) ⟨hx, hb, hml, hown, hts⟩ (c_drop l D κ H.size (fun j => ad (j + 8)) wt wx wb (nI w)) (cwV 0 hts gX3_cut_X2_drop rfl rfl rfl (by decide +kernel) ⟨Nat.le_of_ble_eq_true rfl, Nat.le_of_ble_eq_true rfl⟩) ⟨mu_blind, va_recv hK hPc (ci := 3) (q0 := 0) rfl rfl, mu_pre hK hPc hDc⟩ rfl rfl hl.1 rfl (lv_room (Nat.le_of_ble_eq_true rfl)) dX3_cut_82 ⟨Nat.le_of_ble_eq_true rfl, Nat.le_of_ble_eq_true rfl⟩) hP hD hS hA [8, 9, 10, 11] [0, 1, 2, 3, 4, 5, 6, 7, 12, 13] [0, 1, 2, 3, 4, 5, 6, 7, 10, 11, 12, 13, 8, 9] rfl rfl (by decide) (by decide) rfl rfl (by decide) (fun H locs hP hD hS => ?_)
      refine W.eq (g2 := F0 m 85 ls []) rfl ?_
      refine lv_aload_n hx hb dX3_cut_85 rfl (lv_at hl 1 rfl) ?_
      refine lv_iconst (v := nI 1) hx hb dX3_cut_86 (by decide) ?_
      refine va_put (D := D) (ci := 4) (v := .int (nI 1)) (ty := .boolean) (C := RX3) (T := TX3) (N := 8) hx hb hts (by decide +kernel) tyX3 tyX3_ok nmX3 hown hK hP hD hS 0 rfl rfl 7 (by decide) (hts (.fieldLink RX3 50 "TrackDisk" "down" "Z") (by decide +kernel)) (fun _ h9 => h9) rfl (by decide +kernel) rfl rfl (Nat.le_of_ble_eq_true rfl) dX3_cut_87 (fun H locs hP hD hS => ?_)
      have hP : va_P D vwCl (tdW κ T S ad (flF (lyF S pl wt wx wb (bs, sm, r0, r1) n).1 ((cl (pl (cl (wt n))) * S + cl (wx n)) * 16) (wb n) g) ((lyF S pl wt wx wb (bs, sm, r0, r1) n).2.1) pl (upd (lyF S pl wt wx wb (bs, sm, r0, r1) n).2.2.1 (cl (wt n)) (nI 1)) ((lyF S pl wt wx wb (bs, sm, r0, r1) n).2.2.2) tk vo du nd wt wx wb (nI 0) tp tn ts (nI 1)) H := hP
      have hD : va_D A (tdW κ T S ad (flF (lyF S pl wt wx wb (bs, sm, r0, r1) n).1 ((cl (pl (cl (wt n))) * S + cl (wx n)) * 16) (wb n) g) ((lyF S pl wt wx wb (bs, sm, r0, r1) n).2.1) pl (upd (lyF S pl wt wx wb (bs, sm, r0, r1) n).2.2.1 (cl (wt n)) (nI 1)) ((lyF S pl wt wx wb (bs, sm, r0, r1) n).2.2.2) tk vo du nd wt wx wb (nI 0) tp tn ts (nI 1)) := hD
      have hP9 : va_P D vwCl (tdW κ T S ad (flF (lyF S pl wt wx wb (bs, sm, r0, r1) n).1 ((cl (pl (cl (wt n))) * S + cl (wx n)) * 16) (wb n) g) ((lyF S pl wt wx wb (bs, sm, r0, r1) n).2.1) pl (upd (lyF S pl wt wx wb (bs, sm, r0, r1) n).2.2.1 (cl (wt n)) (nI 1)) ((lyF S pl wt wx wb (bs, sm, r0, r1) n).2.2.2) tk vo du nd wt wx wb (nI 0) tp tn ts (nI 1)) H := hP
      have hD9 : va_D A (tdW κ T S ad (flF (lyF S pl wt wx wb (bs, sm, r0, r1) n).1 ((cl (pl (cl (wt n))) * S + cl (wx n)) * 16) (wb n) g) ((lyF S pl wt wx wb (bs, sm, r0, r1) n).2.1) pl (upd (lyF S pl wt wx wb (bs, sm, r0, r1) n).2.2.1 (cl (wt n)) (nI 1)) ((lyF S pl wt wx wb (bs, sm, r0, r1) n).2.2.2) tk vo du nd wt wx wb (nI 0) tp tn ts (nI 1)) := hD
      exact W.vret hx hb hr (fun t ht _ => ⟨⟨rfl, by rw [ht]; exact hP9, hD9⟩, hS.F ht⟩) hS.2.2 dX3_cut_90 hlocks
  · exact absurd (by decide) c_4

set_option maxHeartbeats 4000000 in
set_option maxRecDepth 100000 in
/-- start: up -/
theorem c_start_up (l : Launch) (D : va_G) (κ : Nat → ClassId) (sz : Nat) (T S : Nat) (ad : Nat → Nat) (bs sm pl r0 r1 : Nat → Int32) (tk vo : Int32) (du : Nat → Option Nat) (nd : Int32) (wt wx wb : Nat → Int32) (wn : Int32) (tp : Nat → Int32) (tn ts : Int32)   : Met l yX3_start wsX3_start ({ frames := 4, cells := 0, slots := 0, locals := 94 }) (va_Pc [.ref ((ad 0))] (mu_B D κ (tdW κ T S ad bs sm pl r0 r1 tk vo du nd wt wx wb wn tp tn ts (nI 0)) sz)) (mu_Q D (some (.int ((-5)))) (tdW κ T S ad bs sm pl r0 r1 tk vo du nd wt wx wb wn tp tn ts (nI 0)) (va_A (tdW κ T S ad bs sm pl r0 r1 tk vo du nd wt wx wb wn tp tn ts (nI 0)) sz)) 0 0 (va_A (tdW κ T S ad bs sm pl r0 r1 tk vo du nd wt wx wb wn tp tn ts (nI 0)) sz) := by
  refine Met.ofW (cc := cX3_start) (maxL := 1) (ret := (some .int)) (by decide) rfl ?_
  intro p e s m args below meth c s₁ B hml hv
  obtain ⟨rfl, hsz, hP, hK, hD0⟩ := hv
  have hx := B.exec
  have hb := B.bytes
  have hr := B.returns
  have hts := atoms_spec (ws := wsX3_start) B.pre
  have hown : s.vm.findClass RX3 = some m.cls := findClass_of_methodNamed B.named
  have hlocks := B.notSynchronized
  subst hsz
  have hD := hD0.self (sz := s.heap.size)
  generalize hAe : va_A (tdW κ T S ad bs sm pl r0 r1 tk vo du nd wt wx wb wn tp tn ts (nI 0)) s.heap.size = A at hD ⊢
  have hA : ∀ q : Nat, s.heap.size ≤ q → A q := fun q h => by rw [← hAe]; exact Or.inr h
  refine W.gen (P := fun H locs => va_P D vwCl (tdW κ T S ad bs sm pl r0 r1 tk vo du nd wt wx wb wn tp tn ts (nI 0)) H ∧ va_S A s.heap H locs) (fun H locs h => ?_) ⟨hP, va_S.rf⟩
  clear hP
  obtain ⟨hP, hS⟩ := h
  have hl := lv_entry ([.ref ((ad 0))]) (n := 1) (Nat.le_of_ble_eq_true rfl)
  rw [lg_entry_eq]
  generalize (lg_sl ([.ref ((ad 0))]) ++ List.replicate (1 - (lg_sl ([.ref ((ad 0))])).length) Slot.unset).toArray = ls at hl ⊢
  have hl : lv_has ls 1 [(0, .ref ((ad 0)))] := hl
  refine lv_aload_n hx hb dX3_start_0 rfl (lv_at hl 0 rfl) ?_
  refine va_get (D := D) (ci := 4) (v := .int (nI 0)) (C := RX3) (T := TX3) (N := 8) hx hb hts (by decide +kernel) hown hK hP 0 rfl rfl 7 (by decide) (hts (.fieldLink RX3 50 "TrackDisk" "down" "Z") (by decide +kernel)) (fun _ h9 => h9) rfl dX3_start_1 ?_
  refine lv_if_ne (tgt := 10) hx hb dX3_start_4 (by decide) (fun c_4 => ?_) (fun c_4 => ?_)
  · exact absurd (by decide) c_4
  · skip
    refine lv_bipush (v := (-5)) hx hb dX3_start_7 (by decide) ?_
    have hP9 : va_P D vwCl (tdW κ T S ad bs sm pl r0 r1 tk vo du nd wt wx wb wn tp tn ts (nI 0)) H := hP
    have hD9 : va_D A (tdW κ T S ad bs sm pl r0 r1 tk vo du nd wt wx wb wn tp tn ts (nI 0)) := hD
    exact W.iret hx hb hr (fun t ht _ => ⟨⟨rfl, by rw [ht]; exact hP9, hD9⟩, hS.F ht⟩) hS.2.2 dX3_start_9 hlocks

set_option maxHeartbeats 4000000 in
set_option maxRecDepth 100000 in
/-- start -/
theorem c_start (l : Launch) (D : va_G) (κ : Nat → ClassId) (sz : Nat) (T S : Nat) (ad : Nat → Nat) (bs sm pl r0 r1 : Nat → Int32) (tk vo : Int32) (du : Nat → Option Nat) (nd : Int32) (wt wx wb : Nat → Int32) (wn : Int32) (tp : Nat → Int32) (tn ts : Int32)  (hT : T ≤ 12) (hS8 : S ≤ 8) (hpl : ∀ t, t < T → vp_in (pl t) (T + 2))  : Met l yX3_start wsX3_start ({ frames := 4, cells := 0, slots := 0, locals := 94 }) (va_Pc [.ref ((ad 0))] (mu_B D κ (tdW κ T S ad bs sm pl r0 r1 tk vo du nd wt wx wb wn tp tn ts (nI 1)) sz)) (mu_Q D (some (.int (nI (cn2 (iwF bs sm pl S) S T)))) (tdW κ T S ad bs sm pl r0 r1 tk vo du nd wt wx wb wn tp tn ts (nI 0)) (va_A (tdW κ T S ad bs sm pl r0 r1 tk vo du nd wt wx wb wn tp tn ts (nI 1)) sz)) 0 0 (va_A (tdW κ T S ad bs sm pl r0 r1 tk vo du nd wt wx wb wn tp tn ts (nI 1)) sz) := by
  refine Met.ofW (cc := cX3_start) (maxL := 1) (ret := (some .int)) (by decide) rfl ?_
  intro p e s m args below meth c s₁ B hml hv
  obtain ⟨rfl, hsz, hP, hK, hD0⟩ := hv
  have hx := B.exec
  have hb := B.bytes
  have hr := B.returns
  have hts := atoms_spec (ws := wsX3_start) B.pre
  have hown : s.vm.findClass RX3 = some m.cls := findClass_of_methodNamed B.named
  have hlocks := B.notSynchronized
  subst hsz
  have hD := hD0.self (sz := s.heap.size)
  generalize hAe : va_A (tdW κ T S ad bs sm pl r0 r1 tk vo du nd wt wx wb wn tp tn ts (nI 1)) s.heap.size = A at hD ⊢
  have hA : ∀ q : Nat, s.heap.size ≤ q → A q := fun q h => by rw [← hAe]; exact Or.inr h
  refine W.gen (P := fun H locs => va_P D vwCl (tdW κ T S ad bs sm pl r0 r1 tk vo du nd wt wx wb wn tp tn ts (nI 1)) H ∧ va_S A s.heap H locs) (fun H locs h => ?_) ⟨hP, va_S.rf⟩
  clear hP
  obtain ⟨hP, hS⟩ := h
  have hl := lv_entry ([.ref ((ad 0))]) (n := 1) (Nat.le_of_ble_eq_true rfl)
  rw [lg_entry_eq]
  generalize (lg_sl ([.ref ((ad 0))]) ++ List.replicate (1 - (lg_sl ([.ref ((ad 0))])).length) Slot.unset).toArray = ls at hl ⊢
  have hl : lv_has ls 1 [(0, .ref ((ad 0)))] := hl
  refine lv_aload_n hx hb dX3_start_0 rfl (lv_at hl 0 rfl) ?_
  refine va_get (D := D) (ci := 4) (v := .int (nI 1)) (C := RX3) (T := TX3) (N := 8) hx hb hts (by decide +kernel) hown hK hP 0 rfl rfl 7 (by decide) (hts (.fieldLink RX3 50 "TrackDisk" "down" "Z") (by decide +kernel)) (fun _ h9 => h9) rfl dX3_start_1 ?_
  refine lv_if_ne (tgt := 10) hx hb dX3_start_4 (by decide) (fun c_4 => ?_) (fun c_4 => ?_)
  · skip
    refine lv_aload_n hx hb dX3_start_10 rfl (lv_at hl 0 rfl) ?_
    refine lv_iconst (v := nI 0) hx hb dX3_start_11 (by decide) ?_
    refine va_put (D := D) (ci := 4) (v := .int (nI 0)) (ty := .boolean) (C := RX3) (T := TX3) (N := 8) hx hb hts (by decide +kernel) tyX3 tyX3_ok nmX3 hown hK hP hD hS 0 rfl rfl 7 (by decide) (hts (.fieldLink RX3 50 "TrackDisk" "down" "Z") (by decide +kernel)) (fun _ h9 => h9) rfl (by decide +kernel) rfl rfl (Nat.le_of_ble_eq_true rfl) dX3_start_12 (fun H locs hP hD hS => ?_)
    have hP : va_P D vwCl (tdW κ T S ad bs sm pl r0 r1 tk vo du nd wt wx wb wn tp tn ts (nI 0)) H := hP
    have hD : va_D A (tdW κ T S ad bs sm pl r0 r1 tk vo du nd wt wx wb wn tp tn ts (nI 0)) := hD
    refine lv_aload_n hx hb dX3_start_15 rfl (lv_at hl 0 rfl) ?_
    refine va_get (D := D) (ci := 4) (v := .ref ((ad 1))) (C := RX3) (T := TX3) (N := 8) hx hb hts (by decide +kernel) hown hK hP 0 rfl rfl 2 (by decide) (hts (.fieldLink RX3 25 "TrackDisk" "disk" "LTrackDisk$Surface;") (by decide +kernel)) (fun _ h9 => h9) rfl dX3_start_16 ?_
    have hPc := hP.sub (ws' := sfW κ T S (fun j => ad (j + 1)) bs sm pl r0 r1 tk vo) [1, 2, 3, 4, 5, 6] rfl
    refine pu_call (va_runV (As := []) (rest := []) ⟨hx, hb, hml, hown, hts⟩ (c_wrongSectors l D κ T S (fun j => ad (j + 1)) bs sm pl r0 r1 tk vo hT hS8 hpl) (cwV 0 hts gX3_start_X1_wrongSectors rfl rfl rfl (by decide +kernel) ⟨Nat.le_of_ble_eq_true rfl, Nat.le_of_ble_eq_true rfl⟩) ⟨pu_blind, va_recv hK hPc (ci := 2) (q0 := 0) rfl rfl, pu_pre hK hPc⟩ rfl rfl hl.1 rfl (lv_room (Nat.le_of_ble_eq_true rfl)) dX3_start_19 ⟨Nat.le_of_ble_eq_true rfl, Nat.le_of_ble_eq_true rfl⟩) ?_
    have hP9 : va_P D vwCl (tdW κ T S ad bs sm pl r0 r1 tk vo du nd wt wx wb wn tp tn ts (nI 0)) H := hP
    have hD9 : va_D A (tdW κ T S ad bs sm pl r0 r1 tk vo du nd wt wx wb wn tp tn ts (nI 0)) := hD
    exact W.iret hx hb hr (fun t ht _ => ⟨⟨rfl, by rw [ht]; exact hP9, hD9⟩, hS.F ht⟩) hS.2.2 dX3_start_22 hlocks
  · exact absurd c_4 (by decide)

set_option maxHeartbeats 4000000 in
set_option maxRecDepth 100000 in
/-- space: none -/
theorem c_space_no (l : Launch) (D : va_G) (κ : Nat → ClassId) (sz : Nat) (T S : Nat) (ad : Nat → Nat) (bs sm pl r0 r1 : Nat → Int32) (tk vo : Int32) (du : Nat → Option Nat) (nd : Int32) (wt wx wb : Nat → Int32) (wn : Int32) (tp : Nat → Int32) (tn ts dn : Int32) (x y : Int32) (hno : (inF x 2 && inF y T) = false) : Met l yX3_space wsX3_space ({ frames := 1, cells := 0, slots := 0, locals := 21 }) (va_Pc [.ref ((ad 0)), .int x, .int y] (mu_B D κ (tdW κ T S ad bs sm pl r0 r1 tk vo du nd wt wx wb wn tp tn ts dn) sz)) (mu_Q D (some (.int ((-2)))) (tdW κ T S ad bs sm pl r0 r1 tk vo du nd wt wx wb wn tp tn ts dn) (va_A (tdW κ T S ad bs sm pl r0 r1 tk vo du nd wt wx wb wn tp tn ts dn) sz)) 0 0 (va_A (tdW κ T S ad bs sm pl r0 r1 tk vo du nd wt wx wb wn tp tn ts dn) sz) := by
  refine Met.ofW (cc := cX3_space) (maxL := 3) (ret := (some .int)) (by decide) rfl ?_
  intro p e s m args below meth c s₁ B hml hv
  obtain ⟨rfl, hsz, hP, hK, hD0⟩ := hv
  have hx := B.exec
  have hb := B.bytes
  have hr := B.returns
  have hts := atoms_spec (ws := wsX3_space) B.pre
  have hown : s.vm.findClass RX3 = some m.cls := findClass_of_methodNamed B.named
  have hlocks := B.notSynchronized
  subst hsz
  have hD := hD0.self (sz := s.heap.size)
  generalize hAe : va_A (tdW κ T S ad bs sm pl r0 r1 tk vo du nd wt wx wb wn tp tn ts dn) s.heap.size = A at hD ⊢
  have hA : ∀ q : Nat, s.heap.size ≤ q → A q := fun q h => by rw [← hAe]; exact Or.inr h
  refine W.gen (P := fun H locs => va_P D vwCl (tdW κ T S ad bs sm pl r0 r1 tk vo du nd wt wx wb wn tp tn ts dn) H ∧ va_S A s.heap H locs) (fun H locs h => ?_) ⟨hP, va_S.rf⟩
  clear hP
  obtain ⟨hP, hS⟩ := h
  have hl := lv_entry ([.ref ((ad 0)), .int x, .int y]) (n := 3) (Nat.le_of_ble_eq_true rfl)
  rw [lg_entry_eq]
  generalize (lg_sl ([.ref ((ad 0)), .int x, .int y]) ++ List.replicate (3 - (lg_sl ([.ref ((ad 0)), .int x, .int y])).length) Slot.unset).toArray = ls at hl ⊢
  have hl : lv_has ls 3 [(0, .ref ((ad 0))), (1, .int x), (2, .int y)] := hl
  refine lv_iload_n hx hb dX3_space_0 rfl (lv_at hl 1 rfl) ?_
  refine lv_if_lt (tgt := 17) hx hb dX3_space_1 (by decide) (fun c_1 => ?_) (fun c_1 => ?_)
  · skip
    refine lv_bipush (v := (-2)) hx hb dX3_space_17 (by decide) ?_
    have hP9 : va_P D vwCl (tdW κ T S ad bs sm pl r0 r1 tk vo du nd wt wx wb wn tp tn ts dn) H := hP
    have hD9 : va_D A (tdW κ T S ad bs sm pl r0 r1 tk vo du nd wt wx wb wn tp tn ts dn) := hD
    exact W.iret hx hb hr (fun t ht _ => ⟨⟨rfl, by rw [ht]; exact hP9, hD9⟩, hS.F ht⟩) hS.2.2 dX3_space_19 hlocks
  · skip
    refine lv_iload_n hx hb dX3_space_4 rfl (lv_at hl 1 rfl) ?_
    refine lv_iconst (v := nI 1) hx hb dX3_space_5 (by decide) ?_
    refine lv_icmp_gt (tgt := 17) hx hb dX3_space_6 (by decide) (fun c_6 => ?_) (fun c_6 => ?_)
    · skip
      refine lv_bipush (v := (-2)) hx hb dX3_space_17 (by decide) ?_
      have hP9 : va_P D vwCl (tdW κ T S ad bs sm pl r0 r1 tk vo du nd wt wx wb wn tp tn ts dn) H := hP
      have hD9 : va_D A (tdW κ T S ad bs sm pl r0 r1 tk vo du nd wt wx wb wn tp tn ts dn) := hD
      exact W.iret hx hb hr (fun t ht _ => ⟨⟨rfl, by rw [ht]; exact hP9, hD9⟩, hS.F ht⟩) hS.2.2 dX3_space_19 hlocks
    · skip
      refine lv_aload_n hx hb dX3_space_9 rfl (lv_at hl 0 rfl) ?_
      refine lv_iload_n hx hb dX3_space_10 rfl (lv_at hl 2 rfl) ?_
      have hPc := hP.sub (ws' := tdW κ T S ad bs sm pl r0 r1 tk vo du nd wt wx wb wn tp tn ts dn) [0, 1, 2, 3, 4, 5, 6, 7, 8, 9, 10, 11, 12, 13] rfl
      refine pu_call (va_runV (As := [.int y]) (rest := []) ⟨hx, hb, hml, hown, hts⟩ (c_hasTrack l D κ T S ad bs sm pl r0 r1 tk vo du nd wt wx wb wn tp tn ts dn y) (cwV 1 hts gX3_space_X3_hasTrack rfl rfl rfl (by decide +kernel) ⟨Nat.le_of_ble_eq_true rfl, Nat.le_of_ble_eq_true rfl⟩) ⟨pu_blind, va_recv hK hPc (ci := 4) (q0 := 0) rfl rfl, pu_pre hK hPc⟩ rfl rfl hl.1 rfl (lv_room (Nat.le_of_ble_eq_true rfl)) dX3_space_11 ⟨Nat.le_of_ble_eq_true rfl, Nat.le_of_ble_eq_true rfl⟩) ?_
      refine lv_if_ne (tgt := 20) hx hb dX3_space_14 (by decide) (fun c_14 => ?_) (fun c_14 => ?_)
      · exact absurd hno (by rw [bI_ne c_14, inF_t c_1 (fun q => c_6 (Int32.lt_of_lt_of_le (by decide) q))]; decide)
      · skip
        refine lv_bipush (v := (-2)) hx hb dX3_space_17 (by decide) ?_
        have hP9 : va_P D vwCl (tdW κ T S ad bs sm pl r0 r1 tk vo du nd wt wx wb wn tp tn ts dn) H := hP
        have hD9 : va_D A (tdW κ T S ad bs sm pl r0 r1 tk vo du nd wt wx wb wn tp tn ts dn) := hD
        exact W.iret hx hb hr (fun t ht _ => ⟨⟨rfl, by rw [ht]; exact hP9, hD9⟩, hS.F ht⟩) hS.2.2 dX3_space_19 hlocks

set_option maxHeartbeats 4000000 in
set_option maxRecDepth 100000 in
/-- space 0 -/
theorem c_space_0 (l : Launch) (D : va_G) (κ : Nat → ClassId) (sz : Nat) (T S : Nat) (ad : Nat → Nat) (bs sm pl r0 r1 : Nat → Int32) (tk vo : Int32) (du : Nat → Option Nat) (nd : Int32) (wt wx wb : Nat → Int32) (wn : Int32) (tp : Nat → Int32) (tn ts dn : Int32) (hT : T ≤ 12) (hS8 : S ≤ 8) (t : Nat) (ht : t < T) : Met l yX3_space wsX3_space ({ frames := 1, cells := 0, slots := 0, locals := 21 }) (va_Pc [.ref ((ad 0)), .int (nI 0), .int (nI t)] (mu_B D κ (tdW κ T S ad bs sm pl r0 r1 tk vo du nd wt wx wb wn tp tn ts dn) sz)) (mu_Q D (some (.int (r0 t))) (tdW κ T S ad bs sm pl r0 r1 tk vo du nd wt wx wb wn tp tn ts dn) (va_A (tdW κ T S ad bs sm pl r0 r1 tk vo du nd wt wx wb wn tp tn ts dn) sz)) 0 0 (va_A (tdW κ T S ad bs sm pl r0 r1 tk vo du nd wt wx wb wn tp tn ts dn) sz) := by
  refine Met.ofW (cc := cX3_space) (maxL := 3) (ret := (some .int)) (by decide) rfl ?_
  intro p e s m args below meth c s₁ B hml hv
  obtain ⟨rfl, hsz, hP, hK, hD0⟩ := hv
  have hx := B.exec
  have hb := B.bytes
  have hr := B.returns
  have hts := atoms_spec (ws := wsX3_space) B.pre
  have hown : s.vm.findClass RX3 = some m.cls := findClass_of_methodNamed B.named
  have hlocks := B.notSynchronized
  subst hsz
  have hD := hD0.self (sz := s.heap.size)
  generalize hAe : va_A (tdW κ T S ad bs sm pl r0 r1 tk vo du nd wt wx wb wn tp tn ts dn) s.heap.size = A at hD ⊢
  have hA : ∀ q : Nat, s.heap.size ≤ q → A q := fun q h => by rw [← hAe]; exact Or.inr h
  refine W.gen (P := fun H locs => va_P D vwCl (tdW κ T S ad bs sm pl r0 r1 tk vo du nd wt wx wb wn tp tn ts dn) H ∧ va_S A s.heap H locs) (fun H locs h => ?_) ⟨hP, va_S.rf⟩
  clear hP
  obtain ⟨hP, hS⟩ := h
  have hl := lv_entry ([.ref ((ad 0)), .int (nI 0), .int (nI t)]) (n := 3) (Nat.le_of_ble_eq_true rfl)
  rw [lg_entry_eq]
  generalize (lg_sl ([.ref ((ad 0)), .int (nI 0), .int (nI t)]) ++ List.replicate (3 - (lg_sl ([.ref ((ad 0)), .int (nI 0), .int (nI t)])).length) Slot.unset).toArray = ls at hl ⊢
  have hl : lv_has ls 3 [(0, .ref ((ad 0))), (1, .int (nI 0)), (2, .int (nI t))] := hl
  refine lv_iload_n hx hb dX3_space_0 rfl (lv_at hl 1 rfl) ?_
  refine lv_if_lt (tgt := 17) hx hb dX3_space_1 (by decide) (fun c_1 => ?_) (fun c_1 => ?_)
  · exact absurd c_1 (by decide)
  · skip
    refine lv_iload_n hx hb dX3_space_4 rfl (lv_at hl 1 rfl) ?_
    refine lv_iconst (v := nI 1) hx hb dX3_space_5 (by decide) ?_
    refine lv_icmp_gt (tgt := 17) hx hb dX3_space_6 (by decide) (fun c_6 => ?_) (fun c_6 => ?_)
    · exact absurd c_6 (by decide)
    · skip
      refine lv_aload_n hx hb dX3_space_9 rfl (lv_at hl 0 rfl) ?_
      refine lv_iload_n hx hb dX3_space_10 rfl (lv_at hl 2 rfl) ?_
      have hPc := hP.sub (ws' := tdW κ T S ad bs sm pl r0 r1 tk vo du nd wt wx wb wn tp tn ts dn) [0, 1, 2, 3, 4, 5, 6, 7, 8, 9, 10, 11, 12, 13] rfl
      refine pu_call (va_runV (As := [.int (nI t)]) (rest := []) ⟨hx, hb, hml, hown, hts⟩ (c_hasTrack l D κ T S ad bs sm pl r0 r1 tk vo du nd wt wx wb wn tp tn ts dn (nI t)) (cwV 1 hts gX3_space_X3_hasTrack rfl rfl rfl (by decide +kernel) ⟨Nat.le_of_ble_eq_true rfl, Nat.le_of_ble_eq_true rfl⟩) ⟨pu_blind, va_recv hK hPc (ci := 4) (q0 := 0) rfl rfl, pu_pre hK hPc⟩ rfl rfl hl.1 rfl (lv_room (Nat.le_of_ble_eq_true rfl)) dX3_space_11 ⟨Nat.le_of_ble_eq_true rfl, Nat.le_of_ble_eq_true rfl⟩) ?_
      refine lv_if_ne (tgt := 20) hx hb dX3_space_14 (by decide) (fun c_14 => ?_) (fun c_14 => ?_)
      · skip
        refine lv_iload_n hx hb dX3_space_20 rfl (lv_at hl 1 rfl) ?_
        refine lv_if_ne (tgt := 36) hx hb dX3_space_21 (by decide) (fun c_21 => ?_) (fun c_21 => ?_)
        · exact absurd (by decide) c_21
        · skip
          refine lv_aload_n hx hb dX3_space_24 rfl (lv_at hl 0 rfl) ?_
          refine va_get (D := D) (ci := 4) (v := .ref ((ad 1))) (C := RX3) (T := TX3) (N := 8) hx hb hts (by decide +kernel) hown hK hP 0 rfl rfl 2 (by decide) (hts (.fieldLink RX3 25 "TrackDisk" "disk" "LTrackDisk$Surface;") (by decide +kernel)) (fun _ h9 => h9) rfl dX3_space_25 ?_
          refine va_get (D := D) (ci := 2) (v := .ref ((ad 5))) (C := RX1) (T := TX1) (N := 9) hx hb hts (by decide +kernel) hown hK hP 1 rfl rfl 5 (by decide) (hts (.fieldLink RX3 112 "TrackDisk$Surface" "usedByRow0" "[I") (by decide +kernel)) (fun _ h9 => h9) rfl dX3_space_28 ?_
          refine lv_iload_n hx hb dX3_space_31 rfl (lv_at hl 2 rfl) ?_
          refine va_iald hx hb hK hP 5 0 rfl rfl (vp_in_nI (by omega) (by omega)) dX3_space_32 ?_
          refine tp_i (y := r0 t) (by rw [nI_clamp (by omega)]) ?_
          refine lv_goto (tgt := 45) hx hb dX3_space_33 (by decide) ?_
          have hP9 : va_P D vwCl (tdW κ T S ad bs sm pl r0 r1 tk vo du nd wt wx wb wn tp tn ts dn) H := hP
          have hD9 : va_D A (tdW κ T S ad bs sm pl r0 r1 tk vo du nd wt wx wb wn tp tn ts dn) := hD
          exact W.iret hx hb hr (fun t ht _ => ⟨⟨rfl, by rw [ht]; exact hP9, hD9⟩, hS.F ht⟩) hS.2.2 dX3_space_45 hlocks
      · exact (bI_ct (inF_nI ht (by omega)) c_14).elim

set_option maxHeartbeats 4000000 in
set_option maxRecDepth 100000 in
/-- space 1 -/
theorem c_space_1 (l : Launch) (D : va_G) (κ : Nat → ClassId) (sz : Nat) (T S : Nat) (ad : Nat → Nat) (bs sm pl r0 r1 : Nat → Int32) (tk vo : Int32) (du : Nat → Option Nat) (nd : Int32) (wt wx wb : Nat → Int32) (wn : Int32) (tp : Nat → Int32) (tn ts dn : Int32) (hT : T ≤ 12) (hS8 : S ≤ 8) (t : Nat) (ht : t < T) : Met l yX3_space wsX3_space ({ frames := 1, cells := 0, slots := 0, locals := 21 }) (va_Pc [.ref ((ad 0)), .int (nI 1), .int (nI t)] (mu_B D κ (tdW κ T S ad bs sm pl r0 r1 tk vo du nd wt wx wb wn tp tn ts dn) sz)) (mu_Q D (some (.int (r1 t))) (tdW κ T S ad bs sm pl r0 r1 tk vo du nd wt wx wb wn tp tn ts dn) (va_A (tdW κ T S ad bs sm pl r0 r1 tk vo du nd wt wx wb wn tp tn ts dn) sz)) 0 0 (va_A (tdW κ T S ad bs sm pl r0 r1 tk vo du nd wt wx wb wn tp tn ts dn) sz) := by
  refine Met.ofW (cc := cX3_space) (maxL := 3) (ret := (some .int)) (by decide) rfl ?_
  intro p e s m args below meth c s₁ B hml hv
  obtain ⟨rfl, hsz, hP, hK, hD0⟩ := hv
  have hx := B.exec
  have hb := B.bytes
  have hr := B.returns
  have hts := atoms_spec (ws := wsX3_space) B.pre
  have hown : s.vm.findClass RX3 = some m.cls := findClass_of_methodNamed B.named
  have hlocks := B.notSynchronized
  subst hsz
  have hD := hD0.self (sz := s.heap.size)
  generalize hAe : va_A (tdW κ T S ad bs sm pl r0 r1 tk vo du nd wt wx wb wn tp tn ts dn) s.heap.size = A at hD ⊢
  have hA : ∀ q : Nat, s.heap.size ≤ q → A q := fun q h => by rw [← hAe]; exact Or.inr h
  refine W.gen (P := fun H locs => va_P D vwCl (tdW κ T S ad bs sm pl r0 r1 tk vo du nd wt wx wb wn tp tn ts dn) H ∧ va_S A s.heap H locs) (fun H locs h => ?_) ⟨hP, va_S.rf⟩
  clear hP
  obtain ⟨hP, hS⟩ := h
  have hl := lv_entry ([.ref ((ad 0)), .int (nI 1), .int (nI t)]) (n := 3) (Nat.le_of_ble_eq_true rfl)
  rw [lg_entry_eq]
  generalize (lg_sl ([.ref ((ad 0)), .int (nI 1), .int (nI t)]) ++ List.replicate (3 - (lg_sl ([.ref ((ad 0)), .int (nI 1), .int (nI t)])).length) Slot.unset).toArray = ls at hl ⊢
  have hl : lv_has ls 3 [(0, .ref ((ad 0))), (1, .int (nI 1)), (2, .int (nI t))] := hl
  refine lv_iload_n hx hb dX3_space_0 rfl (lv_at hl 1 rfl) ?_
  refine lv_if_lt (tgt := 17) hx hb dX3_space_1 (by decide) (fun c_1 => ?_) (fun c_1 => ?_)
  · exact absurd c_1 (by decide)
  · skip
    refine lv_iload_n hx hb dX3_space_4 rfl (lv_at hl 1 rfl) ?_
    refine lv_iconst (v := nI 1) hx hb dX3_space_5 (by decide) ?_
    refine lv_icmp_gt (tgt := 17) hx hb dX3_space_6 (by decide) (fun c_6 => ?_) (fun c_6 => ?_)
    · exact absurd c_6 (by decide)
    · skip
      refine lv_aload_n hx hb dX3_space_9 rfl (lv_at hl 0 rfl) ?_
      refine lv_iload_n hx hb dX3_space_10 rfl (lv_at hl 2 rfl) ?_
      have hPc := hP.sub (ws' := tdW κ T S ad bs sm pl r0 r1 tk vo du nd wt wx wb wn tp tn ts dn) [0, 1, 2, 3, 4, 5, 6, 7, 8, 9, 10, 11, 12, 13] rfl
      refine pu_call (va_runV (As := [.int (nI t)]) (rest := []) ⟨hx, hb, hml, hown, hts⟩ (c_hasTrack l D κ T S ad bs sm pl r0 r1 tk vo du nd wt wx wb wn tp tn ts dn (nI t)) (cwV 1 hts gX3_space_X3_hasTrack rfl rfl rfl (by decide +kernel) ⟨Nat.le_of_ble_eq_true rfl, Nat.le_of_ble_eq_true rfl⟩) ⟨pu_blind, va_recv hK hPc (ci := 4) (q0 := 0) rfl rfl, pu_pre hK hPc⟩ rfl rfl hl.1 rfl (lv_room (Nat.le_of_ble_eq_true rfl)) dX3_space_11 ⟨Nat.le_of_ble_eq_true rfl, Nat.le_of_ble_eq_true rfl⟩) ?_
      refine lv_if_ne (tgt := 20) hx hb dX3_space_14 (by decide) (fun c_14 => ?_) (fun c_14 => ?_)
      · skip
        refine lv_iload_n hx hb dX3_space_20 rfl (lv_at hl 1 rfl) ?_
        refine lv_if_ne (tgt := 36) hx hb dX3_space_21 (by decide) (fun c_21 => ?_) (fun c_21 => ?_)
        · skip
          refine lv_aload_n hx hb dX3_space_36 rfl (lv_at hl 0 rfl) ?_
          refine va_get (D := D) (ci := 4) (v := .ref ((ad 1))) (C := RX3) (T := TX3) (N := 8) hx hb hts (by decide +kernel) hown hK hP 0 rfl rfl 2 (by decide) (hts (.fieldLink RX3 25 "TrackDisk" "disk" "LTrackDisk$Surface;") (by decide +kernel)) (fun _ h9 => h9) rfl dX3_space_37 ?_
          refine va_get (D := D) (ci := 2) (v := .ref ((ad 6))) (C := RX1) (T := TX1) (N := 9) hx hb hts (by decide +kernel) hown hK hP 1 rfl rfl 6 (by decide) (hts (.fieldLink RX3 115 "TrackDisk$Surface" "usedByRow1" "[I") (by decide +kernel)) (fun _ h9 => h9) rfl dX3_space_40 ?_
          refine lv_iload_n hx hb dX3_space_43 rfl (lv_at hl 2 rfl) ?_
          refine va_iald hx hb hK hP 6 0 rfl rfl (vp_in_nI (by omega) (by omega)) dX3_space_44 ?_
          refine tp_i (y := r1 t) (by rw [nI_clamp (by omega)]) ?_
          have hP9 : va_P D vwCl (tdW κ T S ad bs sm pl r0 r1 tk vo du nd wt wx wb wn tp tn ts dn) H := hP
          have hD9 : va_D A (tdW κ T S ad bs sm pl r0 r1 tk vo du nd wt wx wb wn tp tn ts dn) := hD
          exact W.iret hx hb hr (fun t ht _ => ⟨⟨rfl, by rw [ht]; exact hP9, hD9⟩, hS.F ht⟩) hS.2.2 dX3_space_45 hlocks
        · exact absurd c_21 (by decide)
      · exact (bI_ct (inF_nI ht (by omega)) c_14).elim

set_option maxHeartbeats 4000000 in
set_option maxRecDepth 100000 in
/-- mend: down -/
theorem c_mend_down (l : Launch) (D : va_G) (κ : Nat → ClassId) (sz : Nat) (T S : Nat) (ad : Nat → Nat) (bs sm pl r0 r1 : Nat → Int32) (tk vo : Int32) (du : Nat → Option Nat) (nd : Int32) (wt wx wb : Nat → Int32) (wn : Int32) (tp : Nat → Int32) (tn ts : Int32)   : Met l yX3_mend wsX3_mend ({ frames := 4, cells := 0, slots := 0, locals := 90 }) (va_Pc [.ref ((ad 0))] (mu_B D κ (tdW κ T S ad bs sm pl r0 r1 tk vo du nd wt wx wb wn tp tn ts (nI 1)) sz)) (mu_Q D (some (.int ((-5)))) (tdW κ T S ad bs sm pl r0 r1 tk vo du nd wt wx wb wn tp tn ts (nI 1)) (va_A (tdW κ T S ad bs sm pl r0 r1 tk vo du nd wt wx wb wn tp tn ts (nI 1)) sz)) 0 0 (va_A (tdW κ T S ad bs sm pl r0 r1 tk vo du nd wt wx wb wn tp tn ts (nI 1)) sz) := by
  refine Met.ofW (cc := cX3_mend) (maxL := 1) (ret := (some .int)) (by decide) rfl ?_
  intro p e s m args below meth c s₁ B hml hv
  obtain ⟨rfl, hsz, hP, hK, hD0⟩ := hv
  have hx := B.exec
  have hb := B.bytes
  have hr := B.returns
  have hts := atoms_spec (ws := wsX3_mend) B.pre
  have hown : s.vm.findClass RX3 = some m.cls := findClass_of_methodNamed B.named
  have hlocks := B.notSynchronized
  subst hsz
  have hD := hD0.self (sz := s.heap.size)
  generalize hAe : va_A (tdW κ T S ad bs sm pl r0 r1 tk vo du nd wt wx wb wn tp tn ts (nI 1)) s.heap.size = A at hD ⊢
  have hA : ∀ q : Nat, s.heap.size ≤ q → A q := fun q h => by rw [← hAe]; exact Or.inr h
  refine W.gen (P := fun H locs => va_P D vwCl (tdW κ T S ad bs sm pl r0 r1 tk vo du nd wt wx wb wn tp tn ts (nI 1)) H ∧ va_S A s.heap H locs) (fun H locs h => ?_) ⟨hP, va_S.rf⟩
  clear hP
  obtain ⟨hP, hS⟩ := h
  have hl := lv_entry ([.ref ((ad 0))]) (n := 1) (Nat.le_of_ble_eq_true rfl)
  rw [lg_entry_eq]
  generalize (lg_sl ([.ref ((ad 0))]) ++ List.replicate (1 - (lg_sl ([.ref ((ad 0))])).length) Slot.unset).toArray = ls at hl ⊢
  have hl : lv_has ls 1 [(0, .ref ((ad 0)))] := hl
  refine lv_aload_n hx hb dX3_mend_0 rfl (lv_at hl 0 rfl) ?_
  refine va_get (D := D) (ci := 4) (v := .int (nI 1)) (C := RX3) (T := TX3) (N := 8) hx hb hts (by decide +kernel) hown hK hP 0 rfl rfl 7 (by decide) (hts (.fieldLink RX3 50 "TrackDisk" "down" "Z") (by decide +kernel)) (fun _ h9 => h9) rfl dX3_mend_1 ?_
  refine lv_if_eq (tgt := 10) hx hb dX3_mend_4 (by decide) (fun c_4 => ?_) (fun c_4 => ?_)
  · exact absurd c_4 (by decide)
  · skip
    refine lv_bipush (v := (-5)) hx hb dX3_mend_7 (by decide) ?_
    have hP9 : va_P D vwCl (tdW κ T S ad bs sm pl r0 r1 tk vo du nd wt wx wb wn tp tn ts (nI 1)) H := hP
    have hD9 : va_D A (tdW κ T S ad bs sm pl r0 r1 tk vo du nd wt wx wb wn tp tn ts (nI 1)) := hD
    exact W.iret hx hb hr (fun t ht _ => ⟨⟨rfl, by rw [ht]; exact hP9, hD9⟩, hS.F ht⟩) hS.2.2 dX3_mend_9 hlocks

set_option maxHeartbeats 4000000 in
set_option maxRecDepth 100000 in
/-- mend -/
theorem c_mend (l : Launch) (D : va_G) (κ : Nat → ClassId) (sz : Nat) (T S : Nat) (ad : Nat → Nat) (bs sm pl r0 r1 : Nat → Int32) (tk vo : Int32) (du : Nat → Option Nat) (nd : Int32) (wt wx wb : Nat → Int32) (wn : Int32) (tp : Nat → Int32) (tn ts : Int32)  (hT : T ≤ 12) (hS8 : S ≤ 8) (hpl : ∀ t, t < T → vp_in (pl t) (T + 2))  : Met l yX3_mend wsX3_mend ({ frames := 4, cells := 0, slots := 0, locals := 90 }) (va_Pc [.ref ((ad 0))] (mu_B D κ (tdW κ T S ad bs sm pl r0 r1 tk vo du nd wt wx wb wn tp tn ts (nI 0)) sz)) (mu_Q D (some (.int (nI (cnt (dfF r0 r1) T)))) (tdW κ T S ad bs sm pl (mdR (usF bs pl S) r0 r1 r0 T) (mdR (usF bs pl S) r0 r1 r1 T) tk vo du nd wt wx wb wn tp tn ts (nI 0)) (va_A (tdW κ T S ad bs sm pl r0 r1 tk vo du nd wt wx wb wn tp tn ts (nI 0)) sz)) 0 0 (va_A (tdW κ T S ad bs sm pl r0 r1 tk vo du nd wt wx wb wn tp tn ts (nI 0)) sz) := by
  refine Met.ofW (cc := cX3_mend) (maxL := 1) (ret := (some .int)) (by decide) rfl ?_
  intro p e s m args below meth c s₁ B hml hv
  obtain ⟨rfl, hsz, hP, hK, hD0⟩ := hv
  have hx := B.exec
  have hb := B.bytes
  have hr := B.returns
  have hts := atoms_spec (ws := wsX3_mend) B.pre
  have hown : s.vm.findClass RX3 = some m.cls := findClass_of_methodNamed B.named
  have hlocks := B.notSynchronized
  subst hsz
  have hD := hD0.self (sz := s.heap.size)
  generalize hAe : va_A (tdW κ T S ad bs sm pl r0 r1 tk vo du nd wt wx wb wn tp tn ts (nI 0)) s.heap.size = A at hD ⊢
  have hA : ∀ q : Nat, s.heap.size ≤ q → A q := fun q h => by rw [← hAe]; exact Or.inr h
  refine W.gen (P := fun H locs => va_P D vwCl (tdW κ T S ad bs sm pl r0 r1 tk vo du nd wt wx wb wn tp tn ts (nI 0)) H ∧ va_S A s.heap H locs) (fun H locs h => ?_) ⟨hP, va_S.rf⟩
  clear hP
  obtain ⟨hP, hS⟩ := h
  have hl := lv_entry ([.ref ((ad 0))]) (n := 1) (Nat.le_of_ble_eq_true rfl)
  rw [lg_entry_eq]
  generalize (lg_sl ([.ref ((ad 0))]) ++ List.replicate (1 - (lg_sl ([.ref ((ad 0))])).length) Slot.unset).toArray = ls at hl ⊢
  have hl : lv_has ls 1 [(0, .ref ((ad 0)))] := hl
  refine lv_aload_n hx hb dX3_mend_0 rfl (lv_at hl 0 rfl) ?_
  refine va_get (D := D) (ci := 4) (v := .int (nI 0)) (C := RX3) (T := TX3) (N := 8) hx hb hts (by decide +kernel) hown hK hP 0 rfl rfl 7 (by decide) (hts (.fieldLink RX3 50 "TrackDisk" "down" "Z") (by decide +kernel)) (fun _ h9 => h9) rfl dX3_mend_1 ?_
  refine lv_if_eq (tgt := 10) hx hb dX3_mend_4 (by decide) (fun c_4 => ?_) (fun c_4 => ?_)
  · skip
    refine lv_aload_n hx hb dX3_mend_10 rfl (lv_at hl 0 rfl) ?_
    refine va_get (D := D) (ci := 4) (v := .ref ((ad 1))) (C := RX3) (T := TX3) (N := 8) hx hb hts (by decide +kernel) hown hK hP 0 rfl rfl 2 (by decide) (hts (.fieldLink RX3 25 "TrackDisk" "disk" "LTrackDisk$Surface;") (by decide +kernel)) (fun _ h9 => h9) rfl dX3_mend_11 ?_
    have hPc := hP.sub (ws' := sfW κ T S (fun j => ad (j + 1)) bs sm pl r0 r1 tk vo) [1, 2, 3, 4, 5, 6] rfl
    have hDc := hD.sub (ws' := sfW κ T S (fun j => ad (j + 1)) bs sm pl r0 r1 tk vo) [1, 2, 3, 4, 5, 6] (by decide) rfl
    refine mu_call (wc := sfW κ T S (fun j => ad (j + 1)) bs sm pl r0 r1 tk vo) (wc' := sfW κ T S (fun j => ad (j + 1)) bs sm pl (mdR (usF bs pl S) r0 r1 r0 T) (mdR (usF bs pl S) r0 r1 r1 T) tk vo) (ws' := tdW κ T S ad bs sm pl (mdR (usF bs pl S) r0 r1 r0 T) (mdR (usF bs pl S) r0 r1 r1 T) tk vo du nd wt wx wb wn tp tn ts (nI 0)) (wr := (([0, 7, 8, 9, 10, 11, 12, 13] : List Nat).filterMap fun i => (tdW κ T S ad bs sm pl r0 r1 tk vo du nd wt wx wb wn tp tn ts (nI 0))[i]?)) (va_runV (As := []) (rest := []) ⟨hx, hb, hml, hown, hts⟩ (c_mendRows l D κ H.size T S (fun j => ad (j + 1)) bs sm pl r0 r1 tk vo hT hS8 hpl) (cwV 0 hts gX3_mend_X1_mendRows rfl rfl rfl (by decide +kernel) ⟨Nat.le_of_ble_eq_true rfl, Nat.le_of_ble_eq_true rfl⟩) ⟨mu_blind, va_recv hK hPc (ci := 2) (q0 := 0) rfl rfl, mu_pre hK hPc hDc⟩ rfl rfl hl.1 rfl (lv_room (Nat.le_of_ble_eq_true rfl)) dX3_mend_14 ⟨Nat.le_of_ble_eq_true rfl, Nat.le_of_ble_eq_true rfl⟩) hP hD hS hA [1, 2, 3, 4, 5, 6] [0, 7, 8, 9, 10, 11, 12, 13] [0, 8, 9, 10, 11, 12, 13, 1, 2, 3, 4, 5, 6, 7] rfl rfl (by decide) (by decide) rfl rfl (by decide) (fun H locs hP hD hS => ?_)
    refine W.eq (g2 := F0 m 17 ls [.int (nI (cnt (dfF r0 r1) T))]) rfl ?_
    have hP9 : va_P D vwCl (tdW κ T S ad bs sm pl (mdR (usF bs pl S) r0 r1 r0 T) (mdR (usF bs pl S) r0 r1 r1 T) tk vo du nd wt wx wb wn tp tn ts (nI 0)) H := hP
    have hD9 : va_D A (tdW κ T S ad bs sm pl (mdR (usF bs pl S) r0 r1 r0 T) (mdR (usF bs pl S) r0 r1 r1 T) tk vo du nd wt wx wb wn tp tn ts (nI 0)) := hD
    exact W.iret hx hb hr (fun t ht _ => ⟨⟨rfl, by rw [ht]; exact hP9, hD9⟩, hS.F ht⟩) hS.2.2 dX3_mend_17 hlocks
  · exact absurd (by decide) c_4

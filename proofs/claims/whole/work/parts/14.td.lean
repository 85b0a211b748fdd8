/-! TrackDisk: the other methods (but dumps) -/
theorem nI_nm1 {n : Nat} (h : n < 2 ^ 31) : ¬ nI n = -1 := by
  intro q
  have a := nI_toInt h
  rw [q] at a
  have b : (-1 : Int32).toInt = -1 := by decide
  omega
def isB (f : Nat → Int32) : Prop := ∀ j, (f j).toInt8.toInt32 = f j
theorem isB.fit {f : Nat → Int32} (h : isB f) : sb_Fit f := fun j => by rw [← h j]; exact pk_fb _
theorem isB.nar {f : Nat → Int32} (h : isB f) (j : Nat) : narrow .byte (.int (f j)) = .int (f j) := by rw [← h j]; exact pk_nb _
section PU2
variable {p : Program} {l : Launch} {e : Env} {R : Room} {s : State} {m : MethodId} {args : Array Value} {below : List Frame} {meth : Method} {c : Code} {H : Heap} {locs : List Loc} {cells slots : Nat} {Q : State → Prop} {pc : Nat} {ls : Array Slot} {rest : List Value}
theorem tp_v {x y : Value} (h : x = y) (k : W p l e R s m args below meth c H locs cells slots Q (F0 m pc ls (y :: rest))) : W p l e R s m args below meth c H locs cells slots Q (F0 m pc ls (x :: rest)) := by rw [h]; exact k
theorem pu_aret {cc : ByteArray} {v : Value} {rt : FieldType} (hexec : p.tables.exec = Jvm.exec) (hb : c.code = cc) (hr : meth.sig.returnType = some rt) (hlocks : meth.locks = false) (hrt : (∃ n, rt = .object n) ∨ ∃ t, rt = .array t) (hv : v = .null ∨ ∃ a, v = .ref a) (hdg : decode cc pc = .ok (.areturn, 1)) : W p l e R s m args below meth c s.heap [] cells slots (MQ below (pu_Q v) args s cells slots pu_N) (F0 m pc ls [v]) :=
  W.aret hexec hb hr hrt hv (fun t ht _ => ⟨rfl, ht⟩) (fun q hq => by cases hq) hdg hlocks
end PU2

set_option maxHeartbeats 4000000 in
set_option maxRecDepth 100000 in
/-- poke: no such sector -/
theorem c_poke_no (l : Launch) (D : va_G) (κ : Nat → ClassId) (sz : Nat) (T S : Nat) (ad : Nat → Nat) (bs sm pl r0 r1 : Nat → Int32) (tk vo : Int32) (du : Nat → Option Nat) (nd : Int32) (wt wx wb : Nat → Int32) (wn : Int32) (tp : Nat → Int32) (tn ts dn : Int32) (x y i m0 : Int32) (hno : (inF x T && inF y S) = false) : Met l yX3_poke wsX3_poke ({ frames := 2, cells := 0, slots := 0, locals := 44 }) (va_Pc [.ref ((ad 0)), .int x, .int y, .int i, .int m0] (mu_B D κ (tdW κ T S ad bs sm pl r0 r1 tk vo du nd wt wx wb wn tp tn ts dn) sz)) (mu_Q D (some (.int ((-2)))) (tdW κ T S ad bs sm pl r0 r1 tk vo du nd wt wx wb wn tp tn ts dn) (va_A (tdW κ T S ad bs sm pl r0 r1 tk vo du nd wt wx wb wn tp tn ts dn) sz)) 0 0 (va_A (tdW κ T S ad bs sm pl r0 r1 tk vo du nd wt wx wb wn tp tn ts dn) sz) := by
  refine Met.ofW (cc := cX3_poke) (maxL := 8) (ret := (some .int)) (by decide) rfl ?_
  intro p e s m args below meth c s₁ B hml hv
  obtain ⟨rfl, hsz, hP, hK, hD0⟩ := hv
  have hx := B.exec
  have hb := B.bytes
  have hr := B.returns
  have hts := atoms_spec (ws := wsX3_poke) B.pre
  have hown : s.vm.findClass RX3 = some m.cls := findClass_of_methodNamed B.named
  have hlocks := B.notSynchronized
  subst hsz
  have hD := hD0.self (sz := s.heap.size)
  generalize hAe : va_A (tdW κ T S ad bs sm pl r0 r1 tk vo du nd wt wx wb wn tp tn ts dn) s.heap.size = A at hD ⊢
  have hA : ∀ q : Nat, s.heap.size ≤ q → A q := fun q h => by rw [← hAe]; exact Or.inr h
  refine W.gen (P := fun H locs => va_P D vwCl (tdW κ T S ad bs sm pl r0 r1 tk vo du nd wt wx wb wn tp tn ts dn) H ∧ va_S A s.heap H locs) (fun H locs h => ?_) ⟨hP, va_S.rf⟩
  clear hP
  obtain ⟨hP, hS⟩ := h
  have hl := lv_entry ([.ref ((ad 0)), .int x, .int y, .int i, .int m0]) (n := 8) (Nat.le_of_ble_eq_true rfl)
  rw [lg_entry_eq]
  generalize (lg_sl ([.ref ((ad 0)), .int x, .int y, .int i, .int m0]) ++ List.replicate (8 - (lg_sl ([.ref ((ad 0)), .int x, .int y, .int i, .int m0])).length) Slot.unset).toArray = ls at hl ⊢
  have hl : lv_has ls 8 [(0, .ref ((ad 0))), (1, .int x), (2, .int y), (3, .int i), (4, .int m0)] := hl
  refine lv_aload_n hx hb dX3_poke_0 rfl (lv_at hl 0 rfl) ?_
  refine lv_iload_n hx hb dX3_poke_1 rfl (lv_at hl 1 rfl) ?_
  refine lv_iload_n hx hb dX3_poke_2 rfl (lv_at hl 2 rfl) ?_
  have hPc := hP.sub (ws' := tdW κ T S ad bs sm pl r0 r1 tk vo du nd wt wx wb wn tp tn ts dn) [0, 1, 2, 3, 4, 5, 6, 7, 8, 9, 10, 11, 12, 13] rfl
  refine pu_call (va_runV (As := [.int x, .int y]) (rest := []) ⟨hx, hb, hml, hown, hts⟩ (c_hasSector l D κ T S ad bs sm pl r0 r1 tk vo du nd wt wx wb wn tp tn ts dn x y) (cwV 2 hts gX3_poke_X3_hasSector rfl rfl rfl (by decide +kernel) ⟨Nat.le_of_ble_eq_true rfl, Nat.le_of_ble_eq_true rfl⟩) ⟨pu_blind, va_recv hK hPc (ci := 4) (q0 := 0) rfl rfl, pu_pre hK hPc⟩ rfl rfl hl.1 rfl (lv_room (Nat.le_of_ble_eq_true rfl)) dX3_poke_3 ⟨Nat.le_of_ble_eq_true rfl, Nat.le_of_ble_eq_true rfl⟩) ?_
  refine lv_if_ne (tgt := 12) hx hb dX3_poke_6 (by decide) (fun c_6 => ?_) (fun c_6 => ?_)
  · exact (bI_cf hno c_6).elim
  · skip
    refine lv_bipush (v := (-2)) hx hb dX3_poke_9 (by decide) ?_
    have hP9 : va_P D vwCl (tdW κ T S ad bs sm pl r0 r1 tk vo du nd wt wx wb wn tp tn ts dn) H := hP
    have hD9 : va_D A (tdW κ T S ad bs sm pl r0 r1 tk vo du nd wt wx wb wn tp tn ts dn) := hD
    exact W.iret hx hb hr (fun t ht _ => ⟨⟨rfl, by rw [ht]; exact hP9, hD9⟩, hS.F ht⟩) hS.2.2 dX3_poke_11 hlocks

set_option maxHeartbeats 4000000 in
set_option maxRecDepth 100000 in
/-- poke: i -/
theorem c_poke_bi (l : Launch) (D : va_G) (κ : Nat → ClassId) (sz : Nat) (T S : Nat) (ad : Nat → Nat) (bs sm pl r0 r1 : Nat → Int32) (tk vo : Int32) (du : Nat → Option Nat) (nd : Int32) (wt wx wb : Nat → Int32) (wn : Int32) (tp : Nat → Int32) (tn ts dn : Int32) (hT : T ≤ 12) (hS8 : S ≤ 8) (t b : Nat) (ht : t < T) (hb0 : b < S) (i m0 : Int32) (hi : inF i 16 = false) : Met l yX3_poke wsX3_poke ({ frames := 2, cells := 0, slots := 0, locals := 44 }) (va_Pc [.ref ((ad 0)), .int (nI t), .int (nI b), .int i, .int m0] (mu_B D κ (tdW κ T S ad bs sm pl r0 r1 tk vo du nd wt wx wb wn tp tn ts dn) sz)) (mu_Q D (some (.int ((-4)))) (tdW κ T S ad bs sm pl r0 r1 tk vo du nd wt wx wb wn tp tn ts dn) (va_A (tdW κ T S ad bs sm pl r0 r1 tk vo du nd wt wx wb wn tp tn ts dn) sz)) 0 0 (va_A (tdW κ T S ad bs sm pl r0 r1 tk vo du nd wt wx wb wn tp tn ts dn) sz) := by
  refine Met.ofW (cc := cX3_poke) (maxL := 8) (ret := (some .int)) (by decide) rfl ?_
  intro p e s m args below meth c s₁ B hml hv
  obtain ⟨rfl, hsz, hP, hK, hD0⟩ := hv
  have hx := B.exec
  have hb := B.bytes
  have hr := B.returns
  have hts := atoms_spec (ws := wsX3_poke) B.pre
  have hown : s.vm.findClass RX3 = some m.cls := findClass_of_methodNamed B.named
  have hlocks := B.notSynchronized
  subst hsz
  have hD := hD0.self (sz := s.heap.size)
  generalize hAe : va_A (tdW κ T S ad bs sm pl r0 r1 tk vo du nd wt wx wb wn tp tn ts dn) s.heap.size = A at hD ⊢
  have hA : ∀ q : Nat, s.heap.size ≤ q → A q := fun q h => by rw [← hAe]; exact Or.inr h
  refine W.gen (P := fun H locs => va_P D vwCl (tdW κ T S ad bs sm pl r0 r1 tk vo du nd wt wx wb wn tp tn ts dn) H ∧ va_S A s.heap H locs) (fun H locs h => ?_) ⟨hP, va_S.rf⟩
  clear hP
  obtain ⟨hP, hS⟩ := h
  have hl := lv_entry ([.ref ((ad 0)), .int (nI t), .int (nI b), .int i, .int m0]) (n := 8) (Nat.le_of_ble_eq_true rfl)
  rw [lg_entry_eq]
  generalize (lg_sl ([.ref ((ad 0)), .int (nI t), .int (nI b), .int i, .int m0]) ++ List.replicate (8 - (lg_sl ([.ref ((ad 0)), .int (nI t), .int (nI b), .int i, .int m0])).length) Slot.unset).toArray = ls at hl ⊢
  have hl : lv_has ls 8 [(0, .ref ((ad 0))), (1, .int (nI t)), (2, .int (nI b)), (3, .int i), (4, .int m0)] := hl
  refine lv_aload_n hx hb dX3_poke_0 rfl (lv_at hl 0 rfl) ?_
  refine lv_iload_n hx hb dX3_poke_1 rfl (lv_at hl 1 rfl) ?_
  refine lv_iload_n hx hb dX3_poke_2 rfl (lv_at hl 2 rfl) ?_
  have hPc := hP.sub (ws' := tdW κ T S ad bs sm pl r0 r1 tk vo du nd wt wx wb wn tp tn ts dn) [0, 1, 2, 3, 4, 5, 6, 7, 8, 9, 10, 11, 12, 13] rfl
  refine pu_call (va_runV (As := [.int (nI t), .int (nI b)]) (rest := []) ⟨hx, hb, hml, hown, hts⟩ (c_hasSector l D κ T S ad bs sm pl r0 r1 tk vo du nd wt wx wb wn tp tn ts dn (nI t) (nI b)) (cwV 2 hts gX3_poke_X3_hasSector rfl rfl rfl (by decide +kernel) ⟨Nat.le_of_ble_eq_true rfl, Nat.le_of_ble_eq_true rfl⟩) ⟨pu_blind, va_recv hK hPc (ci := 4) (q0 := 0) rfl rfl, pu_pre hK hPc⟩ rfl rfl hl.1 rfl (lv_room (Nat.le_of_ble_eq_true rfl)) dX3_poke_3 ⟨Nat.le_of_ble_eq_true rfl, Nat.le_of_ble_eq_true rfl⟩) ?_
  refine lv_if_ne (tgt := 12) hx hb dX3_poke_6 (by decide) (fun c_6 => ?_) (fun c_6 => ?_)
  · skip
    refine lv_iload hx hb dX3_poke_12 (lv_at hl 4 rfl) ?_
    refine lv_sipush (v := nI 255) hx hb dX3_poke_14 (by decide) ?_
    refine lv_iand hx hb dX3_poke_17 ?_
    refine lv_istore (lv' := [(5, .int ((m0 &&& (nI 255)))), (0, .ref ((ad 0))), (1, .int (nI t)), (2, .int (nI b)), (3, .int i), (4, .int m0)]) hx hb dX3_poke_18 hl (by decide) rfl (fun ls hl => ?_)
    refine lv_iload_n hx hb dX3_poke_20 rfl (lv_at hl 4 rfl) ?_
    have hPc := hP.sub (ws' := []) [] rfl
    refine pu_call (va_runS (As := [.int i]) (rest := []) ⟨hx, hb, hml, hown, hts⟩ (c_isByte l D κ i) (va_cwS 1 hts gX3_poke_X3_isByteNumber rfl rfl rfl (by decide +kernel) ⟨Nat.le_of_ble_eq_true rfl, Nat.le_of_ble_eq_true rfl⟩) ⟨pu_blind, pu_pre hK hPc⟩ rfl rfl hl.1 rfl (lv_room (Nat.le_of_ble_eq_true rfl)) dX3_poke_21 ⟨Nat.le_of_ble_eq_true rfl, Nat.le_of_ble_eq_true rfl⟩) ?_
    refine lv_if_eq (tgt := 32) hx hb dX3_poke_24 (by decide) (fun c_24 => ?_) (fun c_24 => ?_)
    · skip
      refine lv_bipush (v := (-4)) hx hb dX3_poke_32 (by decide) ?_
      have hP9 : va_P D vwCl (tdW κ T S ad bs sm pl r0 r1 tk vo du nd wt wx wb wn tp tn ts dn) H := hP
      have hD9 : va_D A (tdW κ T S ad bs sm pl r0 r1 tk vo du nd wt wx wb wn tp tn ts dn) := hD
      exact W.iret hx hb hr (fun t ht _ => ⟨⟨rfl, by rw [ht]; exact hP9, hD9⟩, hS.F ht⟩) hS.2.2 dX3_poke_34 hlocks
    · exact (bI_cf hi c_24).elim
  · exact (bI_ct (by rw [inF_nI ht (by omega), inF_nI hb0 (by omega)]; rfl) c_6).elim

set_option maxHeartbeats 4000000 in
set_option maxRecDepth 100000 in
/-- poke: mask 0 -/
theorem c_poke_bm (l : Launch) (D : va_G) (κ : Nat → ClassId) (sz : Nat) (T S : Nat) (ad : Nat → Nat) (bs sm pl r0 r1 : Nat → Int32) (tk vo : Int32) (du : Nat → Option Nat) (nd : Int32) (wt wx wb : Nat → Int32) (wn : Int32) (tp : Nat → Int32) (tn ts dn : Int32) (hT : T ≤ 12) (hS8 : S ≤ 8) (t b : Nat) (ht : t < T) (hb0 : b < S) (i m0 : Int32) (hi : inF i 16 = true) (hm : (m0 &&& nI 255) = 0) : Met l yX3_poke wsX3_poke ({ frames := 2, cells := 0, slots := 0, locals := 44 }) (va_Pc [.ref ((ad 0)), .int (nI t), .int (nI b), .int i, .int m0] (mu_B D κ (tdW κ T S ad bs sm pl r0 r1 tk vo du nd wt wx wb wn tp tn ts dn) sz)) (mu_Q D (some (.int ((-4)))) (tdW κ T S ad bs sm pl r0 r1 tk vo du nd wt wx wb wn tp tn ts dn) (va_A (tdW κ T S ad bs sm pl r0 r1 tk vo du nd wt wx wb wn tp tn ts dn) sz)) 0 0 (va_A (tdW κ T S ad bs sm pl r0 r1 tk vo du nd wt wx wb wn tp tn ts dn) sz) := by
  refine Met.ofW (cc := cX3_poke) (maxL := 8) (ret := (some .int)) (by decide) rfl ?_
  intro p e s m args below meth c s₁ B hml hv
  obtain ⟨rfl, hsz, hP, hK, hD0⟩ := hv
  have hx := B.exec
  have hb := B.bytes
  have hr := B.returns
  have hts := atoms_spec (ws := wsX3_poke) B.pre
  have hown : s.vm.findClass RX3 = some m.cls := findClass_of_methodNamed B.named
  have hlocks := B.notSynchronized
  subst hsz
  have hD := hD0.self (sz := s.heap.size)
  generalize hAe : va_A (tdW κ T S ad bs sm pl r0 r1 tk vo du nd wt wx wb wn tp tn ts dn) s.heap.size = A at hD ⊢
  have hA : ∀ q : Nat, s.heap.size ≤ q → A q := fun q h => by rw [← hAe]; exact Or.inr h
  refine W.gen (P := fun H locs => va_P D vwCl (tdW κ T S ad bs sm pl r0 r1 tk vo du nd wt wx wb wn tp tn ts dn) H ∧ va_S A s.heap H locs) (fun H locs h => ?_) ⟨hP, va_S.rf⟩
  clear hP
  obtain ⟨hP, hS⟩ := h
  have hl := lv_entry ([.ref ((ad 0)), .int (nI t), .int (nI b), .int i, .int m0]) (n := 8) (Nat.le_of_ble_eq_true rfl)
  rw [lg_entry_eq]
  generalize (lg_sl ([.ref ((ad 0)), .int (nI t), .int (nI b), .int i, .int m0]) ++ List.replicate (8 - (lg_sl ([.ref ((ad 0)), .int (nI t), .int (nI b), .int i, .int m0])).length) Slot.unset).toArray = ls at hl ⊢
  have hl : lv_has ls 8 [(0, .ref ((ad 0))), (1, .int (nI t)), (2, .int (nI b)), (3, .int i), (4, .int m0)] := hl
  refine lv_aload_n hx hb dX3_poke_0 rfl (lv_at hl 0 rfl) ?_
  refine lv_iload_n hx hb dX3_poke_1 rfl (lv_at hl 1 rfl) ?_
  refine lv_iload_n hx hb dX3_poke_2 rfl (lv_at hl 2 rfl) ?_
  have hPc := hP.sub (ws' := tdW κ T S ad bs sm pl r0 r1 tk vo du nd wt wx wb wn tp tn ts dn) [0, 1, 2, 3, 4, 5, 6, 7, 8, 9, 10, 11, 12, 13] rfl
  refine pu_call (va_runV (As := [.int (nI t), .int (nI b)]) (rest := []) ⟨hx, hb, hml, hown, hts⟩ (c_hasSector l D κ T S ad bs sm pl r0 r1 tk vo du nd wt wx wb wn tp tn ts dn (nI t) (nI b)) (cwV 2 hts gX3_poke_X3_hasSector rfl rfl rfl (by decide +kernel) ⟨Nat.le_of_ble_eq_true rfl, Nat.le_of_ble_eq_true rfl⟩) ⟨pu_blind, va_recv hK hPc (ci := 4) (q0 := 0) rfl rfl, pu_pre hK hPc⟩ rfl rfl hl.1 rfl (lv_room (Nat.le_of_ble_eq_true rfl)) dX3_poke_3 ⟨Nat.le_of_ble_eq_true rfl, Nat.le_of_ble_eq_true rfl⟩) ?_
  refine lv_if_ne (tgt := 12) hx hb dX3_poke_6 (by decide) (fun c_6 => ?_) (fun c_6 => ?_)
  · skip
    refine lv_iload hx hb dX3_poke_12 (lv_at hl 4 rfl) ?_
    refine lv_sipush (v := nI 255) hx hb dX3_poke_14 (by decide) ?_
    refine lv_iand hx hb dX3_poke_17 ?_
    refine lv_istore (lv' := [(5, .int ((m0 &&& (nI 255)))), (0, .ref ((ad 0))), (1, .int (nI t)), (2, .int (nI b)), (3, .int i), (4, .int m0)]) hx hb dX3_poke_18 hl (by decide) rfl (fun ls hl => ?_)
    refine lv_iload_n hx hb dX3_poke_20 rfl (lv_at hl 4 rfl) ?_
    have hPc := hP.sub (ws' := []) [] rfl
    refine pu_call (va_runS (As := [.int i]) (rest := []) ⟨hx, hb, hml, hown, hts⟩ (c_isByte l D κ i) (va_cwS 1 hts gX3_poke_X3_isByteNumber rfl rfl rfl (by decide +kernel) ⟨Nat.le_of_ble_eq_true rfl, Nat.le_of_ble_eq_true rfl⟩) ⟨pu_blind, pu_pre hK hPc⟩ rfl rfl hl.1 rfl (lv_room (Nat.le_of_ble_eq_true rfl)) dX3_poke_21 ⟨Nat.le_of_ble_eq_true rfl, Nat.le_of_ble_eq_true rfl⟩) ?_
    refine lv_if_eq (tgt := 32) hx hb dX3_poke_24 (by decide) (fun c_24 => ?_) (fun c_24 => ?_)
    · exact (bI_ct hi c_24).elim
    · skip
      refine lv_iload hx hb dX3_poke_27 (lv_at hl 0 rfl) ?_
      refine lv_if_ne (tgt := 35) hx hb dX3_poke_29 (by decide) (fun c_29 => ?_) (fun c_29 => ?_)
      · exact absurd hm c_29
      · skip
        refine lv_bipush (v := (-4)) hx hb dX3_poke_32 (by decide) ?_
        have hP9 : va_P D vwCl (tdW κ T S ad bs sm pl r0 r1 tk vo du nd wt wx wb wn tp tn ts dn) H := hP
        have hD9 : va_D A (tdW κ T S ad bs sm pl r0 r1 tk vo du nd wt wx wb wn tp tn ts dn) := hD
        exact W.iret hx hb hr (fun t ht _ => ⟨⟨rfl, by rw [ht]; exact hP9, hD9⟩, hS.F ht⟩) hS.2.2 dX3_poke_34 hlocks
  · exact (bI_ct (by rw [inF_nI ht (by omega), inF_nI hb0 (by omega)]; rfl) c_6).elim

set_option maxHeartbeats 4000000 in
set_option maxRecDepth 100000 in
/-- poke -/
theorem c_poke (l : Launch) (D : va_G) (κ : Nat → ClassId) (sz : Nat) (T S : Nat) (ad : Nat → Nat) (bs sm pl r0 r1 : Nat → Int32) (tk vo : Int32) (du : Nat → Option Nat) (nd : Int32) (wt wx wb : Nat → Int32) (wn : Int32) (tp : Nat → Int32) (tn ts dn : Int32) (hT : T ≤ 12) (hS8 : S ≤ 8) (hpl : ∀ t, t < T → vp_in (pl t) (T + 2)) (t b : Nat) (ht : t < T) (hb0 : b < S) (i : Nat) (hi : i < 16) (m0 : Int32) (hm : ¬ (m0 &&& nI 255) = 0) : Met l yX3_poke wsX3_poke ({ frames := 2, cells := 0, slots := 0, locals := 44 }) (va_Pc [.ref ((ad 0)), .int (nI t), .int (nI b), .int (nI i), .int m0] (mu_B D κ (tdW κ T S ad bs sm pl r0 r1 tk vo du nd wt wx wb wn tp tn ts dn) sz)) (mu_Q D (some (.int (bs ((cl (pl t) * S + b) * 16 + i) &&& nI 255))) (tdW κ T S ad (upd bs ((cl (pl t) * S + b) * 16 + i) (((bs ((cl (pl t) * S + b) * 16 + i) &&& nI 255) ^^^ (m0 &&& nI 255)).toInt8.toInt32)) sm pl r0 r1 tk vo du nd wt wx wb wn tp tn ts dn) (va_A (tdW κ T S ad bs sm pl r0 r1 tk vo du nd wt wx wb wn tp tn ts dn) sz)) 0 0 (va_A (tdW κ T S ad bs sm pl r0 r1 tk vo du nd wt wx wb wn tp tn ts dn) sz) := by
  refine Met.ofW (cc := cX3_poke) (maxL := 8) (ret := (some .int)) (by decide) rfl ?_
  intro p e s m args below meth c s₁ B hml hv
  obtain ⟨rfl, hsz, hP, hK, hD0⟩ := hv
  have hx := B.exec
  have hb := B.bytes
  have hr := B.returns
  have hts := atoms_spec (ws := wsX3_poke) B.pre
  have hown : s.vm.findClass RX3 = some m.cls := findClass_of_methodNamed B.named
  have hlocks := B.notSynchronized
  subst hsz
  have hD := hD0.self (sz := s.heap.size)
  generalize hAe : va_A (tdW κ T S ad bs sm pl r0 r1 tk vo du nd wt wx wb wn tp tn ts dn) s.heap.size = A at hD ⊢
  have hA : ∀ q : Nat, s.heap.size ≤ q → A q := fun q h => by rw [← hAe]; exact Or.inr h
  refine W.gen (P := fun H locs => va_P D vwCl (tdW κ T S ad bs sm pl r0 r1 tk vo du nd wt wx wb wn tp tn ts dn) H ∧ va_S A s.heap H locs) (fun H locs h => ?_) ⟨hP, va_S.rf⟩
  clear hP
  obtain ⟨hP, hS⟩ := h
  have hl := lv_entry ([.ref ((ad 0)), .int (nI t), .int (nI b), .int (nI i), .int m0]) (n := 8) (Nat.le_of_ble_eq_true rfl)
  rw [lg_entry_eq]
  generalize (lg_sl ([.ref ((ad 0)), .int (nI t), .int (nI b), .int (nI i), .int m0]) ++ List.replicate (8 - (lg_sl ([.ref ((ad 0)), .int (nI t), .int (nI b), .int (nI i), .int m0])).length) Slot.unset).toArray = ls at hl ⊢
  have hl : lv_has ls 8 [(0, .ref ((ad 0))), (1, .int (nI t)), (2, .int (nI b)), (3, .int (nI i)), (4, .int m0)] := hl
  have hmx := sf_max hT hS8
  have hplt := cl_nI (hpl t ht) (by omega)
  have hlt := sf_lt hplt.2 hb0 hi
  refine lv_aload_n hx hb dX3_poke_0 rfl (lv_at hl 0 rfl) ?_
  refine lv_iload_n hx hb dX3_poke_1 rfl (lv_at hl 1 rfl) ?_
  refine lv_iload_n hx hb dX3_poke_2 rfl (lv_at hl 2 rfl) ?_
  have hPc := hP.sub (ws' := tdW κ T S ad bs sm pl r0 r1 tk vo du nd wt wx wb wn tp tn ts dn) [0, 1, 2, 3, 4, 5, 6, 7, 8, 9, 10, 11, 12, 13] rfl
  refine pu_call (va_runV (As := [.int (nI t), .int (nI b)]) (rest := []) ⟨hx, hb, hml, hown, hts⟩ (c_hasSector l D κ T S ad bs sm pl r0 r1 tk vo du nd wt wx wb wn tp tn ts dn (nI t) (nI b)) (cwV 2 hts gX3_poke_X3_hasSector rfl rfl rfl (by decide +kernel) ⟨Nat.le_of_ble_eq_true rfl, Nat.le_of_ble_eq_true rfl⟩) ⟨pu_blind, va_recv hK hPc (ci := 4) (q0 := 0) rfl rfl, pu_pre hK hPc⟩ rfl rfl hl.1 rfl (lv_room (Nat.le_of_ble_eq_true rfl)) dX3_poke_3 ⟨Nat.le_of_ble_eq_true rfl, Nat.le_of_ble_eq_true rfl⟩) ?_
  refine lv_if_ne (tgt := 12) hx hb dX3_poke_6 (by decide) (fun c_6 => ?_) (fun c_6 => ?_)
  · skip
    refine lv_iload hx hb dX3_poke_12 (lv_at hl 4 rfl) ?_
    refine lv_sipush (v := nI 255) hx hb dX3_poke_14 (by decide) ?_
    refine lv_iand hx hb dX3_poke_17 ?_
    refine lv_istore (lv' := [(5, .int ((m0 &&& (nI 255)))), (0, .ref ((ad 0))), (1, .int (nI t)), (2, .int (nI b)), (3, .int (nI i)), (4, .int m0)]) hx hb dX3_poke_18 hl (by decide) rfl (fun ls hl => ?_)
    refine lv_iload_n hx hb dX3_poke_20 rfl (lv_at hl 4 rfl) ?_
    have hPc := hP.sub (ws' := []) [] rfl
    refine pu_call (va_runS (As := [.int (nI i)]) (rest := []) ⟨hx, hb, hml, hown, hts⟩ (c_isByte l D κ (nI i)) (va_cwS 1 hts gX3_poke_X3_isByteNumber rfl rfl rfl (by decide +kernel) ⟨Nat.le_of_ble_eq_true rfl, Nat.le_of_ble_eq_true rfl⟩) ⟨pu_blind, pu_pre hK hPc⟩ rfl rfl hl.1 rfl (lv_room (Nat.le_of_ble_eq_true rfl)) dX3_poke_21 ⟨Nat.le_of_ble_eq_true rfl, Nat.le_of_ble_eq_true rfl⟩) ?_
    refine lv_if_eq (tgt := 32) hx hb dX3_poke_24 (by decide) (fun c_24 => ?_) (fun c_24 => ?_)
    · exact (bI_ct (inF_nI hi (by omega)) c_24).elim
    · skip
      refine lv_iload hx hb dX3_poke_27 (lv_at hl 0 rfl) ?_
      refine lv_if_ne (tgt := 35) hx hb dX3_poke_29 (by decide) (fun c_29 => ?_) (fun c_29 => ?_)
      · skip
        refine lv_aload_n hx hb dX3_poke_35 rfl (lv_at hl 1 rfl) ?_
        refine va_get (D := D) (ci := 4) (v := .ref ((ad 1))) (C := RX3) (T := TX3) (N := 8) hx hb hts (by decide +kernel) hown hK hP 0 rfl rfl 2 (by decide) (hts (.fieldLink RX3 25 "TrackDisk" "disk" "LTrackDisk$Surface;") (by decide +kernel)) (fun _ h9 => h9) rfl dX3_poke_36 ?_
        refine lv_iload_n hx hb dX3_poke_39 rfl (lv_at hl 2 rfl) ?_
        refine lv_iload_n hx hb dX3_poke_40 rfl (lv_at hl 3 rfl) ?_
        have hPc := hP.sub (ws' := sfW κ T S (fun j => ad (j + 1)) bs sm pl r0 r1 tk vo) [1, 2, 3, 4, 5, 6] rfl
        refine pu_call (va_runV (As := [.int (nI t), .int (nI b)]) (rest := []) ⟨hx, hb, hml, hown, hts⟩ (c_firstByte l D κ T S (fun j => ad (j + 1)) bs sm pl r0 r1 tk vo hT hS8 hpl t b ht) (cwV 2 hts gX3_poke_X1_firstByte rfl rfl rfl (by decide +kernel) ⟨Nat.le_of_ble_eq_true rfl, Nat.le_of_ble_eq_true rfl⟩) ⟨pu_blind, va_recv hK hPc (ci := 2) (q0 := 0) rfl rfl, pu_pre hK hPc⟩ rfl rfl hl.1 rfl (lv_room (Nat.le_of_ble_eq_true rfl)) dX3_poke_41 ⟨Nat.le_of_ble_eq_true rfl, Nat.le_of_ble_eq_true rfl⟩) ?_
        refine lv_iload_n hx hb dX3_poke_44 rfl (lv_at hl 4 rfl) ?_
        refine lv_iadd hx hb dX3_poke_45 ?_
        refine tp_i (y := nI (((cl (pl t) * S + b) * 16) + i)) (by exact nI_add _ _) ?_
        refine lv_istore (lv' := [(6, .int (nI (((cl (pl t) * S + b) * 16) + i))), (5, .int ((m0 &&& (nI 255)))), (0, .ref ((ad 0))), (1, .int (nI t)), (2, .int (nI b)), (3, .int (nI i)), (4, .int m0)]) hx hb dX3_poke_46 hl (by decide) rfl (fun ls hl => ?_)
        refine lv_aload_n hx hb dX3_poke_48 rfl (lv_at hl 2 rfl) ?_
        refine va_get (D := D) (ci := 4) (v := .ref ((ad 1))) (C := RX3) (T := TX3) (N := 8) hx hb hts (by decide +kernel) hown hK hP 0 rfl rfl 2 (by decide) (hts (.fieldLink RX3 25 "TrackDisk" "disk" "LTrackDisk$Surface;") (by decide +kernel)) (fun _ h9 => h9) rfl dX3_poke_49 ?_
        refine va_get (D := D) (ci := 2) (v := .ref ((ad 2))) (C := RX1) (T := TX1) (N := 9) hx hb hts (by decide +kernel) hown hK hP 1 rfl rfl 2 (by decide) (hts (.fieldLink RX3 76 "TrackDisk$Surface" "bytes" "[B") (by decide +kernel)) (fun _ h9 => h9) rfl dX3_poke_52 ?_
        refine lv_iload hx hb dX3_poke_55 (lv_at hl 0 rfl) ?_
        refine va_bald hx hb hK hP 2 1 rfl rfl (vp_in_nI (by omega) (by omega)) dX3_poke_57 ?_
        refine tp_i (y := bs (((cl (pl t) * S + b) * 16) + i)) (by rw [nI_clamp (by omega)]) ?_
        refine lv_sipush (v := nI 255) hx hb dX3_poke_58 (by decide) ?_
        refine lv_iand hx hb dX3_poke_61 ?_
        refine lv_istore (lv' := [(7, .int (((bs (((cl (pl t) * S + b) * 16) + i)) &&& (nI 255)))), (6, .int (nI (((cl (pl t) * S + b) * 16) + i))), (5, .int ((m0 &&& (nI 255)))), (0, .ref ((ad 0))), (1, .int (nI t)), (2, .int (nI b)), (3, .int (nI i)), (4, .int m0)]) hx hb dX3_poke_62 hl (by decide) rfl (fun ls hl => ?_)
        refine lv_aload_n hx hb dX3_poke_64 rfl (lv_at hl 3 rfl) ?_
        refine va_get (D := D) (ci := 4) (v := .ref ((ad 1))) (C := RX3) (T := TX3) (N := 8) hx hb hts (by decide +kernel) hown hK hP 0 rfl rfl 2 (by decide) (hts (.fieldLink RX3 25 "TrackDisk" "disk" "LTrackDisk$Surface;") (by decide +kernel)) (fun _ h9 => h9) rfl dX3_poke_65 ?_
        refine va_get (D := D) (ci := 2) (v := .ref ((ad 2))) (C := RX1) (T := TX1) (N := 9) hx hb hts (by decide +kernel) hown hK hP 1 rfl rfl 2 (by decide) (hts (.fieldLink RX3 76 "TrackDisk$Surface" "bytes" "[B") (by decide +kernel)) (fun _ h9 => h9) rfl dX3_poke_68 ?_
        refine lv_iload hx hb dX3_poke_71 (lv_at hl 1 rfl) ?_
        refine lv_iload hx hb dX3_poke_73 (lv_at hl 0 rfl) ?_
        refine lv_iload hx hb dX3_poke_75 (lv_at hl 2 rfl) ?_
        refine lv_ixor hx hb dX3_poke_77 ?_
        refine lv_i2b (v := ((((bs (((cl (pl t) * S + b) * 16) + i)) &&& (nI 255)) ^^^ (m0 &&& (nI 255)))).toInt8.toInt32) hx hb dX3_poke_78 rfl ?_
        refine va_bast hx hb hK hP hD hS 2 1 rfl rfl (vp_in_nI (by omega) (by omega)) dX3_poke_79 (fun H locs hP hD hS => ?_)
        rw [nI_clamp (n := ((cl (pl t) * S + b) * 16) + i) (by omega)] at hP hD
        rw [pk_vb] at hP hD
        have hP : va_P D vwCl (tdW κ T S ad (upd (bs) (((cl (pl t) * S + b) * 16) + i) (((((bs (((cl (pl t) * S + b) * 16) + i)) &&& (nI 255)) ^^^ (m0 &&& (nI 255)))).toInt8.toInt32)) sm pl r0 r1 tk vo du nd wt wx wb wn tp tn ts dn) H := hP
        have hD : va_D A (tdW κ T S ad (upd (bs) (((cl (pl t) * S + b) * 16) + i) (((((bs (((cl (pl t) * S + b) * 16) + i)) &&& (nI 255)) ^^^ (m0 &&& (nI 255)))).toInt8.toInt32)) sm pl r0 r1 tk vo du nd wt wx wb wn tp tn ts dn) := hD
        refine lv_iload hx hb dX3_poke_80 (lv_at hl 0 rfl) ?_
        have hP9 : va_P D vwCl (tdW κ T S ad (upd bs ((cl (pl t) * S + b) * 16 + i) (((bs ((cl (pl t) * S + b) * 16 + i) &&& nI 255) ^^^ (m0 &&& nI 255)).toInt8.toInt32)) sm pl r0 r1 tk vo du nd wt wx wb wn tp tn ts dn) H := hP
        have hD9 : va_D A (tdW κ T S ad (upd bs ((cl (pl t) * S + b) * 16 + i) (((bs ((cl (pl t) * S + b) * 16 + i) &&& nI 255) ^^^ (m0 &&& nI 255)).toInt8.toInt32)) sm pl r0 r1 tk vo du nd wt wx wb wn tp tn ts dn) := hD
        refine tp_i (y := bs ((cl (pl t) * S + b) * 16 + i) &&& nI 255) (by rfl) ?_
        exact W.iret hx hb hr (fun t ht _ => ⟨⟨rfl, by rw [ht]; exact hP9, hD9⟩, hS.F ht⟩) hS.2.2 dX3_poke_82 hlocks
      · exact absurd c_29 hm
  · exact (bI_ct (by rw [inF_nI ht (by omega), inF_nI hb0 (by omega)]; rfl) c_6).elim

set_option maxHeartbeats 4000000 in
set_option maxRecDepth 100000 in
/-- read -/
theorem c_read (l : Launch) (D : va_G) (κ : Nat → ClassId) (sz : Nat) (T S : Nat) (ad : Nat → Nat) (bs sm pl r0 r1 : Nat → Int32) (tk vo : Int32) (du : Nat → Option Nat) (nd : Int32) (wt wx wb : Nat → Int32) (wn : Int32) (tp : Nat → Int32) (tn ts dn : Int32) (hT : T ≤ 12) (hS8 : S ≤ 8) (hpl : ∀ t, t < T → vp_in (pl t) (T + 2)) (t b : Nat) (ht : t < T) (hb0 : b < S) (i : Nat) (hi : i < 16) (hby : isB bs) : Met l yX3_read wsX3_read ({ frames := 2, cells := 0, slots := 0, locals := 44 }) (va_Pc [.ref ((ad 0)), .int (nI t), .int (nI b), .int (nI i)] (mu_B D κ (tdW κ T S ad bs sm pl r0 r1 tk vo du nd wt wx wb wn tp tn ts dn) sz)) (mu_Q D (some (.int (bs ((cl (pl t) * S + b) * 16 + i)))) (tdW κ T S ad bs sm pl r0 r1 tk vo du nd wt wx wb wn tp tn ts dn) (va_A (tdW κ T S ad bs sm pl r0 r1 tk vo du nd wt wx wb wn tp tn ts dn) sz)) 0 0 (va_A (tdW κ T S ad bs sm pl r0 r1 tk vo du nd wt wx wb wn tp tn ts dn) sz) := by
  refine Met.ofW (cc := cX3_read) (maxL := 4) (ret := (some .byte)) (by decide) rfl ?_
  intro p e s m args below meth c s₁ B hml hv
  obtain ⟨rfl, hsz, hP, hK, hD0⟩ := hv
  have hx := B.exec
  have hb := B.bytes
  have hr := B.returns
  have hts := atoms_spec (ws := wsX3_read) B.pre
  have hown : s.vm.findClass RX3 = some m.cls := findClass_of_methodNamed B.named
  have hlocks := B.notSynchronized
  subst hsz
  have hD := hD0.self (sz := s.heap.size)
  generalize hAe : va_A (tdW κ T S ad bs sm pl r0 r1 tk vo du nd wt wx wb wn tp tn ts dn) s.heap.size = A at hD ⊢
  have hA : ∀ q : Nat, s.heap.size ≤ q → A q := fun q h => by rw [← hAe]; exact Or.inr h
  refine W.gen (P := fun H locs => va_P D vwCl (tdW κ T S ad bs sm pl r0 r1 tk vo du nd wt wx wb wn tp tn ts dn) H ∧ va_S A s.heap H locs) (fun H locs h => ?_) ⟨hP, va_S.rf⟩
  clear hP
  obtain ⟨hP, hS⟩ := h
  have hl := lv_entry ([.ref ((ad 0)), .int (nI t), .int (nI b), .int (nI i)]) (n := 4) (Nat.le_of_ble_eq_true rfl)
  rw [lg_entry_eq]
  generalize (lg_sl ([.ref ((ad 0)), .int (nI t), .int (nI b), .int (nI i)]) ++ List.replicate (4 - (lg_sl ([.ref ((ad 0)), .int (nI t), .int (nI b), .int (nI i)])).length) Slot.unset).toArray = ls at hl ⊢
  have hl : lv_has ls 4 [(0, .ref ((ad 0))), (1, .int (nI t)), (2, .int (nI b)), (3, .int (nI i))] := hl
  have hmx := sf_max hT hS8
  have hplt := cl_nI (hpl t ht) (by omega)
  have hlt := sf_lt hplt.2 hb0 hi
  refine lv_aload_n hx hb dX3_read_0 rfl (lv_at hl 0 rfl) ?_
  refine lv_iload_n hx hb dX3_read_1 rfl (lv_at hl 1 rfl) ?_
  refine lv_iload_n hx hb dX3_read_2 rfl (lv_at hl 2 rfl) ?_
  have hPc := hP.sub (ws' := tdW κ T S ad bs sm pl r0 r1 tk vo du nd wt wx wb wn tp tn ts dn) [0, 1, 2, 3, 4, 5, 6, 7, 8, 9, 10, 11, 12, 13] rfl
  refine pu_call (va_runV (As := [.int (nI t), .int (nI b)]) (rest := []) ⟨hx, hb, hml, hown, hts⟩ (c_hasSector l D κ T S ad bs sm pl r0 r1 tk vo du nd wt wx wb wn tp tn ts dn (nI t) (nI b)) (cwV 2 hts gX3_read_X3_hasSector rfl rfl rfl (by decide +kernel) ⟨Nat.le_of_ble_eq_true rfl, Nat.le_of_ble_eq_true rfl⟩) ⟨pu_blind, va_recv hK hPc (ci := 4) (q0 := 0) rfl rfl, pu_pre hK hPc⟩ rfl rfl hl.1 rfl (lv_room (Nat.le_of_ble_eq_true rfl)) dX3_read_3 ⟨Nat.le_of_ble_eq_true rfl, Nat.le_of_ble_eq_true rfl⟩) ?_
  refine lv_if_eq (tgt := 16) hx hb dX3_read_6 (by decide) (fun c_6 => ?_) (fun c_6 => ?_)
  · exact (bI_ct (by rw [inF_nI ht (by omega), inF_nI hb0 (by omega)]; rfl) c_6).elim
  · skip
    refine lv_iload_n hx hb dX3_read_9 rfl (lv_at hl 3 rfl) ?_
    have hPc := hP.sub (ws' := []) [] rfl
    refine pu_call (va_runS (As := [.int (nI i)]) (rest := []) ⟨hx, hb, hml, hown, hts⟩ (c_isByte l D κ (nI i)) (va_cwS 1 hts gX3_read_X3_isByteNumber rfl rfl rfl (by decide +kernel) ⟨Nat.le_of_ble_eq_true rfl, Nat.le_of_ble_eq_true rfl⟩) ⟨pu_blind, pu_pre hK hPc⟩ rfl rfl hl.1 rfl (lv_room (Nat.le_of_ble_eq_true rfl)) dX3_read_10 ⟨Nat.le_of_ble_eq_true rfl, Nat.le_of_ble_eq_true rfl⟩) ?_
    refine lv_if_ne (tgt := 26) hx hb dX3_read_13 (by decide) (fun c_13 => ?_) (fun c_13 => ?_)
    · skip
      refine lv_aload_n hx hb dX3_read_26 rfl (lv_at hl 0 rfl) ?_
      refine va_get (D := D) (ci := 4) (v := .ref ((ad 1))) (C := RX3) (T := TX3) (N := 8) hx hb hts (by decide +kernel) hown hK hP 0 rfl rfl 2 (by decide) (hts (.fieldLink RX3 25 "TrackDisk" "disk" "LTrackDisk$Surface;") (by decide +kernel)) (fun _ h9 => h9) rfl dX3_read_27 ?_
      refine va_get (D := D) (ci := 2) (v := .ref ((ad 2))) (C := RX1) (T := TX1) (N := 9) hx hb hts (by decide +kernel) hown hK hP 1 rfl rfl 2 (by decide) (hts (.fieldLink RX3 76 "TrackDisk$Surface" "bytes" "[B") (by decide +kernel)) (fun _ h9 => h9) rfl dX3_read_30 ?_
      refine lv_aload_n hx hb dX3_read_33 rfl (lv_at hl 0 rfl) ?_
      refine va_get (D := D) (ci := 4) (v := .ref ((ad 1))) (C := RX3) (T := TX3) (N := 8) hx hb hts (by decide +kernel) hown hK hP 0 rfl rfl 2 (by decide) (hts (.fieldLink RX3 25 "TrackDisk" "disk" "LTrackDisk$Surface;") (by decide +kernel)) (fun _ h9 => h9) rfl dX3_read_34 ?_
      refine lv_iload_n hx hb dX3_read_37 rfl (lv_at hl 1 rfl) ?_
      refine lv_iload_n hx hb dX3_read_38 rfl (lv_at hl 2 rfl) ?_
      have hPc := hP.sub (ws' := sfW κ T S (fun j => ad (j + 1)) bs sm pl r0 r1 tk vo) [1, 2, 3, 4, 5, 6] rfl
      refine pu_call (va_runV (As := [.int (nI t), .int (nI b)]) (rest := [.ref ((ad 2))]) ⟨hx, hb, hml, hown, hts⟩ (c_firstByte l D κ T S (fun j => ad (j + 1)) bs sm pl r0 r1 tk vo hT hS8 hpl t b ht) (cwV 2 hts gX3_read_X1_firstByte rfl rfl rfl (by decide +kernel) ⟨Nat.le_of_ble_eq_true rfl, Nat.le_of_ble_eq_true rfl⟩) ⟨pu_blind, va_recv hK hPc (ci := 2) (q0 := 0) rfl rfl, pu_pre hK hPc⟩ rfl rfl hl.1 rfl (lv_room (Nat.le_of_ble_eq_true rfl)) dX3_read_39 ⟨Nat.le_of_ble_eq_true rfl, Nat.le_of_ble_eq_true rfl⟩) ?_
      refine lv_iload_n hx hb dX3_read_42 rfl (lv_at hl 3 rfl) ?_
      refine lv_iadd hx hb dX3_read_43 ?_
      refine tp_i (y := nI (((cl (pl t) * S + b) * 16) + i)) (by exact nI_add _ _) ?_
      refine va_bald hx hb hK hP 2 1 rfl rfl (vp_in_nI (by omega) (by omega)) dX3_read_44 ?_
      refine tp_i (y := bs (((cl (pl t) * S + b) * 16) + i)) (by rw [nI_clamp (by omega)]) ?_
      have hP9 : va_P D vwCl (tdW κ T S ad bs sm pl r0 r1 tk vo du nd wt wx wb wn tp tn ts dn) H := hP
      have hD9 : va_D A (tdW κ T S ad bs sm pl r0 r1 tk vo du nd wt wx wb wn tp tn ts dn) := hD
      refine tp_i (y := bs ((cl (pl t) * S + b) * 16 + i)) (by rfl) ?_
      exact W.zret hx hb hr (hby.nar _) (fun t ht _  => ⟨⟨rfl, by rw [ht]; exact hP9, hD9⟩, hS.F ht⟩) hS.2.2 dX3_read_45 hlocks
    · exact (bI_ct (inF_nI hi (by omega)) c_13).elim

set_option maxHeartbeats 4000000 in
set_option maxRecDepth 100000 in
/-- wrong(0) -/
theorem c_wrong_0 (l : Launch) (D : va_G) (κ : Nat → ClassId) (sz : Nat) (T S : Nat) (ad : Nat → Nat) (bs sm pl r0 r1 : Nat → Int32) (tk vo : Int32) (du : Nat → Option Nat) (nd : Int32) (wt wx wb : Nat → Int32) (wn : Int32) (tp : Nat → Int32) (tn ts dn : Int32) (hT : T ≤ 12) (hS8 : S ≤ 8) (hpl : ∀ t, t < T → vp_in (pl t) (T + 2))  : Met l yX3_wrong wsX3_wrong ({ frames := 4, cells := 0, slots := 0, locals := 94 }) (va_Pc [.ref ((ad 0)), .int (nI 0)] (mu_B D κ (tdW κ T S ad bs sm pl r0 r1 tk vo du nd wt wx wb wn tp tn ts dn) sz)) (mu_Q D (some (.int (nI (cn2 (iwF bs sm pl S) S T)))) (tdW κ T S ad bs sm pl r0 r1 tk vo du nd wt wx wb wn tp tn ts dn) (va_A (tdW κ T S ad bs sm pl r0 r1 tk vo du nd wt wx wb wn tp tn ts dn) sz)) 0 0 (va_A (tdW κ T S ad bs sm pl r0 r1 tk vo du nd wt wx wb wn tp tn ts dn) sz) := by
  refine Met.ofW (cc := cX3_wrong) (maxL := 3) (ret := (some .int)) (by decide) rfl ?_
  intro p e s m args below meth c s₁ B hml hv
  obtain ⟨rfl, hsz, hP, hK, hD0⟩ := hv
  have hx := B.exec
  have hb := B.bytes
  have hr := B.returns
  have hts := atoms_spec (ws := wsX3_wrong) B.pre
  have hown : s.vm.findClass RX3 = some m.cls := findClass_of_methodNamed B.named
  have hlocks := B.notSynchronized
  subst hsz
  have hD := hD0.self (sz := s.heap.size)
  generalize hAe : va_A (tdW κ T S ad bs sm pl r0 r1 tk vo du nd wt wx wb wn tp tn ts dn) s.heap.size = A at hD ⊢
  have hA : ∀ q : Nat, s.heap.size ≤ q → A q := fun q h => by rw [← hAe]; exact Or.inr h
  refine W.gen (P := fun H locs => va_P D vwCl (tdW κ T S ad bs sm pl r0 r1 tk vo du nd wt wx wb wn tp tn ts dn) H ∧ va_S A s.heap H locs) (fun H locs h => ?_) ⟨hP, va_S.rf⟩
  clear hP
  obtain ⟨hP, hS⟩ := h
  have hl := lv_entry ([.ref ((ad 0)), .int (nI 0)]) (n := 3) (Nat.le_of_ble_eq_true rfl)
  rw [lg_entry_eq]
  generalize (lg_sl ([.ref ((ad 0)), .int (nI 0)]) ++ List.replicate (3 - (lg_sl ([.ref ((ad 0)), .int (nI 0)])).length) Slot.unset).toArray = ls at hl ⊢
  have hl : lv_has ls 3 [(0, .ref ((ad 0))), (1, .int (nI 0))] := hl
  refine lv_iload_n hx hb dX3_wrong_0 rfl (lv_at hl 1 rfl) ?_
  refine lv_if_ne (tgt := 12) hx hb dX3_wrong_1 (by decide) (fun c_1 => ?_) (fun c_1 => ?_)
  · exact absurd (by decide) c_1
  · skip
    refine lv_aload_n hx hb dX3_wrong_4 rfl (lv_at hl 0 rfl) ?_
    refine va_get (D := D) (ci := 4) (v := .ref ((ad 1))) (C := RX3) (T := TX3) (N := 8) hx hb hts (by decide +kernel) hown hK hP 0 rfl rfl 2 (by decide) (hts (.fieldLink RX3 25 "TrackDisk" "disk" "LTrackDisk$Surface;") (by decide +kernel)) (fun _ h9 => h9) rfl dX3_wrong_5 ?_
    have hPc := hP.sub (ws' := sfW κ T S (fun j => ad (j + 1)) bs sm pl r0 r1 tk vo) [1, 2, 3, 4, 5, 6] rfl
    refine pu_call (va_runV (As := []) (rest := []) ⟨hx, hb, hml, hown, hts⟩ (c_wrongSectors l D κ T S (fun j => ad (j + 1)) bs sm pl r0 r1 tk vo hT hS8 hpl) (cwV 0 hts gX3_wrong_X1_wrongSectors rfl rfl rfl (by decide +kernel) ⟨Nat.le_of_ble_eq_true rfl, Nat.le_of_ble_eq_true rfl⟩) ⟨pu_blind, va_recv hK hPc (ci := 2) (q0 := 0) rfl rfl, pu_pre hK hPc⟩ rfl rfl hl.1 rfl (lv_room (Nat.le_of_ble_eq_true rfl)) dX3_wrong_8 ⟨Nat.le_of_ble_eq_true rfl, Nat.le_of_ble_eq_true rfl⟩) ?_
    have hP9 : va_P D vwCl (tdW κ T S ad bs sm pl r0 r1 tk vo du nd wt wx wb wn tp tn ts dn) H := hP
    have hD9 : va_D A (tdW κ T S ad bs sm pl r0 r1 tk vo du nd wt wx wb wn tp tn ts dn) := hD
    exact W.iret hx hb hr (fun t ht _ => ⟨⟨rfl, by rw [ht]; exact hP9, hD9⟩, hS.F ht⟩) hS.2.2 dX3_wrong_11 hlocks

set_option maxHeartbeats 4000000 in
set_option maxRecDepth 100000 in
/-- wrong of others -/
theorem c_wrong_no (l : Launch) (D : va_G) (κ : Nat → ClassId) (sz : Nat) (T S : Nat) (ad : Nat → Nat) (bs sm pl r0 r1 : Nat → Int32) (tk vo : Int32) (du : Nat → Option Nat) (nd : Int32) (wt wx wb : Nat → Int32) (wn : Int32) (tp : Nat → Int32) (tn ts dn : Int32) (x : Int32) (h0 : ¬ x = 0) (h1 : ¬ x = nI 1) (h2 : ¬ x = nI 2) : Met l yX3_wrong wsX3_wrong ({ frames := 4, cells := 0, slots := 0, locals := 94 }) (va_Pc [.ref ((ad 0)), .int x] (mu_B D κ (tdW κ T S ad bs sm pl r0 r1 tk vo du nd wt wx wb wn tp tn ts dn) sz)) (mu_Q D (some (.int ((-1)))) (tdW κ T S ad bs sm pl r0 r1 tk vo du nd wt wx wb wn tp tn ts dn) (va_A (tdW κ T S ad bs sm pl r0 r1 tk vo du nd wt wx wb wn tp tn ts dn) sz)) 0 0 (va_A (tdW κ T S ad bs sm pl r0 r1 tk vo du nd wt wx wb wn tp tn ts dn) sz) := by
  refine Met.ofW (cc := cX3_wrong) (maxL := 3) (ret := (some .int)) (by decide) rfl ?_
  intro p e s m args below meth c s₁ B hml hv
  obtain ⟨rfl, hsz, hP, hK, hD0⟩ := hv
  have hx := B.exec
  have hb := B.bytes
  have hr := B.returns
  have hts := atoms_spec (ws := wsX3_wrong) B.pre
  have hown : s.vm.findClass RX3 = some m.cls := findClass_of_methodNamed B.named
  have hlocks := B.notSynchronized
  subst hsz
  have hD := hD0.self (sz := s.heap.size)
  generalize hAe : va_A (tdW κ T S ad bs sm pl r0 r1 tk vo du nd wt wx wb wn tp tn ts dn) s.heap.size = A at hD ⊢
  have hA : ∀ q : Nat, s.heap.size ≤ q → A q := fun q h => by rw [← hAe]; exact Or.inr h
  refine W.gen (P := fun H locs => va_P D vwCl (tdW κ T S ad bs sm pl r0 r1 tk vo du nd wt wx wb wn tp tn ts dn) H ∧ va_S A s.heap H locs) (fun H locs h => ?_) ⟨hP, va_S.rf⟩
  clear hP
  obtain ⟨hP, hS⟩ := h
  have hl := lv_entry ([.ref ((ad 0)), .int x]) (n := 3) (Nat.le_of_ble_eq_true rfl)
  rw [lg_entry_eq]
  generalize (lg_sl ([.ref ((ad 0)), .int x]) ++ List.replicate (3 - (lg_sl ([.ref ((ad 0)), .int x])).length) Slot.unset).toArray = ls at hl ⊢
  have hl : lv_has ls 3 [(0, .ref ((ad 0))), (1, .int x)] := hl
  refine lv_iload_n hx hb dX3_wrong_0 rfl (lv_at hl 1 rfl) ?_
  refine lv_if_ne (tgt := 12) hx hb dX3_wrong_1 (by decide) (fun c_1 => ?_) (fun c_1 => ?_)
  · skip
    refine lv_iload_n hx hb dX3_wrong_12 rfl (lv_at hl 1 rfl) ?_
    refine lv_iconst (v := nI 1) hx hb dX3_wrong_13 (by decide) ?_
    refine lv_icmp_eq (tgt := 24) hx hb dX3_wrong_14 (by decide) (fun c_14 => ?_) (fun c_14 => ?_)
    · exact absurd c_14 h1
    · skip
      refine lv_iload_n hx hb dX3_wrong_17 rfl (lv_at hl 1 rfl) ?_
      refine lv_iconst (v := nI 2) hx hb dX3_wrong_18 (by decide) ?_
      refine lv_icmp_eq (tgt := 24) hx hb dX3_wrong_19 (by decide) (fun c_19 => ?_) (fun c_19 => ?_)
      · exact absurd c_19 h2
      · skip
        refine lv_iconst (v := (-1)) hx hb dX3_wrong_22 (by decide) ?_
        have hP9 : va_P D vwCl (tdW κ T S ad bs sm pl r0 r1 tk vo du nd wt wx wb wn tp tn ts dn) H := hP
        have hD9 : va_D A (tdW κ T S ad bs sm pl r0 r1 tk vo du nd wt wx wb wn tp tn ts dn) := hD
        exact W.iret hx hb hr (fun t ht _ => ⟨⟨rfl, by rw [ht]; exact hP9, hD9⟩, hS.F ht⟩) hS.2.2 dX3_wrong_23 hlocks
  · exact absurd c_1 h0

set_option maxHeartbeats 4000000 in
set_option maxRecDepth 100000 in
/-- wrong(1): none -/
theorem c_wrong_n1 (l : Launch) (D : va_G) (κ : Nat → ClassId) (sz : Nat) (T S : Nat) (ad : Nat → Nat) (bs sm pl r0 r1 : Nat → Int32) (tk vo : Int32) (du : Nat → Option Nat) (nd : Int32) (wt wx wb : Nat → Int32) (wn : Int32) (tp : Nat → Int32) (tn ts dn : Int32) (hT : T ≤ 12) (hS8 : S ≤ 8) (hpl : ∀ t, t < T → vp_in (pl t) (T + 2)) (hfw : fwS (iwF bs sm pl S) T S (-1)) : Met l yX3_wrong wsX3_wrong ({ frames := 4, cells := 0, slots := 0, locals := 94 }) (va_Pc [.ref ((ad 0)), .int (nI 1)] (mu_B D κ (tdW κ T S ad bs sm pl r0 r1 tk vo du nd wt wx wb wn tp tn ts dn) sz)) (mu_Q D (some (.int ((-1)))) (tdW κ T S ad bs sm pl r0 r1 tk vo du nd wt wx wb wn tp tn ts dn) (va_A (tdW κ T S ad bs sm pl r0 r1 tk vo du nd wt wx wb wn tp tn ts dn) sz)) 0 0 (va_A (tdW κ T S ad bs sm pl r0 r1 tk vo du nd wt wx wb wn tp tn ts dn) sz) := by
  refine Met.ofW (cc := cX3_wrong) (maxL := 3) (ret := (some .int)) (by decide) rfl ?_
  intro p e s m args below meth c s₁ B hml hv
  obtain ⟨rfl, hsz, hP, hK, hD0⟩ := hv
  have hx := B.exec
  have hb := B.bytes
  have hr := B.returns
  have hts := atoms_spec (ws := wsX3_wrong) B.pre
  have hown : s.vm.findClass RX3 = some m.cls := findClass_of_methodNamed B.named
  have hlocks := B.notSynchronized
  subst hsz
  have hD := hD0.self (sz := s.heap.size)
  generalize hAe : va_A (tdW κ T S ad bs sm pl r0 r1 tk vo du nd wt wx wb wn tp tn ts dn) s.heap.size = A at hD ⊢
  have hA : ∀ q : Nat, s.heap.size ≤ q → A q := fun q h => by rw [← hAe]; exact Or.inr h
  refine W.gen (P := fun H locs => va_P D vwCl (tdW κ T S ad bs sm pl r0 r1 tk vo du nd wt wx wb wn tp tn ts dn) H ∧ va_S A s.heap H locs) (fun H locs h => ?_) ⟨hP, va_S.rf⟩
  clear hP
  obtain ⟨hP, hS⟩ := h
  have hl := lv_entry ([.ref ((ad 0)), .int (nI 1)]) (n := 3) (Nat.le_of_ble_eq_true rfl)
  rw [lg_entry_eq]
  generalize (lg_sl ([.ref ((ad 0)), .int (nI 1)]) ++ List.replicate (3 - (lg_sl ([.ref ((ad 0)), .int (nI 1)])).length) Slot.unset).toArray = ls at hl ⊢
  have hl : lv_has ls 3 [(0, .ref ((ad 0))), (1, .int (nI 1))] := hl
  refine lv_iload_n hx hb dX3_wrong_0 rfl (lv_at hl 1 rfl) ?_
  refine lv_if_ne (tgt := 12) hx hb dX3_wrong_1 (by decide) (fun c_1 => ?_) (fun c_1 => ?_)
  · skip
    refine lv_iload_n hx hb dX3_wrong_12 rfl (lv_at hl 1 rfl) ?_
    refine lv_iconst (v := nI 1) hx hb dX3_wrong_13 (by decide) ?_
    refine lv_icmp_eq (tgt := 24) hx hb dX3_wrong_14 (by decide) (fun c_14 => ?_) (fun c_14 => ?_)
    · skip
      refine lv_aload_n hx hb dX3_wrong_24 rfl (lv_at hl 0 rfl) ?_
      refine va_get (D := D) (ci := 4) (v := .ref ((ad 1))) (C := RX3) (T := TX3) (N := 8) hx hb hts (by decide +kernel) hown hK hP 0 rfl rfl 2 (by decide) (hts (.fieldLink RX3 25 "TrackDisk" "disk" "LTrackDisk$Surface;") (by decide +kernel)) (fun _ h9 => h9) rfl dX3_wrong_25 ?_
      have hPc := hP.sub (ws' := sfW κ T S (fun j => ad (j + 1)) bs sm pl r0 r1 tk vo) [1, 2, 3, 4, 5, 6] rfl
      refine pu_call (va_runV (As := []) (rest := []) ⟨hx, hb, hml, hown, hts⟩ (c_firstWrong l D κ T S (fun j => ad (j + 1)) bs sm pl r0 r1 tk vo hT hS8 hpl (-1) hfw) (cwV 0 hts gX3_wrong_X1_firstWrong rfl rfl rfl (by decide +kernel) ⟨Nat.le_of_ble_eq_true rfl, Nat.le_of_ble_eq_true rfl⟩) ⟨pu_blind, va_recv hK hPc (ci := 2) (q0 := 0) rfl rfl, pu_pre hK hPc⟩ rfl rfl hl.1 rfl (lv_room (Nat.le_of_ble_eq_true rfl)) dX3_wrong_28 ⟨Nat.le_of_ble_eq_true rfl, Nat.le_of_ble_eq_true rfl⟩) ?_
      refine lv_istore_n (lv' := [(2, .int ((-1))), (0, .ref ((ad 0))), (1, .int (nI 1))]) hx hb dX3_wrong_31 rfl hl (by decide) rfl (fun ls hl => ?_)
      refine lv_iload_n hx hb dX3_wrong_32 rfl (lv_at hl 0 rfl) ?_
      refine lv_iconst (v := (-1)) hx hb dX3_wrong_33 (by decide) ?_
      refine lv_icmp_ne (tgt := 39) hx hb dX3_wrong_34 (by decide) (fun c_34 => ?_) (fun c_34 => ?_)
      · exact absurd (by decide) c_34
      · skip
        refine lv_iconst (v := (-1)) hx hb dX3_wrong_37 (by decide) ?_
        have hP9 : va_P D vwCl (tdW κ T S ad bs sm pl r0 r1 tk vo du nd wt wx wb wn tp tn ts dn) H := hP
        have hD9 : va_D A (tdW κ T S ad bs sm pl r0 r1 tk vo du nd wt wx wb wn tp tn ts dn) := hD
        exact W.iret hx hb hr (fun t ht _ => ⟨⟨rfl, by rw [ht]; exact hP9, hD9⟩, hS.F ht⟩) hS.2.2 dX3_wrong_38 hlocks
    · exact absurd (by decide) c_14
  · exact absurd c_1 (by decide)

set_option maxHeartbeats 4000000 in
set_option maxRecDepth 100000 in
/-- wrong(1) -/
theorem c_wrong_1 (l : Launch) (D : va_G) (κ : Nat → ClassId) (sz : Nat) (T S : Nat) (ad : Nat → Nat) (bs sm pl r0 r1 : Nat → Int32) (tk vo : Int32) (du : Nat → Option Nat) (nd : Int32) (wt wx wb : Nat → Int32) (wn : Int32) (tp : Nat → Int32) (tn ts dn : Int32) (hT : T ≤ 12) (hS8 : S ≤ 8) (hpl : ∀ t, t < T → vp_in (pl t) (T + 2)) (u v : Nat) (hu : u < T) (hv : v < S) (hfw : fwS (iwF bs sm pl S) T S (nI (u * 8 + v))) : Met l yX3_wrong wsX3_wrong ({ frames := 4, cells := 0, slots := 0, locals := 94 }) (va_Pc [.ref ((ad 0)), .int (nI 1)] (mu_B D κ (tdW κ T S ad bs sm pl r0 r1 tk vo du nd wt wx wb wn tp tn ts dn) sz)) (mu_Q D (some (.int (nI u))) (tdW κ T S ad bs sm pl r0 r1 tk vo du nd wt wx wb wn tp tn ts dn) (va_A (tdW κ T S ad bs sm pl r0 r1 tk vo du nd wt wx wb wn tp tn ts dn) sz)) 0 0 (va_A (tdW κ T S ad bs sm pl r0 r1 tk vo du nd wt wx wb wn tp tn ts dn) sz) := by
  refine Met.ofW (cc := cX3_wrong) (maxL := 3) (ret := (some .int)) (by decide) rfl ?_
  intro p e s m args below meth c s₁ B hml hv
  obtain ⟨rfl, hsz, hP, hK, hD0⟩ := hv
  have hx := B.exec
  have hb := B.bytes
  have hr := B.returns
  have hts := atoms_spec (ws := wsX3_wrong) B.pre
  have hown : s.vm.findClass RX3 = some m.cls := findClass_of_methodNamed B.named
  have hlocks := B.notSynchronized
  subst hsz
  have hD := hD0.self (sz := s.heap.size)
  generalize hAe : va_A (tdW κ T S ad bs sm pl r0 r1 tk vo du nd wt wx wb wn tp tn ts dn) s.heap.size = A at hD ⊢
  have hA : ∀ q : Nat, s.heap.size ≤ q → A q := fun q h => by rw [← hAe]; exact Or.inr h
  refine W.gen (P := fun H locs => va_P D vwCl (tdW κ T S ad bs sm pl r0 r1 tk vo du nd wt wx wb wn tp tn ts dn) H ∧ va_S A s.heap H locs) (fun H locs h => ?_) ⟨hP, va_S.rf⟩
  clear hP
  obtain ⟨hP, hS⟩ := h
  have hl := lv_entry ([.ref ((ad 0)), .int (nI 1)]) (n := 3) (Nat.le_of_ble_eq_true rfl)
  rw [lg_entry_eq]
  generalize (lg_sl ([.ref ((ad 0)), .int (nI 1)]) ++ List.replicate (3 - (lg_sl ([.ref ((ad 0)), .int (nI 1)])).length) Slot.unset).toArray = ls at hl ⊢
  have hl : lv_has ls 3 [(0, .ref ((ad 0))), (1, .int (nI 1))] := hl
  refine lv_iload_n hx hb dX3_wrong_0 rfl (lv_at hl 1 rfl) ?_
  refine lv_if_ne (tgt := 12) hx hb dX3_wrong_1 (by decide) (fun c_1 => ?_) (fun c_1 => ?_)
  · skip
    refine lv_iload_n hx hb dX3_wrong_12 rfl (lv_at hl 1 rfl) ?_
    refine lv_iconst (v := nI 1) hx hb dX3_wrong_13 (by decide) ?_
    refine lv_icmp_eq (tgt := 24) hx hb dX3_wrong_14 (by decide) (fun c_14 => ?_) (fun c_14 => ?_)
    · skip
      refine lv_aload_n hx hb dX3_wrong_24 rfl (lv_at hl 0 rfl) ?_
      refine va_get (D := D) (ci := 4) (v := .ref ((ad 1))) (C := RX3) (T := TX3) (N := 8) hx hb hts (by decide +kernel) hown hK hP 0 rfl rfl 2 (by decide) (hts (.fieldLink RX3 25 "TrackDisk" "disk" "LTrackDisk$Surface;") (by decide +kernel)) (fun _ h9 => h9) rfl dX3_wrong_25 ?_
      have hPc := hP.sub (ws' := sfW κ T S (fun j => ad (j + 1)) bs sm pl r0 r1 tk vo) [1, 2, 3, 4, 5, 6] rfl
      refine pu_call (va_runV (As := []) (rest := []) ⟨hx, hb, hml, hown, hts⟩ (c_firstWrong l D κ T S (fun j => ad (j + 1)) bs sm pl r0 r1 tk vo hT hS8 hpl (nI (u * 8 + v)) hfw) (cwV 0 hts gX3_wrong_X1_firstWrong rfl rfl rfl (by decide +kernel) ⟨Nat.le_of_ble_eq_true rfl, Nat.le_of_ble_eq_true rfl⟩) ⟨pu_blind, va_recv hK hPc (ci := 2) (q0 := 0) rfl rfl, pu_pre hK hPc⟩ rfl rfl hl.1 rfl (lv_room (Nat.le_of_ble_eq_true rfl)) dX3_wrong_28 ⟨Nat.le_of_ble_eq_true rfl, Nat.le_of_ble_eq_true rfl⟩) ?_
      refine lv_istore_n (lv' := [(2, .int ((nI (u * 8 + v)))), (0, .ref ((ad 0))), (1, .int (nI 1))]) hx hb dX3_wrong_31 rfl hl (by decide) rfl (fun ls hl => ?_)
      refine lv_iload_n hx hb dX3_wrong_32 rfl (lv_at hl 0 rfl) ?_
      refine lv_iconst (v := (-1)) hx hb dX3_wrong_33 (by decide) ?_
      refine lv_icmp_ne (tgt := 39) hx hb dX3_wrong_34 (by decide) (fun c_34 => ?_) (fun c_34 => ?_)
      · skip
        refine lv_iload_n hx hb dX3_wrong_39 rfl (lv_at hl 2 rfl) ?_
        refine lv_iconst (v := nI 1) hx hb dX3_wrong_40 (by decide) ?_
        refine lv_icmp_ne (tgt := 51) hx hb dX3_wrong_41 (by decide) (fun c_41 => ?_) (fun c_41 => ?_)
        · exact absurd (by decide) c_41
        · skip
          refine lv_iload_n hx hb dX3_wrong_44 rfl (lv_at hl 0 rfl) ?_
          refine lv_bipush (v := nI 8) hx hb dX3_wrong_45 (by decide) ?_
          refine lv_idiv hx hb dX3_wrong_47 (by decide) ?_
          refine tp_i (y := nI u) (by rw [pk_div (by omega) (by omega) (by omega)]; congr 1; omega) ?_
          refine lv_goto (tgt := 55) hx hb dX3_wrong_48 (by decide) ?_
          have hP9 : va_P D vwCl (tdW κ T S ad bs sm pl r0 r1 tk vo du nd wt wx wb wn tp tn ts dn) H := hP
          have hD9 : va_D A (tdW κ T S ad bs sm pl r0 r1 tk vo du nd wt wx wb wn tp tn ts dn) := hD
          exact W.iret hx hb hr (fun t ht _ => ⟨⟨rfl, by rw [ht]; exact hP9, hD9⟩, hS.F ht⟩) hS.2.2 dX3_wrong_55 hlocks
      · exact absurd c_34 (nI_nm1 (by omega))
    · exact absurd (by decide) c_14
  · exact absurd c_1 (by decide)

set_option maxHeartbeats 4000000 in
set_option maxRecDepth 100000 in
/-- wrong(2): none -/
theorem c_wrong_n2 (l : Launch) (D : va_G) (κ : Nat → ClassId) (sz : Nat) (T S : Nat) (ad : Nat → Nat) (bs sm pl r0 r1 : Nat → Int32) (tk vo : Int32) (du : Nat → Option Nat) (nd : Int32) (wt wx wb : Nat → Int32) (wn : Int32) (tp : Nat → Int32) (tn ts dn : Int32) (hT : T ≤ 12) (hS8 : S ≤ 8) (hpl : ∀ t, t < T → vp_in (pl t) (T + 2)) (hfw : fwS (iwF bs sm pl S) T S (-1)) : Met l yX3_wrong wsX3_wrong ({ frames := 4, cells := 0, slots := 0, locals := 94 }) (va_Pc [.ref ((ad 0)), .int (nI 2)] (mu_B D κ (tdW κ T S ad bs sm pl r0 r1 tk vo du nd wt wx wb wn tp tn ts dn) sz)) (mu_Q D (some (.int ((-1)))) (tdW κ T S ad bs sm pl r0 r1 tk vo du nd wt wx wb wn tp tn ts dn) (va_A (tdW κ T S ad bs sm pl r0 r1 tk vo du nd wt wx wb wn tp tn ts dn) sz)) 0 0 (va_A (tdW κ T S ad bs sm pl r0 r1 tk vo du nd wt wx wb wn tp tn ts dn) sz) := by
  refine Met.ofW (cc := cX3_wrong) (maxL := 3) (ret := (some .int)) (by decide) rfl ?_
  intro p e s m args below meth c s₁ B hml hv
  obtain ⟨rfl, hsz, hP, hK, hD0⟩ := hv
  have hx := B.exec
  have hb := B.bytes
  have hr := B.returns
  have hts := atoms_spec (ws := wsX3_wrong) B.pre
  have hown : s.vm.findClass RX3 = some m.cls := findClass_of_methodNamed B.named
  have hlocks := B.notSynchronized
  subst hsz
  have hD := hD0.self (sz := s.heap.size)
  generalize hAe : va_A (tdW κ T S ad bs sm pl r0 r1 tk vo du nd wt wx wb wn tp tn ts dn) s.heap.size = A at hD ⊢
  have hA : ∀ q : Nat, s.heap.size ≤ q → A q := fun q h => by rw [← hAe]; exact Or.inr h
  refine W.gen (P := fun H locs => va_P D vwCl (tdW κ T S ad bs sm pl r0 r1 tk vo du nd wt wx wb wn tp tn ts dn) H ∧ va_S A s.heap H locs) (fun H locs h => ?_) ⟨hP, va_S.rf⟩
  clear hP
  obtain ⟨hP, hS⟩ := h
  have hl := lv_entry ([.ref ((ad 0)), .int (nI 2)]) (n := 3) (Nat.le_of_ble_eq_true rfl)
  rw [lg_entry_eq]
  generalize (lg_sl ([.ref ((ad 0)), .int (nI 2)]) ++ List.replicate (3 - (lg_sl ([.ref ((ad 0)), .int (nI 2)])).length) Slot.unset).toArray = ls at hl ⊢
  have hl : lv_has ls 3 [(0, .ref ((ad 0))), (1, .int (nI 2))] := hl
  refine lv_iload_n hx hb dX3_wrong_0 rfl (lv_at hl 1 rfl) ?_
  refine lv_if_ne (tgt := 12) hx hb dX3_wrong_1 (by decide) (fun c_1 => ?_) (fun c_1 => ?_)
  · skip
    refine lv_iload_n hx hb dX3_wrong_12 rfl (lv_at hl 1 rfl) ?_
    refine lv_iconst (v := nI 1) hx hb dX3_wrong_13 (by decide) ?_
    refine lv_icmp_eq (tgt := 24) hx hb dX3_wrong_14 (by decide) (fun c_14 => ?_) (fun c_14 => ?_)
    · exact absurd c_14 (by decide)
    · skip
      refine lv_iload_n hx hb dX3_wrong_17 rfl (lv_at hl 1 rfl) ?_
      refine lv_iconst (v := nI 2) hx hb dX3_wrong_18 (by decide) ?_
      refine lv_icmp_eq (tgt := 24) hx hb dX3_wrong_19 (by decide) (fun c_19 => ?_) (fun c_19 => ?_)
      · skip
        refine lv_aload_n hx hb dX3_wrong_24 rfl (lv_at hl 0 rfl) ?_
        refine va_get (D := D) (ci := 4) (v := .ref ((ad 1))) (C := RX3) (T := TX3) (N := 8) hx hb hts (by decide +kernel) hown hK hP 0 rfl rfl 2 (by decide) (hts (.fieldLink RX3 25 "TrackDisk" "disk" "LTrackDisk$Surface;") (by decide +kernel)) (fun _ h9 => h9) rfl dX3_wrong_25 ?_
        have hPc := hP.sub (ws' := sfW κ T S (fun j => ad (j + 1)) bs sm pl r0 r1 tk vo) [1, 2, 3, 4, 5, 6] rfl
        refine pu_call (va_runV (As := []) (rest := []) ⟨hx, hb, hml, hown, hts⟩ (c_firstWrong l D κ T S (fun j => ad (j + 1)) bs sm pl r0 r1 tk vo hT hS8 hpl (-1) hfw) (cwV 0 hts gX3_wrong_X1_firstWrong rfl rfl rfl (by decide +kernel) ⟨Nat.le_of_ble_eq_true rfl, Nat.le_of_ble_eq_true rfl⟩) ⟨pu_blind, va_recv hK hPc (ci := 2) (q0 := 0) rfl rfl, pu_pre hK hPc⟩ rfl rfl hl.1 rfl (lv_room (Nat.le_of_ble_eq_true rfl)) dX3_wrong_28 ⟨Nat.le_of_ble_eq_true rfl, Nat.le_of_ble_eq_true rfl⟩) ?_
        refine lv_istore_n (lv' := [(2, .int ((-1))), (0, .ref ((ad 0))), (1, .int (nI 2))]) hx hb dX3_wrong_31 rfl hl (by decide) rfl (fun ls hl => ?_)
        refine lv_iload_n hx hb dX3_wrong_32 rfl (lv_at hl 0 rfl) ?_
        refine lv_iconst (v := (-1)) hx hb dX3_wrong_33 (by decide) ?_
        refine lv_icmp_ne (tgt := 39) hx hb dX3_wrong_34 (by decide) (fun c_34 => ?_) (fun c_34 => ?_)
        · exact absurd (by decide) c_34
        · skip
          refine lv_iconst (v := (-1)) hx hb dX3_wrong_37 (by decide) ?_
          have hP9 : va_P D vwCl (tdW κ T S ad bs sm pl r0 r1 tk vo du nd wt wx wb wn tp tn ts dn) H := hP
          have hD9 : va_D A (tdW κ T S ad bs sm pl r0 r1 tk vo du nd wt wx wb wn tp tn ts dn) := hD
          exact W.iret hx hb hr (fun t ht _ => ⟨⟨rfl, by rw [ht]; exact hP9, hD9⟩, hS.F ht⟩) hS.2.2 dX3_wrong_38 hlocks
      · exact absurd (by decide) c_19
  · exact absurd c_1 (by decide)

set_option maxHeartbeats 4000000 in
set_option maxRecDepth 100000 in
/-- wrong(2) -/
theorem c_wrong_2 (l : Launch) (D : va_G) (κ : Nat → ClassId) (sz : Nat) (T S : Nat) (ad : Nat → Nat) (bs sm pl r0 r1 : Nat → Int32) (tk vo : Int32) (du : Nat → Option Nat) (nd : Int32) (wt wx wb : Nat → Int32) (wn : Int32) (tp : Nat → Int32) (tn ts dn : Int32) (hT : T ≤ 12) (hS8 : S ≤ 8) (hpl : ∀ t, t < T → vp_in (pl t) (T + 2)) (u v : Nat) (hu : u < T) (hv : v < S) (hfw : fwS (iwF bs sm pl S) T S (nI (u * 8 + v))) : Met l yX3_wrong wsX3_wrong ({ frames := 4, cells := 0, slots := 0, locals := 94 }) (va_Pc [.ref ((ad 0)), .int (nI 2)] (mu_B D κ (tdW κ T S ad bs sm pl r0 r1 tk vo du nd wt wx wb wn tp tn ts dn) sz)) (mu_Q D (some (.int (nI v))) (tdW κ T S ad bs sm pl r0 r1 tk vo du nd wt wx wb wn tp tn ts dn) (va_A (tdW κ T S ad bs sm pl r0 r1 tk vo du nd wt wx wb wn tp tn ts dn) sz)) 0 0 (va_A (tdW κ T S ad bs sm pl r0 r1 tk vo du nd wt wx wb wn tp tn ts dn) sz) := by
  refine Met.ofW (cc := cX3_wrong) (maxL := 3) (ret := (some .int)) (by decide) rfl ?_
  intro p e s m args below meth c s₁ B hml hv
  obtain ⟨rfl, hsz, hP, hK, hD0⟩ := hv
  have hx := B.exec
  have hb := B.bytes
  have hr := B.returns
  have hts := atoms_spec (ws := wsX3_wrong) B.pre
  have hown : s.vm.findClass RX3 = some m.cls := findClass_of_methodNamed B.named
  have hlocks := B.notSynchronized
  subst hsz
  have hD := hD0.self (sz := s.heap.size)
  generalize hAe : va_A (tdW κ T S ad bs sm pl r0 r1 tk vo du nd wt wx wb wn tp tn ts dn) s.heap.size = A at hD ⊢
  have hA : ∀ q : Nat, s.heap.size ≤ q → A q := fun q h => by rw [← hAe]; exact Or.inr h
  refine W.gen (P := fun H locs => va_P D vwCl (tdW κ T S ad bs sm pl r0 r1 tk vo du nd wt wx wb wn tp tn ts dn) H ∧ va_S A s.heap H locs) (fun H locs h => ?_) ⟨hP, va_S.rf⟩
  clear hP
  obtain ⟨hP, hS⟩ := h
  have hl := lv_entry ([.ref ((ad 0)), .int (nI 2)]) (n := 3) (Nat.le_of_ble_eq_true rfl)
  rw [lg_entry_eq]
  generalize (lg_sl ([.ref ((ad 0)), .int (nI 2)]) ++ List.replicate (3 - (lg_sl ([.ref ((ad 0)), .int (nI 2)])).length) Slot.unset).toArray = ls at hl ⊢
  have hl : lv_has ls 3 [(0, .ref ((ad 0))), (1, .int (nI 2))] := hl
  refine lv_iload_n hx hb dX3_wrong_0 rfl (lv_at hl 1 rfl) ?_
  refine lv_if_ne (tgt := 12) hx hb dX3_wrong_1 (by decide) (fun c_1 => ?_) (fun c_1 => ?_)
  · skip
    refine lv_iload_n hx hb dX3_wrong_12 rfl (lv_at hl 1 rfl) ?_
    refine lv_iconst (v := nI 1) hx hb dX3_wrong_13 (by decide) ?_
    refine lv_icmp_eq (tgt := 24) hx hb dX3_wrong_14 (by decide) (fun c_14 => ?_) (fun c_14 => ?_)
    · exact absurd c_14 (by decide)
    · skip
      refine lv_iload_n hx hb dX3_wrong_17 rfl (lv_at hl 1 rfl) ?_
      refine lv_iconst (v := nI 2) hx hb dX3_wrong_18 (by decide) ?_
      refine lv_icmp_eq (tgt := 24) hx hb dX3_wrong_19 (by decide) (fun c_19 => ?_) (fun c_19 => ?_)
      · skip
        refine lv_aload_n hx hb dX3_wrong_24 rfl (lv_at hl 0 rfl) ?_
        refine va_get (D := D) (ci := 4) (v := .ref ((ad 1))) (C := RX3) (T := TX3) (N := 8) hx hb hts (by decide +kernel) hown hK hP 0 rfl rfl 2 (by decide) (hts (.fieldLink RX3 25 "TrackDisk" "disk" "LTrackDisk$Surface;") (by decide +kernel)) (fun _ h9 => h9) rfl dX3_wrong_25 ?_
        have hPc := hP.sub (ws' := sfW κ T S (fun j => ad (j + 1)) bs sm pl r0 r1 tk vo) [1, 2, 3, 4, 5, 6] rfl
        refine pu_call (va_runV (As := []) (rest := []) ⟨hx, hb, hml, hown, hts⟩ (c_firstWrong l D κ T S (fun j => ad (j + 1)) bs sm pl r0 r1 tk vo hT hS8 hpl (nI (u * 8 + v)) hfw) (cwV 0 hts gX3_wrong_X1_firstWrong rfl rfl rfl (by decide +kernel) ⟨Nat.le_of_ble_eq_true rfl, Nat.le_of_ble_eq_true rfl⟩) ⟨pu_blind, va_recv hK hPc (ci := 2) (q0 := 0) rfl rfl, pu_pre hK hPc⟩ rfl rfl hl.1 rfl (lv_room (Nat.le_of_ble_eq_true rfl)) dX3_wrong_28 ⟨Nat.le_of_ble_eq_true rfl, Nat.le_of_ble_eq_true rfl⟩) ?_
        refine lv_istore_n (lv' := [(2, .int ((nI (u * 8 + v)))), (0, .ref ((ad 0))), (1, .int (nI 2))]) hx hb dX3_wrong_31 rfl hl (by decide) rfl (fun ls hl => ?_)
        refine lv_iload_n hx hb dX3_wrong_32 rfl (lv_at hl 0 rfl) ?_
        refine lv_iconst (v := (-1)) hx hb dX3_wrong_33 (by decide) ?_
        refine lv_icmp_ne (tgt := 39) hx hb dX3_wrong_34 (by decide) (fun c_34 => ?_) (fun c_34 => ?_)
        · skip
          refine lv_iload_n hx hb dX3_wrong_39 rfl (lv_at hl 2 rfl) ?_
          refine lv_iconst (v := nI 1) hx hb dX3_wrong_40 (by decide) ?_
          refine lv_icmp_ne (tgt := 51) hx hb dX3_wrong_41 (by decide) (fun c_41 => ?_) (fun c_41 => ?_)
          · skip
            refine lv_iload_n hx hb dX3_wrong_51 rfl (lv_at hl 0 rfl) ?_
            refine lv_bipush (v := nI 8) hx hb dX3_wrong_52 (by decide) ?_
            refine lv_irem hx hb dX3_wrong_54 (by decide) ?_
            refine tp_i (y := nI v) (by rw [pk_rem (by omega) (by omega) (by omega)]; congr 1; omega) ?_
            have hP9 : va_P D vwCl (tdW κ T S ad bs sm pl r0 r1 tk vo du nd wt wx wb wn tp tn ts dn) H := hP
            have hD9 : va_D A (tdW κ T S ad bs sm pl r0 r1 tk vo du nd wt wx wb wn tp tn ts dn) := hD
            exact W.iret hx hb hr (fun t ht _ => ⟨⟨rfl, by rw [ht]; exact hP9, hD9⟩, hS.F ht⟩) hS.2.2 dX3_wrong_55 hlocks
          · exact absurd c_41 (by decide)
        · exact absurd c_34 (nI_nm1 (by omega))
      · exact absurd (by decide) c_19
  · exact absurd c_1 (by decide)

set_option maxHeartbeats 4000000 in
set_option maxRecDepth 100000 in
/-- alternate: no such track -/
theorem c_alt_no (l : Launch) (D : va_G) (κ : Nat → ClassId) (sz : Nat) (T S : Nat) (ad : Nat → Nat) (bs sm pl r0 r1 : Nat → Int32) (tk vo : Int32) (du : Nat → Option Nat) (nd : Int32) (wt wx wb : Nat → Int32) (wn : Int32) (tp : Nat → Int32) (tn ts dn : Int32) (x : Int32) (hno : inF x T = false) : Met l yX3_alternate wsX3_alternate ({ frames := 4, cells := 0, slots := 0, locals := 92 }) (va_Pc [.ref ((ad 0)), .int x] (mu_B D κ (tdW κ T S ad bs sm pl r0 r1 tk vo du nd wt wx wb wn tp tn ts dn) sz)) (mu_Q D (some (.int ((-2)))) (tdW κ T S ad bs sm pl r0 r1 tk vo du nd wt wx wb wn tp tn ts dn) (va_A (tdW κ T S ad bs sm pl r0 r1 tk vo du nd wt wx wb wn tp tn ts dn) sz)) 0 0 (va_A (tdW κ T S ad bs sm pl r0 r1 tk vo du nd wt wx wb wn tp tn ts dn) sz) := by
  refine Met.ofW (cc := cX3_alternate) (maxL := 2) (ret := (some .int)) (by decide) rfl ?_
  intro p e s m args below meth c s₁ B hml hv
  obtain ⟨rfl, hsz, hP, hK, hD0⟩ := hv
  have hx := B.exec
  have hb := B.bytes
  have hr := B.returns
  have hts := atoms_spec (ws := wsX3_alternate) B.pre
  have hown : s.vm.findClass RX3 = some m.cls := findClass_of_methodNamed B.named
  have hlocks := B.notSynchronized
  subst hsz
  have hD := hD0.self (sz := s.heap.size)
  generalize hAe : va_A (tdW κ T S ad bs sm pl r0 r1 tk vo du nd wt wx wb wn tp tn ts dn) s.heap.size = A at hD ⊢
  have hA : ∀ q : Nat, s.heap.size ≤ q → A q := fun q h => by rw [← hAe]; exact Or.inr h
  refine W.gen (P := fun H locs => va_P D vwCl (tdW κ T S ad bs sm pl r0 r1 tk vo du nd wt wx wb wn tp tn ts dn) H ∧ va_S A s.heap H locs) (fun H locs h => ?_) ⟨hP, va_S.rf⟩
  clear hP
  obtain ⟨hP, hS⟩ := h
  have hl := lv_entry ([.ref ((ad 0)), .int x]) (n := 2) (Nat.le_of_ble_eq_true rfl)
  rw [lg_entry_eq]
  generalize (lg_sl ([.ref ((ad 0)), .int x]) ++ List.replicate (2 - (lg_sl ([.ref ((ad 0)), .int x])).length) Slot.unset).toArray = ls at hl ⊢
  have hl : lv_has ls 2 [(0, .ref ((ad 0))), (1, .int x)] := hl
  refine lv_aload_n hx hb dX3_alternate_0 rfl (lv_at hl 0 rfl) ?_
  refine lv_iload_n hx hb dX3_alternate_1 rfl (lv_at hl 1 rfl) ?_
  have hPc := hP.sub (ws' := tdW κ T S ad bs sm pl r0 r1 tk vo du nd wt wx wb wn tp tn ts dn) [0, 1, 2, 3, 4, 5, 6, 7, 8, 9, 10, 11, 12, 13] rfl
  refine pu_call (va_runV (As := [.int x]) (rest := []) ⟨hx, hb, hml, hown, hts⟩ (c_hasTrack l D κ T S ad bs sm pl r0 r1 tk vo du nd wt wx wb wn tp tn ts dn x) (cwV 1 hts gX3_alternate_X3_hasTrack rfl rfl rfl (by decide +kernel) ⟨Nat.le_of_ble_eq_true rfl, Nat.le_of_ble_eq_true rfl⟩) ⟨pu_blind, va_recv hK hPc (ci := 4) (q0 := 0) rfl rfl, pu_pre hK hPc⟩ rfl rfl hl.1 rfl (lv_room (Nat.le_of_ble_eq_true rfl)) dX3_alternate_2 ⟨Nat.le_of_ble_eq_true rfl, Nat.le_of_ble_eq_true rfl⟩) ?_
  refine lv_if_ne (tgt := 11) hx hb dX3_alternate_5 (by decide) (fun c_5 => ?_) (fun c_5 => ?_)
  · exact (bI_cf hno c_5).elim
  · skip
    refine lv_bipush (v := (-2)) hx hb dX3_alternate_8 (by decide) ?_
    have hP9 : va_P D vwCl (tdW κ T S ad bs sm pl r0 r1 tk vo du nd wt wx wb wn tp tn ts dn) H := hP
    have hD9 : va_D A (tdW κ T S ad bs sm pl r0 r1 tk vo du nd wt wx wb wn tp tn ts dn) := hD
    exact W.iret hx hb hr (fun t ht _ => ⟨⟨rfl, by rw [ht]; exact hP9, hD9⟩, hS.F ht⟩) hS.2.2 dX3_alternate_10 hlocks

set_option maxHeartbeats 4000000 in
set_option maxRecDepth 100000 in
/-- alternate: down -/
theorem c_alt_down (l : Launch) (D : va_G) (κ : Nat → ClassId) (sz : Nat) (T S : Nat) (ad : Nat → Nat) (bs sm pl r0 r1 : Nat → Int32) (tk vo : Int32) (du : Nat → Option Nat) (nd : Int32) (wt wx wb : Nat → Int32) (wn : Int32) (tp : Nat → Int32) (tn ts : Int32)  (hT : T ≤ 12) (hS8 : S ≤ 8) (t : Nat) (ht : t < T)  : Met l yX3_alternate wsX3_alternate ({ frames := 4, cells := 0, slots := 0, locals := 92 }) (va_Pc [.ref ((ad 0)), .int (nI t)] (mu_B D κ (tdW κ T S ad bs sm pl r0 r1 tk vo du nd wt wx wb wn tp tn ts (nI 1)) sz)) (mu_Q D (some (.int ((-5)))) (tdW κ T S ad bs sm pl r0 r1 tk vo du nd wt wx wb wn tp tn ts (nI 1)) (va_A (tdW κ T S ad bs sm pl r0 r1 tk vo du nd wt wx wb wn tp tn ts (nI 1)) sz)) 0 0 (va_A (tdW κ T S ad bs sm pl r0 r1 tk vo du nd wt wx wb wn tp tn ts (nI 1)) sz) := by
  refine Met.ofW (cc := cX3_alternate) (maxL := 2) (ret := (some .int)) (by decide) rfl ?_
  intro p e s m args below meth c s₁ B hml hv
  obtain ⟨rfl, hsz, hP, hK, hD0⟩ := hv
  have hx := B.exec
  have hb := B.bytes
  have hr := B.returns
  have hts := atoms_spec (ws := wsX3_alternate) B.pre
  have hown : s.vm.findClass RX3 = some m.cls := findClass_of_methodNamed B.named
  have hlocks := B.notSynchronized
  subst hsz
  have hD := hD0.self (sz := s.heap.size)
  generalize hAe : va_A (tdW κ T S ad bs sm pl r0 r1 tk vo du nd wt wx wb wn tp tn ts (nI 1)) s.heap.size = A at hD ⊢
  have hA : ∀ q : Nat, s.heap.size ≤ q → A q := fun q h => by rw [← hAe]; exact Or.inr h
  refine W.gen (P := fun H locs => va_P D vwCl (tdW κ T S ad bs sm pl r0 r1 tk vo du nd wt wx wb wn tp tn ts (nI 1)) H ∧ va_S A s.heap H locs) (fun H locs h => ?_) ⟨hP, va_S.rf⟩
  clear hP
  obtain ⟨hP, hS⟩ := h
  have hl := lv_entry ([.ref ((ad 0)), .int (nI t)]) (n := 2) (Nat.le_of_ble_eq_true rfl)
  rw [lg_entry_eq]
  generalize (lg_sl ([.ref ((ad 0)), .int (nI t)]) ++ List.replicate (2 - (lg_sl ([.ref ((ad 0)), .int (nI t)])).length) Slot.unset).toArray = ls at hl ⊢
  have hl : lv_has ls 2 [(0, .ref ((ad 0))), (1, .int (nI t))] := hl
  refine lv_aload_n hx hb dX3_alternate_0 rfl (lv_at hl 0 rfl) ?_
  refine lv_iload_n hx hb dX3_alternate_1 rfl (lv_at hl 1 rfl) ?_
  have hPc := hP.sub (ws' := tdW κ T S ad bs sm pl r0 r1 tk vo du nd wt wx wb wn tp tn ts (nI 1)) [0, 1, 2, 3, 4, 5, 6, 7, 8, 9, 10, 11, 12, 13] rfl
  refine pu_call (va_runV (As := [.int (nI t)]) (rest := []) ⟨hx, hb, hml, hown, hts⟩ (c_hasTrack l D κ T S ad bs sm pl r0 r1 tk vo du nd wt wx wb wn tp tn ts (nI 1) (nI t)) (cwV 1 hts gX3_alternate_X3_hasTrack rfl rfl rfl (by decide +kernel) ⟨Nat.le_of_ble_eq_true rfl, Nat.le_of_ble_eq_true rfl⟩) ⟨pu_blind, va_recv hK hPc (ci := 4) (q0 := 0) rfl rfl, pu_pre hK hPc⟩ rfl rfl hl.1 rfl (lv_room (Nat.le_of_ble_eq_true rfl)) dX3_alternate_2 ⟨Nat.le_of_ble_eq_true rfl, Nat.le_of_ble_eq_true rfl⟩) ?_
  refine lv_if_ne (tgt := 11) hx hb dX3_alternate_5 (by decide) (fun c_5 => ?_) (fun c_5 => ?_)
  · skip
    refine lv_aload_n hx hb dX3_alternate_11 rfl (lv_at hl 0 rfl) ?_
    refine va_get (D := D) (ci := 4) (v := .int (nI 1)) (C := RX3) (T := TX3) (N := 8) hx hb hts (by decide +kernel) hown hK hP 0 rfl rfl 7 (by decide) (hts (.fieldLink RX3 50 "TrackDisk" "down" "Z") (by decide +kernel)) (fun _ h9 => h9) rfl dX3_alternate_12 ?_
    refine lv_if_eq (tgt := 21) hx hb dX3_alternate_15 (by decide) (fun c_15 => ?_) (fun c_15 => ?_)
    · exact absurd c_15 (by decide)
    · skip
      refine lv_bipush (v := (-5)) hx hb dX3_alternate_18 (by decide) ?_
      have hP9 : va_P D vwCl (tdW κ T S ad bs sm pl r0 r1 tk vo du nd wt wx wb wn tp tn ts (nI 1)) H := hP
      have hD9 : va_D A (tdW κ T S ad bs sm pl r0 r1 tk vo du nd wt wx wb wn tp tn ts (nI 1)) := hD
      exact W.iret hx hb hr (fun t ht _ => ⟨⟨rfl, by rw [ht]; exact hP9, hD9⟩, hS.F ht⟩) hS.2.2 dX3_alternate_20 hlocks
  · exact (bI_ct (inF_nI ht (by omega)) c_5).elim

set_option maxHeartbeats 4000000 in
set_option maxRecDepth 100000 in
/-- alternate: sent -/
theorem c_alt_sent (l : Launch) (D : va_G) (κ : Nat → ClassId) (sz : Nat) (T S : Nat) (ad : Nat → Nat) (bs sm pl r0 r1 : Nat → Int32) (tk vo : Int32) (du : Nat → Option Nat) (nd : Int32) (wt wx wb : Nat → Int32) (wn : Int32) (tp : Nat → Int32) (tn ts : Int32)  (hT : T ≤ 12) (hS8 : S ≤ 8) (hpl : ∀ t, t < T → vp_in (pl t) (T + 2)) (t : Nat) (ht : t < T) (hse : isF pl T t = true) : Met l yX3_alternate wsX3_alternate ({ frames := 4, cells := 0, slots := 0, locals := 92 }) (va_Pc [.ref ((ad 0)), .int (nI t)] (mu_B D κ (tdW κ T S ad bs sm pl r0 r1 tk vo du nd wt wx wb wn tp tn ts (nI 0)) sz)) (mu_Q D (some (.int (nI 0))) (tdW κ T S ad bs sm pl r0 r1 tk vo du nd wt wx wb wn tp tn ts (nI 0)) (va_A (tdW κ T S ad bs sm pl r0 r1 tk vo du nd wt wx wb wn tp tn ts (nI 0)) sz)) 0 0 (va_A (tdW κ T S ad bs sm pl r0 r1 tk vo du nd wt wx wb wn tp tn ts (nI 0)) sz) := by
  refine Met.ofW (cc := cX3_alternate) (maxL := 2) (ret := (some .int)) (by decide) rfl ?_
  intro p e s m args below meth c s₁ B hml hv
  obtain ⟨rfl, hsz, hP, hK, hD0⟩ := hv
  have hx := B.exec
  have hb := B.bytes
  have hr := B.returns
  have hts := atoms_spec (ws := wsX3_alternate) B.pre
  have hown : s.vm.findClass RX3 = some m.cls := findClass_of_methodNamed B.named
  have hlocks := B.notSynchronized
  subst hsz
  have hD := hD0.self (sz := s.heap.size)
  generalize hAe : va_A (tdW κ T S ad bs sm pl r0 r1 tk vo du nd wt wx wb wn tp tn ts (nI 0)) s.heap.size = A at hD ⊢
  have hA : ∀ q : Nat, s.heap.size ≤ q → A q := fun q h => by rw [← hAe]; exact Or.inr h
  refine W.gen (P := fun H locs => va_P D vwCl (tdW κ T S ad bs sm pl r0 r1 tk vo du nd wt wx wb wn tp tn ts (nI 0)) H ∧ va_S A s.heap H locs) (fun H locs h => ?_) ⟨hP, va_S.rf⟩
  clear hP
  obtain ⟨hP, hS⟩ := h
  have hl := lv_entry ([.ref ((ad 0)), .int (nI t)]) (n := 2) (Nat.le_of_ble_eq_true rfl)
  rw [lg_entry_eq]
  generalize (lg_sl ([.ref ((ad 0)), .int (nI t)]) ++ List.replicate (2 - (lg_sl ([.ref ((ad 0)), .int (nI t)])).length) Slot.unset).toArray = ls at hl ⊢
  have hl : lv_has ls 2 [(0, .ref ((ad 0))), (1, .int (nI t))] := hl
  refine lv_aload_n hx hb dX3_alternate_0 rfl (lv_at hl 0 rfl) ?_
  refine lv_iload_n hx hb dX3_alternate_1 rfl (lv_at hl 1 rfl) ?_
  have hPc := hP.sub (ws' := tdW κ T S ad bs sm pl r0 r1 tk vo du nd wt wx wb wn tp tn ts (nI 0)) [0, 1, 2, 3, 4, 5, 6, 7, 8, 9, 10, 11, 12, 13] rfl
  refine pu_call (va_runV (As := [.int (nI t)]) (rest := []) ⟨hx, hb, hml, hown, hts⟩ (c_hasTrack l D κ T S ad bs sm pl r0 r1 tk vo du nd wt wx wb wn tp tn ts (nI 0) (nI t)) (cwV 1 hts gX3_alternate_X3_hasTrack rfl rfl rfl (by decide +kernel) ⟨Nat.le_of_ble_eq_true rfl, Nat.le_of_ble_eq_true rfl⟩) ⟨pu_blind, va_recv hK hPc (ci := 4) (q0 := 0) rfl rfl, pu_pre hK hPc⟩ rfl rfl hl.1 rfl (lv_room (Nat.le_of_ble_eq_true rfl)) dX3_alternate_2 ⟨Nat.le_of_ble_eq_true rfl, Nat.le_of_ble_eq_true rfl⟩) ?_
  refine lv_if_ne (tgt := 11) hx hb dX3_alternate_5 (by decide) (fun c_5 => ?_) (fun c_5 => ?_)
  · skip
    refine lv_aload_n hx hb dX3_alternate_11 rfl (lv_at hl 0 rfl) ?_
    refine va_get (D := D) (ci := 4) (v := .int (nI 0)) (C := RX3) (T := TX3) (N := 8) hx hb hts (by decide +kernel) hown hK hP 0 rfl rfl 7 (by decide) (hts (.fieldLink RX3 50 "TrackDisk" "down" "Z") (by decide +kernel)) (fun _ h9 => h9) rfl dX3_alternate_12 ?_
    refine lv_if_eq (tgt := 21) hx hb dX3_alternate_15 (by decide) (fun c_15 => ?_) (fun c_15 => ?_)
    · skip
      refine lv_aload_n hx hb dX3_alternate_21 rfl (lv_at hl 0 rfl) ?_
      refine va_get (D := D) (ci := 4) (v := .ref ((ad 1))) (C := RX3) (T := TX3) (N := 8) hx hb hts (by decide +kernel) hown hK hP 0 rfl rfl 2 (by decide) (hts (.fieldLink RX3 25 "TrackDisk" "disk" "LTrackDisk$Surface;") (by decide +kernel)) (fun _ h9 => h9) rfl dX3_alternate_22 ?_
      refine lv_iload_n hx hb dX3_alternate_25 rfl (lv_at hl 1 rfl) ?_
      have hPc := hP.sub (ws' := sfW κ T S (fun j => ad (j + 1)) bs sm pl r0 r1 tk vo) [1, 2, 3, 4, 5, 6] rfl
      refine pu_call (va_runV (As := [.int (nI t)]) (rest := []) ⟨hx, hb, hml, hown, hts⟩ (c_isSent l D κ T S (fun j => ad (j + 1)) bs sm pl r0 r1 tk vo hT hS8 hpl t ht) (cwV 1 hts gX3_alternate_X1_isSent rfl rfl rfl (by decide +kernel) ⟨Nat.le_of_ble_eq_true rfl, Nat.le_of_ble_eq_true rfl⟩) ⟨pu_blind, va_recv hK hPc (ci := 2) (q0 := 0) rfl rfl, pu_pre hK hPc⟩ rfl rfl hl.1 rfl (lv_room (Nat.le_of_ble_eq_true rfl)) dX3_alternate_26 ⟨Nat.le_of_ble_eq_true rfl, Nat.le_of_ble_eq_true rfl⟩) ?_
      refine lv_if_ne (tgt := 43) hx hb dX3_alternate_29 (by decide) (fun c_29 => ?_) (fun c_29 => ?_)
      · skip
        refine lv_iconst (v := nI 0) hx hb dX3_alternate_43 (by decide) ?_
        have hP9 : va_P D vwCl (tdW κ T S ad bs sm pl r0 r1 tk vo du nd wt wx wb wn tp tn ts (nI 0)) H := hP
        have hD9 : va_D A (tdW κ T S ad bs sm pl r0 r1 tk vo du nd wt wx wb wn tp tn ts (nI 0)) := hD
        exact W.iret hx hb hr (fun t ht _ => ⟨⟨rfl, by rw [ht]; exact hP9, hD9⟩, hS.F ht⟩) hS.2.2 dX3_alternate_44 hlocks
      · exact (bI_ct hse c_29).elim
    · exact absurd (by decide) c_15
  · exact (bI_ct (inF_nI ht (by omega)) c_5).elim

set_option maxHeartbeats 4000000 in
set_option maxRecDepth 100000 in
/-- alternate: none free -/
theorem c_alt_full (l : Launch) (D : va_G) (κ : Nat → ClassId) (sz : Nat) (T S : Nat) (ad : Nat → Nat) (bs sm pl r0 r1 : Nat → Int32) ( vo : Int32) (du : Nat → Option Nat) (nd : Int32) (wt wx wb : Nat → Int32) (wn : Int32) (tp : Nat → Int32) (tn ts : Int32)  (hT : T ≤ 12) (hS8 : S ≤ 8) (hpl : ∀ t, t < T → vp_in (pl t) (T + 2)) (t : Nat) (ht : t < T) (hse : isF pl T t = false) : Met l yX3_alternate wsX3_alternate ({ frames := 4, cells := 0, slots := 0, locals := 92 }) (va_Pc [.ref ((ad 0)), .int (nI t)] (mu_B D κ (tdW κ T S ad bs sm pl r0 r1 (nI 2) vo du nd wt wx wb wn tp tn ts (nI 0)) sz)) (mu_Q D (some (.int (nI 0))) (tdW κ T S ad bs sm pl r0 r1 (nI 2) vo du nd wt wx wb wn tp tn ts (nI 0)) (va_A (tdW κ T S ad bs sm pl r0 r1 (nI 2) vo du nd wt wx wb wn tp tn ts (nI 0)) sz)) 0 0 (va_A (tdW κ T S ad bs sm pl r0 r1 (nI 2) vo du nd wt wx wb wn tp tn ts (nI 0)) sz) := by
  refine Met.ofW (cc := cX3_alternate) (maxL := 2) (ret := (some .int)) (by decide) rfl ?_
  intro p e s m args below meth c s₁ B hml hv
  obtain ⟨rfl, hsz, hP, hK, hD0⟩ := hv
  have hx := B.exec
  have hb := B.bytes
  have hr := B.returns
  have hts := atoms_spec (ws := wsX3_alternate) B.pre
  have hown : s.vm.findClass RX3 = some m.cls := findClass_of_methodNamed B.named
  have hlocks := B.notSynchronized
  subst hsz
  have hD := hD0.self (sz := s.heap.size)
  generalize hAe : va_A (tdW κ T S ad bs sm pl r0 r1 (nI 2) vo du nd wt wx wb wn tp tn ts (nI 0)) s.heap.size = A at hD ⊢
  have hA : ∀ q : Nat, s.heap.size ≤ q → A q := fun q h => by rw [← hAe]; exact Or.inr h
  refine W.gen (P := fun H locs => va_P D vwCl (tdW κ T S ad bs sm pl r0 r1 (nI 2) vo du nd wt wx wb wn tp tn ts (nI 0)) H ∧ va_S A s.heap H locs) (fun H locs h => ?_) ⟨hP, va_S.rf⟩
  clear hP
  obtain ⟨hP, hS⟩ := h
  have hl := lv_entry ([.ref ((ad 0)), .int (nI t)]) (n := 2) (Nat.le_of_ble_eq_true rfl)
  rw [lg_entry_eq]
  generalize (lg_sl ([.ref ((ad 0)), .int (nI t)]) ++ List.replicate (2 - (lg_sl ([.ref ((ad 0)), .int (nI t)])).length) Slot.unset).toArray = ls at hl ⊢
  have hl : lv_has ls 2 [(0, .ref ((ad 0))), (1, .int (nI t))] := hl
  refine lv_aload_n hx hb dX3_alternate_0 rfl (lv_at hl 0 rfl) ?_
  refine lv_iload_n hx hb dX3_alternate_1 rfl (lv_at hl 1 rfl) ?_
  have hPc := hP.sub (ws' := tdW κ T S ad bs sm pl r0 r1 (nI 2) vo du nd wt wx wb wn tp tn ts (nI 0)) [0, 1, 2, 3, 4, 5, 6, 7, 8, 9, 10, 11, 12, 13] rfl
  refine pu_call (va_runV (As := [.int (nI t)]) (rest := []) ⟨hx, hb, hml, hown, hts⟩ (c_hasTrack l D κ T S ad bs sm pl r0 r1 (nI 2) vo du nd wt wx wb wn tp tn ts (nI 0) (nI t)) (cwV 1 hts gX3_alternate_X3_hasTrack rfl rfl rfl (by decide +kernel) ⟨Nat.le_of_ble_eq_true rfl, Nat.le_of_ble_eq_true rfl⟩) ⟨pu_blind, va_recv hK hPc (ci := 4) (q0 := 0) rfl rfl, pu_pre hK hPc⟩ rfl rfl hl.1 rfl (lv_room (Nat.le_of_ble_eq_true rfl)) dX3_alternate_2 ⟨Nat.le_of_ble_eq_true rfl, Nat.le_of_ble_eq_true rfl⟩) ?_
  refine lv_if_ne (tgt := 11) hx hb dX3_alternate_5 (by decide) (fun c_5 => ?_) (fun c_5 => ?_)
  · skip
    refine lv_aload_n hx hb dX3_alternate_11 rfl (lv_at hl 0 rfl) ?_
    refine va_get (D := D) (ci := 4) (v := .int (nI 0)) (C := RX3) (T := TX3) (N := 8) hx hb hts (by decide +kernel) hown hK hP 0 rfl rfl 7 (by decide) (hts (.fieldLink RX3 50 "TrackDisk" "down" "Z") (by decide +kernel)) (fun _ h9 => h9) rfl dX3_alternate_12 ?_
    refine lv_if_eq (tgt := 21) hx hb dX3_alternate_15 (by decide) (fun c_15 => ?_) (fun c_15 => ?_)
    · skip
      refine lv_aload_n hx hb dX3_alternate_21 rfl (lv_at hl 0 rfl) ?_
      refine va_get (D := D) (ci := 4) (v := .ref ((ad 1))) (C := RX3) (T := TX3) (N := 8) hx hb hts (by decide +kernel) hown hK hP 0 rfl rfl 2 (by decide) (hts (.fieldLink RX3 25 "TrackDisk" "disk" "LTrackDisk$Surface;") (by decide +kernel)) (fun _ h9 => h9) rfl dX3_alternate_22 ?_
      refine lv_iload_n hx hb dX3_alternate_25 rfl (lv_at hl 1 rfl) ?_
      have hPc := hP.sub (ws' := sfW κ T S (fun j => ad (j + 1)) bs sm pl r0 r1 (nI 2) vo) [1, 2, 3, 4, 5, 6] rfl
      refine pu_call (va_runV (As := [.int (nI t)]) (rest := []) ⟨hx, hb, hml, hown, hts⟩ (c_isSent l D κ T S (fun j => ad (j + 1)) bs sm pl r0 r1 (nI 2) vo hT hS8 hpl t ht) (cwV 1 hts gX3_alternate_X1_isSent rfl rfl rfl (by decide +kernel) ⟨Nat.le_of_ble_eq_true rfl, Nat.le_of_ble_eq_true rfl⟩) ⟨pu_blind, va_recv hK hPc (ci := 2) (q0 := 0) rfl rfl, pu_pre hK hPc⟩ rfl rfl hl.1 rfl (lv_room (Nat.le_of_ble_eq_true rfl)) dX3_alternate_26 ⟨Nat.le_of_ble_eq_true rfl, Nat.le_of_ble_eq_true rfl⟩) ?_
      refine lv_if_ne (tgt := 43) hx hb dX3_alternate_29 (by decide) (fun c_29 => ?_) (fun c_29 => ?_)
      · exact (bI_cf hse c_29).elim
      · skip
        refine lv_aload_n hx hb dX3_alternate_32 rfl (lv_at hl 0 rfl) ?_
        refine va_get (D := D) (ci := 4) (v := .ref ((ad 1))) (C := RX3) (T := TX3) (N := 8) hx hb hts (by decide +kernel) hown hK hP 0 rfl rfl 2 (by decide) (hts (.fieldLink RX3 25 "TrackDisk" "disk" "LTrackDisk$Surface;") (by decide +kernel)) (fun _ h9 => h9) rfl dX3_alternate_33 ?_
        refine va_get (D := D) (ci := 2) (v := .int (nI 2)) (C := RX1) (T := TX1) (N := 9) hx hb hts (by decide +kernel) hown hK hP 1 rfl rfl 7 (by decide) (hts (.fieldLink RX3 127 "TrackDisk$Surface" "taken" "I") (by decide +kernel)) (fun _ h9 => h9) rfl dX3_alternate_36 ?_
        refine lv_iconst (v := nI 2) hx hb dX3_alternate_39 (by decide) ?_
        refine lv_icmp_lt (tgt := 45) hx hb dX3_alternate_40 (by decide) (fun c_40 => ?_) (fun c_40 => ?_)
        · exact absurd c_40 (by decide)
        · skip
          refine lv_iconst (v := nI 0) hx hb dX3_alternate_43 (by decide) ?_
          have hP9 : va_P D vwCl (tdW κ T S ad bs sm pl r0 r1 (nI 2) vo du nd wt wx wb wn tp tn ts (nI 0)) H := hP
          have hD9 : va_D A (tdW κ T S ad bs sm pl r0 r1 (nI 2) vo du nd wt wx wb wn tp tn ts (nI 0)) := hD
          exact W.iret hx hb hr (fun t ht _ => ⟨⟨rfl, by rw [ht]; exact hP9, hD9⟩, hS.F ht⟩) hS.2.2 dX3_alternate_44 hlocks
    · exact absurd (by decide) c_15
  · exact (bI_ct (inF_nI ht (by omega)) c_5).elim

set_option maxHeartbeats 4000000 in
set_option maxRecDepth 100000 in
/-- alternate -/
theorem c_alt (l : Launch) (D : va_G) (κ : Nat → ClassId) (sz : Nat) (T S : Nat) (ad : Nat → Nat) (bs sm pl r0 r1 : Nat → Int32) ( vo : Int32) (du : Nat → Option Nat) (nd : Int32) (wt wx wb : Nat → Int32) (wn : Int32) (tp : Nat → Int32) (tn ts : Int32)  (hT : T ≤ 12) (hS8 : S ≤ 8) (hpl : ∀ t, t < T → vp_in (pl t) (T + 2)) (t : Nat) (ht : t < T) (hse : isF pl T t = false) (k0 : Nat) (hk0 : k0 < 2) (hft : sb_Fit bs) : Met l yX3_alternate wsX3_alternate ({ frames := 4, cells := 0, slots := 0, locals := 92 }) (va_Pc [.ref ((ad 0)), .int (nI t)] (mu_B D κ (tdW κ T S ad bs sm pl r0 r1 (nI k0) vo du nd wt wx wb wn tp tn ts (nI 0)) sz)) (mu_Q D (some (.int (nI (T + k0)))) (tdW κ T S ad (va_cpy bs bs ((cl (pl t) * S + 0) * 16) (((T + k0) * S + 0) * 16) (S * 16)) (ssF (va_cpy bs bs ((cl (pl t) * S + 0) * 16) (((T + k0) * S + 0) * 16) (S * 16)) sm S (T + k0) S) (upd pl t (nI (T + k0))) r0 r1 (nI (k0 + 1)) vo du nd wt wx wb wn tp tn ts (nI 0)) (va_A (tdW κ T S ad bs sm pl r0 r1 (nI k0) vo du nd wt wx wb wn tp tn ts (nI 0)) sz)) 0 0 (va_A (tdW κ T S ad bs sm pl r0 r1 (nI k0) vo du nd wt wx wb wn tp tn ts (nI 0)) sz) := by
  refine Met.ofW (cc := cX3_alternate) (maxL := 2) (ret := (some .int)) (by decide) rfl ?_
  intro p e s m args below meth c s₁ B hml hv
  obtain ⟨rfl, hsz, hP, hK, hD0⟩ := hv
  have hx := B.exec
  have hb := B.bytes
  have hr := B.returns
  have hts := atoms_spec (ws := wsX3_alternate) B.pre
  have hown : s.vm.findClass RX3 = some m.cls := findClass_of_methodNamed B.named
  have hlocks := B.notSynchronized
  subst hsz
  have hD := hD0.self (sz := s.heap.size)
  generalize hAe : va_A (tdW κ T S ad bs sm pl r0 r1 (nI k0) vo du nd wt wx wb wn tp tn ts (nI 0)) s.heap.size = A at hD ⊢
  have hA : ∀ q : Nat, s.heap.size ≤ q → A q := fun q h => by rw [← hAe]; exact Or.inr h
  refine W.gen (P := fun H locs => va_P D vwCl (tdW κ T S ad bs sm pl r0 r1 (nI k0) vo du nd wt wx wb wn tp tn ts (nI 0)) H ∧ va_S A s.heap H locs) (fun H locs h => ?_) ⟨hP, va_S.rf⟩
  clear hP
  obtain ⟨hP, hS⟩ := h
  have hl := lv_entry ([.ref ((ad 0)), .int (nI t)]) (n := 2) (Nat.le_of_ble_eq_true rfl)
  rw [lg_entry_eq]
  generalize (lg_sl ([.ref ((ad 0)), .int (nI t)]) ++ List.replicate (2 - (lg_sl ([.ref ((ad 0)), .int (nI t)])).length) Slot.unset).toArray = ls at hl ⊢
  have hl : lv_has ls 2 [(0, .ref ((ad 0))), (1, .int (nI t))] := hl
  refine lv_aload_n hx hb dX3_alternate_0 rfl (lv_at hl 0 rfl) ?_
  refine lv_iload_n hx hb dX3_alternate_1 rfl (lv_at hl 1 rfl) ?_
  have hPc := hP.sub (ws' := tdW κ T S ad bs sm pl r0 r1 (nI k0) vo du nd wt wx wb wn tp tn ts (nI 0)) [0, 1, 2, 3, 4, 5, 6, 7, 8, 9, 10, 11, 12, 13] rfl
  refine pu_call (va_runV (As := [.int (nI t)]) (rest := []) ⟨hx, hb, hml, hown, hts⟩ (c_hasTrack l D κ T S ad bs sm pl r0 r1 (nI k0) vo du nd wt wx wb wn tp tn ts (nI 0) (nI t)) (cwV 1 hts gX3_alternate_X3_hasTrack rfl rfl rfl (by decide +kernel) ⟨Nat.le_of_ble_eq_true rfl, Nat.le_of_ble_eq_true rfl⟩) ⟨pu_blind, va_recv hK hPc (ci := 4) (q0 := 0) rfl rfl, pu_pre hK hPc⟩ rfl rfl hl.1 rfl (lv_room (Nat.le_of_ble_eq_true rfl)) dX3_alternate_2 ⟨Nat.le_of_ble_eq_true rfl, Nat.le_of_ble_eq_true rfl⟩) ?_
  refine lv_if_ne (tgt := 11) hx hb dX3_alternate_5 (by decide) (fun c_5 => ?_) (fun c_5 => ?_)
  · skip
    refine lv_aload_n hx hb dX3_alternate_11 rfl (lv_at hl 0 rfl) ?_
    refine va_get (D := D) (ci := 4) (v := .int (nI 0)) (C := RX3) (T := TX3) (N := 8) hx hb hts (by decide +kernel) hown hK hP 0 rfl rfl 7 (by decide) (hts (.fieldLink RX3 50 "TrackDisk" "down" "Z") (by decide +kernel)) (fun _ h9 => h9) rfl dX3_alternate_12 ?_
    refine lv_if_eq (tgt := 21) hx hb dX3_alternate_15 (by decide) (fun c_15 => ?_) (fun c_15 => ?_)
    · skip
      refine lv_aload_n hx hb dX3_alternate_21 rfl (lv_at hl 0 rfl) ?_
      refine va_get (D := D) (ci := 4) (v := .ref ((ad 1))) (C := RX3) (T := TX3) (N := 8) hx hb hts (by decide +kernel) hown hK hP 0 rfl rfl 2 (by decide) (hts (.fieldLink RX3 25 "TrackDisk" "disk" "LTrackDisk$Surface;") (by decide +kernel)) (fun _ h9 => h9) rfl dX3_alternate_22 ?_
      refine lv_iload_n hx hb dX3_alternate_25 rfl (lv_at hl 1 rfl) ?_
      have hPc := hP.sub (ws' := sfW κ T S (fun j => ad (j + 1)) bs sm pl r0 r1 (nI k0) vo) [1, 2, 3, 4, 5, 6] rfl
      refine pu_call (va_runV (As := [.int (nI t)]) (rest := []) ⟨hx, hb, hml, hown, hts⟩ (c_isSent l D κ T S (fun j => ad (j + 1)) bs sm pl r0 r1 (nI k0) vo hT hS8 hpl t ht) (cwV 1 hts gX3_alternate_X1_isSent rfl rfl rfl (by decide +kernel) ⟨Nat.le_of_ble_eq_true rfl, Nat.le_of_ble_eq_true rfl⟩) ⟨pu_blind, va_recv hK hPc (ci := 2) (q0 := 0) rfl rfl, pu_pre hK hPc⟩ rfl rfl hl.1 rfl (lv_room (Nat.le_of_ble_eq_true rfl)) dX3_alternate_26 ⟨Nat.le_of_ble_eq_true rfl, Nat.le_of_ble_eq_true rfl⟩) ?_
      refine lv_if_ne (tgt := 43) hx hb dX3_alternate_29 (by decide) (fun c_29 => ?_) (fun c_29 => ?_)
      · exact (bI_cf hse c_29).elim
      · skip
        refine lv_aload_n hx hb dX3_alternate_32 rfl (lv_at hl 0 rfl) ?_
        refine va_get (D := D) (ci := 4) (v := .ref ((ad 1))) (C := RX3) (T := TX3) (N := 8) hx hb hts (by decide +kernel) hown hK hP 0 rfl rfl 2 (by decide) (hts (.fieldLink RX3 25 "TrackDisk" "disk" "LTrackDisk$Surface;") (by decide +kernel)) (fun _ h9 => h9) rfl dX3_alternate_33 ?_
        refine va_get (D := D) (ci := 2) (v := .int (nI k0)) (C := RX1) (T := TX1) (N := 9) hx hb hts (by decide +kernel) hown hK hP 1 rfl rfl 7 (by decide) (hts (.fieldLink RX3 127 "TrackDisk$Surface" "taken" "I") (by decide +kernel)) (fun _ h9 => h9) rfl dX3_alternate_36 ?_
        refine lv_iconst (v := nI 2) hx hb dX3_alternate_39 (by decide) ?_
        refine lv_icmp_lt (tgt := 45) hx hb dX3_alternate_40 (by decide) (fun c_40 => ?_) (fun c_40 => ?_)
        · skip
          refine lv_aload_n hx hb dX3_alternate_45 rfl (lv_at hl 0 rfl) ?_
          refine va_get (D := D) (ci := 4) (v := .ref ((ad 1))) (C := RX3) (T := TX3) (N := 8) hx hb hts (by decide +kernel) hown hK hP 0 rfl rfl 2 (by decide) (hts (.fieldLink RX3 25 "TrackDisk" "disk" "LTrackDisk$Surface;") (by decide +kernel)) (fun _ h9 => h9) rfl dX3_alternate_46 ?_
          refine lv_iload_n hx hb dX3_alternate_49 rfl (lv_at hl 1 rfl) ?_
          have hPc := hP.sub (ws' := sfW κ T S (fun j => ad (j + 1)) bs sm pl r0 r1 (nI k0) vo) [1, 2, 3, 4, 5, 6] rfl
          have hDc := hD.sub (ws' := sfW κ T S (fun j => ad (j + 1)) bs sm pl r0 r1 (nI k0) vo) [1, 2, 3, 4, 5, 6] (by decide) rfl
          refine mu_call (wc := sfW κ T S (fun j => ad (j + 1)) bs sm pl r0 r1 (nI k0) vo) (wc' := sfW κ T S (fun j => ad (j + 1)) (va_cpy bs bs ((cl (pl t) * S + 0) * 16) (((T + k0) * S + 0) * 16) (S * 16)) (ssF (va_cpy bs bs ((cl (pl t) * S + 0) * 16) (((T + k0) * S + 0) * 16) (S * 16)) sm S (T + k0) S) (upd pl t (nI (T + k0))) r0 r1 (nI (k0 + 1)) vo) (ws' := tdW κ T S ad (va_cpy bs bs ((cl (pl t) * S + 0) * 16) (((T + k0) * S + 0) * 16) (S * 16)) (ssF (va_cpy bs bs ((cl (pl t) * S + 0) * 16) (((T + k0) * S + 0) * 16) (S * 16)) sm S (T + k0) S) (upd pl t (nI (T + k0))) r0 r1 (nI (k0 + 1)) vo du nd wt wx wb wn tp tn ts (nI 0)) (wr := (([0, 7, 8, 9, 10, 11, 12, 13] : List Nat).filterMap fun i => (tdW κ T S ad bs sm pl r0 r1 (nI k0) vo du nd wt wx wb wn tp tn ts (nI 0))[i]?)) (va_runV (As := [.int (nI t)]) (rest := []) ⟨hx, hb, hml, hown, hts⟩ (c_send l D κ H.size T S (fun j => ad (j + 1)) bs sm pl r0 r1 k0 vo hT hS8 hpl t ht hk0 hft) (cwV 1 hts gX3_alternate_X1_send rfl rfl rfl (by decide +kernel) ⟨Nat.le_of_ble_eq_true rfl, Nat.le_of_ble_eq_true rfl⟩) ⟨mu_blind, va_recv hK hPc (ci := 2) (q0 := 0) rfl rfl, mu_pre hK hPc hDc⟩ rfl rfl hl.1 rfl (lv_room (Nat.le_of_ble_eq_true rfl)) dX3_alternate_50 ⟨Nat.le_of_ble_eq_true rfl, Nat.le_of_ble_eq_true rfl⟩) hP hD hS hA [1, 2, 3, 4, 5, 6] [0, 7, 8, 9, 10, 11, 12, 13] [0, 8, 9, 10, 11, 12, 13, 1, 2, 3, 4, 5, 6, 7] rfl rfl (by decide) (by decide) rfl rfl (by decide) (fun H locs hP hD hS => ?_)
          refine W.eq (g2 := F0 m 53 ls [.int (nI (T + k0))]) rfl ?_
          have hP9 : va_P D vwCl (tdW κ T S ad (va_cpy bs bs ((cl (pl t) * S + 0) * 16) (((T + k0) * S + 0) * 16) (S * 16)) (ssF (va_cpy bs bs ((cl (pl t) * S + 0) * 16) (((T + k0) * S + 0) * 16) (S * 16)) sm S (T + k0) S) (upd pl t (nI (T + k0))) r0 r1 (nI (k0 + 1)) vo du nd wt wx wb wn tp tn ts (nI 0)) H := hP
          have hD9 : va_D A (tdW κ T S ad (va_cpy bs bs ((cl (pl t) * S + 0) * 16) (((T + k0) * S + 0) * 16) (S * 16)) (ssF (va_cpy bs bs ((cl (pl t) * S + 0) * 16) (((T + k0) * S + 0) * 16) (S * 16)) sm S (T + k0) S) (upd pl t (nI (T + k0))) r0 r1 (nI (k0 + 1)) vo du nd wt wx wb wn tp tn ts (nI 0)) := hD
          exact W.iret hx hb hr (fun t ht _ => ⟨⟨rfl, by rw [ht]; exact hP9, hD9⟩, hS.F ht⟩) hS.2.2 dX3_alternate_53 hlocks
        · exact absurd (nI_lt hk0 (by omega)) c_40
    · exact absurd (by decide) c_15
  · exact (bI_ct (inF_nI ht (by omega)) c_5).elim

set_option maxHeartbeats 4000000 in
set_option maxRecDepth 100000 in
/-- tape: wound back -/
theorem c_tape_back (l : Launch) (D : va_G) (κ : Nat → ClassId) (sz : Nat) (T S : Nat) (ad : Nat → Nat) (bs sm pl r0 r1 : Nat → Int32) (tk vo : Int32) (du : Nat → Option Nat) (nd : Int32) (wt wx wb : Nat → Int32) (wn : Int32) (tp : Nat → Int32) (tn ts dn : Int32) (x : Int32) (hneg : x < 0) : Met l yX3_tape wsX3_tape ({ frames := 1, cells := 0, slots := 0, locals := 21 }) (va_Pc [.ref ((ad 0)), .int x] (mu_B D κ (tdW κ T S ad bs sm pl r0 r1 tk vo du nd wt wx wb wn tp tn ts dn) sz)) (mu_Q D (some (.int (tn))) (tdW κ T S ad bs sm pl r0 r1 tk vo du nd wt wx wb wn tp tn (nI 0) dn) (va_A (tdW κ T S ad bs sm pl r0 r1 tk vo du nd wt wx wb wn tp tn ts dn) sz)) 0 0 (va_A (tdW κ T S ad bs sm pl r0 r1 tk vo du nd wt wx wb wn tp tn ts dn) sz) := by
  refine Met.ofW (cc := cX3_tape) (maxL := 2) (ret := (some .int)) (by decide) rfl ?_
  intro p e s m args below meth c s₁ B hml hv
  obtain ⟨rfl, hsz, hP, hK, hD0⟩ := hv
  have hx := B.exec
  have hb := B.bytes
  have hr := B.returns
  have hts := atoms_spec (ws := wsX3_tape) B.pre
  have hown : s.vm.findClass RX3 = some m.cls := findClass_of_methodNamed B.named
  have hlocks := B.notSynchronized
  subst hsz
  have hD := hD0.self (sz := s.heap.size)
  generalize hAe : va_A (tdW κ T S ad bs sm pl r0 r1 tk vo du nd wt wx wb wn tp tn ts dn) s.heap.size = A at hD ⊢
  have hA : ∀ q : Nat, s.heap.size ≤ q → A q := fun q h => by rw [← hAe]; exact Or.inr h
  refine W.gen (P := fun H locs => va_P D vwCl (tdW κ T S ad bs sm pl r0 r1 tk vo du nd wt wx wb wn tp tn ts dn) H ∧ va_S A s.heap H locs) (fun H locs h => ?_) ⟨hP, va_S.rf⟩
  clear hP
  obtain ⟨hP, hS⟩ := h
  have hl := lv_entry ([.ref ((ad 0)), .int x]) (n := 2) (Nat.le_of_ble_eq_true rfl)
  rw [lg_entry_eq]
  generalize (lg_sl ([.ref ((ad 0)), .int x]) ++ List.replicate (2 - (lg_sl ([.ref ((ad 0)), .int x])).length) Slot.unset).toArray = ls at hl ⊢
  have hl : lv_has ls 2 [(0, .ref ((ad 0))), (1, .int x)] := hl
  refine lv_iload_n hx hb dX3_tape_0 rfl (lv_at hl 1 rfl) ?_
  refine lv_if_ge (tgt := 15) hx hb dX3_tape_1 (by decide) (fun c_1 => ?_) (fun c_1 => ?_)
  · exact absurd c_1 (Int32.not_le.mpr hneg)
  · skip
    refine lv_aload_n hx hb dX3_tape_4 rfl (lv_at hl 0 rfl) ?_
    refine va_get (D := D) (ci := 4) (v := .ref ((ad 12))) (C := RX3) (T := TX3) (N := 8) hx hb hts (by decide +kernel) hown hK hP 0 rfl rfl 6 (by decide) (hts (.fieldLink RX3 46 "TrackDisk" "reel" "LTrackDisk$Reel;") (by decide +kernel)) (fun _ h9 => h9) rfl dX3_tape_5 ?_
    refine lv_iconst (v := nI 0) hx hb dX3_tape_8 (by decide) ?_
    refine va_put (D := D) (ci := 1) (v := .int (nI 0)) (ty := .int) (C := RX0) (T := TX0) (N := 3) hx hb hts (by decide +kernel) tyX0 tyX0_ok nmX0 hown hK hP hD hS 12 rfl rfl 2 (by decide) (hts (.fieldLink RX3 145 "TrackDisk$Reel" "stand" "I") (by decide +kernel)) (fun _ h9 => h9) rfl (by decide +kernel) rfl rfl (Nat.le_of_ble_eq_true rfl) dX3_tape_9 (fun H locs hP hD hS => ?_)
    have hP : va_P D vwCl (tdW κ T S ad bs sm pl r0 r1 tk vo du nd wt wx wb wn tp tn (nI 0) dn) H := hP
    have hD : va_D A (tdW κ T S ad bs sm pl r0 r1 tk vo du nd wt wx wb wn tp tn (nI 0) dn) := hD
    refine lv_goto (tgt := 23) hx hb dX3_tape_12 (by decide) ?_
    refine lv_aload_n hx hb dX3_tape_23 rfl (lv_at hl 0 rfl) ?_
    refine va_get (D := D) (ci := 4) (v := .ref ((ad 12))) (C := RX3) (T := TX3) (N := 8) hx hb hts (by decide +kernel) hown hK hP 0 rfl rfl 6 (by decide) (hts (.fieldLink RX3 46 "TrackDisk" "reel" "LTrackDisk$Reel;") (by decide +kernel)) (fun _ h9 => h9) rfl dX3_tape_24 ?_
    refine va_get (D := D) (ci := 1) (v := .int tn) (C := RX0) (T := TX0) (N := 3) hx hb hts (by decide +kernel) hown hK hP 12 rfl rfl 1 (by decide) (hts (.fieldLink RX3 151 "TrackDisk$Reel" "size" "I") (by decide +kernel)) (fun _ h9 => h9) rfl dX3_tape_27 ?_
    have hP9 : va_P D vwCl (tdW κ T S ad bs sm pl r0 r1 tk vo du nd wt wx wb wn tp tn (nI 0) dn) H := hP
    have hD9 : va_D A (tdW κ T S ad bs sm pl r0 r1 tk vo du nd wt wx wb wn tp tn (nI 0) dn) := hD
    exact W.iret hx hb hr (fun t ht _ => ⟨⟨rfl, by rw [ht]; exact hP9, hD9⟩, hS.F ht⟩) hS.2.2 dX3_tape_30 hlocks

set_option maxHeartbeats 4000000 in
set_option maxRecDepth 100000 in
/-- tape: a row -/
theorem c_tape (l : Launch) (D : va_G) (κ : Nat → ClassId) (sz : Nat) (T S : Nat) (ad : Nat → Nat) (bs sm pl r0 r1 : Nat → Int32) (tk vo : Int32) (du : Nat → Option Nat) (nd : Int32) (wt wx wb : Nat → Int32) (wn : Int32) (tp : Nat → Int32) (tn dn : Int32)  (x : Int32) (hneg : ¬ x < 0) (a : Nat) (ha : a < 100) : Met l yX3_tape wsX3_tape ({ frames := 1, cells := 0, slots := 0, locals := 21 }) (va_Pc [.ref ((ad 0)), .int x] (mu_B D κ (tdW κ T S ad bs sm pl r0 r1 tk vo du nd wt wx wb wn tp tn (nI a) dn) sz)) (mu_Q D (some (.int (nI (a + 1)))) (tdW κ T S ad bs sm pl r0 r1 tk vo du nd wt wx wb wn (upd tp a x) (nI (a + 1)) (nI (a + 1)) dn) (va_A (tdW κ T S ad bs sm pl r0 r1 tk vo du nd wt wx wb wn tp tn (nI a) dn) sz)) 0 0 (va_A (tdW κ T S ad bs sm pl r0 r1 tk vo du nd wt wx wb wn tp tn (nI a) dn) sz) := by
  refine Met.ofW (cc := cX3_tape) (maxL := 2) (ret := (some .int)) (by decide) rfl ?_
  intro p e s m args below meth c s₁ B hml hv
  obtain ⟨rfl, hsz, hP, hK, hD0⟩ := hv
  have hx := B.exec
  have hb := B.bytes
  have hr := B.returns
  have hts := atoms_spec (ws := wsX3_tape) B.pre
  have hown : s.vm.findClass RX3 = some m.cls := findClass_of_methodNamed B.named
  have hlocks := B.notSynchronized
  subst hsz
  have hD := hD0.self (sz := s.heap.size)
  generalize hAe : va_A (tdW κ T S ad bs sm pl r0 r1 tk vo du nd wt wx wb wn tp tn (nI a) dn) s.heap.size = A at hD ⊢
  have hA : ∀ q : Nat, s.heap.size ≤ q → A q := fun q h => by rw [← hAe]; exact Or.inr h
  refine W.gen (P := fun H locs => va_P D vwCl (tdW κ T S ad bs sm pl r0 r1 tk vo du nd wt wx wb wn tp tn (nI a) dn) H ∧ va_S A s.heap H locs) (fun H locs h => ?_) ⟨hP, va_S.rf⟩
  clear hP
  obtain ⟨hP, hS⟩ := h
  have hl := lv_entry ([.ref ((ad 0)), .int x]) (n := 2) (Nat.le_of_ble_eq_true rfl)
  rw [lg_entry_eq]
  generalize (lg_sl ([.ref ((ad 0)), .int x]) ++ List.replicate (2 - (lg_sl ([.ref ((ad 0)), .int x])).length) Slot.unset).toArray = ls at hl ⊢
  have hl : lv_has ls 2 [(0, .ref ((ad 0))), (1, .int x)] := hl
  refine lv_iload_n hx hb dX3_tape_0 rfl (lv_at hl 1 rfl) ?_
  refine lv_if_ge (tgt := 15) hx hb dX3_tape_1 (by decide) (fun c_1 => ?_) (fun c_1 => ?_)
  · skip
    refine lv_aload_n hx hb dX3_tape_15 rfl (lv_at hl 0 rfl) ?_
    refine va_get (D := D) (ci := 4) (v := .ref ((ad 12))) (C := RX3) (T := TX3) (N := 8) hx hb hts (by decide +kernel) hown hK hP 0 rfl rfl 6 (by decide) (hts (.fieldLink RX3 46 "TrackDisk" "reel" "LTrackDisk$Reel;") (by decide +kernel)) (fun _ h9 => h9) rfl dX3_tape_16 ?_
    refine lv_iload_n hx hb dX3_tape_19 rfl (lv_at hl 1 rfl) ?_
    have hPc := hP.sub (ws' := reW κ (fun j => ad (j + 12)) tp tn (nI a)) [12, 13] rfl
    have hDc := hD.sub (ws' := reW κ (fun j => ad (j + 12)) tp tn (nI a)) [12, 13] (by decide) rfl
    refine mu_call (wc := reW κ (fun j => ad (j + 12)) tp tn (nI a)) (wc' := reW κ (fun j => ad (j + 12)) (upd tp a x) (nI (a + 1)) (nI (a + 1))) (ws' := tdW κ T S ad bs sm pl r0 r1 tk vo du nd wt wx wb wn (upd tp a x) (nI (a + 1)) (nI (a + 1)) dn) (wr := (([0, 1, 2, 3, 4, 5, 6, 7, 8, 9, 10, 11] : List Nat).filterMap fun i => (tdW κ T S ad bs sm pl r0 r1 tk vo du nd wt wx wb wn tp tn (nI a) dn)[i]?)) (va_runV (As := [.int x]) (rest := []) ⟨hx, hb, hml, hown, hts⟩ (c_record l D κ H.size (fun j => ad (j + 12)) tp tn a ha x) (cwV 1 hts gX3_tape_X0_record rfl rfl rfl (by decide +kernel) ⟨Nat.le_of_ble_eq_true rfl, Nat.le_of_ble_eq_true rfl⟩) ⟨mu_blind, va_recv hK hPc (ci := 1) (q0 := 0) rfl rfl, mu_pre hK hPc hDc⟩ rfl rfl hl.1 rfl (lv_room (Nat.le_of_ble_eq_true rfl)) dX3_tape_20 ⟨Nat.le_of_ble_eq_true rfl, Nat.le_of_ble_eq_true rfl⟩) hP hD hS hA [12, 13] [0, 1, 2, 3, 4, 5, 6, 7, 8, 9, 10, 11] [0, 1, 2, 3, 4, 5, 6, 7, 8, 9, 10, 11, 12, 13] rfl rfl (by decide) (by decide) rfl rfl (by decide) (fun H locs hP hD hS => ?_)
    refine W.eq (g2 := F0 m 23 ls []) rfl ?_
    refine lv_aload_n hx hb dX3_tape_23 rfl (lv_at hl 0 rfl) ?_
    refine va_get (D := D) (ci := 4) (v := .ref ((ad 12))) (C := RX3) (T := TX3) (N := 8) hx hb hts (by decide +kernel) hown hK hP 0 rfl rfl 6 (by decide) (hts (.fieldLink RX3 46 "TrackDisk" "reel" "LTrackDisk$Reel;") (by decide +kernel)) (fun _ h9 => h9) rfl dX3_tape_24 ?_
    refine va_get (D := D) (ci := 1) (v := .int (nI (a + 1))) (C := RX0) (T := TX0) (N := 3) hx hb hts (by decide +kernel) hown hK hP 12 rfl rfl 1 (by decide) (hts (.fieldLink RX3 151 "TrackDisk$Reel" "size" "I") (by decide +kernel)) (fun _ h9 => h9) rfl dX3_tape_27 ?_
    have hP9 : va_P D vwCl (tdW κ T S ad bs sm pl r0 r1 tk vo du nd wt wx wb wn (upd tp a x) (nI (a + 1)) (nI (a + 1)) dn) H := hP
    have hD9 : va_D A (tdW κ T S ad bs sm pl r0 r1 tk vo du nd wt wx wb wn (upd tp a x) (nI (a + 1)) (nI (a + 1)) dn) := hD
    exact W.iret hx hb hr (fun t ht _ => ⟨⟨rfl, by rw [ht]; exact hP9, hD9⟩, hS.F ht⟩) hS.2.2 dX3_tape_30 hlocks
  · exact absurd (Int32.not_lt.mp hneg) c_1

set_option maxHeartbeats 4000000 in
set_option maxRecDepth 100000 in
/-- tape: full -/
theorem c_tape_full (l : Launch) (D : va_G) (κ : Nat → ClassId) (sz : Nat) (T S : Nat) (ad : Nat → Nat) (bs sm pl r0 r1 : Nat → Int32) (tk vo : Int32) (du : Nat → Option Nat) (nd : Int32) (wt wx wb : Nat → Int32) (wn : Int32) (tp : Nat → Int32) (tn ts dn : Int32) (x : Int32) (hneg : ¬ x < 0) (ha : nI 100 ≤ ts) : Met l yX3_tape wsX3_tape ({ frames := 1, cells := 0, slots := 0, locals := 21 }) (va_Pc [.ref ((ad 0)), .int x] (mu_B D κ (tdW κ T S ad bs sm pl r0 r1 tk vo du nd wt wx wb wn tp tn ts dn) sz)) (mu_Q D (some (.int (tn))) (tdW κ T S ad bs sm pl r0 r1 tk vo du nd wt wx wb wn tp tn ts dn) (va_A (tdW κ T S ad bs sm pl r0 r1 tk vo du nd wt wx wb wn tp tn ts dn) sz)) 0 0 (va_A (tdW κ T S ad bs sm pl r0 r1 tk vo du nd wt wx wb wn tp tn ts dn) sz) := by
  refine Met.ofW (cc := cX3_tape) (maxL := 2) (ret := (some .int)) (by decide) rfl ?_
  intro p e s m args below meth c s₁ B hml hv
  obtain ⟨rfl, hsz, hP, hK, hD0⟩ := hv
  have hx := B.exec
  have hb := B.bytes
  have hr := B.returns
  have hts := atoms_spec (ws := wsX3_tape) B.pre
  have hown : s.vm.findClass RX3 = some m.cls := findClass_of_methodNamed B.named
  have hlocks := B.notSynchronized
  subst hsz
  have hD := hD0.self (sz := s.heap.size)
  generalize hAe : va_A (tdW κ T S ad bs sm pl r0 r1 tk vo du nd wt wx wb wn tp tn ts dn) s.heap.size = A at hD ⊢
  have hA : ∀ q : Nat, s.heap.size ≤ q → A q := fun q h => by rw [← hAe]; exact Or.inr h
  refine W.gen (P := fun H locs => va_P D vwCl (tdW κ T S ad bs sm pl r0 r1 tk vo du nd wt wx wb wn tp tn ts dn) H ∧ va_S A s.heap H locs) (fun H locs h => ?_) ⟨hP, va_S.rf⟩
  clear hP
  obtain ⟨hP, hS⟩ := h
  have hl := lv_entry ([.ref ((ad 0)), .int x]) (n := 2) (Nat.le_of_ble_eq_true rfl)
  rw [lg_entry_eq]
  generalize (lg_sl ([.ref ((ad 0)), .int x]) ++ List.replicate (2 - (lg_sl ([.ref ((ad 0)), .int x])).length) Slot.unset).toArray = ls at hl ⊢
  have hl : lv_has ls 2 [(0, .ref ((ad 0))), (1, .int x)] := hl
  refine lv_iload_n hx hb dX3_tape_0 rfl (lv_at hl 1 rfl) ?_
  refine lv_if_ge (tgt := 15) hx hb dX3_tape_1 (by decide) (fun c_1 => ?_) (fun c_1 => ?_)
  · skip
    refine lv_aload_n hx hb dX3_tape_15 rfl (lv_at hl 0 rfl) ?_
    refine va_get (D := D) (ci := 4) (v := .ref ((ad 12))) (C := RX3) (T := TX3) (N := 8) hx hb hts (by decide +kernel) hown hK hP 0 rfl rfl 6 (by decide) (hts (.fieldLink RX3 46 "TrackDisk" "reel" "LTrackDisk$Reel;") (by decide +kernel)) (fun _ h9 => h9) rfl dX3_tape_16 ?_
    refine lv_iload_n hx hb dX3_tape_19 rfl (lv_at hl 1 rfl) ?_
    have hPc := hP.sub (ws' := reW κ (fun j => ad (j + 12)) tp tn ts) [12, 13] rfl
    have hDc := hD.sub (ws' := reW κ (fun j => ad (j + 12)) tp tn ts) [12, 13] (by decide) rfl
    refine mu_call (wc := reW κ (fun j => ad (j + 12)) tp tn ts) (wc' := reW κ (fun j => ad (j + 12)) tp tn ts) (ws' := tdW κ T S ad bs sm pl r0 r1 tk vo du nd wt wx wb wn tp tn ts dn) (wr := (([0, 1, 2, 3, 4, 5, 6, 7, 8, 9, 10, 11] : List Nat).filterMap fun i => (tdW κ T S ad bs sm pl r0 r1 tk vo du nd wt wx wb wn tp tn ts dn)[i]?)) (va_runV (As := [.int x]) (rest := []) ⟨hx, hb, hml, hown, hts⟩ (c_recordF l D κ H.size (fun j => ad (j + 12)) tp tn ts ha x) (cwV 1 hts gX3_tape_X0_record rfl rfl rfl (by decide +kernel) ⟨Nat.le_of_ble_eq_true rfl, Nat.le_of_ble_eq_true rfl⟩) ⟨mu_blind, va_recv hK hPc (ci := 1) (q0 := 0) rfl rfl, mu_pre hK hPc hDc⟩ rfl rfl hl.1 rfl (lv_room (Nat.le_of_ble_eq_true rfl)) dX3_tape_20 ⟨Nat.le_of_ble_eq_true rfl, Nat.le_of_ble_eq_true rfl⟩) hP hD hS hA [12, 13] [0, 1, 2, 3, 4, 5, 6, 7, 8, 9, 10, 11] [0, 1, 2, 3, 4, 5, 6, 7, 8, 9, 10, 11, 12, 13] rfl rfl (by decide) (by decide) rfl rfl (by decide) (fun H locs hP hD hS => ?_)
    refine W.eq (g2 := F0 m 23 ls []) rfl ?_
    refine lv_aload_n hx hb dX3_tape_23 rfl (lv_at hl 0 rfl) ?_
    refine va_get (D := D) (ci := 4) (v := .ref ((ad 12))) (C := RX3) (T := TX3) (N := 8) hx hb hts (by decide +kernel) hown hK hP 0 rfl rfl 6 (by decide) (hts (.fieldLink RX3 46 "TrackDisk" "reel" "LTrackDisk$Reel;") (by decide +kernel)) (fun _ h9 => h9) rfl dX3_tape_24 ?_
    refine va_get (D := D) (ci := 1) (v := .int tn) (C := RX0) (T := TX0) (N := 3) hx hb hts (by decide +kernel) hown hK hP 12 rfl rfl 1 (by decide) (hts (.fieldLink RX3 151 "TrackDisk$Reel" "size" "I") (by decide +kernel)) (fun _ h9 => h9) rfl dX3_tape_27 ?_
    have hP9 : va_P D vwCl (tdW κ T S ad bs sm pl r0 r1 tk vo du nd wt wx wb wn tp tn ts dn) H := hP
    have hD9 : va_D A (tdW κ T S ad bs sm pl r0 r1 tk vo du nd wt wx wb wn tp tn ts dn) := hD
    exact W.iret hx hb hr (fun t ht _ => ⟨⟨rfl, by rw [ht]; exact hP9, hD9⟩, hS.F ht⟩) hS.2.2 dX3_tape_30 hlocks
  · exact absurd (Int32.not_lt.mp hneg) c_1

set_option maxHeartbeats 4000000 in
set_option maxRecDepth 100000 in
/-- next -/
theorem c_next (l : Launch) (D : va_G) (κ : Nat → ClassId) (sz : Nat) (T S : Nat) (ad : Nat → Nat) (bs sm pl r0 r1 : Nat → Int32) (tk vo : Int32) (du : Nat → Option Nat) (nd : Int32) (wt wx wb : Nat → Int32) (wn : Int32) (tp : Nat → Int32) ( dn : Int32)  (n a : Nat) (ha : a < n) (hn : n ≤ 100) : Met l yX3_next wsX3_next ({ frames := 1, cells := 0, slots := 0, locals := 21 }) (va_Pc [.ref ((ad 0))] (mu_B D κ (tdW κ T S ad bs sm pl r0 r1 tk vo du nd wt wx wb wn tp (nI n) (nI a) dn) sz)) (mu_Q D (some (.int (tp a))) (tdW κ T S ad bs sm pl r0 r1 tk vo du nd wt wx wb wn tp (nI n) (nI (a + 1)) dn) (va_A (tdW κ T S ad bs sm pl r0 r1 tk vo du nd wt wx wb wn tp (nI n) (nI a) dn) sz)) 0 0 (va_A (tdW κ T S ad bs sm pl r0 r1 tk vo du nd wt wx wb wn tp (nI n) (nI a) dn) sz) := by
  refine Met.ofW (cc := cX3_next) (maxL := 1) (ret := (some .int)) (by decide) rfl ?_
  intro p e s m args below meth c s₁ B hml hv
  obtain ⟨rfl, hsz, hP, hK, hD0⟩ := hv
  have hx := B.exec
  have hb := B.bytes
  have hr := B.returns
  have hts := atoms_spec (ws := wsX3_next) B.pre
  have hown : s.vm.findClass RX3 = some m.cls := findClass_of_methodNamed B.named
  have hlocks := B.notSynchronized
  subst hsz
  have hD := hD0.self (sz := s.heap.size)
  generalize hAe : va_A (tdW κ T S ad bs sm pl r0 r1 tk vo du nd wt wx wb wn tp (nI n) (nI a) dn) s.heap.size = A at hD ⊢
  have hA : ∀ q : Nat, s.heap.size ≤ q → A q := fun q h => by rw [← hAe]; exact Or.inr h
  refine W.gen (P := fun H locs => va_P D vwCl (tdW κ T S ad bs sm pl r0 r1 tk vo du nd wt wx wb wn tp (nI n) (nI a) dn) H ∧ va_S A s.heap H locs) (fun H locs h => ?_) ⟨hP, va_S.rf⟩
  clear hP
  obtain ⟨hP, hS⟩ := h
  have hl := lv_entry ([.ref ((ad 0))]) (n := 1) (Nat.le_of_ble_eq_true rfl)
  rw [lg_entry_eq]
  generalize (lg_sl ([.ref ((ad 0))]) ++ List.replicate (1 - (lg_sl ([.ref ((ad 0))])).length) Slot.unset).toArray = ls at hl ⊢
  have hl : lv_has ls 1 [(0, .ref ((ad 0)))] := hl
  refine lv_aload_n hx hb dX3_next_0 rfl (lv_at hl 0 rfl) ?_
  refine va_get (D := D) (ci := 4) (v := .ref ((ad 12))) (C := RX3) (T := TX3) (N := 8) hx hb hts (by decide +kernel) hown hK hP 0 rfl rfl 6 (by decide) (hts (.fieldLink RX3 46 "TrackDisk" "reel" "LTrackDisk$Reel;") (by decide +kernel)) (fun _ h9 => h9) rfl dX3_next_1 ?_
  have hPc := hP.sub (ws' := reW κ (fun j => ad (j + 12)) tp (nI n) (nI a)) [12, 13] rfl
  have hDc := hD.sub (ws' := reW κ (fun j => ad (j + 12)) tp (nI n) (nI a)) [12, 13] (by decide) rfl
  refine mu_call (wc := reW κ (fun j => ad (j + 12)) tp (nI n) (nI a)) (wc' := reW κ (fun j => ad (j + 12)) tp (nI n) (nI (a + 1))) (ws' := tdW κ T S ad bs sm pl r0 r1 tk vo du nd wt wx wb wn tp (nI n) (nI (a + 1)) dn) (wr := (([0, 1, 2, 3, 4, 5, 6, 7, 8, 9, 10, 11] : List Nat).filterMap fun i => (tdW κ T S ad bs sm pl r0 r1 tk vo du nd wt wx wb wn tp (nI n) (nI a) dn)[i]?)) (va_runV (As := []) (rest := []) ⟨hx, hb, hml, hown, hts⟩ (c_pass l D κ H.size (fun j => ad (j + 12)) tp n a ha hn) (cwV 0 hts gX3_next_X0_pass rfl rfl rfl (by decide +kernel) ⟨Nat.le_of_ble_eq_true rfl, Nat.le_of_ble_eq_true rfl⟩) ⟨mu_blind, va_recv hK hPc (ci := 1) (q0 := 0) rfl rfl, mu_pre hK hPc hDc⟩ rfl rfl hl.1 rfl (lv_room (Nat.le_of_ble_eq_true rfl)) dX3_next_4 ⟨Nat.le_of_ble_eq_true rfl, Nat.le_of_ble_eq_true rfl⟩) hP hD hS hA [12, 13] [0, 1, 2, 3, 4, 5, 6, 7, 8, 9, 10, 11] [0, 1, 2, 3, 4, 5, 6, 7, 8, 9, 10, 11, 12, 13] rfl rfl (by decide) (by decide) rfl rfl (by decide) (fun H locs hP hD hS => ?_)
  refine W.eq (g2 := F0 m 7 ls [.int (tp a)]) rfl ?_
  have hP9 : va_P D vwCl (tdW κ T S ad bs sm pl r0 r1 tk vo du nd wt wx wb wn tp (nI n) (nI (a + 1)) dn) H := hP
  have hD9 : va_D A (tdW κ T S ad bs sm pl r0 r1 tk vo du nd wt wx wb wn tp (nI n) (nI (a + 1)) dn) := hD
  exact W.iret hx hb hr (fun t ht _ => ⟨⟨rfl, by rw [ht]; exact hP9, hD9⟩, hS.F ht⟩) hS.2.2 dX3_next_7 hlocks

set_option maxHeartbeats 4000000 in
set_option maxRecDepth 100000 in
/-- next: at the end -/
theorem c_next_end (l : Launch) (D : va_G) (κ : Nat → ClassId) (sz : Nat) (T S : Nat) (ad : Nat → Nat) (bs sm pl r0 r1 : Nat → Int32) (tk vo : Int32) (du : Nat → Option Nat) (nd : Int32) (wt wx wb : Nat → Int32) (wn : Int32) (tp : Nat → Int32) (tn ts dn : Int32) (ha : ¬ ts < tn) : Met l yX3_next wsX3_next ({ frames := 1, cells := 0, slots := 0, locals := 21 }) (va_Pc [.ref ((ad 0))] (mu_B D κ (tdW κ T S ad bs sm pl r0 r1 tk vo du nd wt wx wb wn tp tn ts dn) sz)) (mu_Q D (some (.int ((-1)))) (tdW κ T S ad bs sm pl r0 r1 tk vo du nd wt wx wb wn tp tn ts dn) (va_A (tdW κ T S ad bs sm pl r0 r1 tk vo du nd wt wx wb wn tp tn ts dn) sz)) 0 0 (va_A (tdW κ T S ad bs sm pl r0 r1 tk vo du nd wt wx wb wn tp tn ts dn) sz) := by
  refine Met.ofW (cc := cX3_next) (maxL := 1) (ret := (some .int)) (by decide) rfl ?_
  intro p e s m args below meth c s₁ B hml hv
  obtain ⟨rfl, hsz, hP, hK, hD0⟩ := hv
  have hx := B.exec
  have hb := B.bytes
  have hr := B.returns
  have hts := atoms_spec (ws := wsX3_next) B.pre
  have hown : s.vm.findClass RX3 = some m.cls := findClass_of_methodNamed B.named
  have hlocks := B.notSynchronized
  subst hsz
  have hD := hD0.self (sz := s.heap.size)
  generalize hAe : va_A (tdW κ T S ad bs sm pl r0 r1 tk vo du nd wt wx wb wn tp tn ts dn) s.heap.size = A at hD ⊢
  have hA : ∀ q : Nat, s.heap.size ≤ q → A q := fun q h => by rw [← hAe]; exact Or.inr h
  refine W.gen (P := fun H locs => va_P D vwCl (tdW κ T S ad bs sm pl r0 r1 tk vo du nd wt wx wb wn tp tn ts dn) H ∧ va_S A s.heap H locs) (fun H locs h => ?_) ⟨hP, va_S.rf⟩
  clear hP
  obtain ⟨hP, hS⟩ := h
  have hl := lv_entry ([.ref ((ad 0))]) (n := 1) (Nat.le_of_ble_eq_true rfl)
  rw [lg_entry_eq]
  generalize (lg_sl ([.ref ((ad 0))]) ++ List.replicate (1 - (lg_sl ([.ref ((ad 0))])).length) Slot.unset).toArray = ls at hl ⊢
  have hl : lv_has ls 1 [(0, .ref ((ad 0)))] := hl
  refine lv_aload_n hx hb dX3_next_0 rfl (lv_at hl 0 rfl) ?_
  refine va_get (D := D) (ci := 4) (v := .ref ((ad 12))) (C := RX3) (T := TX3) (N := 8) hx hb hts (by decide +kernel) hown hK hP 0 rfl rfl 6 (by decide) (hts (.fieldLink RX3 46 "TrackDisk" "reel" "LTrackDisk$Reel;") (by decide +kernel)) (fun _ h9 => h9) rfl dX3_next_1 ?_
  have hPc := hP.sub (ws' := reW κ (fun j => ad (j + 12)) tp tn ts) [12, 13] rfl
  have hDc := hD.sub (ws' := reW κ (fun j => ad (j + 12)) tp tn ts) [12, 13] (by decide) rfl
  refine mu_call (wc := reW κ (fun j => ad (j + 12)) tp tn ts) (wc' := reW κ (fun j => ad (j + 12)) tp tn ts) (ws' := tdW κ T S ad bs sm pl r0 r1 tk vo du nd wt wx wb wn tp tn ts dn) (wr := (([0, 1, 2, 3, 4, 5, 6, 7, 8, 9, 10, 11] : List Nat).filterMap fun i => (tdW κ T S ad bs sm pl r0 r1 tk vo du nd wt wx wb wn tp tn ts dn)[i]?)) (va_runV (As := []) (rest := []) ⟨hx, hb, hml, hown, hts⟩ (c_passE l D κ H.size (fun j => ad (j + 12)) tp tn ts ha) (cwV 0 hts gX3_next_X0_pass rfl rfl rfl (by decide +kernel) ⟨Nat.le_of_ble_eq_true rfl, Nat.le_of_ble_eq_true rfl⟩) ⟨mu_blind, va_recv hK hPc (ci := 1) (q0 := 0) rfl rfl, mu_pre hK hPc hDc⟩ rfl rfl hl.1 rfl (lv_room (Nat.le_of_ble_eq_true rfl)) dX3_next_4 ⟨Nat.le_of_ble_eq_true rfl, Nat.le_of_ble_eq_true rfl⟩) hP hD hS hA [12, 13] [0, 1, 2, 3, 4, 5, 6, 7, 8, 9, 10, 11] [0, 1, 2, 3, 4, 5, 6, 7, 8, 9, 10, 11, 12, 13] rfl rfl (by decide) (by decide) rfl rfl (by decide) (fun H locs hP hD hS => ?_)
  refine W.eq (g2 := F0 m 7 ls [.int ((-1))]) rfl ?_
  have hP9 : va_P D vwCl (tdW κ T S ad bs sm pl r0 r1 tk vo du nd wt wx wb wn tp tn ts dn) H := hP
  have hD9 : va_D A (tdW κ T S ad bs sm pl r0 r1 tk vo du nd wt wx wb wn tp tn ts dn) := hD
  exact W.iret hx hb hr (fun t ht _ => ⟨⟨rfl, by rw [ht]; exact hP9, hD9⟩, hS.F ht⟩) hS.2.2 dX3_next_7 hlocks

set_option maxHeartbeats 4000000 in
set_option maxRecDepth 100000 in
/-- count(0) -/
theorem c_count_0 (l : Launch) (D : va_G) (κ : Nat → ClassId) (sz : Nat) (T S : Nat) (ad : Nat → Nat) (bs sm pl r0 r1 : Nat → Int32) (tk vo : Int32) (du : Nat → Option Nat) (nd : Int32) (wt wx wb : Nat → Int32) (wn : Int32) (tp : Nat → Int32) (tn ts dn : Int32)  : Met l yX3_count wsX3_count ({ frames := 3, cells := 0, slots := 0, locals := 68 }) (va_Pc [.ref ((ad 0)), .int (nI 0)] (mu_B D κ (tdW κ T S ad bs sm pl r0 r1 tk vo du nd wt wx wb wn tp tn ts dn) sz)) (mu_Q D (some (.int (nI T))) (tdW κ T S ad bs sm pl r0 r1 tk vo du nd wt wx wb wn tp tn ts dn) (va_A (tdW κ T S ad bs sm pl r0 r1 tk vo du nd wt wx wb wn tp tn ts dn) sz)) 0 0 (va_A (tdW κ T S ad bs sm pl r0 r1 tk vo du nd wt wx wb wn tp tn ts dn) sz) := by
  refine Met.ofW (cc := cX3_count) (maxL := 2) (ret := (some .int)) (by decide) rfl ?_
  intro p e s m args below meth c s₁ B hml hv
  obtain ⟨rfl, hsz, hP, hK, hD0⟩ := hv
  have hx := B.exec
  have hb := B.bytes
  have hr := B.returns
  have hts := atoms_spec (ws := wsX3_count) B.pre
  have hown : s.vm.findClass RX3 = some m.cls := findClass_of_methodNamed B.named
  have hlocks := B.notSynchronized
  subst hsz
  have hD := hD0.self (sz := s.heap.size)
  generalize hAe : va_A (tdW κ T S ad bs sm pl r0 r1 tk vo du nd wt wx wb wn tp tn ts dn) s.heap.size = A at hD ⊢
  have hA : ∀ q : Nat, s.heap.size ≤ q → A q := fun q h => by rw [← hAe]; exact Or.inr h
  refine W.gen (P := fun H locs => va_P D vwCl (tdW κ T S ad bs sm pl r0 r1 tk vo du nd wt wx wb wn tp tn ts dn) H ∧ va_S A s.heap H locs) (fun H locs h => ?_) ⟨hP, va_S.rf⟩
  clear hP
  obtain ⟨hP, hS⟩ := h
  have hl := lv_entry ([.ref ((ad 0)), .int (nI 0)]) (n := 2) (Nat.le_of_ble_eq_true rfl)
  rw [lg_entry_eq]
  generalize (lg_sl ([.ref ((ad 0)), .int (nI 0)]) ++ List.replicate (2 - (lg_sl ([.ref ((ad 0)), .int (nI 0)])).length) Slot.unset).toArray = ls at hl ⊢
  have hl : lv_has ls 2 [(0, .ref ((ad 0))), (1, .int (nI 0))] := hl
  refine lv_iload_n hx hb dX3_count_0 rfl (lv_at hl 1 rfl) ?_
  refine lv_tableIn (off := 43) (tgt := 44) hx hb dX3_count_1 (by decide) (by decide) (by decide) (by decide) ?_
  refine lv_aload_n hx hb dX3_count_44 rfl (lv_at hl 0 rfl) ?_
  refine va_get (D := D) (ci := 4) (v := .int (nI T)) (C := RX3) (T := TX3) (N := 8) hx hb hts (by decide +kernel) hown hK hP 0 rfl rfl 0 (by decide) (hts (.fieldLink RX3 13 "TrackDisk" "tracks" "I") (by decide +kernel)) (fun _ h9 => h9) rfl dX3_count_45 ?_
  have hP9 : va_P D vwCl (tdW κ T S ad bs sm pl r0 r1 tk vo du nd wt wx wb wn tp tn ts dn) H := hP
  have hD9 : va_D A (tdW κ T S ad bs sm pl r0 r1 tk vo du nd wt wx wb wn tp tn ts dn) := hD
  exact W.iret hx hb hr (fun t ht _ => ⟨⟨rfl, by rw [ht]; exact hP9, hD9⟩, hS.F ht⟩) hS.2.2 dX3_count_48 hlocks

set_option maxHeartbeats 4000000 in
set_option maxRecDepth 100000 in
/-- count(1) -/
theorem c_count_1 (l : Launch) (D : va_G) (κ : Nat → ClassId) (sz : Nat) (T S : Nat) (ad : Nat → Nat) (bs sm pl r0 r1 : Nat → Int32) (tk vo : Int32) (du : Nat → Option Nat) (nd : Int32) (wt wx wb : Nat → Int32) (wn : Int32) (tp : Nat → Int32) (tn ts dn : Int32)  : Met l yX3_count wsX3_count ({ frames := 3, cells := 0, slots := 0, locals := 68 }) (va_Pc [.ref ((ad 0)), .int (nI 1)] (mu_B D κ (tdW κ T S ad bs sm pl r0 r1 tk vo du nd wt wx wb wn tp tn ts dn) sz)) (mu_Q D (some (.int (nI S))) (tdW κ T S ad bs sm pl r0 r1 tk vo du nd wt wx wb wn tp tn ts dn) (va_A (tdW κ T S ad bs sm pl r0 r1 tk vo du nd wt wx wb wn tp tn ts dn) sz)) 0 0 (va_A (tdW κ T S ad bs sm pl r0 r1 tk vo du nd wt wx wb wn tp tn ts dn) sz) := by
  refine Met.ofW (cc := cX3_count) (maxL := 2) (ret := (some .int)) (by decide) rfl ?_
  intro p e s m args below meth c s₁ B hml hv
  obtain ⟨rfl, hsz, hP, hK, hD0⟩ := hv
  have hx := B.exec
  have hb := B.bytes
  have hr := B.returns
  have hts := atoms_spec (ws := wsX3_count) B.pre
  have hown : s.vm.findClass RX3 = some m.cls := findClass_of_methodNamed B.named
  have hlocks := B.notSynchronized
  subst hsz
  have hD := hD0.self (sz := s.heap.size)
  generalize hAe : va_A (tdW κ T S ad bs sm pl r0 r1 tk vo du nd wt wx wb wn tp tn ts dn) s.heap.size = A at hD ⊢
  have hA : ∀ q : Nat, s.heap.size ≤ q → A q := fun q h => by rw [← hAe]; exact Or.inr h
  refine W.gen (P := fun H locs => va_P D vwCl (tdW κ T S ad bs sm pl r0 r1 tk vo du nd wt wx wb wn tp tn ts dn) H ∧ va_S A s.heap H locs) (fun H locs h => ?_) ⟨hP, va_S.rf⟩
  clear hP
  obtain ⟨hP, hS⟩ := h
  have hl := lv_entry ([.ref ((ad 0)), .int (nI 1)]) (n := 2) (Nat.le_of_ble_eq_true rfl)
  rw [lg_entry_eq]
  generalize (lg_sl ([.ref ((ad 0)), .int (nI 1)]) ++ List.replicate (2 - (lg_sl ([.ref ((ad 0)), .int (nI 1)])).length) Slot.unset).toArray = ls at hl ⊢
  have hl : lv_has ls 2 [(0, .ref ((ad 0))), (1, .int (nI 1))] := hl
  refine lv_iload_n hx hb dX3_count_0 rfl (lv_at hl 1 rfl) ?_
  refine lv_tableIn (off := 48) (tgt := 49) hx hb dX3_count_1 (by decide) (by decide) (by decide) (by decide) ?_
  refine lv_aload_n hx hb dX3_count_49 rfl (lv_at hl 0 rfl) ?_
  refine va_get (D := D) (ci := 4) (v := .int (nI S)) (C := RX3) (T := TX3) (N := 8) hx hb hts (by decide +kernel) hown hK hP 0 rfl rfl 1 (by decide) (hts (.fieldLink RX3 17 "TrackDisk" "sectors" "I") (by decide +kernel)) (fun _ h9 => h9) rfl dX3_count_50 ?_
  have hP9 : va_P D vwCl (tdW κ T S ad bs sm pl r0 r1 tk vo du nd wt wx wb wn tp tn ts dn) H := hP
  have hD9 : va_D A (tdW κ T S ad bs sm pl r0 r1 tk vo du nd wt wx wb wn tp tn ts dn) := hD
  exact W.iret hx hb hr (fun t ht _ => ⟨⟨rfl, by rw [ht]; exact hP9, hD9⟩, hS.F ht⟩) hS.2.2 dX3_count_53 hlocks

set_option maxHeartbeats 4000000 in
set_option maxRecDepth 100000 in
/-- count(2) -/
theorem c_count_2 (l : Launch) (D : va_G) (κ : Nat → ClassId) (sz : Nat) (T S : Nat) (ad : Nat → Nat) (bs sm pl r0 r1 : Nat → Int32) (tk vo : Int32) (du : Nat → Option Nat) (nd : Int32) (wt wx wb : Nat → Int32) (wn : Int32) (tp : Nat → Int32) (tn ts dn : Int32)  : Met l yX3_count wsX3_count ({ frames := 3, cells := 0, slots := 0, locals := 68 }) (va_Pc [.ref ((ad 0)), .int (nI 2)] (mu_B D κ (tdW κ T S ad bs sm pl r0 r1 tk vo du nd wt wx wb wn tp tn ts dn) sz)) (mu_Q D (some (.int (wn))) (tdW κ T S ad bs sm pl r0 r1 tk vo du nd wt wx wb wn tp tn ts dn) (va_A (tdW κ T S ad bs sm pl r0 r1 tk vo du nd wt wx wb wn tp tn ts dn) sz)) 0 0 (va_A (tdW κ T S ad bs sm pl r0 r1 tk vo du nd wt wx wb wn tp tn ts dn) sz) := by
  refine Met.ofW (cc := cX3_count) (maxL := 2) (ret := (some .int)) (by decide) rfl ?_
  intro p e s m args below meth c s₁ B hml hv
  obtain ⟨rfl, hsz, hP, hK, hD0⟩ := hv
  have hx := B.exec
  have hb := B.bytes
  have hr := B.returns
  have hts := atoms_spec (ws := wsX3_count) B.pre
  have hown : s.vm.findClass RX3 = some m.cls := findClass_of_methodNamed B.named
  have hlocks := B.notSynchronized
  subst hsz
  have hD := hD0.self (sz := s.heap.size)
  generalize hAe : va_A (tdW κ T S ad bs sm pl r0 r1 tk vo du nd wt wx wb wn tp tn ts dn) s.heap.size = A at hD ⊢
  have hA : ∀ q : Nat, s.heap.size ≤ q → A q := fun q h => by rw [← hAe]; exact Or.inr h
  refine W.gen (P := fun H locs => va_P D vwCl (tdW κ T S ad bs sm pl r0 r1 tk vo du nd wt wx wb wn tp tn ts dn) H ∧ va_S A s.heap H locs) (fun H locs h => ?_) ⟨hP, va_S.rf⟩
  clear hP
  obtain ⟨hP, hS⟩ := h
  have hl := lv_entry ([.ref ((ad 0)), .int (nI 2)]) (n := 2) (Nat.le_of_ble_eq_true rfl)
  rw [lg_entry_eq]
  generalize (lg_sl ([.ref ((ad 0)), .int (nI 2)]) ++ List.replicate (2 - (lg_sl ([.ref ((ad 0)), .int (nI 2)])).length) Slot.unset).toArray = ls at hl ⊢
  have hl : lv_has ls 2 [(0, .ref ((ad 0))), (1, .int (nI 2))] := hl
  refine lv_iload_n hx hb dX3_count_0 rfl (lv_at hl 1 rfl) ?_
  refine lv_tableIn (off := 53) (tgt := 54) hx hb dX3_count_1 (by decide) (by decide) (by decide) (by decide) ?_
  refine lv_aload_n hx hb dX3_count_54 rfl (lv_at hl 0 rfl) ?_
  refine va_get (D := D) (ci := 4) (v := .ref ((ad 8))) (C := RX3) (T := TX3) (N := 8) hx hb hts (by decide +kernel) hown hK hP 0 rfl rfl 5 (by decide) (hts (.fieldLink RX3 39 "TrackDisk" "waiting" "LTrackDisk$Waiting;") (by decide +kernel)) (fun _ h9 => h9) rfl dX3_count_55 ?_
  refine va_get (D := D) (ci := 3) (v := .int wn) (C := RX2) (T := TX2) (N := 4) hx hb hts (by decide +kernel) hown hK hP 8 rfl rfl 3 (by decide) (hts (.fieldLink RX3 58 "TrackDisk$Waiting" "size" "I") (by decide +kernel)) (fun _ h9 => h9) rfl dX3_count_58 ?_
  have hP9 : va_P D vwCl (tdW κ T S ad bs sm pl r0 r1 tk vo du nd wt wx wb wn tp tn ts dn) H := hP
  have hD9 : va_D A (tdW κ T S ad bs sm pl r0 r1 tk vo du nd wt wx wb wn tp tn ts dn) := hD
  exact W.iret hx hb hr (fun t ht _ => ⟨⟨rfl, by rw [ht]; exact hP9, hD9⟩, hS.F ht⟩) hS.2.2 dX3_count_61 hlocks

set_option maxHeartbeats 4000000 in
set_option maxRecDepth 100000 in
/-- count(4) -/
theorem c_count_4 (l : Launch) (D : va_G) (κ : Nat → ClassId) (sz : Nat) (T S : Nat) (ad : Nat → Nat) (bs sm pl r0 r1 : Nat → Int32) (tk vo : Int32) (du : Nat → Option Nat) (nd : Int32) (wt wx wb : Nat → Int32) (wn : Int32) (tp : Nat → Int32) (tn ts dn : Int32)  : Met l yX3_count wsX3_count ({ frames := 3, cells := 0, slots := 0, locals := 68 }) (va_Pc [.ref ((ad 0)), .int (nI 4)] (mu_B D κ (tdW κ T S ad bs sm pl r0 r1 tk vo du nd wt wx wb wn tp tn ts dn) sz)) (mu_Q D (some (.int (nd))) (tdW κ T S ad bs sm pl r0 r1 tk vo du nd wt wx wb wn tp tn ts dn) (va_A (tdW κ T S ad bs sm pl r0 r1 tk vo du nd wt wx wb wn tp tn ts dn) sz)) 0 0 (va_A (tdW κ T S ad bs sm pl r0 r1 tk vo du nd wt wx wb wn tp tn ts dn) sz) := by
  refine Met.ofW (cc := cX3_count) (maxL := 2) (ret := (some .int)) (by decide) rfl ?_
  intro p e s m args below meth c s₁ B hml hv
  obtain ⟨rfl, hsz, hP, hK, hD0⟩ := hv
  have hx := B.exec
  have hb := B.bytes
  have hr := B.returns
  have hts := atoms_spec (ws := wsX3_count) B.pre
  have hown : s.vm.findClass RX3 = some m.cls := findClass_of_methodNamed B.named
  have hlocks := B.notSynchronized
  subst hsz
  have hD := hD0.self (sz := s.heap.size)
  generalize hAe : va_A (tdW κ T S ad bs sm pl r0 r1 tk vo du nd wt wx wb wn tp tn ts dn) s.heap.size = A at hD ⊢
  have hA : ∀ q : Nat, s.heap.size ≤ q → A q := fun q h => by rw [← hAe]; exact Or.inr h
  refine W.gen (P := fun H locs => va_P D vwCl (tdW κ T S ad bs sm pl r0 r1 tk vo du nd wt wx wb wn tp tn ts dn) H ∧ va_S A s.heap H locs) (fun H locs h => ?_) ⟨hP, va_S.rf⟩
  clear hP
  obtain ⟨hP, hS⟩ := h
  have hl := lv_entry ([.ref ((ad 0)), .int (nI 4)]) (n := 2) (Nat.le_of_ble_eq_true rfl)
  rw [lg_entry_eq]
  generalize (lg_sl ([.ref ((ad 0)), .int (nI 4)]) ++ List.replicate (2 - (lg_sl ([.ref ((ad 0)), .int (nI 4)])).length) Slot.unset).toArray = ls at hl ⊢
  have hl : lv_has ls 2 [(0, .ref ((ad 0))), (1, .int (nI 4))] := hl
  refine lv_iload_n hx hb dX3_count_0 rfl (lv_at hl 1 rfl) ?_
  refine lv_tableIn (off := 74) (tgt := 75) hx hb dX3_count_1 (by decide) (by decide) (by decide) (by decide) ?_
  refine lv_aload_n hx hb dX3_count_75 rfl (lv_at hl 0 rfl) ?_
  refine va_get (D := D) (ci := 4) (v := .int nd) (C := RX3) (T := TX3) (N := 8) hx hb hts (by decide +kernel) hown hK hP 0 rfl rfl 4 (by decide) (hts (.fieldLink RX3 33 "TrackDisk" "dumpsMade" "I") (by decide +kernel)) (fun _ h9 => h9) rfl dX3_count_76 ?_
  have hP9 : va_P D vwCl (tdW κ T S ad bs sm pl r0 r1 tk vo du nd wt wx wb wn tp tn ts dn) H := hP
  have hD9 : va_D A (tdW κ T S ad bs sm pl r0 r1 tk vo du nd wt wx wb wn tp tn ts dn) := hD
  exact W.iret hx hb hr (fun t ht _ => ⟨⟨rfl, by rw [ht]; exact hP9, hD9⟩, hS.F ht⟩) hS.2.2 dX3_count_79 hlocks

set_option maxHeartbeats 4000000 in
set_option maxRecDepth 100000 in
/-- count(5) -/
theorem c_count_5 (l : Launch) (D : va_G) (κ : Nat → ClassId) (sz : Nat) (T S : Nat) (ad : Nat → Nat) (bs sm pl r0 r1 : Nat → Int32) (tk vo : Int32) (du : Nat → Option Nat) (nd : Int32) (wt wx wb : Nat → Int32) (wn : Int32) (tp : Nat → Int32) (tn ts dn : Int32)  : Met l yX3_count wsX3_count ({ frames := 3, cells := 0, slots := 0, locals := 68 }) (va_Pc [.ref ((ad 0)), .int (nI 5)] (mu_B D κ (tdW κ T S ad bs sm pl r0 r1 tk vo du nd wt wx wb wn tp tn ts dn) sz)) (mu_Q D (some (.int (tk))) (tdW κ T S ad bs sm pl r0 r1 tk vo du nd wt wx wb wn tp tn ts dn) (va_A (tdW κ T S ad bs sm pl r0 r1 tk vo du nd wt wx wb wn tp tn ts dn) sz)) 0 0 (va_A (tdW κ T S ad bs sm pl r0 r1 tk vo du nd wt wx wb wn tp tn ts dn) sz) := by
  refine Met.ofW (cc := cX3_count) (maxL := 2) (ret := (some .int)) (by decide) rfl ?_
  intro p e s m args below meth c s₁ B hml hv
  obtain ⟨rfl, hsz, hP, hK, hD0⟩ := hv
  have hx := B.exec
  have hb := B.bytes
  have hr := B.returns
  have hts := atoms_spec (ws := wsX3_count) B.pre
  have hown : s.vm.findClass RX3 = some m.cls := findClass_of_methodNamed B.named
  have hlocks := B.notSynchronized
  subst hsz
  have hD := hD0.self (sz := s.heap.size)
  generalize hAe : va_A (tdW κ T S ad bs sm pl r0 r1 tk vo du nd wt wx wb wn tp tn ts dn) s.heap.size = A at hD ⊢
  have hA : ∀ q : Nat, s.heap.size ≤ q → A q := fun q h => by rw [← hAe]; exact Or.inr h
  refine W.gen (P := fun H locs => va_P D vwCl (tdW κ T S ad bs sm pl r0 r1 tk vo du nd wt wx wb wn tp tn ts dn) H ∧ va_S A s.heap H locs) (fun H locs h => ?_) ⟨hP, va_S.rf⟩
  clear hP
  obtain ⟨hP, hS⟩ := h
  have hl := lv_entry ([.ref ((ad 0)), .int (nI 5)]) (n := 2) (Nat.le_of_ble_eq_true rfl)
  rw [lg_entry_eq]
  generalize (lg_sl ([.ref ((ad 0)), .int (nI 5)]) ++ List.replicate (2 - (lg_sl ([.ref ((ad 0)), .int (nI 5)])).length) Slot.unset).toArray = ls at hl ⊢
  have hl : lv_has ls 2 [(0, .ref ((ad 0))), (1, .int (nI 5))] := hl
  refine lv_iload_n hx hb dX3_count_0 rfl (lv_at hl 1 rfl) ?_
  refine lv_tableIn (off := 79) (tgt := 80) hx hb dX3_count_1 (by decide) (by decide) (by decide) (by decide) ?_
  refine lv_aload_n hx hb dX3_count_80 rfl (lv_at hl 0 rfl) ?_
  refine va_get (D := D) (ci := 4) (v := .ref ((ad 1))) (C := RX3) (T := TX3) (N := 8) hx hb hts (by decide +kernel) hown hK hP 0 rfl rfl 2 (by decide) (hts (.fieldLink RX3 25 "TrackDisk" "disk" "LTrackDisk$Surface;") (by decide +kernel)) (fun _ h9 => h9) rfl dX3_count_81 ?_
  refine va_get (D := D) (ci := 2) (v := .int tk) (C := RX1) (T := TX1) (N := 9) hx hb hts (by decide +kernel) hown hK hP 1 rfl rfl 7 (by decide) (hts (.fieldLink RX3 127 "TrackDisk$Surface" "taken" "I") (by decide +kernel)) (fun _ h9 => h9) rfl dX3_count_84 ?_
  have hP9 : va_P D vwCl (tdW κ T S ad bs sm pl r0 r1 tk vo du nd wt wx wb wn tp tn ts dn) H := hP
  have hD9 : va_D A (tdW κ T S ad bs sm pl r0 r1 tk vo du nd wt wx wb wn tp tn ts dn) := hD
  exact W.iret hx hb hr (fun t ht _ => ⟨⟨rfl, by rw [ht]; exact hP9, hD9⟩, hS.F ht⟩) hS.2.2 dX3_count_87 hlocks

set_option maxHeartbeats 4000000 in
set_option maxRecDepth 100000 in
/-- count(3) -/
theorem c_count_30 (l : Launch) (D : va_G) (κ : Nat → ClassId) (sz : Nat) (T S : Nat) (ad : Nat → Nat) (bs sm pl r0 r1 : Nat → Int32) (tk vo : Int32) (du : Nat → Option Nat) (nd : Int32) (wt wx wb : Nat → Int32) (wn : Int32) (tp : Nat → Int32) (tn ts : Int32)   : Met l yX3_count wsX3_count ({ frames := 3, cells := 0, slots := 0, locals := 68 }) (va_Pc [.ref ((ad 0)), .int (nI 3)] (mu_B D κ (tdW κ T S ad bs sm pl r0 r1 tk vo du nd wt wx wb wn tp tn ts (nI 0)) sz)) (mu_Q D (some (.int (nI 0))) (tdW κ T S ad bs sm pl r0 r1 tk vo du nd wt wx wb wn tp tn ts (nI 0)) (va_A (tdW κ T S ad bs sm pl r0 r1 tk vo du nd wt wx wb wn tp tn ts (nI 0)) sz)) 0 0 (va_A (tdW κ T S ad bs sm pl r0 r1 tk vo du nd wt wx wb wn tp tn ts (nI 0)) sz) := by
  refine Met.ofW (cc := cX3_count) (maxL := 2) (ret := (some .int)) (by decide) rfl ?_
  intro p e s m args below meth c s₁ B hml hv
  obtain ⟨rfl, hsz, hP, hK, hD0⟩ := hv
  have hx := B.exec
  have hb := B.bytes
  have hr := B.returns
  have hts := atoms_spec (ws := wsX3_count) B.pre
  have hown : s.vm.findClass RX3 = some m.cls := findClass_of_methodNamed B.named
  have hlocks := B.notSynchronized
  subst hsz
  have hD := hD0.self (sz := s.heap.size)
  generalize hAe : va_A (tdW κ T S ad bs sm pl r0 r1 tk vo du nd wt wx wb wn tp tn ts (nI 0)) s.heap.size = A at hD ⊢
  have hA : ∀ q : Nat, s.heap.size ≤ q → A q := fun q h => by rw [← hAe]; exact Or.inr h
  refine W.gen (P := fun H locs => va_P D vwCl (tdW κ T S ad bs sm pl r0 r1 tk vo du nd wt wx wb wn tp tn ts (nI 0)) H ∧ va_S A s.heap H locs) (fun H locs h => ?_) ⟨hP, va_S.rf⟩
  clear hP
  obtain ⟨hP, hS⟩ := h
  have hl := lv_entry ([.ref ((ad 0)), .int (nI 3)]) (n := 2) (Nat.le_of_ble_eq_true rfl)
  rw [lg_entry_eq]
  generalize (lg_sl ([.ref ((ad 0)), .int (nI 3)]) ++ List.replicate (2 - (lg_sl ([.ref ((ad 0)), .int (nI 3)])).length) Slot.unset).toArray = ls at hl ⊢
  have hl : lv_has ls 2 [(0, .ref ((ad 0))), (1, .int (nI 3))] := hl
  refine lv_iload_n hx hb dX3_count_0 rfl (lv_at hl 1 rfl) ?_
  refine lv_tableIn (off := 61) (tgt := 62) hx hb dX3_count_1 (by decide) (by decide) (by decide) (by decide) ?_
  refine lv_aload_n hx hb dX3_count_62 rfl (lv_at hl 0 rfl) ?_
  refine va_get (D := D) (ci := 4) (v := .int (nI 0)) (C := RX3) (T := TX3) (N := 8) hx hb hts (by decide +kernel) hown hK hP 0 rfl rfl 7 (by decide) (hts (.fieldLink RX3 50 "TrackDisk" "down" "Z") (by decide +kernel)) (fun _ h9 => h9) rfl dX3_count_63 ?_
  refine lv_if_eq (tgt := 73) hx hb dX3_count_66 (by decide) (fun c_66 => ?_) (fun c_66 => ?_)
  · skip
    refine lv_iconst (v := nI 0) hx hb dX3_count_73 (by decide) ?_
    have hP9 : va_P D vwCl (tdW κ T S ad bs sm pl r0 r1 tk vo du nd wt wx wb wn tp tn ts (nI 0)) H := hP
    have hD9 : va_D A (tdW κ T S ad bs sm pl r0 r1 tk vo du nd wt wx wb wn tp tn ts (nI 0)) := hD
    exact W.iret hx hb hr (fun t ht _ => ⟨⟨rfl, by rw [ht]; exact hP9, hD9⟩, hS.F ht⟩) hS.2.2 dX3_count_74 hlocks
  · exact absurd (by decide) c_66

set_option maxHeartbeats 4000000 in
set_option maxRecDepth 100000 in
/-- count(3) -/
theorem c_count_31 (l : Launch) (D : va_G) (κ : Nat → ClassId) (sz : Nat) (T S : Nat) (ad : Nat → Nat) (bs sm pl r0 r1 : Nat → Int32) (tk vo : Int32) (du : Nat → Option Nat) (nd : Int32) (wt wx wb : Nat → Int32) (wn : Int32) (tp : Nat → Int32) (tn ts : Int32)   : Met l yX3_count wsX3_count ({ frames := 3, cells := 0, slots := 0, locals := 68 }) (va_Pc [.ref ((ad 0)), .int (nI 3)] (mu_B D κ (tdW κ T S ad bs sm pl r0 r1 tk vo du nd wt wx wb wn tp tn ts (nI 1)) sz)) (mu_Q D (some (.int (nI 1))) (tdW κ T S ad bs sm pl r0 r1 tk vo du nd wt wx wb wn tp tn ts (nI 1)) (va_A (tdW κ T S ad bs sm pl r0 r1 tk vo du nd wt wx wb wn tp tn ts (nI 1)) sz)) 0 0 (va_A (tdW κ T S ad bs sm pl r0 r1 tk vo du nd wt wx wb wn tp tn ts (nI 1)) sz) := by
  refine Met.ofW (cc := cX3_count) (maxL := 2) (ret := (some .int)) (by decide) rfl ?_
  intro p e s m args below meth c s₁ B hml hv
  obtain ⟨rfl, hsz, hP, hK, hD0⟩ := hv
  have hx := B.exec
  have hb := B.bytes
  have hr := B.returns
  have hts := atoms_spec (ws := wsX3_count) B.pre
  have hown : s.vm.findClass RX3 = some m.cls := findClass_of_methodNamed B.named
  have hlocks := B.notSynchronized
  subst hsz
  have hD := hD0.self (sz := s.heap.size)
  generalize hAe : va_A (tdW κ T S ad bs sm pl r0 r1 tk vo du nd wt wx wb wn tp tn ts (nI 1)) s.heap.size = A at hD ⊢
  have hA : ∀ q : Nat, s.heap.size ≤ q → A q := fun q h => by rw [← hAe]; exact Or.inr h
  refine W.gen (P := fun H locs => va_P D vwCl (tdW κ T S ad bs sm pl r0 r1 tk vo du nd wt wx wb wn tp tn ts (nI 1)) H ∧ va_S A s.heap H locs) (fun H locs h => ?_) ⟨hP, va_S.rf⟩
  clear hP
  obtain ⟨hP, hS⟩ := h
  have hl := lv_entry ([.ref ((ad 0)), .int (nI 3)]) (n := 2) (Nat.le_of_ble_eq_true rfl)
  rw [lg_entry_eq]
  generalize (lg_sl ([.ref ((ad 0)), .int (nI 3)]) ++ List.replicate (2 - (lg_sl ([.ref ((ad 0)), .int (nI 3)])).length) Slot.unset).toArray = ls at hl ⊢
  have hl : lv_has ls 2 [(0, .ref ((ad 0))), (1, .int (nI 3))] := hl
  refine lv_iload_n hx hb dX3_count_0 rfl (lv_at hl 1 rfl) ?_
  refine lv_tableIn (off := 61) (tgt := 62) hx hb dX3_count_1 (by decide) (by decide) (by decide) (by decide) ?_
  refine lv_aload_n hx hb dX3_count_62 rfl (lv_at hl 0 rfl) ?_
  refine va_get (D := D) (ci := 4) (v := .int (nI 1)) (C := RX3) (T := TX3) (N := 8) hx hb hts (by decide +kernel) hown hK hP 0 rfl rfl 7 (by decide) (hts (.fieldLink RX3 50 "TrackDisk" "down" "Z") (by decide +kernel)) (fun _ h9 => h9) rfl dX3_count_63 ?_
  refine lv_if_eq (tgt := 73) hx hb dX3_count_66 (by decide) (fun c_66 => ?_) (fun c_66 => ?_)
  · exact absurd c_66 (by decide)
  · skip
    refine lv_iconst (v := nI 1) hx hb dX3_count_69 (by decide) ?_
    refine lv_goto (tgt := 74) hx hb dX3_count_70 (by decide) ?_
    have hP9 : va_P D vwCl (tdW κ T S ad bs sm pl r0 r1 tk vo du nd wt wx wb wn tp tn ts (nI 1)) H := hP
    have hD9 : va_D A (tdW κ T S ad bs sm pl r0 r1 tk vo du nd wt wx wb wn tp tn ts (nI 1)) := hD
    exact W.iret hx hb hr (fun t ht _ => ⟨⟨rfl, by rw [ht]; exact hP9, hD9⟩, hS.F ht⟩) hS.2.2 dX3_count_74 hlocks

set_option maxHeartbeats 4000000 in
set_option maxRecDepth 100000 in
/-- count of others -/
theorem c_count_no (l : Launch) (D : va_G) (κ : Nat → ClassId) (sz : Nat) (T S : Nat) (ad : Nat → Nat) (bs sm pl r0 r1 : Nat → Int32) (tk vo : Int32) (du : Nat → Option Nat) (nd : Int32) (wt wx wb : Nat → Int32) (wn : Int32) (tp : Nat → Int32) (tn ts dn : Int32) (x : Int32) (hno : x.toInt < 0 ∨ 6 < x.toInt) : Met l yX3_count wsX3_count ({ frames := 3, cells := 0, slots := 0, locals := 68 }) (va_Pc [.ref ((ad 0)), .int x] (mu_B D κ (tdW κ T S ad bs sm pl r0 r1 tk vo du nd wt wx wb wn tp tn ts dn) sz)) (mu_Q D (some (.int ((-1)))) (tdW κ T S ad bs sm pl r0 r1 tk vo du nd wt wx wb wn tp tn ts dn) (va_A (tdW κ T S ad bs sm pl r0 r1 tk vo du nd wt wx wb wn tp tn ts dn) sz)) 0 0 (va_A (tdW κ T S ad bs sm pl r0 r1 tk vo du nd wt wx wb wn tp tn ts dn) sz) := by
  refine Met.ofW (cc := cX3_count) (maxL := 2) (ret := (some .int)) (by decide) rfl ?_
  intro p e s m args below meth c s₁ B hml hv
  obtain ⟨rfl, hsz, hP, hK, hD0⟩ := hv
  have hx := B.exec
  have hb := B.bytes
  have hr := B.returns
  have hts := atoms_spec (ws := wsX3_count) B.pre
  have hown : s.vm.findClass RX3 = some m.cls := findClass_of_methodNamed B.named
  have hlocks := B.notSynchronized
  subst hsz
  have hD := hD0.self (sz := s.heap.size)
  generalize hAe : va_A (tdW κ T S ad bs sm pl r0 r1 tk vo du nd wt wx wb wn tp tn ts dn) s.heap.size = A at hD ⊢
  have hA : ∀ q : Nat, s.heap.size ≤ q → A q := fun q h => by rw [← hAe]; exact Or.inr h
  refine W.gen (P := fun H locs => va_P D vwCl (tdW κ T S ad bs sm pl r0 r1 tk vo du nd wt wx wb wn tp tn ts dn) H ∧ va_S A s.heap H locs) (fun H locs h => ?_) ⟨hP, va_S.rf⟩
  clear hP
  obtain ⟨hP, hS⟩ := h
  have hl := lv_entry ([.ref ((ad 0)), .int x]) (n := 2) (Nat.le_of_ble_eq_true rfl)
  rw [lg_entry_eq]
  generalize (lg_sl ([.ref ((ad 0)), .int x]) ++ List.replicate (2 - (lg_sl ([.ref ((ad 0)), .int x])).length) Slot.unset).toArray = ls at hl ⊢
  have hl : lv_has ls 2 [(0, .ref ((ad 0))), (1, .int x)] := hl
  refine lv_iload_n hx hb dX3_count_0 rfl (lv_at hl 1 rfl) ?_
  refine lv_tableOut (tgt := 93) hx hb dX3_count_1 (hno) (by decide) ?_
  refine lv_iconst (v := (-1)) hx hb dX3_count_93 (by decide) ?_
  have hP9 : va_P D vwCl (tdW κ T S ad bs sm pl r0 r1 tk vo du nd wt wx wb wn tp tn ts dn) H := hP
  have hD9 : va_D A (tdW κ T S ad bs sm pl r0 r1 tk vo du nd wt wx wb wn tp tn ts dn) := hD
  exact W.iret hx hb hr (fun t ht _ => ⟨⟨rfl, by rw [ht]; exact hP9, hD9⟩, hS.F ht⟩) hS.2.2 dX3_count_94 hlocks

set_option maxHeartbeats 4000000 in
set_option maxRecDepth 100000 in
/-- dumpOf -/
theorem c_dumpOf_lo (l : Launch) (D : va_G) (κ : Nat → ClassId) (T S : Nat) (ad : Nat → Nat) (bs sm pl r0 r1 : Nat → Int32) (tk vo : Int32) (du : Nat → Option Nat) (nd : Int32) (wt wx wb : Nat → Int32) (wn : Int32) (tp : Nat → Int32) (tn ts dn : Int32) (x : Int32) (hlo : x < nI 1) : Met l yX3_dumpOf wsX3_dumpOf ({ frames := 0, cells := 0, slots := 0, locals := 0 }) (va_Pc [.ref ((ad 0)), .int x] (pu_B D κ (tdW κ T S ad bs sm pl r0 r1 tk vo du nd wt wx wb wn tp tn ts dn))) (pu_Q (.null)) 0 0 pu_N := by
  refine Met.ofW (cc := cX3_dumpOf) (maxL := 2) (ret := (some (.object "TrackDisk$Surface"))) (by decide) rfl ?_
  intro p e s m args below meth c s₁ B hml hv
  obtain ⟨rfl, hP, hK⟩ := hv
  have hx := B.exec
  have hb := B.bytes
  have hr := B.returns
  have hts := atoms_spec (ws := wsX3_dumpOf) B.pre
  have hown : s.vm.findClass RX3 = some m.cls := findClass_of_methodNamed B.named
  have hlocks := B.notSynchronized
  have hl := lv_entry ([.ref ((ad 0)), .int x]) (n := 2) (Nat.le_of_ble_eq_true rfl)
  rw [lg_entry_eq]
  generalize (lg_sl ([.ref ((ad 0)), .int x]) ++ List.replicate (2 - (lg_sl ([.ref ((ad 0)), .int x])).length) Slot.unset).toArray = ls at hl ⊢
  have hl : lv_has ls 2 [(0, .ref ((ad 0))), (1, .int x)] := hl
  refine lv_iload_n hx hb dX3_dumpOf_0 rfl (lv_at hl 1 rfl) ?_
  refine lv_iconst (v := nI 1) hx hb dX3_dumpOf_1 (by decide) ?_
  refine lv_icmp_lt (tgt := 24) hx hb dX3_dumpOf_2 (by decide) (fun c_2 => ?_) (fun c_2 => ?_)
  · skip
    refine lv_null hx hb dX3_dumpOf_24 ?_
    exact pu_aret hx hb hr hlocks (Or.inl ⟨_, rfl⟩) (Or.inl rfl) dX3_dumpOf_25
  · exact absurd hlo c_2

set_option maxHeartbeats 4000000 in
set_option maxRecDepth 100000 in
/-- dumpOf -/
theorem c_dumpOf_hi (l : Launch) (D : va_G) (κ : Nat → ClassId) (T S : Nat) (ad : Nat → Nat) (bs sm pl r0 r1 : Nat → Int32) (tk vo : Int32) (du : Nat → Option Nat) (nd : Int32) (wt wx wb : Nat → Int32) (wn : Int32) (tp : Nat → Int32) (tn ts dn : Int32) (x : Int32) (hlo : ¬ x < nI 1) (hhi : nd < x) : Met l yX3_dumpOf wsX3_dumpOf ({ frames := 0, cells := 0, slots := 0, locals := 0 }) (va_Pc [.ref ((ad 0)), .int x] (pu_B D κ (tdW κ T S ad bs sm pl r0 r1 tk vo du nd wt wx wb wn tp tn ts dn))) (pu_Q (.null)) 0 0 pu_N := by
  refine Met.ofW (cc := cX3_dumpOf) (maxL := 2) (ret := (some (.object "TrackDisk$Surface"))) (by decide) rfl ?_
  intro p e s m args below meth c s₁ B hml hv
  obtain ⟨rfl, hP, hK⟩ := hv
  have hx := B.exec
  have hb := B.bytes
  have hr := B.returns
  have hts := atoms_spec (ws := wsX3_dumpOf) B.pre
  have hown : s.vm.findClass RX3 = some m.cls := findClass_of_methodNamed B.named
  have hlocks := B.notSynchronized
  have hl := lv_entry ([.ref ((ad 0)), .int x]) (n := 2) (Nat.le_of_ble_eq_true rfl)
  rw [lg_entry_eq]
  generalize (lg_sl ([.ref ((ad 0)), .int x]) ++ List.replicate (2 - (lg_sl ([.ref ((ad 0)), .int x])).length) Slot.unset).toArray = ls at hl ⊢
  have hl : lv_has ls 2 [(0, .ref ((ad 0))), (1, .int x)] := hl
  refine lv_iload_n hx hb dX3_dumpOf_0 rfl (lv_at hl 1 rfl) ?_
  refine lv_iconst (v := nI 1) hx hb dX3_dumpOf_1 (by decide) ?_
  refine lv_icmp_lt (tgt := 24) hx hb dX3_dumpOf_2 (by decide) (fun c_2 => ?_) (fun c_2 => ?_)
  · exact absurd c_2 hlo
  · skip
    refine lv_iload_n hx hb dX3_dumpOf_5 rfl (lv_at hl 1 rfl) ?_
    refine lv_aload_n hx hb dX3_dumpOf_6 rfl (lv_at hl 0 rfl) ?_
    refine va_get (D := D) (ci := 4) (v := .int nd) (C := RX3) (T := TX3) (N := 8) hx hb hts (by decide +kernel) hown hK hP 0 rfl rfl 4 (by decide) (hts (.fieldLink RX3 33 "TrackDisk" "dumpsMade" "I") (by decide +kernel)) (fun _ h9 => h9) rfl dX3_dumpOf_7 ?_
    refine lv_icmp_gt (tgt := 24) hx hb dX3_dumpOf_10 (by decide) (fun c_10 => ?_) (fun c_10 => ?_)
    · skip
      refine lv_null hx hb dX3_dumpOf_24 ?_
      exact pu_aret hx hb hr hlocks (Or.inl ⟨_, rfl⟩) (Or.inl rfl) dX3_dumpOf_25
    · exact absurd hhi c_10

set_option maxHeartbeats 4000000 in
set_option maxRecDepth 100000 in
/-- dumpOf -/
theorem c_dumpOf (l : Launch) (D : va_G) (κ : Nat → ClassId) (T S : Nat) (ad : Nat → Nat) (bs sm pl r0 r1 : Nat → Int32) (tk vo : Int32) (du : Nat → Option Nat) (wt wx wb : Nat → Int32) (wn : Int32) (tp : Nat → Int32) (tn ts dn : Int32)  (d k a : Nat) (hk : k < d) (hd : d ≤ 5) (hdu : du k = some a) : Met l yX3_dumpOf wsX3_dumpOf ({ frames := 0, cells := 0, slots := 0, locals := 0 }) (va_Pc [.ref ((ad 0)), .int (nI (k + 1))] (pu_B D κ (tdW κ T S ad bs sm pl r0 r1 tk vo du (nI d) wt wx wb wn tp tn ts dn))) (pu_Q (.ref a)) 0 0 pu_N := by
  refine Met.ofW (cc := cX3_dumpOf) (maxL := 2) (ret := (some (.object "TrackDisk$Surface"))) (by decide) rfl ?_
  intro p e s m args below meth c s₁ B hml hv
  obtain ⟨rfl, hP, hK⟩ := hv
  have hx := B.exec
  have hb := B.bytes
  have hr := B.returns
  have hts := atoms_spec (ws := wsX3_dumpOf) B.pre
  have hown : s.vm.findClass RX3 = some m.cls := findClass_of_methodNamed B.named
  have hlocks := B.notSynchronized
  have hl := lv_entry ([.ref ((ad 0)), .int (nI (k + 1))]) (n := 2) (Nat.le_of_ble_eq_true rfl)
  rw [lg_entry_eq]
  generalize (lg_sl ([.ref ((ad 0)), .int (nI (k + 1))]) ++ List.replicate (2 - (lg_sl ([.ref ((ad 0)), .int (nI (k + 1))])).length) Slot.unset).toArray = ls at hl ⊢
  have hl : lv_has ls 2 [(0, .ref ((ad 0))), (1, .int (nI (k + 1)))] := hl
  refine lv_iload_n hx hb dX3_dumpOf_0 rfl (lv_at hl 1 rfl) ?_
  refine lv_iconst (v := nI 1) hx hb dX3_dumpOf_1 (by decide) ?_
  refine lv_icmp_lt (tgt := 24) hx hb dX3_dumpOf_2 (by decide) (fun c_2 => ?_) (fun c_2 => ?_)
  · exact absurd c_2 (nI_nlt (by omega) (by omega))
  · skip
    refine lv_iload_n hx hb dX3_dumpOf_5 rfl (lv_at hl 1 rfl) ?_
    refine lv_aload_n hx hb dX3_dumpOf_6 rfl (lv_at hl 0 rfl) ?_
    refine va_get (D := D) (ci := 4) (v := .int (nI d)) (C := RX3) (T := TX3) (N := 8) hx hb hts (by decide +kernel) hown hK hP 0 rfl rfl 4 (by decide) (hts (.fieldLink RX3 33 "TrackDisk" "dumpsMade" "I") (by decide +kernel)) (fun _ h9 => h9) rfl dX3_dumpOf_7 ?_
    refine lv_icmp_gt (tgt := 24) hx hb dX3_dumpOf_10 (by decide) (fun c_10 => ?_) (fun c_10 => ?_)
    · exact absurd c_10 (nI_nlt (by omega) (by omega))
    · skip
      refine lv_aload_n hx hb dX3_dumpOf_13 rfl (lv_at hl 0 rfl) ?_
      refine va_get (D := D) (ci := 4) (v := .ref ((ad 7))) (C := RX3) (T := TX3) (N := 8) hx hb hts (by decide +kernel) hown hK hP 0 rfl rfl 3 (by decide) (hts (.fieldLink RX3 29 "TrackDisk" "dumps" "[LTrackDisk$Surface;") (by decide +kernel)) (fun _ h9 => h9) rfl dX3_dumpOf_14 ?_
      refine lv_iload_n hx hb dX3_dumpOf_17 rfl (lv_at hl 1 rfl) ?_
      refine lv_iconst (v := nI 1) hx hb dX3_dumpOf_18 (by decide) ?_
      refine lv_isub hx hb dX3_dumpOf_19 ?_
      refine tp_i (y := nI k) (by rw [pk_sub (by omega)]; rfl) ?_
      refine va_aldq hx hb hK hP 7 2 rfl rfl (vp_in_nI (by omega) (by omega)) dX3_dumpOf_20 ?_
      refine tp_v (y := .ref a) (by rw [nI_clamp (by omega), hdu]; rfl) ?_
      refine lv_goto (tgt := 25) hx hb dX3_dumpOf_21 (by decide) ?_
      exact pu_aret hx hb hr hlocks (Or.inl ⟨_, rfl⟩) (Or.inr ⟨_, rfl⟩) dX3_dumpOf_25

/-! Surface: its world, the functions that its loops compute, its methods' contracts -/
def sfW (κ : Nat → ClassId) (T S : Nat) (ad : Nat → Nat) (bs sm pl r0 r1 : Nat → Int32) (tk vo : Int32) : va_W := [(ad 0, .inr (2, [.int (nI T), .int (nI S), .ref (ad 1), .ref (ad 2), .ref (ad 3), .ref (ad 4), .ref (ad 5), .int tk, .int vo])), (ad 1, .inl (κ 1, (T + 2) * S * 16, .inl bs)), (ad 2, .inl (κ 0, (T + 2) * S, .inl sm)), (ad 3, .inl (κ 0, T, .inl pl)), (ad 4, .inl (κ 0, T, .inl r0)), (ad 5, .inl (κ 0, T, .inl r1))]
/-- a place's number -/
def cl (x : Int32) : Nat := x.toNatClampNeg
theorem cl_nI {x : Int32} {n : Nat} (h : vp_in x n) (hn : n < 2 ^ 31) : x = nI (cl x) ∧ cl x < n := by
  obtain ⟨j, hj, rfl⟩ := vp_in_of h hn
  rw [show cl (nI j) = j from nI_clamp (by omega)]
  exact ⟨rfl, hj⟩
/-- one byte into a sum -/
def smS (s b : Int32) : Int32 := (((s ^^^ (b &&& nI 255)) <<< (nI 3 &&& 31)) ||| ((s ^^^ (b &&& nI 255)).toUInt32 >>> ((nI 29).toUInt32 &&& Int32.toUInt32 31)).toInt32) * (-1640531535)
def smF (f : Nat → Int32) (a : Nat) (s0 : Int32) : Nat → Int32
  | 0 => s0
  | n + 1 => smS (smF f a s0 n) (f (a + n))
/-- the sum of the sector s at the place p -/
def smA (f : Nat → Int32) (S p s : Nat) : Int32 := smF f ((p * S + s) * 16) (nI (64 * p + s)) 16
def bI (b : Bool) : Int32 := if b = true then nI 1 else nI 0
theorem bI_t {b : Bool} (h : b = true) : nI 1 = bI b := by rw [h]; rfl
theorem bI_f {b : Bool} (h : b = false) : nI 0 = bI b := by rw [h]; rfl
theorem bI_ne {b : Bool} (h : ¬ bI b = 0) : b = true := by cases b; exact absurd rfl h; rfl
theorem bI_eq {b : Bool} (h : bI b = 0) : b = false := by cases b; rfl; exact absurd h (by decide)
def cnt (f : Nat → Bool) : Nat → Nat
  | 0 => 0
  | n + 1 => cnt f n + (if f n = true then 1 else 0)
theorem cnt_t {f : Nat → Bool} {n : Nat} (h : f n = true) : cnt f (n + 1) = cnt f n + 1 := by simp [cnt, h]
theorem cnt_f {f : Nat → Bool} {n : Nat} (h : f n = false) : cnt f (n + 1) = cnt f n := by simp [cnt, h]
def cn2 (f : Nat → Nat → Bool) (S : Nat) : Nat → Nat
  | 0 => 0
  | t + 1 => cn2 f S t + cnt (f t) S
/-- whether the sector s of the track t is wrong -/
def iwF (bs sm pl : Nat → Int32) (S t s : Nat) : Bool := decide (¬ sm (cl (pl t) * S + s) = smA bs S (cl (pl t)) s)
/-- where a byte lies -/
theorem sf_lt {T S p s i : Nat} (hp : p < T + 2) (hs : s < S) (hi : i < 16) : (p * S + s) * 16 + i < (T + 2) * S * 16 := by
  have h1 : (p + 1) * S ≤ (T + 2) * S := Nat.mul_le_mul_right S (by omega)
  rw [Nat.succ_mul] at h1
  omega
theorem sf_slt {T S p s : Nat} (hp : p < T + 2) (hs : s < S) : p * S + s < (T + 2) * S := by
  have h1 : (p + 1) * S ≤ (T + 2) * S := Nat.mul_le_mul_right S (by omega)
  rw [Nat.succ_mul] at h1
  omega
theorem sf_max {T S : Nat} (hT : T ≤ 12) (hS : S ≤ 8) : (T + 2) * S ≤ 112 := Nat.le_trans (Nat.mul_le_mul (show T + 2 ≤ 14 by omega) hS) (by decide)
/-- a write's bytes -/
def flF (f : Nat → Int32) (a : Nat) (b : Int32) : Nat → Nat → Int32
  | 0 => f
  | n + 1 => upd (flF f a b n) (a + n) ((b + nI n).toInt8.toInt32)
/-- a place's sums set anew -/
def ssF (bs sm : Nat → Int32) (S p : Nat) : Nat → Nat → Int32
  | 0 => sm
  | n + 1 => upd (ssF bs sm S p n) (p * S + n) (smA bs S p n)
/-- whether one of n numbers from a on isn't 0 -/
def nzF (f : Nat → Int32) (a : Nat) : Nat → Bool
  | 0 => false
  | n + 1 => nzF f a n || decide (¬ f (a + n) = 0)

set_option maxHeartbeats 4000000 in
set_option maxRecDepth 100000 in
/-- slot(at, sector) -/
theorem c_slot (l : Launch) (D : va_G) (κ : Nat → ClassId) (T S : Nat) (ad : Nat → Nat) (bs sm pl r0 r1 : Nat → Int32) (tk vo : Int32) (a b : Nat) : Met l yX1_slot wsX1_slot ({ frames := 0, cells := 0, slots := 0, locals := 0 }) (va_Pc [.ref ((ad 0)), .int (nI a), .int (nI b)] (pu_B D κ (sfW κ T S ad bs sm pl r0 r1 tk vo))) (pu_Q (.int (nI (a * S + b)))) 0 0 pu_N := by
  refine Met.ofW (cc := cX1_slot) (maxL := 3) (ret := (some .int)) (by decide) rfl ?_
  intro p e s m args below meth c s₁ B hml hv
  obtain ⟨rfl, hP, hK⟩ := hv
  have hx := B.exec
  have hb := B.bytes
  have hr := B.returns
  have hts := atoms_spec (ws := wsX1_slot) B.pre
  have hown : s.vm.findClass RX1 = some m.cls := findClass_of_methodNamed B.named
  have hlocks := B.notSynchronized
  have hl := lv_entry ([.ref ((ad 0)), .int (nI a), .int (nI b)]) (n := 3) (Nat.le_of_ble_eq_true rfl)
  rw [lg_entry_eq]
  generalize (lg_sl ([.ref ((ad 0)), .int (nI a), .int (nI b)]) ++ List.replicate (3 - (lg_sl ([.ref ((ad 0)), .int (nI a), .int (nI b)])).length) Slot.unset).toArray = ls at hl ⊢
  have hl : lv_has ls 3 [(0, .ref ((ad 0))), (1, .int (nI a)), (2, .int (nI b))] := hl
  refine lv_iload_n hx hb dX1_slot_0 rfl (lv_at hl 1 rfl) ?_
  refine lv_aload_n hx hb dX1_slot_1 rfl (lv_at hl 0 rfl) ?_
  refine va_get (D := D) (ci := 2) (v := .int (nI S)) (C := RX1) (T := TX1) (N := 9) hx hb hts (by decide +kernel) hown hK hP 0 rfl rfl 1 (by decide) (hts (.fieldLink RX1 15 "TrackDisk$Surface" "sectors" "I") (by decide +kernel)) (fun _ h9 => h9) rfl dX1_slot_2 ?_
  refine lv_imul hx hb dX1_slot_5 ?_
  refine tp_i (y := nI (a * S)) (by exact pk_mul _ _) ?_
  refine lv_iload_n hx hb dX1_slot_6 rfl (lv_at hl 2 rfl) ?_
  refine lv_iadd hx hb dX1_slot_7 ?_
  refine tp_i (y := nI ((a * S) + b)) (by exact nI_add _ _) ?_
  refine tp_i (y := nI (a * S + b)) (by first | rfl | (simp only []; done)) ?_
  exact pu_iret hx hb hr hlocks dX1_slot_8

set_option maxHeartbeats 4000000 in
set_option maxRecDepth 100000 in
/-- sumOf(at, sector) -/
theorem c_sumOf (l : Launch) (D : va_G) (κ : Nat → ClassId) (T S : Nat) (ad : Nat → Nat) (bs sm pl r0 r1 : Nat → Int32) (tk vo : Int32) (hT : T ≤ 12) (hS8 : S ≤ 8) (a b : Nat) (ha : a < T + 2) (hb0 : b < S) : Met l yX1_sumOf wsX1_sumOf ({ frames := 1, cells := 0, slots := 0, locals := 22 }) (va_Pc [.ref ((ad 0)), .int (nI a), .int (nI b)] (pu_B D κ (sfW κ T S ad bs sm pl r0 r1 tk vo))) (pu_Q (.int (smA bs S a b))) 0 0 pu_N := by
  refine Met.ofW (cc := cX1_sumOf) (maxL := 7) (ret := (some .int)) (by decide) rfl ?_
  intro p e s m args below meth c s₁ B hml hv
  obtain ⟨rfl, hP, hK⟩ := hv
  have hx := B.exec
  have hb := B.bytes
  have hr := B.returns
  have hts := atoms_spec (ws := wsX1_sumOf) B.pre
  have hown : s.vm.findClass RX1 = some m.cls := findClass_of_methodNamed B.named
  have hlocks := B.notSynchronized
  have hl := lv_entry ([.ref ((ad 0)), .int (nI a), .int (nI b)]) (n := 7) (Nat.le_of_ble_eq_true rfl)
  rw [lg_entry_eq]
  generalize (lg_sl ([.ref ((ad 0)), .int (nI a), .int (nI b)]) ++ List.replicate (7 - (lg_sl ([.ref ((ad 0)), .int (nI a), .int (nI b)])).length) Slot.unset).toArray = ls at hl ⊢
  have hl : lv_has ls 7 [(0, .ref ((ad 0))), (1, .int (nI a)), (2, .int (nI b))] := hl
  have hmx := sf_max hT hS8
  refine lv_aload_n hx hb dX1_sumOf_0 rfl (lv_at hl 0 rfl) ?_
  refine lv_iload_n hx hb dX1_sumOf_1 rfl (lv_at hl 1 rfl) ?_
  refine lv_iload_n hx hb dX1_sumOf_2 rfl (lv_at hl 2 rfl) ?_
  have hPc := hP.sub (ws' := sfW κ T S ad bs sm pl r0 r1 tk vo) [0, 1, 2, 3, 4, 5] rfl
  refine pu_call (va_runV (As := [.int (nI a), .int (nI b)]) (rest := []) ⟨hx, hb, hml, hown, hts⟩ (c_slot l D κ T S ad bs sm pl r0 r1 tk vo a b) (cwV 2 hts gX1_sumOf_X1_slot rfl rfl rfl (by decide +kernel) ⟨Nat.le_of_ble_eq_true rfl, Nat.le_of_ble_eq_true rfl⟩) ⟨pu_blind, va_recv hK hPc (ci := 2) (q0 := 0) rfl rfl, pu_pre hK hPc⟩ rfl rfl hl.1 rfl (lv_room (Nat.le_of_ble_eq_true rfl)) dX1_sumOf_3 ⟨Nat.le_of_ble_eq_true rfl, Nat.le_of_ble_eq_true rfl⟩) ?_
  refine lv_bipush (v := nI 16) hx hb dX1_sumOf_6 (by decide) ?_
  refine lv_imul hx hb dX1_sumOf_8 ?_
  refine tp_i (y := nI ((a * S + b) * 16)) (by exact pk_mul _ _) ?_
  refine lv_istore_n (lv' := [(3, .int (nI ((a * S + b) * 16))), (0, .ref ((ad 0))), (1, .int (nI a)), (2, .int (nI b))]) hx hb dX1_sumOf_9 rfl hl (by decide) rfl (fun ls hl => ?_)
  refine lv_bipush (v := nI 64) hx hb dX1_sumOf_10 (by decide) ?_
  refine lv_iload_n hx hb dX1_sumOf_12 rfl (lv_at hl 2 rfl) ?_
  refine lv_imul hx hb dX1_sumOf_13 ?_
  refine tp_i (y := nI (64 * a)) (by exact pk_mul _ _) ?_
  refine lv_iload_n hx hb dX1_sumOf_14 rfl (lv_at hl 3 rfl) ?_
  refine lv_iadd hx hb dX1_sumOf_15 ?_
  refine tp_i (y := nI ((64 * a) + b)) (by exact nI_add _ _) ?_
  refine lv_istore (lv' := [(4, .int (nI ((64 * a) + b))), (3, .int (nI ((a * S + b) * 16))), (0, .ref ((ad 0))), (1, .int (nI a)), (2, .int (nI b))]) hx hb dX1_sumOf_16 hl (by decide) rfl (fun ls hl => ?_)
  refine lv_iconst (v := nI 0) hx hb dX1_sumOf_18 (by decide) ?_
  refine lv_istore (lv' := [(5, .int (nI 0)), (4, .int (nI ((64 * a) + b))), (3, .int (nI ((a * S + b) * 16))), (0, .ref ((ad 0))), (1, .int (nI a)), (2, .int (nI b))]) hx hb dX1_sumOf_19 hl (by decide) rfl (fun ls hl => ?_)
  refine W.loopP (N := 16) (I := fun k ls => lv_has ls 7 [(5, .int (nI k)), (4, .int (smF bs ((a * S + b) * 16) (nI (64 * a + b)) k)), (3, .int (nI ((a * S + b) * 16))), (0, .ref ((ad 0))), (1, .int (nI a)), (2, .int (nI b))]) 0 (by omega) (fun k ls hk hl ihk => ?_) (fun ls hl => ?_) (lv_sub hl [0, 1, 2, 3, 4, 5] rfl)
  · skip
    have hlt := sf_lt ha hb0 hk
    refine lv_iload hx hb dX1_sumOf_21 (lv_at hl 0 rfl) ?_
    refine lv_bipush (v := nI 16) hx hb dX1_sumOf_23 (by decide) ?_
    refine lv_icmp_ge (tgt := 67) hx hb dX1_sumOf_25 (by decide) (fun c_25 => ?_) (fun c_25 => ?_)
    · exact absurd c_25 (nI_ge hk (by omega))
    · skip
      refine lv_iload hx hb dX1_sumOf_28 (lv_at hl 1 rfl) ?_
      refine lv_aload_n hx hb dX1_sumOf_30 rfl (lv_at hl 3 rfl) ?_
      refine va_get (D := D) (ci := 2) (v := .ref ((ad 1))) (C := RX1) (T := TX1) (N := 9) hx hb hts (by decide +kernel) hown hK hP 0 rfl rfl 2 (by decide) (hts (.fieldLink RX1 18 "TrackDisk$Surface" "bytes" "[B") (by decide +kernel)) (fun _ h9 => h9) rfl dX1_sumOf_31 ?_
      refine lv_iload_n hx hb dX1_sumOf_34 rfl (lv_at hl 2 rfl) ?_
      refine lv_iload hx hb dX1_sumOf_35 (lv_at hl 0 rfl) ?_
      refine lv_iadd hx hb dX1_sumOf_37 ?_
      refine tp_i (y := nI (((a * S + b) * 16) + k)) (by exact nI_add _ _) ?_
      refine va_bald hx hb hK hP 1 1 rfl rfl (vp_in_nI (by omega) (by omega)) dX1_sumOf_38 ?_
      refine tp_i (y := bs (((a * S + b) * 16) + k)) (by rw [nI_clamp (by omega)]) ?_
      refine lv_sipush (v := nI 255) hx hb dX1_sumOf_39 (by decide) ?_
      refine lv_iand hx hb dX1_sumOf_42 ?_
      refine lv_ixor hx hb dX1_sumOf_43 ?_
      refine lv_istore (lv' := [(6, .int (((smF bs ((a * S + b) * 16) (nI (64 * a + b)) k) ^^^ ((bs (((a * S + b) * 16) + k)) &&& (nI 255))))), (5, .int (nI k)), (4, .int (smF bs ((a * S + b) * 16) (nI (64 * a + b)) k)), (3, .int (nI ((a * S + b) * 16))), (0, .ref ((ad 0))), (1, .int (nI a)), (2, .int (nI b))]) hx hb dX1_sumOf_44 hl (by decide) rfl (fun ls hl => ?_)
      refine lv_iload hx hb dX1_sumOf_46 (lv_at hl 0 rfl) ?_
      refine lv_iconst (v := nI 3) hx hb dX1_sumOf_48 (by decide) ?_
      refine lv_ishl hx hb dX1_sumOf_49 ?_
      refine lv_iload hx hb dX1_sumOf_50 (lv_at hl 0 rfl) ?_
      refine lv_bipush (v := nI 29) hx hb dX1_sumOf_52 (by decide) ?_
      refine lv_iushr hx hb dX1_sumOf_54 rfl ?_
      refine lv_ior hx hb dX1_sumOf_55 ?_
      refine lv_ldc hx hb hown (hts (.constant RX1 77 (-1640531535)) (by decide +kernel)) dX1_sumOf_56 ?_
      refine lv_imul hx hb dX1_sumOf_58 ?_
      refine tp_i (y := smF bs ((a * S + b) * 16) (nI (64 * a + b)) (k + 1)) (by rfl) ?_
      refine lv_istore (lv' := [(4, .int (smF bs ((a * S + b) * 16) (nI (64 * a + b)) (k + 1))), (6, .int (((smF bs ((a * S + b) * 16) (nI (64 * a + b)) k) ^^^ ((bs (((a * S + b) * 16) + k)) &&& (nI 255))))), (5, .int (nI k)), (3, .int (nI ((a * S + b) * 16))), (0, .ref ((ad 0))), (1, .int (nI a)), (2, .int (nI b))]) hx hb dX1_sumOf_59 hl (by decide) rfl (fun ls hl => ?_)
      refine lv_iinc (v := nI (k + 1)) (lv' := [(5, .int (nI (k + 1))), (4, .int (smF bs ((a * S + b) * 16) (nI (64 * a + b)) (k + 1))), (6, .int (((smF bs ((a * S + b) * 16) (nI (64 * a + b)) k) ^^^ ((bs (((a * S + b) * 16) + k)) &&& (nI 255))))), (3, .int (nI ((a * S + b) * 16))), (0, .ref ((ad 0))), (1, .int (nI a)), (2, .int (nI b))]) hx hb dX1_sumOf_61 hl (k := 2) rfl (by exact nI_1 _) (by decide) rfl (fun ls hl => ?_)
      refine lv_goto (tgt := 21) hx hb dX1_sumOf_64 (by decide) ?_
      exact ihk ls (lv_sub hl [0, 1, 3, 4, 5, 6] rfl)
  · skip
    refine lv_iload hx hb dX1_sumOf_21 (lv_at hl 0 rfl) ?_
    refine lv_bipush (v := nI 16) hx hb dX1_sumOf_23 (by decide) ?_
    refine lv_icmp_ge (tgt := 67) hx hb dX1_sumOf_25 (by decide) (fun c_25 => ?_) (fun c_25 => ?_)
    · skip
      refine lv_iload hx hb dX1_sumOf_67 (lv_at hl 1 rfl) ?_
      refine tp_i (y := smA bs S a b) (by first | rfl | (simp only []; done)) ?_
      exact pu_iret hx hb hr hlocks dX1_sumOf_69
    · exact absurd (nI_le (Nat.le_refl _) (by omega)) c_25

set_option maxHeartbeats 4000000 in
set_option maxRecDepth 100000 in
/-- firstByte(track, sector) -/
theorem c_firstByte (l : Launch) (D : va_G) (κ : Nat → ClassId) (T S : Nat) (ad : Nat → Nat) (bs sm pl r0 r1 : Nat → Int32) (tk vo : Int32) (hT : T ≤ 12) (hS8 : S ≤ 8) (hpl : ∀ t, t < T → vp_in (pl t) (T + 2)) (t b : Nat) (ht : t < T) : Met l yX1_firstByte wsX1_firstByte ({ frames := 1, cells := 0, slots := 0, locals := 22 }) (va_Pc [.ref ((ad 0)), .int (nI t), .int (nI b)] (pu_B D κ (sfW κ T S ad bs sm pl r0 r1 tk vo))) (pu_Q (.int (nI ((cl (pl t) * S + b) * 16)))) 0 0 pu_N := by
  refine Met.ofW (cc := cX1_firstByte) (maxL := 3) (ret := (some .int)) (by decide) rfl ?_
  intro p e s m args below meth c s₁ B hml hv
  obtain ⟨rfl, hP, hK⟩ := hv
  have hx := B.exec
  have hb := B.bytes
  have hr := B.returns
  have hts := atoms_spec (ws := wsX1_firstByte) B.pre
  have hown : s.vm.findClass RX1 = some m.cls := findClass_of_methodNamed B.named
  have hlocks := B.notSynchronized
  have hl := lv_entry ([.ref ((ad 0)), .int (nI t), .int (nI b)]) (n := 3) (Nat.le_of_ble_eq_true rfl)
  rw [lg_entry_eq]
  generalize (lg_sl ([.ref ((ad 0)), .int (nI t), .int (nI b)]) ++ List.replicate (3 - (lg_sl ([.ref ((ad 0)), .int (nI t), .int (nI b)])).length) Slot.unset).toArray = ls at hl ⊢
  have hl : lv_has ls 3 [(0, .ref ((ad 0))), (1, .int (nI t)), (2, .int (nI b))] := hl
  have hmx := sf_max hT hS8
  have hplt := cl_nI (hpl t ht) (by omega)
  refine lv_aload_n hx hb dX1_firstByte_0 rfl (lv_at hl 0 rfl) ?_
  refine lv_aload_n hx hb dX1_firstByte_1 rfl (lv_at hl 0 rfl) ?_
  refine va_get (D := D) (ci := 2) (v := .ref ((ad 3))) (C := RX1) (T := TX1) (N := 9) hx hb hts (by decide +kernel) hown hK hP 0 rfl rfl 4 (by decide) (hts (.fieldLink RX1 26 "TrackDisk$Surface" "place" "[I") (by decide +kernel)) (fun _ h9 => h9) rfl dX1_firstByte_2 ?_
  refine lv_iload_n hx hb dX1_firstByte_5 rfl (lv_at hl 1 rfl) ?_
  refine va_iald hx hb hK hP 3 0 rfl rfl (vp_in_nI (by omega) (by omega)) dX1_firstByte_6 ?_
  refine tp_i (y := nI (cl (pl t))) (by rw [nI_clamp (by omega)]; exact hplt.1) ?_
  refine lv_iload_n hx hb dX1_firstByte_7 rfl (lv_at hl 2 rfl) ?_
  have hPc := hP.sub (ws' := sfW κ T S ad bs sm pl r0 r1 tk vo) [0, 1, 2, 3, 4, 5] rfl
  refine pu_call (va_runV (As := [.int (nI (cl (pl t))), .int (nI b)]) (rest := []) ⟨hx, hb, hml, hown, hts⟩ (c_slot l D κ T S ad bs sm pl r0 r1 tk vo (cl (pl t)) b) (cwV 2 hts gX1_firstByte_X1_slot rfl rfl rfl (by decide +kernel) ⟨Nat.le_of_ble_eq_true rfl, Nat.le_of_ble_eq_true rfl⟩) ⟨pu_blind, va_recv hK hPc (ci := 2) (q0 := 0) rfl rfl, pu_pre hK hPc⟩ rfl rfl hl.1 rfl (lv_room (Nat.le_of_ble_eq_true rfl)) dX1_firstByte_8 ⟨Nat.le_of_ble_eq_true rfl, Nat.le_of_ble_eq_true rfl⟩) ?_
  refine lv_bipush (v := nI 16) hx hb dX1_firstByte_11 (by decide) ?_
  refine lv_imul hx hb dX1_firstByte_13 ?_
  refine tp_i (y := nI ((cl (pl t) * S + b) * 16)) (by exact pk_mul _ _) ?_
  exact pu_iret hx hb hr hlocks dX1_firstByte_14

set_option maxHeartbeats 4000000 in
set_option maxRecDepth 100000 in
/-- fill(track, sector, first, many) -/
theorem c_fill (l : Launch) (D : va_G) (κ : Nat → ClassId) (sz : Nat) (T S : Nat) (ad : Nat → Nat) (bs sm pl r0 r1 : Nat → Int32) (tk vo : Int32) (hT : T ≤ 12) (hS8 : S ≤ 8) (hpl : ∀ t, t < T → vp_in (pl t) (T + 2)) (t b : Nat) (ht : t < T) (hb0 : b < S) (x : Int32) (n : Nat) (hn : n ≤ 16) : Met l yX1_fill wsX1_fill ({ frames := 2, cells := 0, slots := 0, locals := 44 }) (va_Pc [.ref ((ad 0)), .int (nI t), .int (nI b), .int x, .int (nI n)] (mu_B D κ (sfW κ T S ad bs sm pl r0 r1 tk vo) sz)) (mu_Q D none (sfW κ T S ad (flF bs ((cl (pl t) * S + b) * 16) x n) sm pl r0 r1 tk vo) (va_A (sfW κ T S ad bs sm pl r0 r1 tk vo) sz)) 0 0 (va_A (sfW κ T S ad bs sm pl r0 r1 tk vo) sz) := by
  refine Met.ofW (cc := cX1_fill) (maxL := 7) (ret := none) (by decide) rfl ?_
  intro p e s m args below meth c s₁ B hml hv
  obtain ⟨rfl, hsz, hP, hK, hD0⟩ := hv
  have hx := B.exec
  have hb := B.bytes
  have hr := B.returns
  have hts := atoms_spec (ws := wsX1_fill) B.pre
  have hown : s.vm.findClass RX1 = some m.cls := findClass_of_methodNamed B.named
  have hlocks := B.notSynchronized
  subst hsz
  have hD := hD0.self (sz := s.heap.size)
  generalize hAe : va_A (sfW κ T S ad bs sm pl r0 r1 tk vo) s.heap.size = A at hD ⊢
  have hA : ∀ q : Nat, s.heap.size ≤ q → A q := fun q h => by rw [← hAe]; exact Or.inr h
  refine W.gen (P := fun H locs => va_P D vwCl (sfW κ T S ad bs sm pl r0 r1 tk vo) H ∧ va_S A s.heap H locs) (fun H locs h => ?_) ⟨hP, va_S.rf⟩
  clear hP
  obtain ⟨hP, hS⟩ := h
  have hl := lv_entry ([.ref ((ad 0)), .int (nI t), .int (nI b), .int x, .int (nI n)]) (n := 7) (Nat.le_of_ble_eq_true rfl)
  rw [lg_entry_eq]
  generalize (lg_sl ([.ref ((ad 0)), .int (nI t), .int (nI b), .int x, .int (nI n)]) ++ List.replicate (7 - (lg_sl ([.ref ((ad 0)), .int (nI t), .int (nI b), .int x, .int (nI n)])).length) Slot.unset).toArray = ls at hl ⊢
  have hl : lv_has ls 7 [(0, .ref ((ad 0))), (1, .int (nI t)), (2, .int (nI b)), (3, .int x), (4, .int (nI n))] := hl
  have hmx := sf_max hT hS8
  have hplt := cl_nI (hpl t ht) (by omega)
  refine lv_aload_n hx hb dX1_fill_0 rfl (lv_at hl 0 rfl) ?_
  refine lv_iload_n hx hb dX1_fill_1 rfl (lv_at hl 1 rfl) ?_
  refine lv_iload_n hx hb dX1_fill_2 rfl (lv_at hl 2 rfl) ?_
  have hPc := hP.sub (ws' := sfW κ T S ad bs sm pl r0 r1 tk vo) [0, 1, 2, 3, 4, 5] rfl
  refine pu_call (va_runV (As := [.int (nI t), .int (nI b)]) (rest := []) ⟨hx, hb, hml, hown, hts⟩ (c_firstByte l D κ T S ad bs sm pl r0 r1 tk vo hT hS8 hpl t b ht) (cwV 2 hts gX1_fill_X1_firstByte rfl rfl rfl (by decide +kernel) ⟨Nat.le_of_ble_eq_true rfl, Nat.le_of_ble_eq_true rfl⟩) ⟨pu_blind, va_recv hK hPc (ci := 2) (q0 := 0) rfl rfl, pu_pre hK hPc⟩ rfl rfl hl.1 rfl (lv_room (Nat.le_of_ble_eq_true rfl)) dX1_fill_3 ⟨Nat.le_of_ble_eq_true rfl, Nat.le_of_ble_eq_true rfl⟩) ?_
  refine lv_istore (lv' := [(5, .int (nI ((cl (pl t) * S + b) * 16))), (0, .ref ((ad 0))), (1, .int (nI t)), (2, .int (nI b)), (3, .int x), (4, .int (nI n))]) hx hb dX1_fill_6 hl (by decide) rfl (fun ls hl => ?_)
  refine lv_iconst (v := nI 0) hx hb dX1_fill_8 (by decide) ?_
  refine lv_istore (lv' := [(6, .int (nI 0)), (5, .int (nI ((cl (pl t) * S + b) * 16))), (0, .ref ((ad 0))), (1, .int (nI t)), (2, .int (nI b)), (3, .int x), (4, .int (nI n))]) hx hb dX1_fill_9 hl (by decide) rfl (fun ls hl => ?_)
  refine W.loop (N := n) (I := fun k ls H locs => lv_has ls 7 [(6, .int (nI k)), (5, .int (nI ((cl (pl t) * S + b) * 16))), (0, .ref ((ad 0))), (1, .int (nI t)), (2, .int (nI b)), (3, .int x), (4, .int (nI n))] ∧ va_P D vwCl (sfW κ T S ad (flF bs ((cl (pl t) * S + b) * 16) x k) sm pl r0 r1 tk vo) H ∧ va_D A (sfW κ T S ad (flF bs ((cl (pl t) * S + b) * 16) x k) sm pl r0 r1 tk vo) ∧ va_S A s.heap H locs) 0 (by omega) (fun k ls H locs hk hI ihk => ?_) (fun ls H locs hI => ?_) ⟨lv_sub hl [0, 1, 2, 3, 4, 5, 6] rfl, hP, hD, hS⟩
  · skip
    clear hl hP hD hS
    obtain ⟨hl, hP, hD, hS⟩ := hI
    have hlt := sf_lt hplt.2 hb0 (show k < 16 by omega)
    refine lv_iload hx hb dX1_fill_11 (lv_at hl 0 rfl) ?_
    refine lv_iload hx hb dX1_fill_13 (lv_at hl 6 rfl) ?_
    refine lv_icmp_ge (tgt := 39) hx hb dX1_fill_15 (by decide) (fun c_15 => ?_) (fun c_15 => ?_)
    · exact absurd c_15 (nI_ge hk (by omega))
    · skip
      refine lv_aload_n hx hb dX1_fill_18 rfl (lv_at hl 2 rfl) ?_
      refine va_get (D := D) (ci := 2) (v := .ref ((ad 1))) (C := RX1) (T := TX1) (N := 9) hx hb hts (by decide +kernel) hown hK hP 0 rfl rfl 2 (by decide) (hts (.fieldLink RX1 18 "TrackDisk$Surface" "bytes" "[B") (by decide +kernel)) (fun _ h9 => h9) rfl dX1_fill_19 ?_
      refine lv_iload hx hb dX1_fill_22 (lv_at hl 1 rfl) ?_
      refine lv_iload hx hb dX1_fill_24 (lv_at hl 0 rfl) ?_
      refine lv_iadd hx hb dX1_fill_26 ?_
      refine tp_i (y := nI (((cl (pl t) * S + b) * 16) + k)) (by exact nI_add _ _) ?_
      refine lv_iload_n hx hb dX1_fill_27 rfl (lv_at hl 5 rfl) ?_
      refine lv_iload hx hb dX1_fill_28 (lv_at hl 0 rfl) ?_
      refine lv_iadd hx hb dX1_fill_30 ?_
      refine lv_i2b (v := ((x + (nI k))).toInt8.toInt32) hx hb dX1_fill_31 rfl ?_
      refine va_bast hx hb hK hP hD hS 1 1 rfl rfl (vp_in_nI (by omega) (by omega)) dX1_fill_32 (fun H locs hP hD hS => ?_)
      rw [nI_clamp (n := ((cl (pl t) * S + b) * 16) + k) (by omega)] at hP hD
      rw [pk_vb] at hP hD
      have hP : va_P D vwCl (sfW κ T S ad (upd (flF bs ((cl (pl t) * S + b) * 16) x k) (((cl (pl t) * S + b) * 16) + k) (((x + (nI k))).toInt8.toInt32)) sm pl r0 r1 tk vo) H := hP
      have hD : va_D A (sfW κ T S ad (upd (flF bs ((cl (pl t) * S + b) * 16) x k) (((cl (pl t) * S + b) * 16) + k) (((x + (nI k))).toInt8.toInt32)) sm pl r0 r1 tk vo) := hD
      refine lv_iinc (v := nI (k + 1)) (lv' := [(6, .int (nI (k + 1))), (5, .int (nI ((cl (pl t) * S + b) * 16))), (0, .ref ((ad 0))), (1, .int (nI t)), (2, .int (nI b)), (3, .int x), (4, .int (nI n))]) hx hb dX1_fill_33 hl (k := 0) rfl (by exact nI_1 _) (by decide) rfl (fun ls hl => ?_)
      refine lv_goto (tgt := 11) hx hb dX1_fill_36 (by decide) ?_
      exact ihk ls H locs ⟨lv_sub hl [0, 1, 2, 3, 4, 5, 6] rfl, hP, hD, hS⟩
  · skip
    clear hl hP hD hS
    obtain ⟨hl, hP, hD, hS⟩ := hI
    refine lv_iload hx hb dX1_fill_11 (lv_at hl 0 rfl) ?_
    refine lv_iload hx hb dX1_fill_13 (lv_at hl 6 rfl) ?_
    refine lv_icmp_ge (tgt := 39) hx hb dX1_fill_15 (by decide) (fun c_15 => ?_) (fun c_15 => ?_)
    · skip
      have hP9 : va_P D vwCl (sfW κ T S ad (flF bs ((cl (pl t) * S + b) * 16) x n) sm pl r0 r1 tk vo) H := hP
      have hD9 : va_D A (sfW κ T S ad (flF bs ((cl (pl t) * S + b) * 16) x n) sm pl r0 r1 tk vo) := hD
      exact W.vret hx hb hr (fun t ht _ => ⟨⟨rfl, by rw [ht]; exact hP9, hD9⟩, hS.F ht⟩) hS.2.2 dX1_fill_39 hlocks
    · exact absurd (nI_le (Nat.le_refl _) (by omega)) c_15

set_option maxHeartbeats 4000000 in
set_option maxRecDepth 100000 in
/-- lay(track, sector, first) -/
theorem c_lay (l : Launch) (D : va_G) (κ : Nat → ClassId) (sz : Nat) (T S : Nat) (ad : Nat → Nat) (bs sm pl r0 r1 : Nat → Int32) (tk vo : Int32) (hT : T ≤ 12) (hS8 : S ≤ 8) (hpl : ∀ t, t < T → vp_in (pl t) (T + 2)) (t b : Nat) (ht : t < T) (hb0 : b < S) (x : Int32) : Met l yX1_lay wsX1_lay ({ frames := 3, cells := 0, slots := 0, locals := 70 }) (va_Pc [.ref ((ad 0)), .int (nI t), .int (nI b), .int x] (mu_B D κ (sfW κ T S ad bs sm pl r0 r1 tk vo) sz)) (mu_Q D none (sfW κ T S ad (flF bs ((cl (pl t) * S + b) * 16) x 16) (upd sm (cl (pl t) * S + b) (smA (flF bs ((cl (pl t) * S + b) * 16) x 16) S (cl (pl t)) b)) pl (upd r0 t (nI 1)) (upd r1 t (nI 1)) tk vo) (va_A (sfW κ T S ad bs sm pl r0 r1 tk vo) sz)) 0 0 (va_A (sfW κ T S ad bs sm pl r0 r1 tk vo) sz) := by
  refine Met.ofW (cc := cX1_lay) (maxL := 5) (ret := none) (by decide) rfl ?_
  intro p e s m args below meth c s₁ B hml hv
  obtain ⟨rfl, hsz, hP, hK, hD0⟩ := hv
  have hx := B.exec
  have hb := B.bytes
  have hr := B.returns
  have hts := atoms_spec (ws := wsX1_lay) B.pre
  have hown : s.vm.findClass RX1 = some m.cls := findClass_of_methodNamed B.named
  have hlocks := B.notSynchronized
  subst hsz
  have hD := hD0.self (sz := s.heap.size)
  generalize hAe : va_A (sfW κ T S ad bs sm pl r0 r1 tk vo) s.heap.size = A at hD ⊢
  have hA : ∀ q : Nat, s.heap.size ≤ q → A q := fun q h => by rw [← hAe]; exact Or.inr h
  refine W.gen (P := fun H locs => va_P D vwCl (sfW κ T S ad bs sm pl r0 r1 tk vo) H ∧ va_S A s.heap H locs) (fun H locs h => ?_) ⟨hP, va_S.rf⟩
  clear hP
  obtain ⟨hP, hS⟩ := h
  have hl := lv_entry ([.ref ((ad 0)), .int (nI t), .int (nI b), .int x]) (n := 5) (Nat.le_of_ble_eq_true rfl)
  rw [lg_entry_eq]
  generalize (lg_sl ([.ref ((ad 0)), .int (nI t), .int (nI b), .int x]) ++ List.replicate (5 - (lg_sl ([.ref ((ad 0)), .int (nI t), .int (nI b), .int x])).length) Slot.unset).toArray = ls at hl ⊢
  have hl : lv_has ls 5 [(0, .ref ((ad 0))), (1, .int (nI t)), (2, .int (nI b)), (3, .int x)] := hl
  have hmx := sf_max hT hS8
  have hplt := cl_nI (hpl t ht) (by omega)
  have hsl := sf_slt hplt.2 hb0
  refine lv_aload_n hx hb dX1_lay_0 rfl (lv_at hl 0 rfl) ?_
  refine lv_iload_n hx hb dX1_lay_1 rfl (lv_at hl 1 rfl) ?_
  refine lv_iload_n hx hb dX1_lay_2 rfl (lv_at hl 2 rfl) ?_
  refine lv_iload_n hx hb dX1_lay_3 rfl (lv_at hl 3 rfl) ?_
  refine lv_bipush (v := nI 16) hx hb dX1_lay_4 (by decide) ?_
  have hPc := hP.sub (ws' := sfW κ T S ad bs sm pl r0 r1 tk vo) [0, 1, 2, 3, 4, 5] rfl
  have hDc := hD.sub (ws' := sfW κ T S ad bs sm pl r0 r1 tk vo) [0, 1, 2, 3, 4, 5] (by decide) rfl
  refine mu_call (wc := sfW κ T S ad bs sm pl r0 r1 tk vo) (wc' := sfW κ T S ad (flF bs ((cl (pl t) * S + b) * 16) x 16) sm pl r0 r1 tk vo) (ws' := sfW κ T S ad (flF bs ((cl (pl t) * S + b) * 16) x 16) sm pl r0 r1 tk vo) (wr := (([] : List Nat).filterMap fun i => (sfW κ T S ad bs sm pl r0 r1 tk vo)[i]?)) (va_runV (As := [.int (nI t), .int (nI b), .int x, .int (nI 16)]) (rest := []) ⟨hx, hb, hml, hown, hts⟩ (c_fill l D κ H.size T S ad bs sm pl r0 r1 tk vo hT hS8 hpl t b ht hb0 x 16 (by omega)) (cwV 4 hts gX1_lay_X1_fill rfl rfl rfl (by decide +kernel) ⟨Nat.le_of_ble_eq_true rfl, Nat.le_of_ble_eq_true rfl⟩) ⟨mu_blind, va_recv hK hPc (ci := 2) (q0 := 0) rfl rfl, mu_pre hK hPc hDc⟩ rfl rfl hl.1 rfl (lv_room (Nat.le_of_ble_eq_true rfl)) dX1_lay_6 ⟨Nat.le_of_ble_eq_true rfl, Nat.le_of_ble_eq_true rfl⟩) hP hD hS hA [0, 1, 2, 3, 4, 5] [] [0, 1, 2, 3, 4, 5] rfl rfl (by decide) (by decide) rfl rfl (by decide) (fun H locs hP hD hS => ?_)
  refine W.eq (g2 := F0 m 9 ls []) rfl ?_
  refine lv_aload_n hx hb dX1_lay_9 rfl (lv_at hl 0 rfl) ?_
  refine va_get (D := D) (ci := 2) (v := .ref ((ad 3))) (C := RX1) (T := TX1) (N := 9) hx hb hts (by decide +kernel) hown hK hP 0 rfl rfl 4 (by decide) (hts (.fieldLink RX1 26 "TrackDisk$Surface" "place" "[I") (by decide +kernel)) (fun _ h9 => h9) rfl dX1_lay_10 ?_
  refine lv_iload_n hx hb dX1_lay_13 rfl (lv_at hl 1 rfl) ?_
  refine va_iald hx hb hK hP 3 0 rfl rfl (vp_in_nI (by omega) (by omega)) dX1_lay_14 ?_
  refine tp_i (y := nI (cl (pl t))) (by rw [nI_clamp (by omega)]; exact hplt.1) ?_
  refine lv_istore (lv' := [(4, .int (nI (cl (pl t)))), (0, .ref ((ad 0))), (1, .int (nI t)), (2, .int (nI b)), (3, .int x)]) hx hb dX1_lay_15 hl (by decide) rfl (fun ls hl => ?_)
  refine lv_aload_n hx hb dX1_lay_17 rfl (lv_at hl 1 rfl) ?_
  refine va_get (D := D) (ci := 2) (v := .ref ((ad 2))) (C := RX1) (T := TX1) (N := 9) hx hb hts (by decide +kernel) hown hK hP 0 rfl rfl 3 (by decide) (hts (.fieldLink RX1 22 "TrackDisk$Surface" "sums" "[I") (by decide +kernel)) (fun _ h9 => h9) rfl dX1_lay_18 ?_
  refine lv_aload_n hx hb dX1_lay_21 rfl (lv_at hl 1 rfl) ?_
  refine lv_iload hx hb dX1_lay_22 (lv_at hl 0 rfl) ?_
  refine lv_iload_n hx hb dX1_lay_24 rfl (lv_at hl 3 rfl) ?_
  have hPc := hP.sub (ws' := sfW κ T S ad (flF bs ((cl (pl t) * S + b) * 16) x 16) sm pl r0 r1 tk vo) [0, 1, 2, 3, 4, 5] rfl
  refine pu_call (va_runV (As := [.int (nI (cl (pl t))), .int (nI b)]) (rest := [.ref ((ad 2))]) ⟨hx, hb, hml, hown, hts⟩ (c_slot l D κ T S ad (flF bs ((cl (pl t) * S + b) * 16) x 16) sm pl r0 r1 tk vo (cl (pl t)) b) (cwV 2 hts gX1_lay_X1_slot rfl rfl rfl (by decide +kernel) ⟨Nat.le_of_ble_eq_true rfl, Nat.le_of_ble_eq_true rfl⟩) ⟨pu_blind, va_recv hK hPc (ci := 2) (q0 := 0) rfl rfl, pu_pre hK hPc⟩ rfl rfl hl.1 rfl (lv_room (Nat.le_of_ble_eq_true rfl)) dX1_lay_25 ⟨Nat.le_of_ble_eq_true rfl, Nat.le_of_ble_eq_true rfl⟩) ?_
  refine lv_aload_n hx hb dX1_lay_28 rfl (lv_at hl 1 rfl) ?_
  refine lv_iload hx hb dX1_lay_29 (lv_at hl 0 rfl) ?_
  refine lv_iload_n hx hb dX1_lay_31 rfl (lv_at hl 3 rfl) ?_
  have hPc := hP.sub (ws' := sfW κ T S ad (flF bs ((cl (pl t) * S + b) * 16) x 16) sm pl r0 r1 tk vo) [0, 1, 2, 3, 4, 5] rfl
  refine pu_call (va_runV (As := [.int (nI (cl (pl t))), .int (nI b)]) (rest := [.int (nI (cl (pl t) * S + b)), .ref ((ad 2))]) ⟨hx, hb, hml, hown, hts⟩ (c_sumOf l D κ T S ad (flF bs ((cl (pl t) * S + b) * 16) x 16) sm pl r0 r1 tk vo hT hS8 (cl (pl t)) b hplt.2 hb0) (cwV 2 hts gX1_lay_X1_sumOf rfl rfl rfl (by decide +kernel) ⟨Nat.le_of_ble_eq_true rfl, Nat.le_of_ble_eq_true rfl⟩) ⟨pu_blind, va_recv hK hPc (ci := 2) (q0 := 0) rfl rfl, pu_pre hK hPc⟩ rfl rfl hl.1 rfl (lv_room (Nat.le_of_ble_eq_true rfl)) dX1_lay_32 ⟨Nat.le_of_ble_eq_true rfl, Nat.le_of_ble_eq_true rfl⟩) ?_
  refine va_iast hx hb hK hP hD hS 2 0 rfl rfl (vp_in_nI (by omega) (by omega)) dX1_lay_35 (fun H locs hP hD hS => ?_)
  rw [nI_clamp (n := cl (pl t) * S + b) (by omega)] at hP hD
  have hP : va_P D vwCl (sfW κ T S ad (flF bs ((cl (pl t) * S + b) * 16) x 16) (upd (sm) (cl (pl t) * S + b) (smA (flF bs ((cl (pl t) * S + b) * 16) x 16) S (cl (pl t)) b)) pl r0 r1 tk vo) H := hP
  have hD : va_D A (sfW κ T S ad (flF bs ((cl (pl t) * S + b) * 16) x 16) (upd (sm) (cl (pl t) * S + b) (smA (flF bs ((cl (pl t) * S + b) * 16) x 16) S (cl (pl t)) b)) pl r0 r1 tk vo) := hD
  refine lv_aload_n hx hb dX1_lay_36 rfl (lv_at hl 1 rfl) ?_
  refine va_get (D := D) (ci := 2) (v := .ref ((ad 4))) (C := RX1) (T := TX1) (N := 9) hx hb hts (by decide +kernel) hown hK hP 0 rfl rfl 5 (by decide) (hts (.fieldLink RX1 29 "TrackDisk$Surface" "usedByRow0" "[I") (by decide +kernel)) (fun _ h9 => h9) rfl dX1_lay_37 ?_
  refine lv_iload_n hx hb dX1_lay_40 rfl (lv_at hl 2 rfl) ?_
  refine lv_iconst (v := nI 1) hx hb dX1_lay_41 (by decide) ?_
  refine va_iast hx hb hK hP hD hS 4 0 rfl rfl (vp_in_nI (by omega) (by omega)) dX1_lay_42 (fun H locs hP hD hS => ?_)
  rw [nI_clamp (n := t) (by omega)] at hP hD
  have hP : va_P D vwCl (sfW κ T S ad (flF bs ((cl (pl t) * S + b) * 16) x 16) (upd (sm) (cl (pl t) * S + b) (smA (flF bs ((cl (pl t) * S + b) * 16) x 16) S (cl (pl t)) b)) pl (upd (r0) (t) (nI 1)) r1 tk vo) H := hP
  have hD : va_D A (sfW κ T S ad (flF bs ((cl (pl t) * S + b) * 16) x 16) (upd (sm) (cl (pl t) * S + b) (smA (flF bs ((cl (pl t) * S + b) * 16) x 16) S (cl (pl t)) b)) pl (upd (r0) (t) (nI 1)) r1 tk vo) := hD
  refine lv_aload_n hx hb dX1_lay_43 rfl (lv_at hl 1 rfl) ?_
  refine va_get (D := D) (ci := 2) (v := .ref ((ad 5))) (C := RX1) (T := TX1) (N := 9) hx hb hts (by decide +kernel) hown hK hP 0 rfl rfl 6 (by decide) (hts (.fieldLink RX1 32 "TrackDisk$Surface" "usedByRow1" "[I") (by decide +kernel)) (fun _ h9 => h9) rfl dX1_lay_44 ?_
  refine lv_iload_n hx hb dX1_lay_47 rfl (lv_at hl 2 rfl) ?_
  refine lv_iconst (v := nI 1) hx hb dX1_lay_48 (by decide) ?_
  refine va_iast hx hb hK hP hD hS 5 0 rfl rfl (vp_in_nI (by omega) (by omega)) dX1_lay_49 (fun H locs hP hD hS => ?_)
  rw [nI_clamp (n := t) (by omega)] at hP hD
  have hP : va_P D vwCl (sfW κ T S ad (flF bs ((cl (pl t) * S + b) * 16) x 16) (upd (sm) (cl (pl t) * S + b) (smA (flF bs ((cl (pl t) * S + b) * 16) x 16) S (cl (pl t)) b)) pl (upd (r0) (t) (nI 1)) (upd (r1) (t) (nI 1)) tk vo) H := hP
  have hD : va_D A (sfW κ T S ad (flF bs ((cl (pl t) * S + b) * 16) x 16) (upd (sm) (cl (pl t) * S + b) (smA (flF bs ((cl (pl t) * S + b) * 16) x 16) S (cl (pl t)) b)) pl (upd (r0) (t) (nI 1)) (upd (r1) (t) (nI 1)) tk vo) := hD
  have hP9 : va_P D vwCl (sfW κ T S ad (flF bs ((cl (pl t) * S + b) * 16) x 16) (upd sm (cl (pl t) * S + b) (smA (flF bs ((cl (pl t) * S + b) * 16) x 16) S (cl (pl t)) b)) pl (upd r0 t (nI 1)) (upd r1 t (nI 1)) tk vo) H := hP
  have hD9 : va_D A (sfW κ T S ad (flF bs ((cl (pl t) * S + b) * 16) x 16) (upd sm (cl (pl t) * S + b) (smA (flF bs ((cl (pl t) * S + b) * 16) x 16) S (cl (pl t)) b)) pl (upd r0 t (nI 1)) (upd r1 t (nI 1)) tk vo) := hD
  exact W.vret hx hb hr (fun t ht _ => ⟨⟨rfl, by rw [ht]; exact hP9, hD9⟩, hS.F ht⟩) hS.2.2 dX1_lay_50 hlocks

set_option maxHeartbeats 4000000 in
set_option maxRecDepth 100000 in
/-- layTorn(track, sector, first, tear) -/
theorem c_layTorn (l : Launch) (D : va_G) (κ : Nat → ClassId) (sz : Nat) (T S : Nat) (ad : Nat → Nat) (bs sm pl r0 r1 : Nat → Int32) (tk vo : Int32) (hT : T ≤ 12) (hS8 : S ≤ 8) (hpl : ∀ t, t < T → vp_in (pl t) (T + 2)) (t b : Nat) (ht : t < T) (hb0 : b < S) (x : Int32) (n : Nat) (hn : n ≤ 16) : Met l yX1_layTorn wsX1_layTorn ({ frames := 3, cells := 0, slots := 0, locals := 70 }) (va_Pc [.ref ((ad 0)), .int (nI t), .int (nI b), .int x, .int (nI n)] (mu_B D κ (sfW κ T S ad bs sm pl r0 r1 tk vo) sz)) (mu_Q D none (sfW κ T S ad (flF bs ((cl (pl t) * S + b) * 16) x n) sm pl (upd r0 t (nI 1)) r1 tk vo) (va_A (sfW κ T S ad bs sm pl r0 r1 tk vo) sz)) 0 0 (va_A (sfW κ T S ad bs sm pl r0 r1 tk vo) sz) := by
  refine Met.ofW (cc := cX1_layTorn) (maxL := 5) (ret := none) (by decide) rfl ?_
  intro p e s m args below meth c s₁ B hml hv
  obtain ⟨rfl, hsz, hP, hK, hD0⟩ := hv
  have hx := B.exec
  have hb := B.bytes
  have hr := B.returns
  have hts := atoms_spec (ws := wsX1_layTorn) B.pre
  have hown : s.vm.findClass RX1 = some m.cls := findClass_of_methodNamed B.named
  have hlocks := B.notSynchronized
  subst hsz
  have hD := hD0.self (sz := s.heap.size)
  generalize hAe : va_A (sfW κ T S ad bs sm pl r0 r1 tk vo) s.heap.size = A at hD ⊢
  have hA : ∀ q : Nat, s.heap.size ≤ q → A q := fun q h => by rw [← hAe]; exact Or.inr h
  refine W.gen (P := fun H locs => va_P D vwCl (sfW κ T S ad bs sm pl r0 r1 tk vo) H ∧ va_S A s.heap H locs) (fun H locs h => ?_) ⟨hP, va_S.rf⟩
  clear hP
  obtain ⟨hP, hS⟩ := h
  have hl := lv_entry ([.ref ((ad 0)), .int (nI t), .int (nI b), .int x, .int (nI n)]) (n := 5) (Nat.le_of_ble_eq_true rfl)
  rw [lg_entry_eq]
  generalize (lg_sl ([.ref ((ad 0)), .int (nI t), .int (nI b), .int x, .int (nI n)]) ++ List.replicate (5 - (lg_sl ([.ref ((ad 0)), .int (nI t), .int (nI b), .int x, .int (nI n)])).length) Slot.unset).toArray = ls at hl ⊢
  have hl : lv_has ls 5 [(0, .ref ((ad 0))), (1, .int (nI t)), (2, .int (nI b)), (3, .int x), (4, .int (nI n))] := hl
  have hmx := sf_max hT hS8
  have hplt := cl_nI (hpl t ht) (by omega)
  refine lv_aload_n hx hb dX1_layTorn_0 rfl (lv_at hl 0 rfl) ?_
  refine lv_iload_n hx hb dX1_layTorn_1 rfl (lv_at hl 1 rfl) ?_
  refine lv_iload_n hx hb dX1_layTorn_2 rfl (lv_at hl 2 rfl) ?_
  refine lv_iload_n hx hb dX1_layTorn_3 rfl (lv_at hl 3 rfl) ?_
  refine lv_iload hx hb dX1_layTorn_4 (lv_at hl 4 rfl) ?_
  have hPc := hP.sub (ws' := sfW κ T S ad bs sm pl r0 r1 tk vo) [0, 1, 2, 3, 4, 5] rfl
  have hDc := hD.sub (ws' := sfW κ T S ad bs sm pl r0 r1 tk vo) [0, 1, 2, 3, 4, 5] (by decide) rfl
  refine mu_call (wc := sfW κ T S ad bs sm pl r0 r1 tk vo) (wc' := sfW κ T S ad (flF bs ((cl (pl t) * S + b) * 16) x n) sm pl r0 r1 tk vo) (ws' := sfW κ T S ad (flF bs ((cl (pl t) * S + b) * 16) x n) sm pl r0 r1 tk vo) (wr := (([] : List Nat).filterMap fun i => (sfW κ T S ad bs sm pl r0 r1 tk vo)[i]?)) (va_runV (As := [.int (nI t), .int (nI b), .int x, .int (nI n)]) (rest := []) ⟨hx, hb, hml, hown, hts⟩ (c_fill l D κ H.size T S ad bs sm pl r0 r1 tk vo hT hS8 hpl t b ht hb0 x n hn) (cwV 4 hts gX1_layTorn_X1_fill rfl rfl rfl (by decide +kernel) ⟨Nat.le_of_ble_eq_true rfl, Nat.le_of_ble_eq_true rfl⟩) ⟨mu_blind, va_recv hK hPc (ci := 2) (q0 := 0) rfl rfl, mu_pre hK hPc hDc⟩ rfl rfl hl.1 rfl (lv_room (Nat.le_of_ble_eq_true rfl)) dX1_layTorn_6 ⟨Nat.le_of_ble_eq_true rfl, Nat.le_of_ble_eq_true rfl⟩) hP hD hS hA [0, 1, 2, 3, 4, 5] [] [0, 1, 2, 3, 4, 5] rfl rfl (by decide) (by decide) rfl rfl (by decide) (fun H locs hP hD hS => ?_)
  refine W.eq (g2 := F0 m 9 ls []) rfl ?_
  refine lv_aload_n hx hb dX1_layTorn_9 rfl (lv_at hl 0 rfl) ?_
  refine va_get (D := D) (ci := 2) (v := .ref ((ad 4))) (C := RX1) (T := TX1) (N := 9) hx hb hts (by decide +kernel) hown hK hP 0 rfl rfl 5 (by decide) (hts (.fieldLink RX1 29 "TrackDisk$Surface" "usedByRow0" "[I") (by decide +kernel)) (fun _ h9 => h9) rfl dX1_layTorn_10 ?_
  refine lv_iload_n hx hb dX1_layTorn_13 rfl (lv_at hl 1 rfl) ?_
  refine lv_iconst (v := nI 1) hx hb dX1_layTorn_14 (by decide) ?_
  refine va_iast hx hb hK hP hD hS 4 0 rfl rfl (vp_in_nI (by omega) (by omega)) dX1_layTorn_15 (fun H locs hP hD hS => ?_)
  rw [nI_clamp (n := t) (by omega)] at hP hD
  have hP : va_P D vwCl (sfW κ T S ad (flF bs ((cl (pl t) * S + b) * 16) x n) sm pl (upd (r0) (t) (nI 1)) r1 tk vo) H := hP
  have hD : va_D A (sfW κ T S ad (flF bs ((cl (pl t) * S + b) * 16) x n) sm pl (upd (r0) (t) (nI 1)) r1 tk vo) := hD
  have hP9 : va_P D vwCl (sfW κ T S ad (flF bs ((cl (pl t) * S + b) * 16) x n) sm pl (upd r0 t (nI 1)) r1 tk vo) H := hP
  have hD9 : va_D A (sfW κ T S ad (flF bs ((cl (pl t) * S + b) * 16) x n) sm pl (upd r0 t (nI 1)) r1 tk vo) := hD
  exact W.vret hx hb hr (fun t ht _ => ⟨⟨rfl, by rw [ht]; exact hP9, hD9⟩, hS.F ht⟩) hS.2.2 dX1_layTorn_16 hlocks

set_option maxHeartbeats 4000000 in
set_option maxRecDepth 100000 in
/-- isWrong(track, sector) -/
theorem c_isWrong (l : Launch) (D : va_G) (κ : Nat → ClassId) (T S : Nat) (ad : Nat → Nat) (bs sm pl r0 r1 : Nat → Int32) (tk vo : Int32) (hT : T ≤ 12) (hS8 : S ≤ 8) (hpl : ∀ t, t < T → vp_in (pl t) (T + 2)) (t b : Nat) (ht : t < T) (hb0 : b < S) : Met l yX1_isWrong wsX1_isWrong ({ frames := 2, cells := 0, slots := 0, locals := 48 }) (va_Pc [.ref ((ad 0)), .int (nI t), .int (nI b)] (pu_B D κ (sfW κ T S ad bs sm pl r0 r1 tk vo))) (pu_Q (.int (bI (iwF bs sm pl S t b)))) 0 0 pu_N := by
  refine Met.ofW (cc := cX1_isWrong) (maxL := 4) (ret := (some .boolean)) (by decide) rfl ?_
  intro p e s m args below meth c s₁ B hml hv
  obtain ⟨rfl, hP, hK⟩ := hv
  have hx := B.exec
  have hb := B.bytes
  have hr := B.returns
  have hts := atoms_spec (ws := wsX1_isWrong) B.pre
  have hown : s.vm.findClass RX1 = some m.cls := findClass_of_methodNamed B.named
  have hlocks := B.notSynchronized
  have hl := lv_entry ([.ref ((ad 0)), .int (nI t), .int (nI b)]) (n := 4) (Nat.le_of_ble_eq_true rfl)
  rw [lg_entry_eq]
  generalize (lg_sl ([.ref ((ad 0)), .int (nI t), .int (nI b)]) ++ List.replicate (4 - (lg_sl ([.ref ((ad 0)), .int (nI t), .int (nI b)])).length) Slot.unset).toArray = ls at hl ⊢
  have hl : lv_has ls 4 [(0, .ref ((ad 0))), (1, .int (nI t)), (2, .int (nI b))] := hl
  have hmx := sf_max hT hS8
  have hplt := cl_nI (hpl t ht) (by omega)
  have hsl := sf_slt hplt.2 hb0
  refine lv_aload_n hx hb dX1_isWrong_0 rfl (lv_at hl 0 rfl) ?_
  refine va_get (D := D) (ci := 2) (v := .ref ((ad 3))) (C := RX1) (T := TX1) (N := 9) hx hb hts (by decide +kernel) hown hK hP 0 rfl rfl 4 (by decide) (hts (.fieldLink RX1 26 "TrackDisk$Surface" "place" "[I") (by decide +kernel)) (fun _ h9 => h9) rfl dX1_isWrong_1 ?_
  refine lv_iload_n hx hb dX1_isWrong_4 rfl (lv_at hl 1 rfl) ?_
  refine va_iald hx hb hK hP 3 0 rfl rfl (vp_in_nI (by omega) (by omega)) dX1_isWrong_5 ?_
  refine tp_i (y := nI (cl (pl t))) (by rw [nI_clamp (by omega)]; exact hplt.1) ?_
  refine lv_istore_n (lv' := [(3, .int (nI (cl (pl t)))), (0, .ref ((ad 0))), (1, .int (nI t)), (2, .int (nI b))]) hx hb dX1_isWrong_6 rfl hl (by decide) rfl (fun ls hl => ?_)
  refine lv_aload_n hx hb dX1_isWrong_7 rfl (lv_at hl 1 rfl) ?_
  refine va_get (D := D) (ci := 2) (v := .ref ((ad 2))) (C := RX1) (T := TX1) (N := 9) hx hb hts (by decide +kernel) hown hK hP 0 rfl rfl 3 (by decide) (hts (.fieldLink RX1 22 "TrackDisk$Surface" "sums" "[I") (by decide +kernel)) (fun _ h9 => h9) rfl dX1_isWrong_8 ?_
  refine lv_aload_n hx hb dX1_isWrong_11 rfl (lv_at hl 1 rfl) ?_
  refine lv_iload_n hx hb dX1_isWrong_12 rfl (lv_at hl 0 rfl) ?_
  refine lv_iload_n hx hb dX1_isWrong_13 rfl (lv_at hl 3 rfl) ?_
  have hPc := hP.sub (ws' := sfW κ T S ad bs sm pl r0 r1 tk vo) [0, 1, 2, 3, 4, 5] rfl
  refine pu_call (va_runV (As := [.int (nI (cl (pl t))), .int (nI b)]) (rest := [.ref ((ad 2))]) ⟨hx, hb, hml, hown, hts⟩ (c_slot l D κ T S ad bs sm pl r0 r1 tk vo (cl (pl t)) b) (cwV 2 hts gX1_isWrong_X1_slot rfl rfl rfl (by decide +kernel) ⟨Nat.le_of_ble_eq_true rfl, Nat.le_of_ble_eq_true rfl⟩) ⟨pu_blind, va_recv hK hPc (ci := 2) (q0 := 0) rfl rfl, pu_pre hK hPc⟩ rfl rfl hl.1 rfl (lv_room (Nat.le_of_ble_eq_true rfl)) dX1_isWrong_14 ⟨Nat.le_of_ble_eq_true rfl, Nat.le_of_ble_eq_true rfl⟩) ?_
  refine va_iald hx hb hK hP 2 0 rfl rfl (vp_in_nI (by omega) (by omega)) dX1_isWrong_17 ?_
  refine tp_i (y := sm (cl (pl t) * S + b)) (by rw [nI_clamp (by omega)]) ?_
  refine lv_aload_n hx hb dX1_isWrong_18 rfl (lv_at hl 1 rfl) ?_
  refine lv_iload_n hx hb dX1_isWrong_19 rfl (lv_at hl 0 rfl) ?_
  refine lv_iload_n hx hb dX1_isWrong_20 rfl (lv_at hl 3 rfl) ?_
  have hPc := hP.sub (ws' := sfW κ T S ad bs sm pl r0 r1 tk vo) [0, 1, 2, 3, 4, 5] rfl
  refine pu_call (va_runV (As := [.int (nI (cl (pl t))), .int (nI b)]) (rest := [.int (sm (cl (pl t) * S + b))]) ⟨hx, hb, hml, hown, hts⟩ (c_sumOf l D κ T S ad bs sm pl r0 r1 tk vo hT hS8 (cl (pl t)) b hplt.2 hb0) (cwV 2 hts gX1_isWrong_X1_sumOf rfl rfl rfl (by decide +kernel) ⟨Nat.le_of_ble_eq_true rfl, Nat.le_of_ble_eq_true rfl⟩) ⟨pu_blind, va_recv hK hPc (ci := 2) (q0 := 0) rfl rfl, pu_pre hK hPc⟩ rfl rfl hl.1 rfl (lv_room (Nat.le_of_ble_eq_true rfl)) dX1_isWrong_21 ⟨Nat.le_of_ble_eq_true rfl, Nat.le_of_ble_eq_true rfl⟩) ?_
  refine lv_icmp_eq (tgt := 31) hx hb dX1_isWrong_24 (by decide) (fun c_24 => ?_) (fun c_24 => ?_)
  · skip
    refine lv_iconst (v := nI 0) hx hb dX1_isWrong_31 (by decide) ?_
    refine tp_i (y := bI (iwF bs sm pl S t b)) (bI_f (by simp only [iwF, decide_eq_false_iff_not, Decidable.not_not]; exact c_24)) ?_
    exact pu_zret hx hb hr (by cases iwF bs sm pl S t b <;> rfl) hlocks dX1_isWrong_32
  · skip
    refine lv_iconst (v := nI 1) hx hb dX1_isWrong_27 (by decide) ?_
    refine lv_goto (tgt := 32) hx hb dX1_isWrong_28 (by decide) ?_
    refine tp_i (y := bI (iwF bs sm pl S t b)) (bI_t (by simp only [iwF, decide_eq_true_eq]; exact c_24)) ?_
    exact pu_zret hx hb hr (by cases iwF bs sm pl S t b <;> rfl) hlocks dX1_isWrong_32

set_option maxHeartbeats 4000000 in
set_option maxRecDepth 100000 in
/-- wrongSectors() -/
theorem c_wrongSectors (l : Launch) (D : va_G) (κ : Nat → ClassId) (T S : Nat) (ad : Nat → Nat) (bs sm pl r0 r1 : Nat → Int32) (tk vo : Int32) (hT : T ≤ 12) (hS8 : S ≤ 8) (hpl : ∀ t, t < T → vp_in (pl t) (T + 2))  : Met l yX1_wrongSectors wsX1_wrongSectors ({ frames := 3, cells := 0, slots := 0, locals := 71 }) (va_Pc [.ref ((ad 0))] (pu_B D κ (sfW κ T S ad bs sm pl r0 r1 tk vo))) (pu_Q (.int (nI (cn2 (iwF bs sm pl S) S T)))) 0 0 pu_N := by
  refine Met.ofW (cc := cX1_wrongSectors) (maxL := 4) (ret := (some .int)) (by decide) rfl ?_
  intro p e s m args below meth c s₁ B hml hv
  obtain ⟨rfl, hP, hK⟩ := hv
  have hx := B.exec
  have hb := B.bytes
  have hr := B.returns
  have hts := atoms_spec (ws := wsX1_wrongSectors) B.pre
  have hown : s.vm.findClass RX1 = some m.cls := findClass_of_methodNamed B.named
  have hlocks := B.notSynchronized
  have hl := lv_entry ([.ref ((ad 0))]) (n := 4) (Nat.le_of_ble_eq_true rfl)
  rw [lg_entry_eq]
  generalize (lg_sl ([.ref ((ad 0))]) ++ List.replicate (4 - (lg_sl ([.ref ((ad 0))])).length) Slot.unset).toArray = ls at hl ⊢
  have hl : lv_has ls 4 [(0, .ref ((ad 0)))] := hl
  have hmx := sf_max hT hS8
  refine lv_iconst (v := nI 0) hx hb dX1_wrongSectors_0 (by decide) ?_
  refine lv_istore_n (lv' := [(1, .int (nI 0)), (0, .ref ((ad 0)))]) hx hb dX1_wrongSectors_1 rfl hl (by decide) rfl (fun ls hl => ?_)
  refine lv_iconst (v := nI 0) hx hb dX1_wrongSectors_2 (by decide) ?_
  refine lv_istore_n (lv' := [(2, .int (nI 0)), (1, .int (nI 0)), (0, .ref ((ad 0)))]) hx hb dX1_wrongSectors_3 rfl hl (by decide) rfl (fun ls hl => ?_)
  refine W.loopP (N := T) (I := fun t ls => lv_has ls 4 [(2, .int (nI t)), (1, .int (nI (cn2 (iwF bs sm pl S) S t))), (0, .ref ((ad 0)))]) 0 (by omega) (fun t ls ht hl iht => ?_) (fun ls hl => ?_) (lv_sub hl [0, 1, 2] rfl)
  · skip
    refine lv_iload_n hx hb dX1_wrongSectors_4 rfl (lv_at hl 0 rfl) ?_
    refine lv_aload_n hx hb dX1_wrongSectors_5 rfl (lv_at hl 2 rfl) ?_
    refine va_get (D := D) (ci := 2) (v := .int (nI T)) (C := RX1) (T := TX1) (N := 9) hx hb hts (by decide +kernel) hown hK hP 0 rfl rfl 0 (by decide) (hts (.fieldLink RX1 9 "TrackDisk$Surface" "tracks" "I") (by decide +kernel)) (fun _ h9 => h9) rfl dX1_wrongSectors_6 ?_
    refine lv_icmp_ge (tgt := 46) hx hb dX1_wrongSectors_9 (by decide) (fun c_9 => ?_) (fun c_9 => ?_)
    · exact absurd c_9 (nI_ge ht (by omega))
    · skip
      refine lv_iconst (v := nI 0) hx hb dX1_wrongSectors_12 (by decide) ?_
      refine lv_istore_n (lv' := [(3, .int (nI 0)), (2, .int (nI t)), (1, .int (nI (cn2 (iwF bs sm pl S) S t))), (0, .ref ((ad 0)))]) hx hb dX1_wrongSectors_13 rfl hl (by decide) rfl (fun ls hl => ?_)
      refine W.loopP (N := S) (I := fun k ls => lv_has ls 4 [(3, .int (nI k)), (2, .int (nI t)), (1, .int (nI (cn2 (iwF bs sm pl S) S t + cnt (iwF bs sm pl S t) k))), (0, .ref ((ad 0)))]) 0 (by omega) (fun k ls hk hl ihk => ?_) (fun ls hl => ?_) (lv_sub hl [0, 1, 2, 3] rfl)
      · skip
        refine lv_iload_n hx hb dX1_wrongSectors_14 rfl (lv_at hl 0 rfl) ?_
        refine lv_aload_n hx hb dX1_wrongSectors_15 rfl (lv_at hl 3 rfl) ?_
        refine va_get (D := D) (ci := 2) (v := .int (nI S)) (C := RX1) (T := TX1) (N := 9) hx hb hts (by decide +kernel) hown hK hP 0 rfl rfl 1 (by decide) (hts (.fieldLink RX1 15 "TrackDisk$Surface" "sectors" "I") (by decide +kernel)) (fun _ h9 => h9) rfl dX1_wrongSectors_16 ?_
        refine lv_icmp_ge (tgt := 40) hx hb dX1_wrongSectors_19 (by decide) (fun c_19 => ?_) (fun c_19 => ?_)
        · exact absurd c_19 (nI_ge hk (by omega))
        · skip
          refine lv_aload_n hx hb dX1_wrongSectors_22 rfl (lv_at hl 3 rfl) ?_
          refine lv_iload_n hx hb dX1_wrongSectors_23 rfl (lv_at hl 1 rfl) ?_
          refine lv_iload_n hx hb dX1_wrongSectors_24 rfl (lv_at hl 0 rfl) ?_
          have hPc := hP.sub (ws' := sfW κ T S ad bs sm pl r0 r1 tk vo) [0, 1, 2, 3, 4, 5] rfl
          refine pu_call (va_runV (As := [.int (nI t), .int (nI k)]) (rest := []) ⟨hx, hb, hml, hown, hts⟩ (c_isWrong l D κ T S ad bs sm pl r0 r1 tk vo hT hS8 hpl t k ht hk) (cwV 2 hts gX1_wrongSectors_X1_isWrong rfl rfl rfl (by decide +kernel) ⟨Nat.le_of_ble_eq_true rfl, Nat.le_of_ble_eq_true rfl⟩) ⟨pu_blind, va_recv hK hPc (ci := 2) (q0 := 0) rfl rfl, pu_pre hK hPc⟩ rfl rfl hl.1 rfl (lv_room (Nat.le_of_ble_eq_true rfl)) dX1_wrongSectors_25 ⟨Nat.le_of_ble_eq_true rfl, Nat.le_of_ble_eq_true rfl⟩) ?_
          refine lv_if_eq (tgt := 34) hx hb dX1_wrongSectors_28 (by decide) (fun c_28 => ?_) (fun c_28 => ?_)
          · skip
            rw [show cnt (iwF bs sm pl S t) k = cnt (iwF bs sm pl S t) (k + 1) from (cnt_f (bI_eq c_28)).symm] at hl
            refine lv_iinc (v := nI (k + 1)) (lv' := [(3, .int (nI (k + 1))), (2, .int (nI t)), (1, .int (nI (cn2 (iwF bs sm pl S) S t + cnt (iwF bs sm pl S t) (k + 1)))), (0, .ref ((ad 0)))]) hx hb dX1_wrongSectors_34 hl (k := 0) rfl (by exact nI_1 _) (by decide) rfl (fun ls hl => ?_)
            refine lv_goto (tgt := 14) hx hb dX1_wrongSectors_37 (by decide) ?_
            exact ihk ls (lv_sub hl [0, 1, 2, 3] rfl)
          · skip
            refine lv_iinc (v := nI (cn2 (iwF bs sm pl S) S t + cnt (iwF bs sm pl S t) (k + 1))) (lv' := [(1, .int (nI (cn2 (iwF bs sm pl S) S t + cnt (iwF bs sm pl S t) (k + 1)))), (3, .int (nI k)), (2, .int (nI t)), (0, .ref ((ad 0)))]) hx hb dX1_wrongSectors_31 hl (k := 2) rfl (by rw [cnt_t (bI_ne c_28), ← Nat.add_assoc]; exact nI_1 _) (by decide) rfl (fun ls hl => ?_)
            refine lv_iinc (v := nI (k + 1)) (lv' := [(3, .int (nI (k + 1))), (1, .int (nI (cn2 (iwF bs sm pl S) S t + cnt (iwF bs sm pl S t) (k + 1)))), (2, .int (nI t)), (0, .ref ((ad 0)))]) hx hb dX1_wrongSectors_34 hl (k := 1) rfl (by exact nI_1 _) (by decide) rfl (fun ls hl => ?_)
            refine lv_goto (tgt := 14) hx hb dX1_wrongSectors_37 (by decide) ?_
            exact ihk ls (lv_sub hl [0, 2, 1, 3] rfl)
      · skip
        refine lv_iload_n hx hb dX1_wrongSectors_14 rfl (lv_at hl 0 rfl) ?_
        refine lv_aload_n hx hb dX1_wrongSectors_15 rfl (lv_at hl 3 rfl) ?_
        refine va_get (D := D) (ci := 2) (v := .int (nI S)) (C := RX1) (T := TX1) (N := 9) hx hb hts (by decide +kernel) hown hK hP 0 rfl rfl 1 (by decide) (hts (.fieldLink RX1 15 "TrackDisk$Surface" "sectors" "I") (by decide +kernel)) (fun _ h9 => h9) rfl dX1_wrongSectors_16 ?_
        refine lv_icmp_ge (tgt := 40) hx hb dX1_wrongSectors_19 (by decide) (fun c_19 => ?_) (fun c_19 => ?_)
        · skip
          refine lv_iinc (v := nI (t + 1)) (lv' := [(2, .int (nI (t + 1))), (3, .int (nI S)), (1, .int (nI (cn2 (iwF bs sm pl S) S t + cnt (iwF bs sm pl S t) S))), (0, .ref ((ad 0)))]) hx hb dX1_wrongSectors_40 hl (k := 1) rfl (by exact nI_1 _) (by decide) rfl (fun ls hl => ?_)
          refine lv_goto (tgt := 4) hx hb dX1_wrongSectors_43 (by decide) ?_
          exact iht ls (lv_sub hl [0, 2, 3] rfl)
        · exact absurd (nI_le (Nat.le_refl _) (by omega)) c_19
  · skip
    refine lv_iload_n hx hb dX1_wrongSectors_4 rfl (lv_at hl 0 rfl) ?_
    refine lv_aload_n hx hb dX1_wrongSectors_5 rfl (lv_at hl 2 rfl) ?_
    refine va_get (D := D) (ci := 2) (v := .int (nI T)) (C := RX1) (T := TX1) (N := 9) hx hb hts (by decide +kernel) hown hK hP 0 rfl rfl 0 (by decide) (hts (.fieldLink RX1 9 "TrackDisk$Surface" "tracks" "I") (by decide +kernel)) (fun _ h9 => h9) rfl dX1_wrongSectors_6 ?_
    refine lv_icmp_ge (tgt := 46) hx hb dX1_wrongSectors_9 (by decide) (fun c_9 => ?_) (fun c_9 => ?_)
    · skip
      refine lv_iload_n hx hb dX1_wrongSectors_46 rfl (lv_at hl 1 rfl) ?_
      exact pu_iret hx hb hr hlocks dX1_wrongSectors_47
    · exact absurd (nI_le (Nat.le_refl _) (by omega)) c_9

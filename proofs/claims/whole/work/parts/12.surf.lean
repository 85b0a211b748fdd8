/-! Surface, second part -/
theorem sf_tlt {T S p k : Nat} (hp : p < T + 2) (hk : k < S * 16) : (p * S + 0) * 16 + k < (T + 2) * S * 16 := by
  have h1 : (p + 1) * S ≤ (T + 2) * S := Nat.mul_le_mul_right S (by omega)
  rw [Nat.succ_mul] at h1
  omega
theorem sf_tle {T S p : Nat} (hp : p < T + 2) : (p * S + 0) * 16 + S * 16 ≤ (T + 2) * S * 16 := by
  have h1 : (p + 1) * S ≤ (T + 2) * S := Nat.mul_le_mul_right S (by omega)
  rw [Nat.succ_mul] at h1
  omega
theorem nz_t {f : Nat → Int32} {a k n : Nat} (hk : k < n) (h : ¬ f (a + k) = 0) : nzF f a n = true := by
  induction n with
  | zero => omega
  | succ n ih =>
    rcases Nat.lt_or_ge k n with q | q
    · simp [nzF, ih q]
    · have : k = n := by omega
      subst this
      simp [nzF, h]
/-- whether a track holds more than zeros -/
def usF (bs pl : Nat → Int32) (S t : Nat) : Bool := nzF bs ((cl (pl t) * S + 0) * 16) (S * 16)
/-- the first wrong one, as track * 8 + sector, or -1 -/
def fwS (f : Nat → Nat → Bool) (T S : Nat) (r : Int32) : Prop := (r = -1 ∧ ∀ t s, t < T → s < S → f t s = false) ∨ ∃ t s, t < T ∧ s < S ∧ f t s = true ∧ (∀ t' s', t' < T → s' < S → t' * 8 + s' < t * 8 + s → f t' s' = false) ∧ r = nI (t * 8 + s)
theorem fwS_u {f : Nat → Nat → Bool} {T S : Nat} {x y : Int32} (hx : fwS f T S x) (hy : fwS f T S y) : x = y := by
  rcases hx with ⟨ex, ax⟩ | ⟨t, s, h1, h2, h3, h4, ex⟩ <;> rcases hy with ⟨ey, ay⟩ | ⟨t', s', g1, g2, g3, g4, ey⟩
  · rw [ex, ey]
  · rw [ax t' s' g1 g2] at g3; cases g3
  · rw [ay t s h1 h2] at h3; cases h3
  · rcases Nat.lt_trichotomy (t * 8 + s) (t' * 8 + s') with q | q | q
    · rw [g4 t s h1 h2 q] at h3; cases h3
    · rw [ex, ey, q]
    · rw [h4 t' s' g1 g2 q] at g3; cases g3
theorem fw_out {f : Nat → Nat → Bool} {S t : Nat} (h : ∀ t' s', t' < t → s' < S → f t' s' = false) (g : ∀ s', s' < S → f t s' = false) : ∀ t' s', t' < t + 1 → s' < S → f t' s' = false := by
  intro t' s' h1 h2
  rcases Nat.lt_or_ge t' t with q | q
  · exact h t' s' q h2
  · have : t' = t := by omega
    subst this
    exact g s' h2
theorem fw_at {f : Nat → Nat → Bool} {T S t k : Nat} (hS : S ≤ 8) (ht : t < T) (hk : k < S) (h : ∀ t' s', t' < t → s' < S → f t' s' = false) (g : ∀ s', s' < k → f t s' = false) (e : f t k = true) : fwS f T S (nI (t * 8 + k)) := by
  refine Or.inr ⟨t, k, ht, hk, e, fun t' s' h1 h2 h3 => ?_, rfl⟩
  rcases Nat.lt_or_ge t' t with q | q
  · exact h t' s' q h2
  · have : t' = t := by omega
    subst this
    exact g s' (by omega)
/-- mending: where the rows differ -/
def dfF (r0 r1 : Nat → Int32) (t : Nat) : Bool := decide (¬ r0 t = r1 t)
def mdR (u : Nat → Bool) (r0 r1 x : Nat → Int32) (n : Nat) : Nat → Int32 := fun j => if j < n ∧ ¬ r0 j = r1 j then bI (u j) else x j
theorem mdR_0 {u : Nat → Bool} {r0 r1 x : Nat → Int32} : mdR u r0 r1 x 0 = x := by funext j; simp [mdR]
theorem mdR_at {u : Nat → Bool} {r0 r1 x : Nat → Int32} {n : Nat} : mdR u r0 r1 x n n = x n := by simp [mdR]
theorem mdR_s {u : Nat → Bool} {r0 r1 x : Nat → Int32} {n : Nat} (h : r0 n = r1 n) : mdR u r0 r1 x n = mdR u r0 r1 x (n + 1) := by
  funext j
  by_cases q : j = n
  · subst q; simp [mdR, h]
  · simp only [mdR, show (j < n + 1) = (j < n) from propext ⟨fun _ => by omega, fun _ => by omega⟩]
theorem mdR_u {u : Nat → Bool} {r0 r1 x : Nat → Int32} {n : Nat} {v : Int32} (h : ¬ r0 n = r1 n) (hv : v = bI (u n)) : upd (mdR u r0 r1 x n) n v = mdR u r0 r1 x (n + 1) := by
  funext j
  by_cases q : j = n
  · subst q; rw [pk_us]; simp [mdR, h, hv]
  · rw [pk_un q]; simp only [mdR, show (j < n + 1) = (j < n) from propext ⟨fun _ => by omega, fun _ => by omega⟩]
def isF (pl : Nat → Int32) (T t : Nat) : Bool := decide (T ≤ cl (pl t))
/-- whether two rows differ in one of n places from a on -/
def dnF (f g : Nat → Int32) (a : Nat) : Nat → Bool
  | 0 => false
  | n + 1 => dnF f g a n || decide (¬ f (a + n) = g (a + n))
theorem dn_t {f g : Nat → Int32} {a k n : Nat} (hk : k < n) (h : ¬ f (a + k) = g (a + k)) : dnF f g a n = true := by
  induction n with
  | zero => omega
  | succ n ih =>
    rcases Nat.lt_or_ge k n with q | q
    · simp [dnF, ih q]
    · have : k = n := by omega
      subst this
      simp [dnF, h]
theorem sf_qlt {T S q k : Nat} (hq : q < (T + 2) * S) (hk : k < 16) : q * 16 + k < (T + 2) * S * 16 := by omega

set_option maxHeartbeats 4000000 in
set_option maxRecDepth 100000 in
/-- firstWrong() -/
theorem c_firstWrong (l : Launch) (D : va_G) (κ : Nat → ClassId) (T S : Nat) (ad : Nat → Nat) (bs sm pl r0 r1 : Nat → Int32) (tk vo : Int32) (hT : T ≤ 12) (hS8 : S ≤ 8) (hpl : ∀ t, t < T → vp_in (pl t) (T + 2)) (r : Int32) (hfw : fwS (iwF bs sm pl S) T S r) : Met l yX1_firstWrong wsX1_firstWrong ({ frames := 3, cells := 0, slots := 0, locals := 71 }) (va_Pc [.ref ((ad 0))] (pu_B D κ (sfW κ T S ad bs sm pl r0 r1 tk vo))) (pu_Q (.int (r))) 0 0 pu_N := by
  refine Met.ofW (cc := cX1_firstWrong) (maxL := 3) (ret := (some .int)) (by decide) rfl ?_
  intro p e s m args below meth c s₁ B hml hv
  obtain ⟨rfl, hP, hK⟩ := hv
  have hx := B.exec
  have hb := B.bytes
  have hr := B.returns
  have hts := atoms_spec (ws := wsX1_firstWrong) B.pre
  have hown : s.vm.findClass RX1 = some m.cls := findClass_of_methodNamed B.named
  have hlocks := B.notSynchronized
  have hl := lv_entry ([.ref ((ad 0))]) (n := 3) (Nat.le_of_ble_eq_true rfl)
  rw [lg_entry_eq]
  generalize (lg_sl ([.ref ((ad 0))]) ++ List.replicate (3 - (lg_sl ([.ref ((ad 0))])).length) Slot.unset).toArray = ls at hl ⊢
  have hl : lv_has ls 3 [(0, .ref ((ad 0)))] := hl
  have hmx := sf_max hT hS8
  refine lv_iconst (v := nI 0) hx hb dX1_firstWrong_0 (by decide) ?_
  refine lv_istore_n (lv' := [(1, .int (nI 0)), (0, .ref ((ad 0)))]) hx hb dX1_firstWrong_1 rfl hl (by decide) rfl (fun ls hl => ?_)
  refine W.loopP (N := T) (I := fun t ls => lv_has ls 3 [(1, .int (nI t)), (0, .ref ((ad 0)))] ∧ (∀ t' s', t' < t → s' < S → iwF bs sm pl S t' s' = false)) 0 (by omega) (fun t ls ht hI iht => ?_) (fun ls hI => ?_) ⟨lv_sub hl [0, 1] rfl, fun _ _ h => absurd h (Nat.not_lt_zero _)⟩
  · skip
    clear hl
    obtain ⟨hl, hJt⟩ := hI
    refine lv_iload_n hx hb dX1_firstWrong_2 rfl (lv_at hl 0 rfl) ?_
    refine lv_aload_n hx hb dX1_firstWrong_3 rfl (lv_at hl 1 rfl) ?_
    refine va_get (D := D) (ci := 2) (v := .int (nI T)) (C := RX1) (T := TX1) (N := 9) hx hb hts (by decide +kernel) hown hK hP 0 rfl rfl 0 (by decide) (hts (.fieldLink RX1 9 "TrackDisk$Surface" "tracks" "I") (by decide +kernel)) (fun _ h9 => h9) rfl dX1_firstWrong_4 ?_
    refine lv_icmp_ge (tgt := 48) hx hb dX1_firstWrong_7 (by decide) (fun c_7 => ?_) (fun c_7 => ?_)
    · exact absurd c_7 (nI_ge ht (by omega))
    · skip
      refine lv_iconst (v := nI 0) hx hb dX1_firstWrong_10 (by decide) ?_
      refine lv_istore_n (lv' := [(2, .int (nI 0)), (1, .int (nI t)), (0, .ref ((ad 0)))]) hx hb dX1_firstWrong_11 rfl hl (by decide) rfl (fun ls hl => ?_)
      refine W.loopP (N := S) (I := fun k ls => lv_has ls 3 [(2, .int (nI k)), (1, .int (nI t)), (0, .ref ((ad 0)))] ∧ (∀ s', s' < k → iwF bs sm pl S t s' = false)) 0 (by omega) (fun k ls hk hI ihk => ?_) (fun ls hI => ?_) ⟨lv_sub hl [0, 1, 2] rfl, fun _ h => absurd h (Nat.not_lt_zero _)⟩
      · skip
        clear hl
        obtain ⟨hl, hJk⟩ := hI
        refine lv_iload_n hx hb dX1_firstWrong_12 rfl (lv_at hl 0 rfl) ?_
        refine lv_aload_n hx hb dX1_firstWrong_13 rfl (lv_at hl 2 rfl) ?_
        refine va_get (D := D) (ci := 2) (v := .int (nI S)) (C := RX1) (T := TX1) (N := 9) hx hb hts (by decide +kernel) hown hK hP 0 rfl rfl 1 (by decide) (hts (.fieldLink RX1 15 "TrackDisk$Surface" "sectors" "I") (by decide +kernel)) (fun _ h9 => h9) rfl dX1_firstWrong_14 ?_
        refine lv_icmp_ge (tgt := 42) hx hb dX1_firstWrong_17 (by decide) (fun c_17 => ?_) (fun c_17 => ?_)
        · exact absurd c_17 (nI_ge hk (by omega))
        · skip
          refine lv_aload_n hx hb dX1_firstWrong_20 rfl (lv_at hl 2 rfl) ?_
          refine lv_iload_n hx hb dX1_firstWrong_21 rfl (lv_at hl 1 rfl) ?_
          refine lv_iload_n hx hb dX1_firstWrong_22 rfl (lv_at hl 0 rfl) ?_
          have hPc := hP.sub (ws' := sfW κ T S ad bs sm pl r0 r1 tk vo) [0, 1, 2, 3, 4, 5] rfl
          refine pu_call (va_runV (As := [.int (nI t), .int (nI k)]) (rest := []) ⟨hx, hb, hml, hown, hts⟩ (c_isWrong l D κ T S ad bs sm pl r0 r1 tk vo hT hS8 hpl t k ht hk) (cwV 2 hts gX1_firstWrong_X1_isWrong rfl rfl rfl (by decide +kernel) ⟨Nat.le_of_ble_eq_true rfl, Nat.le_of_ble_eq_true rfl⟩) ⟨pu_blind, va_recv hK hPc (ci := 2) (q0 := 0) rfl rfl, pu_pre hK hPc⟩ rfl rfl hl.1 rfl (lv_room (Nat.le_of_ble_eq_true rfl)) dX1_firstWrong_23 ⟨Nat.le_of_ble_eq_true rfl, Nat.le_of_ble_eq_true rfl⟩) ?_
          refine lv_if_eq (tgt := 36) hx hb dX1_firstWrong_26 (by decide) (fun c_26 => ?_) (fun c_26 => ?_)
          · skip
            refine lv_iinc (v := nI (k + 1)) (lv' := [(2, .int (nI (k + 1))), (1, .int (nI t)), (0, .ref ((ad 0)))]) hx hb dX1_firstWrong_36 hl (k := 0) rfl (by exact nI_1 _) (by decide) rfl (fun ls hl => ?_)
            refine lv_goto (tgt := 12) hx hb dX1_firstWrong_39 (by decide) ?_
            exact ihk ls ⟨lv_sub hl [0, 1, 2] rfl, lt_s hJk (bI_eq c_26)⟩
          · skip
            refine lv_iload_n hx hb dX1_firstWrong_29 rfl (lv_at hl 1 rfl) ?_
            refine lv_bipush (v := nI 8) hx hb dX1_firstWrong_30 (by decide) ?_
            refine lv_imul hx hb dX1_firstWrong_32 ?_
            refine tp_i (y := nI (t * 8)) (by exact pk_mul _ _) ?_
            refine lv_iload_n hx hb dX1_firstWrong_33 rfl (lv_at hl 0 rfl) ?_
            refine lv_iadd hx hb dX1_firstWrong_34 ?_
            refine tp_i (y := nI ((t * 8) + k)) (by exact nI_add _ _) ?_
            refine tp_i (y := r) (fwS_u (fw_at hS8 ht hk hJt hJk (bI_ne c_26)) hfw) ?_
            exact pu_iret hx hb hr hlocks dX1_firstWrong_35
      · skip
        clear hl
        obtain ⟨hl, hJk⟩ := hI
        refine lv_iload_n hx hb dX1_firstWrong_12 rfl (lv_at hl 0 rfl) ?_
        refine lv_aload_n hx hb dX1_firstWrong_13 rfl (lv_at hl 2 rfl) ?_
        refine va_get (D := D) (ci := 2) (v := .int (nI S)) (C := RX1) (T := TX1) (N := 9) hx hb hts (by decide +kernel) hown hK hP 0 rfl rfl 1 (by decide) (hts (.fieldLink RX1 15 "TrackDisk$Surface" "sectors" "I") (by decide +kernel)) (fun _ h9 => h9) rfl dX1_firstWrong_14 ?_
        refine lv_icmp_ge (tgt := 42) hx hb dX1_firstWrong_17 (by decide) (fun c_17 => ?_) (fun c_17 => ?_)
        · skip
          refine lv_iinc (v := nI (t + 1)) (lv' := [(1, .int (nI (t + 1))), (2, .int (nI S)), (0, .ref ((ad 0)))]) hx hb dX1_firstWrong_42 hl (k := 1) rfl (by exact nI_1 _) (by decide) rfl (fun ls hl => ?_)
          refine lv_goto (tgt := 2) hx hb dX1_firstWrong_45 (by decide) ?_
          exact iht ls ⟨lv_sub hl [0, 2] rfl, fw_out hJt hJk⟩
        · exact absurd (nI_le (Nat.le_refl _) (by omega)) c_17
  · skip
    clear hl
    obtain ⟨hl, hJt⟩ := hI
    refine lv_iload_n hx hb dX1_firstWrong_2 rfl (lv_at hl 0 rfl) ?_
    refine lv_aload_n hx hb dX1_firstWrong_3 rfl (lv_at hl 1 rfl) ?_
    refine va_get (D := D) (ci := 2) (v := .int (nI T)) (C := RX1) (T := TX1) (N := 9) hx hb hts (by decide +kernel) hown hK hP 0 rfl rfl 0 (by decide) (hts (.fieldLink RX1 9 "TrackDisk$Surface" "tracks" "I") (by decide +kernel)) (fun _ h9 => h9) rfl dX1_firstWrong_4 ?_
    refine lv_icmp_ge (tgt := 48) hx hb dX1_firstWrong_7 (by decide) (fun c_7 => ?_) (fun c_7 => ?_)
    · skip
      refine lv_iconst (v := (-1)) hx hb dX1_firstWrong_48 (by decide) ?_
      refine tp_i (y := r) (fwS_u (Or.inl ⟨rfl, hJt⟩) hfw) ?_
      exact pu_iret hx hb hr hlocks dX1_firstWrong_49
    · exact absurd (nI_le (Nat.le_refl _) (by omega)) c_7

set_option maxHeartbeats 4000000 in
set_option maxRecDepth 100000 in
/-- holdsMoreThanZeros(track) -/
theorem c_holds (l : Launch) (D : va_G) (κ : Nat → ClassId) (T S : Nat) (ad : Nat → Nat) (bs sm pl r0 r1 : Nat → Int32) (tk vo : Int32) (hT : T ≤ 12) (hS8 : S ≤ 8) (hpl : ∀ t, t < T → vp_in (pl t) (T + 2)) (t : Nat) (ht : t < T) : Met l yX1_holdsMoreThanZeros wsX1_holdsMoreThanZeros ({ frames := 2, cells := 0, slots := 0, locals := 44 }) (va_Pc [.ref ((ad 0)), .int (nI t)] (pu_B D κ (sfW κ T S ad bs sm pl r0 r1 tk vo))) (pu_Q (.int (bI (usF bs pl S t)))) 0 0 pu_N := by
  refine Met.ofW (cc := cX1_holdsMoreThanZeros) (maxL := 4) (ret := (some .boolean)) (by decide) rfl ?_
  intro p e s m args below meth c s₁ B hml hv
  obtain ⟨rfl, hP, hK⟩ := hv
  have hx := B.exec
  have hb := B.bytes
  have hr := B.returns
  have hts := atoms_spec (ws := wsX1_holdsMoreThanZeros) B.pre
  have hown : s.vm.findClass RX1 = some m.cls := findClass_of_methodNamed B.named
  have hlocks := B.notSynchronized
  have hl := lv_entry ([.ref ((ad 0)), .int (nI t)]) (n := 4) (Nat.le_of_ble_eq_true rfl)
  rw [lg_entry_eq]
  generalize (lg_sl ([.ref ((ad 0)), .int (nI t)]) ++ List.replicate (4 - (lg_sl ([.ref ((ad 0)), .int (nI t)])).length) Slot.unset).toArray = ls at hl ⊢
  have hl : lv_has ls 4 [(0, .ref ((ad 0))), (1, .int (nI t))] := hl
  have hmx := sf_max hT hS8
  have hplt := cl_nI (hpl t ht) (by omega)
  refine lv_aload_n hx hb dX1_holdsMoreThanZeros_0 rfl (lv_at hl 0 rfl) ?_
  refine lv_iload_n hx hb dX1_holdsMoreThanZeros_1 rfl (lv_at hl 1 rfl) ?_
  refine lv_iconst (v := nI 0) hx hb dX1_holdsMoreThanZeros_2 (by decide) ?_
  have hPc := hP.sub (ws' := sfW κ T S ad bs sm pl r0 r1 tk vo) [0, 1, 2, 3, 4, 5] rfl
  refine pu_call (va_runV (As := [.int (nI t), .int (nI 0)]) (rest := []) ⟨hx, hb, hml, hown, hts⟩ (c_firstByte l D κ T S ad bs sm pl r0 r1 tk vo hT hS8 hpl t 0 ht) (cwV 2 hts gX1_holdsMoreThanZeros_X1_firstByte rfl rfl rfl (by decide +kernel) ⟨Nat.le_of_ble_eq_true rfl, Nat.le_of_ble_eq_true rfl⟩) ⟨pu_blind, va_recv hK hPc (ci := 2) (q0 := 0) rfl rfl, pu_pre hK hPc⟩ rfl rfl hl.1 rfl (lv_room (Nat.le_of_ble_eq_true rfl)) dX1_holdsMoreThanZeros_3 ⟨Nat.le_of_ble_eq_true rfl, Nat.le_of_ble_eq_true rfl⟩) ?_
  refine lv_istore_n (lv' := [(2, .int (nI ((cl (pl t) * S + 0) * 16))), (0, .ref ((ad 0))), (1, .int (nI t))]) hx hb dX1_holdsMoreThanZeros_6 rfl hl (by decide) rfl (fun ls hl => ?_)
  refine lv_iconst (v := nI 0) hx hb dX1_holdsMoreThanZeros_7 (by decide) ?_
  refine lv_istore_n (lv' := [(3, .int (nI 0)), (2, .int (nI ((cl (pl t) * S + 0) * 16))), (0, .ref ((ad 0))), (1, .int (nI t))]) hx hb dX1_holdsMoreThanZeros_8 rfl hl (by decide) rfl (fun ls hl => ?_)
  refine W.loopP (N := S * 16) (I := fun k ls => lv_has ls 4 [(3, .int (nI k)), (2, .int (nI ((cl (pl t) * S + 0) * 16))), (0, .ref ((ad 0))), (1, .int (nI t))] ∧ nzF bs ((cl (pl t) * S + 0) * 16) k = false) 0 (by omega) (fun k ls hk hI ihk => ?_) (fun ls hI => ?_) ⟨lv_sub hl [0, 1, 2, 3] rfl, rfl⟩
  · skip
    clear hl
    obtain ⟨hl, hJk⟩ := hI
    have hlt := sf_tlt hplt.2 hk
    refine lv_iload_n hx hb dX1_holdsMoreThanZeros_9 rfl (lv_at hl 0 rfl) ?_
    refine lv_aload_n hx hb dX1_holdsMoreThanZeros_10 rfl (lv_at hl 2 rfl) ?_
    refine va_get (D := D) (ci := 2) (v := .int (nI S)) (C := RX1) (T := TX1) (N := 9) hx hb hts (by decide +kernel) hown hK hP 0 rfl rfl 1 (by decide) (hts (.fieldLink RX1 15 "TrackDisk$Surface" "sectors" "I") (by decide +kernel)) (fun _ h9 => h9) rfl dX1_holdsMoreThanZeros_11 ?_
    refine lv_bipush (v := nI 16) hx hb dX1_holdsMoreThanZeros_14 (by decide) ?_
    refine lv_imul hx hb dX1_holdsMoreThanZeros_16 ?_
    refine tp_i (y := nI (S * 16)) (by exact pk_mul _ _) ?_
    refine lv_icmp_ge (tgt := 39) hx hb dX1_holdsMoreThanZeros_17 (by decide) (fun c_17 => ?_) (fun c_17 => ?_)
    · exact absurd c_17 (nI_ge hk (by omega))
    · skip
      refine lv_aload_n hx hb dX1_holdsMoreThanZeros_20 rfl (lv_at hl 2 rfl) ?_
      refine va_get (D := D) (ci := 2) (v := .ref ((ad 1))) (C := RX1) (T := TX1) (N := 9) hx hb hts (by decide +kernel) hown hK hP 0 rfl rfl 2 (by decide) (hts (.fieldLink RX1 18 "TrackDisk$Surface" "bytes" "[B") (by decide +kernel)) (fun _ h9 => h9) rfl dX1_holdsMoreThanZeros_21 ?_
      refine lv_iload_n hx hb dX1_holdsMoreThanZeros_24 rfl (lv_at hl 1 rfl) ?_
      refine lv_iload_n hx hb dX1_holdsMoreThanZeros_25 rfl (lv_at hl 0 rfl) ?_
      refine lv_iadd hx hb dX1_holdsMoreThanZeros_26 ?_
      refine tp_i (y := nI (((cl (pl t) * S + 0) * 16) + k)) (by exact nI_add _ _) ?_
      refine va_bald hx hb hK hP 1 1 rfl rfl (vp_in_nI (by omega) (by omega)) dX1_holdsMoreThanZeros_27 ?_
      refine tp_i (y := bs (((cl (pl t) * S + 0) * 16) + k)) (by rw [nI_clamp (by omega)]) ?_
      refine lv_if_eq (tgt := 33) hx hb dX1_holdsMoreThanZeros_28 (by decide) (fun c_28 => ?_) (fun c_28 => ?_)
      · skip
        refine lv_iinc (v := nI (k + 1)) (lv' := [(3, .int (nI (k + 1))), (2, .int (nI ((cl (pl t) * S + 0) * 16))), (0, .ref ((ad 0))), (1, .int (nI t))]) hx hb dX1_holdsMoreThanZeros_33 hl (k := 0) rfl (by exact nI_1 _) (by decide) rfl (fun ls hl => ?_)
        refine lv_goto (tgt := 9) hx hb dX1_holdsMoreThanZeros_36 (by decide) ?_
        exact ihk ls ⟨lv_sub hl [0, 1, 2, 3] rfl, by simp only [nzF, hJk, Bool.false_or, decide_eq_false_iff_not, Decidable.not_not]; exact c_28⟩
      · skip
        refine lv_iconst (v := nI 1) hx hb dX1_holdsMoreThanZeros_31 (by decide) ?_
        refine tp_i (y := bI (usF bs pl S t)) (bI_t (nz_t hk c_28)) ?_
        exact pu_zret hx hb hr (by cases usF bs pl S t <;> rfl) hlocks dX1_holdsMoreThanZeros_32
  · skip
    clear hl
    obtain ⟨hl, hJk⟩ := hI
    refine lv_iload_n hx hb dX1_holdsMoreThanZeros_9 rfl (lv_at hl 0 rfl) ?_
    refine lv_aload_n hx hb dX1_holdsMoreThanZeros_10 rfl (lv_at hl 2 rfl) ?_
    refine va_get (D := D) (ci := 2) (v := .int (nI S)) (C := RX1) (T := TX1) (N := 9) hx hb hts (by decide +kernel) hown hK hP 0 rfl rfl 1 (by decide) (hts (.fieldLink RX1 15 "TrackDisk$Surface" "sectors" "I") (by decide +kernel)) (fun _ h9 => h9) rfl dX1_holdsMoreThanZeros_11 ?_
    refine lv_bipush (v := nI 16) hx hb dX1_holdsMoreThanZeros_14 (by decide) ?_
    refine lv_imul hx hb dX1_holdsMoreThanZeros_16 ?_
    refine tp_i (y := nI (S * 16)) (by exact pk_mul _ _) ?_
    refine lv_icmp_ge (tgt := 39) hx hb dX1_holdsMoreThanZeros_17 (by decide) (fun c_17 => ?_) (fun c_17 => ?_)
    · skip
      refine lv_iconst (v := nI 0) hx hb dX1_holdsMoreThanZeros_39 (by decide) ?_
      refine tp_i (y := bI (usF bs pl S t)) (bI_f hJk) ?_
      exact pu_zret hx hb hr (by cases usF bs pl S t <;> rfl) hlocks dX1_holdsMoreThanZeros_40
    · exact absurd (nI_le (Nat.le_refl _) (by omega)) c_17

set_option maxHeartbeats 4000000 in
set_option maxRecDepth 100000 in
/-- mendRows() -/
theorem c_mendRows (l : Launch) (D : va_G) (κ : Nat → ClassId) (sz : Nat) (T S : Nat) (ad : Nat → Nat) (bs sm pl r0 r1 : Nat → Int32) (tk vo : Int32) (hT : T ≤ 12) (hS8 : S ≤ 8) (hpl : ∀ t, t < T → vp_in (pl t) (T + 2))  : Met l yX1_mendRows wsX1_mendRows ({ frames := 3, cells := 0, slots := 0, locals := 67 }) (va_Pc [.ref ((ad 0))] (mu_B D κ (sfW κ T S ad bs sm pl r0 r1 tk vo) sz)) (mu_Q D (some (.int (nI (cnt (dfF r0 r1) T)))) (sfW κ T S ad bs sm pl (mdR (usF bs pl S) r0 r1 r0 T) (mdR (usF bs pl S) r0 r1 r1 T) tk vo) (va_A (sfW κ T S ad bs sm pl r0 r1 tk vo) sz)) 0 0 (va_A (sfW κ T S ad bs sm pl r0 r1 tk vo) sz) := by
  refine Met.ofW (cc := cX1_mendRows) (maxL := 4) (ret := (some .int)) (by decide) rfl ?_
  intro p e s m args below meth c s₁ B hml hv
  obtain ⟨rfl, hsz, hP, hK, hD0⟩ := hv
  have hx := B.exec
  have hb := B.bytes
  have hr := B.returns
  have hts := atoms_spec (ws := wsX1_mendRows) B.pre
  have hown : s.vm.findClass RX1 = some m.cls := findClass_of_methodNamed B.named
  have hlocks := B.notSynchronized
  subst hsz
  have hD := hD0.self (sz := s.heap.size)
  generalize hAe : va_A (sfW κ T S ad bs sm pl r0 r1 tk vo) s.heap.size = A at hD ⊢
  have hA : ∀ q : Nat, s.heap.size ≤ q → A q := fun q h => by rw [← hAe]; exact Or.inr h
  refine W.gen (P := fun H locs => va_P D vwCl (sfW κ T S ad bs sm pl r0 r1 tk vo) H ∧ va_S A s.heap H locs) (fun H locs h => ?_) ⟨hP, va_S.rf⟩
  clear hP
  obtain ⟨hP, hS⟩ := h
  have hl := lv_entry ([.ref ((ad 0))]) (n := 4) (Nat.le_of_ble_eq_true rfl)
  rw [lg_entry_eq]
  generalize (lg_sl ([.ref ((ad 0))]) ++ List.replicate (4 - (lg_sl ([.ref ((ad 0))])).length) Slot.unset).toArray = ls at hl ⊢
  have hl : lv_has ls 4 [(0, .ref ((ad 0)))] := hl
  have hmx := sf_max hT hS8
  refine lv_iconst (v := nI 0) hx hb dX1_mendRows_0 (by decide) ?_
  refine lv_istore_n (lv' := [(1, .int (nI 0)), (0, .ref ((ad 0)))]) hx hb dX1_mendRows_1 rfl hl (by decide) rfl (fun ls hl => ?_)
  refine lv_iconst (v := nI 0) hx hb dX1_mendRows_2 (by decide) ?_
  refine lv_istore_n (lv' := [(2, .int (nI 0)), (1, .int (nI 0)), (0, .ref ((ad 0)))]) hx hb dX1_mendRows_3 rfl hl (by decide) rfl (fun ls hl => ?_)
  refine W.loop (N := T) (I := fun t ls H locs => lv_has ls 4 [(2, .int (nI t)), (1, .int (nI (cnt (dfF r0 r1) t))), (0, .ref ((ad 0)))] ∧ va_P D vwCl (sfW κ T S ad bs sm pl (mdR (usF bs pl S) r0 r1 r0 t) (mdR (usF bs pl S) r0 r1 r1 t) tk vo) H ∧ va_D A (sfW κ T S ad bs sm pl (mdR (usF bs pl S) r0 r1 r0 t) (mdR (usF bs pl S) r0 r1 r1 t) tk vo) ∧ va_S A s.heap H locs) 0 (by omega) (fun t ls H locs ht hI iht => ?_) (fun ls H locs hI => ?_) ⟨lv_sub hl [0, 1, 2] rfl, hP, hD, hS⟩
  · skip
    clear hl hP hD hS
    obtain ⟨hl, hP, hD, hS⟩ := hI
    refine lv_iload_n hx hb dX1_mendRows_4 rfl (lv_at hl 0 rfl) ?_
    refine lv_aload_n hx hb dX1_mendRows_5 rfl (lv_at hl 2 rfl) ?_
    refine va_get (D := D) (ci := 2) (v := .int (nI T)) (C := RX1) (T := TX1) (N := 9) hx hb hts (by decide +kernel) hown hK hP 0 rfl rfl 0 (by decide) (hts (.fieldLink RX1 9 "TrackDisk$Surface" "tracks" "I") (by decide +kernel)) (fun _ h9 => h9) rfl dX1_mendRows_6 ?_
    refine lv_icmp_ge (tgt := 64) hx hb dX1_mendRows_9 (by decide) (fun c_9 => ?_) (fun c_9 => ?_)
    · exact absurd c_9 (nI_ge ht (by omega))
    · skip
      refine lv_aload_n hx hb dX1_mendRows_12 rfl (lv_at hl 2 rfl) ?_
      refine va_get (D := D) (ci := 2) (v := .ref ((ad 4))) (C := RX1) (T := TX1) (N := 9) hx hb hts (by decide +kernel) hown hK hP 0 rfl rfl 5 (by decide) (hts (.fieldLink RX1 29 "TrackDisk$Surface" "usedByRow0" "[I") (by decide +kernel)) (fun _ h9 => h9) rfl dX1_mendRows_13 ?_
      refine lv_iload_n hx hb dX1_mendRows_16 rfl (lv_at hl 0 rfl) ?_
      refine va_iald hx hb hK hP 4 0 rfl rfl (vp_in_nI (by omega) (by omega)) dX1_mendRows_17 ?_
      refine tp_i (y := r0 t) (by rw [nI_clamp (by omega)]; exact mdR_at) ?_
      refine lv_aload_n hx hb dX1_mendRows_18 rfl (lv_at hl 2 rfl) ?_
      refine va_get (D := D) (ci := 2) (v := .ref ((ad 5))) (C := RX1) (T := TX1) (N := 9) hx hb hts (by decide +kernel) hown hK hP 0 rfl rfl 6 (by decide) (hts (.fieldLink RX1 32 "TrackDisk$Surface" "usedByRow1" "[I") (by decide +kernel)) (fun _ h9 => h9) rfl dX1_mendRows_19 ?_
      refine lv_iload_n hx hb dX1_mendRows_22 rfl (lv_at hl 0 rfl) ?_
      refine va_iald hx hb hK hP 5 0 rfl rfl (vp_in_nI (by omega) (by omega)) dX1_mendRows_23 ?_
      refine tp_i (y := r1 t) (by rw [nI_clamp (by omega)]; exact mdR_at) ?_
      refine lv_icmp_eq (tgt := 58) hx hb dX1_mendRows_24 (by decide) (fun c_24 => ?_) (fun c_24 => ?_)
      · skip
        rw [show mdR (usF bs pl S) r0 r1 r0 t = mdR (usF bs pl S) r0 r1 r0 (t + 1) from mdR_s c_24, show mdR (usF bs pl S) r0 r1 r1 t = mdR (usF bs pl S) r0 r1 r1 (t + 1) from mdR_s c_24] at hP hD
        rw [show cnt (dfF r0 r1) t = cnt (dfF r0 r1) (t + 1) from (cnt_f (by simp only [dfF, decide_eq_false_iff_not, Decidable.not_not]; exact c_24)).symm] at hl
        refine lv_iinc (v := nI (t + 1)) (lv' := [(2, .int (nI (t + 1))), (1, .int (nI (cnt (dfF r0 r1) (t + 1)))), (0, .ref ((ad 0)))]) hx hb dX1_mendRows_58 hl (k := 0) rfl (by exact nI_1 _) (by decide) rfl (fun ls hl => ?_)
        refine lv_goto (tgt := 4) hx hb dX1_mendRows_61 (by decide) ?_
        exact iht ls H locs ⟨lv_sub hl [0, 1, 2] rfl, hP, hD, hS⟩
      · skip
        refine lv_aload_n hx hb dX1_mendRows_27 rfl (lv_at hl 2 rfl) ?_
        refine lv_iload_n hx hb dX1_mendRows_28 rfl (lv_at hl 0 rfl) ?_
        have hPc := hP.sub (ws' := sfW κ T S ad bs sm pl (mdR (usF bs pl S) r0 r1 r0 t) (mdR (usF bs pl S) r0 r1 r1 t) tk vo) [0, 1, 2, 3, 4, 5] rfl
        refine pu_call (va_runV (As := [.int (nI t)]) (rest := []) ⟨hx, hb, hml, hown, hts⟩ (c_holds l D κ T S ad bs sm pl (mdR (usF bs pl S) r0 r1 r0 t) (mdR (usF bs pl S) r0 r1 r1 t) tk vo hT hS8 hpl t ht) (cwV 1 hts gX1_mendRows_X1_holdsMoreThanZeros rfl rfl rfl (by decide +kernel) ⟨Nat.le_of_ble_eq_true rfl, Nat.le_of_ble_eq_true rfl⟩) ⟨pu_blind, va_recv hK hPc (ci := 2) (q0 := 0) rfl rfl, pu_pre hK hPc⟩ rfl rfl hl.1 rfl (lv_room (Nat.le_of_ble_eq_true rfl)) dX1_mendRows_29 ⟨Nat.le_of_ble_eq_true rfl, Nat.le_of_ble_eq_true rfl⟩) ?_
        refine lv_if_eq (tgt := 39) hx hb dX1_mendRows_32 (by decide) (fun c_32 => ?_) (fun c_32 => ?_)
        · skip
          refine lv_iconst (v := nI 0) hx hb dX1_mendRows_39 (by decide) ?_
          refine lv_istore_n (lv' := [(3, .int (nI 0)), (2, .int (nI t)), (1, .int (nI (cnt (dfF r0 r1) t))), (0, .ref ((ad 0)))]) hx hb dX1_mendRows_40 rfl hl (by decide) rfl (fun ls hl => ?_)
          refine lv_aload_n hx hb dX1_mendRows_41 rfl (lv_at hl 3 rfl) ?_
          refine va_get (D := D) (ci := 2) (v := .ref ((ad 4))) (C := RX1) (T := TX1) (N := 9) hx hb hts (by decide +kernel) hown hK hP 0 rfl rfl 5 (by decide) (hts (.fieldLink RX1 29 "TrackDisk$Surface" "usedByRow0" "[I") (by decide +kernel)) (fun _ h9 => h9) rfl dX1_mendRows_42 ?_
          refine lv_iload_n hx hb dX1_mendRows_45 rfl (lv_at hl 1 rfl) ?_
          refine lv_iload_n hx hb dX1_mendRows_46 rfl (lv_at hl 0 rfl) ?_
          refine va_iast hx hb hK hP hD hS 4 0 rfl rfl (vp_in_nI (by omega) (by omega)) dX1_mendRows_47 (fun H locs hP hD hS => ?_)
          rw [show upd (mdR (usF bs pl S) r0 r1 r0 t) (nI t).toNatClampNeg (nI 0) = mdR (usF bs pl S) r0 r1 r0 (t + 1) from by rw [nI_clamp (by omega)]; first | exact mdR_u c_24 (bI_f (bI_eq c_32)) | exact mdR_u c_24 (bI_t (bI_ne c_32))] at hP hD
          have hP : va_P D vwCl (sfW κ T S ad bs sm pl (mdR (usF bs pl S) r0 r1 r0 (t + 1)) (mdR (usF bs pl S) r0 r1 r1 t) tk vo) H := hP
          have hD : va_D A (sfW κ T S ad bs sm pl (mdR (usF bs pl S) r0 r1 r0 (t + 1)) (mdR (usF bs pl S) r0 r1 r1 t) tk vo) := hD
          refine lv_aload_n hx hb dX1_mendRows_48 rfl (lv_at hl 3 rfl) ?_
          refine va_get (D := D) (ci := 2) (v := .ref ((ad 5))) (C := RX1) (T := TX1) (N := 9) hx hb hts (by decide +kernel) hown hK hP 0 rfl rfl 6 (by decide) (hts (.fieldLink RX1 32 "TrackDisk$Surface" "usedByRow1" "[I") (by decide +kernel)) (fun _ h9 => h9) rfl dX1_mendRows_49 ?_
          refine lv_iload_n hx hb dX1_mendRows_52 rfl (lv_at hl 1 rfl) ?_
          refine lv_iload_n hx hb dX1_mendRows_53 rfl (lv_at hl 0 rfl) ?_
          refine va_iast hx hb hK hP hD hS 5 0 rfl rfl (vp_in_nI (by omega) (by omega)) dX1_mendRows_54 (fun H locs hP hD hS => ?_)
          rw [show upd (mdR (usF bs pl S) r0 r1 r1 t) (nI t).toNatClampNeg (nI 0) = mdR (usF bs pl S) r0 r1 r1 (t + 1) from by rw [nI_clamp (by omega)]; first | exact mdR_u c_24 (bI_f (bI_eq c_32)) | exact mdR_u c_24 (bI_t (bI_ne c_32))] at hP hD
          have hP : va_P D vwCl (sfW κ T S ad bs sm pl (mdR (usF bs pl S) r0 r1 r0 (t + 1)) (mdR (usF bs pl S) r0 r1 r1 (t + 1)) tk vo) H := hP
          have hD : va_D A (sfW κ T S ad bs sm pl (mdR (usF bs pl S) r0 r1 r0 (t + 1)) (mdR (usF bs pl S) r0 r1 r1 (t + 1)) tk vo) := hD
          refine lv_iinc (v := nI (cnt (dfF r0 r1) (t + 1))) (lv' := [(1, .int (nI (cnt (dfF r0 r1) (t + 1)))), (3, .int (nI 0)), (2, .int (nI t)), (0, .ref ((ad 0)))]) hx hb dX1_mendRows_55 hl (k := 2) rfl (by rw [cnt_t (by simp only [dfF, decide_eq_true_eq]; exact c_24)]; exact nI_1 _) (by decide) rfl (fun ls hl => ?_)
          refine lv_iinc (v := nI (t + 1)) (lv' := [(2, .int (nI (t + 1))), (1, .int (nI (cnt (dfF r0 r1) (t + 1)))), (3, .int (nI 0)), (0, .ref ((ad 0)))]) hx hb dX1_mendRows_58 hl (k := 2) rfl (by exact nI_1 _) (by decide) rfl (fun ls hl => ?_)
          refine lv_goto (tgt := 4) hx hb dX1_mendRows_61 (by decide) ?_
          exact iht ls H locs ⟨lv_sub hl [0, 1, 3] rfl, hP, hD, hS⟩
        · skip
          refine lv_iconst (v := nI 1) hx hb dX1_mendRows_35 (by decide) ?_
          refine lv_goto (tgt := 40) hx hb dX1_mendRows_36 (by decide) ?_
          refine lv_istore_n (lv' := [(3, .int (nI 1)), (2, .int (nI t)), (1, .int (nI (cnt (dfF r0 r1) t))), (0, .ref ((ad 0)))]) hx hb dX1_mendRows_40 rfl hl (by decide) rfl (fun ls hl => ?_)
          refine lv_aload_n hx hb dX1_mendRows_41 rfl (lv_at hl 3 rfl) ?_
          refine va_get (D := D) (ci := 2) (v := .ref ((ad 4))) (C := RX1) (T := TX1) (N := 9) hx hb hts (by decide +kernel) hown hK hP 0 rfl rfl 5 (by decide) (hts (.fieldLink RX1 29 "TrackDisk$Surface" "usedByRow0" "[I") (by decide +kernel)) (fun _ h9 => h9) rfl dX1_mendRows_42 ?_
          refine lv_iload_n hx hb dX1_mendRows_45 rfl (lv_at hl 1 rfl) ?_
          refine lv_iload_n hx hb dX1_mendRows_46 rfl (lv_at hl 0 rfl) ?_
          refine va_iast hx hb hK hP hD hS 4 0 rfl rfl (vp_in_nI (by omega) (by omega)) dX1_mendRows_47 (fun H locs hP hD hS => ?_)
          rw [show upd (mdR (usF bs pl S) r0 r1 r0 t) (nI t).toNatClampNeg (nI 1) = mdR (usF bs pl S) r0 r1 r0 (t + 1) from by rw [nI_clamp (by omega)]; first | exact mdR_u c_24 (bI_f (bI_eq c_32)) | exact mdR_u c_24 (bI_t (bI_ne c_32))] at hP hD
          have hP : va_P D vwCl (sfW κ T S ad bs sm pl (mdR (usF bs pl S) r0 r1 r0 (t + 1)) (mdR (usF bs pl S) r0 r1 r1 t) tk vo) H := hP
          have hD : va_D A (sfW κ T S ad bs sm pl (mdR (usF bs pl S) r0 r1 r0 (t + 1)) (mdR (usF bs pl S) r0 r1 r1 t) tk vo) := hD
          refine lv_aload_n hx hb dX1_mendRows_48 rfl (lv_at hl 3 rfl) ?_
          refine va_get (D := D) (ci := 2) (v := .ref ((ad 5))) (C := RX1) (T := TX1) (N := 9) hx hb hts (by decide +kernel) hown hK hP 0 rfl rfl 6 (by decide) (hts (.fieldLink RX1 32 "TrackDisk$Surface" "usedByRow1" "[I") (by decide +kernel)) (fun _ h9 => h9) rfl dX1_mendRows_49 ?_
          refine lv_iload_n hx hb dX1_mendRows_52 rfl (lv_at hl 1 rfl) ?_
          refine lv_iload_n hx hb dX1_mendRows_53 rfl (lv_at hl 0 rfl) ?_
          refine va_iast hx hb hK hP hD hS 5 0 rfl rfl (vp_in_nI (by omega) (by omega)) dX1_mendRows_54 (fun H locs hP hD hS => ?_)
          rw [show upd (mdR (usF bs pl S) r0 r1 r1 t) (nI t).toNatClampNeg (nI 1) = mdR (usF bs pl S) r0 r1 r1 (t + 1) from by rw [nI_clamp (by omega)]; first | exact mdR_u c_24 (bI_f (bI_eq c_32)) | exact mdR_u c_24 (bI_t (bI_ne c_32))] at hP hD
          have hP : va_P D vwCl (sfW κ T S ad bs sm pl (mdR (usF bs pl S) r0 r1 r0 (t + 1)) (mdR (usF bs pl S) r0 r1 r1 (t + 1)) tk vo) H := hP
          have hD : va_D A (sfW κ T S ad bs sm pl (mdR (usF bs pl S) r0 r1 r0 (t + 1)) (mdR (usF bs pl S) r0 r1 r1 (t + 1)) tk vo) := hD
          refine lv_iinc (v := nI (cnt (dfF r0 r1) (t + 1))) (lv' := [(1, .int (nI (cnt (dfF r0 r1) (t + 1)))), (3, .int (nI 1)), (2, .int (nI t)), (0, .ref ((ad 0)))]) hx hb dX1_mendRows_55 hl (k := 2) rfl (by rw [cnt_t (by simp only [dfF, decide_eq_true_eq]; exact c_24)]; exact nI_1 _) (by decide) rfl (fun ls hl => ?_)
          refine lv_iinc (v := nI (t + 1)) (lv' := [(2, .int (nI (t + 1))), (1, .int (nI (cnt (dfF r0 r1) (t + 1)))), (3, .int (nI 1)), (0, .ref ((ad 0)))]) hx hb dX1_mendRows_58 hl (k := 2) rfl (by exact nI_1 _) (by decide) rfl (fun ls hl => ?_)
          refine lv_goto (tgt := 4) hx hb dX1_mendRows_61 (by decide) ?_
          exact iht ls H locs ⟨lv_sub hl [0, 1, 3] rfl, hP, hD, hS⟩
  · skip
    clear hl hP hD hS
    obtain ⟨hl, hP, hD, hS⟩ := hI
    refine lv_iload_n hx hb dX1_mendRows_4 rfl (lv_at hl 0 rfl) ?_
    refine lv_aload_n hx hb dX1_mendRows_5 rfl (lv_at hl 2 rfl) ?_
    refine va_get (D := D) (ci := 2) (v := .int (nI T)) (C := RX1) (T := TX1) (N := 9) hx hb hts (by decide +kernel) hown hK hP 0 rfl rfl 0 (by decide) (hts (.fieldLink RX1 9 "TrackDisk$Surface" "tracks" "I") (by decide +kernel)) (fun _ h9 => h9) rfl dX1_mendRows_6 ?_
    refine lv_icmp_ge (tgt := 64) hx hb dX1_mendRows_9 (by decide) (fun c_9 => ?_) (fun c_9 => ?_)
    · skip
      refine lv_iload_n hx hb dX1_mendRows_64 rfl (lv_at hl 1 rfl) ?_
      have hP9 : va_P D vwCl (sfW κ T S ad bs sm pl (mdR (usF bs pl S) r0 r1 r0 T) (mdR (usF bs pl S) r0 r1 r1 T) tk vo) H := hP
      have hD9 : va_D A (sfW κ T S ad bs sm pl (mdR (usF bs pl S) r0 r1 r0 T) (mdR (usF bs pl S) r0 r1 r1 T) tk vo) := hD
      exact W.iret hx hb hr (fun t ht _ => ⟨⟨rfl, by rw [ht]; exact hP9, hD9⟩, hS.F ht⟩) hS.2.2 dX1_mendRows_65 hlocks
    · exact absurd (nI_le (Nat.le_refl _) (by omega)) c_9

set_option maxHeartbeats 4000000 in
set_option maxRecDepth 100000 in
/-- setSums(at) -/
theorem c_setSums (l : Launch) (D : va_G) (κ : Nat → ClassId) (sz : Nat) (T S : Nat) (ad : Nat → Nat) (bs sm pl r0 r1 : Nat → Int32) (tk vo : Int32) (hT : T ≤ 12) (hS8 : S ≤ 8) (a : Nat) (ha : a < T + 2) : Met l yX1_setSums wsX1_setSums ({ frames := 2, cells := 0, slots := 0, locals := 48 }) (va_Pc [.ref ((ad 0)), .int (nI a)] (mu_B D κ (sfW κ T S ad bs sm pl r0 r1 tk vo) sz)) (mu_Q D none (sfW κ T S ad bs (ssF bs sm S a S) pl r0 r1 tk vo) (va_A (sfW κ T S ad bs sm pl r0 r1 tk vo) sz)) 0 0 (va_A (sfW κ T S ad bs sm pl r0 r1 tk vo) sz) := by
  refine Met.ofW (cc := cX1_setSums) (maxL := 3) (ret := none) (by decide) rfl ?_
  intro p e s m args below meth c s₁ B hml hv
  obtain ⟨rfl, hsz, hP, hK, hD0⟩ := hv
  have hx := B.exec
  have hb := B.bytes
  have hr := B.returns
  have hts := atoms_spec (ws := wsX1_setSums) B.pre
  have hown : s.vm.findClass RX1 = some m.cls := findClass_of_methodNamed B.named
  have hlocks := B.notSynchronized
  subst hsz
  have hD := hD0.self (sz := s.heap.size)
  generalize hAe : va_A (sfW κ T S ad bs sm pl r0 r1 tk vo) s.heap.size = A at hD ⊢
  have hA : ∀ q : Nat, s.heap.size ≤ q → A q := fun q h => by rw [← hAe]; exact Or.inr h
  refine W.gen (P := fun H locs => va_P D vwCl (sfW κ T S ad bs sm pl r0 r1 tk vo) H ∧ va_S A s.heap H locs) (fun H locs h => ?_) ⟨hP, va_S.rf⟩
  clear hP
  obtain ⟨hP, hS⟩ := h
  have hl := lv_entry ([.ref ((ad 0)), .int (nI a)]) (n := 3) (Nat.le_of_ble_eq_true rfl)
  rw [lg_entry_eq]
  generalize (lg_sl ([.ref ((ad 0)), .int (nI a)]) ++ List.replicate (3 - (lg_sl ([.ref ((ad 0)), .int (nI a)])).length) Slot.unset).toArray = ls at hl ⊢
  have hl : lv_has ls 3 [(0, .ref ((ad 0))), (1, .int (nI a))] := hl
  have hmx := sf_max hT hS8
  refine lv_iconst (v := nI 0) hx hb dX1_setSums_0 (by decide) ?_
  refine lv_istore_n (lv' := [(2, .int (nI 0)), (0, .ref ((ad 0))), (1, .int (nI a))]) hx hb dX1_setSums_1 rfl hl (by decide) rfl (fun ls hl => ?_)
  refine W.loop (N := S) (I := fun k ls H locs => lv_has ls 3 [(2, .int (nI k)), (0, .ref ((ad 0))), (1, .int (nI a))] ∧ va_P D vwCl (sfW κ T S ad bs (ssF bs sm S a k) pl r0 r1 tk vo) H ∧ va_D A (sfW κ T S ad bs (ssF bs sm S a k) pl r0 r1 tk vo) ∧ va_S A s.heap H locs) 0 (by omega) (fun k ls H locs hk hI ihk => ?_) (fun ls H locs hI => ?_) ⟨lv_sub hl [0, 1, 2] rfl, hP, hD, hS⟩
  · skip
    clear hl hP hD hS
    obtain ⟨hl, hP, hD, hS⟩ := hI
    have hsl := sf_slt ha hk
    refine lv_iload_n hx hb dX1_setSums_2 rfl (lv_at hl 0 rfl) ?_
    refine lv_aload_n hx hb dX1_setSums_3 rfl (lv_at hl 1 rfl) ?_
    refine va_get (D := D) (ci := 2) (v := .int (nI S)) (C := RX1) (T := TX1) (N := 9) hx hb hts (by decide +kernel) hown hK hP 0 rfl rfl 1 (by decide) (hts (.fieldLink RX1 15 "TrackDisk$Surface" "sectors" "I") (by decide +kernel)) (fun _ h9 => h9) rfl dX1_setSums_4 ?_
    refine lv_icmp_ge (tgt := 33) hx hb dX1_setSums_7 (by decide) (fun c_7 => ?_) (fun c_7 => ?_)
    · exact absurd c_7 (nI_ge hk (by omega))
    · skip
      refine lv_aload_n hx hb dX1_setSums_10 rfl (lv_at hl 1 rfl) ?_
      refine va_get (D := D) (ci := 2) (v := .ref ((ad 2))) (C := RX1) (T := TX1) (N := 9) hx hb hts (by decide +kernel) hown hK hP 0 rfl rfl 3 (by decide) (hts (.fieldLink RX1 22 "TrackDisk$Surface" "sums" "[I") (by decide +kernel)) (fun _ h9 => h9) rfl dX1_setSums_11 ?_
      refine lv_aload_n hx hb dX1_setSums_14 rfl (lv_at hl 1 rfl) ?_
      refine lv_iload_n hx hb dX1_setSums_15 rfl (lv_at hl 2 rfl) ?_
      refine lv_iload_n hx hb dX1_setSums_16 rfl (lv_at hl 0 rfl) ?_
      have hPc := hP.sub (ws' := sfW κ T S ad bs (ssF bs sm S a k) pl r0 r1 tk vo) [0, 1, 2, 3, 4, 5] rfl
      refine pu_call (va_runV (As := [.int (nI a), .int (nI k)]) (rest := [.ref ((ad 2))]) ⟨hx, hb, hml, hown, hts⟩ (c_slot l D κ T S ad bs (ssF bs sm S a k) pl r0 r1 tk vo a k) (cwV 2 hts gX1_setSums_X1_slot rfl rfl rfl (by decide +kernel) ⟨Nat.le_of_ble_eq_true rfl, Nat.le_of_ble_eq_true rfl⟩) ⟨pu_blind, va_recv hK hPc (ci := 2) (q0 := 0) rfl rfl, pu_pre hK hPc⟩ rfl rfl hl.1 rfl (lv_room (Nat.le_of_ble_eq_true rfl)) dX1_setSums_17 ⟨Nat.le_of_ble_eq_true rfl, Nat.le_of_ble_eq_true rfl⟩) ?_
      refine lv_aload_n hx hb dX1_setSums_20 rfl (lv_at hl 1 rfl) ?_
      refine lv_iload_n hx hb dX1_setSums_21 rfl (lv_at hl 2 rfl) ?_
      refine lv_iload_n hx hb dX1_setSums_22 rfl (lv_at hl 0 rfl) ?_
      have hPc := hP.sub (ws' := sfW κ T S ad bs (ssF bs sm S a k) pl r0 r1 tk vo) [0, 1, 2, 3, 4, 5] rfl
      refine pu_call (va_runV (As := [.int (nI a), .int (nI k)]) (rest := [.int (nI (a * S + k)), .ref ((ad 2))]) ⟨hx, hb, hml, hown, hts⟩ (c_sumOf l D κ T S ad bs (ssF bs sm S a k) pl r0 r1 tk vo hT hS8 a k ha hk) (cwV 2 hts gX1_setSums_X1_sumOf rfl rfl rfl (by decide +kernel) ⟨Nat.le_of_ble_eq_true rfl, Nat.le_of_ble_eq_true rfl⟩) ⟨pu_blind, va_recv hK hPc (ci := 2) (q0 := 0) rfl rfl, pu_pre hK hPc⟩ rfl rfl hl.1 rfl (lv_room (Nat.le_of_ble_eq_true rfl)) dX1_setSums_23 ⟨Nat.le_of_ble_eq_true rfl, Nat.le_of_ble_eq_true rfl⟩) ?_
      refine va_iast hx hb hK hP hD hS 2 0 rfl rfl (vp_in_nI (by omega) (by omega)) dX1_setSums_26 (fun H locs hP hD hS => ?_)
      rw [nI_clamp (n := a * S + k) (by omega)] at hP hD
      have hP : va_P D vwCl (sfW κ T S ad bs (upd (ssF bs sm S a k) (a * S + k) (smA bs S a k)) pl r0 r1 tk vo) H := hP
      have hD : va_D A (sfW κ T S ad bs (upd (ssF bs sm S a k) (a * S + k) (smA bs S a k)) pl r0 r1 tk vo) := hD
      refine lv_iinc (v := nI (k + 1)) (lv' := [(2, .int (nI (k + 1))), (0, .ref ((ad 0))), (1, .int (nI a))]) hx hb dX1_setSums_27 hl (k := 0) rfl (by exact nI_1 _) (by decide) rfl (fun ls hl => ?_)
      refine lv_goto (tgt := 2) hx hb dX1_setSums_30 (by decide) ?_
      exact ihk ls H locs ⟨lv_sub hl [0, 1, 2] rfl, hP, hD, hS⟩
  · skip
    clear hl hP hD hS
    obtain ⟨hl, hP, hD, hS⟩ := hI
    refine lv_iload_n hx hb dX1_setSums_2 rfl (lv_at hl 0 rfl) ?_
    refine lv_aload_n hx hb dX1_setSums_3 rfl (lv_at hl 1 rfl) ?_
    refine va_get (D := D) (ci := 2) (v := .int (nI S)) (C := RX1) (T := TX1) (N := 9) hx hb hts (by decide +kernel) hown hK hP 0 rfl rfl 1 (by decide) (hts (.fieldLink RX1 15 "TrackDisk$Surface" "sectors" "I") (by decide +kernel)) (fun _ h9 => h9) rfl dX1_setSums_4 ?_
    refine lv_icmp_ge (tgt := 33) hx hb dX1_setSums_7 (by decide) (fun c_7 => ?_) (fun c_7 => ?_)
    · skip
      have hP9 : va_P D vwCl (sfW κ T S ad bs (ssF bs sm S a S) pl r0 r1 tk vo) H := hP
      have hD9 : va_D A (sfW κ T S ad bs (ssF bs sm S a S) pl r0 r1 tk vo) := hD
      exact W.vret hx hb hr (fun t ht _ => ⟨⟨rfl, by rw [ht]; exact hP9, hD9⟩, hS.F ht⟩) hS.2.2 dX1_setSums_33 hlocks
    · exact absurd (nI_le (Nat.le_refl _) (by omega)) c_7

set_option maxHeartbeats 4000000 in
set_option maxRecDepth 100000 in
/-- isSent(track) -/
theorem c_isSent (l : Launch) (D : va_G) (κ : Nat → ClassId) (T S : Nat) (ad : Nat → Nat) (bs sm pl r0 r1 : Nat → Int32) (tk vo : Int32) (hT : T ≤ 12) (hS8 : S ≤ 8) (hpl : ∀ t, t < T → vp_in (pl t) (T + 2)) (t : Nat) (ht : t < T) : Met l yX1_isSent wsX1_isSent ({ frames := 0, cells := 0, slots := 0, locals := 0 }) (va_Pc [.ref ((ad 0)), .int (nI t)] (pu_B D κ (sfW κ T S ad bs sm pl r0 r1 tk vo))) (pu_Q (.int (bI (isF pl T t)))) 0 0 pu_N := by
  refine Met.ofW (cc := cX1_isSent) (maxL := 2) (ret := (some .boolean)) (by decide) rfl ?_
  intro p e s m args below meth c s₁ B hml hv
  obtain ⟨rfl, hP, hK⟩ := hv
  have hx := B.exec
  have hb := B.bytes
  have hr := B.returns
  have hts := atoms_spec (ws := wsX1_isSent) B.pre
  have hown : s.vm.findClass RX1 = some m.cls := findClass_of_methodNamed B.named
  have hlocks := B.notSynchronized
  have hl := lv_entry ([.ref ((ad 0)), .int (nI t)]) (n := 2) (Nat.le_of_ble_eq_true rfl)
  rw [lg_entry_eq]
  generalize (lg_sl ([.ref ((ad 0)), .int (nI t)]) ++ List.replicate (2 - (lg_sl ([.ref ((ad 0)), .int (nI t)])).length) Slot.unset).toArray = ls at hl ⊢
  have hl : lv_has ls 2 [(0, .ref ((ad 0))), (1, .int (nI t))] := hl
  have hmx := sf_max hT hS8
  have hplt := cl_nI (hpl t ht) (by omega)
  refine lv_aload_n hx hb dX1_isSent_0 rfl (lv_at hl 0 rfl) ?_
  refine va_get (D := D) (ci := 2) (v := .ref ((ad 3))) (C := RX1) (T := TX1) (N := 9) hx hb hts (by decide +kernel) hown hK hP 0 rfl rfl 4 (by decide) (hts (.fieldLink RX1 26 "TrackDisk$Surface" "place" "[I") (by decide +kernel)) (fun _ h9 => h9) rfl dX1_isSent_1 ?_
  refine lv_iload_n hx hb dX1_isSent_4 rfl (lv_at hl 1 rfl) ?_
  refine va_iald hx hb hK hP 3 0 rfl rfl (vp_in_nI (by omega) (by omega)) dX1_isSent_5 ?_
  refine tp_i (y := nI (cl (pl t))) (by rw [nI_clamp (by omega)]; exact hplt.1) ?_
  refine lv_aload_n hx hb dX1_isSent_6 rfl (lv_at hl 0 rfl) ?_
  refine va_get (D := D) (ci := 2) (v := .int (nI T)) (C := RX1) (T := TX1) (N := 9) hx hb hts (by decide +kernel) hown hK hP 0 rfl rfl 0 (by decide) (hts (.fieldLink RX1 9 "TrackDisk$Surface" "tracks" "I") (by decide +kernel)) (fun _ h9 => h9) rfl dX1_isSent_7 ?_
  refine lv_icmp_lt (tgt := 17) hx hb dX1_isSent_10 (by decide) (fun c_10 => ?_) (fun c_10 => ?_)
  · skip
    refine lv_iconst (v := nI 0) hx hb dX1_isSent_17 (by decide) ?_
    refine tp_i (y := bI (isF pl T t)) (bI_f (by simp only [isF, decide_eq_false_iff_not]; exact Nat.not_le.mpr ((nI_ltI (by omega) (by omega)).mp c_10))) ?_
    exact pu_zret hx hb hr (by cases isF pl T t <;> rfl) hlocks dX1_isSent_18
  · skip
    refine lv_iconst (v := nI 1) hx hb dX1_isSent_13 (by decide) ?_
    refine lv_goto (tgt := 18) hx hb dX1_isSent_14 (by decide) ?_
    refine tp_i (y := bI (isF pl T t)) (bI_t (by simp only [isF, decide_eq_true_eq]; exact Nat.not_lt.mp (fun q => c_10 (nI_lt q (by omega))))) ?_
    exact pu_zret hx hb hr (by cases isF pl T t <;> rfl) hlocks dX1_isSent_18

set_option maxHeartbeats 4000000 in
set_option maxRecDepth 100000 in
/-- send(track) -/
theorem c_send (l : Launch) (D : va_G) (κ : Nat → ClassId) (sz : Nat) (T S : Nat) (ad : Nat → Nat) (bs sm pl r0 r1 : Nat → Int32) (k0 : Nat) (vo : Int32) (hT : T ≤ 12) (hS8 : S ≤ 8) (hpl : ∀ t, t < T → vp_in (pl t) (T + 2)) (t : Nat) (ht : t < T) (hk0 : k0 < 2) (hft : sb_Fit bs) : Met l yX1_send wsX1_send ({ frames := 3, cells := 0, slots := 0, locals := 70 }) (va_Pc [.ref ((ad 0)), .int (nI t)] (mu_B D κ (sfW κ T S ad bs sm pl r0 r1 (nI k0) vo) sz)) (mu_Q D (some (.int (nI (T + k0)))) (sfW κ T S ad (va_cpy bs bs ((cl (pl t) * S + 0) * 16) (((T + k0) * S + 0) * 16) (S * 16)) (ssF (va_cpy bs bs ((cl (pl t) * S + 0) * 16) (((T + k0) * S + 0) * 16) (S * 16)) sm S (T + k0) S) (upd pl t (nI (T + k0))) r0 r1 (nI (k0 + 1)) vo) (va_A (sfW κ T S ad bs sm pl r0 r1 (nI k0) vo) sz)) 0 0 (va_A (sfW κ T S ad bs sm pl r0 r1 (nI k0) vo) sz) := by
  refine Met.ofW (cc := cX1_send) (maxL := 3) (ret := (some .int)) (by decide) rfl ?_
  intro p e s m args below meth c s₁ B hml hv
  obtain ⟨rfl, hsz, hP, hK, hD0⟩ := hv
  have hx := B.exec
  have hb := B.bytes
  have hr := B.returns
  have hts := atoms_spec (ws := wsX1_send) B.pre
  have hown : s.vm.findClass RX1 = some m.cls := findClass_of_methodNamed B.named
  have hlocks := B.notSynchronized
  subst hsz
  have hD := hD0.self (sz := s.heap.size)
  generalize hAe : va_A (sfW κ T S ad bs sm pl r0 r1 (nI k0) vo) s.heap.size = A at hD ⊢
  have hA : ∀ q : Nat, s.heap.size ≤ q → A q := fun q h => by rw [← hAe]; exact Or.inr h
  refine W.gen (P := fun H locs => va_P D vwCl (sfW κ T S ad bs sm pl r0 r1 (nI k0) vo) H ∧ va_S A s.heap H locs) (fun H locs h => ?_) ⟨hP, va_S.rf⟩
  clear hP
  obtain ⟨hP, hS⟩ := h
  have hl := lv_entry ([.ref ((ad 0)), .int (nI t)]) (n := 3) (Nat.le_of_ble_eq_true rfl)
  rw [lg_entry_eq]
  generalize (lg_sl ([.ref ((ad 0)), .int (nI t)]) ++ List.replicate (3 - (lg_sl ([.ref ((ad 0)), .int (nI t)])).length) Slot.unset).toArray = ls at hl ⊢
  have hl : lv_has ls 3 [(0, .ref ((ad 0))), (1, .int (nI t))] := hl
  have hmx := sf_max hT hS8
  have hplt := cl_nI (hpl t ht) (by omega)
  have htl := sf_tle (S := S) hplt.2
  have htk := sf_tle (S := S) (show T + k0 < T + 2 by omega)
  refine lv_aload_n hx hb dX1_send_0 rfl (lv_at hl 0 rfl) ?_
  refine va_get (D := D) (ci := 2) (v := .int (nI T)) (C := RX1) (T := TX1) (N := 9) hx hb hts (by decide +kernel) hown hK hP 0 rfl rfl 0 (by decide) (hts (.fieldLink RX1 9 "TrackDisk$Surface" "tracks" "I") (by decide +kernel)) (fun _ h9 => h9) rfl dX1_send_1 ?_
  refine lv_aload_n hx hb dX1_send_4 rfl (lv_at hl 0 rfl) ?_
  refine va_get (D := D) (ci := 2) (v := .int ((nI k0))) (C := RX1) (T := TX1) (N := 9) hx hb hts (by decide +kernel) hown hK hP 0 rfl rfl 7 (by decide) (hts (.fieldLink RX1 35 "TrackDisk$Surface" "taken" "I") (by decide +kernel)) (fun _ h9 => h9) rfl dX1_send_5 ?_
  refine lv_iadd hx hb dX1_send_8 ?_
  refine tp_i (y := nI (T + k0)) (by exact nI_add _ _) ?_
  refine lv_istore_n (lv' := [(2, .int (nI (T + k0))), (0, .ref ((ad 0))), (1, .int (nI t))]) hx hb dX1_send_9 rfl hl (by decide) rfl (fun ls hl => ?_)
  refine lv_aload_n hx hb dX1_send_10 rfl (lv_at hl 1 rfl) ?_
  refine va_get (D := D) (ci := 2) (v := .ref ((ad 1))) (C := RX1) (T := TX1) (N := 9) hx hb hts (by decide +kernel) hown hK hP 0 rfl rfl 2 (by decide) (hts (.fieldLink RX1 18 "TrackDisk$Surface" "bytes" "[B") (by decide +kernel)) (fun _ h9 => h9) rfl dX1_send_11 ?_
  refine lv_aload_n hx hb dX1_send_14 rfl (lv_at hl 1 rfl) ?_
  refine lv_iload_n hx hb dX1_send_15 rfl (lv_at hl 2 rfl) ?_
  refine lv_iconst (v := nI 0) hx hb dX1_send_16 (by decide) ?_
  have hPc := hP.sub (ws' := sfW κ T S ad bs sm pl r0 r1 (nI k0) vo) [0, 1, 2, 3, 4, 5] rfl
  refine pu_call (va_runV (As := [.int (nI t), .int (nI 0)]) (rest := [.ref ((ad 1))]) ⟨hx, hb, hml, hown, hts⟩ (c_firstByte l D κ T S ad bs sm pl r0 r1 (nI k0) vo hT hS8 hpl t 0 ht) (cwV 2 hts gX1_send_X1_firstByte rfl rfl rfl (by decide +kernel) ⟨Nat.le_of_ble_eq_true rfl, Nat.le_of_ble_eq_true rfl⟩) ⟨pu_blind, va_recv hK hPc (ci := 2) (q0 := 0) rfl rfl, pu_pre hK hPc⟩ rfl rfl hl.1 rfl (lv_room (Nat.le_of_ble_eq_true rfl)) dX1_send_17 ⟨Nat.le_of_ble_eq_true rfl, Nat.le_of_ble_eq_true rfl⟩) ?_
  refine lv_aload_n hx hb dX1_send_20 rfl (lv_at hl 1 rfl) ?_
  refine va_get (D := D) (ci := 2) (v := .ref ((ad 1))) (C := RX1) (T := TX1) (N := 9) hx hb hts (by decide +kernel) hown hK hP 0 rfl rfl 2 (by decide) (hts (.fieldLink RX1 18 "TrackDisk$Surface" "bytes" "[B") (by decide +kernel)) (fun _ h9 => h9) rfl dX1_send_21 ?_
  refine lv_aload_n hx hb dX1_send_24 rfl (lv_at hl 1 rfl) ?_
  refine lv_iload_n hx hb dX1_send_25 rfl (lv_at hl 0 rfl) ?_
  refine lv_iconst (v := nI 0) hx hb dX1_send_26 (by decide) ?_
  have hPc := hP.sub (ws' := sfW κ T S ad bs sm pl r0 r1 (nI k0) vo) [0, 1, 2, 3, 4, 5] rfl
  refine pu_call (va_runV (As := [.int (nI (T + k0)), .int (nI 0)]) (rest := [.ref ((ad 1)), .int (nI ((cl (pl t) * S + 0) * 16)), .ref ((ad 1))]) ⟨hx, hb, hml, hown, hts⟩ (c_slot l D κ T S ad bs sm pl r0 r1 (nI k0) vo (T + k0) 0) (cwV 2 hts gX1_send_X1_slot rfl rfl rfl (by decide +kernel) ⟨Nat.le_of_ble_eq_true rfl, Nat.le_of_ble_eq_true rfl⟩) ⟨pu_blind, va_recv hK hPc (ci := 2) (q0 := 0) rfl rfl, pu_pre hK hPc⟩ rfl rfl hl.1 rfl (lv_room (Nat.le_of_ble_eq_true rfl)) dX1_send_27 ⟨Nat.le_of_ble_eq_true rfl, Nat.le_of_ble_eq_true rfl⟩) ?_
  refine lv_bipush (v := nI 16) hx hb dX1_send_30 (by decide) ?_
  refine lv_imul hx hb dX1_send_32 ?_
  refine tp_i (y := nI (((T + k0) * S + 0) * 16)) (by exact pk_mul _ _) ?_
  refine lv_aload_n hx hb dX1_send_33 rfl (lv_at hl 1 rfl) ?_
  refine va_get (D := D) (ci := 2) (v := .int (nI S)) (C := RX1) (T := TX1) (N := 9) hx hb hts (by decide +kernel) hown hK hP 0 rfl rfl 1 (by decide) (hts (.fieldLink RX1 15 "TrackDisk$Surface" "sectors" "I") (by decide +kernel)) (fun _ h9 => h9) rfl dX1_send_34 ?_
  refine lv_bipush (v := nI 16) hx hb dX1_send_37 (by decide) ?_
  refine lv_imul hx hb dX1_send_39 ?_
  refine tp_i (y := nI (S * 16)) (by exact pk_mul _ _) ?_
  refine va_copyi (ty := .byte) hx hb (by rw [hml]; exact hl.1.symm) hown (hts (.methodLink RX1 67 arraycopyName) (by decide +kernel)) (hts (.native arraycopyName) (by decide +kernel)) (hts (.static arraycopyName) (by decide +kernel)) (hts (.initialized "java/lang/System") (by decide +kernel)) hK hP hD hS 1 1 1 1 rfl rfl rfl rfl rfl (nI_pos (by omega)) (nI_pos (by omega)) (nI_pos (by omega)) (by rw [nI_clamp (by omega), nI_clamp (by omega)]; exact sf_tle hplt.2) (by rw [nI_clamp (by omega), nI_clamp (by omega)]; exact sf_tle (by omega)) (fun i _ => hft _) (Nat.le_of_ble_eq_true rfl) (Nat.le_of_ble_eq_true rfl) dX1_send_40 (fun H locs hP hD hS => ?_)
  rw [show va_cpy bs bs (nI ((cl (pl t) * S + 0) * 16)).toNatClampNeg (nI (((T + k0) * S + 0) * 16)).toNatClampNeg (nI (S * 16)).toNatClampNeg = va_cpy bs bs ((cl (pl t) * S + 0) * 16) (((T + k0) * S + 0) * 16) (S * 16) from by rw [nI_clamp (n := ((cl (pl t) * S + 0) * 16)) (by omega), nI_clamp (n := (S * 16)) (by omega), nI_clamp (n := (((T + k0) * S + 0) * 16)) (by omega)]] at hP hD
  have hP : va_P D vwCl (sfW κ T S ad (va_cpy bs bs ((cl (pl t) * S + 0) * 16) (((T + k0) * S + 0) * 16) (S * 16)) sm pl r0 r1 (nI k0) vo) H := hP
  have hD : va_D A (sfW κ T S ad (va_cpy bs bs ((cl (pl t) * S + 0) * 16) (((T + k0) * S + 0) * 16) (S * 16)) sm pl r0 r1 (nI k0) vo) := hD
  refine lv_aload_n hx hb dX1_send_43 rfl (lv_at hl 1 rfl) ?_
  refine lv_iload_n hx hb dX1_send_44 rfl (lv_at hl 0 rfl) ?_
  have hPc := hP.sub (ws' := sfW κ T S ad (va_cpy bs bs ((cl (pl t) * S + 0) * 16) (((T + k0) * S + 0) * 16) (S * 16)) sm pl r0 r1 (nI k0) vo) [0, 1, 2, 3, 4, 5] rfl
  have hDc := hD.sub (ws' := sfW κ T S ad (va_cpy bs bs ((cl (pl t) * S + 0) * 16) (((T + k0) * S + 0) * 16) (S * 16)) sm pl r0 r1 (nI k0) vo) [0, 1, 2, 3, 4, 5] (by decide) rfl
  refine mu_call (wc := sfW κ T S ad (va_cpy bs bs ((cl (pl t) * S + 0) * 16) (((T + k0) * S + 0) * 16) (S * 16)) sm pl r0 r1 (nI k0) vo) (wc' := sfW κ T S ad (va_cpy bs bs ((cl (pl t) * S + 0) * 16) (((T + k0) * S + 0) * 16) (S * 16)) (ssF (va_cpy bs bs ((cl (pl t) * S + 0) * 16) (((T + k0) * S + 0) * 16) (S * 16)) sm S (T + k0) S) pl r0 r1 (nI k0) vo) (ws' := sfW κ T S ad (va_cpy bs bs ((cl (pl t) * S + 0) * 16) (((T + k0) * S + 0) * 16) (S * 16)) (ssF (va_cpy bs bs ((cl (pl t) * S + 0) * 16) (((T + k0) * S + 0) * 16) (S * 16)) sm S (T + k0) S) pl r0 r1 (nI k0) vo) (wr := (([] : List Nat).filterMap fun i => (sfW κ T S ad (va_cpy bs bs ((cl (pl t) * S + 0) * 16) (((T + k0) * S + 0) * 16) (S * 16)) sm pl r0 r1 (nI k0) vo)[i]?)) (va_runV (As := [.int (nI (T + k0))]) (rest := []) ⟨hx, hb, hml, hown, hts⟩ (c_setSums l D κ H.size T S ad (va_cpy bs bs ((cl (pl t) * S + 0) * 16) (((T + k0) * S + 0) * 16) (S * 16)) sm pl r0 r1 (nI k0) vo hT hS8 (T + k0) (by omega)) (cwV 1 hts gX1_send_X1_setSums rfl rfl rfl (by decide +kernel) ⟨Nat.le_of_ble_eq_true rfl, Nat.le_of_ble_eq_true rfl⟩) ⟨mu_blind, va_recv hK hPc (ci := 2) (q0 := 0) rfl rfl, mu_pre hK hPc hDc⟩ rfl rfl hl.1 rfl (lv_room (Nat.le_of_ble_eq_true rfl)) dX1_send_45 ⟨Nat.le_of_ble_eq_true rfl, Nat.le_of_ble_eq_true rfl⟩) hP hD hS hA [0, 1, 2, 3, 4, 5] [] [0, 1, 2, 3, 4, 5] rfl rfl (by decide) (by decide) rfl rfl (by decide) (fun H locs hP hD hS => ?_)
  refine W.eq (g2 := F0 m 48 ls []) rfl ?_
  refine lv_aload_n hx hb dX1_send_48 rfl (lv_at hl 1 rfl) ?_
  refine va_get (D := D) (ci := 2) (v := .ref ((ad 3))) (C := RX1) (T := TX1) (N := 9) hx hb hts (by decide +kernel) hown hK hP 0 rfl rfl 4 (by decide) (hts (.fieldLink RX1 26 "TrackDisk$Surface" "place" "[I") (by decide +kernel)) (fun _ h9 => h9) rfl dX1_send_49 ?_
  refine lv_iload_n hx hb dX1_send_52 rfl (lv_at hl 2 rfl) ?_
  refine lv_iload_n hx hb dX1_send_53 rfl (lv_at hl 0 rfl) ?_
  refine va_iast hx hb hK hP hD hS 3 0 rfl rfl (vp_in_nI (by omega) (by omega)) dX1_send_54 (fun H locs hP hD hS => ?_)
  rw [nI_clamp (n := t) (by omega)] at hP hD
  have hP : va_P D vwCl (sfW κ T S ad (va_cpy bs bs ((cl (pl t) * S + 0) * 16) (((T + k0) * S + 0) * 16) (S * 16)) (ssF (va_cpy bs bs ((cl (pl t) * S + 0) * 16) (((T + k0) * S + 0) * 16) (S * 16)) sm S (T + k0) S) (upd (pl) (t) (nI (T + k0))) r0 r1 (nI k0) vo) H := hP
  have hD : va_D A (sfW κ T S ad (va_cpy bs bs ((cl (pl t) * S + 0) * 16) (((T + k0) * S + 0) * 16) (S * 16)) (ssF (va_cpy bs bs ((cl (pl t) * S + 0) * 16) (((T + k0) * S + 0) * 16) (S * 16)) sm S (T + k0) S) (upd (pl) (t) (nI (T + k0))) r0 r1 (nI k0) vo) := hD
  refine lv_aload_n hx hb dX1_send_55 rfl (lv_at hl 1 rfl) ?_
  refine lv_dup hx hb dX1_send_56 rfl ?_
  refine va_get (D := D) (ci := 2) (v := .int ((nI k0))) (C := RX1) (T := TX1) (N := 9) hx hb hts (by decide +kernel) hown hK hP 0 rfl rfl 7 (by decide) (hts (.fieldLink RX1 35 "TrackDisk$Surface" "taken" "I") (by decide +kernel)) (fun _ h9 => h9) rfl dX1_send_57 ?_
  refine lv_iconst (v := nI 1) hx hb dX1_send_60 (by decide) ?_
  refine lv_iadd hx hb dX1_send_61 ?_
  refine tp_i (y := nI (k0 + 1)) (by exact nI_add _ _) ?_
  refine va_put (D := D) (ci := 2) (v := .int (nI (k0 + 1))) (ty := .int) (C := RX1) (T := TX1) (N := 9) hx hb hts (by decide +kernel) tyX1 tyX1_ok nmX1 hown hK hP hD hS 0 rfl rfl 7 (by decide) (hts (.fieldLink RX1 35 "TrackDisk$Surface" "taken" "I") (by decide +kernel)) (fun _ h9 => h9) rfl (by decide +kernel) rfl rfl (Nat.le_of_ble_eq_true rfl) dX1_send_62 (fun H locs hP hD hS => ?_)
  have hP : va_P D vwCl (sfW κ T S ad (va_cpy bs bs ((cl (pl t) * S + 0) * 16) (((T + k0) * S + 0) * 16) (S * 16)) (ssF (va_cpy bs bs ((cl (pl t) * S + 0) * 16) (((T + k0) * S + 0) * 16) (S * 16)) sm S (T + k0) S) (upd (pl) (t) (nI (T + k0))) r0 r1 (nI (k0 + 1)) vo) H := hP
  have hD : va_D A (sfW κ T S ad (va_cpy bs bs ((cl (pl t) * S + 0) * 16) (((T + k0) * S + 0) * 16) (S * 16)) (ssF (va_cpy bs bs ((cl (pl t) * S + 0) * 16) (((T + k0) * S + 0) * 16) (S * 16)) sm S (T + k0) S) (upd (pl) (t) (nI (T + k0))) r0 r1 (nI (k0 + 1)) vo) := hD
  refine lv_iload_n hx hb dX1_send_65 rfl (lv_at hl 0 rfl) ?_
  have hP9 : va_P D vwCl (sfW κ T S ad (va_cpy bs bs ((cl (pl t) * S + 0) * 16) (((T + k0) * S + 0) * 16) (S * 16)) (ssF (va_cpy bs bs ((cl (pl t) * S + 0) * 16) (((T + k0) * S + 0) * 16) (S * 16)) sm S (T + k0) S) (upd pl t (nI (T + k0))) r0 r1 (nI (k0 + 1)) vo) H := hP
  have hD9 : va_D A (sfW κ T S ad (va_cpy bs bs ((cl (pl t) * S + 0) * 16) (((T + k0) * S + 0) * 16) (S * 16)) (ssF (va_cpy bs bs ((cl (pl t) * S + 0) * 16) (((T + k0) * S + 0) * 16) (S * 16)) sm S (T + k0) S) (upd pl t (nI (T + k0))) r0 r1 (nI (k0 + 1)) vo) := hD
  exact W.iret hx hb hr (fun t ht _ => ⟨⟨rfl, by rw [ht]; exact hP9, hD9⟩, hS.F ht⟩) hS.2.2 dX1_send_66 hlocks

set_option maxHeartbeats 4000000 in
set_option maxRecDepth 100000 in
/-- takeOver(other) -/
theorem c_takeOver (l : Launch) (D : va_G) (κ : Nat → ClassId) (sz : Nat) (T S : Nat) (ad : Nat → Nat) (bs sm pl r0 r1 : Nat → Int32) (tk vo : Int32) (bad : Nat → Nat) (bbs bsm bpl br0 br1 : Nat → Int32) (btk bvo : Int32) (hT : T ≤ 12) (hS8 : S ≤ 8) (hft : sb_Fit bbs) : Met l yX1_takeOver wsX1_takeOver ({ frames := 1, cells := 0, slots := 0, locals := 60 }) (va_Pc [.ref ((ad 0)), .ref ((bad 0))] (mu_B D κ (sfW κ T S ad bs sm pl r0 r1 tk vo ++ sfW κ T S bad bbs bsm bpl br0 br1 btk bvo) sz)) (mu_Q D none (sfW κ T S ad (va_cpy bbs bs 0 0 ((T + 2) * S * 16)) (va_cpy bsm sm 0 0 ((T + 2) * S)) (va_cpy bpl pl 0 0 T) (va_cpy br0 r0 0 0 T) (va_cpy br1 r1 0 0 T) btk bvo ++ sfW κ T S bad bbs bsm bpl br0 br1 btk bvo) (va_A (sfW κ T S ad bs sm pl r0 r1 tk vo ++ sfW κ T S bad bbs bsm bpl br0 br1 btk bvo) sz)) 0 0 (va_A (sfW κ T S ad bs sm pl r0 r1 tk vo ++ sfW κ T S bad bbs bsm bpl br0 br1 btk bvo) sz) := by
  refine Met.ofW (cc := cX1_takeOver) (maxL := 2) (ret := none) (by decide) rfl ?_
  intro p e s m args below meth c s₁ B hml hv
  obtain ⟨rfl, hsz, hP, hK, hD0⟩ := hv
  have hx := B.exec
  have hb := B.bytes
  have hr := B.returns
  have hts := atoms_spec (ws := wsX1_takeOver) B.pre
  have hown : s.vm.findClass RX1 = some m.cls := findClass_of_methodNamed B.named
  have hlocks := B.notSynchronized
  subst hsz
  have hD := hD0.self (sz := s.heap.size)
  generalize hAe : va_A (sfW κ T S ad bs sm pl r0 r1 tk vo ++ sfW κ T S bad bbs bsm bpl br0 br1 btk bvo) s.heap.size = A at hD ⊢
  have hA : ∀ q : Nat, s.heap.size ≤ q → A q := fun q h => by rw [← hAe]; exact Or.inr h
  refine W.gen (P := fun H locs => va_P D vwCl (sfW κ T S ad bs sm pl r0 r1 tk vo ++ sfW κ T S bad bbs bsm bpl br0 br1 btk bvo) H ∧ va_S A s.heap H locs) (fun H locs h => ?_) ⟨hP, va_S.rf⟩
  clear hP
  obtain ⟨hP, hS⟩ := h
  have hl := lv_entry ([.ref ((ad 0)), .ref ((bad 0))]) (n := 2) (Nat.le_of_ble_eq_true rfl)
  rw [lg_entry_eq]
  generalize (lg_sl ([.ref ((ad 0)), .ref ((bad 0))]) ++ List.replicate (2 - (lg_sl ([.ref ((ad 0)), .ref ((bad 0))])).length) Slot.unset).toArray = ls at hl ⊢
  have hl : lv_has ls 2 [(0, .ref ((ad 0))), (1, .ref ((bad 0)))] := hl
  have hmx := sf_max hT hS8
  refine lv_aload_n hx hb dX1_takeOver_0 rfl (lv_at hl 1 rfl) ?_
  refine va_get (D := D) (ci := 2) (v := .ref ((bad 1))) (C := RX1) (T := TX1) (N := 9) hx hb hts (by decide +kernel) hown hK hP 6 rfl rfl 2 (by decide) (hts (.fieldLink RX1 18 "TrackDisk$Surface" "bytes" "[B") (by decide +kernel)) (fun _ h9 => h9) rfl dX1_takeOver_1 ?_
  refine lv_iconst (v := nI 0) hx hb dX1_takeOver_4 (by decide) ?_
  refine lv_aload_n hx hb dX1_takeOver_5 rfl (lv_at hl 0 rfl) ?_
  refine va_get (D := D) (ci := 2) (v := .ref ((ad 1))) (C := RX1) (T := TX1) (N := 9) hx hb hts (by decide +kernel) hown hK hP 0 rfl rfl 2 (by decide) (hts (.fieldLink RX1 18 "TrackDisk$Surface" "bytes" "[B") (by decide +kernel)) (fun _ h9 => h9) rfl dX1_takeOver_6 ?_
  refine lv_iconst (v := nI 0) hx hb dX1_takeOver_9 (by decide) ?_
  refine lv_aload_n hx hb dX1_takeOver_10 rfl (lv_at hl 0 rfl) ?_
  refine va_get (D := D) (ci := 2) (v := .ref ((ad 1))) (C := RX1) (T := TX1) (N := 9) hx hb hts (by decide +kernel) hown hK hP 0 rfl rfl 2 (by decide) (hts (.fieldLink RX1 18 "TrackDisk$Surface" "bytes" "[B") (by decide +kernel)) (fun _ h9 => h9) rfl dX1_takeOver_11 ?_
  refine va_alen (v := nI ((T + 2) * S * 16)) hx hb hK hP 1 1 rfl rfl rfl dX1_takeOver_14 ?_
  refine va_copyi (ty := .byte) hx hb (by rw [hml]; exact hl.1.symm) hown (hts (.methodLink RX1 67 arraycopyName) (by decide +kernel)) (hts (.native arraycopyName) (by decide +kernel)) (hts (.static arraycopyName) (by decide +kernel)) (hts (.initialized "java/lang/System") (by decide +kernel)) hK hP hD hS 7 1 1 1 rfl rfl rfl rfl rfl (nI_pos (by omega)) (nI_pos (by omega)) (nI_pos (by omega)) (by rw [nI_clamp (by omega), nI_clamp (by omega)]; omega) (by rw [nI_clamp (by omega), nI_clamp (by omega)]; omega) (fun i _ => hft _) (Nat.le_of_ble_eq_true rfl) (Nat.le_of_ble_eq_true rfl) dX1_takeOver_15 (fun H locs hP hD hS => ?_)
  rw [show va_cpy bbs bs (nI 0).toNatClampNeg (nI 0).toNatClampNeg (nI ((T + 2) * S * 16)).toNatClampNeg = va_cpy bbs bs 0 0 ((T + 2) * S * 16) from by rw [nI_clamp (n := 0) (by omega), nI_clamp (n := ((T + 2) * S * 16)) (by omega)]] at hP hD
  have hP : va_P D vwCl (sfW κ T S ad (va_cpy bbs bs 0 0 ((T + 2) * S * 16)) sm pl r0 r1 tk vo ++ sfW κ T S bad bbs bsm bpl br0 br1 btk bvo) H := hP
  have hD : va_D A (sfW κ T S ad (va_cpy bbs bs 0 0 ((T + 2) * S * 16)) sm pl r0 r1 tk vo ++ sfW κ T S bad bbs bsm bpl br0 br1 btk bvo) := hD
  refine lv_aload_n hx hb dX1_takeOver_18 rfl (lv_at hl 1 rfl) ?_
  refine va_get (D := D) (ci := 2) (v := .ref ((bad 2))) (C := RX1) (T := TX1) (N := 9) hx hb hts (by decide +kernel) hown hK hP 6 rfl rfl 3 (by decide) (hts (.fieldLink RX1 22 "TrackDisk$Surface" "sums" "[I") (by decide +kernel)) (fun _ h9 => h9) rfl dX1_takeOver_19 ?_
  refine lv_iconst (v := nI 0) hx hb dX1_takeOver_22 (by decide) ?_
  refine lv_aload_n hx hb dX1_takeOver_23 rfl (lv_at hl 0 rfl) ?_
  refine va_get (D := D) (ci := 2) (v := .ref ((ad 2))) (C := RX1) (T := TX1) (N := 9) hx hb hts (by decide +kernel) hown hK hP 0 rfl rfl 3 (by decide) (hts (.fieldLink RX1 22 "TrackDisk$Surface" "sums" "[I") (by decide +kernel)) (fun _ h9 => h9) rfl dX1_takeOver_24 ?_
  refine lv_iconst (v := nI 0) hx hb dX1_takeOver_27 (by decide) ?_
  refine lv_aload_n hx hb dX1_takeOver_28 rfl (lv_at hl 0 rfl) ?_
  refine va_get (D := D) (ci := 2) (v := .ref ((ad 2))) (C := RX1) (T := TX1) (N := 9) hx hb hts (by decide +kernel) hown hK hP 0 rfl rfl 3 (by decide) (hts (.fieldLink RX1 22 "TrackDisk$Surface" "sums" "[I") (by decide +kernel)) (fun _ h9 => h9) rfl dX1_takeOver_29 ?_
  refine va_alen (v := nI ((T + 2) * S)) hx hb hK hP 2 0 rfl rfl rfl dX1_takeOver_32 ?_
  refine va_copyi (ty := .int) hx hb (by rw [hml]; exact hl.1.symm) hown (hts (.methodLink RX1 67 arraycopyName) (by decide +kernel)) (hts (.native arraycopyName) (by decide +kernel)) (hts (.static arraycopyName) (by decide +kernel)) (hts (.initialized "java/lang/System") (by decide +kernel)) hK hP hD hS 8 2 0 0 rfl rfl rfl rfl rfl (nI_pos (by omega)) (nI_pos (by omega)) (nI_pos (by omega)) (by rw [nI_clamp (by omega), nI_clamp (by omega)]; omega) (by rw [nI_clamp (by omega), nI_clamp (by omega)]; omega) (fun i _ => rfl) (Nat.le_of_ble_eq_true rfl) (Nat.le_of_ble_eq_true rfl) dX1_takeOver_33 (fun H locs hP hD hS => ?_)
  rw [show va_cpy bsm sm (nI 0).toNatClampNeg (nI 0).toNatClampNeg (nI ((T + 2) * S)).toNatClampNeg = va_cpy bsm sm 0 0 ((T + 2) * S) from by rw [nI_clamp (n := 0) (by omega), nI_clamp (n := ((T + 2) * S)) (by omega)]] at hP hD
  have hP : va_P D vwCl (sfW κ T S ad (va_cpy bbs bs 0 0 ((T + 2) * S * 16)) (va_cpy bsm sm 0 0 ((T + 2) * S)) pl r0 r1 tk vo ++ sfW κ T S bad bbs bsm bpl br0 br1 btk bvo) H := hP
  have hD : va_D A (sfW κ T S ad (va_cpy bbs bs 0 0 ((T + 2) * S * 16)) (va_cpy bsm sm 0 0 ((T + 2) * S)) pl r0 r1 tk vo ++ sfW κ T S bad bbs bsm bpl br0 br1 btk bvo) := hD
  refine lv_aload_n hx hb dX1_takeOver_36 rfl (lv_at hl 1 rfl) ?_
  refine va_get (D := D) (ci := 2) (v := .ref ((bad 3))) (C := RX1) (T := TX1) (N := 9) hx hb hts (by decide +kernel) hown hK hP 6 rfl rfl 4 (by decide) (hts (.fieldLink RX1 26 "TrackDisk$Surface" "place" "[I") (by decide +kernel)) (fun _ h9 => h9) rfl dX1_takeOver_37 ?_
  refine lv_iconst (v := nI 0) hx hb dX1_takeOver_40 (by decide) ?_
  refine lv_aload_n hx hb dX1_takeOver_41 rfl (lv_at hl 0 rfl) ?_
  refine va_get (D := D) (ci := 2) (v := .ref ((ad 3))) (C := RX1) (T := TX1) (N := 9) hx hb hts (by decide +kernel) hown hK hP 0 rfl rfl 4 (by decide) (hts (.fieldLink RX1 26 "TrackDisk$Surface" "place" "[I") (by decide +kernel)) (fun _ h9 => h9) rfl dX1_takeOver_42 ?_
  refine lv_iconst (v := nI 0) hx hb dX1_takeOver_45 (by decide) ?_
  refine lv_aload_n hx hb dX1_takeOver_46 rfl (lv_at hl 0 rfl) ?_
  refine va_get (D := D) (ci := 2) (v := .ref ((ad 3))) (C := RX1) (T := TX1) (N := 9) hx hb hts (by decide +kernel) hown hK hP 0 rfl rfl 4 (by decide) (hts (.fieldLink RX1 26 "TrackDisk$Surface" "place" "[I") (by decide +kernel)) (fun _ h9 => h9) rfl dX1_takeOver_47 ?_
  refine va_alen (v := nI (T)) hx hb hK hP 3 0 rfl rfl rfl dX1_takeOver_50 ?_
  refine va_copyi (ty := .int) hx hb (by rw [hml]; exact hl.1.symm) hown (hts (.methodLink RX1 67 arraycopyName) (by decide +kernel)) (hts (.native arraycopyName) (by decide +kernel)) (hts (.static arraycopyName) (by decide +kernel)) (hts (.initialized "java/lang/System") (by decide +kernel)) hK hP hD hS 9 3 0 0 rfl rfl rfl rfl rfl (nI_pos (by omega)) (nI_pos (by omega)) (nI_pos (by omega)) (by rw [nI_clamp (by omega), nI_clamp (by omega)]; omega) (by rw [nI_clamp (by omega), nI_clamp (by omega)]; omega) (fun i _ => rfl) (Nat.le_of_ble_eq_true rfl) (Nat.le_of_ble_eq_true rfl) dX1_takeOver_51 (fun H locs hP hD hS => ?_)
  rw [show va_cpy bpl pl (nI 0).toNatClampNeg (nI 0).toNatClampNeg (nI (T)).toNatClampNeg = va_cpy bpl pl 0 0 (T) from by rw [nI_clamp (n := 0) (by omega), nI_clamp (n := (T)) (by omega)]] at hP hD
  have hP : va_P D vwCl (sfW κ T S ad (va_cpy bbs bs 0 0 ((T + 2) * S * 16)) (va_cpy bsm sm 0 0 ((T + 2) * S)) (va_cpy bpl pl 0 0 (T)) r0 r1 tk vo ++ sfW κ T S bad bbs bsm bpl br0 br1 btk bvo) H := hP
  have hD : va_D A (sfW κ T S ad (va_cpy bbs bs 0 0 ((T + 2) * S * 16)) (va_cpy bsm sm 0 0 ((T + 2) * S)) (va_cpy bpl pl 0 0 (T)) r0 r1 tk vo ++ sfW κ T S bad bbs bsm bpl br0 br1 btk bvo) := hD
  refine lv_aload_n hx hb dX1_takeOver_54 rfl (lv_at hl 1 rfl) ?_
  refine va_get (D := D) (ci := 2) (v := .ref ((bad 4))) (C := RX1) (T := TX1) (N := 9) hx hb hts (by decide +kernel) hown hK hP 6 rfl rfl 5 (by decide) (hts (.fieldLink RX1 29 "TrackDisk$Surface" "usedByRow0" "[I") (by decide +kernel)) (fun _ h9 => h9) rfl dX1_takeOver_55 ?_
  refine lv_iconst (v := nI 0) hx hb dX1_takeOver_58 (by decide) ?_
  refine lv_aload_n hx hb dX1_takeOver_59 rfl (lv_at hl 0 rfl) ?_
  refine va_get (D := D) (ci := 2) (v := .ref ((ad 4))) (C := RX1) (T := TX1) (N := 9) hx hb hts (by decide +kernel) hown hK hP 0 rfl rfl 5 (by decide) (hts (.fieldLink RX1 29 "TrackDisk$Surface" "usedByRow0" "[I") (by decide +kernel)) (fun _ h9 => h9) rfl dX1_takeOver_60 ?_
  refine lv_iconst (v := nI 0) hx hb dX1_takeOver_63 (by decide) ?_
  refine lv_aload_n hx hb dX1_takeOver_64 rfl (lv_at hl 0 rfl) ?_
  refine va_get (D := D) (ci := 2) (v := .ref ((ad 4))) (C := RX1) (T := TX1) (N := 9) hx hb hts (by decide +kernel) hown hK hP 0 rfl rfl 5 (by decide) (hts (.fieldLink RX1 29 "TrackDisk$Surface" "usedByRow0" "[I") (by decide +kernel)) (fun _ h9 => h9) rfl dX1_takeOver_65 ?_
  refine va_alen (v := nI (T)) hx hb hK hP 4 0 rfl rfl rfl dX1_takeOver_68 ?_
  refine va_copyi (ty := .int) hx hb (by rw [hml]; exact hl.1.symm) hown (hts (.methodLink RX1 67 arraycopyName) (by decide +kernel)) (hts (.native arraycopyName) (by decide +kernel)) (hts (.static arraycopyName) (by decide +kernel)) (hts (.initialized "java/lang/System") (by decide +kernel)) hK hP hD hS 10 4 0 0 rfl rfl rfl rfl rfl (nI_pos (by omega)) (nI_pos (by omega)) (nI_pos (by omega)) (by rw [nI_clamp (by omega), nI_clamp (by omega)]; omega) (by rw [nI_clamp (by omega), nI_clamp (by omega)]; omega) (fun i _ => rfl) (Nat.le_of_ble_eq_true rfl) (Nat.le_of_ble_eq_true rfl) dX1_takeOver_69 (fun H locs hP hD hS => ?_)
  rw [show va_cpy br0 r0 (nI 0).toNatClampNeg (nI 0).toNatClampNeg (nI (T)).toNatClampNeg = va_cpy br0 r0 0 0 (T) from by rw [nI_clamp (n := 0) (by omega), nI_clamp (n := (T)) (by omega)]] at hP hD
  have hP : va_P D vwCl (sfW κ T S ad (va_cpy bbs bs 0 0 ((T + 2) * S * 16)) (va_cpy bsm sm 0 0 ((T + 2) * S)) (va_cpy bpl pl 0 0 (T)) (va_cpy br0 r0 0 0 (T)) r1 tk vo ++ sfW κ T S bad bbs bsm bpl br0 br1 btk bvo) H := hP
  have hD : va_D A (sfW κ T S ad (va_cpy bbs bs 0 0 ((T + 2) * S * 16)) (va_cpy bsm sm 0 0 ((T + 2) * S)) (va_cpy bpl pl 0 0 (T)) (va_cpy br0 r0 0 0 (T)) r1 tk vo ++ sfW κ T S bad bbs bsm bpl br0 br1 btk bvo) := hD
  refine lv_aload_n hx hb dX1_takeOver_72 rfl (lv_at hl 1 rfl) ?_
  refine va_get (D := D) (ci := 2) (v := .ref ((bad 5))) (C := RX1) (T := TX1) (N := 9) hx hb hts (by decide +kernel) hown hK hP 6 rfl rfl 6 (by decide) (hts (.fieldLink RX1 32 "TrackDisk$Surface" "usedByRow1" "[I") (by decide +kernel)) (fun _ h9 => h9) rfl dX1_takeOver_73 ?_
  refine lv_iconst (v := nI 0) hx hb dX1_takeOver_76 (by decide) ?_
  refine lv_aload_n hx hb dX1_takeOver_77 rfl (lv_at hl 0 rfl) ?_
  refine va_get (D := D) (ci := 2) (v := .ref ((ad 5))) (C := RX1) (T := TX1) (N := 9) hx hb hts (by decide +kernel) hown hK hP 0 rfl rfl 6 (by decide) (hts (.fieldLink RX1 32 "TrackDisk$Surface" "usedByRow1" "[I") (by decide +kernel)) (fun _ h9 => h9) rfl dX1_takeOver_78 ?_
  refine lv_iconst (v := nI 0) hx hb dX1_takeOver_81 (by decide) ?_
  refine lv_aload_n hx hb dX1_takeOver_82 rfl (lv_at hl 0 rfl) ?_
  refine va_get (D := D) (ci := 2) (v := .ref ((ad 5))) (C := RX1) (T := TX1) (N := 9) hx hb hts (by decide +kernel) hown hK hP 0 rfl rfl 6 (by decide) (hts (.fieldLink RX1 32 "TrackDisk$Surface" "usedByRow1" "[I") (by decide +kernel)) (fun _ h9 => h9) rfl dX1_takeOver_83 ?_
  refine va_alen (v := nI (T)) hx hb hK hP 5 0 rfl rfl rfl dX1_takeOver_86 ?_
  refine va_copyi (ty := .int) hx hb (by rw [hml]; exact hl.1.symm) hown (hts (.methodLink RX1 67 arraycopyName) (by decide +kernel)) (hts (.native arraycopyName) (by decide +kernel)) (hts (.static arraycopyName) (by decide +kernel)) (hts (.initialized "java/lang/System") (by decide +kernel)) hK hP hD hS 11 5 0 0 rfl rfl rfl rfl rfl (nI_pos (by omega)) (nI_pos (by omega)) (nI_pos (by omega)) (by rw [nI_clamp (by omega), nI_clamp (by omega)]; omega) (by rw [nI_clamp (by omega), nI_clamp (by omega)]; omega) (fun i _ => rfl) (Nat.le_of_ble_eq_true rfl) (Nat.le_of_ble_eq_true rfl) dX1_takeOver_87 (fun H locs hP hD hS => ?_)
  rw [show va_cpy br1 r1 (nI 0).toNatClampNeg (nI 0).toNatClampNeg (nI (T)).toNatClampNeg = va_cpy br1 r1 0 0 (T) from by rw [nI_clamp (n := 0) (by omega), nI_clamp (n := (T)) (by omega)]] at hP hD
  have hP : va_P D vwCl (sfW κ T S ad (va_cpy bbs bs 0 0 ((T + 2) * S * 16)) (va_cpy bsm sm 0 0 ((T + 2) * S)) (va_cpy bpl pl 0 0 (T)) (va_cpy br0 r0 0 0 (T)) (va_cpy br1 r1 0 0 (T)) tk vo ++ sfW κ T S bad bbs bsm bpl br0 br1 btk bvo) H := hP
  have hD : va_D A (sfW κ T S ad (va_cpy bbs bs 0 0 ((T + 2) * S * 16)) (va_cpy bsm sm 0 0 ((T + 2) * S)) (va_cpy bpl pl 0 0 (T)) (va_cpy br0 r0 0 0 (T)) (va_cpy br1 r1 0 0 (T)) tk vo ++ sfW κ T S bad bbs bsm bpl br0 br1 btk bvo) := hD
  refine lv_aload_n hx hb dX1_takeOver_90 rfl (lv_at hl 0 rfl) ?_
  refine lv_aload_n hx hb dX1_takeOver_91 rfl (lv_at hl 1 rfl) ?_
  refine va_get (D := D) (ci := 2) (v := .int btk) (C := RX1) (T := TX1) (N := 9) hx hb hts (by decide +kernel) hown hK hP 6 rfl rfl 7 (by decide) (hts (.fieldLink RX1 35 "TrackDisk$Surface" "taken" "I") (by decide +kernel)) (fun _ h9 => h9) rfl dX1_takeOver_92 ?_
  refine va_put (D := D) (ci := 2) (v := .int btk) (ty := .int) (C := RX1) (T := TX1) (N := 9) hx hb hts (by decide +kernel) tyX1 tyX1_ok nmX1 hown hK hP hD hS 0 rfl rfl 7 (by decide) (hts (.fieldLink RX1 35 "TrackDisk$Surface" "taken" "I") (by decide +kernel)) (fun _ h9 => h9) rfl (by decide +kernel) rfl rfl (Nat.le_of_ble_eq_true rfl) dX1_takeOver_95 (fun H locs hP hD hS => ?_)
  have hP : va_P D vwCl (sfW κ T S ad (va_cpy bbs bs 0 0 ((T + 2) * S * 16)) (va_cpy bsm sm 0 0 ((T + 2) * S)) (va_cpy bpl pl 0 0 (T)) (va_cpy br0 r0 0 0 (T)) (va_cpy br1 r1 0 0 (T)) btk vo ++ sfW κ T S bad bbs bsm bpl br0 br1 btk bvo) H := hP
  have hD : va_D A (sfW κ T S ad (va_cpy bbs bs 0 0 ((T + 2) * S * 16)) (va_cpy bsm sm 0 0 ((T + 2) * S)) (va_cpy bpl pl 0 0 (T)) (va_cpy br0 r0 0 0 (T)) (va_cpy br1 r1 0 0 (T)) btk vo ++ sfW κ T S bad bbs bsm bpl br0 br1 btk bvo) := hD
  refine lv_aload_n hx hb dX1_takeOver_98 rfl (lv_at hl 0 rfl) ?_
  refine lv_aload_n hx hb dX1_takeOver_99 rfl (lv_at hl 1 rfl) ?_
  refine va_get (D := D) (ci := 2) (v := .int bvo) (C := RX1) (T := TX1) (N := 9) hx hb hts (by decide +kernel) hown hK hP 6 rfl rfl 8 (by decide) (hts (.fieldLink RX1 38 "TrackDisk$Surface" "volume" "I") (by decide +kernel)) (fun _ h9 => h9) rfl dX1_takeOver_100 ?_
  refine va_put (D := D) (ci := 2) (v := .int bvo) (ty := .int) (C := RX1) (T := TX1) (N := 9) hx hb hts (by decide +kernel) tyX1 tyX1_ok nmX1 hown hK hP hD hS 0 rfl rfl 8 (by decide) (hts (.fieldLink RX1 38 "TrackDisk$Surface" "volume" "I") (by decide +kernel)) (fun _ h9 => h9) rfl (by decide +kernel) rfl rfl (Nat.le_of_ble_eq_true rfl) dX1_takeOver_103 (fun H locs hP hD hS => ?_)
  have hP : va_P D vwCl (sfW κ T S ad (va_cpy bbs bs 0 0 ((T + 2) * S * 16)) (va_cpy bsm sm 0 0 ((T + 2) * S)) (va_cpy bpl pl 0 0 (T)) (va_cpy br0 r0 0 0 (T)) (va_cpy br1 r1 0 0 (T)) btk bvo ++ sfW κ T S bad bbs bsm bpl br0 br1 btk bvo) H := hP
  have hD : va_D A (sfW κ T S ad (va_cpy bbs bs 0 0 ((T + 2) * S * 16)) (va_cpy bsm sm 0 0 ((T + 2) * S)) (va_cpy bpl pl 0 0 (T)) (va_cpy br0 r0 0 0 (T)) (va_cpy br1 r1 0 0 (T)) btk bvo ++ sfW κ T S bad bbs bsm bpl br0 br1 btk bvo) := hD
  have hP9 : va_P D vwCl (sfW κ T S ad (va_cpy bbs bs 0 0 ((T + 2) * S * 16)) (va_cpy bsm sm 0 0 ((T + 2) * S)) (va_cpy bpl pl 0 0 T) (va_cpy br0 r0 0 0 T) (va_cpy br1 r1 0 0 T) btk bvo ++ sfW κ T S bad bbs bsm bpl br0 br1 btk bvo) H := hP
  have hD9 : va_D A (sfW κ T S ad (va_cpy bbs bs 0 0 ((T + 2) * S * 16)) (va_cpy bsm sm 0 0 ((T + 2) * S)) (va_cpy bpl pl 0 0 T) (va_cpy br0 r0 0 0 T) (va_cpy br1 r1 0 0 T) btk bvo ++ sfW κ T S bad bbs bsm bpl br0 br1 btk bvo) := hD
  exact W.vret hx hb hr (fun t ht _ => ⟨⟨rfl, by rw [ht]; exact hP9, hD9⟩, hS.F ht⟩) hS.2.2 dX1_takeOver_106 hlocks

set_option maxHeartbeats 4000000 in
set_option maxRecDepth 100000 in
/-- differsAt(other, slot) -/
theorem c_differsAt (l : Launch) (D : va_G) (κ : Nat → ClassId) (T S : Nat) (ad : Nat → Nat) (bs sm pl r0 r1 : Nat → Int32) (tk vo : Int32) (bad : Nat → Nat) (bbs bsm bpl br0 br1 : Nat → Int32) (btk bvo : Int32) (hT : T ≤ 12) (hS8 : S ≤ 8) (q : Nat) (hq : q < (T + 2) * S) : Met l yX1_differsAt wsX1_differsAt ({ frames := 0, cells := 0, slots := 0, locals := 0 }) (va_Pc [.ref ((ad 0)), .ref ((bad 0)), .int (nI q)] (pu_B D κ (sfW κ T S ad bs sm pl r0 r1 tk vo ++ sfW κ T S bad bbs bsm bpl br0 br1 btk bvo))) (pu_Q (.int (bI (dnF bs bbs (q * 16) 16)))) 0 0 pu_N := by
  refine Met.ofW (cc := cX1_differsAt) (maxL := 5) (ret := (some .boolean)) (by decide) rfl ?_
  intro p e s m args below meth c s₁ B hml hv
  obtain ⟨rfl, hP, hK⟩ := hv
  have hx := B.exec
  have hb := B.bytes
  have hr := B.returns
  have hts := atoms_spec (ws := wsX1_differsAt) B.pre
  have hown : s.vm.findClass RX1 = some m.cls := findClass_of_methodNamed B.named
  have hlocks := B.notSynchronized
  have hl := lv_entry ([.ref ((ad 0)), .ref ((bad 0)), .int (nI q)]) (n := 5) (Nat.le_of_ble_eq_true rfl)
  rw [lg_entry_eq]
  generalize (lg_sl ([.ref ((ad 0)), .ref ((bad 0)), .int (nI q)]) ++ List.replicate (5 - (lg_sl ([.ref ((ad 0)), .ref ((bad 0)), .int (nI q)])).length) Slot.unset).toArray = ls at hl ⊢
  have hl : lv_has ls 5 [(0, .ref ((ad 0))), (1, .ref ((bad 0))), (2, .int (nI q))] := hl
  have hmx := sf_max hT hS8
  refine lv_iload_n hx hb dX1_differsAt_0 rfl (lv_at hl 2 rfl) ?_
  refine lv_bipush (v := nI 16) hx hb dX1_differsAt_1 (by decide) ?_
  refine lv_imul hx hb dX1_differsAt_3 ?_
  refine tp_i (y := nI (q * 16)) (by exact pk_mul _ _) ?_
  refine lv_istore_n (lv' := [(3, .int (nI (q * 16))), (0, .ref ((ad 0))), (1, .ref ((bad 0))), (2, .int (nI q))]) hx hb dX1_differsAt_4 rfl hl (by decide) rfl (fun ls hl => ?_)
  refine lv_iconst (v := nI 0) hx hb dX1_differsAt_5 (by decide) ?_
  refine lv_istore (lv' := [(4, .int (nI 0)), (3, .int (nI (q * 16))), (0, .ref ((ad 0))), (1, .ref ((bad 0))), (2, .int (nI q))]) hx hb dX1_differsAt_6 hl (by decide) rfl (fun ls hl => ?_)
  refine W.loopP (N := 16) (I := fun k ls => lv_has ls 5 [(4, .int (nI k)), (3, .int (nI (q * 16))), (0, .ref ((ad 0))), (1, .ref ((bad 0))), (2, .int (nI q))] ∧ dnF bs bbs (q * 16) k = false) 0 (by omega) (fun k ls hk hI ihk => ?_) (fun ls hI => ?_) ⟨lv_sub hl [0, 1, 2, 3, 4] rfl, rfl⟩
  · skip
    clear hl
    obtain ⟨hl, hJk⟩ := hI
    have hlt := sf_qlt hq hk
    refine lv_iload hx hb dX1_differsAt_8 (lv_at hl 0 rfl) ?_
    refine lv_bipush (v := nI 16) hx hb dX1_differsAt_10 (by decide) ?_
    refine lv_icmp_ge (tgt := 44) hx hb dX1_differsAt_12 (by decide) (fun c_12 => ?_) (fun c_12 => ?_)
    · exact absurd c_12 (nI_ge hk (by omega))
    · skip
      refine lv_aload_n hx hb dX1_differsAt_15 rfl (lv_at hl 2 rfl) ?_
      refine va_get (D := D) (ci := 2) (v := .ref ((ad 1))) (C := RX1) (T := TX1) (N := 9) hx hb hts (by decide +kernel) hown hK hP 0 rfl rfl 2 (by decide) (hts (.fieldLink RX1 18 "TrackDisk$Surface" "bytes" "[B") (by decide +kernel)) (fun _ h9 => h9) rfl dX1_differsAt_16 ?_
      refine lv_iload_n hx hb dX1_differsAt_19 rfl (lv_at hl 1 rfl) ?_
      refine lv_iload hx hb dX1_differsAt_20 (lv_at hl 0 rfl) ?_
      refine lv_iadd hx hb dX1_differsAt_22 ?_
      refine tp_i (y := nI ((q * 16) + k)) (by exact nI_add _ _) ?_
      refine va_bald hx hb hK hP 1 1 rfl rfl (vp_in_nI (by omega) (by omega)) dX1_differsAt_23 ?_
      refine tp_i (y := bs ((q * 16) + k)) (by rw [nI_clamp (by omega)]) ?_
      refine lv_aload_n hx hb dX1_differsAt_24 rfl (lv_at hl 3 rfl) ?_
      refine va_get (D := D) (ci := 2) (v := .ref ((bad 1))) (C := RX1) (T := TX1) (N := 9) hx hb hts (by decide +kernel) hown hK hP 6 rfl rfl 2 (by decide) (hts (.fieldLink RX1 18 "TrackDisk$Surface" "bytes" "[B") (by decide +kernel)) (fun _ h9 => h9) rfl dX1_differsAt_25 ?_
      refine lv_iload_n hx hb dX1_differsAt_28 rfl (lv_at hl 1 rfl) ?_
      refine lv_iload hx hb dX1_differsAt_29 (lv_at hl 0 rfl) ?_
      refine lv_iadd hx hb dX1_differsAt_31 ?_
      refine tp_i (y := nI ((q * 16) + k)) (by exact nI_add _ _) ?_
      refine va_bald hx hb hK hP 7 1 rfl rfl (vp_in_nI (by omega) (by omega)) dX1_differsAt_32 ?_
      refine tp_i (y := bbs ((q * 16) + k)) (by rw [nI_clamp (by omega)]) ?_
      refine lv_icmp_eq (tgt := 38) hx hb dX1_differsAt_33 (by decide) (fun c_33 => ?_) (fun c_33 => ?_)
      · skip
        refine lv_iinc (v := nI (k + 1)) (lv' := [(4, .int (nI (k + 1))), (3, .int (nI (q * 16))), (0, .ref ((ad 0))), (1, .ref ((bad 0))), (2, .int (nI q))]) hx hb dX1_differsAt_38 hl (k := 0) rfl (by exact nI_1 _) (by decide) rfl (fun ls hl => ?_)
        refine lv_goto (tgt := 8) hx hb dX1_differsAt_41 (by decide) ?_
        exact ihk ls ⟨lv_sub hl [0, 1, 2, 3, 4] rfl, by simp only [dnF, hJk, Bool.false_or, decide_eq_false_iff_not, Decidable.not_not]; exact c_33⟩
      · skip
        refine lv_iconst (v := nI 1) hx hb dX1_differsAt_36 (by decide) ?_
        refine tp_i (y := bI (dnF bs bbs (q * 16) 16)) (bI_t (dn_t hk c_33)) ?_
        exact pu_zret hx hb hr (by cases dnF bs bbs (q * 16) 16 <;> rfl) hlocks dX1_differsAt_37
  · skip
    clear hl
    obtain ⟨hl, hJk⟩ := hI
    refine lv_iload hx hb dX1_differsAt_8 (lv_at hl 0 rfl) ?_
    refine lv_bipush (v := nI 16) hx hb dX1_differsAt_10 (by decide) ?_
    refine lv_icmp_ge (tgt := 44) hx hb dX1_differsAt_12 (by decide) (fun c_12 => ?_) (fun c_12 => ?_)
    · skip
      refine lv_iconst (v := nI 0) hx hb dX1_differsAt_44 (by decide) ?_
      refine tp_i (y := bI (dnF bs bbs (q * 16) 16)) (bI_f hJk) ?_
      exact pu_zret hx hb hr (by cases dnF bs bbs (q * 16) 16 <;> rfl) hlocks dX1_differsAt_45
    · exact absurd (nI_le (Nat.le_refl _) (by omega)) c_12

set_option maxHeartbeats 4000000 in
set_option maxRecDepth 100000 in
/-- differingSectors(other) -/
theorem c_differing (l : Launch) (D : va_G) (κ : Nat → ClassId) (T S : Nat) (ad : Nat → Nat) (bs sm pl r0 r1 : Nat → Int32) (tk vo : Int32) (bad : Nat → Nat) (bbs bsm bpl br0 br1 : Nat → Int32) (btk bvo : Int32) (hT : T ≤ 12) (hS8 : S ≤ 8)  : Met l yX1_differingSectors wsX1_differingSectors ({ frames := 1, cells := 0, slots := 0, locals := 24 }) (va_Pc [.ref ((ad 0)), .ref ((bad 0))] (pu_B D κ (sfW κ T S ad bs sm pl r0 r1 tk vo ++ sfW κ T S bad bbs bsm bpl br0 br1 btk bvo))) (pu_Q (.int (nI (cnt (fun q => dnF bs bbs (q * 16) 16) ((T + 2) * S))))) 0 0 pu_N := by
  refine Met.ofW (cc := cX1_differingSectors) (maxL := 4) (ret := (some .int)) (by decide) rfl ?_
  intro p e s m args below meth c s₁ B hml hv
  obtain ⟨rfl, hP, hK⟩ := hv
  have hx := B.exec
  have hb := B.bytes
  have hr := B.returns
  have hts := atoms_spec (ws := wsX1_differingSectors) B.pre
  have hown : s.vm.findClass RX1 = some m.cls := findClass_of_methodNamed B.named
  have hlocks := B.notSynchronized
  have hl := lv_entry ([.ref ((ad 0)), .ref ((bad 0))]) (n := 4) (Nat.le_of_ble_eq_true rfl)
  rw [lg_entry_eq]
  generalize (lg_sl ([.ref ((ad 0)), .ref ((bad 0))]) ++ List.replicate (4 - (lg_sl ([.ref ((ad 0)), .ref ((bad 0))])).length) Slot.unset).toArray = ls at hl ⊢
  have hl : lv_has ls 4 [(0, .ref ((ad 0))), (1, .ref ((bad 0)))] := hl
  have hmx := sf_max hT hS8
  refine lv_iconst (v := nI 0) hx hb dX1_differingSectors_0 (by decide) ?_
  refine lv_istore_n (lv' := [(2, .int (nI 0)), (0, .ref ((ad 0))), (1, .ref ((bad 0)))]) hx hb dX1_differingSectors_1 rfl hl (by decide) rfl (fun ls hl => ?_)
  refine lv_iconst (v := nI 0) hx hb dX1_differingSectors_2 (by decide) ?_
  refine lv_istore_n (lv' := [(3, .int (nI 0)), (2, .int (nI 0)), (0, .ref ((ad 0))), (1, .ref ((bad 0)))]) hx hb dX1_differingSectors_3 rfl hl (by decide) rfl (fun ls hl => ?_)
  refine W.loopP (N := ((T + 2) * S)) (I := fun k ls => lv_has ls 4 [(3, .int (nI k)), (2, .int (nI (cnt (fun q => dnF bs bbs (q * 16) 16) k))), (0, .ref ((ad 0))), (1, .ref ((bad 0)))]) 0 (by omega) (fun k ls hk hl ihk => ?_) (fun ls hl => ?_) (lv_sub hl [0, 1, 2, 3] rfl)
  · skip
    refine lv_iload_n hx hb dX1_differingSectors_4 rfl (lv_at hl 0 rfl) ?_
    refine lv_aload_n hx hb dX1_differingSectors_5 rfl (lv_at hl 2 rfl) ?_
    refine va_get (D := D) (ci := 2) (v := .ref ((ad 2))) (C := RX1) (T := TX1) (N := 9) hx hb hts (by decide +kernel) hown hK hP 0 rfl rfl 3 (by decide) (hts (.fieldLink RX1 22 "TrackDisk$Surface" "sums" "[I") (by decide +kernel)) (fun _ h9 => h9) rfl dX1_differingSectors_6 ?_
    refine va_alen (v := nI ((T + 2) * S)) hx hb hK hP 2 0 rfl rfl rfl dX1_differingSectors_9 ?_
    refine lv_icmp_ge (tgt := 31) hx hb dX1_differingSectors_10 (by decide) (fun c_10 => ?_) (fun c_10 => ?_)
    · exact absurd c_10 (nI_ge hk (by omega))
    · skip
      refine lv_aload_n hx hb dX1_differingSectors_13 rfl (lv_at hl 2 rfl) ?_
      refine lv_aload_n hx hb dX1_differingSectors_14 rfl (lv_at hl 3 rfl) ?_
      refine lv_iload_n hx hb dX1_differingSectors_15 rfl (lv_at hl 0 rfl) ?_
      have hPc := hP.sub (ws' := sfW κ T S ad bs sm pl r0 r1 tk vo ++ sfW κ T S bad bbs bsm bpl br0 br1 btk bvo) [0, 1, 2, 3, 4, 5, 6, 7, 8, 9, 10, 11] rfl
      refine pu_call (va_runV (As := [.ref ((bad 0)), .int (nI k)]) (rest := []) ⟨hx, hb, hml, hown, hts⟩ (c_differsAt l D κ T S ad bs sm pl r0 r1 tk vo bad bbs bsm bpl br0 br1 btk bvo hT hS8 k hk) (cwV 2 hts gX1_differingSectors_X1_differsAt rfl rfl rfl (by decide +kernel) ⟨Nat.le_of_ble_eq_true rfl, Nat.le_of_ble_eq_true rfl⟩) ⟨pu_blind, va_recv hK hPc (ci := 2) (q0 := 0) rfl rfl, pu_pre hK hPc⟩ rfl rfl hl.1 rfl (lv_room (Nat.le_of_ble_eq_true rfl)) dX1_differingSectors_16 ⟨Nat.le_of_ble_eq_true rfl, Nat.le_of_ble_eq_true rfl⟩) ?_
      refine lv_if_eq (tgt := 25) hx hb dX1_differingSectors_19 (by decide) (fun c_19 => ?_) (fun c_19 => ?_)
      · skip
        rw [show cnt (fun q => dnF bs bbs (q * 16) 16) k = cnt (fun q => dnF bs bbs (q * 16) 16) (k + 1) from (cnt_f (f := (fun q => dnF bs bbs (q * 16) 16)) (bI_eq c_19)).symm] at hl
        refine lv_iinc (v := nI (k + 1)) (lv' := [(3, .int (nI (k + 1))), (2, .int (nI (cnt (fun q => dnF bs bbs (q * 16) 16) (k + 1)))), (0, .ref ((ad 0))), (1, .ref ((bad 0)))]) hx hb dX1_differingSectors_25 hl (k := 0) rfl (by exact nI_1 _) (by decide) rfl (fun ls hl => ?_)
        refine lv_goto (tgt := 4) hx hb dX1_differingSectors_28 (by decide) ?_
        exact ihk ls (lv_sub hl [0, 1, 2, 3] rfl)
      · skip
        refine lv_iinc (v := nI (cnt (fun q => dnF bs bbs (q * 16) 16) (k + 1))) (lv' := [(2, .int (nI (cnt (fun q => dnF bs bbs (q * 16) 16) (k + 1)))), (3, .int (nI k)), (0, .ref ((ad 0))), (1, .ref ((bad 0)))]) hx hb dX1_differingSectors_22 hl (k := 1) rfl (by rw [cnt_t (f := (fun q => dnF bs bbs (q * 16) 16)) (bI_ne c_19)]; exact nI_1 _) (by decide) rfl (fun ls hl => ?_)
        refine lv_iinc (v := nI (k + 1)) (lv' := [(3, .int (nI (k + 1))), (2, .int (nI (cnt (fun q => dnF bs bbs (q * 16) 16) (k + 1)))), (0, .ref ((ad 0))), (1, .ref ((bad 0)))]) hx hb dX1_differingSectors_25 hl (k := 1) rfl (by exact nI_1 _) (by decide) rfl (fun ls hl => ?_)
        refine lv_goto (tgt := 4) hx hb dX1_differingSectors_28 (by decide) ?_
        exact ihk ls (lv_sub hl [0, 1, 2, 3] rfl)
  · skip
    refine lv_iload_n hx hb dX1_differingSectors_4 rfl (lv_at hl 0 rfl) ?_
    refine lv_aload_n hx hb dX1_differingSectors_5 rfl (lv_at hl 2 rfl) ?_
    refine va_get (D := D) (ci := 2) (v := .ref ((ad 2))) (C := RX1) (T := TX1) (N := 9) hx hb hts (by decide +kernel) hown hK hP 0 rfl rfl 3 (by decide) (hts (.fieldLink RX1 22 "TrackDisk$Surface" "sums" "[I") (by decide +kernel)) (fun _ h9 => h9) rfl dX1_differingSectors_6 ?_
    refine va_alen (v := nI ((T + 2) * S)) hx hb hK hP 2 0 rfl rfl rfl dX1_differingSectors_9 ?_
    refine lv_icmp_ge (tgt := 31) hx hb dX1_differingSectors_10 (by decide) (fun c_10 => ?_) (fun c_10 => ?_)
    · skip
      refine lv_iload_n hx hb dX1_differingSectors_31 rfl (lv_at hl 1 rfl) ?_
      exact pu_iret hx hb hr hlocks dX1_differingSectors_32
    · exact absurd (nI_le (Nat.le_refl _) (by omega)) c_10

/-! TrackDiskModel, second part -/

set_option maxHeartbeats 4000000 in
set_option maxRecDepth 100000 in
/-- wrong(0) -/
theorem m_wrong_0 (l : Launch) (D : va_G) (κ : Nat → ClassId) (sz : Nat) (T S : Nat) (ad : Nat → Nat) (co : Int32) (bs kp sm ks se sp ke kq vo : Nat → Int32) (nd wn : Int32) (wt wx wb : Nat → Int32) (dn : Int32) (tp : Nat → Int32) (tn ts : Int32) (hT : T ≤ 12) (hS8 : S ≤ 8) (hse : ∀ t, t < T → se t = -1 ∨ vp_in (se t) 14)  : Met l yX4_wrong wsX4_wrong ({ frames := 2, cells := 0, slots := 0, locals := 47 }) (va_Pc [.ref ((ad 0)), .int (nI 0)] (mu_B D κ (moW κ T S ad co bs kp sm ks se sp ke kq vo nd wn wt wx wb dn tp tn ts) sz)) (mu_Q D (some (.int (nI (cnt (fun j => (gW (iwM bs sm se) S) (T * 8 - j - 1)) (T * 8))))) (moW κ T S ad (nI 0) bs kp sm ks se sp ke kq vo nd wn wt wx wb dn tp tn ts) (va_A (moW κ T S ad co bs kp sm ks se sp ke kq vo nd wn wt wx wb dn tp tn ts) sz)) 0 0 (va_A (moW κ T S ad co bs kp sm ks se sp ke kq vo nd wn wt wx wb dn tp tn ts) sz) := by
  refine Met.ofW (cc := cX4_wrong) (maxL := 5) (ret := (some .int)) (by decide) rfl ?_
  intro p e s m args below meth c s₁ B hml hv
  obtain ⟨rfl, hsz, hP, hK, hD0⟩ := hv
  have hx := B.exec
  have hb := B.bytes
  have hr := B.returns
  have hts := atoms_spec (ws := wsX4_wrong) B.pre
  have hown : s.vm.findClass RX4 = some m.cls := findClass_of_methodNamed B.named
  have hlocks := B.notSynchronized
  subst hsz
  have hD := hD0.self (sz := s.heap.size)
  generalize hAe : va_A (moW κ T S ad co bs kp sm ks se sp ke kq vo nd wn wt wx wb dn tp tn ts) s.heap.size = A at hD ⊢
  have hA : ∀ q : Nat, s.heap.size ≤ q → A q := fun q h => by rw [← hAe]; exact Or.inr h
  refine W.gen (P := fun H locs => va_P D vwCl (moW κ T S ad co bs kp sm ks se sp ke kq vo nd wn wt wx wb dn tp tn ts) H ∧ va_S A s.heap H locs) (fun H locs h => ?_) ⟨hP, va_S.rf⟩
  clear hP
  obtain ⟨hP, hS⟩ := h
  have hl := lv_entry ([.ref ((ad 0)), .int (nI 0)]) (n := 5) (Nat.le_of_ble_eq_true rfl)
  rw [lg_entry_eq]
  generalize (lg_sl ([.ref ((ad 0)), .int (nI 0)]) ++ List.replicate (5 - (lg_sl ([.ref ((ad 0)), .int (nI 0)])).length) Slot.unset).toArray = ls at hl ⊢
  have hl : lv_has ls 5 [(0, .ref ((ad 0))), (1, .int (nI 0))] := hl
  refine lv_aload_n hx hb dX4_wrong_0 rfl (lv_at hl 0 rfl) ?_
  refine lv_iconst (v := nI 0) hx hb dX4_wrong_1 (by decide) ?_
  refine va_put (D := D) (ci := 5) (v := .int (nI 0)) (ty := .int) (C := RX4) (T := TX4) (N := 21) hx hb hts (by decide +kernel) tyX4 tyX4_ok nmX4 hown hK hP hD hS 0 rfl rfl 0 (by decide) (hts (.fieldLink RX4 61 "TrackDiskModel" "code" "I") (by decide +kernel)) (fun _ h9 => h9) rfl (by decide +kernel) rfl rfl (Nat.le_of_ble_eq_true rfl) dX4_wrong_2 (fun H locs hP hD hS => ?_)
  have hP : va_P D vwCl (moW κ T S ad (nI 0) bs kp sm ks se sp ke kq vo nd wn wt wx wb dn tp tn ts) H := hP
  have hD : va_D A (moW κ T S ad (nI 0) bs kp sm ks se sp ke kq vo nd wn wt wx wb dn tp tn ts) := hD
  refine lv_iconst (v := nI 0) hx hb dX4_wrong_5 (by decide) ?_
  refine lv_istore_n (lv' := [(2, .int (nI 0)), (0, .ref ((ad 0))), (1, .int (nI 0))]) hx hb dX4_wrong_6 rfl hl (by decide) rfl (fun ls hl => ?_)
  refine lv_iconst (v := (-1)) hx hb dX4_wrong_7 (by decide) ?_
  refine lv_istore_n (lv' := [(3, .int ((-1))), (2, .int (nI 0)), (0, .ref ((ad 0))), (1, .int (nI 0))]) hx hb dX4_wrong_8 rfl hl (by decide) rfl (fun ls hl => ?_)
  refine lv_aload_n hx hb dX4_wrong_9 rfl (lv_at hl 2 rfl) ?_
  refine va_get (D := D) (ci := 5) (v := .int (nI T)) (C := RX4) (T := TX4) (N := 21) hx hb hts (by decide +kernel) hown hK hP 0 rfl rfl 1 (by decide) (hts (.fieldLink RX4 50 "TrackDiskModel" "tracks" "I") (by decide +kernel)) (fun _ h9 => h9) rfl dX4_wrong_10 ?_
  refine lv_bipush (v := nI 8) hx hb dX4_wrong_13 (by decide) ?_
  refine lv_imul hx hb dX4_wrong_15 ?_
  refine tp_i (y := nI (T * 8)) (by exact pk_mul _ _) ?_
  refine lv_iconst (v := nI 1) hx hb dX4_wrong_16 (by decide) ?_
  refine lv_isub hx hb dX4_wrong_17 ?_
  refine lv_istore (lv' := [(4, .int (((nI (T * 8)) - (nI 1)))), (3, .int ((-1))), (2, .int (nI 0)), (0, .ref ((ad 0))), (1, .int (nI 0))]) hx hb dX4_wrong_18 hl (by decide) rfl (fun ls hl => ?_)
  refine W.loop (N := T * 8) (I := fun k ls H locs => lv_has ls 5 [(4, .int ((nI (T * 8 - k) - nI 1))), (3, .int (fsF (gW (iwM bs sm se) S) (T * 8) k)), (2, .int (nI (cnt (fun j => (gW (iwM bs sm se) S) (T * 8 - j - 1)) k))), (0, .ref ((ad 0))), (1, .int (nI 0))] ∧ va_P D vwCl (moW κ T S ad (nI 0) bs kp sm ks se sp ke kq vo nd wn wt wx wb dn tp tn ts) H ∧ va_D A (moW κ T S ad (nI 0) bs kp sm ks se sp ke kq vo nd wn wt wx wb dn tp tn ts) ∧ va_S A s.heap H locs) 0 (by omega) (fun k ls H locs hk hI ihk => ?_) (fun ls H locs hI => ?_) ⟨lv_sub hl [0, 1, 2, 3, 4] rfl, hP, hD, hS⟩
  · skip
    clear hl hP hD hS
    obtain ⟨hl, hP, hD, hS⟩ := hI
    rw [show nI (T * 8 - k) - nI 1 = nI (T * 8 - k - 1) from pk_sub (by omega)] at hl
    refine lv_iload hx hb dX4_wrong_20 (lv_at hl 0 rfl) ?_
    refine lv_if_lt (tgt := 69) hx hb dX4_wrong_22 (by decide) (fun c_22 => ?_) (fun c_22 => ?_)
    · exact absurd c_22 (nI_pos (by omega))
    · skip
      refine lv_iload hx hb dX4_wrong_25 (lv_at hl 0 rfl) ?_
      refine lv_bipush (v := nI 8) hx hb dX4_wrong_27 (by decide) ?_
      refine lv_irem hx hb dX4_wrong_29 (by decide) ?_
      refine tp_i (y := nI ((T * 8 - k - 1) % 8)) (by exact pk_rem (by omega) (by omega) (by omega)) ?_
      refine lv_aload_n hx hb dX4_wrong_30 rfl (lv_at hl 3 rfl) ?_
      refine va_get (D := D) (ci := 5) (v := .int (nI S)) (C := RX4) (T := TX4) (N := 21) hx hb hts (by decide +kernel) hown hK hP 0 rfl rfl 2 (by decide) (hts (.fieldLink RX4 54 "TrackDiskModel" "sectors" "I") (by decide +kernel)) (fun _ h9 => h9) rfl dX4_wrong_31 ?_
      refine lv_icmp_ge (tgt := 63) hx hb dX4_wrong_34 (by decide) (fun c_34 => ?_) (fun c_34 => ?_)
      · skip
        rw [show cnt (fun j => (gW (iwM bs sm se) S) (T * 8 - j - 1)) k = cnt (fun j => (gW (iwM bs sm se) S) (T * 8 - j - 1)) (k + 1) from (cnt_f (f := (fun j => (gW (iwM bs sm se) S) (T * 8 - j - 1))) (gW_1 (fun q => absurd c_34 (nI_ge q (by omega))))).symm, show fsF (gW (iwM bs sm se) S) (T * 8) k = fsF (gW (iwM bs sm se) S) (T * 8) (k + 1) from (fsF_f (gW_1 (fun q => absurd c_34 (nI_ge q (by omega))))).symm] at hl
        refine lv_iinc (v := (nI (T * 8 - (k + 1)) - nI 1)) (lv' := [(4, .int ((nI (T * 8 - (k + 1)) - nI 1))), (3, .int (fsF (gW (iwM bs sm se) S) (T * 8) (k + 1))), (2, .int (nI (cnt (fun j => (gW (iwM bs sm se) S) (T * 8 - j - 1)) (k + 1)))), (0, .ref ((ad 0))), (1, .int (nI 0))]) hx hb dX4_wrong_63 hl (k := 0) rfl (by rw [show T * 8 - (k + 1) = (T * 8 - k - 1) by omega]; exact nI_dec _) (by decide) rfl (fun ls hl => ?_)
        refine lv_goto (tgt := 20) hx hb dX4_wrong_66 (by decide) ?_
        exact ihk ls H locs ⟨lv_sub hl [0, 1, 2, 3, 4] rfl, hP, hD, hS⟩
      · skip
        refine lv_aload_n hx hb dX4_wrong_37 rfl (lv_at hl 3 rfl) ?_
        refine lv_iload hx hb dX4_wrong_38 (lv_at hl 0 rfl) ?_
        refine lv_bipush (v := nI 8) hx hb dX4_wrong_40 (by decide) ?_
        refine lv_idiv hx hb dX4_wrong_42 (by decide) ?_
        refine tp_i (y := nI ((T * 8 - k - 1) / 8)) (by exact pk_div (by omega) (by omega) (by omega)) ?_
        refine lv_iload hx hb dX4_wrong_43 (lv_at hl 0 rfl) ?_
        refine lv_bipush (v := nI 8) hx hb dX4_wrong_45 (by decide) ?_
        refine lv_irem hx hb dX4_wrong_47 (by decide) ?_
        refine tp_i (y := nI ((T * 8 - k - 1) % 8)) (by exact pk_rem (by omega) (by omega) (by omega)) ?_
        have hPc := hP.sub (ws' := moW κ T S ad (nI 0) bs kp sm ks se sp ke kq vo nd wn wt wx wb dn tp tn ts) [0, 1, 2, 3, 4, 5, 6, 7, 8, 9, 10, 11, 12, 13] rfl
        refine pu_call (va_runV (As := [.int (nI ((T * 8 - k - 1) / 8)), .int (nI ((T * 8 - k - 1) % 8))]) (rest := []) ⟨hx, hb, hml, hown, hts⟩ (m_isWrong l D κ T S ad (nI 0) bs kp sm ks se sp ke kq vo nd wn wt wx wb dn tp tn ts hT hS8 hse ((T * 8 - k - 1) / 8) ((T * 8 - k - 1) % 8) (by omega) (Nat.not_le.mp (fun q => c_34 (nI_le q (by omega))))) (cwV 2 hts gX4_wrong_X4_isWrong rfl rfl rfl (by decide +kernel) ⟨Nat.le_of_ble_eq_true rfl, Nat.le_of_ble_eq_true rfl⟩) ⟨pu_blind, va_recv hK hPc (ci := 5) (q0 := 0) rfl rfl, pu_pre hK hPc⟩ rfl rfl hl.1 rfl (lv_room (Nat.le_of_ble_eq_true rfl)) dX4_wrong_48 ⟨Nat.le_of_ble_eq_true rfl, Nat.le_of_ble_eq_true rfl⟩) ?_
        refine lv_if_ne (tgt := 57) hx hb dX4_wrong_51 (by decide) (fun c_51 => ?_) (fun c_51 => ?_)
        · skip
          refine lv_iinc (v := nI (cnt (fun j => (gW (iwM bs sm se) S) (T * 8 - j - 1)) (k + 1))) (lv' := [(2, .int (nI (cnt (fun j => (gW (iwM bs sm se) S) (T * 8 - j - 1)) (k + 1)))), (4, .int (nI (T * 8 - k - 1))), (3, .int (fsF (gW (iwM bs sm se) S) (T * 8) k)), (0, .ref ((ad 0))), (1, .int (nI 0))]) hx hb dX4_wrong_57 hl (k := 2) rfl (by rw [cnt_t (f := (fun j => (gW (iwM bs sm se) S) (T * 8 - j - 1))) (gW_3 (Nat.not_le.mp (fun q => c_34 (nI_le q (by omega)))) (bI_ne c_51))]; exact nI_1 _) (by decide) rfl (fun ls hl => ?_)
          refine lv_iload hx hb dX4_wrong_60 (lv_at hl 1 rfl) ?_
          refine tp_i (y := fsF (gW (iwM bs sm se) S) (T * 8) (k + 1)) ((fsF_t (gW_3 (Nat.not_le.mp (fun q => c_34 (nI_le q (by omega)))) (bI_ne c_51))).symm) ?_
          refine lv_istore_n (lv' := [(3, .int (fsF (gW (iwM bs sm se) S) (T * 8) (k + 1))), (2, .int (nI (cnt (fun j => (gW (iwM bs sm se) S) (T * 8 - j - 1)) (k + 1)))), (4, .int (nI (T * 8 - k - 1))), (0, .ref ((ad 0))), (1, .int (nI 0))]) hx hb dX4_wrong_62 rfl hl (by decide) rfl (fun ls hl => ?_)
          refine lv_iinc (v := (nI (T * 8 - (k + 1)) - nI 1)) (lv' := [(4, .int ((nI (T * 8 - (k + 1)) - nI 1))), (3, .int (fsF (gW (iwM bs sm se) S) (T * 8) (k + 1))), (2, .int (nI (cnt (fun j => (gW (iwM bs sm se) S) (T * 8 - j - 1)) (k + 1)))), (0, .ref ((ad 0))), (1, .int (nI 0))]) hx hb dX4_wrong_63 hl (k := 2) rfl (by rw [show T * 8 - (k + 1) = (T * 8 - k - 1) by omega]; exact nI_dec _) (by decide) rfl (fun ls hl => ?_)
          refine lv_goto (tgt := 20) hx hb dX4_wrong_66 (by decide) ?_
          exact ihk ls H locs ⟨lv_sub hl [0, 1, 2, 3, 4] rfl, hP, hD, hS⟩
        · skip
          rw [show cnt (fun j => (gW (iwM bs sm se) S) (T * 8 - j - 1)) k = cnt (fun j => (gW (iwM bs sm se) S) (T * 8 - j - 1)) (k + 1) from (cnt_f (f := (fun j => (gW (iwM bs sm se) S) (T * 8 - j - 1))) (gW_2 (bI_eq c_51))).symm, show fsF (gW (iwM bs sm se) S) (T * 8) k = fsF (gW (iwM bs sm se) S) (T * 8) (k + 1) from (fsF_f (gW_2 (bI_eq c_51))).symm] at hl
          refine lv_goto (tgt := 63) hx hb dX4_wrong_54 (by decide) ?_
          refine lv_iinc (v := (nI (T * 8 - (k + 1)) - nI 1)) (lv' := [(4, .int ((nI (T * 8 - (k + 1)) - nI 1))), (3, .int (fsF (gW (iwM bs sm se) S) (T * 8) (k + 1))), (2, .int (nI (cnt (fun j => (gW (iwM bs sm se) S) (T * 8 - j - 1)) (k + 1)))), (0, .ref ((ad 0))), (1, .int (nI 0))]) hx hb dX4_wrong_63 hl (k := 0) rfl (by rw [show T * 8 - (k + 1) = (T * 8 - k - 1) by omega]; exact nI_dec _) (by decide) rfl (fun ls hl => ?_)
          refine lv_goto (tgt := 20) hx hb dX4_wrong_66 (by decide) ?_
          exact ihk ls H locs ⟨lv_sub hl [0, 1, 2, 3, 4] rfl, hP, hD, hS⟩
  · skip
    clear hl hP hD hS
    obtain ⟨hl, hP, hD, hS⟩ := hI
    rw [show nI (T * 8 - T * 8) - nI 1 = -1 from by rw [Nat.sub_self]; rfl] at hl
    refine lv_iload hx hb dX4_wrong_20 (lv_at hl 0 rfl) ?_
    refine lv_if_lt (tgt := 69) hx hb dX4_wrong_22 (by decide) (fun c_22 => ?_) (fun c_22 => ?_)
    · skip
      refine lv_iload_n hx hb dX4_wrong_69 rfl (lv_at hl 4 rfl) ?_
      refine lv_if_ne (tgt := 75) hx hb dX4_wrong_70 (by decide) (fun c_70 => ?_) (fun c_70 => ?_)
      · exact absurd (by decide) c_70
      · skip
        refine lv_iload_n hx hb dX4_wrong_73 rfl (lv_at hl 2 rfl) ?_
        have hP9 : va_P D vwCl (moW κ T S ad (nI 0) bs kp sm ks se sp ke kq vo nd wn wt wx wb dn tp tn ts) H := hP
        have hD9 : va_D A (moW κ T S ad (nI 0) bs kp sm ks se sp ke kq vo nd wn wt wx wb dn tp tn ts) := hD
        exact W.iret hx hb hr (fun t ht _ => ⟨⟨rfl, by rw [ht]; exact hP9, hD9⟩, hS.F ht⟩) hS.2.2 dX4_wrong_74 hlocks
    · exact absurd (by decide) c_22

set_option maxHeartbeats 4000000 in
set_option maxRecDepth 100000 in
/-- wrong: none is -/
theorem m_wrong_z (l : Launch) (D : va_G) (κ : Nat → ClassId) (sz : Nat) (T S : Nat) (ad : Nat → Nat) (co : Int32) (bs kp sm ks se sp ke kq vo : Nat → Int32) (nd wn : Int32) (wt wx wb : Nat → Int32) (dn : Int32) (tp : Nat → Int32) (tn ts : Int32) (hT : T ≤ 12) (hS8 : S ≤ 8) (hse : ∀ t, t < T → se t = -1 ∨ vp_in (se t) 14) (x : Int32) (h0 : ¬ x = 0) (hz : (cnt (fun j => (gW (iwM bs sm se) S) (T * 8 - j - 1)) (T * 8)) = 0) : Met l yX4_wrong wsX4_wrong ({ frames := 2, cells := 0, slots := 0, locals := 47 }) (va_Pc [.ref ((ad 0)), .int x] (mu_B D κ (moW κ T S ad co bs kp sm ks se sp ke kq vo nd wn wt wx wb dn tp tn ts) sz)) (mu_Q D (some (.int ((-1)))) (moW κ T S ad (nI 0) bs kp sm ks se sp ke kq vo nd wn wt wx wb dn tp tn ts) (va_A (moW κ T S ad co bs kp sm ks se sp ke kq vo nd wn wt wx wb dn tp tn ts) sz)) 0 0 (va_A (moW κ T S ad co bs kp sm ks se sp ke kq vo nd wn wt wx wb dn tp tn ts) sz) := by
  refine Met.ofW (cc := cX4_wrong) (maxL := 5) (ret := (some .int)) (by decide) rfl ?_
  intro p e s m args below meth c s₁ B hml hv
  obtain ⟨rfl, hsz, hP, hK, hD0⟩ := hv
  have hx := B.exec
  have hb := B.bytes
  have hr := B.returns
  have hts := atoms_spec (ws := wsX4_wrong) B.pre
  have hown : s.vm.findClass RX4 = some m.cls := findClass_of_methodNamed B.named
  have hlocks := B.notSynchronized
  subst hsz
  have hD := hD0.self (sz := s.heap.size)
  generalize hAe : va_A (moW κ T S ad co bs kp sm ks se sp ke kq vo nd wn wt wx wb dn tp tn ts) s.heap.size = A at hD ⊢
  have hA : ∀ q : Nat, s.heap.size ≤ q → A q := fun q h => by rw [← hAe]; exact Or.inr h
  refine W.gen (P := fun H locs => va_P D vwCl (moW κ T S ad co bs kp sm ks se sp ke kq vo nd wn wt wx wb dn tp tn ts) H ∧ va_S A s.heap H locs) (fun H locs h => ?_) ⟨hP, va_S.rf⟩
  clear hP
  obtain ⟨hP, hS⟩ := h
  have hl := lv_entry ([.ref ((ad 0)), .int x]) (n := 5) (Nat.le_of_ble_eq_true rfl)
  rw [lg_entry_eq]
  generalize (lg_sl ([.ref ((ad 0)), .int x]) ++ List.replicate (5 - (lg_sl ([.ref ((ad 0)), .int x])).length) Slot.unset).toArray = ls at hl ⊢
  have hl : lv_has ls 5 [(0, .ref ((ad 0))), (1, .int x)] := hl
  refine lv_aload_n hx hb dX4_wrong_0 rfl (lv_at hl 0 rfl) ?_
  refine lv_iconst (v := nI 0) hx hb dX4_wrong_1 (by decide) ?_
  refine va_put (D := D) (ci := 5) (v := .int (nI 0)) (ty := .int) (C := RX4) (T := TX4) (N := 21) hx hb hts (by decide +kernel) tyX4 tyX4_ok nmX4 hown hK hP hD hS 0 rfl rfl 0 (by decide) (hts (.fieldLink RX4 61 "TrackDiskModel" "code" "I") (by decide +kernel)) (fun _ h9 => h9) rfl (by decide +kernel) rfl rfl (Nat.le_of_ble_eq_true rfl) dX4_wrong_2 (fun H locs hP hD hS => ?_)
  have hP : va_P D vwCl (moW κ T S ad (nI 0) bs kp sm ks se sp ke kq vo nd wn wt wx wb dn tp tn ts) H := hP
  have hD : va_D A (moW κ T S ad (nI 0) bs kp sm ks se sp ke kq vo nd wn wt wx wb dn tp tn ts) := hD
  refine lv_iconst (v := nI 0) hx hb dX4_wrong_5 (by decide) ?_
  refine lv_istore_n (lv' := [(2, .int (nI 0)), (0, .ref ((ad 0))), (1, .int x)]) hx hb dX4_wrong_6 rfl hl (by decide) rfl (fun ls hl => ?_)
  refine lv_iconst (v := (-1)) hx hb dX4_wrong_7 (by decide) ?_
  refine lv_istore_n (lv' := [(3, .int ((-1))), (2, .int (nI 0)), (0, .ref ((ad 0))), (1, .int x)]) hx hb dX4_wrong_8 rfl hl (by decide) rfl (fun ls hl => ?_)
  refine lv_aload_n hx hb dX4_wrong_9 rfl (lv_at hl 2 rfl) ?_
  refine va_get (D := D) (ci := 5) (v := .int (nI T)) (C := RX4) (T := TX4) (N := 21) hx hb hts (by decide +kernel) hown hK hP 0 rfl rfl 1 (by decide) (hts (.fieldLink RX4 50 "TrackDiskModel" "tracks" "I") (by decide +kernel)) (fun _ h9 => h9) rfl dX4_wrong_10 ?_
  refine lv_bipush (v := nI 8) hx hb dX4_wrong_13 (by decide) ?_
  refine lv_imul hx hb dX4_wrong_15 ?_
  refine tp_i (y := nI (T * 8)) (by exact pk_mul _ _) ?_
  refine lv_iconst (v := nI 1) hx hb dX4_wrong_16 (by decide) ?_
  refine lv_isub hx hb dX4_wrong_17 ?_
  refine lv_istore (lv' := [(4, .int (((nI (T * 8)) - (nI 1)))), (3, .int ((-1))), (2, .int (nI 0)), (0, .ref ((ad 0))), (1, .int x)]) hx hb dX4_wrong_18 hl (by decide) rfl (fun ls hl => ?_)
  refine W.loop (N := T * 8) (I := fun k ls H locs => lv_has ls 5 [(4, .int ((nI (T * 8 - k) - nI 1))), (3, .int (fsF (gW (iwM bs sm se) S) (T * 8) k)), (2, .int (nI (cnt (fun j => (gW (iwM bs sm se) S) (T * 8 - j - 1)) k))), (0, .ref ((ad 0))), (1, .int x)] ∧ va_P D vwCl (moW κ T S ad (nI 0) bs kp sm ks se sp ke kq vo nd wn wt wx wb dn tp tn ts) H ∧ va_D A (moW κ T S ad (nI 0) bs kp sm ks se sp ke kq vo nd wn wt wx wb dn tp tn ts) ∧ va_S A s.heap H locs) 0 (by omega) (fun k ls H locs hk hI ihk => ?_) (fun ls H locs hI => ?_) ⟨lv_sub hl [0, 1, 2, 3, 4] rfl, hP, hD, hS⟩
  · skip
    clear hl hP hD hS
    obtain ⟨hl, hP, hD, hS⟩ := hI
    rw [show nI (T * 8 - k) - nI 1 = nI (T * 8 - k - 1) from pk_sub (by omega)] at hl
    refine lv_iload hx hb dX4_wrong_20 (lv_at hl 0 rfl) ?_
    refine lv_if_lt (tgt := 69) hx hb dX4_wrong_22 (by decide) (fun c_22 => ?_) (fun c_22 => ?_)
    · exact absurd c_22 (nI_pos (by omega))
    · skip
      refine lv_iload hx hb dX4_wrong_25 (lv_at hl 0 rfl) ?_
      refine lv_bipush (v := nI 8) hx hb dX4_wrong_27 (by decide) ?_
      refine lv_irem hx hb dX4_wrong_29 (by decide) ?_
      refine tp_i (y := nI ((T * 8 - k - 1) % 8)) (by exact pk_rem (by omega) (by omega) (by omega)) ?_
      refine lv_aload_n hx hb dX4_wrong_30 rfl (lv_at hl 3 rfl) ?_
      refine va_get (D := D) (ci := 5) (v := .int (nI S)) (C := RX4) (T := TX4) (N := 21) hx hb hts (by decide +kernel) hown hK hP 0 rfl rfl 2 (by decide) (hts (.fieldLink RX4 54 "TrackDiskModel" "sectors" "I") (by decide +kernel)) (fun _ h9 => h9) rfl dX4_wrong_31 ?_
      refine lv_icmp_ge (tgt := 63) hx hb dX4_wrong_34 (by decide) (fun c_34 => ?_) (fun c_34 => ?_)
      · skip
        rw [show cnt (fun j => (gW (iwM bs sm se) S) (T * 8 - j - 1)) k = cnt (fun j => (gW (iwM bs sm se) S) (T * 8 - j - 1)) (k + 1) from (cnt_f (f := (fun j => (gW (iwM bs sm se) S) (T * 8 - j - 1))) (gW_1 (fun q => absurd c_34 (nI_ge q (by omega))))).symm, show fsF (gW (iwM bs sm se) S) (T * 8) k = fsF (gW (iwM bs sm se) S) (T * 8) (k + 1) from (fsF_f (gW_1 (fun q => absurd c_34 (nI_ge q (by omega))))).symm] at hl
        refine lv_iinc (v := (nI (T * 8 - (k + 1)) - nI 1)) (lv' := [(4, .int ((nI (T * 8 - (k + 1)) - nI 1))), (3, .int (fsF (gW (iwM bs sm se) S) (T * 8) (k + 1))), (2, .int (nI (cnt (fun j => (gW (iwM bs sm se) S) (T * 8 - j - 1)) (k + 1)))), (0, .ref ((ad 0))), (1, .int x)]) hx hb dX4_wrong_63 hl (k := 0) rfl (by rw [show T * 8 - (k + 1) = (T * 8 - k - 1) by omega]; exact nI_dec _) (by decide) rfl (fun ls hl => ?_)
        refine lv_goto (tgt := 20) hx hb dX4_wrong_66 (by decide) ?_
        exact ihk ls H locs ⟨lv_sub hl [0, 1, 2, 3, 4] rfl, hP, hD, hS⟩
      · skip
        refine lv_aload_n hx hb dX4_wrong_37 rfl (lv_at hl 3 rfl) ?_
        refine lv_iload hx hb dX4_wrong_38 (lv_at hl 0 rfl) ?_
        refine lv_bipush (v := nI 8) hx hb dX4_wrong_40 (by decide) ?_
        refine lv_idiv hx hb dX4_wrong_42 (by decide) ?_
        refine tp_i (y := nI ((T * 8 - k - 1) / 8)) (by exact pk_div (by omega) (by omega) (by omega)) ?_
        refine lv_iload hx hb dX4_wrong_43 (lv_at hl 0 rfl) ?_
        refine lv_bipush (v := nI 8) hx hb dX4_wrong_45 (by decide) ?_
        refine lv_irem hx hb dX4_wrong_47 (by decide) ?_
        refine tp_i (y := nI ((T * 8 - k - 1) % 8)) (by exact pk_rem (by omega) (by omega) (by omega)) ?_
        have hPc := hP.sub (ws' := moW κ T S ad (nI 0) bs kp sm ks se sp ke kq vo nd wn wt wx wb dn tp tn ts) [0, 1, 2, 3, 4, 5, 6, 7, 8, 9, 10, 11, 12, 13] rfl
        refine pu_call (va_runV (As := [.int (nI ((T * 8 - k - 1) / 8)), .int (nI ((T * 8 - k - 1) % 8))]) (rest := []) ⟨hx, hb, hml, hown, hts⟩ (m_isWrong l D κ T S ad (nI 0) bs kp sm ks se sp ke kq vo nd wn wt wx wb dn tp tn ts hT hS8 hse ((T * 8 - k - 1) / 8) ((T * 8 - k - 1) % 8) (by omega) (Nat.not_le.mp (fun q => c_34 (nI_le q (by omega))))) (cwV 2 hts gX4_wrong_X4_isWrong rfl rfl rfl (by decide +kernel) ⟨Nat.le_of_ble_eq_true rfl, Nat.le_of_ble_eq_true rfl⟩) ⟨pu_blind, va_recv hK hPc (ci := 5) (q0 := 0) rfl rfl, pu_pre hK hPc⟩ rfl rfl hl.1 rfl (lv_room (Nat.le_of_ble_eq_true rfl)) dX4_wrong_48 ⟨Nat.le_of_ble_eq_true rfl, Nat.le_of_ble_eq_true rfl⟩) ?_
        refine lv_if_ne (tgt := 57) hx hb dX4_wrong_51 (by decide) (fun c_51 => ?_) (fun c_51 => ?_)
        · skip
          refine lv_iinc (v := nI (cnt (fun j => (gW (iwM bs sm se) S) (T * 8 - j - 1)) (k + 1))) (lv' := [(2, .int (nI (cnt (fun j => (gW (iwM bs sm se) S) (T * 8 - j - 1)) (k + 1)))), (4, .int (nI (T * 8 - k - 1))), (3, .int (fsF (gW (iwM bs sm se) S) (T * 8) k)), (0, .ref ((ad 0))), (1, .int x)]) hx hb dX4_wrong_57 hl (k := 2) rfl (by rw [cnt_t (f := (fun j => (gW (iwM bs sm se) S) (T * 8 - j - 1))) (gW_3 (Nat.not_le.mp (fun q => c_34 (nI_le q (by omega)))) (bI_ne c_51))]; exact nI_1 _) (by decide) rfl (fun ls hl => ?_)
          refine lv_iload hx hb dX4_wrong_60 (lv_at hl 1 rfl) ?_
          refine tp_i (y := fsF (gW (iwM bs sm se) S) (T * 8) (k + 1)) ((fsF_t (gW_3 (Nat.not_le.mp (fun q => c_34 (nI_le q (by omega)))) (bI_ne c_51))).symm) ?_
          refine lv_istore_n (lv' := [(3, .int (fsF (gW (iwM bs sm se) S) (T * 8) (k + 1))), (2, .int (nI (cnt (fun j => (gW (iwM bs sm se) S) (T * 8 - j - 1)) (k + 1)))), (4, .int (nI (T * 8 - k - 1))), (0, .ref ((ad 0))), (1, .int x)]) hx hb dX4_wrong_62 rfl hl (by decide) rfl (fun ls hl => ?_)
          refine lv_iinc (v := (nI (T * 8 - (k + 1)) - nI 1)) (lv' := [(4, .int ((nI (T * 8 - (k + 1)) - nI 1))), (3, .int (fsF (gW (iwM bs sm se) S) (T * 8) (k + 1))), (2, .int (nI (cnt (fun j => (gW (iwM bs sm se) S) (T * 8 - j - 1)) (k + 1)))), (0, .ref ((ad 0))), (1, .int x)]) hx hb dX4_wrong_63 hl (k := 2) rfl (by rw [show T * 8 - (k + 1) = (T * 8 - k - 1) by omega]; exact nI_dec _) (by decide) rfl (fun ls hl => ?_)
          refine lv_goto (tgt := 20) hx hb dX4_wrong_66 (by decide) ?_
          exact ihk ls H locs ⟨lv_sub hl [0, 1, 2, 3, 4] rfl, hP, hD, hS⟩
        · skip
          rw [show cnt (fun j => (gW (iwM bs sm se) S) (T * 8 - j - 1)) k = cnt (fun j => (gW (iwM bs sm se) S) (T * 8 - j - 1)) (k + 1) from (cnt_f (f := (fun j => (gW (iwM bs sm se) S) (T * 8 - j - 1))) (gW_2 (bI_eq c_51))).symm, show fsF (gW (iwM bs sm se) S) (T * 8) k = fsF (gW (iwM bs sm se) S) (T * 8) (k + 1) from (fsF_f (gW_2 (bI_eq c_51))).symm] at hl
          refine lv_goto (tgt := 63) hx hb dX4_wrong_54 (by decide) ?_
          refine lv_iinc (v := (nI (T * 8 - (k + 1)) - nI 1)) (lv' := [(4, .int ((nI (T * 8 - (k + 1)) - nI 1))), (3, .int (fsF (gW (iwM bs sm se) S) (T * 8) (k + 1))), (2, .int (nI (cnt (fun j => (gW (iwM bs sm se) S) (T * 8 - j - 1)) (k + 1)))), (0, .ref ((ad 0))), (1, .int x)]) hx hb dX4_wrong_63 hl (k := 0) rfl (by rw [show T * 8 - (k + 1) = (T * 8 - k - 1) by omega]; exact nI_dec _) (by decide) rfl (fun ls hl => ?_)
          refine lv_goto (tgt := 20) hx hb dX4_wrong_66 (by decide) ?_
          exact ihk ls H locs ⟨lv_sub hl [0, 1, 2, 3, 4] rfl, hP, hD, hS⟩
  · skip
    clear hl hP hD hS
    obtain ⟨hl, hP, hD, hS⟩ := hI
    rw [show nI (T * 8 - T * 8) - nI 1 = -1 from by rw [Nat.sub_self]; rfl] at hl
    refine lv_iload hx hb dX4_wrong_20 (lv_at hl 0 rfl) ?_
    refine lv_if_lt (tgt := 69) hx hb dX4_wrong_22 (by decide) (fun c_22 => ?_) (fun c_22 => ?_)
    · skip
      refine lv_iload_n hx hb dX4_wrong_69 rfl (lv_at hl 4 rfl) ?_
      refine lv_if_ne (tgt := 75) hx hb dX4_wrong_70 (by decide) (fun c_70 => ?_) (fun c_70 => ?_)
      · skip
        refine lv_iload_n hx hb dX4_wrong_75 rfl (lv_at hl 2 rfl) ?_
        refine lv_if_eq (tgt := 89) hx hb dX4_wrong_76 (by decide) (fun c_76 => ?_) (fun c_76 => ?_)
        · skip
          refine lv_iconst (v := (-1)) hx hb dX4_wrong_89 (by decide) ?_
          have hP9 : va_P D vwCl (moW κ T S ad (nI 0) bs kp sm ks se sp ke kq vo nd wn wt wx wb dn tp tn ts) H := hP
          have hD9 : va_D A (moW κ T S ad (nI 0) bs kp sm ks se sp ke kq vo nd wn wt wx wb dn tp tn ts) := hD
          exact W.iret hx hb hr (fun t ht _ => ⟨⟨rfl, by rw [ht]; exact hP9, hD9⟩, hS.F ht⟩) hS.2.2 dX4_wrong_90 hlocks
        · exact absurd (by rw [hz]; rfl) c_76
      · exact absurd c_70 h0
    · exact absurd (by decide) c_22

set_option maxHeartbeats 4000000 in
set_option maxRecDepth 100000 in
/-- wrong of others, below -/
theorem m_wrong_lo (l : Launch) (D : va_G) (κ : Nat → ClassId) (sz : Nat) (T S : Nat) (ad : Nat → Nat) (co : Int32) (bs kp sm ks se sp ke kq vo : Nat → Int32) (nd wn : Int32) (wt wx wb : Nat → Int32) (dn : Int32) (tp : Nat → Int32) (tn ts : Int32) (hT : T ≤ 12) (hS8 : S ≤ 8) (hse : ∀ t, t < T → se t = -1 ∨ vp_in (se t) 14) (x : Int32) (h0 : ¬ x = 0) (hlo : x < nI 1) (hz : ¬ (cnt (fun j => (gW (iwM bs sm se) S) (T * 8 - j - 1)) (T * 8)) = 0) (hbig : (cnt (fun j => (gW (iwM bs sm se) S) (T * 8 - j - 1)) (T * 8)) < 2 ^ 31)  : Met l yX4_wrong wsX4_wrong ({ frames := 2, cells := 0, slots := 0, locals := 47 }) (va_Pc [.ref ((ad 0)), .int x] (mu_B D κ (moW κ T S ad co bs kp sm ks se sp ke kq vo nd wn wt wx wb dn tp tn ts) sz)) (mu_Q D (some (.int ((-1)))) (moW κ T S ad (nI 0) bs kp sm ks se sp ke kq vo nd wn wt wx wb dn tp tn ts) (va_A (moW κ T S ad co bs kp sm ks se sp ke kq vo nd wn wt wx wb dn tp tn ts) sz)) 0 0 (va_A (moW κ T S ad co bs kp sm ks se sp ke kq vo nd wn wt wx wb dn tp tn ts) sz) := by
  refine Met.ofW (cc := cX4_wrong) (maxL := 5) (ret := (some .int)) (by decide) rfl ?_
  intro p e s m args below meth c s₁ B hml hv
  obtain ⟨rfl, hsz, hP, hK, hD0⟩ := hv
  have hx := B.exec
  have hb := B.bytes
  have hr := B.returns
  have hts := atoms_spec (ws := wsX4_wrong) B.pre
  have hown : s.vm.findClass RX4 = some m.cls := findClass_of_methodNamed B.named
  have hlocks := B.notSynchronized
  subst hsz
  have hD := hD0.self (sz := s.heap.size)
  generalize hAe : va_A (moW κ T S ad co bs kp sm ks se sp ke kq vo nd wn wt wx wb dn tp tn ts) s.heap.size = A at hD ⊢
  have hA : ∀ q : Nat, s.heap.size ≤ q → A q := fun q h => by rw [← hAe]; exact Or.inr h
  refine W.gen (P := fun H locs => va_P D vwCl (moW κ T S ad co bs kp sm ks se sp ke kq vo nd wn wt wx wb dn tp tn ts) H ∧ va_S A s.heap H locs) (fun H locs h => ?_) ⟨hP, va_S.rf⟩
  clear hP
  obtain ⟨hP, hS⟩ := h
  have hl := lv_entry ([.ref ((ad 0)), .int x]) (n := 5) (Nat.le_of_ble_eq_true rfl)
  rw [lg_entry_eq]
  generalize (lg_sl ([.ref ((ad 0)), .int x]) ++ List.replicate (5 - (lg_sl ([.ref ((ad 0)), .int x])).length) Slot.unset).toArray = ls at hl ⊢
  have hl : lv_has ls 5 [(0, .ref ((ad 0))), (1, .int x)] := hl
  refine lv_aload_n hx hb dX4_wrong_0 rfl (lv_at hl 0 rfl) ?_
  refine lv_iconst (v := nI 0) hx hb dX4_wrong_1 (by decide) ?_
  refine va_put (D := D) (ci := 5) (v := .int (nI 0)) (ty := .int) (C := RX4) (T := TX4) (N := 21) hx hb hts (by decide +kernel) tyX4 tyX4_ok nmX4 hown hK hP hD hS 0 rfl rfl 0 (by decide) (hts (.fieldLink RX4 61 "TrackDiskModel" "code" "I") (by decide +kernel)) (fun _ h9 => h9) rfl (by decide +kernel) rfl rfl (Nat.le_of_ble_eq_true rfl) dX4_wrong_2 (fun H locs hP hD hS => ?_)
  have hP : va_P D vwCl (moW κ T S ad (nI 0) bs kp sm ks se sp ke kq vo nd wn wt wx wb dn tp tn ts) H := hP
  have hD : va_D A (moW κ T S ad (nI 0) bs kp sm ks se sp ke kq vo nd wn wt wx wb dn tp tn ts) := hD
  refine lv_iconst (v := nI 0) hx hb dX4_wrong_5 (by decide) ?_
  refine lv_istore_n (lv' := [(2, .int (nI 0)), (0, .ref ((ad 0))), (1, .int x)]) hx hb dX4_wrong_6 rfl hl (by decide) rfl (fun ls hl => ?_)
  refine lv_iconst (v := (-1)) hx hb dX4_wrong_7 (by decide) ?_
  refine lv_istore_n (lv' := [(3, .int ((-1))), (2, .int (nI 0)), (0, .ref ((ad 0))), (1, .int x)]) hx hb dX4_wrong_8 rfl hl (by decide) rfl (fun ls hl => ?_)
  refine lv_aload_n hx hb dX4_wrong_9 rfl (lv_at hl 2 rfl) ?_
  refine va_get (D := D) (ci := 5) (v := .int (nI T)) (C := RX4) (T := TX4) (N := 21) hx hb hts (by decide +kernel) hown hK hP 0 rfl rfl 1 (by decide) (hts (.fieldLink RX4 50 "TrackDiskModel" "tracks" "I") (by decide +kernel)) (fun _ h9 => h9) rfl dX4_wrong_10 ?_
  refine lv_bipush (v := nI 8) hx hb dX4_wrong_13 (by decide) ?_
  refine lv_imul hx hb dX4_wrong_15 ?_
  refine tp_i (y := nI (T * 8)) (by exact pk_mul _ _) ?_
  refine lv_iconst (v := nI 1) hx hb dX4_wrong_16 (by decide) ?_
  refine lv_isub hx hb dX4_wrong_17 ?_
  refine lv_istore (lv' := [(4, .int (((nI (T * 8)) - (nI 1)))), (3, .int ((-1))), (2, .int (nI 0)), (0, .ref ((ad 0))), (1, .int x)]) hx hb dX4_wrong_18 hl (by decide) rfl (fun ls hl => ?_)
  refine W.loop (N := T * 8) (I := fun k ls H locs => lv_has ls 5 [(4, .int ((nI (T * 8 - k) - nI 1))), (3, .int (fsF (gW (iwM bs sm se) S) (T * 8) k)), (2, .int (nI (cnt (fun j => (gW (iwM bs sm se) S) (T * 8 - j - 1)) k))), (0, .ref ((ad 0))), (1, .int x)] ∧ va_P D vwCl (moW κ T S ad (nI 0) bs kp sm ks se sp ke kq vo nd wn wt wx wb dn tp tn ts) H ∧ va_D A (moW κ T S ad (nI 0) bs kp sm ks se sp ke kq vo nd wn wt wx wb dn tp tn ts) ∧ va_S A s.heap H locs) 0 (by omega) (fun k ls H locs hk hI ihk => ?_) (fun ls H locs hI => ?_) ⟨lv_sub hl [0, 1, 2, 3, 4] rfl, hP, hD, hS⟩
  · skip
    clear hl hP hD hS
    obtain ⟨hl, hP, hD, hS⟩ := hI
    rw [show nI (T * 8 - k) - nI 1 = nI (T * 8 - k - 1) from pk_sub (by omega)] at hl
    refine lv_iload hx hb dX4_wrong_20 (lv_at hl 0 rfl) ?_
    refine lv_if_lt (tgt := 69) hx hb dX4_wrong_22 (by decide) (fun c_22 => ?_) (fun c_22 => ?_)
    · exact absurd c_22 (nI_pos (by omega))
    · skip
      refine lv_iload hx hb dX4_wrong_25 (lv_at hl 0 rfl) ?_
      refine lv_bipush (v := nI 8) hx hb dX4_wrong_27 (by decide) ?_
      refine lv_irem hx hb dX4_wrong_29 (by decide) ?_
      refine tp_i (y := nI ((T * 8 - k - 1) % 8)) (by exact pk_rem (by omega) (by omega) (by omega)) ?_
      refine lv_aload_n hx hb dX4_wrong_30 rfl (lv_at hl 3 rfl) ?_
      refine va_get (D := D) (ci := 5) (v := .int (nI S)) (C := RX4) (T := TX4) (N := 21) hx hb hts (by decide +kernel) hown hK hP 0 rfl rfl 2 (by decide) (hts (.fieldLink RX4 54 "TrackDiskModel" "sectors" "I") (by decide +kernel)) (fun _ h9 => h9) rfl dX4_wrong_31 ?_
      refine lv_icmp_ge (tgt := 63) hx hb dX4_wrong_34 (by decide) (fun c_34 => ?_) (fun c_34 => ?_)
      · skip
        rw [show cnt (fun j => (gW (iwM bs sm se) S) (T * 8 - j - 1)) k = cnt (fun j => (gW (iwM bs sm se) S) (T * 8 - j - 1)) (k + 1) from (cnt_f (f := (fun j => (gW (iwM bs sm se) S) (T * 8 - j - 1))) (gW_1 (fun q => absurd c_34 (nI_ge q (by omega))))).symm, show fsF (gW (iwM bs sm se) S) (T * 8) k = fsF (gW (iwM bs sm se) S) (T * 8) (k + 1) from (fsF_f (gW_1 (fun q => absurd c_34 (nI_ge q (by omega))))).symm] at hl
        refine lv_iinc (v := (nI (T * 8 - (k + 1)) - nI 1)) (lv' := [(4, .int ((nI (T * 8 - (k + 1)) - nI 1))), (3, .int (fsF (gW (iwM bs sm se) S) (T * 8) (k + 1))), (2, .int (nI (cnt (fun j => (gW (iwM bs sm se) S) (T * 8 - j - 1)) (k + 1)))), (0, .ref ((ad 0))), (1, .int x)]) hx hb dX4_wrong_63 hl (k := 0) rfl (by rw [show T * 8 - (k + 1) = (T * 8 - k - 1) by omega]; exact nI_dec _) (by decide) rfl (fun ls hl => ?_)
        refine lv_goto (tgt := 20) hx hb dX4_wrong_66 (by decide) ?_
        exact ihk ls H locs ⟨lv_sub hl [0, 1, 2, 3, 4] rfl, hP, hD, hS⟩
      · skip
        refine lv_aload_n hx hb dX4_wrong_37 rfl (lv_at hl 3 rfl) ?_
        refine lv_iload hx hb dX4_wrong_38 (lv_at hl 0 rfl) ?_
        refine lv_bipush (v := nI 8) hx hb dX4_wrong_40 (by decide) ?_
        refine lv_idiv hx hb dX4_wrong_42 (by decide) ?_
        refine tp_i (y := nI ((T * 8 - k - 1) / 8)) (by exact pk_div (by omega) (by omega) (by omega)) ?_
        refine lv_iload hx hb dX4_wrong_43 (lv_at hl 0 rfl) ?_
        refine lv_bipush (v := nI 8) hx hb dX4_wrong_45 (by decide) ?_
        refine lv_irem hx hb dX4_wrong_47 (by decide) ?_
        refine tp_i (y := nI ((T * 8 - k - 1) % 8)) (by exact pk_rem (by omega) (by omega) (by omega)) ?_
        have hPc := hP.sub (ws' := moW κ T S ad (nI 0) bs kp sm ks se sp ke kq vo nd wn wt wx wb dn tp tn ts) [0, 1, 2, 3, 4, 5, 6, 7, 8, 9, 10, 11, 12, 13] rfl
        refine pu_call (va_runV (As := [.int (nI ((T * 8 - k - 1) / 8)), .int (nI ((T * 8 - k - 1) % 8))]) (rest := []) ⟨hx, hb, hml, hown, hts⟩ (m_isWrong l D κ T S ad (nI 0) bs kp sm ks se sp ke kq vo nd wn wt wx wb dn tp tn ts hT hS8 hse ((T * 8 - k - 1) / 8) ((T * 8 - k - 1) % 8) (by omega) (Nat.not_le.mp (fun q => c_34 (nI_le q (by omega))))) (cwV 2 hts gX4_wrong_X4_isWrong rfl rfl rfl (by decide +kernel) ⟨Nat.le_of_ble_eq_true rfl, Nat.le_of_ble_eq_true rfl⟩) ⟨pu_blind, va_recv hK hPc (ci := 5) (q0 := 0) rfl rfl, pu_pre hK hPc⟩ rfl rfl hl.1 rfl (lv_room (Nat.le_of_ble_eq_true rfl)) dX4_wrong_48 ⟨Nat.le_of_ble_eq_true rfl, Nat.le_of_ble_eq_true rfl⟩) ?_
        refine lv_if_ne (tgt := 57) hx hb dX4_wrong_51 (by decide) (fun c_51 => ?_) (fun c_51 => ?_)
        · skip
          refine lv_iinc (v := nI (cnt (fun j => (gW (iwM bs sm se) S) (T * 8 - j - 1)) (k + 1))) (lv' := [(2, .int (nI (cnt (fun j => (gW (iwM bs sm se) S) (T * 8 - j - 1)) (k + 1)))), (4, .int (nI (T * 8 - k - 1))), (3, .int (fsF (gW (iwM bs sm se) S) (T * 8) k)), (0, .ref ((ad 0))), (1, .int x)]) hx hb dX4_wrong_57 hl (k := 2) rfl (by rw [cnt_t (f := (fun j => (gW (iwM bs sm se) S) (T * 8 - j - 1))) (gW_3 (Nat.not_le.mp (fun q => c_34 (nI_le q (by omega)))) (bI_ne c_51))]; exact nI_1 _) (by decide) rfl (fun ls hl => ?_)
          refine lv_iload hx hb dX4_wrong_60 (lv_at hl 1 rfl) ?_
          refine tp_i (y := fsF (gW (iwM bs sm se) S) (T * 8) (k + 1)) ((fsF_t (gW_3 (Nat.not_le.mp (fun q => c_34 (nI_le q (by omega)))) (bI_ne c_51))).symm) ?_
          refine lv_istore_n (lv' := [(3, .int (fsF (gW (iwM bs sm se) S) (T * 8) (k + 1))), (2, .int (nI (cnt (fun j => (gW (iwM bs sm se) S) (T * 8 - j - 1)) (k + 1)))), (4, .int (nI (T * 8 - k - 1))), (0, .ref ((ad 0))), (1, .int x)]) hx hb dX4_wrong_62 rfl hl (by decide) rfl (fun ls hl => ?_)
          refine lv_iinc (v := (nI (T * 8 - (k + 1)) - nI 1)) (lv' := [(4, .int ((nI (T * 8 - (k + 1)) - nI 1))), (3, .int (fsF (gW (iwM bs sm se) S) (T * 8) (k + 1))), (2, .int (nI (cnt (fun j => (gW (iwM bs sm se) S) (T * 8 - j - 1)) (k + 1)))), (0, .ref ((ad 0))), (1, .int x)]) hx hb dX4_wrong_63 hl (k := 2) rfl (by rw [show T * 8 - (k + 1) = (T * 8 - k - 1) by omega]; exact nI_dec _) (by decide) rfl (fun ls hl => ?_)
          refine lv_goto (tgt := 20) hx hb dX4_wrong_66 (by decide) ?_
          exact ihk ls H locs ⟨lv_sub hl [0, 1, 2, 3, 4] rfl, hP, hD, hS⟩
        · skip
          rw [show cnt (fun j => (gW (iwM bs sm se) S) (T * 8 - j - 1)) k = cnt (fun j => (gW (iwM bs sm se) S) (T * 8 - j - 1)) (k + 1) from (cnt_f (f := (fun j => (gW (iwM bs sm se) S) (T * 8 - j - 1))) (gW_2 (bI_eq c_51))).symm, show fsF (gW (iwM bs sm se) S) (T * 8) k = fsF (gW (iwM bs sm se) S) (T * 8) (k + 1) from (fsF_f (gW_2 (bI_eq c_51))).symm] at hl
          refine lv_goto (tgt := 63) hx hb dX4_wrong_54 (by decide) ?_
          refine lv_iinc (v := (nI (T * 8 - (k + 1)) - nI 1)) (lv' := [(4, .int ((nI (T * 8 - (k + 1)) - nI 1))), (3, .int (fsF (gW (iwM bs sm se) S) (T * 8) (k + 1))), (2, .int (nI (cnt (fun j => (gW (iwM bs sm se) S) (T * 8 - j - 1)) (k + 1)))), (0, .ref ((ad 0))), (1, .int x)]) hx hb dX4_wrong_63 hl (k := 0) rfl (by rw [show T * 8 - (k + 1) = (T * 8 - k - 1) by omega]; exact nI_dec _) (by decide) rfl (fun ls hl => ?_)
          refine lv_goto (tgt := 20) hx hb dX4_wrong_66 (by decide) ?_
          exact ihk ls H locs ⟨lv_sub hl [0, 1, 2, 3, 4] rfl, hP, hD, hS⟩
  · skip
    clear hl hP hD hS
    obtain ⟨hl, hP, hD, hS⟩ := hI
    rw [show nI (T * 8 - T * 8) - nI 1 = -1 from by rw [Nat.sub_self]; rfl] at hl
    refine lv_iload hx hb dX4_wrong_20 (lv_at hl 0 rfl) ?_
    refine lv_if_lt (tgt := 69) hx hb dX4_wrong_22 (by decide) (fun c_22 => ?_) (fun c_22 => ?_)
    · skip
      refine lv_iload_n hx hb dX4_wrong_69 rfl (lv_at hl 4 rfl) ?_
      refine lv_if_ne (tgt := 75) hx hb dX4_wrong_70 (by decide) (fun c_70 => ?_) (fun c_70 => ?_)
      · skip
        refine lv_iload_n hx hb dX4_wrong_75 rfl (lv_at hl 2 rfl) ?_
        refine lv_if_eq (tgt := 89) hx hb dX4_wrong_76 (by decide) (fun c_76 => ?_) (fun c_76 => ?_)
        · exact absurd c_76 (nI_ne0 (Nat.pos_of_ne_zero hz) hbig)
        · skip
          refine lv_iload_n hx hb dX4_wrong_79 rfl (lv_at hl 4 rfl) ?_
          refine lv_iconst (v := nI 1) hx hb dX4_wrong_80 (by decide) ?_
          refine lv_icmp_lt (tgt := 89) hx hb dX4_wrong_81 (by decide) (fun c_81 => ?_) (fun c_81 => ?_)
          · skip
            refine lv_iconst (v := (-1)) hx hb dX4_wrong_89 (by decide) ?_
            have hP9 : va_P D vwCl (moW κ T S ad (nI 0) bs kp sm ks se sp ke kq vo nd wn wt wx wb dn tp tn ts) H := hP
            have hD9 : va_D A (moW κ T S ad (nI 0) bs kp sm ks se sp ke kq vo nd wn wt wx wb dn tp tn ts) := hD
            exact W.iret hx hb hr (fun t ht _ => ⟨⟨rfl, by rw [ht]; exact hP9, hD9⟩, hS.F ht⟩) hS.2.2 dX4_wrong_90 hlocks
          · exact absurd hlo c_81
      · exact absurd c_70 h0
    · exact absurd (by decide) c_22

set_option maxHeartbeats 4000000 in
set_option maxRecDepth 100000 in
/-- wrong of others, above -/
theorem m_wrong_hi (l : Launch) (D : va_G) (κ : Nat → ClassId) (sz : Nat) (T S : Nat) (ad : Nat → Nat) (co : Int32) (bs kp sm ks se sp ke kq vo : Nat → Int32) (nd wn : Int32) (wt wx wb : Nat → Int32) (dn : Int32) (tp : Nat → Int32) (tn ts : Int32) (hT : T ≤ 12) (hS8 : S ≤ 8) (hse : ∀ t, t < T → se t = -1 ∨ vp_in (se t) 14) (x : Int32) (h0 : ¬ x = 0) (hlo : ¬ x < nI 1) (hhi : ¬ x ≤ nI 2) (hz : ¬ (cnt (fun j => (gW (iwM bs sm se) S) (T * 8 - j - 1)) (T * 8)) = 0) (hbig : (cnt (fun j => (gW (iwM bs sm se) S) (T * 8 - j - 1)) (T * 8)) < 2 ^ 31)  : Met l yX4_wrong wsX4_wrong ({ frames := 2, cells := 0, slots := 0, locals := 47 }) (va_Pc [.ref ((ad 0)), .int x] (mu_B D κ (moW κ T S ad co bs kp sm ks se sp ke kq vo nd wn wt wx wb dn tp tn ts) sz)) (mu_Q D (some (.int ((-1)))) (moW κ T S ad (nI 0) bs kp sm ks se sp ke kq vo nd wn wt wx wb dn tp tn ts) (va_A (moW κ T S ad co bs kp sm ks se sp ke kq vo nd wn wt wx wb dn tp tn ts) sz)) 0 0 (va_A (moW κ T S ad co bs kp sm ks se sp ke kq vo nd wn wt wx wb dn tp tn ts) sz) := by
  refine Met.ofW (cc := cX4_wrong) (maxL := 5) (ret := (some .int)) (by decide) rfl ?_
  intro p e s m args below meth c s₁ B hml hv
  obtain ⟨rfl, hsz, hP, hK, hD0⟩ := hv
  have hx := B.exec
  have hb := B.bytes
  have hr := B.returns
  have hts := atoms_spec (ws := wsX4_wrong) B.pre
  have hown : s.vm.findClass RX4 = some m.cls := findClass_of_methodNamed B.named
  have hlocks := B.notSynchronized
  subst hsz
  have hD := hD0.self (sz := s.heap.size)
  generalize hAe : va_A (moW κ T S ad co bs kp sm ks se sp ke kq vo nd wn wt wx wb dn tp tn ts) s.heap.size = A at hD ⊢
  have hA : ∀ q : Nat, s.heap.size ≤ q → A q := fun q h => by rw [← hAe]; exact Or.inr h
  refine W.gen (P := fun H locs => va_P D vwCl (moW κ T S ad co bs kp sm ks se sp ke kq vo nd wn wt wx wb dn tp tn ts) H ∧ va_S A s.heap H locs) (fun H locs h => ?_) ⟨hP, va_S.rf⟩
  clear hP
  obtain ⟨hP, hS⟩ := h
  have hl := lv_entry ([.ref ((ad 0)), .int x]) (n := 5) (Nat.le_of_ble_eq_true rfl)
  rw [lg_entry_eq]
  generalize (lg_sl ([.ref ((ad 0)), .int x]) ++ List.replicate (5 - (lg_sl ([.ref ((ad 0)), .int x])).length) Slot.unset).toArray = ls at hl ⊢
  have hl : lv_has ls 5 [(0, .ref ((ad 0))), (1, .int x)] := hl
  refine lv_aload_n hx hb dX4_wrong_0 rfl (lv_at hl 0 rfl) ?_
  refine lv_iconst (v := nI 0) hx hb dX4_wrong_1 (by decide) ?_
  refine va_put (D := D) (ci := 5) (v := .int (nI 0)) (ty := .int) (C := RX4) (T := TX4) (N := 21) hx hb hts (by decide +kernel) tyX4 tyX4_ok nmX4 hown hK hP hD hS 0 rfl rfl 0 (by decide) (hts (.fieldLink RX4 61 "TrackDiskModel" "code" "I") (by decide +kernel)) (fun _ h9 => h9) rfl (by decide +kernel) rfl rfl (Nat.le_of_ble_eq_true rfl) dX4_wrong_2 (fun H locs hP hD hS => ?_)
  have hP : va_P D vwCl (moW κ T S ad (nI 0) bs kp sm ks se sp ke kq vo nd wn wt wx wb dn tp tn ts) H := hP
  have hD : va_D A (moW κ T S ad (nI 0) bs kp sm ks se sp ke kq vo nd wn wt wx wb dn tp tn ts) := hD
  refine lv_iconst (v := nI 0) hx hb dX4_wrong_5 (by decide) ?_
  refine lv_istore_n (lv' := [(2, .int (nI 0)), (0, .ref ((ad 0))), (1, .int x)]) hx hb dX4_wrong_6 rfl hl (by decide) rfl (fun ls hl => ?_)
  refine lv_iconst (v := (-1)) hx hb dX4_wrong_7 (by decide) ?_
  refine lv_istore_n (lv' := [(3, .int ((-1))), (2, .int (nI 0)), (0, .ref ((ad 0))), (1, .int x)]) hx hb dX4_wrong_8 rfl hl (by decide) rfl (fun ls hl => ?_)
  refine lv_aload_n hx hb dX4_wrong_9 rfl (lv_at hl 2 rfl) ?_
  refine va_get (D := D) (ci := 5) (v := .int (nI T)) (C := RX4) (T := TX4) (N := 21) hx hb hts (by decide +kernel) hown hK hP 0 rfl rfl 1 (by decide) (hts (.fieldLink RX4 50 "TrackDiskModel" "tracks" "I") (by decide +kernel)) (fun _ h9 => h9) rfl dX4_wrong_10 ?_
  refine lv_bipush (v := nI 8) hx hb dX4_wrong_13 (by decide) ?_
  refine lv_imul hx hb dX4_wrong_15 ?_
  refine tp_i (y := nI (T * 8)) (by exact pk_mul _ _) ?_
  refine lv_iconst (v := nI 1) hx hb dX4_wrong_16 (by decide) ?_
  refine lv_isub hx hb dX4_wrong_17 ?_
  refine lv_istore (lv' := [(4, .int (((nI (T * 8)) - (nI 1)))), (3, .int ((-1))), (2, .int (nI 0)), (0, .ref ((ad 0))), (1, .int x)]) hx hb dX4_wrong_18 hl (by decide) rfl (fun ls hl => ?_)
  refine W.loop (N := T * 8) (I := fun k ls H locs => lv_has ls 5 [(4, .int ((nI (T * 8 - k) - nI 1))), (3, .int (fsF (gW (iwM bs sm se) S) (T * 8) k)), (2, .int (nI (cnt (fun j => (gW (iwM bs sm se) S) (T * 8 - j - 1)) k))), (0, .ref ((ad 0))), (1, .int x)] ∧ va_P D vwCl (moW κ T S ad (nI 0) bs kp sm ks se sp ke kq vo nd wn wt wx wb dn tp tn ts) H ∧ va_D A (moW κ T S ad (nI 0) bs kp sm ks se sp ke kq vo nd wn wt wx wb dn tp tn ts) ∧ va_S A s.heap H locs) 0 (by omega) (fun k ls H locs hk hI ihk => ?_) (fun ls H locs hI => ?_) ⟨lv_sub hl [0, 1, 2, 3, 4] rfl, hP, hD, hS⟩
  · skip
    clear hl hP hD hS
    obtain ⟨hl, hP, hD, hS⟩ := hI
    rw [show nI (T * 8 - k) - nI 1 = nI (T * 8 - k - 1) from pk_sub (by omega)] at hl
    refine lv_iload hx hb dX4_wrong_20 (lv_at hl 0 rfl) ?_
    refine lv_if_lt (tgt := 69) hx hb dX4_wrong_22 (by decide) (fun c_22 => ?_) (fun c_22 => ?_)
    · exact absurd c_22 (nI_pos (by omega))
    · skip
      refine lv_iload hx hb dX4_wrong_25 (lv_at hl 0 rfl) ?_
      refine lv_bipush (v := nI 8) hx hb dX4_wrong_27 (by decide) ?_
      refine lv_irem hx hb dX4_wrong_29 (by decide) ?_
      refine tp_i (y := nI ((T * 8 - k - 1) % 8)) (by exact pk_rem (by omega) (by omega) (by omega)) ?_
      refine lv_aload_n hx hb dX4_wrong_30 rfl (lv_at hl 3 rfl) ?_
      refine va_get (D := D) (ci := 5) (v := .int (nI S)) (C := RX4) (T := TX4) (N := 21) hx hb hts (by decide +kernel) hown hK hP 0 rfl rfl 2 (by decide) (hts (.fieldLink RX4 54 "TrackDiskModel" "sectors" "I") (by decide +kernel)) (fun _ h9 => h9) rfl dX4_wrong_31 ?_
      refine lv_icmp_ge (tgt := 63) hx hb dX4_wrong_34 (by decide) (fun c_34 => ?_) (fun c_34 => ?_)
      · skip
        rw [show cnt (fun j => (gW (iwM bs sm se) S) (T * 8 - j - 1)) k = cnt (fun j => (gW (iwM bs sm se) S) (T * 8 - j - 1)) (k + 1) from (cnt_f (f := (fun j => (gW (iwM bs sm se) S) (T * 8 - j - 1))) (gW_1 (fun q => absurd c_34 (nI_ge q (by omega))))).symm, show fsF (gW (iwM bs sm se) S) (T * 8) k = fsF (gW (iwM bs sm se) S) (T * 8) (k + 1) from (fsF_f (gW_1 (fun q => absurd c_34 (nI_ge q (by omega))))).symm] at hl
        refine lv_iinc (v := (nI (T * 8 - (k + 1)) - nI 1)) (lv' := [(4, .int ((nI (T * 8 - (k + 1)) - nI 1))), (3, .int (fsF (gW (iwM bs sm se) S) (T * 8) (k + 1))), (2, .int (nI (cnt (fun j => (gW (iwM bs sm se) S) (T * 8 - j - 1)) (k + 1)))), (0, .ref ((ad 0))), (1, .int x)]) hx hb dX4_wrong_63 hl (k := 0) rfl (by rw [show T * 8 - (k + 1) = (T * 8 - k - 1) by omega]; exact nI_dec _) (by decide) rfl (fun ls hl => ?_)
        refine lv_goto (tgt := 20) hx hb dX4_wrong_66 (by decide) ?_
        exact ihk ls H locs ⟨lv_sub hl [0, 1, 2, 3, 4] rfl, hP, hD, hS⟩
      · skip
        refine lv_aload_n hx hb dX4_wrong_37 rfl (lv_at hl 3 rfl) ?_
        refine lv_iload hx hb dX4_wrong_38 (lv_at hl 0 rfl) ?_
        refine lv_bipush (v := nI 8) hx hb dX4_wrong_40 (by decide) ?_
        refine lv_idiv hx hb dX4_wrong_42 (by decide) ?_
        refine tp_i (y := nI ((T * 8 - k - 1) / 8)) (by exact pk_div (by omega) (by omega) (by omega)) ?_
        refine lv_iload hx hb dX4_wrong_43 (lv_at hl 0 rfl) ?_
        refine lv_bipush (v := nI 8) hx hb dX4_wrong_45 (by decide) ?_
        refine lv_irem hx hb dX4_wrong_47 (by decide) ?_
        refine tp_i (y := nI ((T * 8 - k - 1) % 8)) (by exact pk_rem (by omega) (by omega) (by omega)) ?_
        have hPc := hP.sub (ws' := moW κ T S ad (nI 0) bs kp sm ks se sp ke kq vo nd wn wt wx wb dn tp tn ts) [0, 1, 2, 3, 4, 5, 6, 7, 8, 9, 10, 11, 12, 13] rfl
        refine pu_call (va_runV (As := [.int (nI ((T * 8 - k - 1) / 8)), .int (nI ((T * 8 - k - 1) % 8))]) (rest := []) ⟨hx, hb, hml, hown, hts⟩ (m_isWrong l D κ T S ad (nI 0) bs kp sm ks se sp ke kq vo nd wn wt wx wb dn tp tn ts hT hS8 hse ((T * 8 - k - 1) / 8) ((T * 8 - k - 1) % 8) (by omega) (Nat.not_le.mp (fun q => c_34 (nI_le q (by omega))))) (cwV 2 hts gX4_wrong_X4_isWrong rfl rfl rfl (by decide +kernel) ⟨Nat.le_of_ble_eq_true rfl, Nat.le_of_ble_eq_true rfl⟩) ⟨pu_blind, va_recv hK hPc (ci := 5) (q0 := 0) rfl rfl, pu_pre hK hPc⟩ rfl rfl hl.1 rfl (lv_room (Nat.le_of_ble_eq_true rfl)) dX4_wrong_48 ⟨Nat.le_of_ble_eq_true rfl, Nat.le_of_ble_eq_true rfl⟩) ?_
        refine lv_if_ne (tgt := 57) hx hb dX4_wrong_51 (by decide) (fun c_51 => ?_) (fun c_51 => ?_)
        · skip
          refine lv_iinc (v := nI (cnt (fun j => (gW (iwM bs sm se) S) (T * 8 - j - 1)) (k + 1))) (lv' := [(2, .int (nI (cnt (fun j => (gW (iwM bs sm se) S) (T * 8 - j - 1)) (k + 1)))), (4, .int (nI (T * 8 - k - 1))), (3, .int (fsF (gW (iwM bs sm se) S) (T * 8) k)), (0, .ref ((ad 0))), (1, .int x)]) hx hb dX4_wrong_57 hl (k := 2) rfl (by rw [cnt_t (f := (fun j => (gW (iwM bs sm se) S) (T * 8 - j - 1))) (gW_3 (Nat.not_le.mp (fun q => c_34 (nI_le q (by omega)))) (bI_ne c_51))]; exact nI_1 _) (by decide) rfl (fun ls hl => ?_)
          refine lv_iload hx hb dX4_wrong_60 (lv_at hl 1 rfl) ?_
          refine tp_i (y := fsF (gW (iwM bs sm se) S) (T * 8) (k + 1)) ((fsF_t (gW_3 (Nat.not_le.mp (fun q => c_34 (nI_le q (by omega)))) (bI_ne c_51))).symm) ?_
          refine lv_istore_n (lv' := [(3, .int (fsF (gW (iwM bs sm se) S) (T * 8) (k + 1))), (2, .int (nI (cnt (fun j => (gW (iwM bs sm se) S) (T * 8 - j - 1)) (k + 1)))), (4, .int (nI (T * 8 - k - 1))), (0, .ref ((ad 0))), (1, .int x)]) hx hb dX4_wrong_62 rfl hl (by decide) rfl (fun ls hl => ?_)
          refine lv_iinc (v := (nI (T * 8 - (k + 1)) - nI 1)) (lv' := [(4, .int ((nI (T * 8 - (k + 1)) - nI 1))), (3, .int (fsF (gW (iwM bs sm se) S) (T * 8) (k + 1))), (2, .int (nI (cnt (fun j => (gW (iwM bs sm se) S) (T * 8 - j - 1)) (k + 1)))), (0, .ref ((ad 0))), (1, .int x)]) hx hb dX4_wrong_63 hl (k := 2) rfl (by rw [show T * 8 - (k + 1) = (T * 8 - k - 1) by omega]; exact nI_dec _) (by decide) rfl (fun ls hl => ?_)
          refine lv_goto (tgt := 20) hx hb dX4_wrong_66 (by decide) ?_
          exact ihk ls H locs ⟨lv_sub hl [0, 1, 2, 3, 4] rfl, hP, hD, hS⟩
        · skip
          rw [show cnt (fun j => (gW (iwM bs sm se) S) (T * 8 - j - 1)) k = cnt (fun j => (gW (iwM bs sm se) S) (T * 8 - j - 1)) (k + 1) from (cnt_f (f := (fun j => (gW (iwM bs sm se) S) (T * 8 - j - 1))) (gW_2 (bI_eq c_51))).symm, show fsF (gW (iwM bs sm se) S) (T * 8) k = fsF (gW (iwM bs sm se) S) (T * 8) (k + 1) from (fsF_f (gW_2 (bI_eq c_51))).symm] at hl
          refine lv_goto (tgt := 63) hx hb dX4_wrong_54 (by decide) ?_
          refine lv_iinc (v := (nI (T * 8 - (k + 1)) - nI 1)) (lv' := [(4, .int ((nI (T * 8 - (k + 1)) - nI 1))), (3, .int (fsF (gW (iwM bs sm se) S) (T * 8) (k + 1))), (2, .int (nI (cnt (fun j => (gW (iwM bs sm se) S) (T * 8 - j - 1)) (k + 1)))), (0, .ref ((ad 0))), (1, .int x)]) hx hb dX4_wrong_63 hl (k := 0) rfl (by rw [show T * 8 - (k + 1) = (T * 8 - k - 1) by omega]; exact nI_dec _) (by decide) rfl (fun ls hl => ?_)
          refine lv_goto (tgt := 20) hx hb dX4_wrong_66 (by decide) ?_
          exact ihk ls H locs ⟨lv_sub hl [0, 1, 2, 3, 4] rfl, hP, hD, hS⟩
  · skip
    clear hl hP hD hS
    obtain ⟨hl, hP, hD, hS⟩ := hI
    rw [show nI (T * 8 - T * 8) - nI 1 = -1 from by rw [Nat.sub_self]; rfl] at hl
    refine lv_iload hx hb dX4_wrong_20 (lv_at hl 0 rfl) ?_
    refine lv_if_lt (tgt := 69) hx hb dX4_wrong_22 (by decide) (fun c_22 => ?_) (fun c_22 => ?_)
    · skip
      refine lv_iload_n hx hb dX4_wrong_69 rfl (lv_at hl 4 rfl) ?_
      refine lv_if_ne (tgt := 75) hx hb dX4_wrong_70 (by decide) (fun c_70 => ?_) (fun c_70 => ?_)
      · skip
        refine lv_iload_n hx hb dX4_wrong_75 rfl (lv_at hl 2 rfl) ?_
        refine lv_if_eq (tgt := 89) hx hb dX4_wrong_76 (by decide) (fun c_76 => ?_) (fun c_76 => ?_)
        · exact absurd c_76 (nI_ne0 (Nat.pos_of_ne_zero hz) hbig)
        · skip
          refine lv_iload_n hx hb dX4_wrong_79 rfl (lv_at hl 4 rfl) ?_
          refine lv_iconst (v := nI 1) hx hb dX4_wrong_80 (by decide) ?_
          refine lv_icmp_lt (tgt := 89) hx hb dX4_wrong_81 (by decide) (fun c_81 => ?_) (fun c_81 => ?_)
          · exact absurd c_81 hlo
          · skip
            refine lv_iload_n hx hb dX4_wrong_84 rfl (lv_at hl 4 rfl) ?_
            refine lv_iconst (v := nI 2) hx hb dX4_wrong_85 (by decide) ?_
            refine lv_icmp_le (tgt := 91) hx hb dX4_wrong_86 (by decide) (fun c_86 => ?_) (fun c_86 => ?_)
            · exact absurd c_86 hhi
            · skip
              refine lv_iconst (v := (-1)) hx hb dX4_wrong_89 (by decide) ?_
              have hP9 : va_P D vwCl (moW κ T S ad (nI 0) bs kp sm ks se sp ke kq vo nd wn wt wx wb dn tp tn ts) H := hP
              have hD9 : va_D A (moW κ T S ad (nI 0) bs kp sm ks se sp ke kq vo nd wn wt wx wb dn tp tn ts) := hD
              exact W.iret hx hb hr (fun t ht _ => ⟨⟨rfl, by rw [ht]; exact hP9, hD9⟩, hS.F ht⟩) hS.2.2 dX4_wrong_90 hlocks
      · exact absurd c_70 h0
    · exact absurd (by decide) c_22

set_option maxHeartbeats 4000000 in
set_option maxRecDepth 100000 in
/-- wrong(1) -/
theorem m_wrong_1 (l : Launch) (D : va_G) (κ : Nat → ClassId) (sz : Nat) (T S : Nat) (ad : Nat → Nat) (co : Int32) (bs kp sm ks se sp ke kq vo : Nat → Int32) (nd wn : Int32) (wt wx wb : Nat → Int32) (dn : Int32) (tp : Nat → Int32) (tn ts : Int32) (hT : T ≤ 12) (hS8 : S ≤ 8) (hse : ∀ t, t < T → se t = -1 ∨ vp_in (se t) 14) (hz : ¬ (cnt (fun j => (gW (iwM bs sm se) S) (T * 8 - j - 1)) (T * 8)) = 0) (hbig : (cnt (fun j => (gW (iwM bs sm se) S) (T * 8 - j - 1)) (T * 8)) < 2 ^ 31) (u v : Nat) (hu : u < T) (hv : v < S) (hfs : fsF (gW (iwM bs sm se) S) (T * 8) (T * 8) = nI (u * 8 + v)) : Met l yX4_wrong wsX4_wrong ({ frames := 2, cells := 0, slots := 0, locals := 47 }) (va_Pc [.ref ((ad 0)), .int (nI 1)] (mu_B D κ (moW κ T S ad co bs kp sm ks se sp ke kq vo nd wn wt wx wb dn tp tn ts) sz)) (mu_Q D (some (.int (nI u))) (moW κ T S ad (nI 0) bs kp sm ks se sp ke kq vo nd wn wt wx wb dn tp tn ts) (va_A (moW κ T S ad co bs kp sm ks se sp ke kq vo nd wn wt wx wb dn tp tn ts) sz)) 0 0 (va_A (moW κ T S ad co bs kp sm ks se sp ke kq vo nd wn wt wx wb dn tp tn ts) sz) := by
  refine Met.ofW (cc := cX4_wrong) (maxL := 5) (ret := (some .int)) (by decide) rfl ?_
  intro p e s m args below meth c s₁ B hml hv
  obtain ⟨rfl, hsz, hP, hK, hD0⟩ := hv
  have hx := B.exec
  have hb := B.bytes
  have hr := B.returns
  have hts := atoms_spec (ws := wsX4_wrong) B.pre
  have hown : s.vm.findClass RX4 = some m.cls := findClass_of_methodNamed B.named
  have hlocks := B.notSynchronized
  subst hsz
  have hD := hD0.self (sz := s.heap.size)
  generalize hAe : va_A (moW κ T S ad co bs kp sm ks se sp ke kq vo nd wn wt wx wb dn tp tn ts) s.heap.size = A at hD ⊢
  have hA : ∀ q : Nat, s.heap.size ≤ q → A q := fun q h => by rw [← hAe]; exact Or.inr h
  refine W.gen (P := fun H locs => va_P D vwCl (moW κ T S ad co bs kp sm ks se sp ke kq vo nd wn wt wx wb dn tp tn ts) H ∧ va_S A s.heap H locs) (fun H locs h => ?_) ⟨hP, va_S.rf⟩
  clear hP
  obtain ⟨hP, hS⟩ := h
  have hl := lv_entry ([.ref ((ad 0)), .int (nI 1)]) (n := 5) (Nat.le_of_ble_eq_true rfl)
  rw [lg_entry_eq]
  generalize (lg_sl ([.ref ((ad 0)), .int (nI 1)]) ++ List.replicate (5 - (lg_sl ([.ref ((ad 0)), .int (nI 1)])).length) Slot.unset).toArray = ls at hl ⊢
  have hl : lv_has ls 5 [(0, .ref ((ad 0))), (1, .int (nI 1))] := hl
  refine lv_aload_n hx hb dX4_wrong_0 rfl (lv_at hl 0 rfl) ?_
  refine lv_iconst (v := nI 0) hx hb dX4_wrong_1 (by decide) ?_
  refine va_put (D := D) (ci := 5) (v := .int (nI 0)) (ty := .int) (C := RX4) (T := TX4) (N := 21) hx hb hts (by decide +kernel) tyX4 tyX4_ok nmX4 hown hK hP hD hS 0 rfl rfl 0 (by decide) (hts (.fieldLink RX4 61 "TrackDiskModel" "code" "I") (by decide +kernel)) (fun _ h9 => h9) rfl (by decide +kernel) rfl rfl (Nat.le_of_ble_eq_true rfl) dX4_wrong_2 (fun H locs hP hD hS => ?_)
  have hP : va_P D vwCl (moW κ T S ad (nI 0) bs kp sm ks se sp ke kq vo nd wn wt wx wb dn tp tn ts) H := hP
  have hD : va_D A (moW κ T S ad (nI 0) bs kp sm ks se sp ke kq vo nd wn wt wx wb dn tp tn ts) := hD
  refine lv_iconst (v := nI 0) hx hb dX4_wrong_5 (by decide) ?_
  refine lv_istore_n (lv' := [(2, .int (nI 0)), (0, .ref ((ad 0))), (1, .int (nI 1))]) hx hb dX4_wrong_6 rfl hl (by decide) rfl (fun ls hl => ?_)
  refine lv_iconst (v := (-1)) hx hb dX4_wrong_7 (by decide) ?_
  refine lv_istore_n (lv' := [(3, .int ((-1))), (2, .int (nI 0)), (0, .ref ((ad 0))), (1, .int (nI 1))]) hx hb dX4_wrong_8 rfl hl (by decide) rfl (fun ls hl => ?_)
  refine lv_aload_n hx hb dX4_wrong_9 rfl (lv_at hl 2 rfl) ?_
  refine va_get (D := D) (ci := 5) (v := .int (nI T)) (C := RX4) (T := TX4) (N := 21) hx hb hts (by decide +kernel) hown hK hP 0 rfl rfl 1 (by decide) (hts (.fieldLink RX4 50 "TrackDiskModel" "tracks" "I") (by decide +kernel)) (fun _ h9 => h9) rfl dX4_wrong_10 ?_
  refine lv_bipush (v := nI 8) hx hb dX4_wrong_13 (by decide) ?_
  refine lv_imul hx hb dX4_wrong_15 ?_
  refine tp_i (y := nI (T * 8)) (by exact pk_mul _ _) ?_
  refine lv_iconst (v := nI 1) hx hb dX4_wrong_16 (by decide) ?_
  refine lv_isub hx hb dX4_wrong_17 ?_
  refine lv_istore (lv' := [(4, .int (((nI (T * 8)) - (nI 1)))), (3, .int ((-1))), (2, .int (nI 0)), (0, .ref ((ad 0))), (1, .int (nI 1))]) hx hb dX4_wrong_18 hl (by decide) rfl (fun ls hl => ?_)
  refine W.loop (N := T * 8) (I := fun k ls H locs => lv_has ls 5 [(4, .int ((nI (T * 8 - k) - nI 1))), (3, .int (fsF (gW (iwM bs sm se) S) (T * 8) k)), (2, .int (nI (cnt (fun j => (gW (iwM bs sm se) S) (T * 8 - j - 1)) k))), (0, .ref ((ad 0))), (1, .int (nI 1))] ∧ va_P D vwCl (moW κ T S ad (nI 0) bs kp sm ks se sp ke kq vo nd wn wt wx wb dn tp tn ts) H ∧ va_D A (moW κ T S ad (nI 0) bs kp sm ks se sp ke kq vo nd wn wt wx wb dn tp tn ts) ∧ va_S A s.heap H locs) 0 (by omega) (fun k ls H locs hk hI ihk => ?_) (fun ls H locs hI => ?_) ⟨lv_sub hl [0, 1, 2, 3, 4] rfl, hP, hD, hS⟩
  · skip
    clear hl hP hD hS
    obtain ⟨hl, hP, hD, hS⟩ := hI
    rw [show nI (T * 8 - k) - nI 1 = nI (T * 8 - k - 1) from pk_sub (by omega)] at hl
    refine lv_iload hx hb dX4_wrong_20 (lv_at hl 0 rfl) ?_
    refine lv_if_lt (tgt := 69) hx hb dX4_wrong_22 (by decide) (fun c_22 => ?_) (fun c_22 => ?_)
    · exact absurd c_22 (nI_pos (by omega))
    · skip
      refine lv_iload hx hb dX4_wrong_25 (lv_at hl 0 rfl) ?_
      refine lv_bipush (v := nI 8) hx hb dX4_wrong_27 (by decide) ?_
      refine lv_irem hx hb dX4_wrong_29 (by decide) ?_
      refine tp_i (y := nI ((T * 8 - k - 1) % 8)) (by exact pk_rem (by omega) (by omega) (by omega)) ?_
      refine lv_aload_n hx hb dX4_wrong_30 rfl (lv_at hl 3 rfl) ?_
      refine va_get (D := D) (ci := 5) (v := .int (nI S)) (C := RX4) (T := TX4) (N := 21) hx hb hts (by decide +kernel) hown hK hP 0 rfl rfl 2 (by decide) (hts (.fieldLink RX4 54 "TrackDiskModel" "sectors" "I") (by decide +kernel)) (fun _ h9 => h9) rfl dX4_wrong_31 ?_
      refine lv_icmp_ge (tgt := 63) hx hb dX4_wrong_34 (by decide) (fun c_34 => ?_) (fun c_34 => ?_)
      · skip
        rw [show cnt (fun j => (gW (iwM bs sm se) S) (T * 8 - j - 1)) k = cnt (fun j => (gW (iwM bs sm se) S) (T * 8 - j - 1)) (k + 1) from (cnt_f (f := (fun j => (gW (iwM bs sm se) S) (T * 8 - j - 1))) (gW_1 (fun q => absurd c_34 (nI_ge q (by omega))))).symm, show fsF (gW (iwM bs sm se) S) (T * 8) k = fsF (gW (iwM bs sm se) S) (T * 8) (k + 1) from (fsF_f (gW_1 (fun q => absurd c_34 (nI_ge q (by omega))))).symm] at hl
        refine lv_iinc (v := (nI (T * 8 - (k + 1)) - nI 1)) (lv' := [(4, .int ((nI (T * 8 - (k + 1)) - nI 1))), (3, .int (fsF (gW (iwM bs sm se) S) (T * 8) (k + 1))), (2, .int (nI (cnt (fun j => (gW (iwM bs sm se) S) (T * 8 - j - 1)) (k + 1)))), (0, .ref ((ad 0))), (1, .int (nI 1))]) hx hb dX4_wrong_63 hl (k := 0) rfl (by rw [show T * 8 - (k + 1) = (T * 8 - k - 1) by omega]; exact nI_dec _) (by decide) rfl (fun ls hl => ?_)
        refine lv_goto (tgt := 20) hx hb dX4_wrong_66 (by decide) ?_
        exact ihk ls H locs ⟨lv_sub hl [0, 1, 2, 3, 4] rfl, hP, hD, hS⟩
      · skip
        refine lv_aload_n hx hb dX4_wrong_37 rfl (lv_at hl 3 rfl) ?_
        refine lv_iload hx hb dX4_wrong_38 (lv_at hl 0 rfl) ?_
        refine lv_bipush (v := nI 8) hx hb dX4_wrong_40 (by decide) ?_
        refine lv_idiv hx hb dX4_wrong_42 (by decide) ?_
        refine tp_i (y := nI ((T * 8 - k - 1) / 8)) (by exact pk_div (by omega) (by omega) (by omega)) ?_
        refine lv_iload hx hb dX4_wrong_43 (lv_at hl 0 rfl) ?_
        refine lv_bipush (v := nI 8) hx hb dX4_wrong_45 (by decide) ?_
        refine lv_irem hx hb dX4_wrong_47 (by decide) ?_
        refine tp_i (y := nI ((T * 8 - k - 1) % 8)) (by exact pk_rem (by omega) (by omega) (by omega)) ?_
        have hPc := hP.sub (ws' := moW κ T S ad (nI 0) bs kp sm ks se sp ke kq vo nd wn wt wx wb dn tp tn ts) [0, 1, 2, 3, 4, 5, 6, 7, 8, 9, 10, 11, 12, 13] rfl
        refine pu_call (va_runV (As := [.int (nI ((T * 8 - k - 1) / 8)), .int (nI ((T * 8 - k - 1) % 8))]) (rest := []) ⟨hx, hb, hml, hown, hts⟩ (m_isWrong l D κ T S ad (nI 0) bs kp sm ks se sp ke kq vo nd wn wt wx wb dn tp tn ts hT hS8 hse ((T * 8 - k - 1) / 8) ((T * 8 - k - 1) % 8) (by omega) (Nat.not_le.mp (fun q => c_34 (nI_le q (by omega))))) (cwV 2 hts gX4_wrong_X4_isWrong rfl rfl rfl (by decide +kernel) ⟨Nat.le_of_ble_eq_true rfl, Nat.le_of_ble_eq_true rfl⟩) ⟨pu_blind, va_recv hK hPc (ci := 5) (q0 := 0) rfl rfl, pu_pre hK hPc⟩ rfl rfl hl.1 rfl (lv_room (Nat.le_of_ble_eq_true rfl)) dX4_wrong_48 ⟨Nat.le_of_ble_eq_true rfl, Nat.le_of_ble_eq_true rfl⟩) ?_
        refine lv_if_ne (tgt := 57) hx hb dX4_wrong_51 (by decide) (fun c_51 => ?_) (fun c_51 => ?_)
        · skip
          refine lv_iinc (v := nI (cnt (fun j => (gW (iwM bs sm se) S) (T * 8 - j - 1)) (k + 1))) (lv' := [(2, .int (nI (cnt (fun j => (gW (iwM bs sm se) S) (T * 8 - j - 1)) (k + 1)))), (4, .int (nI (T * 8 - k - 1))), (3, .int (fsF (gW (iwM bs sm se) S) (T * 8) k)), (0, .ref ((ad 0))), (1, .int (nI 1))]) hx hb dX4_wrong_57 hl (k := 2) rfl (by rw [cnt_t (f := (fun j => (gW (iwM bs sm se) S) (T * 8 - j - 1))) (gW_3 (Nat.not_le.mp (fun q => c_34 (nI_le q (by omega)))) (bI_ne c_51))]; exact nI_1 _) (by decide) rfl (fun ls hl => ?_)
          refine lv_iload hx hb dX4_wrong_60 (lv_at hl 1 rfl) ?_
          refine tp_i (y := fsF (gW (iwM bs sm se) S) (T * 8) (k + 1)) ((fsF_t (gW_3 (Nat.not_le.mp (fun q => c_34 (nI_le q (by omega)))) (bI_ne c_51))).symm) ?_
          refine lv_istore_n (lv' := [(3, .int (fsF (gW (iwM bs sm se) S) (T * 8) (k + 1))), (2, .int (nI (cnt (fun j => (gW (iwM bs sm se) S) (T * 8 - j - 1)) (k + 1)))), (4, .int (nI (T * 8 - k - 1))), (0, .ref ((ad 0))), (1, .int (nI 1))]) hx hb dX4_wrong_62 rfl hl (by decide) rfl (fun ls hl => ?_)
          refine lv_iinc (v := (nI (T * 8 - (k + 1)) - nI 1)) (lv' := [(4, .int ((nI (T * 8 - (k + 1)) - nI 1))), (3, .int (fsF (gW (iwM bs sm se) S) (T * 8) (k + 1))), (2, .int (nI (cnt (fun j => (gW (iwM bs sm se) S) (T * 8 - j - 1)) (k + 1)))), (0, .ref ((ad 0))), (1, .int (nI 1))]) hx hb dX4_wrong_63 hl (k := 2) rfl (by rw [show T * 8 - (k + 1) = (T * 8 - k - 1) by omega]; exact nI_dec _) (by decide) rfl (fun ls hl => ?_)
          refine lv_goto (tgt := 20) hx hb dX4_wrong_66 (by decide) ?_
          exact ihk ls H locs ⟨lv_sub hl [0, 1, 2, 3, 4] rfl, hP, hD, hS⟩
        · skip
          rw [show cnt (fun j => (gW (iwM bs sm se) S) (T * 8 - j - 1)) k = cnt (fun j => (gW (iwM bs sm se) S) (T * 8 - j - 1)) (k + 1) from (cnt_f (f := (fun j => (gW (iwM bs sm se) S) (T * 8 - j - 1))) (gW_2 (bI_eq c_51))).symm, show fsF (gW (iwM bs sm se) S) (T * 8) k = fsF (gW (iwM bs sm se) S) (T * 8) (k + 1) from (fsF_f (gW_2 (bI_eq c_51))).symm] at hl
          refine lv_goto (tgt := 63) hx hb dX4_wrong_54 (by decide) ?_
          refine lv_iinc (v := (nI (T * 8 - (k + 1)) - nI 1)) (lv' := [(4, .int ((nI (T * 8 - (k + 1)) - nI 1))), (3, .int (fsF (gW (iwM bs sm se) S) (T * 8) (k + 1))), (2, .int (nI (cnt (fun j => (gW (iwM bs sm se) S) (T * 8 - j - 1)) (k + 1)))), (0, .ref ((ad 0))), (1, .int (nI 1))]) hx hb dX4_wrong_63 hl (k := 0) rfl (by rw [show T * 8 - (k + 1) = (T * 8 - k - 1) by omega]; exact nI_dec _) (by decide) rfl (fun ls hl => ?_)
          refine lv_goto (tgt := 20) hx hb dX4_wrong_66 (by decide) ?_
          exact ihk ls H locs ⟨lv_sub hl [0, 1, 2, 3, 4] rfl, hP, hD, hS⟩
  · skip
    clear hl hP hD hS
    obtain ⟨hl, hP, hD, hS⟩ := hI
    rw [show nI (T * 8 - T * 8) - nI 1 = -1 from by rw [Nat.sub_self]; rfl] at hl
    refine lv_iload hx hb dX4_wrong_20 (lv_at hl 0 rfl) ?_
    refine lv_if_lt (tgt := 69) hx hb dX4_wrong_22 (by decide) (fun c_22 => ?_) (fun c_22 => ?_)
    · skip
      refine lv_iload_n hx hb dX4_wrong_69 rfl (lv_at hl 4 rfl) ?_
      refine lv_if_ne (tgt := 75) hx hb dX4_wrong_70 (by decide) (fun c_70 => ?_) (fun c_70 => ?_)
      · skip
        refine lv_iload_n hx hb dX4_wrong_75 rfl (lv_at hl 2 rfl) ?_
        refine lv_if_eq (tgt := 89) hx hb dX4_wrong_76 (by decide) (fun c_76 => ?_) (fun c_76 => ?_)
        · exact absurd c_76 (nI_ne0 (Nat.pos_of_ne_zero hz) hbig)
        · skip
          refine lv_iload_n hx hb dX4_wrong_79 rfl (lv_at hl 4 rfl) ?_
          refine lv_iconst (v := nI 1) hx hb dX4_wrong_80 (by decide) ?_
          refine lv_icmp_lt (tgt := 89) hx hb dX4_wrong_81 (by decide) (fun c_81 => ?_) (fun c_81 => ?_)
          · exact absurd c_81 (by decide)
          · skip
            refine lv_iload_n hx hb dX4_wrong_84 rfl (lv_at hl 4 rfl) ?_
            refine lv_iconst (v := nI 2) hx hb dX4_wrong_85 (by decide) ?_
            refine lv_icmp_le (tgt := 91) hx hb dX4_wrong_86 (by decide) (fun c_86 => ?_) (fun c_86 => ?_)
            · skip
              refine lv_iload_n hx hb dX4_wrong_91 rfl (lv_at hl 4 rfl) ?_
              refine lv_iconst (v := nI 1) hx hb dX4_wrong_92 (by decide) ?_
              refine lv_icmp_ne (tgt := 103) hx hb dX4_wrong_93 (by decide) (fun c_93 => ?_) (fun c_93 => ?_)
              · exact absurd (by decide) c_93
              · skip
                refine lv_iload_n hx hb dX4_wrong_96 rfl (lv_at hl 1 rfl) ?_
                refine tp_i (y := nI (u * 8 + v)) (hfs) ?_
                refine lv_bipush (v := nI 8) hx hb dX4_wrong_97 (by decide) ?_
                refine lv_idiv hx hb dX4_wrong_99 (by decide) ?_
                refine tp_i (y := nI u) (by rw [pk_div (by omega) (by omega) (by omega)]; congr 1; omega) ?_
                refine lv_goto (tgt := 107) hx hb dX4_wrong_100 (by decide) ?_
                have hP9 : va_P D vwCl (moW κ T S ad (nI 0) bs kp sm ks se sp ke kq vo nd wn wt wx wb dn tp tn ts) H := hP
                have hD9 : va_D A (moW κ T S ad (nI 0) bs kp sm ks se sp ke kq vo nd wn wt wx wb dn tp tn ts) := hD
                exact W.iret hx hb hr (fun t ht _ => ⟨⟨rfl, by rw [ht]; exact hP9, hD9⟩, hS.F ht⟩) hS.2.2 dX4_wrong_107 hlocks
            · exact absurd (by decide) c_86
      · exact absurd c_70 (by decide)
    · exact absurd (by decide) c_22

set_option maxHeartbeats 4000000 in
set_option maxRecDepth 100000 in
/-- wrong(2) -/
theorem m_wrong_2 (l : Launch) (D : va_G) (κ : Nat → ClassId) (sz : Nat) (T S : Nat) (ad : Nat → Nat) (co : Int32) (bs kp sm ks se sp ke kq vo : Nat → Int32) (nd wn : Int32) (wt wx wb : Nat → Int32) (dn : Int32) (tp : Nat → Int32) (tn ts : Int32) (hT : T ≤ 12) (hS8 : S ≤ 8) (hse : ∀ t, t < T → se t = -1 ∨ vp_in (se t) 14) (hz : ¬ (cnt (fun j => (gW (iwM bs sm se) S) (T * 8 - j - 1)) (T * 8)) = 0) (hbig : (cnt (fun j => (gW (iwM bs sm se) S) (T * 8 - j - 1)) (T * 8)) < 2 ^ 31) (u v : Nat) (hu : u < T) (hv : v < S) (hfs : fsF (gW (iwM bs sm se) S) (T * 8) (T * 8) = nI (u * 8 + v)) : Met l yX4_wrong wsX4_wrong ({ frames := 2, cells := 0, slots := 0, locals := 47 }) (va_Pc [.ref ((ad 0)), .int (nI 2)] (mu_B D κ (moW κ T S ad co bs kp sm ks se sp ke kq vo nd wn wt wx wb dn tp tn ts) sz)) (mu_Q D (some (.int (nI v))) (moW κ T S ad (nI 0) bs kp sm ks se sp ke kq vo nd wn wt wx wb dn tp tn ts) (va_A (moW κ T S ad co bs kp sm ks se sp ke kq vo nd wn wt wx wb dn tp tn ts) sz)) 0 0 (va_A (moW κ T S ad co bs kp sm ks se sp ke kq vo nd wn wt wx wb dn tp tn ts) sz) := by
  refine Met.ofW (cc := cX4_wrong) (maxL := 5) (ret := (some .int)) (by decide) rfl ?_
  intro p e s m args below meth c s₁ B hml hv
  obtain ⟨rfl, hsz, hP, hK, hD0⟩ := hv
  have hx := B.exec
  have hb := B.bytes
  have hr := B.returns
  have hts := atoms_spec (ws := wsX4_wrong) B.pre
  have hown : s.vm.findClass RX4 = some m.cls := findClass_of_methodNamed B.named
  have hlocks := B.notSynchronized
  subst hsz
  have hD := hD0.self (sz := s.heap.size)
  generalize hAe : va_A (moW κ T S ad co bs kp sm ks se sp ke kq vo nd wn wt wx wb dn tp tn ts) s.heap.size = A at hD ⊢
  have hA : ∀ q : Nat, s.heap.size ≤ q → A q := fun q h => by rw [← hAe]; exact Or.inr h
  refine W.gen (P := fun H locs => va_P D vwCl (moW κ T S ad co bs kp sm ks se sp ke kq vo nd wn wt wx wb dn tp tn ts) H ∧ va_S A s.heap H locs) (fun H locs h => ?_) ⟨hP, va_S.rf⟩
  clear hP
  obtain ⟨hP, hS⟩ := h
  have hl := lv_entry ([.ref ((ad 0)), .int (nI 2)]) (n := 5) (Nat.le_of_ble_eq_true rfl)
  rw [lg_entry_eq]
  generalize (lg_sl ([.ref ((ad 0)), .int (nI 2)]) ++ List.replicate (5 - (lg_sl ([.ref ((ad 0)), .int (nI 2)])).length) Slot.unset).toArray = ls at hl ⊢
  have hl : lv_has ls 5 [(0, .ref ((ad 0))), (1, .int (nI 2))] := hl
  refine lv_aload_n hx hb dX4_wrong_0 rfl (lv_at hl 0 rfl) ?_
  refine lv_iconst (v := nI 0) hx hb dX4_wrong_1 (by decide) ?_
  refine va_put (D := D) (ci := 5) (v := .int (nI 0)) (ty := .int) (C := RX4) (T := TX4) (N := 21) hx hb hts (by decide +kernel) tyX4 tyX4_ok nmX4 hown hK hP hD hS 0 rfl rfl 0 (by decide) (hts (.fieldLink RX4 61 "TrackDiskModel" "code" "I") (by decide +kernel)) (fun _ h9 => h9) rfl (by decide +kernel) rfl rfl (Nat.le_of_ble_eq_true rfl) dX4_wrong_2 (fun H locs hP hD hS => ?_)
  have hP : va_P D vwCl (moW κ T S ad (nI 0) bs kp sm ks se sp ke kq vo nd wn wt wx wb dn tp tn ts) H := hP
  have hD : va_D A (moW κ T S ad (nI 0) bs kp sm ks se sp ke kq vo nd wn wt wx wb dn tp tn ts) := hD
  refine lv_iconst (v := nI 0) hx hb dX4_wrong_5 (by decide) ?_
  refine lv_istore_n (lv' := [(2, .int (nI 0)), (0, .ref ((ad 0))), (1, .int (nI 2))]) hx hb dX4_wrong_6 rfl hl (by decide) rfl (fun ls hl => ?_)
  refine lv_iconst (v := (-1)) hx hb dX4_wrong_7 (by decide) ?_
  refine lv_istore_n (lv' := [(3, .int ((-1))), (2, .int (nI 0)), (0, .ref ((ad 0))), (1, .int (nI 2))]) hx hb dX4_wrong_8 rfl hl (by decide) rfl (fun ls hl => ?_)
  refine lv_aload_n hx hb dX4_wrong_9 rfl (lv_at hl 2 rfl) ?_
  refine va_get (D := D) (ci := 5) (v := .int (nI T)) (C := RX4) (T := TX4) (N := 21) hx hb hts (by decide +kernel) hown hK hP 0 rfl rfl 1 (by decide) (hts (.fieldLink RX4 50 "TrackDiskModel" "tracks" "I") (by decide +kernel)) (fun _ h9 => h9) rfl dX4_wrong_10 ?_
  refine lv_bipush (v := nI 8) hx hb dX4_wrong_13 (by decide) ?_
  refine lv_imul hx hb dX4_wrong_15 ?_
  refine tp_i (y := nI (T * 8)) (by exact pk_mul _ _) ?_
  refine lv_iconst (v := nI 1) hx hb dX4_wrong_16 (by decide) ?_
  refine lv_isub hx hb dX4_wrong_17 ?_
  refine lv_istore (lv' := [(4, .int (((nI (T * 8)) - (nI 1)))), (3, .int ((-1))), (2, .int (nI 0)), (0, .ref ((ad 0))), (1, .int (nI 2))]) hx hb dX4_wrong_18 hl (by decide) rfl (fun ls hl => ?_)
  refine W.loop (N := T * 8) (I := fun k ls H locs => lv_has ls 5 [(4, .int ((nI (T * 8 - k) - nI 1))), (3, .int (fsF (gW (iwM bs sm se) S) (T * 8) k)), (2, .int (nI (cnt (fun j => (gW (iwM bs sm se) S) (T * 8 - j - 1)) k))), (0, .ref ((ad 0))), (1, .int (nI 2))] ∧ va_P D vwCl (moW κ T S ad (nI 0) bs kp sm ks se sp ke kq vo nd wn wt wx wb dn tp tn ts) H ∧ va_D A (moW κ T S ad (nI 0) bs kp sm ks se sp ke kq vo nd wn wt wx wb dn tp tn ts) ∧ va_S A s.heap H locs) 0 (by omega) (fun k ls H locs hk hI ihk => ?_) (fun ls H locs hI => ?_) ⟨lv_sub hl [0, 1, 2, 3, 4] rfl, hP, hD, hS⟩
  · skip
    clear hl hP hD hS
    obtain ⟨hl, hP, hD, hS⟩ := hI
    rw [show nI (T * 8 - k) - nI 1 = nI (T * 8 - k - 1) from pk_sub (by omega)] at hl
    refine lv_iload hx hb dX4_wrong_20 (lv_at hl 0 rfl) ?_
    refine lv_if_lt (tgt := 69) hx hb dX4_wrong_22 (by decide) (fun c_22 => ?_) (fun c_22 => ?_)
    · exact absurd c_22 (nI_pos (by omega))
    · skip
      refine lv_iload hx hb dX4_wrong_25 (lv_at hl 0 rfl) ?_
      refine lv_bipush (v := nI 8) hx hb dX4_wrong_27 (by decide) ?_
      refine lv_irem hx hb dX4_wrong_29 (by decide) ?_
      refine tp_i (y := nI ((T * 8 - k - 1) % 8)) (by exact pk_rem (by omega) (by omega) (by omega)) ?_
      refine lv_aload_n hx hb dX4_wrong_30 rfl (lv_at hl 3 rfl) ?_
      refine va_get (D := D) (ci := 5) (v := .int (nI S)) (C := RX4) (T := TX4) (N := 21) hx hb hts (by decide +kernel) hown hK hP 0 rfl rfl 2 (by decide) (hts (.fieldLink RX4 54 "TrackDiskModel" "sectors" "I") (by decide +kernel)) (fun _ h9 => h9) rfl dX4_wrong_31 ?_
      refine lv_icmp_ge (tgt := 63) hx hb dX4_wrong_34 (by decide) (fun c_34 => ?_) (fun c_34 => ?_)
      · skip
        rw [show cnt (fun j => (gW (iwM bs sm se) S) (T * 8 - j - 1)) k = cnt (fun j => (gW (iwM bs sm se) S) (T * 8 - j - 1)) (k + 1) from (cnt_f (f := (fun j => (gW (iwM bs sm se) S) (T * 8 - j - 1))) (gW_1 (fun q => absurd c_34 (nI_ge q (by omega))))).symm, show fsF (gW (iwM bs sm se) S) (T * 8) k = fsF (gW (iwM bs sm se) S) (T * 8) (k + 1) from (fsF_f (gW_1 (fun q => absurd c_34 (nI_ge q (by omega))))).symm] at hl
        refine lv_iinc (v := (nI (T * 8 - (k + 1)) - nI 1)) (lv' := [(4, .int ((nI (T * 8 - (k + 1)) - nI 1))), (3, .int (fsF (gW (iwM bs sm se) S) (T * 8) (k + 1))), (2, .int (nI (cnt (fun j => (gW (iwM bs sm se) S) (T * 8 - j - 1)) (k + 1)))), (0, .ref ((ad 0))), (1, .int (nI 2))]) hx hb dX4_wrong_63 hl (k := 0) rfl (by rw [show T * 8 - (k + 1) = (T * 8 - k - 1) by omega]; exact nI_dec _) (by decide) rfl (fun ls hl => ?_)
        refine lv_goto (tgt := 20) hx hb dX4_wrong_66 (by decide) ?_
        exact ihk ls H locs ⟨lv_sub hl [0, 1, 2, 3, 4] rfl, hP, hD, hS⟩
      · skip
        refine lv_aload_n hx hb dX4_wrong_37 rfl (lv_at hl 3 rfl) ?_
        refine lv_iload hx hb dX4_wrong_38 (lv_at hl 0 rfl) ?_
        refine lv_bipush (v := nI 8) hx hb dX4_wrong_40 (by decide) ?_
        refine lv_idiv hx hb dX4_wrong_42 (by decide) ?_
        refine tp_i (y := nI ((T * 8 - k - 1) / 8)) (by exact pk_div (by omega) (by omega) (by omega)) ?_
        refine lv_iload hx hb dX4_wrong_43 (lv_at hl 0 rfl) ?_
        refine lv_bipush (v := nI 8) hx hb dX4_wrong_45 (by decide) ?_
        refine lv_irem hx hb dX4_wrong_47 (by decide) ?_
        refine tp_i (y := nI ((T * 8 - k - 1) % 8)) (by exact pk_rem (by omega) (by omega) (by omega)) ?_
        have hPc := hP.sub (ws' := moW κ T S ad (nI 0) bs kp sm ks se sp ke kq vo nd wn wt wx wb dn tp tn ts) [0, 1, 2, 3, 4, 5, 6, 7, 8, 9, 10, 11, 12, 13] rfl
        refine pu_call (va_runV (As := [.int (nI ((T * 8 - k - 1) / 8)), .int (nI ((T * 8 - k - 1) % 8))]) (rest := []) ⟨hx, hb, hml, hown, hts⟩ (m_isWrong l D κ T S ad (nI 0) bs kp sm ks se sp ke kq vo nd wn wt wx wb dn tp tn ts hT hS8 hse ((T * 8 - k - 1) / 8) ((T * 8 - k - 1) % 8) (by omega) (Nat.not_le.mp (fun q => c_34 (nI_le q (by omega))))) (cwV 2 hts gX4_wrong_X4_isWrong rfl rfl rfl (by decide +kernel) ⟨Nat.le_of_ble_eq_true rfl, Nat.le_of_ble_eq_true rfl⟩) ⟨pu_blind, va_recv hK hPc (ci := 5) (q0 := 0) rfl rfl, pu_pre hK hPc⟩ rfl rfl hl.1 rfl (lv_room (Nat.le_of_ble_eq_true rfl)) dX4_wrong_48 ⟨Nat.le_of_ble_eq_true rfl, Nat.le_of_ble_eq_true rfl⟩) ?_
        refine lv_if_ne (tgt := 57) hx hb dX4_wrong_51 (by decide) (fun c_51 => ?_) (fun c_51 => ?_)
        · skip
          refine lv_iinc (v := nI (cnt (fun j => (gW (iwM bs sm se) S) (T * 8 - j - 1)) (k + 1))) (lv' := [(2, .int (nI (cnt (fun j => (gW (iwM bs sm se) S) (T * 8 - j - 1)) (k + 1)))), (4, .int (nI (T * 8 - k - 1))), (3, .int (fsF (gW (iwM bs sm se) S) (T * 8) k)), (0, .ref ((ad 0))), (1, .int (nI 2))]) hx hb dX4_wrong_57 hl (k := 2) rfl (by rw [cnt_t (f := (fun j => (gW (iwM bs sm se) S) (T * 8 - j - 1))) (gW_3 (Nat.not_le.mp (fun q => c_34 (nI_le q (by omega)))) (bI_ne c_51))]; exact nI_1 _) (by decide) rfl (fun ls hl => ?_)
          refine lv_iload hx hb dX4_wrong_60 (lv_at hl 1 rfl) ?_
          refine tp_i (y := fsF (gW (iwM bs sm se) S) (T * 8) (k + 1)) ((fsF_t (gW_3 (Nat.not_le.mp (fun q => c_34 (nI_le q (by omega)))) (bI_ne c_51))).symm) ?_
          refine lv_istore_n (lv' := [(3, .int (fsF (gW (iwM bs sm se) S) (T * 8) (k + 1))), (2, .int (nI (cnt (fun j => (gW (iwM bs sm se) S) (T * 8 - j - 1)) (k + 1)))), (4, .int (nI (T * 8 - k - 1))), (0, .ref ((ad 0))), (1, .int (nI 2))]) hx hb dX4_wrong_62 rfl hl (by decide) rfl (fun ls hl => ?_)
          refine lv_iinc (v := (nI (T * 8 - (k + 1)) - nI 1)) (lv' := [(4, .int ((nI (T * 8 - (k + 1)) - nI 1))), (3, .int (fsF (gW (iwM bs sm se) S) (T * 8) (k + 1))), (2, .int (nI (cnt (fun j => (gW (iwM bs sm se) S) (T * 8 - j - 1)) (k + 1)))), (0, .ref ((ad 0))), (1, .int (nI 2))]) hx hb dX4_wrong_63 hl (k := 2) rfl (by rw [show T * 8 - (k + 1) = (T * 8 - k - 1) by omega]; exact nI_dec _) (by decide) rfl (fun ls hl => ?_)
          refine lv_goto (tgt := 20) hx hb dX4_wrong_66 (by decide) ?_
          exact ihk ls H locs ⟨lv_sub hl [0, 1, 2, 3, 4] rfl, hP, hD, hS⟩
        · skip
          rw [show cnt (fun j => (gW (iwM bs sm se) S) (T * 8 - j - 1)) k = cnt (fun j => (gW (iwM bs sm se) S) (T * 8 - j - 1)) (k + 1) from (cnt_f (f := (fun j => (gW (iwM bs sm se) S) (T * 8 - j - 1))) (gW_2 (bI_eq c_51))).symm, show fsF (gW (iwM bs sm se) S) (T * 8) k = fsF (gW (iwM bs sm se) S) (T * 8) (k + 1) from (fsF_f (gW_2 (bI_eq c_51))).symm] at hl
          refine lv_goto (tgt := 63) hx hb dX4_wrong_54 (by decide) ?_
          refine lv_iinc (v := (nI (T * 8 - (k + 1)) - nI 1)) (lv' := [(4, .int ((nI (T * 8 - (k + 1)) - nI 1))), (3, .int (fsF (gW (iwM bs sm se) S) (T * 8) (k + 1))), (2, .int (nI (cnt (fun j => (gW (iwM bs sm se) S) (T * 8 - j - 1)) (k + 1)))), (0, .ref ((ad 0))), (1, .int (nI 2))]) hx hb dX4_wrong_63 hl (k := 0) rfl (by rw [show T * 8 - (k + 1) = (T * 8 - k - 1) by omega]; exact nI_dec _) (by decide) rfl (fun ls hl => ?_)
          refine lv_goto (tgt := 20) hx hb dX4_wrong_66 (by decide) ?_
          exact ihk ls H locs ⟨lv_sub hl [0, 1, 2, 3, 4] rfl, hP, hD, hS⟩
  · skip
    clear hl hP hD hS
    obtain ⟨hl, hP, hD, hS⟩ := hI
    rw [show nI (T * 8 - T * 8) - nI 1 = -1 from by rw [Nat.sub_self]; rfl] at hl
    refine lv_iload hx hb dX4_wrong_20 (lv_at hl 0 rfl) ?_
    refine lv_if_lt (tgt := 69) hx hb dX4_wrong_22 (by decide) (fun c_22 => ?_) (fun c_22 => ?_)
    · skip
      refine lv_iload_n hx hb dX4_wrong_69 rfl (lv_at hl 4 rfl) ?_
      refine lv_if_ne (tgt := 75) hx hb dX4_wrong_70 (by decide) (fun c_70 => ?_) (fun c_70 => ?_)
      · skip
        refine lv_iload_n hx hb dX4_wrong_75 rfl (lv_at hl 2 rfl) ?_
        refine lv_if_eq (tgt := 89) hx hb dX4_wrong_76 (by decide) (fun c_76 => ?_) (fun c_76 => ?_)
        · exact absurd c_76 (nI_ne0 (Nat.pos_of_ne_zero hz) hbig)
        · skip
          refine lv_iload_n hx hb dX4_wrong_79 rfl (lv_at hl 4 rfl) ?_
          refine lv_iconst (v := nI 1) hx hb dX4_wrong_80 (by decide) ?_
          refine lv_icmp_lt (tgt := 89) hx hb dX4_wrong_81 (by decide) (fun c_81 => ?_) (fun c_81 => ?_)
          · exact absurd c_81 (by decide)
          · skip
            refine lv_iload_n hx hb dX4_wrong_84 rfl (lv_at hl 4 rfl) ?_
            refine lv_iconst (v := nI 2) hx hb dX4_wrong_85 (by decide) ?_
            refine lv_icmp_le (tgt := 91) hx hb dX4_wrong_86 (by decide) (fun c_86 => ?_) (fun c_86 => ?_)
            · skip
              refine lv_iload_n hx hb dX4_wrong_91 rfl (lv_at hl 4 rfl) ?_
              refine lv_iconst (v := nI 1) hx hb dX4_wrong_92 (by decide) ?_
              refine lv_icmp_ne (tgt := 103) hx hb dX4_wrong_93 (by decide) (fun c_93 => ?_) (fun c_93 => ?_)
              · skip
                refine lv_iload_n hx hb dX4_wrong_103 rfl (lv_at hl 1 rfl) ?_
                refine tp_i (y := nI (u * 8 + v)) (hfs) ?_
                refine lv_bipush (v := nI 8) hx hb dX4_wrong_104 (by decide) ?_
                refine lv_irem hx hb dX4_wrong_106 (by decide) ?_
                refine tp_i (y := nI v) (by rw [pk_rem (by omega) (by omega) (by omega)]; congr 1; omega) ?_
                have hP9 : va_P D vwCl (moW κ T S ad (nI 0) bs kp sm ks se sp ke kq vo nd wn wt wx wb dn tp tn ts) H := hP
                have hD9 : va_D A (moW κ T S ad (nI 0) bs kp sm ks se sp ke kq vo nd wn wt wx wb dn tp tn ts) := hD
                exact W.iret hx hb hr (fun t ht _ => ⟨⟨rfl, by rw [ht]; exact hP9, hD9⟩, hS.F ht⟩) hS.2.2 dX4_wrong_107 hlocks
              · exact absurd c_93 (by decide)
            · exact absurd (by decide) c_86
      · exact absurd c_70 (by decide)
    · exact absurd (by decide) c_22

set_option maxHeartbeats 4000000 in
set_option maxRecDepth 100000 in
/-- start: up -/
theorem m_start_up (l : Launch) (D : va_G) (κ : Nat → ClassId) (sz : Nat) (T S : Nat) (ad : Nat → Nat) (co : Int32) (bs kp sm ks se sp ke kq vo : Nat → Int32) (nd wn : Int32) (wt wx wb : Nat → Int32) (tp : Nat → Int32) (tn ts : Int32)   : Met l yX4_start wsX4_start ({ frames := 3, cells := 0, slots := 0, locals := 71 }) (va_Pc [.ref ((ad 0))] (mu_B D κ (moW κ T S ad co bs kp sm ks se sp ke kq vo nd wn wt wx wb (nI 0) tp tn ts) sz)) (mu_Q D (some (.int ((-5)))) (moW κ T S ad (nI 0) bs kp sm ks se sp ke kq vo nd wn wt wx wb (nI 0) tp tn ts) (va_A (moW κ T S ad co bs kp sm ks se sp ke kq vo nd wn wt wx wb (nI 0) tp tn ts) sz)) 0 0 (va_A (moW κ T S ad co bs kp sm ks se sp ke kq vo nd wn wt wx wb (nI 0) tp tn ts) sz) := by
  refine Met.ofW (cc := cX4_start) (maxL := 1) (ret := (some .int)) (by decide) rfl ?_
  intro p e s m args below meth c s₁ B hml hv
  obtain ⟨rfl, hsz, hP, hK, hD0⟩ := hv
  have hx := B.exec
  have hb := B.bytes
  have hr := B.returns
  have hts := atoms_spec (ws := wsX4_start) B.pre
  have hown : s.vm.findClass RX4 = some m.cls := findClass_of_methodNamed B.named
  have hlocks := B.notSynchronized
  subst hsz
  have hD := hD0.self (sz := s.heap.size)
  generalize hAe : va_A (moW κ T S ad co bs kp sm ks se sp ke kq vo nd wn wt wx wb (nI 0) tp tn ts) s.heap.size = A at hD ⊢
  have hA : ∀ q : Nat, s.heap.size ≤ q → A q := fun q h => by rw [← hAe]; exact Or.inr h
  refine W.gen (P := fun H locs => va_P D vwCl (moW κ T S ad co bs kp sm ks se sp ke kq vo nd wn wt wx wb (nI 0) tp tn ts) H ∧ va_S A s.heap H locs) (fun H locs h => ?_) ⟨hP, va_S.rf⟩
  clear hP
  obtain ⟨hP, hS⟩ := h
  have hl := lv_entry ([.ref ((ad 0))]) (n := 1) (Nat.le_of_ble_eq_true rfl)
  rw [lg_entry_eq]
  generalize (lg_sl ([.ref ((ad 0))]) ++ List.replicate (1 - (lg_sl ([.ref ((ad 0))])).length) Slot.unset).toArray = ls at hl ⊢
  have hl : lv_has ls 1 [(0, .ref ((ad 0)))] := hl
  refine lv_aload_n hx hb dX4_start_0 rfl (lv_at hl 0 rfl) ?_
  refine lv_iconst (v := nI 0) hx hb dX4_start_1 (by decide) ?_
  refine va_put (D := D) (ci := 5) (v := .int (nI 0)) (ty := .int) (C := RX4) (T := TX4) (N := 21) hx hb hts (by decide +kernel) tyX4 tyX4_ok nmX4 hown hK hP hD hS 0 rfl rfl 0 (by decide) (hts (.fieldLink RX4 61 "TrackDiskModel" "code" "I") (by decide +kernel)) (fun _ h9 => h9) rfl (by decide +kernel) rfl rfl (Nat.le_of_ble_eq_true rfl) dX4_start_2 (fun H locs hP hD hS => ?_)
  have hP : va_P D vwCl (moW κ T S ad (nI 0) bs kp sm ks se sp ke kq vo nd wn wt wx wb (nI 0) tp tn ts) H := hP
  have hD : va_D A (moW κ T S ad (nI 0) bs kp sm ks se sp ke kq vo nd wn wt wx wb (nI 0) tp tn ts) := hD
  refine lv_aload_n hx hb dX4_start_5 rfl (lv_at hl 0 rfl) ?_
  refine va_get (D := D) (ci := 5) (v := .int (nI 0)) (C := RX4) (T := TX4) (N := 21) hx hb hts (by decide +kernel) hown hK hP 0 rfl rfl 17 (by decide) (hts (.fieldLink RX4 73 "TrackDiskModel" "down" "Z") (by decide +kernel)) (fun _ h9 => h9) rfl dX4_start_6 ?_
  refine lv_if_ne (tgt := 15) hx hb dX4_start_9 (by decide) (fun c_9 => ?_) (fun c_9 => ?_)
  · exact absurd (by decide) c_9
  · skip
    refine lv_bipush (v := (-5)) hx hb dX4_start_12 (by decide) ?_
    have hP9 : va_P D vwCl (moW κ T S ad (nI 0) bs kp sm ks se sp ke kq vo nd wn wt wx wb (nI 0) tp tn ts) H := hP
    have hD9 : va_D A (moW κ T S ad (nI 0) bs kp sm ks se sp ke kq vo nd wn wt wx wb (nI 0) tp tn ts) := hD
    exact W.iret hx hb hr (fun t ht _ => ⟨⟨rfl, by rw [ht]; exact hP9, hD9⟩, hS.F ht⟩) hS.2.2 dX4_start_14 hlocks

set_option maxHeartbeats 4000000 in
set_option maxRecDepth 100000 in
/-- start -/
theorem m_start (l : Launch) (D : va_G) (κ : Nat → ClassId) (sz : Nat) (T S : Nat) (ad : Nat → Nat) (co : Int32) (bs kp sm ks se sp ke kq vo : Nat → Int32) (nd wn : Int32) (wt wx wb : Nat → Int32) (tp : Nat → Int32) (tn ts : Int32)  (hT : T ≤ 12) (hS8 : S ≤ 8) (hse : ∀ t, t < T → se t = -1 ∨ vp_in (se t) 14)  : Met l yX4_start wsX4_start ({ frames := 3, cells := 0, slots := 0, locals := 71 }) (va_Pc [.ref ((ad 0))] (mu_B D κ (moW κ T S ad co bs kp sm ks se sp ke kq vo nd wn wt wx wb (nI 1) tp tn ts) sz)) (mu_Q D (some (.int (nI (cnt (fun j => (gW (iwM bs sm se) S) (T * 8 - j - 1)) (T * 8))))) (moW κ T S ad (nI 0) bs kp sm ks se sp ke kq vo nd wn wt wx wb (nI 0) tp tn ts) (va_A (moW κ T S ad co bs kp sm ks se sp ke kq vo nd wn wt wx wb (nI 1) tp tn ts) sz)) 0 0 (va_A (moW κ T S ad co bs kp sm ks se sp ke kq vo nd wn wt wx wb (nI 1) tp tn ts) sz) := by
  refine Met.ofW (cc := cX4_start) (maxL := 1) (ret := (some .int)) (by decide) rfl ?_
  intro p e s m args below meth c s₁ B hml hv
  obtain ⟨rfl, hsz, hP, hK, hD0⟩ := hv
  have hx := B.exec
  have hb := B.bytes
  have hr := B.returns
  have hts := atoms_spec (ws := wsX4_start) B.pre
  have hown : s.vm.findClass RX4 = some m.cls := findClass_of_methodNamed B.named
  have hlocks := B.notSynchronized
  subst hsz
  have hD := hD0.self (sz := s.heap.size)
  generalize hAe : va_A (moW κ T S ad co bs kp sm ks se sp ke kq vo nd wn wt wx wb (nI 1) tp tn ts) s.heap.size = A at hD ⊢
  have hA : ∀ q : Nat, s.heap.size ≤ q → A q := fun q h => by rw [← hAe]; exact Or.inr h
  refine W.gen (P := fun H locs => va_P D vwCl (moW κ T S ad co bs kp sm ks se sp ke kq vo nd wn wt wx wb (nI 1) tp tn ts) H ∧ va_S A s.heap H locs) (fun H locs h => ?_) ⟨hP, va_S.rf⟩
  clear hP
  obtain ⟨hP, hS⟩ := h
  have hl := lv_entry ([.ref ((ad 0))]) (n := 1) (Nat.le_of_ble_eq_true rfl)
  rw [lg_entry_eq]
  generalize (lg_sl ([.ref ((ad 0))]) ++ List.replicate (1 - (lg_sl ([.ref ((ad 0))])).length) Slot.unset).toArray = ls at hl ⊢
  have hl : lv_has ls 1 [(0, .ref ((ad 0)))] := hl
  refine lv_aload_n hx hb dX4_start_0 rfl (lv_at hl 0 rfl) ?_
  refine lv_iconst (v := nI 0) hx hb dX4_start_1 (by decide) ?_
  refine va_put (D := D) (ci := 5) (v := .int (nI 0)) (ty := .int) (C := RX4) (T := TX4) (N := 21) hx hb hts (by decide +kernel) tyX4 tyX4_ok nmX4 hown hK hP hD hS 0 rfl rfl 0 (by decide) (hts (.fieldLink RX4 61 "TrackDiskModel" "code" "I") (by decide +kernel)) (fun _ h9 => h9) rfl (by decide +kernel) rfl rfl (Nat.le_of_ble_eq_true rfl) dX4_start_2 (fun H locs hP hD hS => ?_)
  have hP : va_P D vwCl (moW κ T S ad (nI 0) bs kp sm ks se sp ke kq vo nd wn wt wx wb (nI 1) tp tn ts) H := hP
  have hD : va_D A (moW κ T S ad (nI 0) bs kp sm ks se sp ke kq vo nd wn wt wx wb (nI 1) tp tn ts) := hD
  refine lv_aload_n hx hb dX4_start_5 rfl (lv_at hl 0 rfl) ?_
  refine va_get (D := D) (ci := 5) (v := .int (nI 1)) (C := RX4) (T := TX4) (N := 21) hx hb hts (by decide +kernel) hown hK hP 0 rfl rfl 17 (by decide) (hts (.fieldLink RX4 73 "TrackDiskModel" "down" "Z") (by decide +kernel)) (fun _ h9 => h9) rfl dX4_start_6 ?_
  refine lv_if_ne (tgt := 15) hx hb dX4_start_9 (by decide) (fun c_9 => ?_) (fun c_9 => ?_)
  · skip
    refine lv_aload_n hx hb dX4_start_15 rfl (lv_at hl 0 rfl) ?_
    refine lv_iconst (v := nI 0) hx hb dX4_start_16 (by decide) ?_
    refine va_put (D := D) (ci := 5) (v := .int (nI 0)) (ty := .boolean) (C := RX4) (T := TX4) (N := 21) hx hb hts (by decide +kernel) tyX4 tyX4_ok nmX4 hown hK hP hD hS 0 rfl rfl 17 (by decide) (hts (.fieldLink RX4 73 "TrackDiskModel" "down" "Z") (by decide +kernel)) (fun _ h9 => h9) rfl (by decide +kernel) rfl rfl (Nat.le_of_ble_eq_true rfl) dX4_start_17 (fun H locs hP hD hS => ?_)
    have hP : va_P D vwCl (moW κ T S ad (nI 0) bs kp sm ks se sp ke kq vo nd wn wt wx wb (nI 0) tp tn ts) H := hP
    have hD : va_D A (moW κ T S ad (nI 0) bs kp sm ks se sp ke kq vo nd wn wt wx wb (nI 0) tp tn ts) := hD
    refine lv_aload_n hx hb dX4_start_20 rfl (lv_at hl 0 rfl) ?_
    refine lv_iconst (v := nI 0) hx hb dX4_start_21 (by decide) ?_
    have hPc := hP.sub (ws' := moW κ T S ad (nI 0) bs kp sm ks se sp ke kq vo nd wn wt wx wb (nI 0) tp tn ts) [0, 1, 2, 3, 4, 5, 6, 7, 8, 9, 10, 11, 12, 13] rfl
    have hDc := hD.sub (ws' := moW κ T S ad (nI 0) bs kp sm ks se sp ke kq vo nd wn wt wx wb (nI 0) tp tn ts) [0, 1, 2, 3, 4, 5, 6, 7, 8, 9, 10, 11, 12, 13] (by decide) rfl
    refine mu_call (wc := moW κ T S ad (nI 0) bs kp sm ks se sp ke kq vo nd wn wt wx wb (nI 0) tp tn ts) (wc' := moW κ T S ad (nI 0) bs kp sm ks se sp ke kq vo nd wn wt wx wb (nI 0) tp tn ts) (ws' := moW κ T S ad (nI 0) bs kp sm ks se sp ke kq vo nd wn wt wx wb (nI 0) tp tn ts) (wr := (([] : List Nat).filterMap fun i => (moW κ T S ad (nI 0) bs kp sm ks se sp ke kq vo nd wn wt wx wb (nI 0) tp tn ts)[i]?)) (va_runV (As := [.int (nI 0)]) (rest := []) ⟨hx, hb, hml, hown, hts⟩ (m_wrong_0 l D κ H.size T S ad (nI 0) bs kp sm ks se sp ke kq vo nd wn wt wx wb (nI 0) tp tn ts hT hS8 hse) (cwV 1 hts gX4_start_X4_wrong rfl rfl rfl (by decide +kernel) ⟨Nat.le_of_ble_eq_true rfl, Nat.le_of_ble_eq_true rfl⟩) ⟨mu_blind, va_recv hK hPc (ci := 5) (q0 := 0) rfl rfl, mu_pre hK hPc hDc⟩ rfl rfl hl.1 rfl (lv_room (Nat.le_of_ble_eq_true rfl)) dX4_start_22 ⟨Nat.le_of_ble_eq_true rfl, Nat.le_of_ble_eq_true rfl⟩) hP hD hS hA [0, 1, 2, 3, 4, 5, 6, 7, 8, 9, 10, 11, 12, 13] [] [0, 1, 2, 3, 4, 5, 6, 7, 8, 9, 10, 11, 12, 13] rfl rfl (by decide) (by decide) rfl rfl (by decide) (fun H locs hP hD hS => ?_)
    refine W.eq (g2 := F0 m 25 ls [.int (nI (cnt (fun j => (gW (iwM bs sm se) S) (T * 8 - j - 1)) (T * 8)))]) rfl ?_
    have hP9 : va_P D vwCl (moW κ T S ad (nI 0) bs kp sm ks se sp ke kq vo nd wn wt wx wb (nI 0) tp tn ts) H := hP
    have hD9 : va_D A (moW κ T S ad (nI 0) bs kp sm ks se sp ke kq vo nd wn wt wx wb (nI 0) tp tn ts) := hD
    exact W.iret hx hb hr (fun t ht _ => ⟨⟨rfl, by rw [ht]; exact hP9, hD9⟩, hS.F ht⟩) hS.2.2 dX4_start_25 hlocks
  · exact absurd c_9 (by decide)

set_option maxHeartbeats 4000000 in
set_option maxRecDepth 100000 in
/-- poke: none -/
theorem m_poke_no (l : Launch) (D : va_G) (κ : Nat → ClassId) (sz : Nat) (T S : Nat) (ad : Nat → Nat) (co : Int32) (bs kp sm ks se sp ke kq vo : Nat → Int32) (nd wn : Int32) (wt wx wb : Nat → Int32) (dn : Int32) (tp : Nat → Int32) (tn ts : Int32) (x y i m0 : Int32) (hno : (inF x T && inF y S) = false) : Met l yX4_poke wsX4_poke ({ frames := 2, cells := 0, slots := 0, locals := 43 }) (va_Pc [.ref ((ad 0)), .int x, .int y, .int i, .int m0] (mu_B D κ (moW κ T S ad co bs kp sm ks se sp ke kq vo nd wn wt wx wb dn tp tn ts) sz)) (mu_Q D (some (.int ((-2)))) (moW κ T S ad (nI 0) bs kp sm ks se sp ke kq vo nd wn wt wx wb dn tp tn ts) (va_A (moW κ T S ad co bs kp sm ks se sp ke kq vo nd wn wt wx wb dn tp tn ts) sz)) 0 0 (va_A (moW κ T S ad co bs kp sm ks se sp ke kq vo nd wn wt wx wb dn tp tn ts) sz) := by
  refine Met.ofW (cc := cX4_poke) (maxL := 7) (ret := (some .int)) (by decide) rfl ?_
  intro p e s m args below meth c s₁ B hml hv
  obtain ⟨rfl, hsz, hP, hK, hD0⟩ := hv
  have hx := B.exec
  have hb := B.bytes
  have hr := B.returns
  have hts := atoms_spec (ws := wsX4_poke) B.pre
  have hown : s.vm.findClass RX4 = some m.cls := findClass_of_methodNamed B.named
  have hlocks := B.notSynchronized
  subst hsz
  have hD := hD0.self (sz := s.heap.size)
  generalize hAe : va_A (moW κ T S ad co bs kp sm ks se sp ke kq vo nd wn wt wx wb dn tp tn ts) s.heap.size = A at hD ⊢
  have hA : ∀ q : Nat, s.heap.size ≤ q → A q := fun q h => by rw [← hAe]; exact Or.inr h
  refine W.gen (P := fun H locs => va_P D vwCl (moW κ T S ad co bs kp sm ks se sp ke kq vo nd wn wt wx wb dn tp tn ts) H ∧ va_S A s.heap H locs) (fun H locs h => ?_) ⟨hP, va_S.rf⟩
  clear hP
  obtain ⟨hP, hS⟩ := h
  have hl := lv_entry ([.ref ((ad 0)), .int x, .int y, .int i, .int m0]) (n := 7) (Nat.le_of_ble_eq_true rfl)
  rw [lg_entry_eq]
  generalize (lg_sl ([.ref ((ad 0)), .int x, .int y, .int i, .int m0]) ++ List.replicate (7 - (lg_sl ([.ref ((ad 0)), .int x, .int y, .int i, .int m0])).length) Slot.unset).toArray = ls at hl ⊢
  have hl : lv_has ls 7 [(0, .ref ((ad 0))), (1, .int x), (2, .int y), (3, .int i), (4, .int m0)] := hl
  refine lv_aload_n hx hb dX4_poke_0 rfl (lv_at hl 0 rfl) ?_
  refine lv_iconst (v := nI 0) hx hb dX4_poke_1 (by decide) ?_
  refine va_put (D := D) (ci := 5) (v := .int (nI 0)) (ty := .int) (C := RX4) (T := TX4) (N := 21) hx hb hts (by decide +kernel) tyX4 tyX4_ok nmX4 hown hK hP hD hS 0 rfl rfl 0 (by decide) (hts (.fieldLink RX4 61 "TrackDiskModel" "code" "I") (by decide +kernel)) (fun _ h9 => h9) rfl (by decide +kernel) rfl rfl (Nat.le_of_ble_eq_true rfl) dX4_poke_2 (fun H locs hP hD hS => ?_)
  have hP : va_P D vwCl (moW κ T S ad (nI 0) bs kp sm ks se sp ke kq vo nd wn wt wx wb dn tp tn ts) H := hP
  have hD : va_D A (moW κ T S ad (nI 0) bs kp sm ks se sp ke kq vo nd wn wt wx wb dn tp tn ts) := hD
  refine lv_aload_n hx hb dX4_poke_5 rfl (lv_at hl 0 rfl) ?_
  refine lv_iload_n hx hb dX4_poke_6 rfl (lv_at hl 1 rfl) ?_
  refine lv_iload_n hx hb dX4_poke_7 rfl (lv_at hl 2 rfl) ?_
  have hPc := hP.sub (ws' := moW κ T S ad (nI 0) bs kp sm ks se sp ke kq vo nd wn wt wx wb dn tp tn ts) [0, 1, 2, 3, 4, 5, 6, 7, 8, 9, 10, 11, 12, 13] rfl
  refine pu_call (va_runV (As := [.int x, .int y]) (rest := []) ⟨hx, hb, hml, hown, hts⟩ (m_isSector l D κ T S ad (nI 0) bs kp sm ks se sp ke kq vo nd wn wt wx wb dn tp tn ts x y) (cwV 2 hts gX4_poke_X4_isSector rfl rfl rfl (by decide +kernel) ⟨Nat.le_of_ble_eq_true rfl, Nat.le_of_ble_eq_true rfl⟩) ⟨pu_blind, va_recv hK hPc (ci := 5) (q0 := 0) rfl rfl, pu_pre hK hPc⟩ rfl rfl hl.1 rfl (lv_room (Nat.le_of_ble_eq_true rfl)) dX4_poke_8 ⟨Nat.le_of_ble_eq_true rfl, Nat.le_of_ble_eq_true rfl⟩) ?_
  refine lv_if_ne (tgt := 17) hx hb dX4_poke_11 (by decide) (fun c_11 => ?_) (fun c_11 => ?_)
  · exact (bI_cf hno c_11).elim
  · skip
    refine lv_bipush (v := (-2)) hx hb dX4_poke_14 (by decide) ?_
    have hP9 : va_P D vwCl (moW κ T S ad (nI 0) bs kp sm ks se sp ke kq vo nd wn wt wx wb dn tp tn ts) H := hP
    have hD9 : va_D A (moW κ T S ad (nI 0) bs kp sm ks se sp ke kq vo nd wn wt wx wb dn tp tn ts) := hD
    exact W.iret hx hb hr (fun t ht _ => ⟨⟨rfl, by rw [ht]; exact hP9, hD9⟩, hS.F ht⟩) hS.2.2 dX4_poke_16 hlocks

set_option maxHeartbeats 4000000 in
set_option maxRecDepth 100000 in
/-- poke: i -/
theorem m_poke_bi (l : Launch) (D : va_G) (κ : Nat → ClassId) (sz : Nat) (T S : Nat) (ad : Nat → Nat) (co : Int32) (bs kp sm ks se sp ke kq vo : Nat → Int32) (nd wn : Int32) (wt wx wb : Nat → Int32) (dn : Int32) (tp : Nat → Int32) (tn ts : Int32) (hT : T ≤ 12) (hS8 : S ≤ 8) (t b : Nat) (ht : t < T) (hb0 : b < S) (i m0 : Int32) (hi : inF i 16 = false) : Met l yX4_poke wsX4_poke ({ frames := 2, cells := 0, slots := 0, locals := 43 }) (va_Pc [.ref ((ad 0)), .int (nI t), .int (nI b), .int i, .int m0] (mu_B D κ (moW κ T S ad co bs kp sm ks se sp ke kq vo nd wn wt wx wb dn tp tn ts) sz)) (mu_Q D (some (.int ((-4)))) (moW κ T S ad (nI 0) bs kp sm ks se sp ke kq vo nd wn wt wx wb dn tp tn ts) (va_A (moW κ T S ad co bs kp sm ks se sp ke kq vo nd wn wt wx wb dn tp tn ts) sz)) 0 0 (va_A (moW κ T S ad co bs kp sm ks se sp ke kq vo nd wn wt wx wb dn tp tn ts) sz) := by
  refine Met.ofW (cc := cX4_poke) (maxL := 7) (ret := (some .int)) (by decide) rfl ?_
  intro p e s m args below meth c s₁ B hml hv
  obtain ⟨rfl, hsz, hP, hK, hD0⟩ := hv
  have hx := B.exec
  have hb := B.bytes
  have hr := B.returns
  have hts := atoms_spec (ws := wsX4_poke) B.pre
  have hown : s.vm.findClass RX4 = some m.cls := findClass_of_methodNamed B.named
  have hlocks := B.notSynchronized
  subst hsz
  have hD := hD0.self (sz := s.heap.size)
  generalize hAe : va_A (moW κ T S ad co bs kp sm ks se sp ke kq vo nd wn wt wx wb dn tp tn ts) s.heap.size = A at hD ⊢
  have hA : ∀ q : Nat, s.heap.size ≤ q → A q := fun q h => by rw [← hAe]; exact Or.inr h
  refine W.gen (P := fun H locs => va_P D vwCl (moW κ T S ad co bs kp sm ks se sp ke kq vo nd wn wt wx wb dn tp tn ts) H ∧ va_S A s.heap H locs) (fun H locs h => ?_) ⟨hP, va_S.rf⟩
  clear hP
  obtain ⟨hP, hS⟩ := h
  have hl := lv_entry ([.ref ((ad 0)), .int (nI t), .int (nI b), .int i, .int m0]) (n := 7) (Nat.le_of_ble_eq_true rfl)
  rw [lg_entry_eq]
  generalize (lg_sl ([.ref ((ad 0)), .int (nI t), .int (nI b), .int i, .int m0]) ++ List.replicate (7 - (lg_sl ([.ref ((ad 0)), .int (nI t), .int (nI b), .int i, .int m0])).length) Slot.unset).toArray = ls at hl ⊢
  have hl : lv_has ls 7 [(0, .ref ((ad 0))), (1, .int (nI t)), (2, .int (nI b)), (3, .int i), (4, .int m0)] := hl
  refine lv_aload_n hx hb dX4_poke_0 rfl (lv_at hl 0 rfl) ?_
  refine lv_iconst (v := nI 0) hx hb dX4_poke_1 (by decide) ?_
  refine va_put (D := D) (ci := 5) (v := .int (nI 0)) (ty := .int) (C := RX4) (T := TX4) (N := 21) hx hb hts (by decide +kernel) tyX4 tyX4_ok nmX4 hown hK hP hD hS 0 rfl rfl 0 (by decide) (hts (.fieldLink RX4 61 "TrackDiskModel" "code" "I") (by decide +kernel)) (fun _ h9 => h9) rfl (by decide +kernel) rfl rfl (Nat.le_of_ble_eq_true rfl) dX4_poke_2 (fun H locs hP hD hS => ?_)
  have hP : va_P D vwCl (moW κ T S ad (nI 0) bs kp sm ks se sp ke kq vo nd wn wt wx wb dn tp tn ts) H := hP
  have hD : va_D A (moW κ T S ad (nI 0) bs kp sm ks se sp ke kq vo nd wn wt wx wb dn tp tn ts) := hD
  refine lv_aload_n hx hb dX4_poke_5 rfl (lv_at hl 0 rfl) ?_
  refine lv_iload_n hx hb dX4_poke_6 rfl (lv_at hl 1 rfl) ?_
  refine lv_iload_n hx hb dX4_poke_7 rfl (lv_at hl 2 rfl) ?_
  have hPc := hP.sub (ws' := moW κ T S ad (nI 0) bs kp sm ks se sp ke kq vo nd wn wt wx wb dn tp tn ts) [0, 1, 2, 3, 4, 5, 6, 7, 8, 9, 10, 11, 12, 13] rfl
  refine pu_call (va_runV (As := [.int (nI t), .int (nI b)]) (rest := []) ⟨hx, hb, hml, hown, hts⟩ (m_isSector l D κ T S ad (nI 0) bs kp sm ks se sp ke kq vo nd wn wt wx wb dn tp tn ts (nI t) (nI b)) (cwV 2 hts gX4_poke_X4_isSector rfl rfl rfl (by decide +kernel) ⟨Nat.le_of_ble_eq_true rfl, Nat.le_of_ble_eq_true rfl⟩) ⟨pu_blind, va_recv hK hPc (ci := 5) (q0 := 0) rfl rfl, pu_pre hK hPc⟩ rfl rfl hl.1 rfl (lv_room (Nat.le_of_ble_eq_true rfl)) dX4_poke_8 ⟨Nat.le_of_ble_eq_true rfl, Nat.le_of_ble_eq_true rfl⟩) ?_
  refine lv_if_ne (tgt := 17) hx hb dX4_poke_11 (by decide) (fun c_11 => ?_) (fun c_11 => ?_)
  · skip
    refine lv_iload_n hx hb dX4_poke_17 rfl (lv_at hl 3 rfl) ?_
    refine lv_if_lt (tgt := 36) hx hb dX4_poke_18 (by decide) (fun c_18 => ?_) (fun c_18 => ?_)
    · skip
      refine lv_bipush (v := (-4)) hx hb dX4_poke_36 (by decide) ?_
      have hP9 : va_P D vwCl (moW κ T S ad (nI 0) bs kp sm ks se sp ke kq vo nd wn wt wx wb dn tp tn ts) H := hP
      have hD9 : va_D A (moW κ T S ad (nI 0) bs kp sm ks se sp ke kq vo nd wn wt wx wb dn tp tn ts) := hD
      exact W.iret hx hb hr (fun t ht _ => ⟨⟨rfl, by rw [ht]; exact hP9, hD9⟩, hS.F ht⟩) hS.2.2 dX4_poke_38 hlocks
    · skip
      refine lv_iload_n hx hb dX4_poke_21 rfl (lv_at hl 3 rfl) ?_
      refine lv_bipush (v := nI 16) hx hb dX4_poke_22 (by decide) ?_
      refine lv_icmp_ge (tgt := 36) hx hb dX4_poke_24 (by decide) (fun c_24 => ?_) (fun c_24 => ?_)
      · skip
        refine lv_bipush (v := (-4)) hx hb dX4_poke_36 (by decide) ?_
        have hP9 : va_P D vwCl (moW κ T S ad (nI 0) bs kp sm ks se sp ke kq vo nd wn wt wx wb dn tp tn ts) H := hP
        have hD9 : va_D A (moW κ T S ad (nI 0) bs kp sm ks se sp ke kq vo nd wn wt wx wb dn tp tn ts) := hD
        exact W.iret hx hb hr (fun t ht _ => ⟨⟨rfl, by rw [ht]; exact hP9, hD9⟩, hS.F ht⟩) hS.2.2 dX4_poke_38 hlocks
      · exact absurd (inF_t c_18 c_24) (by rw [hi]; decide)
  · exact (bI_ct (by rw [inF_nI ht (by omega), inF_nI hb0 (by omega)]; rfl) c_11).elim

set_option maxHeartbeats 4000000 in
set_option maxRecDepth 100000 in
/-- poke: mask 0 -/
theorem m_poke_bm (l : Launch) (D : va_G) (κ : Nat → ClassId) (sz : Nat) (T S : Nat) (ad : Nat → Nat) (co : Int32) (bs kp sm ks se sp ke kq vo : Nat → Int32) (nd wn : Int32) (wt wx wb : Nat → Int32) (dn : Int32) (tp : Nat → Int32) (tn ts : Int32) (hT : T ≤ 12) (hS8 : S ≤ 8) (t b : Nat) (ht : t < T) (hb0 : b < S) (i : Nat) (hi : i < 16) (m0 : Int32) (hm : (m0 &&& nI 255) = 0) : Met l yX4_poke wsX4_poke ({ frames := 2, cells := 0, slots := 0, locals := 43 }) (va_Pc [.ref ((ad 0)), .int (nI t), .int (nI b), .int (nI i), .int m0] (mu_B D κ (moW κ T S ad co bs kp sm ks se sp ke kq vo nd wn wt wx wb dn tp tn ts) sz)) (mu_Q D (some (.int ((-4)))) (moW κ T S ad (nI 0) bs kp sm ks se sp ke kq vo nd wn wt wx wb dn tp tn ts) (va_A (moW κ T S ad co bs kp sm ks se sp ke kq vo nd wn wt wx wb dn tp tn ts) sz)) 0 0 (va_A (moW κ T S ad co bs kp sm ks se sp ke kq vo nd wn wt wx wb dn tp tn ts) sz) := by
  refine Met.ofW (cc := cX4_poke) (maxL := 7) (ret := (some .int)) (by decide) rfl ?_
  intro p e s m args below meth c s₁ B hml hv
  obtain ⟨rfl, hsz, hP, hK, hD0⟩ := hv
  have hx := B.exec
  have hb := B.bytes
  have hr := B.returns
  have hts := atoms_spec (ws := wsX4_poke) B.pre
  have hown : s.vm.findClass RX4 = some m.cls := findClass_of_methodNamed B.named
  have hlocks := B.notSynchronized
  subst hsz
  have hD := hD0.self (sz := s.heap.size)
  generalize hAe : va_A (moW κ T S ad co bs kp sm ks se sp ke kq vo nd wn wt wx wb dn tp tn ts) s.heap.size = A at hD ⊢
  have hA : ∀ q : Nat, s.heap.size ≤ q → A q := fun q h => by rw [← hAe]; exact Or.inr h
  refine W.gen (P := fun H locs => va_P D vwCl (moW κ T S ad co bs kp sm ks se sp ke kq vo nd wn wt wx wb dn tp tn ts) H ∧ va_S A s.heap H locs) (fun H locs h => ?_) ⟨hP, va_S.rf⟩
  clear hP
  obtain ⟨hP, hS⟩ := h
  have hl := lv_entry ([.ref ((ad 0)), .int (nI t), .int (nI b), .int (nI i), .int m0]) (n := 7) (Nat.le_of_ble_eq_true rfl)
  rw [lg_entry_eq]
  generalize (lg_sl ([.ref ((ad 0)), .int (nI t), .int (nI b), .int (nI i), .int m0]) ++ List.replicate (7 - (lg_sl ([.ref ((ad 0)), .int (nI t), .int (nI b), .int (nI i), .int m0])).length) Slot.unset).toArray = ls at hl ⊢
  have hl : lv_has ls 7 [(0, .ref ((ad 0))), (1, .int (nI t)), (2, .int (nI b)), (3, .int (nI i)), (4, .int m0)] := hl
  refine lv_aload_n hx hb dX4_poke_0 rfl (lv_at hl 0 rfl) ?_
  refine lv_iconst (v := nI 0) hx hb dX4_poke_1 (by decide) ?_
  refine va_put (D := D) (ci := 5) (v := .int (nI 0)) (ty := .int) (C := RX4) (T := TX4) (N := 21) hx hb hts (by decide +kernel) tyX4 tyX4_ok nmX4 hown hK hP hD hS 0 rfl rfl 0 (by decide) (hts (.fieldLink RX4 61 "TrackDiskModel" "code" "I") (by decide +kernel)) (fun _ h9 => h9) rfl (by decide +kernel) rfl rfl (Nat.le_of_ble_eq_true rfl) dX4_poke_2 (fun H locs hP hD hS => ?_)
  have hP : va_P D vwCl (moW κ T S ad (nI 0) bs kp sm ks se sp ke kq vo nd wn wt wx wb dn tp tn ts) H := hP
  have hD : va_D A (moW κ T S ad (nI 0) bs kp sm ks se sp ke kq vo nd wn wt wx wb dn tp tn ts) := hD
  refine lv_aload_n hx hb dX4_poke_5 rfl (lv_at hl 0 rfl) ?_
  refine lv_iload_n hx hb dX4_poke_6 rfl (lv_at hl 1 rfl) ?_
  refine lv_iload_n hx hb dX4_poke_7 rfl (lv_at hl 2 rfl) ?_
  have hPc := hP.sub (ws' := moW κ T S ad (nI 0) bs kp sm ks se sp ke kq vo nd wn wt wx wb dn tp tn ts) [0, 1, 2, 3, 4, 5, 6, 7, 8, 9, 10, 11, 12, 13] rfl
  refine pu_call (va_runV (As := [.int (nI t), .int (nI b)]) (rest := []) ⟨hx, hb, hml, hown, hts⟩ (m_isSector l D κ T S ad (nI 0) bs kp sm ks se sp ke kq vo nd wn wt wx wb dn tp tn ts (nI t) (nI b)) (cwV 2 hts gX4_poke_X4_isSector rfl rfl rfl (by decide +kernel) ⟨Nat.le_of_ble_eq_true rfl, Nat.le_of_ble_eq_true rfl⟩) ⟨pu_blind, va_recv hK hPc (ci := 5) (q0 := 0) rfl rfl, pu_pre hK hPc⟩ rfl rfl hl.1 rfl (lv_room (Nat.le_of_ble_eq_true rfl)) dX4_poke_8 ⟨Nat.le_of_ble_eq_true rfl, Nat.le_of_ble_eq_true rfl⟩) ?_
  refine lv_if_ne (tgt := 17) hx hb dX4_poke_11 (by decide) (fun c_11 => ?_) (fun c_11 => ?_)
  · skip
    refine lv_iload_n hx hb dX4_poke_17 rfl (lv_at hl 3 rfl) ?_
    refine lv_if_lt (tgt := 36) hx hb dX4_poke_18 (by decide) (fun c_18 => ?_) (fun c_18 => ?_)
    · exact absurd c_18 (nI_pos (by omega))
    · skip
      refine lv_iload_n hx hb dX4_poke_21 rfl (lv_at hl 3 rfl) ?_
      refine lv_bipush (v := nI 16) hx hb dX4_poke_22 (by decide) ?_
      refine lv_icmp_ge (tgt := 36) hx hb dX4_poke_24 (by decide) (fun c_24 => ?_) (fun c_24 => ?_)
      · exact absurd c_24 (nI_ge hi (by omega))
      · skip
        refine lv_iload hx hb dX4_poke_27 (lv_at hl 4 rfl) ?_
        refine lv_sipush (v := nI 255) hx hb dX4_poke_29 (by decide) ?_
        refine lv_iand hx hb dX4_poke_32 ?_
        refine lv_if_ne (tgt := 39) hx hb dX4_poke_33 (by decide) (fun c_33 => ?_) (fun c_33 => ?_)
        · exact absurd hm c_33
        · skip
          refine lv_bipush (v := (-4)) hx hb dX4_poke_36 (by decide) ?_
          have hP9 : va_P D vwCl (moW κ T S ad (nI 0) bs kp sm ks se sp ke kq vo nd wn wt wx wb dn tp tn ts) H := hP
          have hD9 : va_D A (moW κ T S ad (nI 0) bs kp sm ks se sp ke kq vo nd wn wt wx wb dn tp tn ts) := hD
          exact W.iret hx hb hr (fun t ht _ => ⟨⟨rfl, by rw [ht]; exact hP9, hD9⟩, hS.F ht⟩) hS.2.2 dX4_poke_38 hlocks
  · exact (bI_ct (by rw [inF_nI ht (by omega), inF_nI hb0 (by omega)]; rfl) c_11).elim

set_option maxHeartbeats 4000000 in
set_option maxRecDepth 100000 in
/-- poke -/
theorem m_poke (l : Launch) (D : va_G) (κ : Nat → ClassId) (sz : Nat) (T S : Nat) (ad : Nat → Nat) (co : Int32) (bs kp sm ks se sp ke kq vo : Nat → Int32) (nd wn : Int32) (wt wx wb : Nat → Int32) (dn : Int32) (tp : Nat → Int32) (tn ts : Int32) (hT : T ≤ 12) (hS8 : S ≤ 8) (hse : ∀ t, t < T → se t = -1 ∨ vp_in (se t) 14) (t b : Nat) (ht : t < T) (hb0 : b < S) (i : Nat) (hi : i < 16) (m0 : Int32) (hm : ¬ (m0 &&& nI 255) = 0) : Met l yX4_poke wsX4_poke ({ frames := 2, cells := 0, slots := 0, locals := 43 }) (va_Pc [.ref ((ad 0)), .int (nI t), .int (nI b), .int (nI i), .int m0] (mu_B D κ (moW κ T S ad co bs kp sm ks se sp ke kq vo nd wn wt wx wb dn tp tn ts) sz)) (mu_Q D (some (.int (bs (16 * (8 * mlF se t + b) + i) &&& nI 255))) (moW κ T S ad (nI 0) (upd bs (16 * (8 * mlF se t + b) + i) (((bs (16 * (8 * mlF se t + b) + i) &&& nI 255) ^^^ m0).toInt8.toInt32)) kp sm ks se sp ke kq vo nd wn wt wx wb dn tp tn ts) (va_A (moW κ T S ad co bs kp sm ks se sp ke kq vo nd wn wt wx wb dn tp tn ts) sz)) 0 0 (va_A (moW κ T S ad co bs kp sm ks se sp ke kq vo nd wn wt wx wb dn tp tn ts) sz) := by
  refine Met.ofW (cc := cX4_poke) (maxL := 7) (ret := (some .int)) (by decide) rfl ?_
  intro p e s m args below meth c s₁ B hml hv
  obtain ⟨rfl, hsz, hP, hK, hD0⟩ := hv
  have hx := B.exec
  have hb := B.bytes
  have hr := B.returns
  have hts := atoms_spec (ws := wsX4_poke) B.pre
  have hown : s.vm.findClass RX4 = some m.cls := findClass_of_methodNamed B.named
  have hlocks := B.notSynchronized
  subst hsz
  have hD := hD0.self (sz := s.heap.size)
  generalize hAe : va_A (moW κ T S ad co bs kp sm ks se sp ke kq vo nd wn wt wx wb dn tp tn ts) s.heap.size = A at hD ⊢
  have hA : ∀ q : Nat, s.heap.size ≤ q → A q := fun q h => by rw [← hAe]; exact Or.inr h
  refine W.gen (P := fun H locs => va_P D vwCl (moW κ T S ad co bs kp sm ks se sp ke kq vo nd wn wt wx wb dn tp tn ts) H ∧ va_S A s.heap H locs) (fun H locs h => ?_) ⟨hP, va_S.rf⟩
  clear hP
  obtain ⟨hP, hS⟩ := h
  have hl := lv_entry ([.ref ((ad 0)), .int (nI t), .int (nI b), .int (nI i), .int m0]) (n := 7) (Nat.le_of_ble_eq_true rfl)
  rw [lg_entry_eq]
  generalize (lg_sl ([.ref ((ad 0)), .int (nI t), .int (nI b), .int (nI i), .int m0]) ++ List.replicate (7 - (lg_sl ([.ref ((ad 0)), .int (nI t), .int (nI b), .int (nI i), .int m0])).length) Slot.unset).toArray = ls at hl ⊢
  have hl : lv_has ls 7 [(0, .ref ((ad 0))), (1, .int (nI t)), (2, .int (nI b)), (3, .int (nI i)), (4, .int m0)] := hl
  have hml0 := mlF_lt hT hse ht
  refine lv_aload_n hx hb dX4_poke_0 rfl (lv_at hl 0 rfl) ?_
  refine lv_iconst (v := nI 0) hx hb dX4_poke_1 (by decide) ?_
  refine va_put (D := D) (ci := 5) (v := .int (nI 0)) (ty := .int) (C := RX4) (T := TX4) (N := 21) hx hb hts (by decide +kernel) tyX4 tyX4_ok nmX4 hown hK hP hD hS 0 rfl rfl 0 (by decide) (hts (.fieldLink RX4 61 "TrackDiskModel" "code" "I") (by decide +kernel)) (fun _ h9 => h9) rfl (by decide +kernel) rfl rfl (Nat.le_of_ble_eq_true rfl) dX4_poke_2 (fun H locs hP hD hS => ?_)
  have hP : va_P D vwCl (moW κ T S ad (nI 0) bs kp sm ks se sp ke kq vo nd wn wt wx wb dn tp tn ts) H := hP
  have hD : va_D A (moW κ T S ad (nI 0) bs kp sm ks se sp ke kq vo nd wn wt wx wb dn tp tn ts) := hD
  refine lv_aload_n hx hb dX4_poke_5 rfl (lv_at hl 0 rfl) ?_
  refine lv_iload_n hx hb dX4_poke_6 rfl (lv_at hl 1 rfl) ?_
  refine lv_iload_n hx hb dX4_poke_7 rfl (lv_at hl 2 rfl) ?_
  have hPc := hP.sub (ws' := moW κ T S ad (nI 0) bs kp sm ks se sp ke kq vo nd wn wt wx wb dn tp tn ts) [0, 1, 2, 3, 4, 5, 6, 7, 8, 9, 10, 11, 12, 13] rfl
  refine pu_call (va_runV (As := [.int (nI t), .int (nI b)]) (rest := []) ⟨hx, hb, hml, hown, hts⟩ (m_isSector l D κ T S ad (nI 0) bs kp sm ks se sp ke kq vo nd wn wt wx wb dn tp tn ts (nI t) (nI b)) (cwV 2 hts gX4_poke_X4_isSector rfl rfl rfl (by decide +kernel) ⟨Nat.le_of_ble_eq_true rfl, Nat.le_of_ble_eq_true rfl⟩) ⟨pu_blind, va_recv hK hPc (ci := 5) (q0 := 0) rfl rfl, pu_pre hK hPc⟩ rfl rfl hl.1 rfl (lv_room (Nat.le_of_ble_eq_true rfl)) dX4_poke_8 ⟨Nat.le_of_ble_eq_true rfl, Nat.le_of_ble_eq_true rfl⟩) ?_
  refine lv_if_ne (tgt := 17) hx hb dX4_poke_11 (by decide) (fun c_11 => ?_) (fun c_11 => ?_)
  · skip
    refine lv_iload_n hx hb dX4_poke_17 rfl (lv_at hl 3 rfl) ?_
    refine lv_if_lt (tgt := 36) hx hb dX4_poke_18 (by decide) (fun c_18 => ?_) (fun c_18 => ?_)
    · exact absurd c_18 (nI_pos (by omega))
    · skip
      refine lv_iload_n hx hb dX4_poke_21 rfl (lv_at hl 3 rfl) ?_
      refine lv_bipush (v := nI 16) hx hb dX4_poke_22 (by decide) ?_
      refine lv_icmp_ge (tgt := 36) hx hb dX4_poke_24 (by decide) (fun c_24 => ?_) (fun c_24 => ?_)
      · exact absurd c_24 (nI_ge hi (by omega))
      · skip
        refine lv_iload hx hb dX4_poke_27 (lv_at hl 4 rfl) ?_
        refine lv_sipush (v := nI 255) hx hb dX4_poke_29 (by decide) ?_
        refine lv_iand hx hb dX4_poke_32 ?_
        refine lv_if_ne (tgt := 39) hx hb dX4_poke_33 (by decide) (fun c_33 => ?_) (fun c_33 => ?_)
        · skip
          refine lv_bipush (v := nI 16) hx hb dX4_poke_39 (by decide) ?_
          refine lv_aload_n hx hb dX4_poke_41 rfl (lv_at hl 0 rfl) ?_
          refine lv_iload_n hx hb dX4_poke_42 rfl (lv_at hl 1 rfl) ?_
          refine lv_iload_n hx hb dX4_poke_43 rfl (lv_at hl 2 rfl) ?_
          have hPc := hP.sub (ws' := moW κ T S ad (nI 0) bs kp sm ks se sp ke kq vo nd wn wt wx wb dn tp tn ts) [0, 1, 2, 3, 4, 5, 6, 7, 8, 9, 10, 11, 12, 13] rfl
          refine pu_call (va_runV (As := [.int (nI t), .int (nI b)]) (rest := [.int (nI 16)]) ⟨hx, hb, hml, hown, hts⟩ (m_lies l D κ T S ad (nI 0) bs kp sm ks se sp ke kq vo nd wn wt wx wb dn tp tn ts hT hse t b ht) (cwV 2 hts gX4_poke_X4_lies rfl rfl rfl (by decide +kernel) ⟨Nat.le_of_ble_eq_true rfl, Nat.le_of_ble_eq_true rfl⟩) ⟨pu_blind, va_recv hK hPc (ci := 5) (q0 := 0) rfl rfl, pu_pre hK hPc⟩ rfl rfl hl.1 rfl (lv_room (Nat.le_of_ble_eq_true rfl)) dX4_poke_44 ⟨Nat.le_of_ble_eq_true rfl, Nat.le_of_ble_eq_true rfl⟩) ?_
          refine lv_imul hx hb dX4_poke_47 ?_
          refine tp_i (y := nI (16 * (8 * mlF se t + b))) (by exact pk_mul _ _) ?_
          refine lv_iload_n hx hb dX4_poke_48 rfl (lv_at hl 3 rfl) ?_
          refine lv_iadd hx hb dX4_poke_49 ?_
          refine tp_i (y := nI ((16 * (8 * mlF se t + b)) + i)) (by exact nI_add _ _) ?_
          refine lv_istore (lv' := [(5, .int (nI ((16 * (8 * mlF se t + b)) + i))), (0, .ref ((ad 0))), (1, .int (nI t)), (2, .int (nI b)), (3, .int (nI i)), (4, .int m0)]) hx hb dX4_poke_50 hl (by decide) rfl (fun ls hl => ?_)
          refine lv_aload_n hx hb dX4_poke_52 rfl (lv_at hl 1 rfl) ?_
          refine va_get (D := D) (ci := 5) (v := .ref ((ad 1))) (C := RX4) (T := TX4) (N := 21) hx hb hts (by decide +kernel) hown hK hP 0 rfl rfl 3 (by decide) (hts (.fieldLink RX4 7 "TrackDiskModel" "bytes" "[B") (by decide +kernel)) (fun _ h9 => h9) rfl dX4_poke_53 ?_
          refine lv_iload hx hb dX4_poke_56 (lv_at hl 0 rfl) ?_
          refine va_bald hx hb hK hP 1 1 rfl rfl (vp_in_nI (by omega) (by omega)) dX4_poke_58 ?_
          refine tp_i (y := bs ((16 * (8 * mlF se t + b)) + i)) (by rw [nI_clamp (by omega)]) ?_
          refine lv_sipush (v := nI 255) hx hb dX4_poke_59 (by decide) ?_
          refine lv_iand hx hb dX4_poke_62 ?_
          refine lv_istore (lv' := [(6, .int (((bs ((16 * (8 * mlF se t + b)) + i)) &&& (nI 255)))), (5, .int (nI ((16 * (8 * mlF se t + b)) + i))), (0, .ref ((ad 0))), (1, .int (nI t)), (2, .int (nI b)), (3, .int (nI i)), (4, .int m0)]) hx hb dX4_poke_63 hl (by decide) rfl (fun ls hl => ?_)
          refine lv_aload_n hx hb dX4_poke_65 rfl (lv_at hl 2 rfl) ?_
          refine va_get (D := D) (ci := 5) (v := .ref ((ad 1))) (C := RX4) (T := TX4) (N := 21) hx hb hts (by decide +kernel) hown hK hP 0 rfl rfl 3 (by decide) (hts (.fieldLink RX4 7 "TrackDiskModel" "bytes" "[B") (by decide +kernel)) (fun _ h9 => h9) rfl dX4_poke_66 ?_
          refine lv_iload hx hb dX4_poke_69 (lv_at hl 1 rfl) ?_
          refine lv_iload hx hb dX4_poke_71 (lv_at hl 0 rfl) ?_
          refine lv_iload hx hb dX4_poke_73 (lv_at hl 6 rfl) ?_
          refine lv_ixor hx hb dX4_poke_75 ?_
          refine lv_i2b (v := ((((bs ((16 * (8 * mlF se t + b)) + i)) &&& (nI 255)) ^^^ m0)).toInt8.toInt32) hx hb dX4_poke_76 rfl ?_
          refine va_bast hx hb hK hP hD hS 1 1 rfl rfl (vp_in_nI (by omega) (by omega)) dX4_poke_77 (fun H locs hP hD hS => ?_)
          rw [nI_clamp (n := (16 * (8 * mlF se t + b)) + i) (by omega)] at hP hD
          rw [pk_vb] at hP hD
          have hP : va_P D vwCl (moW κ T S ad (nI 0) (upd (bs) ((16 * (8 * mlF se t + b)) + i) (((((bs ((16 * (8 * mlF se t + b)) + i)) &&& (nI 255)) ^^^ m0)).toInt8.toInt32)) kp sm ks se sp ke kq vo nd wn wt wx wb dn tp tn ts) H := hP
          have hD : va_D A (moW κ T S ad (nI 0) (upd (bs) ((16 * (8 * mlF se t + b)) + i) (((((bs ((16 * (8 * mlF se t + b)) + i)) &&& (nI 255)) ^^^ m0)).toInt8.toInt32)) kp sm ks se sp ke kq vo nd wn wt wx wb dn tp tn ts) := hD
          refine lv_iload hx hb dX4_poke_78 (lv_at hl 0 rfl) ?_
          have hP9 : va_P D vwCl (moW κ T S ad (nI 0) (upd bs (16 * (8 * mlF se t + b) + i) (((bs (16 * (8 * mlF se t + b) + i) &&& nI 255) ^^^ m0).toInt8.toInt32)) kp sm ks se sp ke kq vo nd wn wt wx wb dn tp tn ts) H := hP
          have hD9 : va_D A (moW κ T S ad (nI 0) (upd bs (16 * (8 * mlF se t + b) + i) (((bs (16 * (8 * mlF se t + b) + i) &&& nI 255) ^^^ m0).toInt8.toInt32)) kp sm ks se sp ke kq vo nd wn wt wx wb dn tp tn ts) := hD
          refine tp_i (y := bs (16 * (8 * mlF se t + b) + i) &&& nI 255) (by rfl) ?_
          exact W.iret hx hb hr (fun t ht _ => ⟨⟨rfl, by rw [ht]; exact hP9, hD9⟩, hS.F ht⟩) hS.2.2 dX4_poke_80 hlocks
        · exact absurd c_33 hm
  · exact (bI_ct (by rw [inF_nI ht (by omega), inF_nI hb0 (by omega)]; rfl) c_11).elim

set_option maxHeartbeats 4000000 in
set_option maxRecDepth 100000 in
/-- space: none -/
theorem m_space_no (l : Launch) (D : va_G) (κ : Nat → ClassId) (sz : Nat) (T S : Nat) (ad : Nat → Nat) (co : Int32) (bs kp sm ks se sp ke kq vo : Nat → Int32) (nd wn : Int32) (wt wx wb : Nat → Int32) (dn : Int32) (tp : Nat → Int32) (tn ts : Int32) (x y : Int32) (hno : (inF x 2 && inF y T) = false) : Met l yX4_space wsX4_space ({ frames := 1, cells := 0, slots := 0, locals := 21 }) (va_Pc [.ref ((ad 0)), .int x, .int y] (mu_B D κ (moW κ T S ad co bs kp sm ks se sp ke kq vo nd wn wt wx wb dn tp tn ts) sz)) (mu_Q D (some (.int ((-2)))) (moW κ T S ad (nI 0) bs kp sm ks se sp ke kq vo nd wn wt wx wb dn tp tn ts) (va_A (moW κ T S ad co bs kp sm ks se sp ke kq vo nd wn wt wx wb dn tp tn ts) sz)) 0 0 (va_A (moW κ T S ad co bs kp sm ks se sp ke kq vo nd wn wt wx wb dn tp tn ts) sz) := by
  refine Met.ofW (cc := cX4_space) (maxL := 3) (ret := (some .int)) (by decide) rfl ?_
  intro p e s m args below meth c s₁ B hml hv
  obtain ⟨rfl, hsz, hP, hK, hD0⟩ := hv
  have hx := B.exec
  have hb := B.bytes
  have hr := B.returns
  have hts := atoms_spec (ws := wsX4_space) B.pre
  have hown : s.vm.findClass RX4 = some m.cls := findClass_of_methodNamed B.named
  have hlocks := B.notSynchronized
  subst hsz
  have hD := hD0.self (sz := s.heap.size)
  generalize hAe : va_A (moW κ T S ad co bs kp sm ks se sp ke kq vo nd wn wt wx wb dn tp tn ts) s.heap.size = A at hD ⊢
  have hA : ∀ q : Nat, s.heap.size ≤ q → A q := fun q h => by rw [← hAe]; exact Or.inr h
  refine W.gen (P := fun H locs => va_P D vwCl (moW κ T S ad co bs kp sm ks se sp ke kq vo nd wn wt wx wb dn tp tn ts) H ∧ va_S A s.heap H locs) (fun H locs h => ?_) ⟨hP, va_S.rf⟩
  clear hP
  obtain ⟨hP, hS⟩ := h
  have hl := lv_entry ([.ref ((ad 0)), .int x, .int y]) (n := 3) (Nat.le_of_ble_eq_true rfl)
  rw [lg_entry_eq]
  generalize (lg_sl ([.ref ((ad 0)), .int x, .int y]) ++ List.replicate (3 - (lg_sl ([.ref ((ad 0)), .int x, .int y])).length) Slot.unset).toArray = ls at hl ⊢
  have hl : lv_has ls 3 [(0, .ref ((ad 0))), (1, .int x), (2, .int y)] := hl
  refine lv_aload_n hx hb dX4_space_0 rfl (lv_at hl 0 rfl) ?_
  refine lv_iconst (v := nI 0) hx hb dX4_space_1 (by decide) ?_
  refine va_put (D := D) (ci := 5) (v := .int (nI 0)) (ty := .int) (C := RX4) (T := TX4) (N := 21) hx hb hts (by decide +kernel) tyX4 tyX4_ok nmX4 hown hK hP hD hS 0 rfl rfl 0 (by decide) (hts (.fieldLink RX4 61 "TrackDiskModel" "code" "I") (by decide +kernel)) (fun _ h9 => h9) rfl (by decide +kernel) rfl rfl (Nat.le_of_ble_eq_true rfl) dX4_space_2 (fun H locs hP hD hS => ?_)
  have hP : va_P D vwCl (moW κ T S ad (nI 0) bs kp sm ks se sp ke kq vo nd wn wt wx wb dn tp tn ts) H := hP
  have hD : va_D A (moW κ T S ad (nI 0) bs kp sm ks se sp ke kq vo nd wn wt wx wb dn tp tn ts) := hD
  refine lv_iload_n hx hb dX4_space_5 rfl (lv_at hl 1 rfl) ?_
  refine lv_if_lt (tgt := 22) hx hb dX4_space_6 (by decide) (fun c_6 => ?_) (fun c_6 => ?_)
  · skip
    refine lv_bipush (v := (-2)) hx hb dX4_space_22 (by decide) ?_
    refine lv_goto (tgt := 38) hx hb dX4_space_24 (by decide) ?_
    have hP9 : va_P D vwCl (moW κ T S ad (nI 0) bs kp sm ks se sp ke kq vo nd wn wt wx wb dn tp tn ts) H := hP
    have hD9 : va_D A (moW κ T S ad (nI 0) bs kp sm ks se sp ke kq vo nd wn wt wx wb dn tp tn ts) := hD
    exact W.iret hx hb hr (fun t ht _ => ⟨⟨rfl, by rw [ht]; exact hP9, hD9⟩, hS.F ht⟩) hS.2.2 dX4_space_38 hlocks
  · skip
    refine lv_iload_n hx hb dX4_space_9 rfl (lv_at hl 1 rfl) ?_
    refine lv_iconst (v := nI 1) hx hb dX4_space_10 (by decide) ?_
    refine lv_icmp_gt (tgt := 22) hx hb dX4_space_11 (by decide) (fun c_11 => ?_) (fun c_11 => ?_)
    · skip
      refine lv_bipush (v := (-2)) hx hb dX4_space_22 (by decide) ?_
      refine lv_goto (tgt := 38) hx hb dX4_space_24 (by decide) ?_
      have hP9 : va_P D vwCl (moW κ T S ad (nI 0) bs kp sm ks se sp ke kq vo nd wn wt wx wb dn tp tn ts) H := hP
      have hD9 : va_D A (moW κ T S ad (nI 0) bs kp sm ks se sp ke kq vo nd wn wt wx wb dn tp tn ts) := hD
      exact W.iret hx hb hr (fun t ht _ => ⟨⟨rfl, by rw [ht]; exact hP9, hD9⟩, hS.F ht⟩) hS.2.2 dX4_space_38 hlocks
    · skip
      refine lv_aload_n hx hb dX4_space_14 rfl (lv_at hl 0 rfl) ?_
      refine lv_iload_n hx hb dX4_space_15 rfl (lv_at hl 2 rfl) ?_
      have hPc := hP.sub (ws' := moW κ T S ad (nI 0) bs kp sm ks se sp ke kq vo nd wn wt wx wb dn tp tn ts) [0, 1, 2, 3, 4, 5, 6, 7, 8, 9, 10, 11, 12, 13] rfl
      refine pu_call (va_runV (As := [.int y]) (rest := []) ⟨hx, hb, hml, hown, hts⟩ (m_isTrack l D κ T S ad (nI 0) bs kp sm ks se sp ke kq vo nd wn wt wx wb dn tp tn ts y) (cwV 1 hts gX4_space_X4_isTrack rfl rfl rfl (by decide +kernel) ⟨Nat.le_of_ble_eq_true rfl, Nat.le_of_ble_eq_true rfl⟩) ⟨pu_blind, va_recv hK hPc (ci := 5) (q0 := 0) rfl rfl, pu_pre hK hPc⟩ rfl rfl hl.1 rfl (lv_room (Nat.le_of_ble_eq_true rfl)) dX4_space_16 ⟨Nat.le_of_ble_eq_true rfl, Nat.le_of_ble_eq_true rfl⟩) ?_
      refine lv_if_ne (tgt := 27) hx hb dX4_space_19 (by decide) (fun c_19 => ?_) (fun c_19 => ?_)
      · exact absurd hno (by rw [bI_ne c_19, inF_t c_6 (fun q => c_11 (Int32.lt_of_lt_of_le (by decide) q))]; decide)
      · skip
        refine lv_bipush (v := (-2)) hx hb dX4_space_22 (by decide) ?_
        refine lv_goto (tgt := 38) hx hb dX4_space_24 (by decide) ?_
        have hP9 : va_P D vwCl (moW κ T S ad (nI 0) bs kp sm ks se sp ke kq vo nd wn wt wx wb dn tp tn ts) H := hP
        have hD9 : va_D A (moW κ T S ad (nI 0) bs kp sm ks se sp ke kq vo nd wn wt wx wb dn tp tn ts) := hD
        exact W.iret hx hb hr (fun t ht _ => ⟨⟨rfl, by rw [ht]; exact hP9, hD9⟩, hS.F ht⟩) hS.2.2 dX4_space_38 hlocks

set_option maxHeartbeats 4000000 in
set_option maxRecDepth 100000 in
/-- space -/
theorem m_space_0 (l : Launch) (D : va_G) (κ : Nat → ClassId) (sz : Nat) (T S : Nat) (ad : Nat → Nat) (co : Int32) (bs kp sm ks se sp ke kq vo : Nat → Int32) (nd wn : Int32) (wt wx wb : Nat → Int32) (dn : Int32) (tp : Nat → Int32) (tn ts : Int32) (hT : T ≤ 12) (t : Nat) (ht : t < T) : Met l yX4_space wsX4_space ({ frames := 1, cells := 0, slots := 0, locals := 21 }) (va_Pc [.ref ((ad 0)), .int (nI 0), .int (nI t)] (mu_B D κ (moW κ T S ad co bs kp sm ks se sp ke kq vo nd wn wt wx wb dn tp tn ts) sz)) (mu_Q D (some (.int (sp (12 * 0 + t)))) (moW κ T S ad (nI 0) bs kp sm ks se sp ke kq vo nd wn wt wx wb dn tp tn ts) (va_A (moW κ T S ad co bs kp sm ks se sp ke kq vo nd wn wt wx wb dn tp tn ts) sz)) 0 0 (va_A (moW κ T S ad co bs kp sm ks se sp ke kq vo nd wn wt wx wb dn tp tn ts) sz) := by
  refine Met.ofW (cc := cX4_space) (maxL := 3) (ret := (some .int)) (by decide) rfl ?_
  intro p e s m args below meth c s₁ B hml hv
  obtain ⟨rfl, hsz, hP, hK, hD0⟩ := hv
  have hx := B.exec
  have hb := B.bytes
  have hr := B.returns
  have hts := atoms_spec (ws := wsX4_space) B.pre
  have hown : s.vm.findClass RX4 = some m.cls := findClass_of_methodNamed B.named
  have hlocks := B.notSynchronized
  subst hsz
  have hD := hD0.self (sz := s.heap.size)
  generalize hAe : va_A (moW κ T S ad co bs kp sm ks se sp ke kq vo nd wn wt wx wb dn tp tn ts) s.heap.size = A at hD ⊢
  have hA : ∀ q : Nat, s.heap.size ≤ q → A q := fun q h => by rw [← hAe]; exact Or.inr h
  refine W.gen (P := fun H locs => va_P D vwCl (moW κ T S ad co bs kp sm ks se sp ke kq vo nd wn wt wx wb dn tp tn ts) H ∧ va_S A s.heap H locs) (fun H locs h => ?_) ⟨hP, va_S.rf⟩
  clear hP
  obtain ⟨hP, hS⟩ := h
  have hl := lv_entry ([.ref ((ad 0)), .int (nI 0), .int (nI t)]) (n := 3) (Nat.le_of_ble_eq_true rfl)
  rw [lg_entry_eq]
  generalize (lg_sl ([.ref ((ad 0)), .int (nI 0), .int (nI t)]) ++ List.replicate (3 - (lg_sl ([.ref ((ad 0)), .int (nI 0), .int (nI t)])).length) Slot.unset).toArray = ls at hl ⊢
  have hl : lv_has ls 3 [(0, .ref ((ad 0))), (1, .int (nI 0)), (2, .int (nI t))] := hl
  refine lv_aload_n hx hb dX4_space_0 rfl (lv_at hl 0 rfl) ?_
  refine lv_iconst (v := nI 0) hx hb dX4_space_1 (by decide) ?_
  refine va_put (D := D) (ci := 5) (v := .int (nI 0)) (ty := .int) (C := RX4) (T := TX4) (N := 21) hx hb hts (by decide +kernel) tyX4 tyX4_ok nmX4 hown hK hP hD hS 0 rfl rfl 0 (by decide) (hts (.fieldLink RX4 61 "TrackDiskModel" "code" "I") (by decide +kernel)) (fun _ h9 => h9) rfl (by decide +kernel) rfl rfl (Nat.le_of_ble_eq_true rfl) dX4_space_2 (fun H locs hP hD hS => ?_)
  have hP : va_P D vwCl (moW κ T S ad (nI 0) bs kp sm ks se sp ke kq vo nd wn wt wx wb dn tp tn ts) H := hP
  have hD : va_D A (moW κ T S ad (nI 0) bs kp sm ks se sp ke kq vo nd wn wt wx wb dn tp tn ts) := hD
  refine lv_iload_n hx hb dX4_space_5 rfl (lv_at hl 1 rfl) ?_
  refine lv_if_lt (tgt := 22) hx hb dX4_space_6 (by decide) (fun c_6 => ?_) (fun c_6 => ?_)
  · exact absurd c_6 (by decide)
  · skip
    refine lv_iload_n hx hb dX4_space_9 rfl (lv_at hl 1 rfl) ?_
    refine lv_iconst (v := nI 1) hx hb dX4_space_10 (by decide) ?_
    refine lv_icmp_gt (tgt := 22) hx hb dX4_space_11 (by decide) (fun c_11 => ?_) (fun c_11 => ?_)
    · exact absurd c_11 (by decide)
    · skip
      refine lv_aload_n hx hb dX4_space_14 rfl (lv_at hl 0 rfl) ?_
      refine lv_iload_n hx hb dX4_space_15 rfl (lv_at hl 2 rfl) ?_
      have hPc := hP.sub (ws' := moW κ T S ad (nI 0) bs kp sm ks se sp ke kq vo nd wn wt wx wb dn tp tn ts) [0, 1, 2, 3, 4, 5, 6, 7, 8, 9, 10, 11, 12, 13] rfl
      refine pu_call (va_runV (As := [.int (nI t)]) (rest := []) ⟨hx, hb, hml, hown, hts⟩ (m_isTrack l D κ T S ad (nI 0) bs kp sm ks se sp ke kq vo nd wn wt wx wb dn tp tn ts (nI t)) (cwV 1 hts gX4_space_X4_isTrack rfl rfl rfl (by decide +kernel) ⟨Nat.le_of_ble_eq_true rfl, Nat.le_of_ble_eq_true rfl⟩) ⟨pu_blind, va_recv hK hPc (ci := 5) (q0 := 0) rfl rfl, pu_pre hK hPc⟩ rfl rfl hl.1 rfl (lv_room (Nat.le_of_ble_eq_true rfl)) dX4_space_16 ⟨Nat.le_of_ble_eq_true rfl, Nat.le_of_ble_eq_true rfl⟩) ?_
      refine lv_if_ne (tgt := 27) hx hb dX4_space_19 (by decide) (fun c_19 => ?_) (fun c_19 => ?_)
      · skip
        refine lv_aload_n hx hb dX4_space_27 rfl (lv_at hl 0 rfl) ?_
        refine va_get (D := D) (ci := 5) (v := .ref ((ad 6))) (C := RX4) (T := TX4) (N := 21) hx hb hts (by decide +kernel) hown hK hP 0 rfl rfl 8 (by decide) (hts (.fieldLink RX4 26 "TrackDiskModel" "space" "[I") (by decide +kernel)) (fun _ h9 => h9) rfl dX4_space_28 ?_
        refine lv_bipush (v := nI 12) hx hb dX4_space_31 (by decide) ?_
        refine lv_iload_n hx hb dX4_space_33 rfl (lv_at hl 1 rfl) ?_
        refine lv_imul hx hb dX4_space_34 ?_
        refine tp_i (y := nI (12 * 0)) (by exact pk_mul _ _) ?_
        refine lv_iload_n hx hb dX4_space_35 rfl (lv_at hl 2 rfl) ?_
        refine lv_iadd hx hb dX4_space_36 ?_
        refine tp_i (y := nI ((12 * 0) + t)) (by exact nI_add _ _) ?_
        refine va_iald hx hb hK hP 6 0 rfl rfl (vp_in_nI (by omega) (by omega)) dX4_space_37 ?_
        refine tp_i (y := sp ((12 * 0) + t)) (by rw [nI_clamp (by omega)]) ?_
        have hP9 : va_P D vwCl (moW κ T S ad (nI 0) bs kp sm ks se sp ke kq vo nd wn wt wx wb dn tp tn ts) H := hP
        have hD9 : va_D A (moW κ T S ad (nI 0) bs kp sm ks se sp ke kq vo nd wn wt wx wb dn tp tn ts) := hD
        refine tp_i (y := sp (12 * 0 + t)) (by rfl) ?_
        exact W.iret hx hb hr (fun t ht _ => ⟨⟨rfl, by rw [ht]; exact hP9, hD9⟩, hS.F ht⟩) hS.2.2 dX4_space_38 hlocks
      · exact (bI_ct (inF_nI ht (by omega)) c_19).elim

set_option maxHeartbeats 4000000 in
set_option maxRecDepth 100000 in
/-- space -/
theorem m_space_1 (l : Launch) (D : va_G) (κ : Nat → ClassId) (sz : Nat) (T S : Nat) (ad : Nat → Nat) (co : Int32) (bs kp sm ks se sp ke kq vo : Nat → Int32) (nd wn : Int32) (wt wx wb : Nat → Int32) (dn : Int32) (tp : Nat → Int32) (tn ts : Int32) (hT : T ≤ 12) (t : Nat) (ht : t < T) : Met l yX4_space wsX4_space ({ frames := 1, cells := 0, slots := 0, locals := 21 }) (va_Pc [.ref ((ad 0)), .int (nI 1), .int (nI t)] (mu_B D κ (moW κ T S ad co bs kp sm ks se sp ke kq vo nd wn wt wx wb dn tp tn ts) sz)) (mu_Q D (some (.int (sp (12 * 1 + t)))) (moW κ T S ad (nI 0) bs kp sm ks se sp ke kq vo nd wn wt wx wb dn tp tn ts) (va_A (moW κ T S ad co bs kp sm ks se sp ke kq vo nd wn wt wx wb dn tp tn ts) sz)) 0 0 (va_A (moW κ T S ad co bs kp sm ks se sp ke kq vo nd wn wt wx wb dn tp tn ts) sz) := by
  refine Met.ofW (cc := cX4_space) (maxL := 3) (ret := (some .int)) (by decide) rfl ?_
  intro p e s m args below meth c s₁ B hml hv
  obtain ⟨rfl, hsz, hP, hK, hD0⟩ := hv
  have hx := B.exec
  have hb := B.bytes
  have hr := B.returns
  have hts := atoms_spec (ws := wsX4_space) B.pre
  have hown : s.vm.findClass RX4 = some m.cls := findClass_of_methodNamed B.named
  have hlocks := B.notSynchronized
  subst hsz
  have hD := hD0.self (sz := s.heap.size)
  generalize hAe : va_A (moW κ T S ad co bs kp sm ks se sp ke kq vo nd wn wt wx wb dn tp tn ts) s.heap.size = A at hD ⊢
  have hA : ∀ q : Nat, s.heap.size ≤ q → A q := fun q h => by rw [← hAe]; exact Or.inr h
  refine W.gen (P := fun H locs => va_P D vwCl (moW κ T S ad co bs kp sm ks se sp ke kq vo nd wn wt wx wb dn tp tn ts) H ∧ va_S A s.heap H locs) (fun H locs h => ?_) ⟨hP, va_S.rf⟩
  clear hP
  obtain ⟨hP, hS⟩ := h
  have hl := lv_entry ([.ref ((ad 0)), .int (nI 1), .int (nI t)]) (n := 3) (Nat.le_of_ble_eq_true rfl)
  rw [lg_entry_eq]
  generalize (lg_sl ([.ref ((ad 0)), .int (nI 1), .int (nI t)]) ++ List.replicate (3 - (lg_sl ([.ref ((ad 0)), .int (nI 1), .int (nI t)])).length) Slot.unset).toArray = ls at hl ⊢
  have hl : lv_has ls 3 [(0, .ref ((ad 0))), (1, .int (nI 1)), (2, .int (nI t))] := hl
  refine lv_aload_n hx hb dX4_space_0 rfl (lv_at hl 0 rfl) ?_
  refine lv_iconst (v := nI 0) hx hb dX4_space_1 (by decide) ?_
  refine va_put (D := D) (ci := 5) (v := .int (nI 0)) (ty := .int) (C := RX4) (T := TX4) (N := 21) hx hb hts (by decide +kernel) tyX4 tyX4_ok nmX4 hown hK hP hD hS 0 rfl rfl 0 (by decide) (hts (.fieldLink RX4 61 "TrackDiskModel" "code" "I") (by decide +kernel)) (fun _ h9 => h9) rfl (by decide +kernel) rfl rfl (Nat.le_of_ble_eq_true rfl) dX4_space_2 (fun H locs hP hD hS => ?_)
  have hP : va_P D vwCl (moW κ T S ad (nI 0) bs kp sm ks se sp ke kq vo nd wn wt wx wb dn tp tn ts) H := hP
  have hD : va_D A (moW κ T S ad (nI 0) bs kp sm ks se sp ke kq vo nd wn wt wx wb dn tp tn ts) := hD
  refine lv_iload_n hx hb dX4_space_5 rfl (lv_at hl 1 rfl) ?_
  refine lv_if_lt (tgt := 22) hx hb dX4_space_6 (by decide) (fun c_6 => ?_) (fun c_6 => ?_)
  · exact absurd c_6 (by decide)
  · skip
    refine lv_iload_n hx hb dX4_space_9 rfl (lv_at hl 1 rfl) ?_
    refine lv_iconst (v := nI 1) hx hb dX4_space_10 (by decide) ?_
    refine lv_icmp_gt (tgt := 22) hx hb dX4_space_11 (by decide) (fun c_11 => ?_) (fun c_11 => ?_)
    · exact absurd c_11 (by decide)
    · skip
      refine lv_aload_n hx hb dX4_space_14 rfl (lv_at hl 0 rfl) ?_
      refine lv_iload_n hx hb dX4_space_15 rfl (lv_at hl 2 rfl) ?_
      have hPc := hP.sub (ws' := moW κ T S ad (nI 0) bs kp sm ks se sp ke kq vo nd wn wt wx wb dn tp tn ts) [0, 1, 2, 3, 4, 5, 6, 7, 8, 9, 10, 11, 12, 13] rfl
      refine pu_call (va_runV (As := [.int (nI t)]) (rest := []) ⟨hx, hb, hml, hown, hts⟩ (m_isTrack l D κ T S ad (nI 0) bs kp sm ks se sp ke kq vo nd wn wt wx wb dn tp tn ts (nI t)) (cwV 1 hts gX4_space_X4_isTrack rfl rfl rfl (by decide +kernel) ⟨Nat.le_of_ble_eq_true rfl, Nat.le_of_ble_eq_true rfl⟩) ⟨pu_blind, va_recv hK hPc (ci := 5) (q0 := 0) rfl rfl, pu_pre hK hPc⟩ rfl rfl hl.1 rfl (lv_room (Nat.le_of_ble_eq_true rfl)) dX4_space_16 ⟨Nat.le_of_ble_eq_true rfl, Nat.le_of_ble_eq_true rfl⟩) ?_
      refine lv_if_ne (tgt := 27) hx hb dX4_space_19 (by decide) (fun c_19 => ?_) (fun c_19 => ?_)
      · skip
        refine lv_aload_n hx hb dX4_space_27 rfl (lv_at hl 0 rfl) ?_
        refine va_get (D := D) (ci := 5) (v := .ref ((ad 6))) (C := RX4) (T := TX4) (N := 21) hx hb hts (by decide +kernel) hown hK hP 0 rfl rfl 8 (by decide) (hts (.fieldLink RX4 26 "TrackDiskModel" "space" "[I") (by decide +kernel)) (fun _ h9 => h9) rfl dX4_space_28 ?_
        refine lv_bipush (v := nI 12) hx hb dX4_space_31 (by decide) ?_
        refine lv_iload_n hx hb dX4_space_33 rfl (lv_at hl 1 rfl) ?_
        refine lv_imul hx hb dX4_space_34 ?_
        refine tp_i (y := nI (12 * 1)) (by exact pk_mul _ _) ?_
        refine lv_iload_n hx hb dX4_space_35 rfl (lv_at hl 2 rfl) ?_
        refine lv_iadd hx hb dX4_space_36 ?_
        refine tp_i (y := nI ((12 * 1) + t)) (by exact nI_add _ _) ?_
        refine va_iald hx hb hK hP 6 0 rfl rfl (vp_in_nI (by omega) (by omega)) dX4_space_37 ?_
        refine tp_i (y := sp ((12 * 1) + t)) (by rw [nI_clamp (by omega)]) ?_
        have hP9 : va_P D vwCl (moW κ T S ad (nI 0) bs kp sm ks se sp ke kq vo nd wn wt wx wb dn tp tn ts) H := hP
        have hD9 : va_D A (moW κ T S ad (nI 0) bs kp sm ks se sp ke kq vo nd wn wt wx wb dn tp tn ts) := hD
        refine tp_i (y := sp (12 * 1 + t)) (by rfl) ?_
        exact W.iret hx hb hr (fun t ht _ => ⟨⟨rfl, by rw [ht]; exact hP9, hD9⟩, hS.F ht⟩) hS.2.2 dX4_space_38 hlocks
      · exact (bI_ct (inF_nI ht (by omega)) c_19).elim

set_option maxHeartbeats 4000000 in
set_option maxRecDepth 100000 in
/-- mend: down -/
theorem m_mend_down (l : Launch) (D : va_G) (κ : Nat → ClassId) (sz : Nat) (T S : Nat) (ad : Nat → Nat) (co : Int32) (bs kp sm ks se sp ke kq vo : Nat → Int32) (nd wn : Int32) (wt wx wb : Nat → Int32) (tp : Nat → Int32) (tn ts : Int32)   : Met l yX4_mend wsX4_mend ({ frames := 2, cells := 0, slots := 0, locals := 45 }) (va_Pc [.ref ((ad 0))] (mu_B D κ (moW κ T S ad co bs kp sm ks se sp ke kq vo nd wn wt wx wb (nI 1) tp tn ts) sz)) (mu_Q D (some (.int ((-5)))) (moW κ T S ad (nI 0) bs kp sm ks se sp ke kq vo nd wn wt wx wb (nI 1) tp tn ts) (va_A (moW κ T S ad co bs kp sm ks se sp ke kq vo nd wn wt wx wb (nI 1) tp tn ts) sz)) 0 0 (va_A (moW κ T S ad co bs kp sm ks se sp ke kq vo nd wn wt wx wb (nI 1) tp tn ts) sz) := by
  refine Met.ofW (cc := cX4_mend) (maxL := 3) (ret := (some .int)) (by decide) rfl ?_
  intro p e s m args below meth c s₁ B hml hv
  obtain ⟨rfl, hsz, hP, hK, hD0⟩ := hv
  have hx := B.exec
  have hb := B.bytes
  have hr := B.returns
  have hts := atoms_spec (ws := wsX4_mend) B.pre
  have hown : s.vm.findClass RX4 = some m.cls := findClass_of_methodNamed B.named
  have hlocks := B.notSynchronized
  subst hsz
  have hD := hD0.self (sz := s.heap.size)
  generalize hAe : va_A (moW κ T S ad co bs kp sm ks se sp ke kq vo nd wn wt wx wb (nI 1) tp tn ts) s.heap.size = A at hD ⊢
  have hA : ∀ q : Nat, s.heap.size ≤ q → A q := fun q h => by rw [← hAe]; exact Or.inr h
  refine W.gen (P := fun H locs => va_P D vwCl (moW κ T S ad co bs kp sm ks se sp ke kq vo nd wn wt wx wb (nI 1) tp tn ts) H ∧ va_S A s.heap H locs) (fun H locs h => ?_) ⟨hP, va_S.rf⟩
  clear hP
  obtain ⟨hP, hS⟩ := h
  have hl := lv_entry ([.ref ((ad 0))]) (n := 3) (Nat.le_of_ble_eq_true rfl)
  rw [lg_entry_eq]
  generalize (lg_sl ([.ref ((ad 0))]) ++ List.replicate (3 - (lg_sl ([.ref ((ad 0))])).length) Slot.unset).toArray = ls at hl ⊢
  have hl : lv_has ls 3 [(0, .ref ((ad 0)))] := hl
  refine lv_aload_n hx hb dX4_mend_0 rfl (lv_at hl 0 rfl) ?_
  refine lv_iconst (v := nI 0) hx hb dX4_mend_1 (by decide) ?_
  refine va_put (D := D) (ci := 5) (v := .int (nI 0)) (ty := .int) (C := RX4) (T := TX4) (N := 21) hx hb hts (by decide +kernel) tyX4 tyX4_ok nmX4 hown hK hP hD hS 0 rfl rfl 0 (by decide) (hts (.fieldLink RX4 61 "TrackDiskModel" "code" "I") (by decide +kernel)) (fun _ h9 => h9) rfl (by decide +kernel) rfl rfl (Nat.le_of_ble_eq_true rfl) dX4_mend_2 (fun H locs hP hD hS => ?_)
  have hP : va_P D vwCl (moW κ T S ad (nI 0) bs kp sm ks se sp ke kq vo nd wn wt wx wb (nI 1) tp tn ts) H := hP
  have hD : va_D A (moW κ T S ad (nI 0) bs kp sm ks se sp ke kq vo nd wn wt wx wb (nI 1) tp tn ts) := hD
  refine lv_aload_n hx hb dX4_mend_5 rfl (lv_at hl 0 rfl) ?_
  refine va_get (D := D) (ci := 5) (v := .int (nI 1)) (C := RX4) (T := TX4) (N := 21) hx hb hts (by decide +kernel) hown hK hP 0 rfl rfl 17 (by decide) (hts (.fieldLink RX4 73 "TrackDiskModel" "down" "Z") (by decide +kernel)) (fun _ h9 => h9) rfl dX4_mend_6 ?_
  refine lv_if_eq (tgt := 15) hx hb dX4_mend_9 (by decide) (fun c_9 => ?_) (fun c_9 => ?_)
  · exact absurd c_9 (by decide)
  · skip
    refine lv_bipush (v := (-5)) hx hb dX4_mend_12 (by decide) ?_
    have hP9 : va_P D vwCl (moW κ T S ad (nI 0) bs kp sm ks se sp ke kq vo nd wn wt wx wb (nI 1) tp tn ts) H := hP
    have hD9 : va_D A (moW κ T S ad (nI 0) bs kp sm ks se sp ke kq vo nd wn wt wx wb (nI 1) tp tn ts) := hD
    exact W.iret hx hb hr (fun t ht _ => ⟨⟨rfl, by rw [ht]; exact hP9, hD9⟩, hS.F ht⟩) hS.2.2 dX4_mend_14 hlocks

set_option maxHeartbeats 4000000 in
set_option maxRecDepth 100000 in
/-- mend -/
theorem m_mend (l : Launch) (D : va_G) (κ : Nat → ClassId) (sz : Nat) (T S : Nat) (ad : Nat → Nat) (co : Int32) (bs kp sm ks se sp ke kq vo : Nat → Int32) (nd wn : Int32) (wt wx wb : Nat → Int32) (tp : Nat → Int32) (tn ts : Int32)  (hT : T ≤ 12) (hS8 : S ≤ 8) (hse : ∀ t, t < T → se t = -1 ∨ vp_in (se t) 14)  : Met l yX4_mend wsX4_mend ({ frames := 2, cells := 0, slots := 0, locals := 45 }) (va_Pc [.ref ((ad 0))] (mu_B D κ (moW κ T S ad co bs kp sm ks se sp ke kq vo nd wn wt wx wb (nI 0) tp tn ts) sz)) (mu_Q D (some (.int (nI (cnt (fun t => dfF sp (fun j => sp (12 + j)) t) T)))) (moW κ T S ad (nI 0) bs kp sm ks se (mmR (fun t => nzF bs (16 * (8 * mlF se t + 0)) (16 * S)) sp T) ke kq vo nd wn wt wx wb (nI 0) tp tn ts) (va_A (moW κ T S ad co bs kp sm ks se sp ke kq vo nd wn wt wx wb (nI 0) tp tn ts) sz)) 0 0 (va_A (moW κ T S ad co bs kp sm ks se sp ke kq vo nd wn wt wx wb (nI 0) tp tn ts) sz) := by
  refine Met.ofW (cc := cX4_mend) (maxL := 3) (ret := (some .int)) (by decide) rfl ?_
  intro p e s m args below meth c s₁ B hml hv
  obtain ⟨rfl, hsz, hP, hK, hD0⟩ := hv
  have hx := B.exec
  have hb := B.bytes
  have hr := B.returns
  have hts := atoms_spec (ws := wsX4_mend) B.pre
  have hown : s.vm.findClass RX4 = some m.cls := findClass_of_methodNamed B.named
  have hlocks := B.notSynchronized
  subst hsz
  have hD := hD0.self (sz := s.heap.size)
  generalize hAe : va_A (moW κ T S ad co bs kp sm ks se sp ke kq vo nd wn wt wx wb (nI 0) tp tn ts) s.heap.size = A at hD ⊢
  have hA : ∀ q : Nat, s.heap.size ≤ q → A q := fun q h => by rw [← hAe]; exact Or.inr h
  refine W.gen (P := fun H locs => va_P D vwCl (moW κ T S ad co bs kp sm ks se sp ke kq vo nd wn wt wx wb (nI 0) tp tn ts) H ∧ va_S A s.heap H locs) (fun H locs h => ?_) ⟨hP, va_S.rf⟩
  clear hP
  obtain ⟨hP, hS⟩ := h
  have hl := lv_entry ([.ref ((ad 0))]) (n := 3) (Nat.le_of_ble_eq_true rfl)
  rw [lg_entry_eq]
  generalize (lg_sl ([.ref ((ad 0))]) ++ List.replicate (3 - (lg_sl ([.ref ((ad 0))])).length) Slot.unset).toArray = ls at hl ⊢
  have hl : lv_has ls 3 [(0, .ref ((ad 0)))] := hl
  refine lv_aload_n hx hb dX4_mend_0 rfl (lv_at hl 0 rfl) ?_
  refine lv_iconst (v := nI 0) hx hb dX4_mend_1 (by decide) ?_
  refine va_put (D := D) (ci := 5) (v := .int (nI 0)) (ty := .int) (C := RX4) (T := TX4) (N := 21) hx hb hts (by decide +kernel) tyX4 tyX4_ok nmX4 hown hK hP hD hS 0 rfl rfl 0 (by decide) (hts (.fieldLink RX4 61 "TrackDiskModel" "code" "I") (by decide +kernel)) (fun _ h9 => h9) rfl (by decide +kernel) rfl rfl (Nat.le_of_ble_eq_true rfl) dX4_mend_2 (fun H locs hP hD hS => ?_)
  have hP : va_P D vwCl (moW κ T S ad (nI 0) bs kp sm ks se sp ke kq vo nd wn wt wx wb (nI 0) tp tn ts) H := hP
  have hD : va_D A (moW κ T S ad (nI 0) bs kp sm ks se sp ke kq vo nd wn wt wx wb (nI 0) tp tn ts) := hD
  refine lv_aload_n hx hb dX4_mend_5 rfl (lv_at hl 0 rfl) ?_
  refine va_get (D := D) (ci := 5) (v := .int (nI 0)) (C := RX4) (T := TX4) (N := 21) hx hb hts (by decide +kernel) hown hK hP 0 rfl rfl 17 (by decide) (hts (.fieldLink RX4 73 "TrackDiskModel" "down" "Z") (by decide +kernel)) (fun _ h9 => h9) rfl dX4_mend_6 ?_
  refine lv_if_eq (tgt := 15) hx hb dX4_mend_9 (by decide) (fun c_9 => ?_) (fun c_9 => ?_)
  · skip
    refine lv_iconst (v := nI 0) hx hb dX4_mend_15 (by decide) ?_
    refine lv_istore_n (lv' := [(1, .int (nI 0)), (0, .ref ((ad 0)))]) hx hb dX4_mend_16 rfl hl (by decide) rfl (fun ls hl => ?_)
    refine lv_iconst (v := nI 0) hx hb dX4_mend_17 (by decide) ?_
    refine lv_istore_n (lv' := [(2, .int (nI 0)), (1, .int (nI 0)), (0, .ref ((ad 0)))]) hx hb dX4_mend_18 rfl hl (by decide) rfl (fun ls hl => ?_)
    rw [show sp = mmR (fun t => nzF bs (16 * (8 * mlF se t + 0)) (16 * S)) sp 0 from mmR_0.symm] at hP hD
    refine W.loop (N := T) (I := fun t ls H locs => lv_has ls 3 [(2, .int (nI t)), (1, .int (nI (cnt (fun t => dfF sp (fun j => sp (12 + j)) t) t))), (0, .ref ((ad 0)))] ∧ va_P D vwCl (moW κ T S ad (nI 0) bs kp sm ks se (mmR (fun t => nzF bs (16 * (8 * mlF se t + 0)) (16 * S)) sp t) ke kq vo nd wn wt wx wb (nI 0) tp tn ts) H ∧ va_D A (moW κ T S ad (nI 0) bs kp sm ks se (mmR (fun t => nzF bs (16 * (8 * mlF se t + 0)) (16 * S)) sp t) ke kq vo nd wn wt wx wb (nI 0) tp tn ts) ∧ va_S A s.heap H locs) 0 (by omega) (fun t ls H locs ht hI iht => ?_) (fun ls H locs hI => ?_) ⟨lv_sub hl [0, 1, 2] rfl, hP, hD, hS⟩
    · skip
      clear hl hP hD hS
      obtain ⟨hl, hP, hD, hS⟩ := hI
      refine lv_iload_n hx hb dX4_mend_19 rfl (lv_at hl 0 rfl) ?_
      refine lv_aload_n hx hb dX4_mend_20 rfl (lv_at hl 2 rfl) ?_
      refine va_get (D := D) (ci := 5) (v := .int (nI T)) (C := RX4) (T := TX4) (N := 21) hx hb hts (by decide +kernel) hown hK hP 0 rfl rfl 1 (by decide) (hts (.fieldLink RX4 50 "TrackDiskModel" "tracks" "I") (by decide +kernel)) (fun _ h9 => h9) rfl dX4_mend_21 ?_
      refine lv_icmp_ge (tgt := 83) hx hb dX4_mend_24 (by decide) (fun c_24 => ?_) (fun c_24 => ?_)
      · exact absurd c_24 (nI_ge ht (by omega))
      · skip
        refine lv_aload_n hx hb dX4_mend_27 rfl (lv_at hl 2 rfl) ?_
        refine va_get (D := D) (ci := 5) (v := .ref ((ad 6))) (C := RX4) (T := TX4) (N := 21) hx hb hts (by decide +kernel) hown hK hP 0 rfl rfl 8 (by decide) (hts (.fieldLink RX4 26 "TrackDiskModel" "space" "[I") (by decide +kernel)) (fun _ h9 => h9) rfl dX4_mend_28 ?_
        refine lv_iload_n hx hb dX4_mend_31 rfl (lv_at hl 0 rfl) ?_
        refine va_iald hx hb hK hP 6 0 rfl rfl (vp_in_nI (by omega) (by omega)) dX4_mend_32 ?_
        refine tp_i (y := sp t) (by rw [nI_clamp (by omega)]; exact mmR_a (by omega)) ?_
        refine lv_aload_n hx hb dX4_mend_33 rfl (lv_at hl 2 rfl) ?_
        refine va_get (D := D) (ci := 5) (v := .ref ((ad 6))) (C := RX4) (T := TX4) (N := 21) hx hb hts (by decide +kernel) hown hK hP 0 rfl rfl 8 (by decide) (hts (.fieldLink RX4 26 "TrackDiskModel" "space" "[I") (by decide +kernel)) (fun _ h9 => h9) rfl dX4_mend_34 ?_
        refine lv_bipush (v := nI 12) hx hb dX4_mend_37 (by decide) ?_
        refine lv_iload_n hx hb dX4_mend_39 rfl (lv_at hl 0 rfl) ?_
        refine lv_iadd hx hb dX4_mend_40 ?_
        refine tp_i (y := nI (12 + t)) (by exact nI_add _ _) ?_
        refine va_iald hx hb hK hP 6 0 rfl rfl (vp_in_nI (by omega) (by omega)) dX4_mend_41 ?_
        refine tp_i (y := sp (12 + t)) (by rw [nI_clamp (by omega)]; exact mmR_b) ?_
        refine lv_icmp_ne (tgt := 48) hx hb dX4_mend_42 (by decide) (fun c_42 => ?_) (fun c_42 => ?_)
        · skip
          refine lv_iinc (v := nI (cnt (fun t => dfF sp (fun j => sp (12 + j)) t) (t + 1))) (lv' := [(1, .int (nI (cnt (fun t => dfF sp (fun j => sp (12 + j)) t) (t + 1)))), (2, .int (nI t)), (0, .ref ((ad 0)))]) hx hb dX4_mend_48 hl (k := 1) rfl (by rw [cnt_t (f := (fun t => dfF sp (fun j => sp (12 + j)) t)) (by simp only [dfF, decide_eq_true_eq]; exact c_42)]; exact nI_1 _) (by decide) rfl (fun ls hl => ?_)
          refine lv_aload_n hx hb dX4_mend_51 rfl (lv_at hl 2 rfl) ?_
          refine va_get (D := D) (ci := 5) (v := .ref ((ad 6))) (C := RX4) (T := TX4) (N := 21) hx hb hts (by decide +kernel) hown hK hP 0 rfl rfl 8 (by decide) (hts (.fieldLink RX4 26 "TrackDiskModel" "space" "[I") (by decide +kernel)) (fun _ h9 => h9) rfl dX4_mend_52 ?_
          refine lv_iload_n hx hb dX4_mend_55 rfl (lv_at hl 1 rfl) ?_
          refine lv_aload_n hx hb dX4_mend_56 rfl (lv_at hl 2 rfl) ?_
          refine lv_iload_n hx hb dX4_mend_57 rfl (lv_at hl 1 rfl) ?_
          have hPc := hP.sub (ws' := moW κ T S ad (nI 0) bs kp sm ks se (mmR (fun t => nzF bs (16 * (8 * mlF se t + 0)) (16 * S)) sp t) ke kq vo nd wn wt wx wb (nI 0) tp tn ts) [0, 1, 2, 3, 4, 5, 6, 7, 8, 9, 10, 11, 12, 13] rfl
          refine pu_call (va_runV (As := [.int (nI t)]) (rest := [.int (nI t), .ref ((ad 6))]) ⟨hx, hb, hml, hown, hts⟩ (m_isUsed l D κ T S ad (nI 0) bs kp sm ks se (mmR (fun t => nzF bs (16 * (8 * mlF se t + 0)) (16 * S)) sp t) ke kq vo nd wn wt wx wb (nI 0) tp tn ts hT hS8 hse t ht) (cwV 1 hts gX4_mend_X4_isUsed rfl rfl rfl (by decide +kernel) ⟨Nat.le_of_ble_eq_true rfl, Nat.le_of_ble_eq_true rfl⟩) ⟨pu_blind, va_recv hK hPc (ci := 5) (q0 := 0) rfl rfl, pu_pre hK hPc⟩ rfl rfl hl.1 rfl (lv_room (Nat.le_of_ble_eq_true rfl)) dX4_mend_58 ⟨Nat.le_of_ble_eq_true rfl, Nat.le_of_ble_eq_true rfl⟩) ?_
          refine va_iast hx hb hK hP hD hS 6 0 rfl rfl (vp_in_nI (by omega) (by omega)) dX4_mend_61 (fun H locs hP hD hS => ?_)
          rw [nI_clamp (n := t) (by omega)] at hP hD
          have hP : va_P D vwCl (moW κ T S ad (nI 0) bs kp sm ks se (upd (mmR (fun t => nzF bs (16 * (8 * mlF se t + 0)) (16 * S)) sp t) (t) (bI ((fun t => nzF bs (16 * (8 * mlF se t + 0)) (16 * S)) t))) ke kq vo nd wn wt wx wb (nI 0) tp tn ts) H := hP
          have hD : va_D A (moW κ T S ad (nI 0) bs kp sm ks se (upd (mmR (fun t => nzF bs (16 * (8 * mlF se t + 0)) (16 * S)) sp t) (t) (bI ((fun t => nzF bs (16 * (8 * mlF se t + 0)) (16 * S)) t))) ke kq vo nd wn wt wx wb (nI 0) tp tn ts) := hD
          refine lv_aload_n hx hb dX4_mend_62 rfl (lv_at hl 2 rfl) ?_
          refine va_get (D := D) (ci := 5) (v := .ref ((ad 6))) (C := RX4) (T := TX4) (N := 21) hx hb hts (by decide +kernel) hown hK hP 0 rfl rfl 8 (by decide) (hts (.fieldLink RX4 26 "TrackDiskModel" "space" "[I") (by decide +kernel)) (fun _ h9 => h9) rfl dX4_mend_63 ?_
          refine lv_bipush (v := nI 12) hx hb dX4_mend_66 (by decide) ?_
          refine lv_iload_n hx hb dX4_mend_68 rfl (lv_at hl 1 rfl) ?_
          refine lv_iadd hx hb dX4_mend_69 ?_
          refine tp_i (y := nI (12 + t)) (by exact nI_add _ _) ?_
          refine lv_aload_n hx hb dX4_mend_70 rfl (lv_at hl 2 rfl) ?_
          refine va_get (D := D) (ci := 5) (v := .ref ((ad 6))) (C := RX4) (T := TX4) (N := 21) hx hb hts (by decide +kernel) hown hK hP 0 rfl rfl 8 (by decide) (hts (.fieldLink RX4 26 "TrackDiskModel" "space" "[I") (by decide +kernel)) (fun _ h9 => h9) rfl dX4_mend_71 ?_
          refine lv_iload_n hx hb dX4_mend_74 rfl (lv_at hl 1 rfl) ?_
          refine va_iald hx hb hK hP 6 0 rfl rfl (vp_in_nI (by omega) (by omega)) dX4_mend_75 ?_
          refine tp_i (y := bI ((fun t => nzF bs (16 * (8 * mlF se t + 0)) (16 * S)) t)) (by rw [nI_clamp (by omega)]; exact pk_us) ?_
          refine va_iast hx hb hK hP hD hS 6 0 rfl rfl (vp_in_nI (by omega) (by omega)) dX4_mend_76 (fun H locs hP hD hS => ?_)
          rw [show upd (upd (mmR (fun t => nzF bs (16 * (8 * mlF se t + 0)) (16 * S)) sp t) (t) (bI ((fun t => nzF bs (16 * (8 * mlF se t + 0)) (16 * S)) t))) (nI (12 + t)).toNatClampNeg (bI ((fun t => nzF bs (16 * (8 * mlF se t + 0)) (16 * S)) t)) = mmR (fun t => nzF bs (16 * (8 * mlF se t + 0)) (16 * S)) sp (t + 1) from by rw [nI_clamp (by omega)]; exact mmR_u (by omega) c_42 rfl] at hP hD
          have hP : va_P D vwCl (moW κ T S ad (nI 0) bs kp sm ks se (mmR (fun t => nzF bs (16 * (8 * mlF se t + 0)) (16 * S)) sp (t + 1)) ke kq vo nd wn wt wx wb (nI 0) tp tn ts) H := hP
          have hD : va_D A (moW κ T S ad (nI 0) bs kp sm ks se (mmR (fun t => nzF bs (16 * (8 * mlF se t + 0)) (16 * S)) sp (t + 1)) ke kq vo nd wn wt wx wb (nI 0) tp tn ts) := hD
          refine lv_iinc (v := nI (t + 1)) (lv' := [(2, .int (nI (t + 1))), (1, .int (nI (cnt (fun t => dfF sp (fun j => sp (12 + j)) t) (t + 1)))), (0, .ref ((ad 0)))]) hx hb dX4_mend_77 hl (k := 1) rfl (by exact nI_1 _) (by decide) rfl (fun ls hl => ?_)
          refine lv_goto (tgt := 19) hx hb dX4_mend_80 (by decide) ?_
          exact iht ls H locs ⟨lv_sub hl [0, 1, 2] rfl, hP, hD, hS⟩
        · skip
          rw [show mmR (fun t => nzF bs (16 * (8 * mlF se t + 0)) (16 * S)) sp t = mmR (fun t => nzF bs (16 * (8 * mlF se t + 0)) (16 * S)) sp (t + 1) from mmR_s (by omega) c_42] at hP hD
          rw [show cnt (fun t => dfF sp (fun j => sp (12 + j)) t) t = cnt (fun t => dfF sp (fun j => sp (12 + j)) t) (t + 1) from (cnt_f (f := (fun t => dfF sp (fun j => sp (12 + j)) t)) (by simp only [dfF, decide_eq_false_iff_not, Decidable.not_not]; exact c_42)).symm] at hl
          refine lv_goto (tgt := 77) hx hb dX4_mend_45 (by decide) ?_
          refine lv_iinc (v := nI (t + 1)) (lv' := [(2, .int (nI (t + 1))), (1, .int (nI (cnt (fun t => dfF sp (fun j => sp (12 + j)) t) (t + 1)))), (0, .ref ((ad 0)))]) hx hb dX4_mend_77 hl (k := 0) rfl (by exact nI_1 _) (by decide) rfl (fun ls hl => ?_)
          refine lv_goto (tgt := 19) hx hb dX4_mend_80 (by decide) ?_
          exact iht ls H locs ⟨lv_sub hl [0, 1, 2] rfl, hP, hD, hS⟩
    · skip
      clear hl hP hD hS
      obtain ⟨hl, hP, hD, hS⟩ := hI
      refine lv_iload_n hx hb dX4_mend_19 rfl (lv_at hl 0 rfl) ?_
      refine lv_aload_n hx hb dX4_mend_20 rfl (lv_at hl 2 rfl) ?_
      refine va_get (D := D) (ci := 5) (v := .int (nI T)) (C := RX4) (T := TX4) (N := 21) hx hb hts (by decide +kernel) hown hK hP 0 rfl rfl 1 (by decide) (hts (.fieldLink RX4 50 "TrackDiskModel" "tracks" "I") (by decide +kernel)) (fun _ h9 => h9) rfl dX4_mend_21 ?_
      refine lv_icmp_ge (tgt := 83) hx hb dX4_mend_24 (by decide) (fun c_24 => ?_) (fun c_24 => ?_)
      · skip
        refine lv_iload_n hx hb dX4_mend_83 rfl (lv_at hl 1 rfl) ?_
        have hP9 : va_P D vwCl (moW κ T S ad (nI 0) bs kp sm ks se (mmR (fun t => nzF bs (16 * (8 * mlF se t + 0)) (16 * S)) sp T) ke kq vo nd wn wt wx wb (nI 0) tp tn ts) H := hP
        have hD9 : va_D A (moW κ T S ad (nI 0) bs kp sm ks se (mmR (fun t => nzF bs (16 * (8 * mlF se t + 0)) (16 * S)) sp T) ke kq vo nd wn wt wx wb (nI 0) tp tn ts) := hD
        exact W.iret hx hb hr (fun t ht _ => ⟨⟨rfl, by rw [ht]; exact hP9, hD9⟩, hS.F ht⟩) hS.2.2 dX4_mend_84 hlocks
      · exact absurd (nI_le (Nat.le_refl _) (by omega)) c_24
  · exact absurd (by decide) c_9

set_option maxHeartbeats 4000000 in
set_option maxRecDepth 100000 in
/-- alternate: none -/
theorem m_alt_no (l : Launch) (D : va_G) (κ : Nat → ClassId) (sz : Nat) (T S : Nat) (ad : Nat → Nat) (co : Int32) (bs kp sm ks se sp ke kq vo : Nat → Int32) (nd wn : Int32) (wt wx wb : Nat → Int32) (dn : Int32) (tp : Nat → Int32) (tn ts : Int32) (x : Int32) (hno : inF x T = false) : Met l yX4_alternate wsX4_alternate ({ frames := 1, cells := 0, slots := 0, locals := 24 }) (va_Pc [.ref ((ad 0)), .int x] (mu_B D κ (moW κ T S ad co bs kp sm ks se sp ke kq vo nd wn wt wx wb dn tp tn ts) sz)) (mu_Q D (some (.int ((-2)))) (moW κ T S ad (nI 0) bs kp sm ks se sp ke kq vo nd wn wt wx wb dn tp tn ts) (va_A (moW κ T S ad co bs kp sm ks se sp ke kq vo nd wn wt wx wb dn tp tn ts) sz)) 0 0 (va_A (moW κ T S ad co bs kp sm ks se sp ke kq vo nd wn wt wx wb dn tp tn ts) sz) := by
  refine Met.ofW (cc := cX4_alternate) (maxL := 5) (ret := (some .int)) (by decide) rfl ?_
  intro p e s m args below meth c s₁ B hml hv
  obtain ⟨rfl, hsz, hP, hK, hD0⟩ := hv
  have hx := B.exec
  have hb := B.bytes
  have hr := B.returns
  have hts := atoms_spec (ws := wsX4_alternate) B.pre
  have hown : s.vm.findClass RX4 = some m.cls := findClass_of_methodNamed B.named
  have hlocks := B.notSynchronized
  subst hsz
  have hD := hD0.self (sz := s.heap.size)
  generalize hAe : va_A (moW κ T S ad co bs kp sm ks se sp ke kq vo nd wn wt wx wb dn tp tn ts) s.heap.size = A at hD ⊢
  have hA : ∀ q : Nat, s.heap.size ≤ q → A q := fun q h => by rw [← hAe]; exact Or.inr h
  refine W.gen (P := fun H locs => va_P D vwCl (moW κ T S ad co bs kp sm ks se sp ke kq vo nd wn wt wx wb dn tp tn ts) H ∧ va_S A s.heap H locs) (fun H locs h => ?_) ⟨hP, va_S.rf⟩
  clear hP
  obtain ⟨hP, hS⟩ := h
  have hl := lv_entry ([.ref ((ad 0)), .int x]) (n := 5) (Nat.le_of_ble_eq_true rfl)
  rw [lg_entry_eq]
  generalize (lg_sl ([.ref ((ad 0)), .int x]) ++ List.replicate (5 - (lg_sl ([.ref ((ad 0)), .int x])).length) Slot.unset).toArray = ls at hl ⊢
  have hl : lv_has ls 5 [(0, .ref ((ad 0))), (1, .int x)] := hl
  refine lv_aload_n hx hb dX4_alternate_0 rfl (lv_at hl 0 rfl) ?_
  refine lv_iconst (v := nI 0) hx hb dX4_alternate_1 (by decide) ?_
  refine va_put (D := D) (ci := 5) (v := .int (nI 0)) (ty := .int) (C := RX4) (T := TX4) (N := 21) hx hb hts (by decide +kernel) tyX4 tyX4_ok nmX4 hown hK hP hD hS 0 rfl rfl 0 (by decide) (hts (.fieldLink RX4 61 "TrackDiskModel" "code" "I") (by decide +kernel)) (fun _ h9 => h9) rfl (by decide +kernel) rfl rfl (Nat.le_of_ble_eq_true rfl) dX4_alternate_2 (fun H locs hP hD hS => ?_)
  have hP : va_P D vwCl (moW κ T S ad (nI 0) bs kp sm ks se sp ke kq vo nd wn wt wx wb dn tp tn ts) H := hP
  have hD : va_D A (moW κ T S ad (nI 0) bs kp sm ks se sp ke kq vo nd wn wt wx wb dn tp tn ts) := hD
  refine lv_aload_n hx hb dX4_alternate_5 rfl (lv_at hl 0 rfl) ?_
  refine lv_iload_n hx hb dX4_alternate_6 rfl (lv_at hl 1 rfl) ?_
  have hPc := hP.sub (ws' := moW κ T S ad (nI 0) bs kp sm ks se sp ke kq vo nd wn wt wx wb dn tp tn ts) [0, 1, 2, 3, 4, 5, 6, 7, 8, 9, 10, 11, 12, 13] rfl
  refine pu_call (va_runV (As := [.int x]) (rest := []) ⟨hx, hb, hml, hown, hts⟩ (m_isTrack l D κ T S ad (nI 0) bs kp sm ks se sp ke kq vo nd wn wt wx wb dn tp tn ts x) (cwV 1 hts gX4_alternate_X4_isTrack rfl rfl rfl (by decide +kernel) ⟨Nat.le_of_ble_eq_true rfl, Nat.le_of_ble_eq_true rfl⟩) ⟨pu_blind, va_recv hK hPc (ci := 5) (q0 := 0) rfl rfl, pu_pre hK hPc⟩ rfl rfl hl.1 rfl (lv_room (Nat.le_of_ble_eq_true rfl)) dX4_alternate_7 ⟨Nat.le_of_ble_eq_true rfl, Nat.le_of_ble_eq_true rfl⟩) ?_
  refine lv_if_ne (tgt := 16) hx hb dX4_alternate_10 (by decide) (fun c_10 => ?_) (fun c_10 => ?_)
  · exact (bI_cf hno c_10).elim
  · skip
    refine lv_bipush (v := (-2)) hx hb dX4_alternate_13 (by decide) ?_
    have hP9 : va_P D vwCl (moW κ T S ad (nI 0) bs kp sm ks se sp ke kq vo nd wn wt wx wb dn tp tn ts) H := hP
    have hD9 : va_D A (moW κ T S ad (nI 0) bs kp sm ks se sp ke kq vo nd wn wt wx wb dn tp tn ts) := hD
    exact W.iret hx hb hr (fun t ht _ => ⟨⟨rfl, by rw [ht]; exact hP9, hD9⟩, hS.F ht⟩) hS.2.2 dX4_alternate_15 hlocks

set_option maxHeartbeats 4000000 in
set_option maxRecDepth 100000 in
/-- alternate: down -/
theorem m_alt_down (l : Launch) (D : va_G) (κ : Nat → ClassId) (sz : Nat) (T S : Nat) (ad : Nat → Nat) (co : Int32) (bs kp sm ks se sp ke kq vo : Nat → Int32) (nd wn : Int32) (wt wx wb : Nat → Int32) (tp : Nat → Int32) (tn ts : Int32)  (hT : T ≤ 12) (t : Nat) (ht : t < T)  : Met l yX4_alternate wsX4_alternate ({ frames := 1, cells := 0, slots := 0, locals := 24 }) (va_Pc [.ref ((ad 0)), .int (nI t)] (mu_B D κ (moW κ T S ad co bs kp sm ks se sp ke kq vo nd wn wt wx wb (nI 1) tp tn ts) sz)) (mu_Q D (some (.int ((-5)))) (moW κ T S ad (nI 0) bs kp sm ks se sp ke kq vo nd wn wt wx wb (nI 1) tp tn ts) (va_A (moW κ T S ad co bs kp sm ks se sp ke kq vo nd wn wt wx wb (nI 1) tp tn ts) sz)) 0 0 (va_A (moW κ T S ad co bs kp sm ks se sp ke kq vo nd wn wt wx wb (nI 1) tp tn ts) sz) := by
  refine Met.ofW (cc := cX4_alternate) (maxL := 5) (ret := (some .int)) (by decide) rfl ?_
  intro p e s m args below meth c s₁ B hml hv
  obtain ⟨rfl, hsz, hP, hK, hD0⟩ := hv
  have hx := B.exec
  have hb := B.bytes
  have hr := B.returns
  have hts := atoms_spec (ws := wsX4_alternate) B.pre
  have hown : s.vm.findClass RX4 = some m.cls := findClass_of_methodNamed B.named
  have hlocks := B.notSynchronized
  subst hsz
  have hD := hD0.self (sz := s.heap.size)
  generalize hAe : va_A (moW κ T S ad co bs kp sm ks se sp ke kq vo nd wn wt wx wb (nI 1) tp tn ts) s.heap.size = A at hD ⊢
  have hA : ∀ q : Nat, s.heap.size ≤ q → A q := fun q h => by rw [← hAe]; exact Or.inr h
  refine W.gen (P := fun H locs => va_P D vwCl (moW κ T S ad co bs kp sm ks se sp ke kq vo nd wn wt wx wb (nI 1) tp tn ts) H ∧ va_S A s.heap H locs) (fun H locs h => ?_) ⟨hP, va_S.rf⟩
  clear hP
  obtain ⟨hP, hS⟩ := h
  have hl := lv_entry ([.ref ((ad 0)), .int (nI t)]) (n := 5) (Nat.le_of_ble_eq_true rfl)
  rw [lg_entry_eq]
  generalize (lg_sl ([.ref ((ad 0)), .int (nI t)]) ++ List.replicate (5 - (lg_sl ([.ref ((ad 0)), .int (nI t)])).length) Slot.unset).toArray = ls at hl ⊢
  have hl : lv_has ls 5 [(0, .ref ((ad 0))), (1, .int (nI t))] := hl
  refine lv_aload_n hx hb dX4_alternate_0 rfl (lv_at hl 0 rfl) ?_
  refine lv_iconst (v := nI 0) hx hb dX4_alternate_1 (by decide) ?_
  refine va_put (D := D) (ci := 5) (v := .int (nI 0)) (ty := .int) (C := RX4) (T := TX4) (N := 21) hx hb hts (by decide +kernel) tyX4 tyX4_ok nmX4 hown hK hP hD hS 0 rfl rfl 0 (by decide) (hts (.fieldLink RX4 61 "TrackDiskModel" "code" "I") (by decide +kernel)) (fun _ h9 => h9) rfl (by decide +kernel) rfl rfl (Nat.le_of_ble_eq_true rfl) dX4_alternate_2 (fun H locs hP hD hS => ?_)
  have hP : va_P D vwCl (moW κ T S ad (nI 0) bs kp sm ks se sp ke kq vo nd wn wt wx wb (nI 1) tp tn ts) H := hP
  have hD : va_D A (moW κ T S ad (nI 0) bs kp sm ks se sp ke kq vo nd wn wt wx wb (nI 1) tp tn ts) := hD
  refine lv_aload_n hx hb dX4_alternate_5 rfl (lv_at hl 0 rfl) ?_
  refine lv_iload_n hx hb dX4_alternate_6 rfl (lv_at hl 1 rfl) ?_
  have hPc := hP.sub (ws' := moW κ T S ad (nI 0) bs kp sm ks se sp ke kq vo nd wn wt wx wb (nI 1) tp tn ts) [0, 1, 2, 3, 4, 5, 6, 7, 8, 9, 10, 11, 12, 13] rfl
  refine pu_call (va_runV (As := [.int (nI t)]) (rest := []) ⟨hx, hb, hml, hown, hts⟩ (m_isTrack l D κ T S ad (nI 0) bs kp sm ks se sp ke kq vo nd wn wt wx wb (nI 1) tp tn ts (nI t)) (cwV 1 hts gX4_alternate_X4_isTrack rfl rfl rfl (by decide +kernel) ⟨Nat.le_of_ble_eq_true rfl, Nat.le_of_ble_eq_true rfl⟩) ⟨pu_blind, va_recv hK hPc (ci := 5) (q0 := 0) rfl rfl, pu_pre hK hPc⟩ rfl rfl hl.1 rfl (lv_room (Nat.le_of_ble_eq_true rfl)) dX4_alternate_7 ⟨Nat.le_of_ble_eq_true rfl, Nat.le_of_ble_eq_true rfl⟩) ?_
  refine lv_if_ne (tgt := 16) hx hb dX4_alternate_10 (by decide) (fun c_10 => ?_) (fun c_10 => ?_)
  · skip
    refine lv_aload_n hx hb dX4_alternate_16 rfl (lv_at hl 0 rfl) ?_
    refine va_get (D := D) (ci := 5) (v := .int (nI 1)) (C := RX4) (T := TX4) (N := 21) hx hb hts (by decide +kernel) hown hK hP 0 rfl rfl 17 (by decide) (hts (.fieldLink RX4 73 "TrackDiskModel" "down" "Z") (by decide +kernel)) (fun _ h9 => h9) rfl dX4_alternate_17 ?_
    refine lv_if_eq (tgt := 26) hx hb dX4_alternate_20 (by decide) (fun c_20 => ?_) (fun c_20 => ?_)
    · exact absurd c_20 (by decide)
    · skip
      refine lv_bipush (v := (-5)) hx hb dX4_alternate_23 (by decide) ?_
      have hP9 : va_P D vwCl (moW κ T S ad (nI 0) bs kp sm ks se sp ke kq vo nd wn wt wx wb (nI 1) tp tn ts) H := hP
      have hD9 : va_D A (moW κ T S ad (nI 0) bs kp sm ks se sp ke kq vo nd wn wt wx wb (nI 1) tp tn ts) := hD
      exact W.iret hx hb hr (fun t ht _ => ⟨⟨rfl, by rw [ht]; exact hP9, hD9⟩, hS.F ht⟩) hS.2.2 dX4_alternate_25 hlocks
  · exact (bI_ct (inF_nI ht (by omega)) c_10).elim

set_option maxHeartbeats 4000000 in
set_option maxRecDepth 100000 in
/-- alternate: sent -/
theorem m_alt_sent (l : Launch) (D : va_G) (κ : Nat → ClassId) (sz : Nat) (T S : Nat) (ad : Nat → Nat) (co : Int32) (bs kp sm ks se sp ke kq vo : Nat → Int32) (nd wn : Int32) (wt wx wb : Nat → Int32) (tp : Nat → Int32) (tn ts : Int32)  (hT : T ≤ 12) (t : Nat) (ht : t < T) (hs1 : ¬ se t = -1) : Met l yX4_alternate wsX4_alternate ({ frames := 1, cells := 0, slots := 0, locals := 24 }) (va_Pc [.ref ((ad 0)), .int (nI t)] (mu_B D κ (moW κ T S ad co bs kp sm ks se sp ke kq vo nd wn wt wx wb (nI 0) tp tn ts) sz)) (mu_Q D (some (.int (nI 0))) (moW κ T S ad (nI 0) bs kp sm ks se sp ke kq vo nd wn wt wx wb (nI 0) tp tn ts) (va_A (moW κ T S ad co bs kp sm ks se sp ke kq vo nd wn wt wx wb (nI 0) tp tn ts) sz)) 0 0 (va_A (moW κ T S ad co bs kp sm ks se sp ke kq vo nd wn wt wx wb (nI 0) tp tn ts) sz) := by
  refine Met.ofW (cc := cX4_alternate) (maxL := 5) (ret := (some .int)) (by decide) rfl ?_
  intro p e s m args below meth c s₁ B hml hv
  obtain ⟨rfl, hsz, hP, hK, hD0⟩ := hv
  have hx := B.exec
  have hb := B.bytes
  have hr := B.returns
  have hts := atoms_spec (ws := wsX4_alternate) B.pre
  have hown : s.vm.findClass RX4 = some m.cls := findClass_of_methodNamed B.named
  have hlocks := B.notSynchronized
  subst hsz
  have hD := hD0.self (sz := s.heap.size)
  generalize hAe : va_A (moW κ T S ad co bs kp sm ks se sp ke kq vo nd wn wt wx wb (nI 0) tp tn ts) s.heap.size = A at hD ⊢
  have hA : ∀ q : Nat, s.heap.size ≤ q → A q := fun q h => by rw [← hAe]; exact Or.inr h
  refine W.gen (P := fun H locs => va_P D vwCl (moW κ T S ad co bs kp sm ks se sp ke kq vo nd wn wt wx wb (nI 0) tp tn ts) H ∧ va_S A s.heap H locs) (fun H locs h => ?_) ⟨hP, va_S.rf⟩
  clear hP
  obtain ⟨hP, hS⟩ := h
  have hl := lv_entry ([.ref ((ad 0)), .int (nI t)]) (n := 5) (Nat.le_of_ble_eq_true rfl)
  rw [lg_entry_eq]
  generalize (lg_sl ([.ref ((ad 0)), .int (nI t)]) ++ List.replicate (5 - (lg_sl ([.ref ((ad 0)), .int (nI t)])).length) Slot.unset).toArray = ls at hl ⊢
  have hl : lv_has ls 5 [(0, .ref ((ad 0))), (1, .int (nI t))] := hl
  refine lv_aload_n hx hb dX4_alternate_0 rfl (lv_at hl 0 rfl) ?_
  refine lv_iconst (v := nI 0) hx hb dX4_alternate_1 (by decide) ?_
  refine va_put (D := D) (ci := 5) (v := .int (nI 0)) (ty := .int) (C := RX4) (T := TX4) (N := 21) hx hb hts (by decide +kernel) tyX4 tyX4_ok nmX4 hown hK hP hD hS 0 rfl rfl 0 (by decide) (hts (.fieldLink RX4 61 "TrackDiskModel" "code" "I") (by decide +kernel)) (fun _ h9 => h9) rfl (by decide +kernel) rfl rfl (Nat.le_of_ble_eq_true rfl) dX4_alternate_2 (fun H locs hP hD hS => ?_)
  have hP : va_P D vwCl (moW κ T S ad (nI 0) bs kp sm ks se sp ke kq vo nd wn wt wx wb (nI 0) tp tn ts) H := hP
  have hD : va_D A (moW κ T S ad (nI 0) bs kp sm ks se sp ke kq vo nd wn wt wx wb (nI 0) tp tn ts) := hD
  refine lv_aload_n hx hb dX4_alternate_5 rfl (lv_at hl 0 rfl) ?_
  refine lv_iload_n hx hb dX4_alternate_6 rfl (lv_at hl 1 rfl) ?_
  have hPc := hP.sub (ws' := moW κ T S ad (nI 0) bs kp sm ks se sp ke kq vo nd wn wt wx wb (nI 0) tp tn ts) [0, 1, 2, 3, 4, 5, 6, 7, 8, 9, 10, 11, 12, 13] rfl
  refine pu_call (va_runV (As := [.int (nI t)]) (rest := []) ⟨hx, hb, hml, hown, hts⟩ (m_isTrack l D κ T S ad (nI 0) bs kp sm ks se sp ke kq vo nd wn wt wx wb (nI 0) tp tn ts (nI t)) (cwV 1 hts gX4_alternate_X4_isTrack rfl rfl rfl (by decide +kernel) ⟨Nat.le_of_ble_eq_true rfl, Nat.le_of_ble_eq_true rfl⟩) ⟨pu_blind, va_recv hK hPc (ci := 5) (q0 := 0) rfl rfl, pu_pre hK hPc⟩ rfl rfl hl.1 rfl (lv_room (Nat.le_of_ble_eq_true rfl)) dX4_alternate_7 ⟨Nat.le_of_ble_eq_true rfl, Nat.le_of_ble_eq_true rfl⟩) ?_
  refine lv_if_ne (tgt := 16) hx hb dX4_alternate_10 (by decide) (fun c_10 => ?_) (fun c_10 => ?_)
  · skip
    refine lv_aload_n hx hb dX4_alternate_16 rfl (lv_at hl 0 rfl) ?_
    refine va_get (D := D) (ci := 5) (v := .int (nI 0)) (C := RX4) (T := TX4) (N := 21) hx hb hts (by decide +kernel) hown hK hP 0 rfl rfl 17 (by decide) (hts (.fieldLink RX4 73 "TrackDiskModel" "down" "Z") (by decide +kernel)) (fun _ h9 => h9) rfl dX4_alternate_17 ?_
    refine lv_if_eq (tgt := 26) hx hb dX4_alternate_20 (by decide) (fun c_20 => ?_) (fun c_20 => ?_)
    · skip
      refine lv_aload_n hx hb dX4_alternate_26 rfl (lv_at hl 0 rfl) ?_
      refine va_get (D := D) (ci := 5) (v := .ref ((ad 5))) (C := RX4) (T := TX4) (N := 21) hx hb hts (by decide +kernel) hown hK hP 0 rfl rfl 7 (by decide) (hts (.fieldLink RX4 23 "TrackDiskModel" "sent" "[I") (by decide +kernel)) (fun _ h9 => h9) rfl dX4_alternate_27 ?_
      refine lv_iload_n hx hb dX4_alternate_30 rfl (lv_at hl 1 rfl) ?_
      refine va_iald hx hb hK hP 5 0 rfl rfl (vp_in_nI (by omega) (by omega)) dX4_alternate_31 ?_
      refine tp_i (y := se t) (by rw [nI_clamp (by omega)]) ?_
      refine lv_iconst (v := (-1)) hx hb dX4_alternate_32 (by decide) ?_
      refine lv_icmp_eq (tgt := 38) hx hb dX4_alternate_33 (by decide) (fun c_33 => ?_) (fun c_33 => ?_)
      · exact absurd c_33 hs1
      · skip
        refine lv_iconst (v := nI 0) hx hb dX4_alternate_36 (by decide) ?_
        have hP9 : va_P D vwCl (moW κ T S ad (nI 0) bs kp sm ks se sp ke kq vo nd wn wt wx wb (nI 0) tp tn ts) H := hP
        have hD9 : va_D A (moW κ T S ad (nI 0) bs kp sm ks se sp ke kq vo nd wn wt wx wb (nI 0) tp tn ts) := hD
        exact W.iret hx hb hr (fun t ht _ => ⟨⟨rfl, by rw [ht]; exact hP9, hD9⟩, hS.F ht⟩) hS.2.2 dX4_alternate_37 hlocks
    · exact absurd (by decide) c_20
  · exact (bI_ct (inF_nI ht (by omega)) c_10).elim

set_option maxHeartbeats 4000000 in
set_option maxRecDepth 100000 in
/-- alternate: full -/
theorem m_alt_full (l : Launch) (D : va_G) (κ : Nat → ClassId) (sz : Nat) (T S : Nat) (ad : Nat → Nat) (co : Int32) (bs kp sm ks se sp ke kq vo : Nat → Int32) (nd wn : Int32) (wt wx wb : Nat → Int32) (tp : Nat → Int32) (tn ts : Int32)  (hT : T ≤ 12) (t : Nat) (ht : t < T) (hs1 : se t = -1) (k0 : Nat) (hfr : ar2 se T 2 = nI (T + k0)) (hk0 : k0 = 2) : Met l yX4_alternate wsX4_alternate ({ frames := 1, cells := 0, slots := 0, locals := 24 }) (va_Pc [.ref ((ad 0)), .int (nI t)] (mu_B D κ (moW κ T S ad co bs kp sm ks se sp ke kq vo nd wn wt wx wb (nI 0) tp tn ts) sz)) (mu_Q D (some (.int (nI 0))) (moW κ T S ad (nI 0) bs kp sm ks se sp ke kq vo nd wn wt wx wb (nI 0) tp tn ts) (va_A (moW κ T S ad co bs kp sm ks se sp ke kq vo nd wn wt wx wb (nI 0) tp tn ts) sz)) 0 0 (va_A (moW κ T S ad co bs kp sm ks se sp ke kq vo nd wn wt wx wb (nI 0) tp tn ts) sz) := by
  refine Met.ofW (cc := cX4_alternate) (maxL := 5) (ret := (some .int)) (by decide) rfl ?_
  intro p e s m args below meth c s₁ B hml hv
  obtain ⟨rfl, hsz, hP, hK, hD0⟩ := hv
  have hx := B.exec
  have hb := B.bytes
  have hr := B.returns
  have hts := atoms_spec (ws := wsX4_alternate) B.pre
  have hown : s.vm.findClass RX4 = some m.cls := findClass_of_methodNamed B.named
  have hlocks := B.notSynchronized
  subst hsz
  have hD := hD0.self (sz := s.heap.size)
  generalize hAe : va_A (moW κ T S ad co bs kp sm ks se sp ke kq vo nd wn wt wx wb (nI 0) tp tn ts) s.heap.size = A at hD ⊢
  have hA : ∀ q : Nat, s.heap.size ≤ q → A q := fun q h => by rw [← hAe]; exact Or.inr h
  refine W.gen (P := fun H locs => va_P D vwCl (moW κ T S ad co bs kp sm ks se sp ke kq vo nd wn wt wx wb (nI 0) tp tn ts) H ∧ va_S A s.heap H locs) (fun H locs h => ?_) ⟨hP, va_S.rf⟩
  clear hP
  obtain ⟨hP, hS⟩ := h
  have hl := lv_entry ([.ref ((ad 0)), .int (nI t)]) (n := 5) (Nat.le_of_ble_eq_true rfl)
  rw [lg_entry_eq]
  generalize (lg_sl ([.ref ((ad 0)), .int (nI t)]) ++ List.replicate (5 - (lg_sl ([.ref ((ad 0)), .int (nI t)])).length) Slot.unset).toArray = ls at hl ⊢
  have hl : lv_has ls 5 [(0, .ref ((ad 0))), (1, .int (nI t))] := hl
  refine lv_aload_n hx hb dX4_alternate_0 rfl (lv_at hl 0 rfl) ?_
  refine lv_iconst (v := nI 0) hx hb dX4_alternate_1 (by decide) ?_
  refine va_put (D := D) (ci := 5) (v := .int (nI 0)) (ty := .int) (C := RX4) (T := TX4) (N := 21) hx hb hts (by decide +kernel) tyX4 tyX4_ok nmX4 hown hK hP hD hS 0 rfl rfl 0 (by decide) (hts (.fieldLink RX4 61 "TrackDiskModel" "code" "I") (by decide +kernel)) (fun _ h9 => h9) rfl (by decide +kernel) rfl rfl (Nat.le_of_ble_eq_true rfl) dX4_alternate_2 (fun H locs hP hD hS => ?_)
  have hP : va_P D vwCl (moW κ T S ad (nI 0) bs kp sm ks se sp ke kq vo nd wn wt wx wb (nI 0) tp tn ts) H := hP
  have hD : va_D A (moW κ T S ad (nI 0) bs kp sm ks se sp ke kq vo nd wn wt wx wb (nI 0) tp tn ts) := hD
  refine lv_aload_n hx hb dX4_alternate_5 rfl (lv_at hl 0 rfl) ?_
  refine lv_iload_n hx hb dX4_alternate_6 rfl (lv_at hl 1 rfl) ?_
  have hPc := hP.sub (ws' := moW κ T S ad (nI 0) bs kp sm ks se sp ke kq vo nd wn wt wx wb (nI 0) tp tn ts) [0, 1, 2, 3, 4, 5, 6, 7, 8, 9, 10, 11, 12, 13] rfl
  refine pu_call (va_runV (As := [.int (nI t)]) (rest := []) ⟨hx, hb, hml, hown, hts⟩ (m_isTrack l D κ T S ad (nI 0) bs kp sm ks se sp ke kq vo nd wn wt wx wb (nI 0) tp tn ts (nI t)) (cwV 1 hts gX4_alternate_X4_isTrack rfl rfl rfl (by decide +kernel) ⟨Nat.le_of_ble_eq_true rfl, Nat.le_of_ble_eq_true rfl⟩) ⟨pu_blind, va_recv hK hPc (ci := 5) (q0 := 0) rfl rfl, pu_pre hK hPc⟩ rfl rfl hl.1 rfl (lv_room (Nat.le_of_ble_eq_true rfl)) dX4_alternate_7 ⟨Nat.le_of_ble_eq_true rfl, Nat.le_of_ble_eq_true rfl⟩) ?_
  refine lv_if_ne (tgt := 16) hx hb dX4_alternate_10 (by decide) (fun c_10 => ?_) (fun c_10 => ?_)
  · skip
    refine lv_aload_n hx hb dX4_alternate_16 rfl (lv_at hl 0 rfl) ?_
    refine va_get (D := D) (ci := 5) (v := .int (nI 0)) (C := RX4) (T := TX4) (N := 21) hx hb hts (by decide +kernel) hown hK hP 0 rfl rfl 17 (by decide) (hts (.fieldLink RX4 73 "TrackDiskModel" "down" "Z") (by decide +kernel)) (fun _ h9 => h9) rfl dX4_alternate_17 ?_
    refine lv_if_eq (tgt := 26) hx hb dX4_alternate_20 (by decide) (fun c_20 => ?_) (fun c_20 => ?_)
    · skip
      refine lv_aload_n hx hb dX4_alternate_26 rfl (lv_at hl 0 rfl) ?_
      refine va_get (D := D) (ci := 5) (v := .ref ((ad 5))) (C := RX4) (T := TX4) (N := 21) hx hb hts (by decide +kernel) hown hK hP 0 rfl rfl 7 (by decide) (hts (.fieldLink RX4 23 "TrackDiskModel" "sent" "[I") (by decide +kernel)) (fun _ h9 => h9) rfl dX4_alternate_27 ?_
      refine lv_iload_n hx hb dX4_alternate_30 rfl (lv_at hl 1 rfl) ?_
      refine va_iald hx hb hK hP 5 0 rfl rfl (vp_in_nI (by omega) (by omega)) dX4_alternate_31 ?_
      refine tp_i (y := se t) (by rw [nI_clamp (by omega)]) ?_
      refine lv_iconst (v := (-1)) hx hb dX4_alternate_32 (by decide) ?_
      refine lv_icmp_eq (tgt := 38) hx hb dX4_alternate_33 (by decide) (fun c_33 => ?_) (fun c_33 => ?_)
      · skip
        refine lv_aload_n hx hb dX4_alternate_38 rfl (lv_at hl 0 rfl) ?_
        refine va_get (D := D) (ci := 5) (v := .int (nI T)) (C := RX4) (T := TX4) (N := 21) hx hb hts (by decide +kernel) hown hK hP 0 rfl rfl 1 (by decide) (hts (.fieldLink RX4 50 "TrackDiskModel" "tracks" "I") (by decide +kernel)) (fun _ h9 => h9) rfl dX4_alternate_39 ?_
        refine lv_istore_n (lv' := [(2, .int (nI T)), (0, .ref ((ad 0))), (1, .int (nI t))]) hx hb dX4_alternate_42 rfl hl (by decide) rfl (fun ls hl => ?_)
        refine lv_iconst (v := nI 0) hx hb dX4_alternate_43 (by decide) ?_
        refine lv_istore_n (lv' := [(3, .int (nI 0)), (2, .int (nI T)), (0, .ref ((ad 0))), (1, .int (nI t))]) hx hb dX4_alternate_44 rfl hl (by decide) rfl (fun ls hl => ?_)
        refine W.loop (N := 2) (I := fun r ls H locs => lv_has ls 5 [(3, .int (nI r)), (2, .int (ar2 se T r)), (0, .ref ((ad 0))), (1, .int (nI t))] ∧ va_P D vwCl (moW κ T S ad (nI 0) bs kp sm ks se sp ke kq vo nd wn wt wx wb (nI 0) tp tn ts) H ∧ va_D A (moW κ T S ad (nI 0) bs kp sm ks se sp ke kq vo nd wn wt wx wb (nI 0) tp tn ts) ∧ va_S A s.heap H locs) 0 (by omega) (fun r ls H locs hr hI ihr => ?_) (fun ls H locs hI => ?_) ⟨lv_sub hl [0, 1, 2, 3] rfl, hP, hD, hS⟩
        · skip
          clear hl hP hD hS
          obtain ⟨hl, hP, hD, hS⟩ := hI
          refine lv_iload_n hx hb dX4_alternate_45 rfl (lv_at hl 0 rfl) ?_
          refine lv_iconst (v := nI 2) hx hb dX4_alternate_46 (by decide) ?_
          refine lv_icmp_ge (tgt := 93) hx hb dX4_alternate_47 (by decide) (fun c_47 => ?_) (fun c_47 => ?_)
          · exact absurd c_47 (nI_ge hr (by omega))
          · skip
            refine lv_iconst (v := nI 0) hx hb dX4_alternate_50 (by decide) ?_
            refine lv_istore (lv' := [(4, .int (nI 0)), (3, .int (nI r)), (2, .int (ar2 se T r)), (0, .ref ((ad 0))), (1, .int (nI t))]) hx hb dX4_alternate_51 hl (by decide) rfl (fun ls hl => ?_)
            refine W.loop (N := T) (I := fun k ls H locs => lv_has ls 5 [(4, .int (nI k)), (3, .int (nI r)), (2, .int (arF se (ar2 se T r) k)), (0, .ref ((ad 0))), (1, .int (nI t))] ∧ va_P D vwCl (moW κ T S ad (nI 0) bs kp sm ks se sp ke kq vo nd wn wt wx wb (nI 0) tp tn ts) H ∧ va_D A (moW κ T S ad (nI 0) bs kp sm ks se sp ke kq vo nd wn wt wx wb (nI 0) tp tn ts) ∧ va_S A s.heap H locs) 0 (by omega) (fun k ls H locs hk hI ihk => ?_) (fun ls H locs hI => ?_) ⟨lv_sub hl [0, 1, 2, 3, 4] rfl, hP, hD, hS⟩
            · skip
              clear hl hP hD hS
              obtain ⟨hl, hP, hD, hS⟩ := hI
              refine lv_iload hx hb dX4_alternate_53 (lv_at hl 0 rfl) ?_
              refine lv_aload_n hx hb dX4_alternate_55 rfl (lv_at hl 3 rfl) ?_
              refine va_get (D := D) (ci := 5) (v := .int (nI T)) (C := RX4) (T := TX4) (N := 21) hx hb hts (by decide +kernel) hown hK hP 0 rfl rfl 1 (by decide) (hts (.fieldLink RX4 50 "TrackDiskModel" "tracks" "I") (by decide +kernel)) (fun _ h9 => h9) rfl dX4_alternate_56 ?_
              refine lv_icmp_ge (tgt := 87) hx hb dX4_alternate_59 (by decide) (fun c_59 => ?_) (fun c_59 => ?_)
              · exact absurd c_59 (nI_ge hk (by omega))
              · skip
                refine lv_aload_n hx hb dX4_alternate_62 rfl (lv_at hl 3 rfl) ?_
                refine va_get (D := D) (ci := 5) (v := .ref ((ad 5))) (C := RX4) (T := TX4) (N := 21) hx hb hts (by decide +kernel) hown hK hP 0 rfl rfl 7 (by decide) (hts (.fieldLink RX4 23 "TrackDiskModel" "sent" "[I") (by decide +kernel)) (fun _ h9 => h9) rfl dX4_alternate_63 ?_
                refine lv_iload hx hb dX4_alternate_66 (lv_at hl 0 rfl) ?_
                refine va_iald hx hb hK hP 5 0 rfl rfl (vp_in_nI (by omega) (by omega)) dX4_alternate_68 ?_
                refine tp_i (y := se k) (by rw [nI_clamp (by omega)]) ?_
                refine lv_iload_n hx hb dX4_alternate_69 rfl (lv_at hl 2 rfl) ?_
                refine lv_icmp_ne (tgt := 79) hx hb dX4_alternate_70 (by decide) (fun c_70 => ?_) (fun c_70 => ?_)
                · skip
                  refine lv_iload_n hx hb dX4_alternate_79 rfl (lv_at hl 2 rfl) ?_
                  refine tp_i (y := arF se (ar2 se T r) (k + 1)) (by first | exact arF_t c_70 | exact arF_f c_70) ?_
                  refine lv_istore_n (lv' := [(2, .int (arF se (ar2 se T r) (k + 1))), (4, .int (nI k)), (3, .int (nI r)), (0, .ref ((ad 0))), (1, .int (nI t))]) hx hb dX4_alternate_80 rfl hl (by decide) rfl (fun ls hl => ?_)
                  refine lv_iinc (v := nI (k + 1)) (lv' := [(4, .int (nI (k + 1))), (2, .int (arF se (ar2 se T r) (k + 1))), (3, .int (nI r)), (0, .ref ((ad 0))), (1, .int (nI t))]) hx hb dX4_alternate_81 hl (k := 1) rfl (by exact nI_1 _) (by decide) rfl (fun ls hl => ?_)
                  refine lv_goto (tgt := 53) hx hb dX4_alternate_84 (by decide) ?_
                  exact ihk ls H locs ⟨lv_sub hl [0, 2, 1, 3, 4] rfl, hP, hD, hS⟩
                · skip
                  refine lv_iload_n hx hb dX4_alternate_73 rfl (lv_at hl 2 rfl) ?_
                  refine lv_iconst (v := nI 1) hx hb dX4_alternate_74 (by decide) ?_
                  refine lv_iadd hx hb dX4_alternate_75 ?_
                  refine lv_goto (tgt := 80) hx hb dX4_alternate_76 (by decide) ?_
                  refine tp_i (y := arF se (ar2 se T r) (k + 1)) (by first | exact arF_t c_70 | exact arF_f c_70) ?_
                  refine lv_istore_n (lv' := [(2, .int (arF se (ar2 se T r) (k + 1))), (4, .int (nI k)), (3, .int (nI r)), (0, .ref ((ad 0))), (1, .int (nI t))]) hx hb dX4_alternate_80 rfl hl (by decide) rfl (fun ls hl => ?_)
                  refine lv_iinc (v := nI (k + 1)) (lv' := [(4, .int (nI (k + 1))), (2, .int (arF se (ar2 se T r) (k + 1))), (3, .int (nI r)), (0, .ref ((ad 0))), (1, .int (nI t))]) hx hb dX4_alternate_81 hl (k := 1) rfl (by exact nI_1 _) (by decide) rfl (fun ls hl => ?_)
                  refine lv_goto (tgt := 53) hx hb dX4_alternate_84 (by decide) ?_
                  exact ihk ls H locs ⟨lv_sub hl [0, 2, 1, 3, 4] rfl, hP, hD, hS⟩
            · skip
              clear hl hP hD hS
              obtain ⟨hl, hP, hD, hS⟩ := hI
              refine lv_iload hx hb dX4_alternate_53 (lv_at hl 0 rfl) ?_
              refine lv_aload_n hx hb dX4_alternate_55 rfl (lv_at hl 3 rfl) ?_
              refine va_get (D := D) (ci := 5) (v := .int (nI T)) (C := RX4) (T := TX4) (N := 21) hx hb hts (by decide +kernel) hown hK hP 0 rfl rfl 1 (by decide) (hts (.fieldLink RX4 50 "TrackDiskModel" "tracks" "I") (by decide +kernel)) (fun _ h9 => h9) rfl dX4_alternate_56 ?_
              refine lv_icmp_ge (tgt := 87) hx hb dX4_alternate_59 (by decide) (fun c_59 => ?_) (fun c_59 => ?_)
              · skip
                refine lv_iinc (v := nI (r + 1)) (lv' := [(3, .int (nI (r + 1))), (4, .int (nI T)), (2, .int (arF se (ar2 se T r) T)), (0, .ref ((ad 0))), (1, .int (nI t))]) hx hb dX4_alternate_87 hl (k := 1) rfl (by exact nI_1 _) (by decide) rfl (fun ls hl => ?_)
                refine lv_goto (tgt := 45) hx hb dX4_alternate_90 (by decide) ?_
                exact ihr ls H locs ⟨lv_sub hl [0, 2, 3, 4] rfl, hP, hD, hS⟩
              · exact absurd (nI_le (Nat.le_refl _) (by omega)) c_59
        · skip
          clear hl hP hD hS
          obtain ⟨hl, hP, hD, hS⟩ := hI
          rw [hfr] at hl
          refine lv_iload_n hx hb dX4_alternate_45 rfl (lv_at hl 0 rfl) ?_
          refine lv_iconst (v := nI 2) hx hb dX4_alternate_46 (by decide) ?_
          refine lv_icmp_ge (tgt := 93) hx hb dX4_alternate_47 (by decide) (fun c_47 => ?_) (fun c_47 => ?_)
          · skip
            refine lv_iload_n hx hb dX4_alternate_93 rfl (lv_at hl 1 rfl) ?_
            refine lv_aload_n hx hb dX4_alternate_94 rfl (lv_at hl 2 rfl) ?_
            refine va_get (D := D) (ci := 5) (v := .int (nI T)) (C := RX4) (T := TX4) (N := 21) hx hb hts (by decide +kernel) hown hK hP 0 rfl rfl 1 (by decide) (hts (.fieldLink RX4 50 "TrackDiskModel" "tracks" "I") (by decide +kernel)) (fun _ h9 => h9) rfl dX4_alternate_95 ?_
            refine lv_iconst (v := nI 1) hx hb dX4_alternate_98 (by decide) ?_
            refine lv_iadd hx hb dX4_alternate_99 ?_
            refine tp_i (y := nI (T + 1)) (by exact nI_add _ _) ?_
            refine lv_icmp_le (tgt := 105) hx hb dX4_alternate_100 (by decide) (fun c_100 => ?_) (fun c_100 => ?_)
            · exact absurd c_100 (nI_ge (by omega) (by omega))
            · skip
              refine lv_iconst (v := nI 0) hx hb dX4_alternate_103 (by decide) ?_
              have hP9 : va_P D vwCl (moW κ T S ad (nI 0) bs kp sm ks se sp ke kq vo nd wn wt wx wb (nI 0) tp tn ts) H := hP
              have hD9 : va_D A (moW κ T S ad (nI 0) bs kp sm ks se sp ke kq vo nd wn wt wx wb (nI 0) tp tn ts) := hD
              exact W.iret hx hb hr (fun t ht _ => ⟨⟨rfl, by rw [ht]; exact hP9, hD9⟩, hS.F ht⟩) hS.2.2 dX4_alternate_104 hlocks
          · exact absurd (nI_le (Nat.le_refl _) (by omega)) c_47
      · exact absurd hs1 c_33
    · exact absurd (by decide) c_20
  · exact (bI_ct (inF_nI ht (by omega)) c_10).elim

set_option maxHeartbeats 4000000 in
set_option maxRecDepth 100000 in
/-- alternate -/
theorem m_alt (l : Launch) (D : va_G) (κ : Nat → ClassId) (sz : Nat) (T S : Nat) (ad : Nat → Nat) (co : Int32) (bs kp sm ks se sp ke kq vo : Nat → Int32) (nd wn : Int32) (wt wx wb : Nat → Int32) (tp : Nat → Int32) (tn ts : Int32)  (hT : T ≤ 12) (hS8 : S ≤ 8) (t : Nat) (ht : t < T) (hs1 : se t = -1) (k0 : Nat) (hfr : ar2 se T 2 = nI (T + k0)) (hk0 : k0 < 2) : Met l yX4_alternate wsX4_alternate ({ frames := 1, cells := 0, slots := 0, locals := 24 }) (va_Pc [.ref ((ad 0)), .int (nI t)] (mu_B D κ (moW κ T S ad co bs kp sm ks se sp ke kq vo nd wn wt wx wb (nI 0) tp tn ts) sz)) (mu_Q D (some (.int (nI (T + k0)))) (moW κ T S ad (nI 0) (cpS bs (128 * (T + k0)) (128 * t) (16 * S)) kp (msF (cpS bs (128 * (T + k0)) (128 * t) (16 * S)) sm (T + k0) S) ks (upd se t (nI (T + k0))) sp ke kq vo nd wn wt wx wb (nI 0) tp tn ts) (va_A (moW κ T S ad co bs kp sm ks se sp ke kq vo nd wn wt wx wb (nI 0) tp tn ts) sz)) 0 0 (va_A (moW κ T S ad co bs kp sm ks se sp ke kq vo nd wn wt wx wb (nI 0) tp tn ts) sz) := by
  refine Met.ofW (cc := cX4_alternate) (maxL := 5) (ret := (some .int)) (by decide) rfl ?_
  intro p e s m args below meth c s₁ B hml hv
  obtain ⟨rfl, hsz, hP, hK, hD0⟩ := hv
  have hx := B.exec
  have hb := B.bytes
  have hr := B.returns
  have hts := atoms_spec (ws := wsX4_alternate) B.pre
  have hown : s.vm.findClass RX4 = some m.cls := findClass_of_methodNamed B.named
  have hlocks := B.notSynchronized
  subst hsz
  have hD := hD0.self (sz := s.heap.size)
  generalize hAe : va_A (moW κ T S ad co bs kp sm ks se sp ke kq vo nd wn wt wx wb (nI 0) tp tn ts) s.heap.size = A at hD ⊢
  have hA : ∀ q : Nat, s.heap.size ≤ q → A q := fun q h => by rw [← hAe]; exact Or.inr h
  refine W.gen (P := fun H locs => va_P D vwCl (moW κ T S ad co bs kp sm ks se sp ke kq vo nd wn wt wx wb (nI 0) tp tn ts) H ∧ va_S A s.heap H locs) (fun H locs h => ?_) ⟨hP, va_S.rf⟩
  clear hP
  obtain ⟨hP, hS⟩ := h
  have hl := lv_entry ([.ref ((ad 0)), .int (nI t)]) (n := 5) (Nat.le_of_ble_eq_true rfl)
  rw [lg_entry_eq]
  generalize (lg_sl ([.ref ((ad 0)), .int (nI t)]) ++ List.replicate (5 - (lg_sl ([.ref ((ad 0)), .int (nI t)])).length) Slot.unset).toArray = ls at hl ⊢
  have hl : lv_has ls 5 [(0, .ref ((ad 0))), (1, .int (nI t))] := hl
  refine lv_aload_n hx hb dX4_alternate_0 rfl (lv_at hl 0 rfl) ?_
  refine lv_iconst (v := nI 0) hx hb dX4_alternate_1 (by decide) ?_
  refine va_put (D := D) (ci := 5) (v := .int (nI 0)) (ty := .int) (C := RX4) (T := TX4) (N := 21) hx hb hts (by decide +kernel) tyX4 tyX4_ok nmX4 hown hK hP hD hS 0 rfl rfl 0 (by decide) (hts (.fieldLink RX4 61 "TrackDiskModel" "code" "I") (by decide +kernel)) (fun _ h9 => h9) rfl (by decide +kernel) rfl rfl (Nat.le_of_ble_eq_true rfl) dX4_alternate_2 (fun H locs hP hD hS => ?_)
  have hP : va_P D vwCl (moW κ T S ad (nI 0) bs kp sm ks se sp ke kq vo nd wn wt wx wb (nI 0) tp tn ts) H := hP
  have hD : va_D A (moW κ T S ad (nI 0) bs kp sm ks se sp ke kq vo nd wn wt wx wb (nI 0) tp tn ts) := hD
  refine lv_aload_n hx hb dX4_alternate_5 rfl (lv_at hl 0 rfl) ?_
  refine lv_iload_n hx hb dX4_alternate_6 rfl (lv_at hl 1 rfl) ?_
  have hPc := hP.sub (ws' := moW κ T S ad (nI 0) bs kp sm ks se sp ke kq vo nd wn wt wx wb (nI 0) tp tn ts) [0, 1, 2, 3, 4, 5, 6, 7, 8, 9, 10, 11, 12, 13] rfl
  refine pu_call (va_runV (As := [.int (nI t)]) (rest := []) ⟨hx, hb, hml, hown, hts⟩ (m_isTrack l D κ T S ad (nI 0) bs kp sm ks se sp ke kq vo nd wn wt wx wb (nI 0) tp tn ts (nI t)) (cwV 1 hts gX4_alternate_X4_isTrack rfl rfl rfl (by decide +kernel) ⟨Nat.le_of_ble_eq_true rfl, Nat.le_of_ble_eq_true rfl⟩) ⟨pu_blind, va_recv hK hPc (ci := 5) (q0 := 0) rfl rfl, pu_pre hK hPc⟩ rfl rfl hl.1 rfl (lv_room (Nat.le_of_ble_eq_true rfl)) dX4_alternate_7 ⟨Nat.le_of_ble_eq_true rfl, Nat.le_of_ble_eq_true rfl⟩) ?_
  refine lv_if_ne (tgt := 16) hx hb dX4_alternate_10 (by decide) (fun c_10 => ?_) (fun c_10 => ?_)
  · skip
    refine lv_aload_n hx hb dX4_alternate_16 rfl (lv_at hl 0 rfl) ?_
    refine va_get (D := D) (ci := 5) (v := .int (nI 0)) (C := RX4) (T := TX4) (N := 21) hx hb hts (by decide +kernel) hown hK hP 0 rfl rfl 17 (by decide) (hts (.fieldLink RX4 73 "TrackDiskModel" "down" "Z") (by decide +kernel)) (fun _ h9 => h9) rfl dX4_alternate_17 ?_
    refine lv_if_eq (tgt := 26) hx hb dX4_alternate_20 (by decide) (fun c_20 => ?_) (fun c_20 => ?_)
    · skip
      refine lv_aload_n hx hb dX4_alternate_26 rfl (lv_at hl 0 rfl) ?_
      refine va_get (D := D) (ci := 5) (v := .ref ((ad 5))) (C := RX4) (T := TX4) (N := 21) hx hb hts (by decide +kernel) hown hK hP 0 rfl rfl 7 (by decide) (hts (.fieldLink RX4 23 "TrackDiskModel" "sent" "[I") (by decide +kernel)) (fun _ h9 => h9) rfl dX4_alternate_27 ?_
      refine lv_iload_n hx hb dX4_alternate_30 rfl (lv_at hl 1 rfl) ?_
      refine va_iald hx hb hK hP 5 0 rfl rfl (vp_in_nI (by omega) (by omega)) dX4_alternate_31 ?_
      refine tp_i (y := se t) (by rw [nI_clamp (by omega)]) ?_
      refine lv_iconst (v := (-1)) hx hb dX4_alternate_32 (by decide) ?_
      refine lv_icmp_eq (tgt := 38) hx hb dX4_alternate_33 (by decide) (fun c_33 => ?_) (fun c_33 => ?_)
      · skip
        refine lv_aload_n hx hb dX4_alternate_38 rfl (lv_at hl 0 rfl) ?_
        refine va_get (D := D) (ci := 5) (v := .int (nI T)) (C := RX4) (T := TX4) (N := 21) hx hb hts (by decide +kernel) hown hK hP 0 rfl rfl 1 (by decide) (hts (.fieldLink RX4 50 "TrackDiskModel" "tracks" "I") (by decide +kernel)) (fun _ h9 => h9) rfl dX4_alternate_39 ?_
        refine lv_istore_n (lv' := [(2, .int (nI T)), (0, .ref ((ad 0))), (1, .int (nI t))]) hx hb dX4_alternate_42 rfl hl (by decide) rfl (fun ls hl => ?_)
        refine lv_iconst (v := nI 0) hx hb dX4_alternate_43 (by decide) ?_
        refine lv_istore_n (lv' := [(3, .int (nI 0)), (2, .int (nI T)), (0, .ref ((ad 0))), (1, .int (nI t))]) hx hb dX4_alternate_44 rfl hl (by decide) rfl (fun ls hl => ?_)
        refine W.loop (N := 2) (I := fun r ls H locs => lv_has ls 5 [(3, .int (nI r)), (2, .int (ar2 se T r)), (0, .ref ((ad 0))), (1, .int (nI t))] ∧ va_P D vwCl (moW κ T S ad (nI 0) bs kp sm ks se sp ke kq vo nd wn wt wx wb (nI 0) tp tn ts) H ∧ va_D A (moW κ T S ad (nI 0) bs kp sm ks se sp ke kq vo nd wn wt wx wb (nI 0) tp tn ts) ∧ va_S A s.heap H locs) 0 (by omega) (fun r ls H locs hr hI ihr => ?_) (fun ls H locs hI => ?_) ⟨lv_sub hl [0, 1, 2, 3] rfl, hP, hD, hS⟩
        · skip
          clear hl hP hD hS
          obtain ⟨hl, hP, hD, hS⟩ := hI
          refine lv_iload_n hx hb dX4_alternate_45 rfl (lv_at hl 0 rfl) ?_
          refine lv_iconst (v := nI 2) hx hb dX4_alternate_46 (by decide) ?_
          refine lv_icmp_ge (tgt := 93) hx hb dX4_alternate_47 (by decide) (fun c_47 => ?_) (fun c_47 => ?_)
          · exact absurd c_47 (nI_ge hr (by omega))
          · skip
            refine lv_iconst (v := nI 0) hx hb dX4_alternate_50 (by decide) ?_
            refine lv_istore (lv' := [(4, .int (nI 0)), (3, .int (nI r)), (2, .int (ar2 se T r)), (0, .ref ((ad 0))), (1, .int (nI t))]) hx hb dX4_alternate_51 hl (by decide) rfl (fun ls hl => ?_)
            refine W.loop (N := T) (I := fun k ls H locs => lv_has ls 5 [(4, .int (nI k)), (3, .int (nI r)), (2, .int (arF se (ar2 se T r) k)), (0, .ref ((ad 0))), (1, .int (nI t))] ∧ va_P D vwCl (moW κ T S ad (nI 0) bs kp sm ks se sp ke kq vo nd wn wt wx wb (nI 0) tp tn ts) H ∧ va_D A (moW κ T S ad (nI 0) bs kp sm ks se sp ke kq vo nd wn wt wx wb (nI 0) tp tn ts) ∧ va_S A s.heap H locs) 0 (by omega) (fun k ls H locs hk hI ihk => ?_) (fun ls H locs hI => ?_) ⟨lv_sub hl [0, 1, 2, 3, 4] rfl, hP, hD, hS⟩
            · skip
              clear hl hP hD hS
              obtain ⟨hl, hP, hD, hS⟩ := hI
              refine lv_iload hx hb dX4_alternate_53 (lv_at hl 0 rfl) ?_
              refine lv_aload_n hx hb dX4_alternate_55 rfl (lv_at hl 3 rfl) ?_
              refine va_get (D := D) (ci := 5) (v := .int (nI T)) (C := RX4) (T := TX4) (N := 21) hx hb hts (by decide +kernel) hown hK hP 0 rfl rfl 1 (by decide) (hts (.fieldLink RX4 50 "TrackDiskModel" "tracks" "I") (by decide +kernel)) (fun _ h9 => h9) rfl dX4_alternate_56 ?_
              refine lv_icmp_ge (tgt := 87) hx hb dX4_alternate_59 (by decide) (fun c_59 => ?_) (fun c_59 => ?_)
              · exact absurd c_59 (nI_ge hk (by omega))
              · skip
                refine lv_aload_n hx hb dX4_alternate_62 rfl (lv_at hl 3 rfl) ?_
                refine va_get (D := D) (ci := 5) (v := .ref ((ad 5))) (C := RX4) (T := TX4) (N := 21) hx hb hts (by decide +kernel) hown hK hP 0 rfl rfl 7 (by decide) (hts (.fieldLink RX4 23 "TrackDiskModel" "sent" "[I") (by decide +kernel)) (fun _ h9 => h9) rfl dX4_alternate_63 ?_
                refine lv_iload hx hb dX4_alternate_66 (lv_at hl 0 rfl) ?_
                refine va_iald hx hb hK hP 5 0 rfl rfl (vp_in_nI (by omega) (by omega)) dX4_alternate_68 ?_
                refine tp_i (y := se k) (by rw [nI_clamp (by omega)]) ?_
                refine lv_iload_n hx hb dX4_alternate_69 rfl (lv_at hl 2 rfl) ?_
                refine lv_icmp_ne (tgt := 79) hx hb dX4_alternate_70 (by decide) (fun c_70 => ?_) (fun c_70 => ?_)
                · skip
                  refine lv_iload_n hx hb dX4_alternate_79 rfl (lv_at hl 2 rfl) ?_
                  refine tp_i (y := arF se (ar2 se T r) (k + 1)) (by first | exact arF_t c_70 | exact arF_f c_70) ?_
                  refine lv_istore_n (lv' := [(2, .int (arF se (ar2 se T r) (k + 1))), (4, .int (nI k)), (3, .int (nI r)), (0, .ref ((ad 0))), (1, .int (nI t))]) hx hb dX4_alternate_80 rfl hl (by decide) rfl (fun ls hl => ?_)
                  refine lv_iinc (v := nI (k + 1)) (lv' := [(4, .int (nI (k + 1))), (2, .int (arF se (ar2 se T r) (k + 1))), (3, .int (nI r)), (0, .ref ((ad 0))), (1, .int (nI t))]) hx hb dX4_alternate_81 hl (k := 1) rfl (by exact nI_1 _) (by decide) rfl (fun ls hl => ?_)
                  refine lv_goto (tgt := 53) hx hb dX4_alternate_84 (by decide) ?_
                  exact ihk ls H locs ⟨lv_sub hl [0, 2, 1, 3, 4] rfl, hP, hD, hS⟩
                · skip
                  refine lv_iload_n hx hb dX4_alternate_73 rfl (lv_at hl 2 rfl) ?_
                  refine lv_iconst (v := nI 1) hx hb dX4_alternate_74 (by decide) ?_
                  refine lv_iadd hx hb dX4_alternate_75 ?_
                  refine lv_goto (tgt := 80) hx hb dX4_alternate_76 (by decide) ?_
                  refine tp_i (y := arF se (ar2 se T r) (k + 1)) (by first | exact arF_t c_70 | exact arF_f c_70) ?_
                  refine lv_istore_n (lv' := [(2, .int (arF se (ar2 se T r) (k + 1))), (4, .int (nI k)), (3, .int (nI r)), (0, .ref ((ad 0))), (1, .int (nI t))]) hx hb dX4_alternate_80 rfl hl (by decide) rfl (fun ls hl => ?_)
                  refine lv_iinc (v := nI (k + 1)) (lv' := [(4, .int (nI (k + 1))), (2, .int (arF se (ar2 se T r) (k + 1))), (3, .int (nI r)), (0, .ref ((ad 0))), (1, .int (nI t))]) hx hb dX4_alternate_81 hl (k := 1) rfl (by exact nI_1 _) (by decide) rfl (fun ls hl => ?_)
                  refine lv_goto (tgt := 53) hx hb dX4_alternate_84 (by decide) ?_
                  exact ihk ls H locs ⟨lv_sub hl [0, 2, 1, 3, 4] rfl, hP, hD, hS⟩
            · skip
              clear hl hP hD hS
              obtain ⟨hl, hP, hD, hS⟩ := hI
              refine lv_iload hx hb dX4_alternate_53 (lv_at hl 0 rfl) ?_
              refine lv_aload_n hx hb dX4_alternate_55 rfl (lv_at hl 3 rfl) ?_
              refine va_get (D := D) (ci := 5) (v := .int (nI T)) (C := RX4) (T := TX4) (N := 21) hx hb hts (by decide +kernel) hown hK hP 0 rfl rfl 1 (by decide) (hts (.fieldLink RX4 50 "TrackDiskModel" "tracks" "I") (by decide +kernel)) (fun _ h9 => h9) rfl dX4_alternate_56 ?_
              refine lv_icmp_ge (tgt := 87) hx hb dX4_alternate_59 (by decide) (fun c_59 => ?_) (fun c_59 => ?_)
              · skip
                refine lv_iinc (v := nI (r + 1)) (lv' := [(3, .int (nI (r + 1))), (4, .int (nI T)), (2, .int (arF se (ar2 se T r) T)), (0, .ref ((ad 0))), (1, .int (nI t))]) hx hb dX4_alternate_87 hl (k := 1) rfl (by exact nI_1 _) (by decide) rfl (fun ls hl => ?_)
                refine lv_goto (tgt := 45) hx hb dX4_alternate_90 (by decide) ?_
                exact ihr ls H locs ⟨lv_sub hl [0, 2, 3, 4] rfl, hP, hD, hS⟩
              · exact absurd (nI_le (Nat.le_refl _) (by omega)) c_59
        · skip
          clear hl hP hD hS
          obtain ⟨hl, hP, hD, hS⟩ := hI
          rw [hfr] at hl
          refine lv_iload_n hx hb dX4_alternate_45 rfl (lv_at hl 0 rfl) ?_
          refine lv_iconst (v := nI 2) hx hb dX4_alternate_46 (by decide) ?_
          refine lv_icmp_ge (tgt := 93) hx hb dX4_alternate_47 (by decide) (fun c_47 => ?_) (fun c_47 => ?_)
          · skip
            refine lv_iload_n hx hb dX4_alternate_93 rfl (lv_at hl 1 rfl) ?_
            refine lv_aload_n hx hb dX4_alternate_94 rfl (lv_at hl 2 rfl) ?_
            refine va_get (D := D) (ci := 5) (v := .int (nI T)) (C := RX4) (T := TX4) (N := 21) hx hb hts (by decide +kernel) hown hK hP 0 rfl rfl 1 (by decide) (hts (.fieldLink RX4 50 "TrackDiskModel" "tracks" "I") (by decide +kernel)) (fun _ h9 => h9) rfl dX4_alternate_95 ?_
            refine lv_iconst (v := nI 1) hx hb dX4_alternate_98 (by decide) ?_
            refine lv_iadd hx hb dX4_alternate_99 ?_
            refine tp_i (y := nI (T + 1)) (by exact nI_add _ _) ?_
            refine lv_icmp_le (tgt := 105) hx hb dX4_alternate_100 (by decide) (fun c_100 => ?_) (fun c_100 => ?_)
            · skip
              refine lv_iconst (v := nI 0) hx hb dX4_alternate_105 (by decide) ?_
              refine lv_istore_n (lv' := [(3, .int (nI 0)), (2, .int (nI (T + k0))), (0, .ref ((ad 0))), (1, .int (nI t))]) hx hb dX4_alternate_106 rfl hl (by decide) rfl (fun ls hl => ?_)
              refine W.loop (N := 16 * S) (I := fun k ls H locs => lv_has ls 5 [(3, .int (nI k)), (2, .int (nI (T + k0))), (0, .ref ((ad 0))), (1, .int (nI t))] ∧ va_P D vwCl (moW κ T S ad (nI 0) (cpS bs (128 * (T + k0)) (128 * t) k) kp sm ks se sp ke kq vo nd wn wt wx wb (nI 0) tp tn ts) H ∧ va_D A (moW κ T S ad (nI 0) (cpS bs (128 * (T + k0)) (128 * t) k) kp sm ks se sp ke kq vo nd wn wt wx wb (nI 0) tp tn ts) ∧ va_S A s.heap H locs) 0 (by omega) (fun k ls H locs hk hI ihk => ?_) (fun ls H locs hI => ?_) ⟨lv_sub hl [0, 1, 2, 3] rfl, hP, hD, hS⟩
              · skip
                clear hl hP hD hS
                obtain ⟨hl, hP, hD, hS⟩ := hI
                refine lv_iload_n hx hb dX4_alternate_107 rfl (lv_at hl 0 rfl) ?_
                refine lv_bipush (v := nI 16) hx hb dX4_alternate_108 (by decide) ?_
                refine lv_aload_n hx hb dX4_alternate_110 rfl (lv_at hl 2 rfl) ?_
                refine va_get (D := D) (ci := 5) (v := .int (nI S)) (C := RX4) (T := TX4) (N := 21) hx hb hts (by decide +kernel) hown hK hP 0 rfl rfl 2 (by decide) (hts (.fieldLink RX4 54 "TrackDiskModel" "sectors" "I") (by decide +kernel)) (fun _ h9 => h9) rfl dX4_alternate_111 ?_
                refine lv_imul hx hb dX4_alternate_114 ?_
                refine tp_i (y := nI (16 * S)) (by exact pk_mul _ _) ?_
                refine lv_icmp_ge (tgt := 148) hx hb dX4_alternate_115 (by decide) (fun c_115 => ?_) (fun c_115 => ?_)
                · exact absurd c_115 (nI_ge hk (by omega))
                · skip
                  refine lv_aload_n hx hb dX4_alternate_118 rfl (lv_at hl 2 rfl) ?_
                  refine va_get (D := D) (ci := 5) (v := .ref ((ad 1))) (C := RX4) (T := TX4) (N := 21) hx hb hts (by decide +kernel) hown hK hP 0 rfl rfl 3 (by decide) (hts (.fieldLink RX4 7 "TrackDiskModel" "bytes" "[B") (by decide +kernel)) (fun _ h9 => h9) rfl dX4_alternate_119 ?_
                  refine lv_sipush (v := nI 128) hx hb dX4_alternate_122 (by decide) ?_
                  refine lv_iload_n hx hb dX4_alternate_125 rfl (lv_at hl 1 rfl) ?_
                  refine lv_imul hx hb dX4_alternate_126 ?_
                  refine tp_i (y := nI (128 * (T + k0))) (by exact pk_mul _ _) ?_
                  refine lv_iload_n hx hb dX4_alternate_127 rfl (lv_at hl 0 rfl) ?_
                  refine lv_iadd hx hb dX4_alternate_128 ?_
                  refine tp_i (y := nI ((128 * (T + k0)) + k)) (by exact nI_add _ _) ?_
                  refine lv_aload_n hx hb dX4_alternate_129 rfl (lv_at hl 2 rfl) ?_
                  refine va_get (D := D) (ci := 5) (v := .ref ((ad 1))) (C := RX4) (T := TX4) (N := 21) hx hb hts (by decide +kernel) hown hK hP 0 rfl rfl 3 (by decide) (hts (.fieldLink RX4 7 "TrackDiskModel" "bytes" "[B") (by decide +kernel)) (fun _ h9 => h9) rfl dX4_alternate_130 ?_
                  refine lv_sipush (v := nI 128) hx hb dX4_alternate_133 (by decide) ?_
                  refine lv_iload_n hx hb dX4_alternate_136 rfl (lv_at hl 3 rfl) ?_
                  refine lv_imul hx hb dX4_alternate_137 ?_
                  refine tp_i (y := nI (128 * t)) (by exact pk_mul _ _) ?_
                  refine lv_iload_n hx hb dX4_alternate_138 rfl (lv_at hl 0 rfl) ?_
                  refine lv_iadd hx hb dX4_alternate_139 ?_
                  refine tp_i (y := nI ((128 * t) + k)) (by exact nI_add _ _) ?_
                  refine va_bald hx hb hK hP 1 1 rfl rfl (vp_in_nI (by omega) (by omega)) dX4_alternate_140 ?_
                  refine tp_i (y := (cpS bs (128 * (T + k0)) (128 * t) k) ((128 * t) + k)) (by rw [nI_clamp (by omega)]) ?_
                  refine va_bast hx hb hK hP hD hS 1 1 rfl rfl (vp_in_nI (by omega) (by omega)) dX4_alternate_141 (fun H locs hP hD hS => ?_)
                  rw [nI_clamp (n := (128 * (T + k0)) + k) (by omega)] at hP hD
                  have hP : va_P D vwCl (moW κ T S ad (nI 0) (upd (cpS bs (128 * (T + k0)) (128 * t) k) ((128 * (T + k0)) + k) (vp_nar .byte ((cpS bs (128 * (T + k0)) (128 * t) k) ((128 * t) + k)))) kp sm ks se sp ke kq vo nd wn wt wx wb (nI 0) tp tn ts) H := hP
                  have hD : va_D A (moW κ T S ad (nI 0) (upd (cpS bs (128 * (T + k0)) (128 * t) k) ((128 * (T + k0)) + k) (vp_nar .byte ((cpS bs (128 * (T + k0)) (128 * t) k) ((128 * t) + k)))) kp sm ks se sp ke kq vo nd wn wt wx wb (nI 0) tp tn ts) := hD
                  refine lv_iinc (v := nI (k + 1)) (lv' := [(3, .int (nI (k + 1))), (2, .int (nI (T + k0))), (0, .ref ((ad 0))), (1, .int (nI t))]) hx hb dX4_alternate_142 hl (k := 0) rfl (by exact nI_1 _) (by decide) rfl (fun ls hl => ?_)
                  refine lv_goto (tgt := 107) hx hb dX4_alternate_145 (by decide) ?_
                  exact ihk ls H locs ⟨lv_sub hl [0, 1, 2, 3] rfl, hP, hD, hS⟩
              · skip
                clear hl hP hD hS
                obtain ⟨hl, hP, hD, hS⟩ := hI
                refine lv_iload_n hx hb dX4_alternate_107 rfl (lv_at hl 0 rfl) ?_
                refine lv_bipush (v := nI 16) hx hb dX4_alternate_108 (by decide) ?_
                refine lv_aload_n hx hb dX4_alternate_110 rfl (lv_at hl 2 rfl) ?_
                refine va_get (D := D) (ci := 5) (v := .int (nI S)) (C := RX4) (T := TX4) (N := 21) hx hb hts (by decide +kernel) hown hK hP 0 rfl rfl 2 (by decide) (hts (.fieldLink RX4 54 "TrackDiskModel" "sectors" "I") (by decide +kernel)) (fun _ h9 => h9) rfl dX4_alternate_111 ?_
                refine lv_imul hx hb dX4_alternate_114 ?_
                refine tp_i (y := nI (16 * S)) (by exact pk_mul _ _) ?_
                refine lv_icmp_ge (tgt := 148) hx hb dX4_alternate_115 (by decide) (fun c_115 => ?_) (fun c_115 => ?_)
                · skip
                  refine lv_iconst (v := nI 0) hx hb dX4_alternate_148 (by decide) ?_
                  refine lv_istore_n (lv' := [(3, .int (nI 0)), (2, .int (nI (T + k0))), (0, .ref ((ad 0))), (1, .int (nI t))]) hx hb dX4_alternate_149 rfl hl (by decide) rfl (fun ls hl => ?_)
                  refine W.loop (N := S) (I := fun k ls H locs => lv_has ls 5 [(3, .int (nI k)), (2, .int (nI (T + k0))), (0, .ref ((ad 0))), (1, .int (nI t))] ∧ va_P D vwCl (moW κ T S ad (nI 0) (cpS bs (128 * (T + k0)) (128 * t) (16 * S)) kp (msF (cpS bs (128 * (T + k0)) (128 * t) (16 * S)) sm (T + k0) k) ks se sp ke kq vo nd wn wt wx wb (nI 0) tp tn ts) H ∧ va_D A (moW κ T S ad (nI 0) (cpS bs (128 * (T + k0)) (128 * t) (16 * S)) kp (msF (cpS bs (128 * (T + k0)) (128 * t) (16 * S)) sm (T + k0) k) ks se sp ke kq vo nd wn wt wx wb (nI 0) tp tn ts) ∧ va_S A s.heap H locs) 0 (by omega) (fun k ls H locs hk hI ihk => ?_) (fun ls H locs hI => ?_) ⟨lv_sub hl [0, 1, 2, 3] rfl, hP, hD, hS⟩
                  · skip
                    clear hl hP hD hS
                    obtain ⟨hl, hP, hD, hS⟩ := hI
                    refine lv_iload_n hx hb dX4_alternate_150 rfl (lv_at hl 0 rfl) ?_
                    refine lv_aload_n hx hb dX4_alternate_151 rfl (lv_at hl 2 rfl) ?_
                    refine va_get (D := D) (ci := 5) (v := .int (nI S)) (C := RX4) (T := TX4) (N := 21) hx hb hts (by decide +kernel) hown hK hP 0 rfl rfl 2 (by decide) (hts (.fieldLink RX4 54 "TrackDiskModel" "sectors" "I") (by decide +kernel)) (fun _ h9 => h9) rfl dX4_alternate_152 ?_
                    refine lv_icmp_ge (tgt := 185) hx hb dX4_alternate_155 (by decide) (fun c_155 => ?_) (fun c_155 => ?_)
                    · exact absurd c_155 (nI_ge hk (by omega))
                    · skip
                      refine lv_aload_n hx hb dX4_alternate_158 rfl (lv_at hl 2 rfl) ?_
                      refine va_get (D := D) (ci := 5) (v := .ref ((ad 3))) (C := RX4) (T := TX4) (N := 21) hx hb hts (by decide +kernel) hown hK hP 0 rfl rfl 5 (by decide) (hts (.fieldLink RX4 16 "TrackDiskModel" "sums" "[I") (by decide +kernel)) (fun _ h9 => h9) rfl dX4_alternate_159 ?_
                      refine lv_bipush (v := nI 8) hx hb dX4_alternate_162 (by decide) ?_
                      refine lv_iload_n hx hb dX4_alternate_164 rfl (lv_at hl 1 rfl) ?_
                      refine lv_imul hx hb dX4_alternate_165 ?_
                      refine tp_i (y := nI (8 * (T + k0))) (by exact pk_mul _ _) ?_
                      refine lv_iload_n hx hb dX4_alternate_166 rfl (lv_at hl 0 rfl) ?_
                      refine lv_iadd hx hb dX4_alternate_167 ?_
                      refine tp_i (y := nI ((8 * (T + k0)) + k)) (by exact nI_add _ _) ?_
                      refine lv_aload_n hx hb dX4_alternate_168 rfl (lv_at hl 2 rfl) ?_
                      refine lv_bipush (v := nI 8) hx hb dX4_alternate_169 (by decide) ?_
                      refine lv_iload_n hx hb dX4_alternate_171 rfl (lv_at hl 1 rfl) ?_
                      refine lv_imul hx hb dX4_alternate_172 ?_
                      refine tp_i (y := nI (8 * (T + k0))) (by exact pk_mul _ _) ?_
                      refine lv_iload_n hx hb dX4_alternate_173 rfl (lv_at hl 0 rfl) ?_
                      refine lv_iadd hx hb dX4_alternate_174 ?_
                      refine tp_i (y := nI ((8 * (T + k0)) + k)) (by exact nI_add _ _) ?_
                      have hPc := hP.sub (ws' := moW κ T S ad (nI 0) (cpS bs (128 * (T + k0)) (128 * t) (16 * S)) kp (msF (cpS bs (128 * (T + k0)) (128 * t) (16 * S)) sm (T + k0) k) ks se sp ke kq vo nd wn wt wx wb (nI 0) tp tn ts) [0, 1, 2, 3, 4, 5, 6, 7, 8, 9, 10, 11, 12, 13] rfl
                      refine pu_call (va_runV (As := [.int (nI ((8 * (T + k0)) + k))]) (rest := [.int (nI ((8 * (T + k0)) + k)), .ref ((ad 3))]) ⟨hx, hb, hml, hown, hts⟩ (m_sumOf l D κ T S ad (nI 0) (cpS bs (128 * (T + k0)) (128 * t) (16 * S)) kp (msF (cpS bs (128 * (T + k0)) (128 * t) (16 * S)) sm (T + k0) k) ks se sp ke kq vo nd wn wt wx wb (nI 0) tp tn ts (8 * (T + k0) + k) (by omega)) (cwV 1 hts gX4_alternate_X4_sumOf rfl rfl rfl (by decide +kernel) ⟨Nat.le_of_ble_eq_true rfl, Nat.le_of_ble_eq_true rfl⟩) ⟨pu_blind, va_recv hK hPc (ci := 5) (q0 := 0) rfl rfl, pu_pre hK hPc⟩ rfl rfl hl.1 rfl (lv_room (Nat.le_of_ble_eq_true rfl)) dX4_alternate_175 ⟨Nat.le_of_ble_eq_true rfl, Nat.le_of_ble_eq_true rfl⟩) ?_
                      refine va_iast hx hb hK hP hD hS 3 0 rfl rfl (vp_in_nI (by omega) (by omega)) dX4_alternate_178 (fun H locs hP hD hS => ?_)
                      rw [nI_clamp (n := (8 * (T + k0)) + k) (by omega)] at hP hD
                      have hP : va_P D vwCl (moW κ T S ad (nI 0) (cpS bs (128 * (T + k0)) (128 * t) (16 * S)) kp (upd (msF (cpS bs (128 * (T + k0)) (128 * t) (16 * S)) sm (T + k0) k) ((8 * (T + k0)) + k) (msA (cpS bs (128 * (T + k0)) (128 * t) (16 * S)) (8 * (T + k0) + k))) ks se sp ke kq vo nd wn wt wx wb (nI 0) tp tn ts) H := hP
                      have hD : va_D A (moW κ T S ad (nI 0) (cpS bs (128 * (T + k0)) (128 * t) (16 * S)) kp (upd (msF (cpS bs (128 * (T + k0)) (128 * t) (16 * S)) sm (T + k0) k) ((8 * (T + k0)) + k) (msA (cpS bs (128 * (T + k0)) (128 * t) (16 * S)) (8 * (T + k0) + k))) ks se sp ke kq vo nd wn wt wx wb (nI 0) tp tn ts) := hD
                      refine lv_iinc (v := nI (k + 1)) (lv' := [(3, .int (nI (k + 1))), (2, .int (nI (T + k0))), (0, .ref ((ad 0))), (1, .int (nI t))]) hx hb dX4_alternate_179 hl (k := 0) rfl (by exact nI_1 _) (by decide) rfl (fun ls hl => ?_)
                      refine lv_goto (tgt := 150) hx hb dX4_alternate_182 (by decide) ?_
                      exact ihk ls H locs ⟨lv_sub hl [0, 1, 2, 3] rfl, hP, hD, hS⟩
                  · skip
                    clear hl hP hD hS
                    obtain ⟨hl, hP, hD, hS⟩ := hI
                    refine lv_iload_n hx hb dX4_alternate_150 rfl (lv_at hl 0 rfl) ?_
                    refine lv_aload_n hx hb dX4_alternate_151 rfl (lv_at hl 2 rfl) ?_
                    refine va_get (D := D) (ci := 5) (v := .int (nI S)) (C := RX4) (T := TX4) (N := 21) hx hb hts (by decide +kernel) hown hK hP 0 rfl rfl 2 (by decide) (hts (.fieldLink RX4 54 "TrackDiskModel" "sectors" "I") (by decide +kernel)) (fun _ h9 => h9) rfl dX4_alternate_152 ?_
                    refine lv_icmp_ge (tgt := 185) hx hb dX4_alternate_155 (by decide) (fun c_155 => ?_) (fun c_155 => ?_)
                    · skip
                      refine lv_aload_n hx hb dX4_alternate_185 rfl (lv_at hl 2 rfl) ?_
                      refine va_get (D := D) (ci := 5) (v := .ref ((ad 5))) (C := RX4) (T := TX4) (N := 21) hx hb hts (by decide +kernel) hown hK hP 0 rfl rfl 7 (by decide) (hts (.fieldLink RX4 23 "TrackDiskModel" "sent" "[I") (by decide +kernel)) (fun _ h9 => h9) rfl dX4_alternate_186 ?_
                      refine lv_iload_n hx hb dX4_alternate_189 rfl (lv_at hl 3 rfl) ?_
                      refine lv_iload_n hx hb dX4_alternate_190 rfl (lv_at hl 1 rfl) ?_
                      refine va_iast hx hb hK hP hD hS 5 0 rfl rfl (vp_in_nI (by omega) (by omega)) dX4_alternate_191 (fun H locs hP hD hS => ?_)
                      rw [nI_clamp (n := t) (by omega)] at hP hD
                      have hP : va_P D vwCl (moW κ T S ad (nI 0) (cpS bs (128 * (T + k0)) (128 * t) (16 * S)) kp (msF (cpS bs (128 * (T + k0)) (128 * t) (16 * S)) sm (T + k0) S) ks (upd (se) (t) (nI (T + k0))) sp ke kq vo nd wn wt wx wb (nI 0) tp tn ts) H := hP
                      have hD : va_D A (moW κ T S ad (nI 0) (cpS bs (128 * (T + k0)) (128 * t) (16 * S)) kp (msF (cpS bs (128 * (T + k0)) (128 * t) (16 * S)) sm (T + k0) S) ks (upd (se) (t) (nI (T + k0))) sp ke kq vo nd wn wt wx wb (nI 0) tp tn ts) := hD
                      refine lv_iload_n hx hb dX4_alternate_192 rfl (lv_at hl 1 rfl) ?_
                      have hP9 : va_P D vwCl (moW κ T S ad (nI 0) (cpS bs (128 * (T + k0)) (128 * t) (16 * S)) kp (msF (cpS bs (128 * (T + k0)) (128 * t) (16 * S)) sm (T + k0) S) ks (upd se t (nI (T + k0))) sp ke kq vo nd wn wt wx wb (nI 0) tp tn ts) H := hP
                      have hD9 : va_D A (moW κ T S ad (nI 0) (cpS bs (128 * (T + k0)) (128 * t) (16 * S)) kp (msF (cpS bs (128 * (T + k0)) (128 * t) (16 * S)) sm (T + k0) S) ks (upd se t (nI (T + k0))) sp ke kq vo nd wn wt wx wb (nI 0) tp tn ts) := hD
                      exact W.iret hx hb hr (fun t ht _ => ⟨⟨rfl, by rw [ht]; exact hP9, hD9⟩, hS.F ht⟩) hS.2.2 dX4_alternate_193 hlocks
                    · exact absurd (nI_le (Nat.le_refl _) (by omega)) c_155
                · exact absurd (nI_le (Nat.le_refl _) (by omega)) c_115
            · exact absurd (nI_le (by omega) (by omega)) c_100
          · exact absurd (nI_le (Nat.le_refl _) (by omega)) c_47
      · exact absurd hs1 c_33
    · exact absurd (by decide) c_20
  · exact (bI_ct (inF_nI ht (by omega)) c_10).elim

set_option maxHeartbeats 4000000 in
set_option maxRecDepth 100000 in
/-- dump: down -/
theorem m_dump_down (l : Launch) (D : va_G) (κ : Nat → ClassId) (sz : Nat) (T S : Nat) (ad : Nat → Nat) (co : Int32) (bs kp sm ks se sp ke kq vo : Nat → Int32) (nd wn : Int32) (wt wx wb : Nat → Int32) (tp : Nat → Int32) (tn ts : Int32)  (x : Int32) : Met l yX4_dump wsX4_dump ({ frames := 0, cells := 0, slots := 0, locals := 0 }) (va_Pc [.ref ((ad 0)), .int x] (mu_B D κ (moW κ T S ad co bs kp sm ks se sp ke kq vo nd wn wt wx wb (nI 1) tp tn ts) sz)) (mu_Q D (some (.int ((-5)))) (moW κ T S ad (nI 0) bs kp sm ks se sp ke kq vo nd wn wt wx wb (nI 1) tp tn ts) (va_A (moW κ T S ad co bs kp sm ks se sp ke kq vo nd wn wt wx wb (nI 1) tp tn ts) sz)) 0 0 (va_A (moW κ T S ad co bs kp sm ks se sp ke kq vo nd wn wt wx wb (nI 1) tp tn ts) sz) := by
  refine Met.ofW (cc := cX4_dump) (maxL := 3) (ret := (some .int)) (by decide) rfl ?_
  intro p e s m args below meth c s₁ B hml hv
  obtain ⟨rfl, hsz, hP, hK, hD0⟩ := hv
  have hx := B.exec
  have hb := B.bytes
  have hr := B.returns
  have hts := atoms_spec (ws := wsX4_dump) B.pre
  have hown : s.vm.findClass RX4 = some m.cls := findClass_of_methodNamed B.named
  have hlocks := B.notSynchronized
  subst hsz
  have hD := hD0.self (sz := s.heap.size)
  generalize hAe : va_A (moW κ T S ad co bs kp sm ks se sp ke kq vo nd wn wt wx wb (nI 1) tp tn ts) s.heap.size = A at hD ⊢
  have hA : ∀ q : Nat, s.heap.size ≤ q → A q := fun q h => by rw [← hAe]; exact Or.inr h
  refine W.gen (P := fun H locs => va_P D vwCl (moW κ T S ad co bs kp sm ks se sp ke kq vo nd wn wt wx wb (nI 1) tp tn ts) H ∧ va_S A s.heap H locs) (fun H locs h => ?_) ⟨hP, va_S.rf⟩
  clear hP
  obtain ⟨hP, hS⟩ := h
  have hl := lv_entry ([.ref ((ad 0)), .int x]) (n := 3) (Nat.le_of_ble_eq_true rfl)
  rw [lg_entry_eq]
  generalize (lg_sl ([.ref ((ad 0)), .int x]) ++ List.replicate (3 - (lg_sl ([.ref ((ad 0)), .int x])).length) Slot.unset).toArray = ls at hl ⊢
  have hl : lv_has ls 3 [(0, .ref ((ad 0))), (1, .int x)] := hl
  refine lv_aload_n hx hb dX4_dump_0 rfl (lv_at hl 0 rfl) ?_
  refine lv_iconst (v := nI 0) hx hb dX4_dump_1 (by decide) ?_
  refine va_put (D := D) (ci := 5) (v := .int (nI 0)) (ty := .int) (C := RX4) (T := TX4) (N := 21) hx hb hts (by decide +kernel) tyX4 tyX4_ok nmX4 hown hK hP hD hS 0 rfl rfl 0 (by decide) (hts (.fieldLink RX4 61 "TrackDiskModel" "code" "I") (by decide +kernel)) (fun _ h9 => h9) rfl (by decide +kernel) rfl rfl (Nat.le_of_ble_eq_true rfl) dX4_dump_2 (fun H locs hP hD hS => ?_)
  have hP : va_P D vwCl (moW κ T S ad (nI 0) bs kp sm ks se sp ke kq vo nd wn wt wx wb (nI 1) tp tn ts) H := hP
  have hD : va_D A (moW κ T S ad (nI 0) bs kp sm ks se sp ke kq vo nd wn wt wx wb (nI 1) tp tn ts) := hD
  refine lv_aload_n hx hb dX4_dump_5 rfl (lv_at hl 0 rfl) ?_
  refine va_get (D := D) (ci := 5) (v := .int (nI 1)) (C := RX4) (T := TX4) (N := 21) hx hb hts (by decide +kernel) hown hK hP 0 rfl rfl 17 (by decide) (hts (.fieldLink RX4 73 "TrackDiskModel" "down" "Z") (by decide +kernel)) (fun _ h9 => h9) rfl dX4_dump_6 ?_
  refine lv_if_eq (tgt := 15) hx hb dX4_dump_9 (by decide) (fun c_9 => ?_) (fun c_9 => ?_)
  · exact absurd c_9 (by decide)
  · skip
    refine lv_bipush (v := (-5)) hx hb dX4_dump_12 (by decide) ?_
    have hP9 : va_P D vwCl (moW κ T S ad (nI 0) bs kp sm ks se sp ke kq vo nd wn wt wx wb (nI 1) tp tn ts) H := hP
    have hD9 : va_D A (moW κ T S ad (nI 0) bs kp sm ks se sp ke kq vo nd wn wt wx wb (nI 1) tp tn ts) := hD
    exact W.iret hx hb hr (fun t ht _ => ⟨⟨rfl, by rw [ht]; exact hP9, hD9⟩, hS.F ht⟩) hS.2.2 dX4_dump_14 hlocks

set_option maxHeartbeats 4000000 in
set_option maxRecDepth 100000 in
/-- dump: 5 -/
theorem m_dump_full (l : Launch) (D : va_G) (κ : Nat → ClassId) (sz : Nat) (T S : Nat) (ad : Nat → Nat) (co : Int32) (bs kp sm ks se sp ke kq vo : Nat → Int32) ( wn : Int32) (wt wx wb : Nat → Int32) (tp : Nat → Int32) (tn ts : Int32)  (x : Int32) : Met l yX4_dump wsX4_dump ({ frames := 0, cells := 0, slots := 0, locals := 0 }) (va_Pc [.ref ((ad 0)), .int x] (mu_B D κ (moW κ T S ad co bs kp sm ks se sp ke kq vo (nI 5) wn wt wx wb (nI 0) tp tn ts) sz)) (mu_Q D (some (.int ((-1)))) (moW κ T S ad (nI 0) bs kp sm ks se sp ke kq vo (nI 5) wn wt wx wb (nI 0) tp tn ts) (va_A (moW κ T S ad co bs kp sm ks se sp ke kq vo (nI 5) wn wt wx wb (nI 0) tp tn ts) sz)) 0 0 (va_A (moW κ T S ad co bs kp sm ks se sp ke kq vo (nI 5) wn wt wx wb (nI 0) tp tn ts) sz) := by
  refine Met.ofW (cc := cX4_dump) (maxL := 3) (ret := (some .int)) (by decide) rfl ?_
  intro p e s m args below meth c s₁ B hml hv
  obtain ⟨rfl, hsz, hP, hK, hD0⟩ := hv
  have hx := B.exec
  have hb := B.bytes
  have hr := B.returns
  have hts := atoms_spec (ws := wsX4_dump) B.pre
  have hown : s.vm.findClass RX4 = some m.cls := findClass_of_methodNamed B.named
  have hlocks := B.notSynchronized
  subst hsz
  have hD := hD0.self (sz := s.heap.size)
  generalize hAe : va_A (moW κ T S ad co bs kp sm ks se sp ke kq vo (nI 5) wn wt wx wb (nI 0) tp tn ts) s.heap.size = A at hD ⊢
  have hA : ∀ q : Nat, s.heap.size ≤ q → A q := fun q h => by rw [← hAe]; exact Or.inr h
  refine W.gen (P := fun H locs => va_P D vwCl (moW κ T S ad co bs kp sm ks se sp ke kq vo (nI 5) wn wt wx wb (nI 0) tp tn ts) H ∧ va_S A s.heap H locs) (fun H locs h => ?_) ⟨hP, va_S.rf⟩
  clear hP
  obtain ⟨hP, hS⟩ := h
  have hl := lv_entry ([.ref ((ad 0)), .int x]) (n := 3) (Nat.le_of_ble_eq_true rfl)
  rw [lg_entry_eq]
  generalize (lg_sl ([.ref ((ad 0)), .int x]) ++ List.replicate (3 - (lg_sl ([.ref ((ad 0)), .int x])).length) Slot.unset).toArray = ls at hl ⊢
  have hl : lv_has ls 3 [(0, .ref ((ad 0))), (1, .int x)] := hl
  refine lv_aload_n hx hb dX4_dump_0 rfl (lv_at hl 0 rfl) ?_
  refine lv_iconst (v := nI 0) hx hb dX4_dump_1 (by decide) ?_
  refine va_put (D := D) (ci := 5) (v := .int (nI 0)) (ty := .int) (C := RX4) (T := TX4) (N := 21) hx hb hts (by decide +kernel) tyX4 tyX4_ok nmX4 hown hK hP hD hS 0 rfl rfl 0 (by decide) (hts (.fieldLink RX4 61 "TrackDiskModel" "code" "I") (by decide +kernel)) (fun _ h9 => h9) rfl (by decide +kernel) rfl rfl (Nat.le_of_ble_eq_true rfl) dX4_dump_2 (fun H locs hP hD hS => ?_)
  have hP : va_P D vwCl (moW κ T S ad (nI 0) bs kp sm ks se sp ke kq vo (nI 5) wn wt wx wb (nI 0) tp tn ts) H := hP
  have hD : va_D A (moW κ T S ad (nI 0) bs kp sm ks se sp ke kq vo (nI 5) wn wt wx wb (nI 0) tp tn ts) := hD
  refine lv_aload_n hx hb dX4_dump_5 rfl (lv_at hl 0 rfl) ?_
  refine va_get (D := D) (ci := 5) (v := .int (nI 0)) (C := RX4) (T := TX4) (N := 21) hx hb hts (by decide +kernel) hown hK hP 0 rfl rfl 17 (by decide) (hts (.fieldLink RX4 73 "TrackDiskModel" "down" "Z") (by decide +kernel)) (fun _ h9 => h9) rfl dX4_dump_6 ?_
  refine lv_if_eq (tgt := 15) hx hb dX4_dump_9 (by decide) (fun c_9 => ?_) (fun c_9 => ?_)
  · skip
    refine lv_aload_n hx hb dX4_dump_15 rfl (lv_at hl 0 rfl) ?_
    refine va_get (D := D) (ci := 5) (v := .int (nI 5)) (C := RX4) (T := TX4) (N := 21) hx hb hts (by decide +kernel) hown hK hP 0 rfl rfl 12 (by decide) (hts (.fieldLink RX4 101 "TrackDiskModel" "dumps" "I") (by decide +kernel)) (fun _ h9 => h9) rfl dX4_dump_16 ?_
    refine lv_iconst (v := nI 5) hx hb dX4_dump_19 (by decide) ?_
    refine lv_icmp_ne (tgt := 25) hx hb dX4_dump_20 (by decide) (fun c_20 => ?_) (fun c_20 => ?_)
    · exact absurd (by decide) c_20
    · skip
      refine lv_iconst (v := (-1)) hx hb dX4_dump_23 (by decide) ?_
      have hP9 : va_P D vwCl (moW κ T S ad (nI 0) bs kp sm ks se sp ke kq vo (nI 5) wn wt wx wb (nI 0) tp tn ts) H := hP
      have hD9 : va_D A (moW κ T S ad (nI 0) bs kp sm ks se sp ke kq vo (nI 5) wn wt wx wb (nI 0) tp tn ts) := hD
      exact W.iret hx hb hr (fun t ht _ => ⟨⟨rfl, by rw [ht]; exact hP9, hD9⟩, hS.F ht⟩) hS.2.2 dX4_dump_24 hlocks
  · exact absurd (by decide) c_9

set_option maxHeartbeats 4000000 in
set_option maxRecDepth 100000 in
/-- dump -/
theorem m_dump (l : Launch) (D : va_G) (κ : Nat → ClassId) (sz : Nat) (T S : Nat) (ad : Nat → Nat) (co : Int32) (bs kp sm ks se sp ke kq vo : Nat → Int32) ( wn : Int32) (wt wx wb : Nat → Int32) (tp : Nat → Int32) (tn ts : Int32)  (d : Nat) (hd : d < 5) (x : Int32) : Met l yX4_dump wsX4_dump ({ frames := 0, cells := 0, slots := 0, locals := 0 }) (va_Pc [.ref ((ad 0)), .int x] (mu_B D κ (moW κ T S ad co bs kp sm ks se sp ke kq vo (nI d) wn wt wx wb (nI 0) tp tn ts) sz)) (mu_Q D (some (.int (nI (d + 1)))) (moW κ T S ad (nI 0) bs (dB bs kp (1792 * d) 1792) sm (dI sm ks (112 * d) 112) se sp (dI se ke (12 * d) 12) (dI sp kq (24 * d) 24) (upd vo d x) (nI (d + 1)) wn wt wx wb (nI 0) tp tn ts) (va_A (moW κ T S ad co bs kp sm ks se sp ke kq vo (nI d) wn wt wx wb (nI 0) tp tn ts) sz)) 0 0 (va_A (moW κ T S ad co bs kp sm ks se sp ke kq vo (nI d) wn wt wx wb (nI 0) tp tn ts) sz) := by
  refine Met.ofW (cc := cX4_dump) (maxL := 3) (ret := (some .int)) (by decide) rfl ?_
  intro p e s m args below meth c s₁ B hml hv
  obtain ⟨rfl, hsz, hP, hK, hD0⟩ := hv
  have hx := B.exec
  have hb := B.bytes
  have hr := B.returns
  have hts := atoms_spec (ws := wsX4_dump) B.pre
  have hown : s.vm.findClass RX4 = some m.cls := findClass_of_methodNamed B.named
  have hlocks := B.notSynchronized
  subst hsz
  have hD := hD0.self (sz := s.heap.size)
  generalize hAe : va_A (moW κ T S ad co bs kp sm ks se sp ke kq vo (nI d) wn wt wx wb (nI 0) tp tn ts) s.heap.size = A at hD ⊢
  have hA : ∀ q : Nat, s.heap.size ≤ q → A q := fun q h => by rw [← hAe]; exact Or.inr h
  refine W.gen (P := fun H locs => va_P D vwCl (moW κ T S ad co bs kp sm ks se sp ke kq vo (nI d) wn wt wx wb (nI 0) tp tn ts) H ∧ va_S A s.heap H locs) (fun H locs h => ?_) ⟨hP, va_S.rf⟩
  clear hP
  obtain ⟨hP, hS⟩ := h
  have hl := lv_entry ([.ref ((ad 0)), .int x]) (n := 3) (Nat.le_of_ble_eq_true rfl)
  rw [lg_entry_eq]
  generalize (lg_sl ([.ref ((ad 0)), .int x]) ++ List.replicate (3 - (lg_sl ([.ref ((ad 0)), .int x])).length) Slot.unset).toArray = ls at hl ⊢
  have hl : lv_has ls 3 [(0, .ref ((ad 0))), (1, .int x)] := hl
  refine lv_aload_n hx hb dX4_dump_0 rfl (lv_at hl 0 rfl) ?_
  refine lv_iconst (v := nI 0) hx hb dX4_dump_1 (by decide) ?_
  refine va_put (D := D) (ci := 5) (v := .int (nI 0)) (ty := .int) (C := RX4) (T := TX4) (N := 21) hx hb hts (by decide +kernel) tyX4 tyX4_ok nmX4 hown hK hP hD hS 0 rfl rfl 0 (by decide) (hts (.fieldLink RX4 61 "TrackDiskModel" "code" "I") (by decide +kernel)) (fun _ h9 => h9) rfl (by decide +kernel) rfl rfl (Nat.le_of_ble_eq_true rfl) dX4_dump_2 (fun H locs hP hD hS => ?_)
  have hP : va_P D vwCl (moW κ T S ad (nI 0) bs kp sm ks se sp ke kq vo (nI d) wn wt wx wb (nI 0) tp tn ts) H := hP
  have hD : va_D A (moW κ T S ad (nI 0) bs kp sm ks se sp ke kq vo (nI d) wn wt wx wb (nI 0) tp tn ts) := hD
  refine lv_aload_n hx hb dX4_dump_5 rfl (lv_at hl 0 rfl) ?_
  refine va_get (D := D) (ci := 5) (v := .int (nI 0)) (C := RX4) (T := TX4) (N := 21) hx hb hts (by decide +kernel) hown hK hP 0 rfl rfl 17 (by decide) (hts (.fieldLink RX4 73 "TrackDiskModel" "down" "Z") (by decide +kernel)) (fun _ h9 => h9) rfl dX4_dump_6 ?_
  refine lv_if_eq (tgt := 15) hx hb dX4_dump_9 (by decide) (fun c_9 => ?_) (fun c_9 => ?_)
  · skip
    refine lv_aload_n hx hb dX4_dump_15 rfl (lv_at hl 0 rfl) ?_
    refine va_get (D := D) (ci := 5) (v := .int (nI d)) (C := RX4) (T := TX4) (N := 21) hx hb hts (by decide +kernel) hown hK hP 0 rfl rfl 12 (by decide) (hts (.fieldLink RX4 101 "TrackDiskModel" "dumps" "I") (by decide +kernel)) (fun _ h9 => h9) rfl dX4_dump_16 ?_
    refine lv_iconst (v := nI 5) hx hb dX4_dump_19 (by decide) ?_
    refine lv_icmp_ne (tgt := 25) hx hb dX4_dump_20 (by decide) (fun c_20 => ?_) (fun c_20 => ?_)
    · skip
      refine lv_iconst (v := nI 0) hx hb dX4_dump_25 (by decide) ?_
      refine lv_istore_n (lv' := [(2, .int (nI 0)), (0, .ref ((ad 0))), (1, .int x)]) hx hb dX4_dump_26 rfl hl (by decide) rfl (fun ls hl => ?_)
      refine W.loop (N := 1792) (I := fun k ls H locs => lv_has ls 3 [(2, .int (nI k)), (0, .ref ((ad 0))), (1, .int x)] ∧ va_P D vwCl (moW κ T S ad (nI 0) bs (dB bs kp (1792 * d) k) sm ks se sp ke kq vo (nI d) wn wt wx wb (nI 0) tp tn ts) H ∧ va_D A (moW κ T S ad (nI 0) bs (dB bs kp (1792 * d) k) sm ks se sp ke kq vo (nI d) wn wt wx wb (nI 0) tp tn ts) ∧ va_S A s.heap H locs) 0 (by omega) (fun k ls H locs hk hI ihk => ?_) (fun ls H locs hI => ?_) ⟨lv_sub hl [0, 1, 2] rfl, hP, hD, hS⟩
      · skip
        clear hl hP hD hS
        obtain ⟨hl, hP, hD, hS⟩ := hI
        refine lv_iload_n hx hb dX4_dump_27 rfl (lv_at hl 0 rfl) ?_
        refine lv_sipush (v := nI 1792) hx hb dX4_dump_28 (by decide) ?_
        refine lv_icmp_ge (tgt := 61) hx hb dX4_dump_31 (by decide) (fun c_31 => ?_) (fun c_31 => ?_)
        · exact absurd c_31 (nI_ge hk (by omega))
        · skip
          refine lv_aload_n hx hb dX4_dump_34 rfl (lv_at hl 1 rfl) ?_
          refine va_get (D := D) (ci := 5) (v := .ref ((ad 2))) (C := RX4) (T := TX4) (N := 21) hx hb hts (by decide +kernel) hown hK hP 0 rfl rfl 4 (by decide) (hts (.fieldLink RX4 13 "TrackDiskModel" "kept" "[B") (by decide +kernel)) (fun _ h9 => h9) rfl dX4_dump_35 ?_
          refine lv_sipush (v := nI 1792) hx hb dX4_dump_38 (by decide) ?_
          refine lv_aload_n hx hb dX4_dump_41 rfl (lv_at hl 1 rfl) ?_
          refine va_get (D := D) (ci := 5) (v := .int (nI d)) (C := RX4) (T := TX4) (N := 21) hx hb hts (by decide +kernel) hown hK hP 0 rfl rfl 12 (by decide) (hts (.fieldLink RX4 101 "TrackDiskModel" "dumps" "I") (by decide +kernel)) (fun _ h9 => h9) rfl dX4_dump_42 ?_
          refine lv_imul hx hb dX4_dump_45 ?_
          refine tp_i (y := nI (1792 * d)) (by exact pk_mul _ _) ?_
          refine lv_iload_n hx hb dX4_dump_46 rfl (lv_at hl 0 rfl) ?_
          refine lv_iadd hx hb dX4_dump_47 ?_
          refine tp_i (y := nI ((1792 * d) + k)) (by exact nI_add _ _) ?_
          refine lv_aload_n hx hb dX4_dump_48 rfl (lv_at hl 1 rfl) ?_
          refine va_get (D := D) (ci := 5) (v := .ref ((ad 1))) (C := RX4) (T := TX4) (N := 21) hx hb hts (by decide +kernel) hown hK hP 0 rfl rfl 3 (by decide) (hts (.fieldLink RX4 7 "TrackDiskModel" "bytes" "[B") (by decide +kernel)) (fun _ h9 => h9) rfl dX4_dump_49 ?_
          refine lv_iload_n hx hb dX4_dump_52 rfl (lv_at hl 0 rfl) ?_
          refine va_bald hx hb hK hP 1 1 rfl rfl (vp_in_nI (by omega) (by omega)) dX4_dump_53 ?_
          refine tp_i (y := bs k) (by rw [nI_clamp (by omega)]) ?_
          refine va_bast hx hb hK hP hD hS 2 1 rfl rfl (vp_in_nI (by omega) (by omega)) dX4_dump_54 (fun H locs hP hD hS => ?_)
          rw [nI_clamp (n := (1792 * d) + k) (by omega)] at hP hD
          have hP : va_P D vwCl (moW κ T S ad (nI 0) bs (upd (dB bs kp (1792 * d) k) ((1792 * d) + k) (vp_nar .byte (bs k))) sm ks se sp ke kq vo (nI d) wn wt wx wb (nI 0) tp tn ts) H := hP
          have hD : va_D A (moW κ T S ad (nI 0) bs (upd (dB bs kp (1792 * d) k) ((1792 * d) + k) (vp_nar .byte (bs k))) sm ks se sp ke kq vo (nI d) wn wt wx wb (nI 0) tp tn ts) := hD
          refine lv_iinc (v := nI (k + 1)) (lv' := [(2, .int (nI (k + 1))), (0, .ref ((ad 0))), (1, .int x)]) hx hb dX4_dump_55 hl (k := 0) rfl (by exact nI_1 _) (by decide) rfl (fun ls hl => ?_)
          refine lv_goto (tgt := 27) hx hb dX4_dump_58 (by decide) ?_
          exact ihk ls H locs ⟨lv_sub hl [0, 1, 2] rfl, hP, hD, hS⟩
      · skip
        clear hl hP hD hS
        obtain ⟨hl, hP, hD, hS⟩ := hI
        refine lv_iload_n hx hb dX4_dump_27 rfl (lv_at hl 0 rfl) ?_
        refine lv_sipush (v := nI 1792) hx hb dX4_dump_28 (by decide) ?_
        refine lv_icmp_ge (tgt := 61) hx hb dX4_dump_31 (by decide) (fun c_31 => ?_) (fun c_31 => ?_)
        · skip
          refine lv_iconst (v := nI 0) hx hb dX4_dump_61 (by decide) ?_
          refine lv_istore_n (lv' := [(2, .int (nI 0)), (0, .ref ((ad 0))), (1, .int x)]) hx hb dX4_dump_62 rfl hl (by decide) rfl (fun ls hl => ?_)
          refine W.loop (N := 112) (I := fun k ls H locs => lv_has ls 3 [(2, .int (nI k)), (0, .ref ((ad 0))), (1, .int x)] ∧ va_P D vwCl (moW κ T S ad (nI 0) bs (dB bs kp (1792 * d) 1792) sm (dI sm ks (112 * d) k) se sp ke kq vo (nI d) wn wt wx wb (nI 0) tp tn ts) H ∧ va_D A (moW κ T S ad (nI 0) bs (dB bs kp (1792 * d) 1792) sm (dI sm ks (112 * d) k) se sp ke kq vo (nI d) wn wt wx wb (nI 0) tp tn ts) ∧ va_S A s.heap H locs) 0 (by omega) (fun k ls H locs hk hI ihk => ?_) (fun ls H locs hI => ?_) ⟨lv_sub hl [0, 1, 2] rfl, hP, hD, hS⟩
          · skip
            clear hl hP hD hS
            obtain ⟨hl, hP, hD, hS⟩ := hI
            refine lv_iload_n hx hb dX4_dump_63 rfl (lv_at hl 0 rfl) ?_
            refine lv_bipush (v := nI 112) hx hb dX4_dump_64 (by decide) ?_
            refine lv_icmp_ge (tgt := 95) hx hb dX4_dump_66 (by decide) (fun c_66 => ?_) (fun c_66 => ?_)
            · exact absurd c_66 (nI_ge hk (by omega))
            · skip
              refine lv_aload_n hx hb dX4_dump_69 rfl (lv_at hl 1 rfl) ?_
              refine va_get (D := D) (ci := 5) (v := .ref ((ad 4))) (C := RX4) (T := TX4) (N := 21) hx hb hts (by decide +kernel) hown hK hP 0 rfl rfl 6 (by decide) (hts (.fieldLink RX4 20 "TrackDiskModel" "keptSums" "[I") (by decide +kernel)) (fun _ h9 => h9) rfl dX4_dump_70 ?_
              refine lv_bipush (v := nI 112) hx hb dX4_dump_73 (by decide) ?_
              refine lv_aload_n hx hb dX4_dump_75 rfl (lv_at hl 1 rfl) ?_
              refine va_get (D := D) (ci := 5) (v := .int (nI d)) (C := RX4) (T := TX4) (N := 21) hx hb hts (by decide +kernel) hown hK hP 0 rfl rfl 12 (by decide) (hts (.fieldLink RX4 101 "TrackDiskModel" "dumps" "I") (by decide +kernel)) (fun _ h9 => h9) rfl dX4_dump_76 ?_
              refine lv_imul hx hb dX4_dump_79 ?_
              refine tp_i (y := nI (112 * d)) (by exact pk_mul _ _) ?_
              refine lv_iload_n hx hb dX4_dump_80 rfl (lv_at hl 0 rfl) ?_
              refine lv_iadd hx hb dX4_dump_81 ?_
              refine tp_i (y := nI ((112 * d) + k)) (by exact nI_add _ _) ?_
              refine lv_aload_n hx hb dX4_dump_82 rfl (lv_at hl 1 rfl) ?_
              refine va_get (D := D) (ci := 5) (v := .ref ((ad 3))) (C := RX4) (T := TX4) (N := 21) hx hb hts (by decide +kernel) hown hK hP 0 rfl rfl 5 (by decide) (hts (.fieldLink RX4 16 "TrackDiskModel" "sums" "[I") (by decide +kernel)) (fun _ h9 => h9) rfl dX4_dump_83 ?_
              refine lv_iload_n hx hb dX4_dump_86 rfl (lv_at hl 0 rfl) ?_
              refine va_iald hx hb hK hP 3 0 rfl rfl (vp_in_nI (by omega) (by omega)) dX4_dump_87 ?_
              refine tp_i (y := sm k) (by rw [nI_clamp (by omega)]) ?_
              refine va_iast hx hb hK hP hD hS 4 0 rfl rfl (vp_in_nI (by omega) (by omega)) dX4_dump_88 (fun H locs hP hD hS => ?_)
              rw [nI_clamp (n := (112 * d) + k) (by omega)] at hP hD
              have hP : va_P D vwCl (moW κ T S ad (nI 0) bs (dB bs kp (1792 * d) 1792) sm (upd (dI sm ks (112 * d) k) ((112 * d) + k) (sm k)) se sp ke kq vo (nI d) wn wt wx wb (nI 0) tp tn ts) H := hP
              have hD : va_D A (moW κ T S ad (nI 0) bs (dB bs kp (1792 * d) 1792) sm (upd (dI sm ks (112 * d) k) ((112 * d) + k) (sm k)) se sp ke kq vo (nI d) wn wt wx wb (nI 0) tp tn ts) := hD
              refine lv_iinc (v := nI (k + 1)) (lv' := [(2, .int (nI (k + 1))), (0, .ref ((ad 0))), (1, .int x)]) hx hb dX4_dump_89 hl (k := 0) rfl (by exact nI_1 _) (by decide) rfl (fun ls hl => ?_)
              refine lv_goto (tgt := 63) hx hb dX4_dump_92 (by decide) ?_
              exact ihk ls H locs ⟨lv_sub hl [0, 1, 2] rfl, hP, hD, hS⟩
          · skip
            clear hl hP hD hS
            obtain ⟨hl, hP, hD, hS⟩ := hI
            refine lv_iload_n hx hb dX4_dump_63 rfl (lv_at hl 0 rfl) ?_
            refine lv_bipush (v := nI 112) hx hb dX4_dump_64 (by decide) ?_
            refine lv_icmp_ge (tgt := 95) hx hb dX4_dump_66 (by decide) (fun c_66 => ?_) (fun c_66 => ?_)
            · skip
              refine lv_iconst (v := nI 0) hx hb dX4_dump_95 (by decide) ?_
              refine lv_istore_n (lv' := [(2, .int (nI 0)), (0, .ref ((ad 0))), (1, .int x)]) hx hb dX4_dump_96 rfl hl (by decide) rfl (fun ls hl => ?_)
              refine W.loop (N := 12) (I := fun k ls H locs => lv_has ls 3 [(2, .int (nI k)), (0, .ref ((ad 0))), (1, .int x)] ∧ va_P D vwCl (moW κ T S ad (nI 0) bs (dB bs kp (1792 * d) 1792) sm (dI sm ks (112 * d) 112) se sp (dI se ke (12 * d) k) kq vo (nI d) wn wt wx wb (nI 0) tp tn ts) H ∧ va_D A (moW κ T S ad (nI 0) bs (dB bs kp (1792 * d) 1792) sm (dI sm ks (112 * d) 112) se sp (dI se ke (12 * d) k) kq vo (nI d) wn wt wx wb (nI 0) tp tn ts) ∧ va_S A s.heap H locs) 0 (by omega) (fun k ls H locs hk hI ihk => ?_) (fun ls H locs hI => ?_) ⟨lv_sub hl [0, 1, 2] rfl, hP, hD, hS⟩
              · skip
                clear hl hP hD hS
                obtain ⟨hl, hP, hD, hS⟩ := hI
                refine lv_iload_n hx hb dX4_dump_97 rfl (lv_at hl 0 rfl) ?_
                refine lv_bipush (v := nI 12) hx hb dX4_dump_98 (by decide) ?_
                refine lv_icmp_ge (tgt := 129) hx hb dX4_dump_100 (by decide) (fun c_100 => ?_) (fun c_100 => ?_)
                · exact absurd c_100 (nI_ge hk (by omega))
                · skip
                  refine lv_aload_n hx hb dX4_dump_103 rfl (lv_at hl 1 rfl) ?_
                  refine va_get (D := D) (ci := 5) (v := .ref ((ad 7))) (C := RX4) (T := TX4) (N := 21) hx hb hts (by decide +kernel) hown hK hP 0 rfl rfl 9 (by decide) (hts (.fieldLink RX4 29 "TrackDiskModel" "keptSent" "[I") (by decide +kernel)) (fun _ h9 => h9) rfl dX4_dump_104 ?_
                  refine lv_bipush (v := nI 12) hx hb dX4_dump_107 (by decide) ?_
                  refine lv_aload_n hx hb dX4_dump_109 rfl (lv_at hl 1 rfl) ?_
                  refine va_get (D := D) (ci := 5) (v := .int (nI d)) (C := RX4) (T := TX4) (N := 21) hx hb hts (by decide +kernel) hown hK hP 0 rfl rfl 12 (by decide) (hts (.fieldLink RX4 101 "TrackDiskModel" "dumps" "I") (by decide +kernel)) (fun _ h9 => h9) rfl dX4_dump_110 ?_
                  refine lv_imul hx hb dX4_dump_113 ?_
                  refine tp_i (y := nI (12 * d)) (by exact pk_mul _ _) ?_
                  refine lv_iload_n hx hb dX4_dump_114 rfl (lv_at hl 0 rfl) ?_
                  refine lv_iadd hx hb dX4_dump_115 ?_
                  refine tp_i (y := nI ((12 * d) + k)) (by exact nI_add _ _) ?_
                  refine lv_aload_n hx hb dX4_dump_116 rfl (lv_at hl 1 rfl) ?_
                  refine va_get (D := D) (ci := 5) (v := .ref ((ad 5))) (C := RX4) (T := TX4) (N := 21) hx hb hts (by decide +kernel) hown hK hP 0 rfl rfl 7 (by decide) (hts (.fieldLink RX4 23 "TrackDiskModel" "sent" "[I") (by decide +kernel)) (fun _ h9 => h9) rfl dX4_dump_117 ?_
                  refine lv_iload_n hx hb dX4_dump_120 rfl (lv_at hl 0 rfl) ?_
                  refine va_iald hx hb hK hP 5 0 rfl rfl (vp_in_nI (by omega) (by omega)) dX4_dump_121 ?_
                  refine tp_i (y := se k) (by rw [nI_clamp (by omega)]) ?_
                  refine va_iast hx hb hK hP hD hS 7 0 rfl rfl (vp_in_nI (by omega) (by omega)) dX4_dump_122 (fun H locs hP hD hS => ?_)
                  rw [nI_clamp (n := (12 * d) + k) (by omega)] at hP hD
                  have hP : va_P D vwCl (moW κ T S ad (nI 0) bs (dB bs kp (1792 * d) 1792) sm (dI sm ks (112 * d) 112) se sp (upd (dI se ke (12 * d) k) ((12 * d) + k) (se k)) kq vo (nI d) wn wt wx wb (nI 0) tp tn ts) H := hP
                  have hD : va_D A (moW κ T S ad (nI 0) bs (dB bs kp (1792 * d) 1792) sm (dI sm ks (112 * d) 112) se sp (upd (dI se ke (12 * d) k) ((12 * d) + k) (se k)) kq vo (nI d) wn wt wx wb (nI 0) tp tn ts) := hD
                  refine lv_iinc (v := nI (k + 1)) (lv' := [(2, .int (nI (k + 1))), (0, .ref ((ad 0))), (1, .int x)]) hx hb dX4_dump_123 hl (k := 0) rfl (by exact nI_1 _) (by decide) rfl (fun ls hl => ?_)
                  refine lv_goto (tgt := 97) hx hb dX4_dump_126 (by decide) ?_
                  exact ihk ls H locs ⟨lv_sub hl [0, 1, 2] rfl, hP, hD, hS⟩
              · skip
                clear hl hP hD hS
                obtain ⟨hl, hP, hD, hS⟩ := hI
                refine lv_iload_n hx hb dX4_dump_97 rfl (lv_at hl 0 rfl) ?_
                refine lv_bipush (v := nI 12) hx hb dX4_dump_98 (by decide) ?_
                refine lv_icmp_ge (tgt := 129) hx hb dX4_dump_100 (by decide) (fun c_100 => ?_) (fun c_100 => ?_)
                · skip
                  refine lv_iconst (v := nI 0) hx hb dX4_dump_129 (by decide) ?_
                  refine lv_istore_n (lv' := [(2, .int (nI 0)), (0, .ref ((ad 0))), (1, .int x)]) hx hb dX4_dump_130 rfl hl (by decide) rfl (fun ls hl => ?_)
                  refine W.loop (N := 24) (I := fun k ls H locs => lv_has ls 3 [(2, .int (nI k)), (0, .ref ((ad 0))), (1, .int x)] ∧ va_P D vwCl (moW κ T S ad (nI 0) bs (dB bs kp (1792 * d) 1792) sm (dI sm ks (112 * d) 112) se sp (dI se ke (12 * d) 12) (dI sp kq (24 * d) k) vo (nI d) wn wt wx wb (nI 0) tp tn ts) H ∧ va_D A (moW κ T S ad (nI 0) bs (dB bs kp (1792 * d) 1792) sm (dI sm ks (112 * d) 112) se sp (dI se ke (12 * d) 12) (dI sp kq (24 * d) k) vo (nI d) wn wt wx wb (nI 0) tp tn ts) ∧ va_S A s.heap H locs) 0 (by omega) (fun k ls H locs hk hI ihk => ?_) (fun ls H locs hI => ?_) ⟨lv_sub hl [0, 1, 2] rfl, hP, hD, hS⟩
                  · skip
                    clear hl hP hD hS
                    obtain ⟨hl, hP, hD, hS⟩ := hI
                    refine lv_iload_n hx hb dX4_dump_131 rfl (lv_at hl 0 rfl) ?_
                    refine lv_bipush (v := nI 24) hx hb dX4_dump_132 (by decide) ?_
                    refine lv_icmp_ge (tgt := 163) hx hb dX4_dump_134 (by decide) (fun c_134 => ?_) (fun c_134 => ?_)
                    · exact absurd c_134 (nI_ge hk (by omega))
                    · skip
                      refine lv_aload_n hx hb dX4_dump_137 rfl (lv_at hl 1 rfl) ?_
                      refine va_get (D := D) (ci := 5) (v := .ref ((ad 8))) (C := RX4) (T := TX4) (N := 21) hx hb hts (by decide +kernel) hown hK hP 0 rfl rfl 10 (by decide) (hts (.fieldLink RX4 32 "TrackDiskModel" "keptSpace" "[I") (by decide +kernel)) (fun _ h9 => h9) rfl dX4_dump_138 ?_
                      refine lv_bipush (v := nI 24) hx hb dX4_dump_141 (by decide) ?_
                      refine lv_aload_n hx hb dX4_dump_143 rfl (lv_at hl 1 rfl) ?_
                      refine va_get (D := D) (ci := 5) (v := .int (nI d)) (C := RX4) (T := TX4) (N := 21) hx hb hts (by decide +kernel) hown hK hP 0 rfl rfl 12 (by decide) (hts (.fieldLink RX4 101 "TrackDiskModel" "dumps" "I") (by decide +kernel)) (fun _ h9 => h9) rfl dX4_dump_144 ?_
                      refine lv_imul hx hb dX4_dump_147 ?_
                      refine tp_i (y := nI (24 * d)) (by exact pk_mul _ _) ?_
                      refine lv_iload_n hx hb dX4_dump_148 rfl (lv_at hl 0 rfl) ?_
                      refine lv_iadd hx hb dX4_dump_149 ?_
                      refine tp_i (y := nI ((24 * d) + k)) (by exact nI_add _ _) ?_
                      refine lv_aload_n hx hb dX4_dump_150 rfl (lv_at hl 1 rfl) ?_
                      refine va_get (D := D) (ci := 5) (v := .ref ((ad 6))) (C := RX4) (T := TX4) (N := 21) hx hb hts (by decide +kernel) hown hK hP 0 rfl rfl 8 (by decide) (hts (.fieldLink RX4 26 "TrackDiskModel" "space" "[I") (by decide +kernel)) (fun _ h9 => h9) rfl dX4_dump_151 ?_
                      refine lv_iload_n hx hb dX4_dump_154 rfl (lv_at hl 0 rfl) ?_
                      refine va_iald hx hb hK hP 6 0 rfl rfl (vp_in_nI (by omega) (by omega)) dX4_dump_155 ?_
                      refine tp_i (y := sp k) (by rw [nI_clamp (by omega)]) ?_
                      refine va_iast hx hb hK hP hD hS 8 0 rfl rfl (vp_in_nI (by omega) (by omega)) dX4_dump_156 (fun H locs hP hD hS => ?_)
                      rw [nI_clamp (n := (24 * d) + k) (by omega)] at hP hD
                      have hP : va_P D vwCl (moW κ T S ad (nI 0) bs (dB bs kp (1792 * d) 1792) sm (dI sm ks (112 * d) 112) se sp (dI se ke (12 * d) 12) (upd (dI sp kq (24 * d) k) ((24 * d) + k) (sp k)) vo (nI d) wn wt wx wb (nI 0) tp tn ts) H := hP
                      have hD : va_D A (moW κ T S ad (nI 0) bs (dB bs kp (1792 * d) 1792) sm (dI sm ks (112 * d) 112) se sp (dI se ke (12 * d) 12) (upd (dI sp kq (24 * d) k) ((24 * d) + k) (sp k)) vo (nI d) wn wt wx wb (nI 0) tp tn ts) := hD
                      refine lv_iinc (v := nI (k + 1)) (lv' := [(2, .int (nI (k + 1))), (0, .ref ((ad 0))), (1, .int x)]) hx hb dX4_dump_157 hl (k := 0) rfl (by exact nI_1 _) (by decide) rfl (fun ls hl => ?_)
                      refine lv_goto (tgt := 131) hx hb dX4_dump_160 (by decide) ?_
                      exact ihk ls H locs ⟨lv_sub hl [0, 1, 2] rfl, hP, hD, hS⟩
                  · skip
                    clear hl hP hD hS
                    obtain ⟨hl, hP, hD, hS⟩ := hI
                    refine lv_iload_n hx hb dX4_dump_131 rfl (lv_at hl 0 rfl) ?_
                    refine lv_bipush (v := nI 24) hx hb dX4_dump_132 (by decide) ?_
                    refine lv_icmp_ge (tgt := 163) hx hb dX4_dump_134 (by decide) (fun c_134 => ?_) (fun c_134 => ?_)
                    · skip
                      refine lv_aload_n hx hb dX4_dump_163 rfl (lv_at hl 1 rfl) ?_
                      refine va_get (D := D) (ci := 5) (v := .ref ((ad 9))) (C := RX4) (T := TX4) (N := 21) hx hb hts (by decide +kernel) hown hK hP 0 rfl rfl 11 (by decide) (hts (.fieldLink RX4 35 "TrackDiskModel" "volumes" "[I") (by decide +kernel)) (fun _ h9 => h9) rfl dX4_dump_164 ?_
                      refine lv_aload_n hx hb dX4_dump_167 rfl (lv_at hl 1 rfl) ?_
                      refine va_get (D := D) (ci := 5) (v := .int (nI d)) (C := RX4) (T := TX4) (N := 21) hx hb hts (by decide +kernel) hown hK hP 0 rfl rfl 12 (by decide) (hts (.fieldLink RX4 101 "TrackDiskModel" "dumps" "I") (by decide +kernel)) (fun _ h9 => h9) rfl dX4_dump_168 ?_
                      refine lv_iload_n hx hb dX4_dump_171 rfl (lv_at hl 2 rfl) ?_
                      refine va_iast hx hb hK hP hD hS 9 0 rfl rfl (vp_in_nI (by omega) (by omega)) dX4_dump_172 (fun H locs hP hD hS => ?_)
                      rw [nI_clamp (n := d) (by omega)] at hP hD
                      have hP : va_P D vwCl (moW κ T S ad (nI 0) bs (dB bs kp (1792 * d) 1792) sm (dI sm ks (112 * d) 112) se sp (dI se ke (12 * d) 12) (dI sp kq (24 * d) 24) (upd (vo) (d) (x)) (nI d) wn wt wx wb (nI 0) tp tn ts) H := hP
                      have hD : va_D A (moW κ T S ad (nI 0) bs (dB bs kp (1792 * d) 1792) sm (dI sm ks (112 * d) 112) se sp (dI se ke (12 * d) 12) (dI sp kq (24 * d) 24) (upd (vo) (d) (x)) (nI d) wn wt wx wb (nI 0) tp tn ts) := hD
                      refine lv_aload_n hx hb dX4_dump_173 rfl (lv_at hl 1 rfl) ?_
                      refine lv_dup hx hb dX4_dump_174 rfl ?_
                      refine va_get (D := D) (ci := 5) (v := .int (nI d)) (C := RX4) (T := TX4) (N := 21) hx hb hts (by decide +kernel) hown hK hP 0 rfl rfl 12 (by decide) (hts (.fieldLink RX4 101 "TrackDiskModel" "dumps" "I") (by decide +kernel)) (fun _ h9 => h9) rfl dX4_dump_175 ?_
                      refine lv_iconst (v := nI 1) hx hb dX4_dump_178 (by decide) ?_
                      refine lv_iadd hx hb dX4_dump_179 ?_
                      refine tp_i (y := nI (d + 1)) (by exact nI_add _ _) ?_
                      refine va_put (D := D) (ci := 5) (v := .int (nI (d + 1))) (ty := .int) (C := RX4) (T := TX4) (N := 21) hx hb hts (by decide +kernel) tyX4 tyX4_ok nmX4 hown hK hP hD hS 0 rfl rfl 12 (by decide) (hts (.fieldLink RX4 101 "TrackDiskModel" "dumps" "I") (by decide +kernel)) (fun _ h9 => h9) rfl (by decide +kernel) rfl rfl (Nat.le_of_ble_eq_true rfl) dX4_dump_180 (fun H locs hP hD hS => ?_)
                      have hP : va_P D vwCl (moW κ T S ad (nI 0) bs (dB bs kp (1792 * d) 1792) sm (dI sm ks (112 * d) 112) se sp (dI se ke (12 * d) 12) (dI sp kq (24 * d) 24) (upd (vo) (d) (x)) (nI (d + 1)) wn wt wx wb (nI 0) tp tn ts) H := hP
                      have hD : va_D A (moW κ T S ad (nI 0) bs (dB bs kp (1792 * d) 1792) sm (dI sm ks (112 * d) 112) se sp (dI se ke (12 * d) 12) (dI sp kq (24 * d) 24) (upd (vo) (d) (x)) (nI (d + 1)) wn wt wx wb (nI 0) tp tn ts) := hD
                      refine lv_aload_n hx hb dX4_dump_183 rfl (lv_at hl 1 rfl) ?_
                      refine va_get (D := D) (ci := 5) (v := .int (nI (d + 1))) (C := RX4) (T := TX4) (N := 21) hx hb hts (by decide +kernel) hown hK hP 0 rfl rfl 12 (by decide) (hts (.fieldLink RX4 101 "TrackDiskModel" "dumps" "I") (by decide +kernel)) (fun _ h9 => h9) rfl dX4_dump_184 ?_
                      have hP9 : va_P D vwCl (moW κ T S ad (nI 0) bs (dB bs kp (1792 * d) 1792) sm (dI sm ks (112 * d) 112) se sp (dI se ke (12 * d) 12) (dI sp kq (24 * d) 24) (upd vo d x) (nI (d + 1)) wn wt wx wb (nI 0) tp tn ts) H := hP
                      have hD9 : va_D A (moW κ T S ad (nI 0) bs (dB bs kp (1792 * d) 1792) sm (dI sm ks (112 * d) 112) se sp (dI se ke (12 * d) 12) (dI sp kq (24 * d) 24) (upd vo d x) (nI (d + 1)) wn wt wx wb (nI 0) tp tn ts) := hD
                      exact W.iret hx hb hr (fun t ht _ => ⟨⟨rfl, by rw [ht]; exact hP9, hD9⟩, hS.F ht⟩) hS.2.2 dX4_dump_187 hlocks
                    · exact absurd (nI_le (Nat.le_refl _) (by omega)) c_134
                · exact absurd (nI_le (Nat.le_refl _) (by omega)) c_100
            · exact absurd (nI_le (Nat.le_refl _) (by omega)) c_66
        · exact absurd (nI_le (Nat.le_refl _) (by omega)) c_31
    · exact absurd ((nI_eq (by omega) (by omega)).mp c_20) (by omega)
  · exact absurd (by decide) c_9

set_option maxHeartbeats 4000000 in
set_option maxRecDepth 100000 in
/-- restore: below -/
theorem m_res_lo (l : Launch) (D : va_G) (κ : Nat → ClassId) (sz : Nat) (T S : Nat) (ad : Nat → Nat) (co : Int32) (bs kp sm ks se sp ke kq vo : Nat → Int32) (nd wn : Int32) (wt wx wb : Nat → Int32) (dn : Int32) (tp : Nat → Int32) (tn ts : Int32) (x y : Int32) (hlo : x < nI 1) : Met l yX4_restore wsX4_restore ({ frames := 0, cells := 0, slots := 0, locals := 0 }) (va_Pc [.ref ((ad 0)), .int x, .int y] (mu_B D κ (moW κ T S ad co bs kp sm ks se sp ke kq vo nd wn wt wx wb dn tp tn ts) sz)) (mu_Q D (some (.int ((-2)))) (moW κ T S ad (nI 0) bs kp sm ks se sp ke kq vo nd wn wt wx wb dn tp tn ts) (va_A (moW κ T S ad co bs kp sm ks se sp ke kq vo nd wn wt wx wb dn tp tn ts) sz)) 0 0 (va_A (moW κ T S ad co bs kp sm ks se sp ke kq vo nd wn wt wx wb dn tp tn ts) sz) := by
  refine Met.ofW (cc := cX4_restore) (maxL := 5) (ret := (some .int)) (by decide) rfl ?_
  intro p e s m args below meth c s₁ B hml hv
  obtain ⟨rfl, hsz, hP, hK, hD0⟩ := hv
  have hx := B.exec
  have hb := B.bytes
  have hr := B.returns
  have hts := atoms_spec (ws := wsX4_restore) B.pre
  have hown : s.vm.findClass RX4 = some m.cls := findClass_of_methodNamed B.named
  have hlocks := B.notSynchronized
  subst hsz
  have hD := hD0.self (sz := s.heap.size)
  generalize hAe : va_A (moW κ T S ad co bs kp sm ks se sp ke kq vo nd wn wt wx wb dn tp tn ts) s.heap.size = A at hD ⊢
  have hA : ∀ q : Nat, s.heap.size ≤ q → A q := fun q h => by rw [← hAe]; exact Or.inr h
  refine W.gen (P := fun H locs => va_P D vwCl (moW κ T S ad co bs kp sm ks se sp ke kq vo nd wn wt wx wb dn tp tn ts) H ∧ va_S A s.heap H locs) (fun H locs h => ?_) ⟨hP, va_S.rf⟩
  clear hP
  obtain ⟨hP, hS⟩ := h
  have hl := lv_entry ([.ref ((ad 0)), .int x, .int y]) (n := 5) (Nat.le_of_ble_eq_true rfl)
  rw [lg_entry_eq]
  generalize (lg_sl ([.ref ((ad 0)), .int x, .int y]) ++ List.replicate (5 - (lg_sl ([.ref ((ad 0)), .int x, .int y])).length) Slot.unset).toArray = ls at hl ⊢
  have hl : lv_has ls 5 [(0, .ref ((ad 0))), (1, .int x), (2, .int y)] := hl
  refine lv_aload_n hx hb dX4_restore_0 rfl (lv_at hl 0 rfl) ?_
  refine lv_iconst (v := nI 0) hx hb dX4_restore_1 (by decide) ?_
  refine va_put (D := D) (ci := 5) (v := .int (nI 0)) (ty := .int) (C := RX4) (T := TX4) (N := 21) hx hb hts (by decide +kernel) tyX4 tyX4_ok nmX4 hown hK hP hD hS 0 rfl rfl 0 (by decide) (hts (.fieldLink RX4 61 "TrackDiskModel" "code" "I") (by decide +kernel)) (fun _ h9 => h9) rfl (by decide +kernel) rfl rfl (Nat.le_of_ble_eq_true rfl) dX4_restore_2 (fun H locs hP hD hS => ?_)
  have hP : va_P D vwCl (moW κ T S ad (nI 0) bs kp sm ks se sp ke kq vo nd wn wt wx wb dn tp tn ts) H := hP
  have hD : va_D A (moW κ T S ad (nI 0) bs kp sm ks se sp ke kq vo nd wn wt wx wb dn tp tn ts) := hD
  refine lv_iload_n hx hb dX4_restore_5 rfl (lv_at hl 1 rfl) ?_
  refine lv_iconst (v := nI 1) hx hb dX4_restore_6 (by decide) ?_
  refine lv_icmp_lt (tgt := 18) hx hb dX4_restore_7 (by decide) (fun c_7 => ?_) (fun c_7 => ?_)
  · skip
    refine lv_bipush (v := (-2)) hx hb dX4_restore_18 (by decide) ?_
    have hP9 : va_P D vwCl (moW κ T S ad (nI 0) bs kp sm ks se sp ke kq vo nd wn wt wx wb dn tp tn ts) H := hP
    have hD9 : va_D A (moW κ T S ad (nI 0) bs kp sm ks se sp ke kq vo nd wn wt wx wb dn tp tn ts) := hD
    exact W.iret hx hb hr (fun t ht _ => ⟨⟨rfl, by rw [ht]; exact hP9, hD9⟩, hS.F ht⟩) hS.2.2 dX4_restore_20 hlocks
  · exact absurd hlo c_7

set_option maxHeartbeats 4000000 in
set_option maxRecDepth 100000 in
/-- restore: above -/
theorem m_res_hi (l : Launch) (D : va_G) (κ : Nat → ClassId) (sz : Nat) (T S : Nat) (ad : Nat → Nat) (co : Int32) (bs kp sm ks se sp ke kq vo : Nat → Int32) (nd wn : Int32) (wt wx wb : Nat → Int32) (dn : Int32) (tp : Nat → Int32) (tn ts : Int32) (x y : Int32) (hlo : ¬ x < nI 1) (hhi : nd < x) : Met l yX4_restore wsX4_restore ({ frames := 0, cells := 0, slots := 0, locals := 0 }) (va_Pc [.ref ((ad 0)), .int x, .int y] (mu_B D κ (moW κ T S ad co bs kp sm ks se sp ke kq vo nd wn wt wx wb dn tp tn ts) sz)) (mu_Q D (some (.int ((-2)))) (moW κ T S ad (nI 0) bs kp sm ks se sp ke kq vo nd wn wt wx wb dn tp tn ts) (va_A (moW κ T S ad co bs kp sm ks se sp ke kq vo nd wn wt wx wb dn tp tn ts) sz)) 0 0 (va_A (moW κ T S ad co bs kp sm ks se sp ke kq vo nd wn wt wx wb dn tp tn ts) sz) := by
  refine Met.ofW (cc := cX4_restore) (maxL := 5) (ret := (some .int)) (by decide) rfl ?_
  intro p e s m args below meth c s₁ B hml hv
  obtain ⟨rfl, hsz, hP, hK, hD0⟩ := hv
  have hx := B.exec
  have hb := B.bytes
  have hr := B.returns
  have hts := atoms_spec (ws := wsX4_restore) B.pre
  have hown : s.vm.findClass RX4 = some m.cls := findClass_of_methodNamed B.named
  have hlocks := B.notSynchronized
  subst hsz
  have hD := hD0.self (sz := s.heap.size)
  generalize hAe : va_A (moW κ T S ad co bs kp sm ks se sp ke kq vo nd wn wt wx wb dn tp tn ts) s.heap.size = A at hD ⊢
  have hA : ∀ q : Nat, s.heap.size ≤ q → A q := fun q h => by rw [← hAe]; exact Or.inr h
  refine W.gen (P := fun H locs => va_P D vwCl (moW κ T S ad co bs kp sm ks se sp ke kq vo nd wn wt wx wb dn tp tn ts) H ∧ va_S A s.heap H locs) (fun H locs h => ?_) ⟨hP, va_S.rf⟩
  clear hP
  obtain ⟨hP, hS⟩ := h
  have hl := lv_entry ([.ref ((ad 0)), .int x, .int y]) (n := 5) (Nat.le_of_ble_eq_true rfl)
  rw [lg_entry_eq]
  generalize (lg_sl ([.ref ((ad 0)), .int x, .int y]) ++ List.replicate (5 - (lg_sl ([.ref ((ad 0)), .int x, .int y])).length) Slot.unset).toArray = ls at hl ⊢
  have hl : lv_has ls 5 [(0, .ref ((ad 0))), (1, .int x), (2, .int y)] := hl
  refine lv_aload_n hx hb dX4_restore_0 rfl (lv_at hl 0 rfl) ?_
  refine lv_iconst (v := nI 0) hx hb dX4_restore_1 (by decide) ?_
  refine va_put (D := D) (ci := 5) (v := .int (nI 0)) (ty := .int) (C := RX4) (T := TX4) (N := 21) hx hb hts (by decide +kernel) tyX4 tyX4_ok nmX4 hown hK hP hD hS 0 rfl rfl 0 (by decide) (hts (.fieldLink RX4 61 "TrackDiskModel" "code" "I") (by decide +kernel)) (fun _ h9 => h9) rfl (by decide +kernel) rfl rfl (Nat.le_of_ble_eq_true rfl) dX4_restore_2 (fun H locs hP hD hS => ?_)
  have hP : va_P D vwCl (moW κ T S ad (nI 0) bs kp sm ks se sp ke kq vo nd wn wt wx wb dn tp tn ts) H := hP
  have hD : va_D A (moW κ T S ad (nI 0) bs kp sm ks se sp ke kq vo nd wn wt wx wb dn tp tn ts) := hD
  refine lv_iload_n hx hb dX4_restore_5 rfl (lv_at hl 1 rfl) ?_
  refine lv_iconst (v := nI 1) hx hb dX4_restore_6 (by decide) ?_
  refine lv_icmp_lt (tgt := 18) hx hb dX4_restore_7 (by decide) (fun c_7 => ?_) (fun c_7 => ?_)
  · exact absurd c_7 hlo
  · skip
    refine lv_iload_n hx hb dX4_restore_10 rfl (lv_at hl 1 rfl) ?_
    refine lv_aload_n hx hb dX4_restore_11 rfl (lv_at hl 0 rfl) ?_
    refine va_get (D := D) (ci := 5) (v := .int nd) (C := RX4) (T := TX4) (N := 21) hx hb hts (by decide +kernel) hown hK hP 0 rfl rfl 12 (by decide) (hts (.fieldLink RX4 101 "TrackDiskModel" "dumps" "I") (by decide +kernel)) (fun _ h9 => h9) rfl dX4_restore_12 ?_
    refine lv_icmp_le (tgt := 21) hx hb dX4_restore_15 (by decide) (fun c_15 => ?_) (fun c_15 => ?_)
    · exact absurd c_15 (Int32.not_le.mpr hhi)
    · skip
      refine lv_bipush (v := (-2)) hx hb dX4_restore_18 (by decide) ?_
      have hP9 : va_P D vwCl (moW κ T S ad (nI 0) bs kp sm ks se sp ke kq vo nd wn wt wx wb dn tp tn ts) H := hP
      have hD9 : va_D A (moW κ T S ad (nI 0) bs kp sm ks se sp ke kq vo nd wn wt wx wb dn tp tn ts) := hD
      exact W.iret hx hb hr (fun t ht _ => ⟨⟨rfl, by rw [ht]; exact hP9, hD9⟩, hS.F ht⟩) hS.2.2 dX4_restore_20 hlocks

set_option maxHeartbeats 4000000 in
set_option maxRecDepth 100000 in
/-- restore: down -/
theorem m_res_down (l : Launch) (D : va_G) (κ : Nat → ClassId) (sz : Nat) (T S : Nat) (ad : Nat → Nat) (co : Int32) (bs kp sm ks se sp ke kq vo : Nat → Int32) ( wn : Int32) (wt wx wb : Nat → Int32) (tp : Nat → Int32) (tn ts : Int32)  (d k : Nat) (hk0 : k < d) (hd : d ≤ 5) (y : Int32)  : Met l yX4_restore wsX4_restore ({ frames := 0, cells := 0, slots := 0, locals := 0 }) (va_Pc [.ref ((ad 0)), .int (nI (k + 1)), .int y] (mu_B D κ (moW κ T S ad co bs kp sm ks se sp ke kq vo (nI d) wn wt wx wb (nI 1) tp tn ts) sz)) (mu_Q D (some (.int ((-5)))) (moW κ T S ad (nI 0) bs kp sm ks se sp ke kq vo (nI d) wn wt wx wb (nI 1) tp tn ts) (va_A (moW κ T S ad co bs kp sm ks se sp ke kq vo (nI d) wn wt wx wb (nI 1) tp tn ts) sz)) 0 0 (va_A (moW κ T S ad co bs kp sm ks se sp ke kq vo (nI d) wn wt wx wb (nI 1) tp tn ts) sz) := by
  refine Met.ofW (cc := cX4_restore) (maxL := 5) (ret := (some .int)) (by decide) rfl ?_
  intro p e s m args below meth c s₁ B hml hv
  obtain ⟨rfl, hsz, hP, hK, hD0⟩ := hv
  have hx := B.exec
  have hb := B.bytes
  have hr := B.returns
  have hts := atoms_spec (ws := wsX4_restore) B.pre
  have hown : s.vm.findClass RX4 = some m.cls := findClass_of_methodNamed B.named
  have hlocks := B.notSynchronized
  subst hsz
  have hD := hD0.self (sz := s.heap.size)
  generalize hAe : va_A (moW κ T S ad co bs kp sm ks se sp ke kq vo (nI d) wn wt wx wb (nI 1) tp tn ts) s.heap.size = A at hD ⊢
  have hA : ∀ q : Nat, s.heap.size ≤ q → A q := fun q h => by rw [← hAe]; exact Or.inr h
  refine W.gen (P := fun H locs => va_P D vwCl (moW κ T S ad co bs kp sm ks se sp ke kq vo (nI d) wn wt wx wb (nI 1) tp tn ts) H ∧ va_S A s.heap H locs) (fun H locs h => ?_) ⟨hP, va_S.rf⟩
  clear hP
  obtain ⟨hP, hS⟩ := h
  have hl := lv_entry ([.ref ((ad 0)), .int (nI (k + 1)), .int y]) (n := 5) (Nat.le_of_ble_eq_true rfl)
  rw [lg_entry_eq]
  generalize (lg_sl ([.ref ((ad 0)), .int (nI (k + 1)), .int y]) ++ List.replicate (5 - (lg_sl ([.ref ((ad 0)), .int (nI (k + 1)), .int y])).length) Slot.unset).toArray = ls at hl ⊢
  have hl : lv_has ls 5 [(0, .ref ((ad 0))), (1, .int (nI (k + 1))), (2, .int y)] := hl
  refine lv_aload_n hx hb dX4_restore_0 rfl (lv_at hl 0 rfl) ?_
  refine lv_iconst (v := nI 0) hx hb dX4_restore_1 (by decide) ?_
  refine va_put (D := D) (ci := 5) (v := .int (nI 0)) (ty := .int) (C := RX4) (T := TX4) (N := 21) hx hb hts (by decide +kernel) tyX4 tyX4_ok nmX4 hown hK hP hD hS 0 rfl rfl 0 (by decide) (hts (.fieldLink RX4 61 "TrackDiskModel" "code" "I") (by decide +kernel)) (fun _ h9 => h9) rfl (by decide +kernel) rfl rfl (Nat.le_of_ble_eq_true rfl) dX4_restore_2 (fun H locs hP hD hS => ?_)
  have hP : va_P D vwCl (moW κ T S ad (nI 0) bs kp sm ks se sp ke kq vo (nI d) wn wt wx wb (nI 1) tp tn ts) H := hP
  have hD : va_D A (moW κ T S ad (nI 0) bs kp sm ks se sp ke kq vo (nI d) wn wt wx wb (nI 1) tp tn ts) := hD
  refine lv_iload_n hx hb dX4_restore_5 rfl (lv_at hl 1 rfl) ?_
  refine lv_iconst (v := nI 1) hx hb dX4_restore_6 (by decide) ?_
  refine lv_icmp_lt (tgt := 18) hx hb dX4_restore_7 (by decide) (fun c_7 => ?_) (fun c_7 => ?_)
  · exact absurd c_7 (nI_nlt (by omega) (by omega))
  · skip
    refine lv_iload_n hx hb dX4_restore_10 rfl (lv_at hl 1 rfl) ?_
    refine lv_aload_n hx hb dX4_restore_11 rfl (lv_at hl 0 rfl) ?_
    refine va_get (D := D) (ci := 5) (v := .int (nI d)) (C := RX4) (T := TX4) (N := 21) hx hb hts (by decide +kernel) hown hK hP 0 rfl rfl 12 (by decide) (hts (.fieldLink RX4 101 "TrackDiskModel" "dumps" "I") (by decide +kernel)) (fun _ h9 => h9) rfl dX4_restore_12 ?_
    refine lv_icmp_le (tgt := 21) hx hb dX4_restore_15 (by decide) (fun c_15 => ?_) (fun c_15 => ?_)
    · skip
      refine lv_aload_n hx hb dX4_restore_21 rfl (lv_at hl 0 rfl) ?_
      refine va_get (D := D) (ci := 5) (v := .int (nI 1)) (C := RX4) (T := TX4) (N := 21) hx hb hts (by decide +kernel) hown hK hP 0 rfl rfl 17 (by decide) (hts (.fieldLink RX4 73 "TrackDiskModel" "down" "Z") (by decide +kernel)) (fun _ h9 => h9) rfl dX4_restore_22 ?_
      refine lv_if_eq (tgt := 31) hx hb dX4_restore_25 (by decide) (fun c_25 => ?_) (fun c_25 => ?_)
      · exact absurd c_25 (by decide)
      · skip
        refine lv_bipush (v := (-5)) hx hb dX4_restore_28 (by decide) ?_
        have hP9 : va_P D vwCl (moW κ T S ad (nI 0) bs kp sm ks se sp ke kq vo (nI d) wn wt wx wb (nI 1) tp tn ts) H := hP
        have hD9 : va_D A (moW κ T S ad (nI 0) bs kp sm ks se sp ke kq vo (nI d) wn wt wx wb (nI 1) tp tn ts) := hD
        exact W.iret hx hb hr (fun t ht _ => ⟨⟨rfl, by rw [ht]; exact hP9, hD9⟩, hS.F ht⟩) hS.2.2 dX4_restore_30 hlocks
    · exact absurd (nI_le (by omega) (by omega)) c_15

set_option maxHeartbeats 4000000 in
set_option maxRecDepth 100000 in
/-- restore: another volume -/
theorem m_res_vol (l : Launch) (D : va_G) (κ : Nat → ClassId) (sz : Nat) (T S : Nat) (ad : Nat → Nat) (co : Int32) (bs kp sm ks se sp ke kq vo : Nat → Int32) ( wn : Int32) (wt wx wb : Nat → Int32) (tp : Nat → Int32) (tn ts : Int32)  (d k : Nat) (hk0 : k < d) (hd : d ≤ 5) (y : Int32) (hv : ¬ vo k = y) : Met l yX4_restore wsX4_restore ({ frames := 0, cells := 0, slots := 0, locals := 0 }) (va_Pc [.ref ((ad 0)), .int (nI (k + 1)), .int y] (mu_B D κ (moW κ T S ad co bs kp sm ks se sp ke kq vo (nI d) wn wt wx wb (nI 0) tp tn ts) sz)) (mu_Q D (some (.int (nI 0))) (moW κ T S ad (nI 0) bs kp sm ks se sp ke kq vo (nI d) wn wt wx wb (nI 0) tp tn ts) (va_A (moW κ T S ad co bs kp sm ks se sp ke kq vo (nI d) wn wt wx wb (nI 0) tp tn ts) sz)) 0 0 (va_A (moW κ T S ad co bs kp sm ks se sp ke kq vo (nI d) wn wt wx wb (nI 0) tp tn ts) sz) := by
  refine Met.ofW (cc := cX4_restore) (maxL := 5) (ret := (some .int)) (by decide) rfl ?_
  intro p e s m args below meth c s₁ B hml hv
  obtain ⟨rfl, hsz, hP, hK, hD0⟩ := hv
  have hx := B.exec
  have hb := B.bytes
  have hr := B.returns
  have hts := atoms_spec (ws := wsX4_restore) B.pre
  have hown : s.vm.findClass RX4 = some m.cls := findClass_of_methodNamed B.named
  have hlocks := B.notSynchronized
  subst hsz
  have hD := hD0.self (sz := s.heap.size)
  generalize hAe : va_A (moW κ T S ad co bs kp sm ks se sp ke kq vo (nI d) wn wt wx wb (nI 0) tp tn ts) s.heap.size = A at hD ⊢
  have hA : ∀ q : Nat, s.heap.size ≤ q → A q := fun q h => by rw [← hAe]; exact Or.inr h
  refine W.gen (P := fun H locs => va_P D vwCl (moW κ T S ad co bs kp sm ks se sp ke kq vo (nI d) wn wt wx wb (nI 0) tp tn ts) H ∧ va_S A s.heap H locs) (fun H locs h => ?_) ⟨hP, va_S.rf⟩
  clear hP
  obtain ⟨hP, hS⟩ := h
  have hl := lv_entry ([.ref ((ad 0)), .int (nI (k + 1)), .int y]) (n := 5) (Nat.le_of_ble_eq_true rfl)
  rw [lg_entry_eq]
  generalize (lg_sl ([.ref ((ad 0)), .int (nI (k + 1)), .int y]) ++ List.replicate (5 - (lg_sl ([.ref ((ad 0)), .int (nI (k + 1)), .int y])).length) Slot.unset).toArray = ls at hl ⊢
  have hl : lv_has ls 5 [(0, .ref ((ad 0))), (1, .int (nI (k + 1))), (2, .int y)] := hl
  refine lv_aload_n hx hb dX4_restore_0 rfl (lv_at hl 0 rfl) ?_
  refine lv_iconst (v := nI 0) hx hb dX4_restore_1 (by decide) ?_
  refine va_put (D := D) (ci := 5) (v := .int (nI 0)) (ty := .int) (C := RX4) (T := TX4) (N := 21) hx hb hts (by decide +kernel) tyX4 tyX4_ok nmX4 hown hK hP hD hS 0 rfl rfl 0 (by decide) (hts (.fieldLink RX4 61 "TrackDiskModel" "code" "I") (by decide +kernel)) (fun _ h9 => h9) rfl (by decide +kernel) rfl rfl (Nat.le_of_ble_eq_true rfl) dX4_restore_2 (fun H locs hP hD hS => ?_)
  have hP : va_P D vwCl (moW κ T S ad (nI 0) bs kp sm ks se sp ke kq vo (nI d) wn wt wx wb (nI 0) tp tn ts) H := hP
  have hD : va_D A (moW κ T S ad (nI 0) bs kp sm ks se sp ke kq vo (nI d) wn wt wx wb (nI 0) tp tn ts) := hD
  refine lv_iload_n hx hb dX4_restore_5 rfl (lv_at hl 1 rfl) ?_
  refine lv_iconst (v := nI 1) hx hb dX4_restore_6 (by decide) ?_
  refine lv_icmp_lt (tgt := 18) hx hb dX4_restore_7 (by decide) (fun c_7 => ?_) (fun c_7 => ?_)
  · exact absurd c_7 (nI_nlt (by omega) (by omega))
  · skip
    refine lv_iload_n hx hb dX4_restore_10 rfl (lv_at hl 1 rfl) ?_
    refine lv_aload_n hx hb dX4_restore_11 rfl (lv_at hl 0 rfl) ?_
    refine va_get (D := D) (ci := 5) (v := .int (nI d)) (C := RX4) (T := TX4) (N := 21) hx hb hts (by decide +kernel) hown hK hP 0 rfl rfl 12 (by decide) (hts (.fieldLink RX4 101 "TrackDiskModel" "dumps" "I") (by decide +kernel)) (fun _ h9 => h9) rfl dX4_restore_12 ?_
    refine lv_icmp_le (tgt := 21) hx hb dX4_restore_15 (by decide) (fun c_15 => ?_) (fun c_15 => ?_)
    · skip
      refine lv_aload_n hx hb dX4_restore_21 rfl (lv_at hl 0 rfl) ?_
      refine va_get (D := D) (ci := 5) (v := .int (nI 0)) (C := RX4) (T := TX4) (N := 21) hx hb hts (by decide +kernel) hown hK hP 0 rfl rfl 17 (by decide) (hts (.fieldLink RX4 73 "TrackDiskModel" "down" "Z") (by decide +kernel)) (fun _ h9 => h9) rfl dX4_restore_22 ?_
      refine lv_if_eq (tgt := 31) hx hb dX4_restore_25 (by decide) (fun c_25 => ?_) (fun c_25 => ?_)
      · skip
        refine lv_iload_n hx hb dX4_restore_31 rfl (lv_at hl 1 rfl) ?_
        refine lv_iconst (v := nI 1) hx hb dX4_restore_32 (by decide) ?_
        refine lv_isub hx hb dX4_restore_33 ?_
        refine tp_i (y := nI k) (by rw [pk_sub (by omega)]; rfl) ?_
        refine lv_istore_n (lv' := [(3, .int (nI k)), (0, .ref ((ad 0))), (1, .int (nI (k + 1))), (2, .int y)]) hx hb dX4_restore_34 rfl hl (by decide) rfl (fun ls hl => ?_)
        refine lv_aload_n hx hb dX4_restore_35 rfl (lv_at hl 1 rfl) ?_
        refine va_get (D := D) (ci := 5) (v := .ref ((ad 9))) (C := RX4) (T := TX4) (N := 21) hx hb hts (by decide +kernel) hown hK hP 0 rfl rfl 11 (by decide) (hts (.fieldLink RX4 35 "TrackDiskModel" "volumes" "[I") (by decide +kernel)) (fun _ h9 => h9) rfl dX4_restore_36 ?_
        refine lv_iload_n hx hb dX4_restore_39 rfl (lv_at hl 0 rfl) ?_
        refine va_iald hx hb hK hP 9 0 rfl rfl (vp_in_nI (by omega) (by omega)) dX4_restore_40 ?_
        refine tp_i (y := vo k) (by rw [nI_clamp (by omega)]) ?_
        refine lv_iload_n hx hb dX4_restore_41 rfl (lv_at hl 3 rfl) ?_
        refine lv_icmp_eq (tgt := 47) hx hb dX4_restore_42 (by decide) (fun c_42 => ?_) (fun c_42 => ?_)
        · exact absurd c_42 hv
        · skip
          refine lv_iconst (v := nI 0) hx hb dX4_restore_45 (by decide) ?_
          have hP9 : va_P D vwCl (moW κ T S ad (nI 0) bs kp sm ks se sp ke kq vo (nI d) wn wt wx wb (nI 0) tp tn ts) H := hP
          have hD9 : va_D A (moW κ T S ad (nI 0) bs kp sm ks se sp ke kq vo (nI d) wn wt wx wb (nI 0) tp tn ts) := hD
          exact W.iret hx hb hr (fun t ht _ => ⟨⟨rfl, by rw [ht]; exact hP9, hD9⟩, hS.F ht⟩) hS.2.2 dX4_restore_46 hlocks
      · exact absurd (by decide) c_25
    · exact absurd (nI_le (by omega) (by omega)) c_15

set_option maxHeartbeats 4000000 in
set_option maxRecDepth 100000 in
/-- restore -/
theorem m_res (l : Launch) (D : va_G) (κ : Nat → ClassId) (sz : Nat) (T S : Nat) (ad : Nat → Nat) (co : Int32) (bs kp sm ks se sp ke kq vo : Nat → Int32) ( wn : Int32) (wt wx wb : Nat → Int32) (tp : Nat → Int32) (tn ts : Int32)  (d k : Nat) (hk0 : k < d) (hd : d ≤ 5) (y : Int32) (hv : vo k = y) : Met l yX4_restore wsX4_restore ({ frames := 0, cells := 0, slots := 0, locals := 0 }) (va_Pc [.ref ((ad 0)), .int (nI (k + 1)), .int y] (mu_B D κ (moW κ T S ad co bs kp sm ks se sp ke kq vo (nI d) wn wt wx wb (nI 0) tp tn ts) sz)) (mu_Q D (some (.int (nI 1))) (moW κ T S ad (nI 0) (rB kp bs (1792 * k) 1792) kp (rI ks sm (112 * k) 112) ks (rI ke se (12 * k) 12) (rI kq sp (24 * k) 24) ke kq vo (nI d) (nI 0) wt wx wb (nI 0) tp tn ts) (va_A (moW κ T S ad co bs kp sm ks se sp ke kq vo (nI d) wn wt wx wb (nI 0) tp tn ts) sz)) 0 0 (va_A (moW κ T S ad co bs kp sm ks se sp ke kq vo (nI d) wn wt wx wb (nI 0) tp tn ts) sz) := by
  refine Met.ofW (cc := cX4_restore) (maxL := 5) (ret := (some .int)) (by decide) rfl ?_
  intro p e s m args below meth c s₁ B hml hv
  obtain ⟨rfl, hsz, hP, hK, hD0⟩ := hv
  have hx := B.exec
  have hb := B.bytes
  have hr := B.returns
  have hts := atoms_spec (ws := wsX4_restore) B.pre
  have hown : s.vm.findClass RX4 = some m.cls := findClass_of_methodNamed B.named
  have hlocks := B.notSynchronized
  subst hsz
  have hD := hD0.self (sz := s.heap.size)
  generalize hAe : va_A (moW κ T S ad co bs kp sm ks se sp ke kq vo (nI d) wn wt wx wb (nI 0) tp tn ts) s.heap.size = A at hD ⊢
  have hA : ∀ q : Nat, s.heap.size ≤ q → A q := fun q h => by rw [← hAe]; exact Or.inr h
  refine W.gen (P := fun H locs => va_P D vwCl (moW κ T S ad co bs kp sm ks se sp ke kq vo (nI d) wn wt wx wb (nI 0) tp tn ts) H ∧ va_S A s.heap H locs) (fun H locs h => ?_) ⟨hP, va_S.rf⟩
  clear hP
  obtain ⟨hP, hS⟩ := h
  have hl := lv_entry ([.ref ((ad 0)), .int (nI (k + 1)), .int y]) (n := 5) (Nat.le_of_ble_eq_true rfl)
  rw [lg_entry_eq]
  generalize (lg_sl ([.ref ((ad 0)), .int (nI (k + 1)), .int y]) ++ List.replicate (5 - (lg_sl ([.ref ((ad 0)), .int (nI (k + 1)), .int y])).length) Slot.unset).toArray = ls at hl ⊢
  have hl : lv_has ls 5 [(0, .ref ((ad 0))), (1, .int (nI (k + 1))), (2, .int y)] := hl
  refine lv_aload_n hx hb dX4_restore_0 rfl (lv_at hl 0 rfl) ?_
  refine lv_iconst (v := nI 0) hx hb dX4_restore_1 (by decide) ?_
  refine va_put (D := D) (ci := 5) (v := .int (nI 0)) (ty := .int) (C := RX4) (T := TX4) (N := 21) hx hb hts (by decide +kernel) tyX4 tyX4_ok nmX4 hown hK hP hD hS 0 rfl rfl 0 (by decide) (hts (.fieldLink RX4 61 "TrackDiskModel" "code" "I") (by decide +kernel)) (fun _ h9 => h9) rfl (by decide +kernel) rfl rfl (Nat.le_of_ble_eq_true rfl) dX4_restore_2 (fun H locs hP hD hS => ?_)
  have hP : va_P D vwCl (moW κ T S ad (nI 0) bs kp sm ks se sp ke kq vo (nI d) wn wt wx wb (nI 0) tp tn ts) H := hP
  have hD : va_D A (moW κ T S ad (nI 0) bs kp sm ks se sp ke kq vo (nI d) wn wt wx wb (nI 0) tp tn ts) := hD
  refine lv_iload_n hx hb dX4_restore_5 rfl (lv_at hl 1 rfl) ?_
  refine lv_iconst (v := nI 1) hx hb dX4_restore_6 (by decide) ?_
  refine lv_icmp_lt (tgt := 18) hx hb dX4_restore_7 (by decide) (fun c_7 => ?_) (fun c_7 => ?_)
  · exact absurd c_7 (nI_nlt (by omega) (by omega))
  · skip
    refine lv_iload_n hx hb dX4_restore_10 rfl (lv_at hl 1 rfl) ?_
    refine lv_aload_n hx hb dX4_restore_11 rfl (lv_at hl 0 rfl) ?_
    refine va_get (D := D) (ci := 5) (v := .int (nI d)) (C := RX4) (T := TX4) (N := 21) hx hb hts (by decide +kernel) hown hK hP 0 rfl rfl 12 (by decide) (hts (.fieldLink RX4 101 "TrackDiskModel" "dumps" "I") (by decide +kernel)) (fun _ h9 => h9) rfl dX4_restore_12 ?_
    refine lv_icmp_le (tgt := 21) hx hb dX4_restore_15 (by decide) (fun c_15 => ?_) (fun c_15 => ?_)
    · skip
      refine lv_aload_n hx hb dX4_restore_21 rfl (lv_at hl 0 rfl) ?_
      refine va_get (D := D) (ci := 5) (v := .int (nI 0)) (C := RX4) (T := TX4) (N := 21) hx hb hts (by decide +kernel) hown hK hP 0 rfl rfl 17 (by decide) (hts (.fieldLink RX4 73 "TrackDiskModel" "down" "Z") (by decide +kernel)) (fun _ h9 => h9) rfl dX4_restore_22 ?_
      refine lv_if_eq (tgt := 31) hx hb dX4_restore_25 (by decide) (fun c_25 => ?_) (fun c_25 => ?_)
      · skip
        refine lv_iload_n hx hb dX4_restore_31 rfl (lv_at hl 1 rfl) ?_
        refine lv_iconst (v := nI 1) hx hb dX4_restore_32 (by decide) ?_
        refine lv_isub hx hb dX4_restore_33 ?_
        refine tp_i (y := nI k) (by rw [pk_sub (by omega)]; rfl) ?_
        refine lv_istore_n (lv' := [(3, .int (nI k)), (0, .ref ((ad 0))), (1, .int (nI (k + 1))), (2, .int y)]) hx hb dX4_restore_34 rfl hl (by decide) rfl (fun ls hl => ?_)
        refine lv_aload_n hx hb dX4_restore_35 rfl (lv_at hl 1 rfl) ?_
        refine va_get (D := D) (ci := 5) (v := .ref ((ad 9))) (C := RX4) (T := TX4) (N := 21) hx hb hts (by decide +kernel) hown hK hP 0 rfl rfl 11 (by decide) (hts (.fieldLink RX4 35 "TrackDiskModel" "volumes" "[I") (by decide +kernel)) (fun _ h9 => h9) rfl dX4_restore_36 ?_
        refine lv_iload_n hx hb dX4_restore_39 rfl (lv_at hl 0 rfl) ?_
        refine va_iald hx hb hK hP 9 0 rfl rfl (vp_in_nI (by omega) (by omega)) dX4_restore_40 ?_
        refine tp_i (y := vo k) (by rw [nI_clamp (by omega)]) ?_
        refine lv_iload_n hx hb dX4_restore_41 rfl (lv_at hl 3 rfl) ?_
        refine lv_icmp_eq (tgt := 47) hx hb dX4_restore_42 (by decide) (fun c_42 => ?_) (fun c_42 => ?_)
        · skip
          refine lv_iconst (v := nI 0) hx hb dX4_restore_47 (by decide) ?_
          refine lv_istore (lv' := [(4, .int (nI 0)), (3, .int (nI k)), (0, .ref ((ad 0))), (1, .int (nI (k + 1))), (2, .int y)]) hx hb dX4_restore_48 hl (by decide) rfl (fun ls hl => ?_)
          refine W.loop (N := 1792) (I := fun j ls H locs => lv_has ls 5 [(4, .int (nI j)), (3, .int (nI k)), (0, .ref ((ad 0))), (1, .int (nI (k + 1))), (2, .int y)] ∧ va_P D vwCl (moW κ T S ad (nI 0) (rB kp bs (1792 * k) j) kp sm ks se sp ke kq vo (nI d) wn wt wx wb (nI 0) tp tn ts) H ∧ va_D A (moW κ T S ad (nI 0) (rB kp bs (1792 * k) j) kp sm ks se sp ke kq vo (nI d) wn wt wx wb (nI 0) tp tn ts) ∧ va_S A s.heap H locs) 0 (by omega) (fun j ls H locs hj hI ihj => ?_) (fun ls H locs hI => ?_) ⟨lv_sub hl [0, 1, 2, 3, 4] rfl, hP, hD, hS⟩
          · skip
            clear hl hP hD hS
            obtain ⟨hl, hP, hD, hS⟩ := hI
            refine lv_iload hx hb dX4_restore_50 (lv_at hl 0 rfl) ?_
            refine lv_sipush (v := nI 1792) hx hb dX4_restore_52 (by decide) ?_
            refine lv_icmp_ge (tgt := 84) hx hb dX4_restore_55 (by decide) (fun c_55 => ?_) (fun c_55 => ?_)
            · exact absurd c_55 (nI_ge hj (by omega))
            · skip
              refine lv_aload_n hx hb dX4_restore_58 rfl (lv_at hl 2 rfl) ?_
              refine va_get (D := D) (ci := 5) (v := .ref ((ad 1))) (C := RX4) (T := TX4) (N := 21) hx hb hts (by decide +kernel) hown hK hP 0 rfl rfl 3 (by decide) (hts (.fieldLink RX4 7 "TrackDiskModel" "bytes" "[B") (by decide +kernel)) (fun _ h9 => h9) rfl dX4_restore_59 ?_
              refine lv_iload hx hb dX4_restore_62 (lv_at hl 0 rfl) ?_
              refine lv_aload_n hx hb dX4_restore_64 rfl (lv_at hl 2 rfl) ?_
              refine va_get (D := D) (ci := 5) (v := .ref ((ad 2))) (C := RX4) (T := TX4) (N := 21) hx hb hts (by decide +kernel) hown hK hP 0 rfl rfl 4 (by decide) (hts (.fieldLink RX4 13 "TrackDiskModel" "kept" "[B") (by decide +kernel)) (fun _ h9 => h9) rfl dX4_restore_65 ?_
              refine lv_sipush (v := nI 1792) hx hb dX4_restore_68 (by decide) ?_
              refine lv_iload_n hx hb dX4_restore_71 rfl (lv_at hl 1 rfl) ?_
              refine lv_imul hx hb dX4_restore_72 ?_
              refine tp_i (y := nI (1792 * k)) (by exact pk_mul _ _) ?_
              refine lv_iload hx hb dX4_restore_73 (lv_at hl 0 rfl) ?_
              refine lv_iadd hx hb dX4_restore_75 ?_
              refine tp_i (y := nI ((1792 * k) + j)) (by exact nI_add _ _) ?_
              refine va_bald hx hb hK hP 2 1 rfl rfl (vp_in_nI (by omega) (by omega)) dX4_restore_76 ?_
              refine tp_i (y := kp ((1792 * k) + j)) (by rw [nI_clamp (by omega)]) ?_
              refine va_bast hx hb hK hP hD hS 1 1 rfl rfl (vp_in_nI (by omega) (by omega)) dX4_restore_77 (fun H locs hP hD hS => ?_)
              rw [nI_clamp (n := j) (by omega)] at hP hD
              have hP : va_P D vwCl (moW κ T S ad (nI 0) (upd (rB kp bs (1792 * k) j) (j) (vp_nar .byte (kp ((1792 * k) + j)))) kp sm ks se sp ke kq vo (nI d) wn wt wx wb (nI 0) tp tn ts) H := hP
              have hD : va_D A (moW κ T S ad (nI 0) (upd (rB kp bs (1792 * k) j) (j) (vp_nar .byte (kp ((1792 * k) + j)))) kp sm ks se sp ke kq vo (nI d) wn wt wx wb (nI 0) tp tn ts) := hD
              refine lv_iinc (v := nI (j + 1)) (lv' := [(4, .int (nI (j + 1))), (3, .int (nI k)), (0, .ref ((ad 0))), (1, .int (nI (k + 1))), (2, .int y)]) hx hb dX4_restore_78 hl (k := 0) rfl (by exact nI_1 _) (by decide) rfl (fun ls hl => ?_)
              refine lv_goto (tgt := 50) hx hb dX4_restore_81 (by decide) ?_
              exact ihj ls H locs ⟨lv_sub hl [0, 1, 2, 3, 4] rfl, hP, hD, hS⟩
          · skip
            clear hl hP hD hS
            obtain ⟨hl, hP, hD, hS⟩ := hI
            refine lv_iload hx hb dX4_restore_50 (lv_at hl 0 rfl) ?_
            refine lv_sipush (v := nI 1792) hx hb dX4_restore_52 (by decide) ?_
            refine lv_icmp_ge (tgt := 84) hx hb dX4_restore_55 (by decide) (fun c_55 => ?_) (fun c_55 => ?_)
            · skip
              refine lv_iconst (v := nI 0) hx hb dX4_restore_84 (by decide) ?_
              refine lv_istore (lv' := [(4, .int (nI 0)), (3, .int (nI k)), (0, .ref ((ad 0))), (1, .int (nI (k + 1))), (2, .int y)]) hx hb dX4_restore_85 hl (by decide) rfl (fun ls hl => ?_)
              refine W.loop (N := 112) (I := fun j ls H locs => lv_has ls 5 [(4, .int (nI j)), (3, .int (nI k)), (0, .ref ((ad 0))), (1, .int (nI (k + 1))), (2, .int y)] ∧ va_P D vwCl (moW κ T S ad (nI 0) (rB kp bs (1792 * k) 1792) kp (rI ks sm (112 * k) j) ks se sp ke kq vo (nI d) wn wt wx wb (nI 0) tp tn ts) H ∧ va_D A (moW κ T S ad (nI 0) (rB kp bs (1792 * k) 1792) kp (rI ks sm (112 * k) j) ks se sp ke kq vo (nI d) wn wt wx wb (nI 0) tp tn ts) ∧ va_S A s.heap H locs) 0 (by omega) (fun j ls H locs hj hI ihj => ?_) (fun ls H locs hI => ?_) ⟨lv_sub hl [0, 1, 2, 3, 4] rfl, hP, hD, hS⟩
              · skip
                clear hl hP hD hS
                obtain ⟨hl, hP, hD, hS⟩ := hI
                refine lv_iload hx hb dX4_restore_87 (lv_at hl 0 rfl) ?_
                refine lv_bipush (v := nI 112) hx hb dX4_restore_89 (by decide) ?_
                refine lv_icmp_ge (tgt := 119) hx hb dX4_restore_91 (by decide) (fun c_91 => ?_) (fun c_91 => ?_)
                · exact absurd c_91 (nI_ge hj (by omega))
                · skip
                  refine lv_aload_n hx hb dX4_restore_94 rfl (lv_at hl 2 rfl) ?_
                  refine va_get (D := D) (ci := 5) (v := .ref ((ad 3))) (C := RX4) (T := TX4) (N := 21) hx hb hts (by decide +kernel) hown hK hP 0 rfl rfl 5 (by decide) (hts (.fieldLink RX4 16 "TrackDiskModel" "sums" "[I") (by decide +kernel)) (fun _ h9 => h9) rfl dX4_restore_95 ?_
                  refine lv_iload hx hb dX4_restore_98 (lv_at hl 0 rfl) ?_
                  refine lv_aload_n hx hb dX4_restore_100 rfl (lv_at hl 2 rfl) ?_
                  refine va_get (D := D) (ci := 5) (v := .ref ((ad 4))) (C := RX4) (T := TX4) (N := 21) hx hb hts (by decide +kernel) hown hK hP 0 rfl rfl 6 (by decide) (hts (.fieldLink RX4 20 "TrackDiskModel" "keptSums" "[I") (by decide +kernel)) (fun _ h9 => h9) rfl dX4_restore_101 ?_
                  refine lv_bipush (v := nI 112) hx hb dX4_restore_104 (by decide) ?_
                  refine lv_iload_n hx hb dX4_restore_106 rfl (lv_at hl 1 rfl) ?_
                  refine lv_imul hx hb dX4_restore_107 ?_
                  refine tp_i (y := nI (112 * k)) (by exact pk_mul _ _) ?_
                  refine lv_iload hx hb dX4_restore_108 (lv_at hl 0 rfl) ?_
                  refine lv_iadd hx hb dX4_restore_110 ?_
                  refine tp_i (y := nI ((112 * k) + j)) (by exact nI_add _ _) ?_
                  refine va_iald hx hb hK hP 4 0 rfl rfl (vp_in_nI (by omega) (by omega)) dX4_restore_111 ?_
                  refine tp_i (y := ks ((112 * k) + j)) (by rw [nI_clamp (by omega)]) ?_
                  refine va_iast hx hb hK hP hD hS 3 0 rfl rfl (vp_in_nI (by omega) (by omega)) dX4_restore_112 (fun H locs hP hD hS => ?_)
                  rw [nI_clamp (n := j) (by omega)] at hP hD
                  have hP : va_P D vwCl (moW κ T S ad (nI 0) (rB kp bs (1792 * k) 1792) kp (upd (rI ks sm (112 * k) j) (j) (ks ((112 * k) + j))) ks se sp ke kq vo (nI d) wn wt wx wb (nI 0) tp tn ts) H := hP
                  have hD : va_D A (moW κ T S ad (nI 0) (rB kp bs (1792 * k) 1792) kp (upd (rI ks sm (112 * k) j) (j) (ks ((112 * k) + j))) ks se sp ke kq vo (nI d) wn wt wx wb (nI 0) tp tn ts) := hD
                  refine lv_iinc (v := nI (j + 1)) (lv' := [(4, .int (nI (j + 1))), (3, .int (nI k)), (0, .ref ((ad 0))), (1, .int (nI (k + 1))), (2, .int y)]) hx hb dX4_restore_113 hl (k := 0) rfl (by exact nI_1 _) (by decide) rfl (fun ls hl => ?_)
                  refine lv_goto (tgt := 87) hx hb dX4_restore_116 (by decide) ?_
                  exact ihj ls H locs ⟨lv_sub hl [0, 1, 2, 3, 4] rfl, hP, hD, hS⟩
              · skip
                clear hl hP hD hS
                obtain ⟨hl, hP, hD, hS⟩ := hI
                refine lv_iload hx hb dX4_restore_87 (lv_at hl 0 rfl) ?_
                refine lv_bipush (v := nI 112) hx hb dX4_restore_89 (by decide) ?_
                refine lv_icmp_ge (tgt := 119) hx hb dX4_restore_91 (by decide) (fun c_91 => ?_) (fun c_91 => ?_)
                · skip
                  refine lv_iconst (v := nI 0) hx hb dX4_restore_119 (by decide) ?_
                  refine lv_istore (lv' := [(4, .int (nI 0)), (3, .int (nI k)), (0, .ref ((ad 0))), (1, .int (nI (k + 1))), (2, .int y)]) hx hb dX4_restore_120 hl (by decide) rfl (fun ls hl => ?_)
                  refine W.loop (N := 12) (I := fun j ls H locs => lv_has ls 5 [(4, .int (nI j)), (3, .int (nI k)), (0, .ref ((ad 0))), (1, .int (nI (k + 1))), (2, .int y)] ∧ va_P D vwCl (moW κ T S ad (nI 0) (rB kp bs (1792 * k) 1792) kp (rI ks sm (112 * k) 112) ks (rI ke se (12 * k) j) sp ke kq vo (nI d) wn wt wx wb (nI 0) tp tn ts) H ∧ va_D A (moW κ T S ad (nI 0) (rB kp bs (1792 * k) 1792) kp (rI ks sm (112 * k) 112) ks (rI ke se (12 * k) j) sp ke kq vo (nI d) wn wt wx wb (nI 0) tp tn ts) ∧ va_S A s.heap H locs) 0 (by omega) (fun j ls H locs hj hI ihj => ?_) (fun ls H locs hI => ?_) ⟨lv_sub hl [0, 1, 2, 3, 4] rfl, hP, hD, hS⟩
                  · skip
                    clear hl hP hD hS
                    obtain ⟨hl, hP, hD, hS⟩ := hI
                    refine lv_iload hx hb dX4_restore_122 (lv_at hl 0 rfl) ?_
                    refine lv_bipush (v := nI 12) hx hb dX4_restore_124 (by decide) ?_
                    refine lv_icmp_ge (tgt := 154) hx hb dX4_restore_126 (by decide) (fun c_126 => ?_) (fun c_126 => ?_)
                    · exact absurd c_126 (nI_ge hj (by omega))
                    · skip
                      refine lv_aload_n hx hb dX4_restore_129 rfl (lv_at hl 2 rfl) ?_
                      refine va_get (D := D) (ci := 5) (v := .ref ((ad 5))) (C := RX4) (T := TX4) (N := 21) hx hb hts (by decide +kernel) hown hK hP 0 rfl rfl 7 (by decide) (hts (.fieldLink RX4 23 "TrackDiskModel" "sent" "[I") (by decide +kernel)) (fun _ h9 => h9) rfl dX4_restore_130 ?_
                      refine lv_iload hx hb dX4_restore_133 (lv_at hl 0 rfl) ?_
                      refine lv_aload_n hx hb dX4_restore_135 rfl (lv_at hl 2 rfl) ?_
                      refine va_get (D := D) (ci := 5) (v := .ref ((ad 7))) (C := RX4) (T := TX4) (N := 21) hx hb hts (by decide +kernel) hown hK hP 0 rfl rfl 9 (by decide) (hts (.fieldLink RX4 29 "TrackDiskModel" "keptSent" "[I") (by decide +kernel)) (fun _ h9 => h9) rfl dX4_restore_136 ?_
                      refine lv_bipush (v := nI 12) hx hb dX4_restore_139 (by decide) ?_
                      refine lv_iload_n hx hb dX4_restore_141 rfl (lv_at hl 1 rfl) ?_
                      refine lv_imul hx hb dX4_restore_142 ?_
                      refine tp_i (y := nI (12 * k)) (by exact pk_mul _ _) ?_
                      refine lv_iload hx hb dX4_restore_143 (lv_at hl 0 rfl) ?_
                      refine lv_iadd hx hb dX4_restore_145 ?_
                      refine tp_i (y := nI ((12 * k) + j)) (by exact nI_add _ _) ?_
                      refine va_iald hx hb hK hP 7 0 rfl rfl (vp_in_nI (by omega) (by omega)) dX4_restore_146 ?_
                      refine tp_i (y := ke ((12 * k) + j)) (by rw [nI_clamp (by omega)]) ?_
                      refine va_iast hx hb hK hP hD hS 5 0 rfl rfl (vp_in_nI (by omega) (by omega)) dX4_restore_147 (fun H locs hP hD hS => ?_)
                      rw [nI_clamp (n := j) (by omega)] at hP hD
                      have hP : va_P D vwCl (moW κ T S ad (nI 0) (rB kp bs (1792 * k) 1792) kp (rI ks sm (112 * k) 112) ks (upd (rI ke se (12 * k) j) (j) (ke ((12 * k) + j))) sp ke kq vo (nI d) wn wt wx wb (nI 0) tp tn ts) H := hP
                      have hD : va_D A (moW κ T S ad (nI 0) (rB kp bs (1792 * k) 1792) kp (rI ks sm (112 * k) 112) ks (upd (rI ke se (12 * k) j) (j) (ke ((12 * k) + j))) sp ke kq vo (nI d) wn wt wx wb (nI 0) tp tn ts) := hD
                      refine lv_iinc (v := nI (j + 1)) (lv' := [(4, .int (nI (j + 1))), (3, .int (nI k)), (0, .ref ((ad 0))), (1, .int (nI (k + 1))), (2, .int y)]) hx hb dX4_restore_148 hl (k := 0) rfl (by exact nI_1 _) (by decide) rfl (fun ls hl => ?_)
                      refine lv_goto (tgt := 122) hx hb dX4_restore_151 (by decide) ?_
                      exact ihj ls H locs ⟨lv_sub hl [0, 1, 2, 3, 4] rfl, hP, hD, hS⟩
                  · skip
                    clear hl hP hD hS
                    obtain ⟨hl, hP, hD, hS⟩ := hI
                    refine lv_iload hx hb dX4_restore_122 (lv_at hl 0 rfl) ?_
                    refine lv_bipush (v := nI 12) hx hb dX4_restore_124 (by decide) ?_
                    refine lv_icmp_ge (tgt := 154) hx hb dX4_restore_126 (by decide) (fun c_126 => ?_) (fun c_126 => ?_)
                    · skip
                      refine lv_iconst (v := nI 0) hx hb dX4_restore_154 (by decide) ?_
                      refine lv_istore (lv' := [(4, .int (nI 0)), (3, .int (nI k)), (0, .ref ((ad 0))), (1, .int (nI (k + 1))), (2, .int y)]) hx hb dX4_restore_155 hl (by decide) rfl (fun ls hl => ?_)
                      refine W.loop (N := 24) (I := fun j ls H locs => lv_has ls 5 [(4, .int (nI j)), (3, .int (nI k)), (0, .ref ((ad 0))), (1, .int (nI (k + 1))), (2, .int y)] ∧ va_P D vwCl (moW κ T S ad (nI 0) (rB kp bs (1792 * k) 1792) kp (rI ks sm (112 * k) 112) ks (rI ke se (12 * k) 12) (rI kq sp (24 * k) j) ke kq vo (nI d) wn wt wx wb (nI 0) tp tn ts) H ∧ va_D A (moW κ T S ad (nI 0) (rB kp bs (1792 * k) 1792) kp (rI ks sm (112 * k) 112) ks (rI ke se (12 * k) 12) (rI kq sp (24 * k) j) ke kq vo (nI d) wn wt wx wb (nI 0) tp tn ts) ∧ va_S A s.heap H locs) 0 (by omega) (fun j ls H locs hj hI ihj => ?_) (fun ls H locs hI => ?_) ⟨lv_sub hl [0, 1, 2, 3, 4] rfl, hP, hD, hS⟩
                      · skip
                        clear hl hP hD hS
                        obtain ⟨hl, hP, hD, hS⟩ := hI
                        refine lv_iload hx hb dX4_restore_157 (lv_at hl 0 rfl) ?_
                        refine lv_bipush (v := nI 24) hx hb dX4_restore_159 (by decide) ?_
                        refine lv_icmp_ge (tgt := 189) hx hb dX4_restore_161 (by decide) (fun c_161 => ?_) (fun c_161 => ?_)
                        · exact absurd c_161 (nI_ge hj (by omega))
                        · skip
                          refine lv_aload_n hx hb dX4_restore_164 rfl (lv_at hl 2 rfl) ?_
                          refine va_get (D := D) (ci := 5) (v := .ref ((ad 6))) (C := RX4) (T := TX4) (N := 21) hx hb hts (by decide +kernel) hown hK hP 0 rfl rfl 8 (by decide) (hts (.fieldLink RX4 26 "TrackDiskModel" "space" "[I") (by decide +kernel)) (fun _ h9 => h9) rfl dX4_restore_165 ?_
                          refine lv_iload hx hb dX4_restore_168 (lv_at hl 0 rfl) ?_
                          refine lv_aload_n hx hb dX4_restore_170 rfl (lv_at hl 2 rfl) ?_
                          refine va_get (D := D) (ci := 5) (v := .ref ((ad 8))) (C := RX4) (T := TX4) (N := 21) hx hb hts (by decide +kernel) hown hK hP 0 rfl rfl 10 (by decide) (hts (.fieldLink RX4 32 "TrackDiskModel" "keptSpace" "[I") (by decide +kernel)) (fun _ h9 => h9) rfl dX4_restore_171 ?_
                          refine lv_bipush (v := nI 24) hx hb dX4_restore_174 (by decide) ?_
                          refine lv_iload_n hx hb dX4_restore_176 rfl (lv_at hl 1 rfl) ?_
                          refine lv_imul hx hb dX4_restore_177 ?_
                          refine tp_i (y := nI (24 * k)) (by exact pk_mul _ _) ?_
                          refine lv_iload hx hb dX4_restore_178 (lv_at hl 0 rfl) ?_
                          refine lv_iadd hx hb dX4_restore_180 ?_
                          refine tp_i (y := nI ((24 * k) + j)) (by exact nI_add _ _) ?_
                          refine va_iald hx hb hK hP 8 0 rfl rfl (vp_in_nI (by omega) (by omega)) dX4_restore_181 ?_
                          refine tp_i (y := kq ((24 * k) + j)) (by rw [nI_clamp (by omega)]) ?_
                          refine va_iast hx hb hK hP hD hS 6 0 rfl rfl (vp_in_nI (by omega) (by omega)) dX4_restore_182 (fun H locs hP hD hS => ?_)
                          rw [nI_clamp (n := j) (by omega)] at hP hD
                          have hP : va_P D vwCl (moW κ T S ad (nI 0) (rB kp bs (1792 * k) 1792) kp (rI ks sm (112 * k) 112) ks (rI ke se (12 * k) 12) (upd (rI kq sp (24 * k) j) (j) (kq ((24 * k) + j))) ke kq vo (nI d) wn wt wx wb (nI 0) tp tn ts) H := hP
                          have hD : va_D A (moW κ T S ad (nI 0) (rB kp bs (1792 * k) 1792) kp (rI ks sm (112 * k) 112) ks (rI ke se (12 * k) 12) (upd (rI kq sp (24 * k) j) (j) (kq ((24 * k) + j))) ke kq vo (nI d) wn wt wx wb (nI 0) tp tn ts) := hD
                          refine lv_iinc (v := nI (j + 1)) (lv' := [(4, .int (nI (j + 1))), (3, .int (nI k)), (0, .ref ((ad 0))), (1, .int (nI (k + 1))), (2, .int y)]) hx hb dX4_restore_183 hl (k := 0) rfl (by exact nI_1 _) (by decide) rfl (fun ls hl => ?_)
                          refine lv_goto (tgt := 157) hx hb dX4_restore_186 (by decide) ?_
                          exact ihj ls H locs ⟨lv_sub hl [0, 1, 2, 3, 4] rfl, hP, hD, hS⟩
                      · skip
                        clear hl hP hD hS
                        obtain ⟨hl, hP, hD, hS⟩ := hI
                        refine lv_iload hx hb dX4_restore_157 (lv_at hl 0 rfl) ?_
                        refine lv_bipush (v := nI 24) hx hb dX4_restore_159 (by decide) ?_
                        refine lv_icmp_ge (tgt := 189) hx hb dX4_restore_161 (by decide) (fun c_161 => ?_) (fun c_161 => ?_)
                        · skip
                          refine lv_aload_n hx hb dX4_restore_189 rfl (lv_at hl 2 rfl) ?_
                          refine lv_iconst (v := nI 0) hx hb dX4_restore_190 (by decide) ?_
                          refine va_put (D := D) (ci := 5) (v := .int (nI 0)) (ty := .int) (C := RX4) (T := TX4) (N := 21) hx hb hts (by decide +kernel) tyX4 tyX4_ok nmX4 hown hK hP hD hS 0 rfl rfl 13 (by decide) (hts (.fieldLink RX4 77 "TrackDiskModel" "waiting" "I") (by decide +kernel)) (fun _ h9 => h9) rfl (by decide +kernel) rfl rfl (Nat.le_of_ble_eq_true rfl) dX4_restore_191 (fun H locs hP hD hS => ?_)
                          have hP : va_P D vwCl (moW κ T S ad (nI 0) (rB kp bs (1792 * k) 1792) kp (rI ks sm (112 * k) 112) ks (rI ke se (12 * k) 12) (rI kq sp (24 * k) 24) ke kq vo (nI d) (nI 0) wt wx wb (nI 0) tp tn ts) H := hP
                          have hD : va_D A (moW κ T S ad (nI 0) (rB kp bs (1792 * k) 1792) kp (rI ks sm (112 * k) 112) ks (rI ke se (12 * k) 12) (rI kq sp (24 * k) 24) ke kq vo (nI d) (nI 0) wt wx wb (nI 0) tp tn ts) := hD
                          refine lv_iconst (v := nI 1) hx hb dX4_restore_194 (by decide) ?_
                          have hP9 : va_P D vwCl (moW κ T S ad (nI 0) (rB kp bs (1792 * k) 1792) kp (rI ks sm (112 * k) 112) ks (rI ke se (12 * k) 12) (rI kq sp (24 * k) 24) ke kq vo (nI d) (nI 0) wt wx wb (nI 0) tp tn ts) H := hP
                          have hD9 : va_D A (moW κ T S ad (nI 0) (rB kp bs (1792 * k) 1792) kp (rI ks sm (112 * k) 112) ks (rI ke se (12 * k) 12) (rI kq sp (24 * k) 24) ke kq vo (nI d) (nI 0) wt wx wb (nI 0) tp tn ts) := hD
                          exact W.iret hx hb hr (fun t ht _ => ⟨⟨rfl, by rw [ht]; exact hP9, hD9⟩, hS.F ht⟩) hS.2.2 dX4_restore_195 hlocks
                        · exact absurd (nI_le (Nat.le_refl _) (by omega)) c_161
                    · exact absurd (nI_le (Nat.le_refl _) (by omega)) c_126
                · exact absurd (nI_le (Nat.le_refl _) (by omega)) c_91
            · exact absurd (nI_le (Nat.le_refl _) (by omega)) c_55
        · exact absurd hv c_42
      · exact absurd (by decide) c_25
    · exact absurd (nI_le (by omega) (by omega)) c_15

set_option maxHeartbeats 4000000 in
set_option maxRecDepth 100000 in
/-- tape: back -/
theorem m_tape_back (l : Launch) (D : va_G) (κ : Nat → ClassId) (sz : Nat) (T S : Nat) (ad : Nat → Nat) (co : Int32) (bs kp sm ks se sp ke kq vo : Nat → Int32) (nd wn : Int32) (wt wx wb : Nat → Int32) (dn : Int32) (tp : Nat → Int32) (tn ts : Int32) (x : Int32) (hneg : x < 0) : Met l yX4_tape wsX4_tape ({ frames := 0, cells := 0, slots := 0, locals := 0 }) (va_Pc [.ref ((ad 0)), .int x] (mu_B D κ (moW κ T S ad co bs kp sm ks se sp ke kq vo nd wn wt wx wb dn tp tn ts) sz)) (mu_Q D (some (.int (tn))) (moW κ T S ad (nI 0) bs kp sm ks se sp ke kq vo nd wn wt wx wb dn tp tn (nI 0)) (va_A (moW κ T S ad co bs kp sm ks se sp ke kq vo nd wn wt wx wb dn tp tn ts) sz)) 0 0 (va_A (moW κ T S ad co bs kp sm ks se sp ke kq vo nd wn wt wx wb dn tp tn ts) sz) := by
  refine Met.ofW (cc := cX4_tape) (maxL := 2) (ret := (some .int)) (by decide) rfl ?_
  intro p e s m args below meth c s₁ B hml hv
  obtain ⟨rfl, hsz, hP, hK, hD0⟩ := hv
  have hx := B.exec
  have hb := B.bytes
  have hr := B.returns
  have hts := atoms_spec (ws := wsX4_tape) B.pre
  have hown : s.vm.findClass RX4 = some m.cls := findClass_of_methodNamed B.named
  have hlocks := B.notSynchronized
  subst hsz
  have hD := hD0.self (sz := s.heap.size)
  generalize hAe : va_A (moW κ T S ad co bs kp sm ks se sp ke kq vo nd wn wt wx wb dn tp tn ts) s.heap.size = A at hD ⊢
  have hA : ∀ q : Nat, s.heap.size ≤ q → A q := fun q h => by rw [← hAe]; exact Or.inr h
  refine W.gen (P := fun H locs => va_P D vwCl (moW κ T S ad co bs kp sm ks se sp ke kq vo nd wn wt wx wb dn tp tn ts) H ∧ va_S A s.heap H locs) (fun H locs h => ?_) ⟨hP, va_S.rf⟩
  clear hP
  obtain ⟨hP, hS⟩ := h
  have hl := lv_entry ([.ref ((ad 0)), .int x]) (n := 2) (Nat.le_of_ble_eq_true rfl)
  rw [lg_entry_eq]
  generalize (lg_sl ([.ref ((ad 0)), .int x]) ++ List.replicate (2 - (lg_sl ([.ref ((ad 0)), .int x])).length) Slot.unset).toArray = ls at hl ⊢
  have hl : lv_has ls 2 [(0, .ref ((ad 0))), (1, .int x)] := hl
  refine lv_aload_n hx hb dX4_tape_0 rfl (lv_at hl 0 rfl) ?_
  refine lv_iconst (v := nI 0) hx hb dX4_tape_1 (by decide) ?_
  refine va_put (D := D) (ci := 5) (v := .int (nI 0)) (ty := .int) (C := RX4) (T := TX4) (N := 21) hx hb hts (by decide +kernel) tyX4 tyX4_ok nmX4 hown hK hP hD hS 0 rfl rfl 0 (by decide) (hts (.fieldLink RX4 61 "TrackDiskModel" "code" "I") (by decide +kernel)) (fun _ h9 => h9) rfl (by decide +kernel) rfl rfl (Nat.le_of_ble_eq_true rfl) dX4_tape_2 (fun H locs hP hD hS => ?_)
  have hP : va_P D vwCl (moW κ T S ad (nI 0) bs kp sm ks se sp ke kq vo nd wn wt wx wb dn tp tn ts) H := hP
  have hD : va_D A (moW κ T S ad (nI 0) bs kp sm ks se sp ke kq vo nd wn wt wx wb dn tp tn ts) := hD
  refine lv_iload_n hx hb dX4_tape_5 rfl (lv_at hl 1 rfl) ?_
  refine lv_if_ge (tgt := 17) hx hb dX4_tape_6 (by decide) (fun c_6 => ?_) (fun c_6 => ?_)
  · exact absurd c_6 (Int32.not_le.mpr hneg)
  · skip
    refine lv_aload_n hx hb dX4_tape_9 rfl (lv_at hl 0 rfl) ?_
    refine lv_iconst (v := nI 0) hx hb dX4_tape_10 (by decide) ?_
    refine va_put (D := D) (ci := 5) (v := .int (nI 0)) (ty := .int) (C := RX4) (T := TX4) (N := 21) hx hb hts (by decide +kernel) tyX4 tyX4_ok nmX4 hown hK hP hD hS 0 rfl rfl 20 (by decide) (hts (.fieldLink RX4 104 "TrackDiskModel" "stands" "I") (by decide +kernel)) (fun _ h9 => h9) rfl (by decide +kernel) rfl rfl (Nat.le_of_ble_eq_true rfl) dX4_tape_11 (fun H locs hP hD hS => ?_)
    have hP : va_P D vwCl (moW κ T S ad (nI 0) bs kp sm ks se sp ke kq vo nd wn wt wx wb dn tp tn (nI 0)) H := hP
    have hD : va_D A (moW κ T S ad (nI 0) bs kp sm ks se sp ke kq vo nd wn wt wx wb dn tp tn (nI 0)) := hD
    refine lv_goto (tgt := 54) hx hb dX4_tape_14 (by decide) ?_
    refine lv_aload_n hx hb dX4_tape_54 rfl (lv_at hl 0 rfl) ?_
    refine va_get (D := D) (ci := 5) (v := .int tn) (C := RX4) (T := TX4) (N := 21) hx hb hts (by decide +kernel) hown hK hP 0 rfl rfl 19 (by decide) (hts (.fieldLink RX4 107 "TrackDiskModel" "rows" "I") (by decide +kernel)) (fun _ h9 => h9) rfl dX4_tape_55 ?_
    have hP9 : va_P D vwCl (moW κ T S ad (nI 0) bs kp sm ks se sp ke kq vo nd wn wt wx wb dn tp tn (nI 0)) H := hP
    have hD9 : va_D A (moW κ T S ad (nI 0) bs kp sm ks se sp ke kq vo nd wn wt wx wb dn tp tn (nI 0)) := hD
    exact W.iret hx hb hr (fun t ht _ => ⟨⟨rfl, by rw [ht]; exact hP9, hD9⟩, hS.F ht⟩) hS.2.2 dX4_tape_58 hlocks

set_option maxHeartbeats 4000000 in
set_option maxRecDepth 100000 in
/-- tape -/
theorem m_tape (l : Launch) (D : va_G) (κ : Nat → ClassId) (sz : Nat) (T S : Nat) (ad : Nat → Nat) (co : Int32) (bs kp sm ks se sp ke kq vo : Nat → Int32) (nd wn : Int32) (wt wx wb : Nat → Int32) (dn : Int32) (tp : Nat → Int32) (tn : Int32)  (x : Int32) (hneg : ¬ x < 0) (a : Nat) (ha : a < 100) : Met l yX4_tape wsX4_tape ({ frames := 0, cells := 0, slots := 0, locals := 0 }) (va_Pc [.ref ((ad 0)), .int x] (mu_B D κ (moW κ T S ad co bs kp sm ks se sp ke kq vo nd wn wt wx wb dn tp tn (nI a)) sz)) (mu_Q D (some (.int (nI (a + 1)))) (moW κ T S ad (nI 0) bs kp sm ks se sp ke kq vo nd wn wt wx wb dn (upd tp a x) (nI (a + 1)) (nI (a + 1))) (va_A (moW κ T S ad co bs kp sm ks se sp ke kq vo nd wn wt wx wb dn tp tn (nI a)) sz)) 0 0 (va_A (moW κ T S ad co bs kp sm ks se sp ke kq vo nd wn wt wx wb dn tp tn (nI a)) sz) := by
  refine Met.ofW (cc := cX4_tape) (maxL := 2) (ret := (some .int)) (by decide) rfl ?_
  intro p e s m args below meth c s₁ B hml hv
  obtain ⟨rfl, hsz, hP, hK, hD0⟩ := hv
  have hx := B.exec
  have hb := B.bytes
  have hr := B.returns
  have hts := atoms_spec (ws := wsX4_tape) B.pre
  have hown : s.vm.findClass RX4 = some m.cls := findClass_of_methodNamed B.named
  have hlocks := B.notSynchronized
  subst hsz
  have hD := hD0.self (sz := s.heap.size)
  generalize hAe : va_A (moW κ T S ad co bs kp sm ks se sp ke kq vo nd wn wt wx wb dn tp tn (nI a)) s.heap.size = A at hD ⊢
  have hA : ∀ q : Nat, s.heap.size ≤ q → A q := fun q h => by rw [← hAe]; exact Or.inr h
  refine W.gen (P := fun H locs => va_P D vwCl (moW κ T S ad co bs kp sm ks se sp ke kq vo nd wn wt wx wb dn tp tn (nI a)) H ∧ va_S A s.heap H locs) (fun H locs h => ?_) ⟨hP, va_S.rf⟩
  clear hP
  obtain ⟨hP, hS⟩ := h
  have hl := lv_entry ([.ref ((ad 0)), .int x]) (n := 2) (Nat.le_of_ble_eq_true rfl)
  rw [lg_entry_eq]
  generalize (lg_sl ([.ref ((ad 0)), .int x]) ++ List.replicate (2 - (lg_sl ([.ref ((ad 0)), .int x])).length) Slot.unset).toArray = ls at hl ⊢
  have hl : lv_has ls 2 [(0, .ref ((ad 0))), (1, .int x)] := hl
  refine lv_aload_n hx hb dX4_tape_0 rfl (lv_at hl 0 rfl) ?_
  refine lv_iconst (v := nI 0) hx hb dX4_tape_1 (by decide) ?_
  refine va_put (D := D) (ci := 5) (v := .int (nI 0)) (ty := .int) (C := RX4) (T := TX4) (N := 21) hx hb hts (by decide +kernel) tyX4 tyX4_ok nmX4 hown hK hP hD hS 0 rfl rfl 0 (by decide) (hts (.fieldLink RX4 61 "TrackDiskModel" "code" "I") (by decide +kernel)) (fun _ h9 => h9) rfl (by decide +kernel) rfl rfl (Nat.le_of_ble_eq_true rfl) dX4_tape_2 (fun H locs hP hD hS => ?_)
  have hP : va_P D vwCl (moW κ T S ad (nI 0) bs kp sm ks se sp ke kq vo nd wn wt wx wb dn tp tn (nI a)) H := hP
  have hD : va_D A (moW κ T S ad (nI 0) bs kp sm ks se sp ke kq vo nd wn wt wx wb dn tp tn (nI a)) := hD
  refine lv_iload_n hx hb dX4_tape_5 rfl (lv_at hl 1 rfl) ?_
  refine lv_if_ge (tgt := 17) hx hb dX4_tape_6 (by decide) (fun c_6 => ?_) (fun c_6 => ?_)
  · skip
    refine lv_aload_n hx hb dX4_tape_17 rfl (lv_at hl 0 rfl) ?_
    refine va_get (D := D) (ci := 5) (v := .int (nI a)) (C := RX4) (T := TX4) (N := 21) hx hb hts (by decide +kernel) hown hK hP 0 rfl rfl 20 (by decide) (hts (.fieldLink RX4 104 "TrackDiskModel" "stands" "I") (by decide +kernel)) (fun _ h9 => h9) rfl dX4_tape_18 ?_
    refine lv_bipush (v := nI 100) hx hb dX4_tape_21 (by decide) ?_
    refine lv_icmp_ge (tgt := 54) hx hb dX4_tape_23 (by decide) (fun c_23 => ?_) (fun c_23 => ?_)
    · exact absurd c_23 (nI_ge ha (by omega))
    · skip
      refine lv_aload_n hx hb dX4_tape_26 rfl (lv_at hl 0 rfl) ?_
      refine va_get (D := D) (ci := 5) (v := .ref ((ad 13))) (C := RX4) (T := TX4) (N := 21) hx hb hts (by decide +kernel) hown hK hP 0 rfl rfl 18 (by decide) (hts (.fieldLink RX4 47 "TrackDiskModel" "tape" "[I") (by decide +kernel)) (fun _ h9 => h9) rfl dX4_tape_27 ?_
      refine lv_aload_n hx hb dX4_tape_30 rfl (lv_at hl 0 rfl) ?_
      refine va_get (D := D) (ci := 5) (v := .int (nI a)) (C := RX4) (T := TX4) (N := 21) hx hb hts (by decide +kernel) hown hK hP 0 rfl rfl 20 (by decide) (hts (.fieldLink RX4 104 "TrackDiskModel" "stands" "I") (by decide +kernel)) (fun _ h9 => h9) rfl dX4_tape_31 ?_
      refine lv_iload_n hx hb dX4_tape_34 rfl (lv_at hl 1 rfl) ?_
      refine va_iast hx hb hK hP hD hS 13 0 rfl rfl (vp_in_nI (by omega) (by omega)) dX4_tape_35 (fun H locs hP hD hS => ?_)
      rw [nI_clamp (n := a) (by omega)] at hP hD
      have hP : va_P D vwCl (moW κ T S ad (nI 0) bs kp sm ks se sp ke kq vo nd wn wt wx wb dn (upd (tp) (a) (x)) tn (nI a)) H := hP
      have hD : va_D A (moW κ T S ad (nI 0) bs kp sm ks se sp ke kq vo nd wn wt wx wb dn (upd (tp) (a) (x)) tn (nI a)) := hD
      refine lv_aload_n hx hb dX4_tape_36 rfl (lv_at hl 0 rfl) ?_
      refine lv_dup hx hb dX4_tape_37 rfl ?_
      refine va_get (D := D) (ci := 5) (v := .int (nI a)) (C := RX4) (T := TX4) (N := 21) hx hb hts (by decide +kernel) hown hK hP 0 rfl rfl 20 (by decide) (hts (.fieldLink RX4 104 "TrackDiskModel" "stands" "I") (by decide +kernel)) (fun _ h9 => h9) rfl dX4_tape_38 ?_
      refine lv_iconst (v := nI 1) hx hb dX4_tape_41 (by decide) ?_
      refine lv_iadd hx hb dX4_tape_42 ?_
      refine tp_i (y := nI (a + 1)) (by exact nI_add _ _) ?_
      refine va_put (D := D) (ci := 5) (v := .int (nI (a + 1))) (ty := .int) (C := RX4) (T := TX4) (N := 21) hx hb hts (by decide +kernel) tyX4 tyX4_ok nmX4 hown hK hP hD hS 0 rfl rfl 20 (by decide) (hts (.fieldLink RX4 104 "TrackDiskModel" "stands" "I") (by decide +kernel)) (fun _ h9 => h9) rfl (by decide +kernel) rfl rfl (Nat.le_of_ble_eq_true rfl) dX4_tape_43 (fun H locs hP hD hS => ?_)
      have hP : va_P D vwCl (moW κ T S ad (nI 0) bs kp sm ks se sp ke kq vo nd wn wt wx wb dn (upd (tp) (a) (x)) tn (nI (a + 1))) H := hP
      have hD : va_D A (moW κ T S ad (nI 0) bs kp sm ks se sp ke kq vo nd wn wt wx wb dn (upd (tp) (a) (x)) tn (nI (a + 1))) := hD
      refine lv_aload_n hx hb dX4_tape_46 rfl (lv_at hl 0 rfl) ?_
      refine lv_aload_n hx hb dX4_tape_47 rfl (lv_at hl 0 rfl) ?_
      refine va_get (D := D) (ci := 5) (v := .int (nI (a + 1))) (C := RX4) (T := TX4) (N := 21) hx hb hts (by decide +kernel) hown hK hP 0 rfl rfl 20 (by decide) (hts (.fieldLink RX4 104 "TrackDiskModel" "stands" "I") (by decide +kernel)) (fun _ h9 => h9) rfl dX4_tape_48 ?_
      refine va_put (D := D) (ci := 5) (v := .int (nI (a + 1))) (ty := .int) (C := RX4) (T := TX4) (N := 21) hx hb hts (by decide +kernel) tyX4 tyX4_ok nmX4 hown hK hP hD hS 0 rfl rfl 19 (by decide) (hts (.fieldLink RX4 107 "TrackDiskModel" "rows" "I") (by decide +kernel)) (fun _ h9 => h9) rfl (by decide +kernel) rfl rfl (Nat.le_of_ble_eq_true rfl) dX4_tape_51 (fun H locs hP hD hS => ?_)
      have hP : va_P D vwCl (moW κ T S ad (nI 0) bs kp sm ks se sp ke kq vo nd wn wt wx wb dn (upd (tp) (a) (x)) (nI (a + 1)) (nI (a + 1))) H := hP
      have hD : va_D A (moW κ T S ad (nI 0) bs kp sm ks se sp ke kq vo nd wn wt wx wb dn (upd (tp) (a) (x)) (nI (a + 1)) (nI (a + 1))) := hD
      refine lv_aload_n hx hb dX4_tape_54 rfl (lv_at hl 0 rfl) ?_
      refine va_get (D := D) (ci := 5) (v := .int (nI (a + 1))) (C := RX4) (T := TX4) (N := 21) hx hb hts (by decide +kernel) hown hK hP 0 rfl rfl 19 (by decide) (hts (.fieldLink RX4 107 "TrackDiskModel" "rows" "I") (by decide +kernel)) (fun _ h9 => h9) rfl dX4_tape_55 ?_
      have hP9 : va_P D vwCl (moW κ T S ad (nI 0) bs kp sm ks se sp ke kq vo nd wn wt wx wb dn (upd tp a x) (nI (a + 1)) (nI (a + 1))) H := hP
      have hD9 : va_D A (moW κ T S ad (nI 0) bs kp sm ks se sp ke kq vo nd wn wt wx wb dn (upd tp a x) (nI (a + 1)) (nI (a + 1))) := hD
      exact W.iret hx hb hr (fun t ht _ => ⟨⟨rfl, by rw [ht]; exact hP9, hD9⟩, hS.F ht⟩) hS.2.2 dX4_tape_58 hlocks
  · exact absurd (Int32.not_lt.mp hneg) c_6

set_option maxHeartbeats 4000000 in
set_option maxRecDepth 100000 in
/-- tape: full -/
theorem m_tape_full (l : Launch) (D : va_G) (κ : Nat → ClassId) (sz : Nat) (T S : Nat) (ad : Nat → Nat) (co : Int32) (bs kp sm ks se sp ke kq vo : Nat → Int32) (nd wn : Int32) (wt wx wb : Nat → Int32) (dn : Int32) (tp : Nat → Int32) (tn ts : Int32) (x : Int32) (hneg : ¬ x < 0) (ha : nI 100 ≤ ts) : Met l yX4_tape wsX4_tape ({ frames := 0, cells := 0, slots := 0, locals := 0 }) (va_Pc [.ref ((ad 0)), .int x] (mu_B D κ (moW κ T S ad co bs kp sm ks se sp ke kq vo nd wn wt wx wb dn tp tn ts) sz)) (mu_Q D (some (.int (tn))) (moW κ T S ad (nI 0) bs kp sm ks se sp ke kq vo nd wn wt wx wb dn tp tn ts) (va_A (moW κ T S ad co bs kp sm ks se sp ke kq vo nd wn wt wx wb dn tp tn ts) sz)) 0 0 (va_A (moW κ T S ad co bs kp sm ks se sp ke kq vo nd wn wt wx wb dn tp tn ts) sz) := by
  refine Met.ofW (cc := cX4_tape) (maxL := 2) (ret := (some .int)) (by decide) rfl ?_
  intro p e s m args below meth c s₁ B hml hv
  obtain ⟨rfl, hsz, hP, hK, hD0⟩ := hv
  have hx := B.exec
  have hb := B.bytes
  have hr := B.returns
  have hts := atoms_spec (ws := wsX4_tape) B.pre
  have hown : s.vm.findClass RX4 = some m.cls := findClass_of_methodNamed B.named
  have hlocks := B.notSynchronized
  subst hsz
  have hD := hD0.self (sz := s.heap.size)
  generalize hAe : va_A (moW κ T S ad co bs kp sm ks se sp ke kq vo nd wn wt wx wb dn tp tn ts) s.heap.size = A at hD ⊢
  have hA : ∀ q : Nat, s.heap.size ≤ q → A q := fun q h => by rw [← hAe]; exact Or.inr h
  refine W.gen (P := fun H locs => va_P D vwCl (moW κ T S ad co bs kp sm ks se sp ke kq vo nd wn wt wx wb dn tp tn ts) H ∧ va_S A s.heap H locs) (fun H locs h => ?_) ⟨hP, va_S.rf⟩
  clear hP
  obtain ⟨hP, hS⟩ := h
  have hl := lv_entry ([.ref ((ad 0)), .int x]) (n := 2) (Nat.le_of_ble_eq_true rfl)
  rw [lg_entry_eq]
  generalize (lg_sl ([.ref ((ad 0)), .int x]) ++ List.replicate (2 - (lg_sl ([.ref ((ad 0)), .int x])).length) Slot.unset).toArray = ls at hl ⊢
  have hl : lv_has ls 2 [(0, .ref ((ad 0))), (1, .int x)] := hl
  refine lv_aload_n hx hb dX4_tape_0 rfl (lv_at hl 0 rfl) ?_
  refine lv_iconst (v := nI 0) hx hb dX4_tape_1 (by decide) ?_
  refine va_put (D := D) (ci := 5) (v := .int (nI 0)) (ty := .int) (C := RX4) (T := TX4) (N := 21) hx hb hts (by decide +kernel) tyX4 tyX4_ok nmX4 hown hK hP hD hS 0 rfl rfl 0 (by decide) (hts (.fieldLink RX4 61 "TrackDiskModel" "code" "I") (by decide +kernel)) (fun _ h9 => h9) rfl (by decide +kernel) rfl rfl (Nat.le_of_ble_eq_true rfl) dX4_tape_2 (fun H locs hP hD hS => ?_)
  have hP : va_P D vwCl (moW κ T S ad (nI 0) bs kp sm ks se sp ke kq vo nd wn wt wx wb dn tp tn ts) H := hP
  have hD : va_D A (moW κ T S ad (nI 0) bs kp sm ks se sp ke kq vo nd wn wt wx wb dn tp tn ts) := hD
  refine lv_iload_n hx hb dX4_tape_5 rfl (lv_at hl 1 rfl) ?_
  refine lv_if_ge (tgt := 17) hx hb dX4_tape_6 (by decide) (fun c_6 => ?_) (fun c_6 => ?_)
  · skip
    refine lv_aload_n hx hb dX4_tape_17 rfl (lv_at hl 0 rfl) ?_
    refine va_get (D := D) (ci := 5) (v := .int ts) (C := RX4) (T := TX4) (N := 21) hx hb hts (by decide +kernel) hown hK hP 0 rfl rfl 20 (by decide) (hts (.fieldLink RX4 104 "TrackDiskModel" "stands" "I") (by decide +kernel)) (fun _ h9 => h9) rfl dX4_tape_18 ?_
    refine lv_bipush (v := nI 100) hx hb dX4_tape_21 (by decide) ?_
    refine lv_icmp_ge (tgt := 54) hx hb dX4_tape_23 (by decide) (fun c_23 => ?_) (fun c_23 => ?_)
    · skip
      refine lv_aload_n hx hb dX4_tape_54 rfl (lv_at hl 0 rfl) ?_
      refine va_get (D := D) (ci := 5) (v := .int tn) (C := RX4) (T := TX4) (N := 21) hx hb hts (by decide +kernel) hown hK hP 0 rfl rfl 19 (by decide) (hts (.fieldLink RX4 107 "TrackDiskModel" "rows" "I") (by decide +kernel)) (fun _ h9 => h9) rfl dX4_tape_55 ?_
      have hP9 : va_P D vwCl (moW κ T S ad (nI 0) bs kp sm ks se sp ke kq vo nd wn wt wx wb dn tp tn ts) H := hP
      have hD9 : va_D A (moW κ T S ad (nI 0) bs kp sm ks se sp ke kq vo nd wn wt wx wb dn tp tn ts) := hD
      exact W.iret hx hb hr (fun t ht _ => ⟨⟨rfl, by rw [ht]; exact hP9, hD9⟩, hS.F ht⟩) hS.2.2 dX4_tape_58 hlocks
    · exact absurd ha c_23
  · exact absurd (Int32.not_lt.mp hneg) c_6

set_option maxHeartbeats 4000000 in
set_option maxRecDepth 100000 in
/-- next -/
theorem m_next (l : Launch) (D : va_G) (κ : Nat → ClassId) (sz : Nat) (T S : Nat) (ad : Nat → Nat) (co : Int32) (bs kp sm ks se sp ke kq vo : Nat → Int32) (nd wn : Int32) (wt wx wb : Nat → Int32) (dn : Int32) (tp : Nat → Int32)  (n a : Nat) (ha : a < n) (hn : n ≤ 100) : Met l yX4_next wsX4_next ({ frames := 0, cells := 0, slots := 0, locals := 0 }) (va_Pc [.ref ((ad 0))] (mu_B D κ (moW κ T S ad co bs kp sm ks se sp ke kq vo nd wn wt wx wb dn tp (nI n) (nI a)) sz)) (mu_Q D (some (.int (tp a))) (moW κ T S ad (nI 0) bs kp sm ks se sp ke kq vo nd wn wt wx wb dn tp (nI n) (nI (a + 1))) (va_A (moW κ T S ad co bs kp sm ks se sp ke kq vo nd wn wt wx wb dn tp (nI n) (nI a)) sz)) 0 0 (va_A (moW κ T S ad co bs kp sm ks se sp ke kq vo nd wn wt wx wb dn tp (nI n) (nI a)) sz) := by
  refine Met.ofW (cc := cX4_next) (maxL := 1) (ret := (some .int)) (by decide) rfl ?_
  intro p e s m args below meth c s₁ B hml hv
  obtain ⟨rfl, hsz, hP, hK, hD0⟩ := hv
  have hx := B.exec
  have hb := B.bytes
  have hr := B.returns
  have hts := atoms_spec (ws := wsX4_next) B.pre
  have hown : s.vm.findClass RX4 = some m.cls := findClass_of_methodNamed B.named
  have hlocks := B.notSynchronized
  subst hsz
  have hD := hD0.self (sz := s.heap.size)
  generalize hAe : va_A (moW κ T S ad co bs kp sm ks se sp ke kq vo nd wn wt wx wb dn tp (nI n) (nI a)) s.heap.size = A at hD ⊢
  have hA : ∀ q : Nat, s.heap.size ≤ q → A q := fun q h => by rw [← hAe]; exact Or.inr h
  refine W.gen (P := fun H locs => va_P D vwCl (moW κ T S ad co bs kp sm ks se sp ke kq vo nd wn wt wx wb dn tp (nI n) (nI a)) H ∧ va_S A s.heap H locs) (fun H locs h => ?_) ⟨hP, va_S.rf⟩
  clear hP
  obtain ⟨hP, hS⟩ := h
  have hl := lv_entry ([.ref ((ad 0))]) (n := 1) (Nat.le_of_ble_eq_true rfl)
  rw [lg_entry_eq]
  generalize (lg_sl ([.ref ((ad 0))]) ++ List.replicate (1 - (lg_sl ([.ref ((ad 0))])).length) Slot.unset).toArray = ls at hl ⊢
  have hl : lv_has ls 1 [(0, .ref ((ad 0)))] := hl
  refine lv_aload_n hx hb dX4_next_0 rfl (lv_at hl 0 rfl) ?_
  refine lv_iconst (v := nI 0) hx hb dX4_next_1 (by decide) ?_
  refine va_put (D := D) (ci := 5) (v := .int (nI 0)) (ty := .int) (C := RX4) (T := TX4) (N := 21) hx hb hts (by decide +kernel) tyX4 tyX4_ok nmX4 hown hK hP hD hS 0 rfl rfl 0 (by decide) (hts (.fieldLink RX4 61 "TrackDiskModel" "code" "I") (by decide +kernel)) (fun _ h9 => h9) rfl (by decide +kernel) rfl rfl (Nat.le_of_ble_eq_true rfl) dX4_next_2 (fun H locs hP hD hS => ?_)
  have hP : va_P D vwCl (moW κ T S ad (nI 0) bs kp sm ks se sp ke kq vo nd wn wt wx wb dn tp (nI n) (nI a)) H := hP
  have hD : va_D A (moW κ T S ad (nI 0) bs kp sm ks se sp ke kq vo nd wn wt wx wb dn tp (nI n) (nI a)) := hD
  refine lv_aload_n hx hb dX4_next_5 rfl (lv_at hl 0 rfl) ?_
  refine va_get (D := D) (ci := 5) (v := .int (nI a)) (C := RX4) (T := TX4) (N := 21) hx hb hts (by decide +kernel) hown hK hP 0 rfl rfl 20 (by decide) (hts (.fieldLink RX4 104 "TrackDiskModel" "stands" "I") (by decide +kernel)) (fun _ h9 => h9) rfl dX4_next_6 ?_
  refine lv_aload_n hx hb dX4_next_9 rfl (lv_at hl 0 rfl) ?_
  refine va_get (D := D) (ci := 5) (v := .int (nI n)) (C := RX4) (T := TX4) (N := 21) hx hb hts (by decide +kernel) hown hK hP 0 rfl rfl 19 (by decide) (hts (.fieldLink RX4 107 "TrackDiskModel" "rows" "I") (by decide +kernel)) (fun _ h9 => h9) rfl dX4_next_10 ?_
  refine lv_icmp_ne (tgt := 18) hx hb dX4_next_13 (by decide) (fun c_13 => ?_) (fun c_13 => ?_)
  · skip
    refine lv_aload_n hx hb dX4_next_18 rfl (lv_at hl 0 rfl) ?_
    refine lv_dup hx hb dX4_next_19 rfl ?_
    refine va_get (D := D) (ci := 5) (v := .int (nI a)) (C := RX4) (T := TX4) (N := 21) hx hb hts (by decide +kernel) hown hK hP 0 rfl rfl 20 (by decide) (hts (.fieldLink RX4 104 "TrackDiskModel" "stands" "I") (by decide +kernel)) (fun _ h9 => h9) rfl dX4_next_20 ?_
    refine lv_iconst (v := nI 1) hx hb dX4_next_23 (by decide) ?_
    refine lv_iadd hx hb dX4_next_24 ?_
    refine tp_i (y := nI (a + 1)) (by exact nI_add _ _) ?_
    refine va_put (D := D) (ci := 5) (v := .int (nI (a + 1))) (ty := .int) (C := RX4) (T := TX4) (N := 21) hx hb hts (by decide +kernel) tyX4 tyX4_ok nmX4 hown hK hP hD hS 0 rfl rfl 20 (by decide) (hts (.fieldLink RX4 104 "TrackDiskModel" "stands" "I") (by decide +kernel)) (fun _ h9 => h9) rfl (by decide +kernel) rfl rfl (Nat.le_of_ble_eq_true rfl) dX4_next_25 (fun H locs hP hD hS => ?_)
    have hP : va_P D vwCl (moW κ T S ad (nI 0) bs kp sm ks se sp ke kq vo nd wn wt wx wb dn tp (nI n) (nI (a + 1))) H := hP
    have hD : va_D A (moW κ T S ad (nI 0) bs kp sm ks se sp ke kq vo nd wn wt wx wb dn tp (nI n) (nI (a + 1))) := hD
    refine lv_aload_n hx hb dX4_next_28 rfl (lv_at hl 0 rfl) ?_
    refine va_get (D := D) (ci := 5) (v := .ref ((ad 13))) (C := RX4) (T := TX4) (N := 21) hx hb hts (by decide +kernel) hown hK hP 0 rfl rfl 18 (by decide) (hts (.fieldLink RX4 47 "TrackDiskModel" "tape" "[I") (by decide +kernel)) (fun _ h9 => h9) rfl dX4_next_29 ?_
    refine lv_aload_n hx hb dX4_next_32 rfl (lv_at hl 0 rfl) ?_
    refine va_get (D := D) (ci := 5) (v := .int (nI (a + 1))) (C := RX4) (T := TX4) (N := 21) hx hb hts (by decide +kernel) hown hK hP 0 rfl rfl 20 (by decide) (hts (.fieldLink RX4 104 "TrackDiskModel" "stands" "I") (by decide +kernel)) (fun _ h9 => h9) rfl dX4_next_33 ?_
    refine lv_iconst (v := nI 1) hx hb dX4_next_36 (by decide) ?_
    refine lv_isub hx hb dX4_next_37 ?_
    refine tp_i (y := nI a) (by rw [pk_sub (by omega)]; rfl) ?_
    refine va_iald hx hb hK hP 13 0 rfl rfl (vp_in_nI (by omega) (by omega)) dX4_next_38 ?_
    refine tp_i (y := tp a) (by rw [nI_clamp (by omega)]) ?_
    have hP9 : va_P D vwCl (moW κ T S ad (nI 0) bs kp sm ks se sp ke kq vo nd wn wt wx wb dn tp (nI n) (nI (a + 1))) H := hP
    have hD9 : va_D A (moW κ T S ad (nI 0) bs kp sm ks se sp ke kq vo nd wn wt wx wb dn tp (nI n) (nI (a + 1))) := hD
    exact W.iret hx hb hr (fun t ht _ => ⟨⟨rfl, by rw [ht]; exact hP9, hD9⟩, hS.F ht⟩) hS.2.2 dX4_next_39 hlocks
  · exact absurd ((nI_eq (by omega) (by omega)).mp c_13) (by omega)

set_option maxHeartbeats 4000000 in
set_option maxRecDepth 100000 in
/-- next: end -/
theorem m_next_end (l : Launch) (D : va_G) (κ : Nat → ClassId) (sz : Nat) (T S : Nat) (ad : Nat → Nat) (co : Int32) (bs kp sm ks se sp ke kq vo : Nat → Int32) (nd wn : Int32) (wt wx wb : Nat → Int32) (dn : Int32) (tp : Nat → Int32) (tn : Int32)   : Met l yX4_next wsX4_next ({ frames := 0, cells := 0, slots := 0, locals := 0 }) (va_Pc [.ref ((ad 0))] (mu_B D κ (moW κ T S ad co bs kp sm ks se sp ke kq vo nd wn wt wx wb dn tp tn tn) sz)) (mu_Q D (some (.int ((-1)))) (moW κ T S ad (nI 0) bs kp sm ks se sp ke kq vo nd wn wt wx wb dn tp tn tn) (va_A (moW κ T S ad co bs kp sm ks se sp ke kq vo nd wn wt wx wb dn tp tn tn) sz)) 0 0 (va_A (moW κ T S ad co bs kp sm ks se sp ke kq vo nd wn wt wx wb dn tp tn tn) sz) := by
  refine Met.ofW (cc := cX4_next) (maxL := 1) (ret := (some .int)) (by decide) rfl ?_
  intro p e s m args below meth c s₁ B hml hv
  obtain ⟨rfl, hsz, hP, hK, hD0⟩ := hv
  have hx := B.exec
  have hb := B.bytes
  have hr := B.returns
  have hts := atoms_spec (ws := wsX4_next) B.pre
  have hown : s.vm.findClass RX4 = some m.cls := findClass_of_methodNamed B.named
  have hlocks := B.notSynchronized
  subst hsz
  have hD := hD0.self (sz := s.heap.size)
  generalize hAe : va_A (moW κ T S ad co bs kp sm ks se sp ke kq vo nd wn wt wx wb dn tp tn tn) s.heap.size = A at hD ⊢
  have hA : ∀ q : Nat, s.heap.size ≤ q → A q := fun q h => by rw [← hAe]; exact Or.inr h
  refine W.gen (P := fun H locs => va_P D vwCl (moW κ T S ad co bs kp sm ks se sp ke kq vo nd wn wt wx wb dn tp tn tn) H ∧ va_S A s.heap H locs) (fun H locs h => ?_) ⟨hP, va_S.rf⟩
  clear hP
  obtain ⟨hP, hS⟩ := h
  have hl := lv_entry ([.ref ((ad 0))]) (n := 1) (Nat.le_of_ble_eq_true rfl)
  rw [lg_entry_eq]
  generalize (lg_sl ([.ref ((ad 0))]) ++ List.replicate (1 - (lg_sl ([.ref ((ad 0))])).length) Slot.unset).toArray = ls at hl ⊢
  have hl : lv_has ls 1 [(0, .ref ((ad 0)))] := hl
  refine lv_aload_n hx hb dX4_next_0 rfl (lv_at hl 0 rfl) ?_
  refine lv_iconst (v := nI 0) hx hb dX4_next_1 (by decide) ?_
  refine va_put (D := D) (ci := 5) (v := .int (nI 0)) (ty := .int) (C := RX4) (T := TX4) (N := 21) hx hb hts (by decide +kernel) tyX4 tyX4_ok nmX4 hown hK hP hD hS 0 rfl rfl 0 (by decide) (hts (.fieldLink RX4 61 "TrackDiskModel" "code" "I") (by decide +kernel)) (fun _ h9 => h9) rfl (by decide +kernel) rfl rfl (Nat.le_of_ble_eq_true rfl) dX4_next_2 (fun H locs hP hD hS => ?_)
  have hP : va_P D vwCl (moW κ T S ad (nI 0) bs kp sm ks se sp ke kq vo nd wn wt wx wb dn tp tn tn) H := hP
  have hD : va_D A (moW κ T S ad (nI 0) bs kp sm ks se sp ke kq vo nd wn wt wx wb dn tp tn tn) := hD
  refine lv_aload_n hx hb dX4_next_5 rfl (lv_at hl 0 rfl) ?_
  refine va_get (D := D) (ci := 5) (v := .int tn) (C := RX4) (T := TX4) (N := 21) hx hb hts (by decide +kernel) hown hK hP 0 rfl rfl 20 (by decide) (hts (.fieldLink RX4 104 "TrackDiskModel" "stands" "I") (by decide +kernel)) (fun _ h9 => h9) rfl dX4_next_6 ?_
  refine lv_aload_n hx hb dX4_next_9 rfl (lv_at hl 0 rfl) ?_
  refine va_get (D := D) (ci := 5) (v := .int tn) (C := RX4) (T := TX4) (N := 21) hx hb hts (by decide +kernel) hown hK hP 0 rfl rfl 19 (by decide) (hts (.fieldLink RX4 107 "TrackDiskModel" "rows" "I") (by decide +kernel)) (fun _ h9 => h9) rfl dX4_next_10 ?_
  refine lv_icmp_ne (tgt := 18) hx hb dX4_next_13 (by decide) (fun c_13 => ?_) (fun c_13 => ?_)
  · exact absurd rfl c_13
  · skip
    refine lv_iconst (v := (-1)) hx hb dX4_next_16 (by decide) ?_
    have hP9 : va_P D vwCl (moW κ T S ad (nI 0) bs kp sm ks se sp ke kq vo nd wn wt wx wb dn tp tn tn) H := hP
    have hD9 : va_D A (moW κ T S ad (nI 0) bs kp sm ks se sp ke kq vo nd wn wt wx wb dn tp tn tn) := hD
    exact W.iret hx hb hr (fun t ht _ => ⟨⟨rfl, by rw [ht]; exact hP9, hD9⟩, hS.F ht⟩) hS.2.2 dX4_next_17 hlocks

set_option maxHeartbeats 4000000 in
set_option maxRecDepth 100000 in
/-- read: none -/
theorem m_read_no (l : Launch) (D : va_G) (κ : Nat → ClassId) (sz : Nat) (T S : Nat) (ad : Nat → Nat) (co : Int32) (bs kp sm ks se sp ke kq vo : Nat → Int32) (nd wn : Int32) (wt wx wb : Nat → Int32) (dn : Int32) (tp : Nat → Int32) (tn ts : Int32) (x y i : Int32) (hno : (inF x T && inF y S) = false) : Met l yX4_read wsX4_read ({ frames := 2, cells := 0, slots := 0, locals := 43 }) (va_Pc [.ref ((ad 0)), .int x, .int y, .int i] (mu_B D κ (moW κ T S ad co bs kp sm ks se sp ke kq vo nd wn wt wx wb dn tp tn ts) sz)) (mu_Q D (some (.int (nI 0))) (moW κ T S ad (nI 1) bs kp sm ks se sp ke kq vo nd wn wt wx wb dn tp tn ts) (va_A (moW κ T S ad co bs kp sm ks se sp ke kq vo nd wn wt wx wb dn tp tn ts) sz)) 0 0 (va_A (moW κ T S ad co bs kp sm ks se sp ke kq vo nd wn wt wx wb dn tp tn ts) sz) := by
  refine Met.ofW (cc := cX4_read) (maxL := 5) (ret := (some .byte)) (by decide) rfl ?_
  intro p e s m args below meth c s₁ B hml hv
  obtain ⟨rfl, hsz, hP, hK, hD0⟩ := hv
  have hx := B.exec
  have hb := B.bytes
  have hr := B.returns
  have hts := atoms_spec (ws := wsX4_read) B.pre
  have hown : s.vm.findClass RX4 = some m.cls := findClass_of_methodNamed B.named
  have hlocks := B.notSynchronized
  subst hsz
  have hD := hD0.self (sz := s.heap.size)
  generalize hAe : va_A (moW κ T S ad co bs kp sm ks se sp ke kq vo nd wn wt wx wb dn tp tn ts) s.heap.size = A at hD ⊢
  have hA : ∀ q : Nat, s.heap.size ≤ q → A q := fun q h => by rw [← hAe]; exact Or.inr h
  refine W.gen (P := fun H locs => va_P D vwCl (moW κ T S ad co bs kp sm ks se sp ke kq vo nd wn wt wx wb dn tp tn ts) H ∧ va_S A s.heap H locs) (fun H locs h => ?_) ⟨hP, va_S.rf⟩
  clear hP
  obtain ⟨hP, hS⟩ := h
  have hl := lv_entry ([.ref ((ad 0)), .int x, .int y, .int i]) (n := 5) (Nat.le_of_ble_eq_true rfl)
  rw [lg_entry_eq]
  generalize (lg_sl ([.ref ((ad 0)), .int x, .int y, .int i]) ++ List.replicate (5 - (lg_sl ([.ref ((ad 0)), .int x, .int y, .int i])).length) Slot.unset).toArray = ls at hl ⊢
  have hl : lv_has ls 5 [(0, .ref ((ad 0))), (1, .int x), (2, .int y), (3, .int i)] := hl
  refine lv_aload_n hx hb dX4_read_0 rfl (lv_at hl 0 rfl) ?_
  refine lv_iload_n hx hb dX4_read_1 rfl (lv_at hl 1 rfl) ?_
  refine lv_iload_n hx hb dX4_read_2 rfl (lv_at hl 2 rfl) ?_
  have hPc := hP.sub (ws' := moW κ T S ad co bs kp sm ks se sp ke kq vo nd wn wt wx wb dn tp tn ts) [0, 1, 2, 3, 4, 5, 6, 7, 8, 9, 10, 11, 12, 13] rfl
  refine pu_call (va_runV (As := [.int x, .int y]) (rest := []) ⟨hx, hb, hml, hown, hts⟩ (m_isSector l D κ T S ad co bs kp sm ks se sp ke kq vo nd wn wt wx wb dn tp tn ts x y) (cwV 2 hts gX4_read_X4_isSector rfl rfl rfl (by decide +kernel) ⟨Nat.le_of_ble_eq_true rfl, Nat.le_of_ble_eq_true rfl⟩) ⟨pu_blind, va_recv hK hPc (ci := 5) (q0 := 0) rfl rfl, pu_pre hK hPc⟩ rfl rfl hl.1 rfl (lv_room (Nat.le_of_ble_eq_true rfl)) dX4_read_3 ⟨Nat.le_of_ble_eq_true rfl, Nat.le_of_ble_eq_true rfl⟩) ?_
  refine lv_if_eq (tgt := 23) hx hb dX4_read_6 (by decide) (fun c_6 => ?_) (fun c_6 => ?_)
  · skip
    refine lv_iconst (v := nI 0) hx hb dX4_read_23 (by decide) ?_
    refine lv_istore (lv' := [(4, .int (nI 0)), (0, .ref ((ad 0))), (1, .int x), (2, .int y), (3, .int i)]) hx hb dX4_read_24 hl (by decide) rfl (fun ls hl => ?_)
    refine lv_aload_n hx hb dX4_read_26 rfl (lv_at hl 1 rfl) ?_
    refine lv_iload hx hb dX4_read_27 (lv_at hl 0 rfl) ?_
    refine lv_if_eq (tgt := 36) hx hb dX4_read_29 (by decide) (fun c_29 => ?_) (fun c_29 => ?_)
    · skip
      refine lv_iconst (v := nI 1) hx hb dX4_read_36 (by decide) ?_
      refine va_put (D := D) (ci := 5) (v := .int (nI 1)) (ty := .int) (C := RX4) (T := TX4) (N := 21) hx hb hts (by decide +kernel) tyX4 tyX4_ok nmX4 hown hK hP hD hS 0 rfl rfl 0 (by decide) (hts (.fieldLink RX4 61 "TrackDiskModel" "code" "I") (by decide +kernel)) (fun _ h9 => h9) rfl (by decide +kernel) rfl rfl (Nat.le_of_ble_eq_true rfl) dX4_read_37 (fun H locs hP hD hS => ?_)
      have hP : va_P D vwCl (moW κ T S ad (nI 1) bs kp sm ks se sp ke kq vo nd wn wt wx wb dn tp tn ts) H := hP
      have hD : va_D A (moW κ T S ad (nI 1) bs kp sm ks se sp ke kq vo nd wn wt wx wb dn tp tn ts) := hD
      refine lv_iload hx hb dX4_read_40 (lv_at hl 0 rfl) ?_
      refine lv_if_eq (tgt := 64) hx hb dX4_read_42 (by decide) (fun c_42 => ?_) (fun c_42 => ?_)
      · skip
        refine lv_iconst (v := nI 0) hx hb dX4_read_64 (by decide) ?_
        have hP9 : va_P D vwCl (moW κ T S ad (nI 1) bs kp sm ks se sp ke kq vo nd wn wt wx wb dn tp tn ts) H := hP
        have hD9 : va_D A (moW κ T S ad (nI 1) bs kp sm ks se sp ke kq vo nd wn wt wx wb dn tp tn ts) := hD
        exact W.zret hx hb hr (by first | rfl | decide) (fun t ht _  => ⟨⟨rfl, by rw [ht]; exact hP9, hD9⟩, hS.F ht⟩) hS.2.2 dX4_read_65 hlocks
      · exact absurd (by decide) c_42
    · exact absurd (by decide) c_29
  · exact (bI_cf hno c_6).elim

set_option maxHeartbeats 4000000 in
set_option maxRecDepth 100000 in
/-- read: i -/
theorem m_read_bi (l : Launch) (D : va_G) (κ : Nat → ClassId) (sz : Nat) (T S : Nat) (ad : Nat → Nat) (co : Int32) (bs kp sm ks se sp ke kq vo : Nat → Int32) (nd wn : Int32) (wt wx wb : Nat → Int32) (dn : Int32) (tp : Nat → Int32) (tn ts : Int32) (hT : T ≤ 12) (hS8 : S ≤ 8) (t b : Nat) (ht : t < T) (hb0 : b < S) (i : Int32) (hi : inF i 16 = false) : Met l yX4_read wsX4_read ({ frames := 2, cells := 0, slots := 0, locals := 43 }) (va_Pc [.ref ((ad 0)), .int (nI t), .int (nI b), .int i] (mu_B D κ (moW κ T S ad co bs kp sm ks se sp ke kq vo nd wn wt wx wb dn tp tn ts) sz)) (mu_Q D (some (.int (nI 0))) (moW κ T S ad (nI 1) bs kp sm ks se sp ke kq vo nd wn wt wx wb dn tp tn ts) (va_A (moW κ T S ad co bs kp sm ks se sp ke kq vo nd wn wt wx wb dn tp tn ts) sz)) 0 0 (va_A (moW κ T S ad co bs kp sm ks se sp ke kq vo nd wn wt wx wb dn tp tn ts) sz) := by
  refine Met.ofW (cc := cX4_read) (maxL := 5) (ret := (some .byte)) (by decide) rfl ?_
  intro p e s m args below meth c s₁ B hml hv
  obtain ⟨rfl, hsz, hP, hK, hD0⟩ := hv
  have hx := B.exec
  have hb := B.bytes
  have hr := B.returns
  have hts := atoms_spec (ws := wsX4_read) B.pre
  have hown : s.vm.findClass RX4 = some m.cls := findClass_of_methodNamed B.named
  have hlocks := B.notSynchronized
  subst hsz
  have hD := hD0.self (sz := s.heap.size)
  generalize hAe : va_A (moW κ T S ad co bs kp sm ks se sp ke kq vo nd wn wt wx wb dn tp tn ts) s.heap.size = A at hD ⊢
  have hA : ∀ q : Nat, s.heap.size ≤ q → A q := fun q h => by rw [← hAe]; exact Or.inr h
  refine W.gen (P := fun H locs => va_P D vwCl (moW κ T S ad co bs kp sm ks se sp ke kq vo nd wn wt wx wb dn tp tn ts) H ∧ va_S A s.heap H locs) (fun H locs h => ?_) ⟨hP, va_S.rf⟩
  clear hP
  obtain ⟨hP, hS⟩ := h
  have hl := lv_entry ([.ref ((ad 0)), .int (nI t), .int (nI b), .int i]) (n := 5) (Nat.le_of_ble_eq_true rfl)
  rw [lg_entry_eq]
  generalize (lg_sl ([.ref ((ad 0)), .int (nI t), .int (nI b), .int i]) ++ List.replicate (5 - (lg_sl ([.ref ((ad 0)), .int (nI t), .int (nI b), .int i])).length) Slot.unset).toArray = ls at hl ⊢
  have hl : lv_has ls 5 [(0, .ref ((ad 0))), (1, .int (nI t)), (2, .int (nI b)), (3, .int i)] := hl
  refine lv_aload_n hx hb dX4_read_0 rfl (lv_at hl 0 rfl) ?_
  refine lv_iload_n hx hb dX4_read_1 rfl (lv_at hl 1 rfl) ?_
  refine lv_iload_n hx hb dX4_read_2 rfl (lv_at hl 2 rfl) ?_
  have hPc := hP.sub (ws' := moW κ T S ad co bs kp sm ks se sp ke kq vo nd wn wt wx wb dn tp tn ts) [0, 1, 2, 3, 4, 5, 6, 7, 8, 9, 10, 11, 12, 13] rfl
  refine pu_call (va_runV (As := [.int (nI t), .int (nI b)]) (rest := []) ⟨hx, hb, hml, hown, hts⟩ (m_isSector l D κ T S ad co bs kp sm ks se sp ke kq vo nd wn wt wx wb dn tp tn ts (nI t) (nI b)) (cwV 2 hts gX4_read_X4_isSector rfl rfl rfl (by decide +kernel) ⟨Nat.le_of_ble_eq_true rfl, Nat.le_of_ble_eq_true rfl⟩) ⟨pu_blind, va_recv hK hPc (ci := 5) (q0 := 0) rfl rfl, pu_pre hK hPc⟩ rfl rfl hl.1 rfl (lv_room (Nat.le_of_ble_eq_true rfl)) dX4_read_3 ⟨Nat.le_of_ble_eq_true rfl, Nat.le_of_ble_eq_true rfl⟩) ?_
  refine lv_if_eq (tgt := 23) hx hb dX4_read_6 (by decide) (fun c_6 => ?_) (fun c_6 => ?_)
  · exact (bI_ct (by rw [inF_nI ht (by omega), inF_nI hb0 (by omega)]; rfl) c_6).elim
  · skip
    refine lv_iload_n hx hb dX4_read_9 rfl (lv_at hl 3 rfl) ?_
    refine lv_if_lt (tgt := 23) hx hb dX4_read_10 (by decide) (fun c_10 => ?_) (fun c_10 => ?_)
    · skip
      refine lv_iconst (v := nI 0) hx hb dX4_read_23 (by decide) ?_
      refine lv_istore (lv' := [(4, .int (nI 0)), (0, .ref ((ad 0))), (1, .int (nI t)), (2, .int (nI b)), (3, .int i)]) hx hb dX4_read_24 hl (by decide) rfl (fun ls hl => ?_)
      refine lv_aload_n hx hb dX4_read_26 rfl (lv_at hl 1 rfl) ?_
      refine lv_iload hx hb dX4_read_27 (lv_at hl 0 rfl) ?_
      refine lv_if_eq (tgt := 36) hx hb dX4_read_29 (by decide) (fun c_29 => ?_) (fun c_29 => ?_)
      · skip
        refine lv_iconst (v := nI 1) hx hb dX4_read_36 (by decide) ?_
        refine va_put (D := D) (ci := 5) (v := .int (nI 1)) (ty := .int) (C := RX4) (T := TX4) (N := 21) hx hb hts (by decide +kernel) tyX4 tyX4_ok nmX4 hown hK hP hD hS 0 rfl rfl 0 (by decide) (hts (.fieldLink RX4 61 "TrackDiskModel" "code" "I") (by decide +kernel)) (fun _ h9 => h9) rfl (by decide +kernel) rfl rfl (Nat.le_of_ble_eq_true rfl) dX4_read_37 (fun H locs hP hD hS => ?_)
        have hP : va_P D vwCl (moW κ T S ad (nI 1) bs kp sm ks se sp ke kq vo nd wn wt wx wb dn tp tn ts) H := hP
        have hD : va_D A (moW κ T S ad (nI 1) bs kp sm ks se sp ke kq vo nd wn wt wx wb dn tp tn ts) := hD
        refine lv_iload hx hb dX4_read_40 (lv_at hl 0 rfl) ?_
        refine lv_if_eq (tgt := 64) hx hb dX4_read_42 (by decide) (fun c_42 => ?_) (fun c_42 => ?_)
        · skip
          refine lv_iconst (v := nI 0) hx hb dX4_read_64 (by decide) ?_
          have hP9 : va_P D vwCl (moW κ T S ad (nI 1) bs kp sm ks se sp ke kq vo nd wn wt wx wb dn tp tn ts) H := hP
          have hD9 : va_D A (moW κ T S ad (nI 1) bs kp sm ks se sp ke kq vo nd wn wt wx wb dn tp tn ts) := hD
          exact W.zret hx hb hr (by first | rfl | decide) (fun t ht _  => ⟨⟨rfl, by rw [ht]; exact hP9, hD9⟩, hS.F ht⟩) hS.2.2 dX4_read_65 hlocks
        · exact absurd (by decide) c_42
      · exact absurd (by decide) c_29
    · skip
      refine lv_iload_n hx hb dX4_read_13 rfl (lv_at hl 3 rfl) ?_
      refine lv_bipush (v := nI 16) hx hb dX4_read_14 (by decide) ?_
      refine lv_icmp_ge (tgt := 23) hx hb dX4_read_16 (by decide) (fun c_16 => ?_) (fun c_16 => ?_)
      · skip
        refine lv_iconst (v := nI 0) hx hb dX4_read_23 (by decide) ?_
        refine lv_istore (lv' := [(4, .int (nI 0)), (0, .ref ((ad 0))), (1, .int (nI t)), (2, .int (nI b)), (3, .int i)]) hx hb dX4_read_24 hl (by decide) rfl (fun ls hl => ?_)
        refine lv_aload_n hx hb dX4_read_26 rfl (lv_at hl 1 rfl) ?_
        refine lv_iload hx hb dX4_read_27 (lv_at hl 0 rfl) ?_
        refine lv_if_eq (tgt := 36) hx hb dX4_read_29 (by decide) (fun c_29 => ?_) (fun c_29 => ?_)
        · skip
          refine lv_iconst (v := nI 1) hx hb dX4_read_36 (by decide) ?_
          refine va_put (D := D) (ci := 5) (v := .int (nI 1)) (ty := .int) (C := RX4) (T := TX4) (N := 21) hx hb hts (by decide +kernel) tyX4 tyX4_ok nmX4 hown hK hP hD hS 0 rfl rfl 0 (by decide) (hts (.fieldLink RX4 61 "TrackDiskModel" "code" "I") (by decide +kernel)) (fun _ h9 => h9) rfl (by decide +kernel) rfl rfl (Nat.le_of_ble_eq_true rfl) dX4_read_37 (fun H locs hP hD hS => ?_)
          have hP : va_P D vwCl (moW κ T S ad (nI 1) bs kp sm ks se sp ke kq vo nd wn wt wx wb dn tp tn ts) H := hP
          have hD : va_D A (moW κ T S ad (nI 1) bs kp sm ks se sp ke kq vo nd wn wt wx wb dn tp tn ts) := hD
          refine lv_iload hx hb dX4_read_40 (lv_at hl 0 rfl) ?_
          refine lv_if_eq (tgt := 64) hx hb dX4_read_42 (by decide) (fun c_42 => ?_) (fun c_42 => ?_)
          · skip
            refine lv_iconst (v := nI 0) hx hb dX4_read_64 (by decide) ?_
            have hP9 : va_P D vwCl (moW κ T S ad (nI 1) bs kp sm ks se sp ke kq vo nd wn wt wx wb dn tp tn ts) H := hP
            have hD9 : va_D A (moW κ T S ad (nI 1) bs kp sm ks se sp ke kq vo nd wn wt wx wb dn tp tn ts) := hD
            exact W.zret hx hb hr (by first | rfl | decide) (fun t ht _  => ⟨⟨rfl, by rw [ht]; exact hP9, hD9⟩, hS.F ht⟩) hS.2.2 dX4_read_65 hlocks
          · exact absurd (by decide) c_42
        · exact absurd (by decide) c_29
      · exact absurd (inF_t c_10 c_16) (by rw [hi]; decide)

set_option maxHeartbeats 4000000 in
set_option maxRecDepth 100000 in
/-- read -/
theorem m_read (l : Launch) (D : va_G) (κ : Nat → ClassId) (sz : Nat) (T S : Nat) (ad : Nat → Nat) (co : Int32) (bs kp sm ks se sp ke kq vo : Nat → Int32) (nd wn : Int32) (wt wx wb : Nat → Int32) (dn : Int32) (tp : Nat → Int32) (tn ts : Int32) (hT : T ≤ 12) (hS8 : S ≤ 8) (hse : ∀ t, t < T → se t = -1 ∨ vp_in (se t) 14) (t b : Nat) (ht : t < T) (hb0 : b < S) (i : Nat) (hi : i < 16) (hby : isB bs) : Met l yX4_read wsX4_read ({ frames := 2, cells := 0, slots := 0, locals := 43 }) (va_Pc [.ref ((ad 0)), .int (nI t), .int (nI b), .int (nI i)] (mu_B D κ (moW κ T S ad co bs kp sm ks se sp ke kq vo nd wn wt wx wb dn tp tn ts) sz)) (mu_Q D (some (.int (bs (16 * (8 * mlF se t + b) + i)))) (moW κ T S ad (nI 0) bs kp sm ks se sp ke kq vo nd wn wt wx wb dn tp tn ts) (va_A (moW κ T S ad co bs kp sm ks se sp ke kq vo nd wn wt wx wb dn tp tn ts) sz)) 0 0 (va_A (moW κ T S ad co bs kp sm ks se sp ke kq vo nd wn wt wx wb dn tp tn ts) sz) := by
  refine Met.ofW (cc := cX4_read) (maxL := 5) (ret := (some .byte)) (by decide) rfl ?_
  intro p e s m args below meth c s₁ B hml hv
  obtain ⟨rfl, hsz, hP, hK, hD0⟩ := hv
  have hx := B.exec
  have hb := B.bytes
  have hr := B.returns
  have hts := atoms_spec (ws := wsX4_read) B.pre
  have hown : s.vm.findClass RX4 = some m.cls := findClass_of_methodNamed B.named
  have hlocks := B.notSynchronized
  subst hsz
  have hD := hD0.self (sz := s.heap.size)
  generalize hAe : va_A (moW κ T S ad co bs kp sm ks se sp ke kq vo nd wn wt wx wb dn tp tn ts) s.heap.size = A at hD ⊢
  have hA : ∀ q : Nat, s.heap.size ≤ q → A q := fun q h => by rw [← hAe]; exact Or.inr h
  refine W.gen (P := fun H locs => va_P D vwCl (moW κ T S ad co bs kp sm ks se sp ke kq vo nd wn wt wx wb dn tp tn ts) H ∧ va_S A s.heap H locs) (fun H locs h => ?_) ⟨hP, va_S.rf⟩
  clear hP
  obtain ⟨hP, hS⟩ := h
  have hl := lv_entry ([.ref ((ad 0)), .int (nI t), .int (nI b), .int (nI i)]) (n := 5) (Nat.le_of_ble_eq_true rfl)
  rw [lg_entry_eq]
  generalize (lg_sl ([.ref ((ad 0)), .int (nI t), .int (nI b), .int (nI i)]) ++ List.replicate (5 - (lg_sl ([.ref ((ad 0)), .int (nI t), .int (nI b), .int (nI i)])).length) Slot.unset).toArray = ls at hl ⊢
  have hl : lv_has ls 5 [(0, .ref ((ad 0))), (1, .int (nI t)), (2, .int (nI b)), (3, .int (nI i))] := hl
  have hml0 := mlF_lt hT hse ht
  refine lv_aload_n hx hb dX4_read_0 rfl (lv_at hl 0 rfl) ?_
  refine lv_iload_n hx hb dX4_read_1 rfl (lv_at hl 1 rfl) ?_
  refine lv_iload_n hx hb dX4_read_2 rfl (lv_at hl 2 rfl) ?_
  have hPc := hP.sub (ws' := moW κ T S ad co bs kp sm ks se sp ke kq vo nd wn wt wx wb dn tp tn ts) [0, 1, 2, 3, 4, 5, 6, 7, 8, 9, 10, 11, 12, 13] rfl
  refine pu_call (va_runV (As := [.int (nI t), .int (nI b)]) (rest := []) ⟨hx, hb, hml, hown, hts⟩ (m_isSector l D κ T S ad co bs kp sm ks se sp ke kq vo nd wn wt wx wb dn tp tn ts (nI t) (nI b)) (cwV 2 hts gX4_read_X4_isSector rfl rfl rfl (by decide +kernel) ⟨Nat.le_of_ble_eq_true rfl, Nat.le_of_ble_eq_true rfl⟩) ⟨pu_blind, va_recv hK hPc (ci := 5) (q0 := 0) rfl rfl, pu_pre hK hPc⟩ rfl rfl hl.1 rfl (lv_room (Nat.le_of_ble_eq_true rfl)) dX4_read_3 ⟨Nat.le_of_ble_eq_true rfl, Nat.le_of_ble_eq_true rfl⟩) ?_
  refine lv_if_eq (tgt := 23) hx hb dX4_read_6 (by decide) (fun c_6 => ?_) (fun c_6 => ?_)
  · exact (bI_ct (by rw [inF_nI ht (by omega), inF_nI hb0 (by omega)]; rfl) c_6).elim
  · skip
    refine lv_iload_n hx hb dX4_read_9 rfl (lv_at hl 3 rfl) ?_
    refine lv_if_lt (tgt := 23) hx hb dX4_read_10 (by decide) (fun c_10 => ?_) (fun c_10 => ?_)
    · exact absurd c_10 (nI_pos (by omega))
    · skip
      refine lv_iload_n hx hb dX4_read_13 rfl (lv_at hl 3 rfl) ?_
      refine lv_bipush (v := nI 16) hx hb dX4_read_14 (by decide) ?_
      refine lv_icmp_ge (tgt := 23) hx hb dX4_read_16 (by decide) (fun c_16 => ?_) (fun c_16 => ?_)
      · exact absurd c_16 (nI_ge hi (by omega))
      · skip
        refine lv_iconst (v := nI 1) hx hb dX4_read_19 (by decide) ?_
        refine lv_goto (tgt := 24) hx hb dX4_read_20 (by decide) ?_
        refine lv_istore (lv' := [(4, .int (nI 1)), (0, .ref ((ad 0))), (1, .int (nI t)), (2, .int (nI b)), (3, .int (nI i))]) hx hb dX4_read_24 hl (by decide) rfl (fun ls hl => ?_)
        refine lv_aload_n hx hb dX4_read_26 rfl (lv_at hl 1 rfl) ?_
        refine lv_iload hx hb dX4_read_27 (lv_at hl 0 rfl) ?_
        refine lv_if_eq (tgt := 36) hx hb dX4_read_29 (by decide) (fun c_29 => ?_) (fun c_29 => ?_)
        · exact absurd c_29 (by decide)
        · skip
          refine lv_iconst (v := nI 0) hx hb dX4_read_32 (by decide) ?_
          refine lv_goto (tgt := 37) hx hb dX4_read_33 (by decide) ?_
          refine va_put (D := D) (ci := 5) (v := .int (nI 0)) (ty := .int) (C := RX4) (T := TX4) (N := 21) hx hb hts (by decide +kernel) tyX4 tyX4_ok nmX4 hown hK hP hD hS 0 rfl rfl 0 (by decide) (hts (.fieldLink RX4 61 "TrackDiskModel" "code" "I") (by decide +kernel)) (fun _ h9 => h9) rfl (by decide +kernel) rfl rfl (Nat.le_of_ble_eq_true rfl) dX4_read_37 (fun H locs hP hD hS => ?_)
          have hP : va_P D vwCl (moW κ T S ad (nI 0) bs kp sm ks se sp ke kq vo nd wn wt wx wb dn tp tn ts) H := hP
          have hD : va_D A (moW κ T S ad (nI 0) bs kp sm ks se sp ke kq vo nd wn wt wx wb dn tp tn ts) := hD
          refine lv_iload hx hb dX4_read_40 (lv_at hl 0 rfl) ?_
          refine lv_if_eq (tgt := 64) hx hb dX4_read_42 (by decide) (fun c_42 => ?_) (fun c_42 => ?_)
          · exact absurd c_42 (by decide)
          · skip
            refine lv_aload_n hx hb dX4_read_45 rfl (lv_at hl 1 rfl) ?_
            refine va_get (D := D) (ci := 5) (v := .ref ((ad 1))) (C := RX4) (T := TX4) (N := 21) hx hb hts (by decide +kernel) hown hK hP 0 rfl rfl 3 (by decide) (hts (.fieldLink RX4 7 "TrackDiskModel" "bytes" "[B") (by decide +kernel)) (fun _ h9 => h9) rfl dX4_read_46 ?_
            refine lv_bipush (v := nI 16) hx hb dX4_read_49 (by decide) ?_
            refine lv_aload_n hx hb dX4_read_51 rfl (lv_at hl 1 rfl) ?_
            refine lv_iload_n hx hb dX4_read_52 rfl (lv_at hl 2 rfl) ?_
            refine lv_iload_n hx hb dX4_read_53 rfl (lv_at hl 3 rfl) ?_
            have hPc := hP.sub (ws' := moW κ T S ad (nI 0) bs kp sm ks se sp ke kq vo nd wn wt wx wb dn tp tn ts) [0, 1, 2, 3, 4, 5, 6, 7, 8, 9, 10, 11, 12, 13] rfl
            refine pu_call (va_runV (As := [.int (nI t), .int (nI b)]) (rest := [.int (nI 16), .ref ((ad 1))]) ⟨hx, hb, hml, hown, hts⟩ (m_lies l D κ T S ad (nI 0) bs kp sm ks se sp ke kq vo nd wn wt wx wb dn tp tn ts hT hse t b ht) (cwV 2 hts gX4_read_X4_lies rfl rfl rfl (by decide +kernel) ⟨Nat.le_of_ble_eq_true rfl, Nat.le_of_ble_eq_true rfl⟩) ⟨pu_blind, va_recv hK hPc (ci := 5) (q0 := 0) rfl rfl, pu_pre hK hPc⟩ rfl rfl hl.1 rfl (lv_room (Nat.le_of_ble_eq_true rfl)) dX4_read_54 ⟨Nat.le_of_ble_eq_true rfl, Nat.le_of_ble_eq_true rfl⟩) ?_
            refine lv_imul hx hb dX4_read_57 ?_
            refine tp_i (y := nI (16 * (8 * mlF se t + b))) (by exact pk_mul _ _) ?_
            refine lv_iload_n hx hb dX4_read_58 rfl (lv_at hl 4 rfl) ?_
            refine lv_iadd hx hb dX4_read_59 ?_
            refine tp_i (y := nI ((16 * (8 * mlF se t + b)) + i)) (by exact nI_add _ _) ?_
            refine va_bald hx hb hK hP 1 1 rfl rfl (vp_in_nI (by omega) (by omega)) dX4_read_60 ?_
            refine tp_i (y := bs ((16 * (8 * mlF se t + b)) + i)) (by rw [nI_clamp (by omega)]) ?_
            refine lv_goto (tgt := 65) hx hb dX4_read_61 (by decide) ?_
            have hP9 : va_P D vwCl (moW κ T S ad (nI 0) bs kp sm ks se sp ke kq vo nd wn wt wx wb dn tp tn ts) H := hP
            have hD9 : va_D A (moW κ T S ad (nI 0) bs kp sm ks se sp ke kq vo nd wn wt wx wb dn tp tn ts) := hD
            refine tp_i (y := bs (16 * (8 * mlF se t + b) + i)) (by rfl) ?_
            exact W.zret hx hb hr (hby.nar _) (fun t ht _  => ⟨⟨rfl, by rw [ht]; exact hP9, hD9⟩, hS.F ht⟩) hS.2.2 dX4_read_65 hlocks

set_option maxHeartbeats 4000000 in
set_option maxRecDepth 100000 in
/-- count(0) -/
theorem m_count_0 (l : Launch) (D : va_G) (κ : Nat → ClassId) (sz : Nat) (T S : Nat) (ad : Nat → Nat) (co : Int32) (bs kp sm ks se sp ke kq vo : Nat → Int32) (nd wn : Int32) (wt wx wb : Nat → Int32) (dn : Int32) (tp : Nat → Int32) (tn ts : Int32) (hT : T ≤ 12) : Met l yX4_count wsX4_count ({ frames := 1, cells := 0, slots := 0, locals := 25 }) (va_Pc [.ref ((ad 0)), .int (nI 0)] (mu_B D κ (moW κ T S ad co bs kp sm ks se sp ke kq vo nd wn wt wx wb dn tp tn ts) sz)) (mu_Q D (some (.int (nI T))) (moW κ T S ad (nI 0) bs kp sm ks se sp ke kq vo nd wn wt wx wb dn tp tn ts) (va_A (moW κ T S ad co bs kp sm ks se sp ke kq vo nd wn wt wx wb dn tp tn ts) sz)) 0 0 (va_A (moW κ T S ad co bs kp sm ks se sp ke kq vo nd wn wt wx wb dn tp tn ts) sz) := by
  refine Met.ofW (cc := cX4_count) (maxL := 4) (ret := (some .int)) (by decide) rfl ?_
  intro p e s m args below meth c s₁ B hml hv
  obtain ⟨rfl, hsz, hP, hK, hD0⟩ := hv
  have hx := B.exec
  have hb := B.bytes
  have hr := B.returns
  have hts := atoms_spec (ws := wsX4_count) B.pre
  have hown : s.vm.findClass RX4 = some m.cls := findClass_of_methodNamed B.named
  have hlocks := B.notSynchronized
  subst hsz
  have hD := hD0.self (sz := s.heap.size)
  generalize hAe : va_A (moW κ T S ad co bs kp sm ks se sp ke kq vo nd wn wt wx wb dn tp tn ts) s.heap.size = A at hD ⊢
  have hA : ∀ q : Nat, s.heap.size ≤ q → A q := fun q h => by rw [← hAe]; exact Or.inr h
  refine W.gen (P := fun H locs => va_P D vwCl (moW κ T S ad co bs kp sm ks se sp ke kq vo nd wn wt wx wb dn tp tn ts) H ∧ va_S A s.heap H locs) (fun H locs h => ?_) ⟨hP, va_S.rf⟩
  clear hP
  obtain ⟨hP, hS⟩ := h
  have hl := lv_entry ([.ref ((ad 0)), .int (nI 0)]) (n := 4) (Nat.le_of_ble_eq_true rfl)
  rw [lg_entry_eq]
  generalize (lg_sl ([.ref ((ad 0)), .int (nI 0)]) ++ List.replicate (4 - (lg_sl ([.ref ((ad 0)), .int (nI 0)])).length) Slot.unset).toArray = ls at hl ⊢
  have hl : lv_has ls 4 [(0, .ref ((ad 0))), (1, .int (nI 0))] := hl
  refine lv_aload_n hx hb dX4_count_0 rfl (lv_at hl 0 rfl) ?_
  refine lv_iconst (v := nI 0) hx hb dX4_count_1 (by decide) ?_
  refine va_put (D := D) (ci := 5) (v := .int (nI 0)) (ty := .int) (C := RX4) (T := TX4) (N := 21) hx hb hts (by decide +kernel) tyX4 tyX4_ok nmX4 hown hK hP hD hS 0 rfl rfl 0 (by decide) (hts (.fieldLink RX4 61 "TrackDiskModel" "code" "I") (by decide +kernel)) (fun _ h9 => h9) rfl (by decide +kernel) rfl rfl (Nat.le_of_ble_eq_true rfl) dX4_count_2 (fun H locs hP hD hS => ?_)
  have hP : va_P D vwCl (moW κ T S ad (nI 0) bs kp sm ks se sp ke kq vo nd wn wt wx wb dn tp tn ts) H := hP
  have hD : va_D A (moW κ T S ad (nI 0) bs kp sm ks se sp ke kq vo nd wn wt wx wb dn tp tn ts) := hD
  refine lv_iconst (v := nI 0) hx hb dX4_count_5 (by decide) ?_
  refine lv_istore_n (lv' := [(2, .int (nI 0)), (0, .ref ((ad 0))), (1, .int (nI 0))]) hx hb dX4_count_6 rfl hl (by decide) rfl (fun ls hl => ?_)
  refine lv_iconst (v := nI 0) hx hb dX4_count_7 (by decide) ?_
  refine lv_istore_n (lv' := [(3, .int (nI 0)), (2, .int (nI 0)), (0, .ref ((ad 0))), (1, .int (nI 0))]) hx hb dX4_count_8 rfl hl (by decide) rfl (fun ls hl => ?_)
  refine W.loop (N := T) (I := fun t ls H locs => lv_has ls 4 [(3, .int (nI t)), (2, .int (nI (cnt (fun t => decide (¬ se t = -1)) t))), (0, .ref ((ad 0))), (1, .int (nI 0))] ∧ va_P D vwCl (moW κ T S ad (nI 0) bs kp sm ks se sp ke kq vo nd wn wt wx wb dn tp tn ts) H ∧ va_D A (moW κ T S ad (nI 0) bs kp sm ks se sp ke kq vo nd wn wt wx wb dn tp tn ts) ∧ va_S A s.heap H locs) 0 (by omega) (fun t ls H locs ht hI iht => ?_) (fun ls H locs hI => ?_) ⟨lv_sub hl [0, 1, 2, 3] rfl, hP, hD, hS⟩
  · skip
    clear hl hP hD hS
    obtain ⟨hl, hP, hD, hS⟩ := hI
    refine lv_iload_n hx hb dX4_count_9 rfl (lv_at hl 0 rfl) ?_
    refine lv_aload_n hx hb dX4_count_10 rfl (lv_at hl 2 rfl) ?_
    refine va_get (D := D) (ci := 5) (v := .int (nI T)) (C := RX4) (T := TX4) (N := 21) hx hb hts (by decide +kernel) hown hK hP 0 rfl rfl 1 (by decide) (hts (.fieldLink RX4 50 "TrackDiskModel" "tracks" "I") (by decide +kernel)) (fun _ h9 => h9) rfl dX4_count_11 ?_
    refine lv_icmp_ge (tgt := 41) hx hb dX4_count_14 (by decide) (fun c_14 => ?_) (fun c_14 => ?_)
    · exact absurd c_14 (nI_ge ht (by omega))
    · skip
      refine lv_iload_n hx hb dX4_count_17 rfl (lv_at hl 1 rfl) ?_
      refine lv_aload_n hx hb dX4_count_18 rfl (lv_at hl 2 rfl) ?_
      refine va_get (D := D) (ci := 5) (v := .ref ((ad 5))) (C := RX4) (T := TX4) (N := 21) hx hb hts (by decide +kernel) hown hK hP 0 rfl rfl 7 (by decide) (hts (.fieldLink RX4 23 "TrackDiskModel" "sent" "[I") (by decide +kernel)) (fun _ h9 => h9) rfl dX4_count_19 ?_
      refine lv_iload_n hx hb dX4_count_22 rfl (lv_at hl 0 rfl) ?_
      refine va_iald hx hb hK hP 5 0 rfl rfl (vp_in_nI (by omega) (by omega)) dX4_count_23 ?_
      refine tp_i (y := se t) (by rw [nI_clamp (by omega)]) ?_
      refine lv_iconst (v := (-1)) hx hb dX4_count_24 (by decide) ?_
      refine lv_icmp_ne (tgt := 32) hx hb dX4_count_25 (by decide) (fun c_25 => ?_) (fun c_25 => ?_)
      · skip
        refine lv_iconst (v := nI 1) hx hb dX4_count_32 (by decide) ?_
        refine lv_iadd hx hb dX4_count_33 ?_
        refine tp_i (y := nI ((cnt (fun t => decide (¬ se t = -1)) t) + 1)) (by exact nI_add _ _) ?_
        refine tp_i (y := nI (cnt (fun t => decide (¬ se t = -1)) (t + 1))) (by first | (rw [cnt_t (f := (fun t => decide (¬ se t = -1))) (by simp only [decide_eq_true_eq]; exact c_25)]; done) | (rw [cnt_f (f := (fun t => decide (¬ se t = -1))) (by simp only [decide_eq_false_iff_not, Decidable.not_not]; exact c_25)]; rfl)) ?_
        refine lv_istore_n (lv' := [(2, .int (nI (cnt (fun t => decide (¬ se t = -1)) (t + 1)))), (3, .int (nI t)), (0, .ref ((ad 0))), (1, .int (nI 0))]) hx hb dX4_count_34 rfl hl (by decide) rfl (fun ls hl => ?_)
        refine lv_iinc (v := nI (t + 1)) (lv' := [(3, .int (nI (t + 1))), (2, .int (nI (cnt (fun t => decide (¬ se t = -1)) (t + 1)))), (0, .ref ((ad 0))), (1, .int (nI 0))]) hx hb dX4_count_35 hl (k := 1) rfl (by exact nI_1 _) (by decide) rfl (fun ls hl => ?_)
        refine lv_goto (tgt := 9) hx hb dX4_count_38 (by decide) ?_
        exact iht ls H locs ⟨lv_sub hl [0, 1, 2, 3] rfl, hP, hD, hS⟩
      · skip
        refine lv_iconst (v := nI 0) hx hb dX4_count_28 (by decide) ?_
        refine lv_goto (tgt := 33) hx hb dX4_count_29 (by decide) ?_
        refine lv_iadd hx hb dX4_count_33 ?_
        refine tp_i (y := nI ((cnt (fun t => decide (¬ se t = -1)) t) + 0)) (by exact nI_add _ _) ?_
        refine tp_i (y := nI (cnt (fun t => decide (¬ se t = -1)) (t + 1))) (by first | (rw [cnt_t (f := (fun t => decide (¬ se t = -1))) (by simp only [decide_eq_true_eq]; exact c_25)]; done) | (rw [cnt_f (f := (fun t => decide (¬ se t = -1))) (by simp only [decide_eq_false_iff_not, Decidable.not_not]; exact c_25)]; rfl)) ?_
        refine lv_istore_n (lv' := [(2, .int (nI (cnt (fun t => decide (¬ se t = -1)) (t + 1)))), (3, .int (nI t)), (0, .ref ((ad 0))), (1, .int (nI 0))]) hx hb dX4_count_34 rfl hl (by decide) rfl (fun ls hl => ?_)
        refine lv_iinc (v := nI (t + 1)) (lv' := [(3, .int (nI (t + 1))), (2, .int (nI (cnt (fun t => decide (¬ se t = -1)) (t + 1)))), (0, .ref ((ad 0))), (1, .int (nI 0))]) hx hb dX4_count_35 hl (k := 1) rfl (by exact nI_1 _) (by decide) rfl (fun ls hl => ?_)
        refine lv_goto (tgt := 9) hx hb dX4_count_38 (by decide) ?_
        exact iht ls H locs ⟨lv_sub hl [0, 1, 2, 3] rfl, hP, hD, hS⟩
  · skip
    clear hl hP hD hS
    obtain ⟨hl, hP, hD, hS⟩ := hI
    refine lv_iload_n hx hb dX4_count_9 rfl (lv_at hl 0 rfl) ?_
    refine lv_aload_n hx hb dX4_count_10 rfl (lv_at hl 2 rfl) ?_
    refine va_get (D := D) (ci := 5) (v := .int (nI T)) (C := RX4) (T := TX4) (N := 21) hx hb hts (by decide +kernel) hown hK hP 0 rfl rfl 1 (by decide) (hts (.fieldLink RX4 50 "TrackDiskModel" "tracks" "I") (by decide +kernel)) (fun _ h9 => h9) rfl dX4_count_11 ?_
    refine lv_icmp_ge (tgt := 41) hx hb dX4_count_14 (by decide) (fun c_14 => ?_) (fun c_14 => ?_)
    · skip
      refine lv_iload_n hx hb dX4_count_41 rfl (lv_at hl 3 rfl) ?_
      refine lv_tableIn (off := 42) (tgt := 84) hx hb dX4_count_42 (by decide) (by decide) (by decide) (by decide) ?_
      refine lv_aload_n hx hb dX4_count_84 rfl (lv_at hl 2 rfl) ?_
      refine va_get (D := D) (ci := 5) (v := .int (nI T)) (C := RX4) (T := TX4) (N := 21) hx hb hts (by decide +kernel) hown hK hP 0 rfl rfl 1 (by decide) (hts (.fieldLink RX4 50 "TrackDiskModel" "tracks" "I") (by decide +kernel)) (fun _ h9 => h9) rfl dX4_count_85 ?_
      have hP9 : va_P D vwCl (moW κ T S ad (nI 0) bs kp sm ks se sp ke kq vo nd wn wt wx wb dn tp tn ts) H := hP
      have hD9 : va_D A (moW κ T S ad (nI 0) bs kp sm ks se sp ke kq vo nd wn wt wx wb dn tp tn ts) := hD
      exact W.iret hx hb hr (fun t ht _ => ⟨⟨rfl, by rw [ht]; exact hP9, hD9⟩, hS.F ht⟩) hS.2.2 dX4_count_88 hlocks
    · exact absurd (nI_le (Nat.le_refl _) (by omega)) c_14

set_option maxHeartbeats 4000000 in
set_option maxRecDepth 100000 in
/-- count(1) -/
theorem m_count_1 (l : Launch) (D : va_G) (κ : Nat → ClassId) (sz : Nat) (T S : Nat) (ad : Nat → Nat) (co : Int32) (bs kp sm ks se sp ke kq vo : Nat → Int32) (nd wn : Int32) (wt wx wb : Nat → Int32) (dn : Int32) (tp : Nat → Int32) (tn ts : Int32) (hT : T ≤ 12) : Met l yX4_count wsX4_count ({ frames := 1, cells := 0, slots := 0, locals := 25 }) (va_Pc [.ref ((ad 0)), .int (nI 1)] (mu_B D κ (moW κ T S ad co bs kp sm ks se sp ke kq vo nd wn wt wx wb dn tp tn ts) sz)) (mu_Q D (some (.int (nI S))) (moW κ T S ad (nI 0) bs kp sm ks se sp ke kq vo nd wn wt wx wb dn tp tn ts) (va_A (moW κ T S ad co bs kp sm ks se sp ke kq vo nd wn wt wx wb dn tp tn ts) sz)) 0 0 (va_A (moW κ T S ad co bs kp sm ks se sp ke kq vo nd wn wt wx wb dn tp tn ts) sz) := by
  refine Met.ofW (cc := cX4_count) (maxL := 4) (ret := (some .int)) (by decide) rfl ?_
  intro p e s m args below meth c s₁ B hml hv
  obtain ⟨rfl, hsz, hP, hK, hD0⟩ := hv
  have hx := B.exec
  have hb := B.bytes
  have hr := B.returns
  have hts := atoms_spec (ws := wsX4_count) B.pre
  have hown : s.vm.findClass RX4 = some m.cls := findClass_of_methodNamed B.named
  have hlocks := B.notSynchronized
  subst hsz
  have hD := hD0.self (sz := s.heap.size)
  generalize hAe : va_A (moW κ T S ad co bs kp sm ks se sp ke kq vo nd wn wt wx wb dn tp tn ts) s.heap.size = A at hD ⊢
  have hA : ∀ q : Nat, s.heap.size ≤ q → A q := fun q h => by rw [← hAe]; exact Or.inr h
  refine W.gen (P := fun H locs => va_P D vwCl (moW κ T S ad co bs kp sm ks se sp ke kq vo nd wn wt wx wb dn tp tn ts) H ∧ va_S A s.heap H locs) (fun H locs h => ?_) ⟨hP, va_S.rf⟩
  clear hP
  obtain ⟨hP, hS⟩ := h
  have hl := lv_entry ([.ref ((ad 0)), .int (nI 1)]) (n := 4) (Nat.le_of_ble_eq_true rfl)
  rw [lg_entry_eq]
  generalize (lg_sl ([.ref ((ad 0)), .int (nI 1)]) ++ List.replicate (4 - (lg_sl ([.ref ((ad 0)), .int (nI 1)])).length) Slot.unset).toArray = ls at hl ⊢
  have hl : lv_has ls 4 [(0, .ref ((ad 0))), (1, .int (nI 1))] := hl
  refine lv_aload_n hx hb dX4_count_0 rfl (lv_at hl 0 rfl) ?_
  refine lv_iconst (v := nI 0) hx hb dX4_count_1 (by decide) ?_
  refine va_put (D := D) (ci := 5) (v := .int (nI 0)) (ty := .int) (C := RX4) (T := TX4) (N := 21) hx hb hts (by decide +kernel) tyX4 tyX4_ok nmX4 hown hK hP hD hS 0 rfl rfl 0 (by decide) (hts (.fieldLink RX4 61 "TrackDiskModel" "code" "I") (by decide +kernel)) (fun _ h9 => h9) rfl (by decide +kernel) rfl rfl (Nat.le_of_ble_eq_true rfl) dX4_count_2 (fun H locs hP hD hS => ?_)
  have hP : va_P D vwCl (moW κ T S ad (nI 0) bs kp sm ks se sp ke kq vo nd wn wt wx wb dn tp tn ts) H := hP
  have hD : va_D A (moW κ T S ad (nI 0) bs kp sm ks se sp ke kq vo nd wn wt wx wb dn tp tn ts) := hD
  refine lv_iconst (v := nI 0) hx hb dX4_count_5 (by decide) ?_
  refine lv_istore_n (lv' := [(2, .int (nI 0)), (0, .ref ((ad 0))), (1, .int (nI 1))]) hx hb dX4_count_6 rfl hl (by decide) rfl (fun ls hl => ?_)
  refine lv_iconst (v := nI 0) hx hb dX4_count_7 (by decide) ?_
  refine lv_istore_n (lv' := [(3, .int (nI 0)), (2, .int (nI 0)), (0, .ref ((ad 0))), (1, .int (nI 1))]) hx hb dX4_count_8 rfl hl (by decide) rfl (fun ls hl => ?_)
  refine W.loop (N := T) (I := fun t ls H locs => lv_has ls 4 [(3, .int (nI t)), (2, .int (nI (cnt (fun t => decide (¬ se t = -1)) t))), (0, .ref ((ad 0))), (1, .int (nI 1))] ∧ va_P D vwCl (moW κ T S ad (nI 0) bs kp sm ks se sp ke kq vo nd wn wt wx wb dn tp tn ts) H ∧ va_D A (moW κ T S ad (nI 0) bs kp sm ks se sp ke kq vo nd wn wt wx wb dn tp tn ts) ∧ va_S A s.heap H locs) 0 (by omega) (fun t ls H locs ht hI iht => ?_) (fun ls H locs hI => ?_) ⟨lv_sub hl [0, 1, 2, 3] rfl, hP, hD, hS⟩
  · skip
    clear hl hP hD hS
    obtain ⟨hl, hP, hD, hS⟩ := hI
    refine lv_iload_n hx hb dX4_count_9 rfl (lv_at hl 0 rfl) ?_
    refine lv_aload_n hx hb dX4_count_10 rfl (lv_at hl 2 rfl) ?_
    refine va_get (D := D) (ci := 5) (v := .int (nI T)) (C := RX4) (T := TX4) (N := 21) hx hb hts (by decide +kernel) hown hK hP 0 rfl rfl 1 (by decide) (hts (.fieldLink RX4 50 "TrackDiskModel" "tracks" "I") (by decide +kernel)) (fun _ h9 => h9) rfl dX4_count_11 ?_
    refine lv_icmp_ge (tgt := 41) hx hb dX4_count_14 (by decide) (fun c_14 => ?_) (fun c_14 => ?_)
    · exact absurd c_14 (nI_ge ht (by omega))
    · skip
      refine lv_iload_n hx hb dX4_count_17 rfl (lv_at hl 1 rfl) ?_
      refine lv_aload_n hx hb dX4_count_18 rfl (lv_at hl 2 rfl) ?_
      refine va_get (D := D) (ci := 5) (v := .ref ((ad 5))) (C := RX4) (T := TX4) (N := 21) hx hb hts (by decide +kernel) hown hK hP 0 rfl rfl 7 (by decide) (hts (.fieldLink RX4 23 "TrackDiskModel" "sent" "[I") (by decide +kernel)) (fun _ h9 => h9) rfl dX4_count_19 ?_
      refine lv_iload_n hx hb dX4_count_22 rfl (lv_at hl 0 rfl) ?_
      refine va_iald hx hb hK hP 5 0 rfl rfl (vp_in_nI (by omega) (by omega)) dX4_count_23 ?_
      refine tp_i (y := se t) (by rw [nI_clamp (by omega)]) ?_
      refine lv_iconst (v := (-1)) hx hb dX4_count_24 (by decide) ?_
      refine lv_icmp_ne (tgt := 32) hx hb dX4_count_25 (by decide) (fun c_25 => ?_) (fun c_25 => ?_)
      · skip
        refine lv_iconst (v := nI 1) hx hb dX4_count_32 (by decide) ?_
        refine lv_iadd hx hb dX4_count_33 ?_
        refine tp_i (y := nI ((cnt (fun t => decide (¬ se t = -1)) t) + 1)) (by exact nI_add _ _) ?_
        refine tp_i (y := nI (cnt (fun t => decide (¬ se t = -1)) (t + 1))) (by first | (rw [cnt_t (f := (fun t => decide (¬ se t = -1))) (by simp only [decide_eq_true_eq]; exact c_25)]; done) | (rw [cnt_f (f := (fun t => decide (¬ se t = -1))) (by simp only [decide_eq_false_iff_not, Decidable.not_not]; exact c_25)]; rfl)) ?_
        refine lv_istore_n (lv' := [(2, .int (nI (cnt (fun t => decide (¬ se t = -1)) (t + 1)))), (3, .int (nI t)), (0, .ref ((ad 0))), (1, .int (nI 1))]) hx hb dX4_count_34 rfl hl (by decide) rfl (fun ls hl => ?_)
        refine lv_iinc (v := nI (t + 1)) (lv' := [(3, .int (nI (t + 1))), (2, .int (nI (cnt (fun t => decide (¬ se t = -1)) (t + 1)))), (0, .ref ((ad 0))), (1, .int (nI 1))]) hx hb dX4_count_35 hl (k := 1) rfl (by exact nI_1 _) (by decide) rfl (fun ls hl => ?_)
        refine lv_goto (tgt := 9) hx hb dX4_count_38 (by decide) ?_
        exact iht ls H locs ⟨lv_sub hl [0, 1, 2, 3] rfl, hP, hD, hS⟩
      · skip
        refine lv_iconst (v := nI 0) hx hb dX4_count_28 (by decide) ?_
        refine lv_goto (tgt := 33) hx hb dX4_count_29 (by decide) ?_
        refine lv_iadd hx hb dX4_count_33 ?_
        refine tp_i (y := nI ((cnt (fun t => decide (¬ se t = -1)) t) + 0)) (by exact nI_add _ _) ?_
        refine tp_i (y := nI (cnt (fun t => decide (¬ se t = -1)) (t + 1))) (by first | (rw [cnt_t (f := (fun t => decide (¬ se t = -1))) (by simp only [decide_eq_true_eq]; exact c_25)]; done) | (rw [cnt_f (f := (fun t => decide (¬ se t = -1))) (by simp only [decide_eq_false_iff_not, Decidable.not_not]; exact c_25)]; rfl)) ?_
        refine lv_istore_n (lv' := [(2, .int (nI (cnt (fun t => decide (¬ se t = -1)) (t + 1)))), (3, .int (nI t)), (0, .ref ((ad 0))), (1, .int (nI 1))]) hx hb dX4_count_34 rfl hl (by decide) rfl (fun ls hl => ?_)
        refine lv_iinc (v := nI (t + 1)) (lv' := [(3, .int (nI (t + 1))), (2, .int (nI (cnt (fun t => decide (¬ se t = -1)) (t + 1)))), (0, .ref ((ad 0))), (1, .int (nI 1))]) hx hb dX4_count_35 hl (k := 1) rfl (by exact nI_1 _) (by decide) rfl (fun ls hl => ?_)
        refine lv_goto (tgt := 9) hx hb dX4_count_38 (by decide) ?_
        exact iht ls H locs ⟨lv_sub hl [0, 1, 2, 3] rfl, hP, hD, hS⟩
  · skip
    clear hl hP hD hS
    obtain ⟨hl, hP, hD, hS⟩ := hI
    refine lv_iload_n hx hb dX4_count_9 rfl (lv_at hl 0 rfl) ?_
    refine lv_aload_n hx hb dX4_count_10 rfl (lv_at hl 2 rfl) ?_
    refine va_get (D := D) (ci := 5) (v := .int (nI T)) (C := RX4) (T := TX4) (N := 21) hx hb hts (by decide +kernel) hown hK hP 0 rfl rfl 1 (by decide) (hts (.fieldLink RX4 50 "TrackDiskModel" "tracks" "I") (by decide +kernel)) (fun _ h9 => h9) rfl dX4_count_11 ?_
    refine lv_icmp_ge (tgt := 41) hx hb dX4_count_14 (by decide) (fun c_14 => ?_) (fun c_14 => ?_)
    · skip
      refine lv_iload_n hx hb dX4_count_41 rfl (lv_at hl 3 rfl) ?_
      refine lv_tableIn (off := 47) (tgt := 89) hx hb dX4_count_42 (by decide) (by decide) (by decide) (by decide) ?_
      refine lv_aload_n hx hb dX4_count_89 rfl (lv_at hl 2 rfl) ?_
      refine va_get (D := D) (ci := 5) (v := .int (nI S)) (C := RX4) (T := TX4) (N := 21) hx hb hts (by decide +kernel) hown hK hP 0 rfl rfl 2 (by decide) (hts (.fieldLink RX4 54 "TrackDiskModel" "sectors" "I") (by decide +kernel)) (fun _ h9 => h9) rfl dX4_count_90 ?_
      have hP9 : va_P D vwCl (moW κ T S ad (nI 0) bs kp sm ks se sp ke kq vo nd wn wt wx wb dn tp tn ts) H := hP
      have hD9 : va_D A (moW κ T S ad (nI 0) bs kp sm ks se sp ke kq vo nd wn wt wx wb dn tp tn ts) := hD
      exact W.iret hx hb hr (fun t ht _ => ⟨⟨rfl, by rw [ht]; exact hP9, hD9⟩, hS.F ht⟩) hS.2.2 dX4_count_93 hlocks
    · exact absurd (nI_le (Nat.le_refl _) (by omega)) c_14

set_option maxHeartbeats 4000000 in
set_option maxRecDepth 100000 in
/-- count(2) -/
theorem m_count_2 (l : Launch) (D : va_G) (κ : Nat → ClassId) (sz : Nat) (T S : Nat) (ad : Nat → Nat) (co : Int32) (bs kp sm ks se sp ke kq vo : Nat → Int32) (nd wn : Int32) (wt wx wb : Nat → Int32) (dn : Int32) (tp : Nat → Int32) (tn ts : Int32) (hT : T ≤ 12) : Met l yX4_count wsX4_count ({ frames := 1, cells := 0, slots := 0, locals := 25 }) (va_Pc [.ref ((ad 0)), .int (nI 2)] (mu_B D κ (moW κ T S ad co bs kp sm ks se sp ke kq vo nd wn wt wx wb dn tp tn ts) sz)) (mu_Q D (some (.int (wn))) (moW κ T S ad (nI 0) bs kp sm ks se sp ke kq vo nd wn wt wx wb dn tp tn ts) (va_A (moW κ T S ad co bs kp sm ks se sp ke kq vo nd wn wt wx wb dn tp tn ts) sz)) 0 0 (va_A (moW κ T S ad co bs kp sm ks se sp ke kq vo nd wn wt wx wb dn tp tn ts) sz) := by
  refine Met.ofW (cc := cX4_count) (maxL := 4) (ret := (some .int)) (by decide) rfl ?_
  intro p e s m args below meth c s₁ B hml hv
  obtain ⟨rfl, hsz, hP, hK, hD0⟩ := hv
  have hx := B.exec
  have hb := B.bytes
  have hr := B.returns
  have hts := atoms_spec (ws := wsX4_count) B.pre
  have hown : s.vm.findClass RX4 = some m.cls := findClass_of_methodNamed B.named
  have hlocks := B.notSynchronized
  subst hsz
  have hD := hD0.self (sz := s.heap.size)
  generalize hAe : va_A (moW κ T S ad co bs kp sm ks se sp ke kq vo nd wn wt wx wb dn tp tn ts) s.heap.size = A at hD ⊢
  have hA : ∀ q : Nat, s.heap.size ≤ q → A q := fun q h => by rw [← hAe]; exact Or.inr h
  refine W.gen (P := fun H locs => va_P D vwCl (moW κ T S ad co bs kp sm ks se sp ke kq vo nd wn wt wx wb dn tp tn ts) H ∧ va_S A s.heap H locs) (fun H locs h => ?_) ⟨hP, va_S.rf⟩
  clear hP
  obtain ⟨hP, hS⟩ := h
  have hl := lv_entry ([.ref ((ad 0)), .int (nI 2)]) (n := 4) (Nat.le_of_ble_eq_true rfl)
  rw [lg_entry_eq]
  generalize (lg_sl ([.ref ((ad 0)), .int (nI 2)]) ++ List.replicate (4 - (lg_sl ([.ref ((ad 0)), .int (nI 2)])).length) Slot.unset).toArray = ls at hl ⊢
  have hl : lv_has ls 4 [(0, .ref ((ad 0))), (1, .int (nI 2))] := hl
  refine lv_aload_n hx hb dX4_count_0 rfl (lv_at hl 0 rfl) ?_
  refine lv_iconst (v := nI 0) hx hb dX4_count_1 (by decide) ?_
  refine va_put (D := D) (ci := 5) (v := .int (nI 0)) (ty := .int) (C := RX4) (T := TX4) (N := 21) hx hb hts (by decide +kernel) tyX4 tyX4_ok nmX4 hown hK hP hD hS 0 rfl rfl 0 (by decide) (hts (.fieldLink RX4 61 "TrackDiskModel" "code" "I") (by decide +kernel)) (fun _ h9 => h9) rfl (by decide +kernel) rfl rfl (Nat.le_of_ble_eq_true rfl) dX4_count_2 (fun H locs hP hD hS => ?_)
  have hP : va_P D vwCl (moW κ T S ad (nI 0) bs kp sm ks se sp ke kq vo nd wn wt wx wb dn tp tn ts) H := hP
  have hD : va_D A (moW κ T S ad (nI 0) bs kp sm ks se sp ke kq vo nd wn wt wx wb dn tp tn ts) := hD
  refine lv_iconst (v := nI 0) hx hb dX4_count_5 (by decide) ?_
  refine lv_istore_n (lv' := [(2, .int (nI 0)), (0, .ref ((ad 0))), (1, .int (nI 2))]) hx hb dX4_count_6 rfl hl (by decide) rfl (fun ls hl => ?_)
  refine lv_iconst (v := nI 0) hx hb dX4_count_7 (by decide) ?_
  refine lv_istore_n (lv' := [(3, .int (nI 0)), (2, .int (nI 0)), (0, .ref ((ad 0))), (1, .int (nI 2))]) hx hb dX4_count_8 rfl hl (by decide) rfl (fun ls hl => ?_)
  refine W.loop (N := T) (I := fun t ls H locs => lv_has ls 4 [(3, .int (nI t)), (2, .int (nI (cnt (fun t => decide (¬ se t = -1)) t))), (0, .ref ((ad 0))), (1, .int (nI 2))] ∧ va_P D vwCl (moW κ T S ad (nI 0) bs kp sm ks se sp ke kq vo nd wn wt wx wb dn tp tn ts) H ∧ va_D A (moW κ T S ad (nI 0) bs kp sm ks se sp ke kq vo nd wn wt wx wb dn tp tn ts) ∧ va_S A s.heap H locs) 0 (by omega) (fun t ls H locs ht hI iht => ?_) (fun ls H locs hI => ?_) ⟨lv_sub hl [0, 1, 2, 3] rfl, hP, hD, hS⟩
  · skip
    clear hl hP hD hS
    obtain ⟨hl, hP, hD, hS⟩ := hI
    refine lv_iload_n hx hb dX4_count_9 rfl (lv_at hl 0 rfl) ?_
    refine lv_aload_n hx hb dX4_count_10 rfl (lv_at hl 2 rfl) ?_
    refine va_get (D := D) (ci := 5) (v := .int (nI T)) (C := RX4) (T := TX4) (N := 21) hx hb hts (by decide +kernel) hown hK hP 0 rfl rfl 1 (by decide) (hts (.fieldLink RX4 50 "TrackDiskModel" "tracks" "I") (by decide +kernel)) (fun _ h9 => h9) rfl dX4_count_11 ?_
    refine lv_icmp_ge (tgt := 41) hx hb dX4_count_14 (by decide) (fun c_14 => ?_) (fun c_14 => ?_)
    · exact absurd c_14 (nI_ge ht (by omega))
    · skip
      refine lv_iload_n hx hb dX4_count_17 rfl (lv_at hl 1 rfl) ?_
      refine lv_aload_n hx hb dX4_count_18 rfl (lv_at hl 2 rfl) ?_
      refine va_get (D := D) (ci := 5) (v := .ref ((ad 5))) (C := RX4) (T := TX4) (N := 21) hx hb hts (by decide +kernel) hown hK hP 0 rfl rfl 7 (by decide) (hts (.fieldLink RX4 23 "TrackDiskModel" "sent" "[I") (by decide +kernel)) (fun _ h9 => h9) rfl dX4_count_19 ?_
      refine lv_iload_n hx hb dX4_count_22 rfl (lv_at hl 0 rfl) ?_
      refine va_iald hx hb hK hP 5 0 rfl rfl (vp_in_nI (by omega) (by omega)) dX4_count_23 ?_
      refine tp_i (y := se t) (by rw [nI_clamp (by omega)]) ?_
      refine lv_iconst (v := (-1)) hx hb dX4_count_24 (by decide) ?_
      refine lv_icmp_ne (tgt := 32) hx hb dX4_count_25 (by decide) (fun c_25 => ?_) (fun c_25 => ?_)
      · skip
        refine lv_iconst (v := nI 1) hx hb dX4_count_32 (by decide) ?_
        refine lv_iadd hx hb dX4_count_33 ?_
        refine tp_i (y := nI ((cnt (fun t => decide (¬ se t = -1)) t) + 1)) (by exact nI_add _ _) ?_
        refine tp_i (y := nI (cnt (fun t => decide (¬ se t = -1)) (t + 1))) (by first | (rw [cnt_t (f := (fun t => decide (¬ se t = -1))) (by simp only [decide_eq_true_eq]; exact c_25)]; done) | (rw [cnt_f (f := (fun t => decide (¬ se t = -1))) (by simp only [decide_eq_false_iff_not, Decidable.not_not]; exact c_25)]; rfl)) ?_
        refine lv_istore_n (lv' := [(2, .int (nI (cnt (fun t => decide (¬ se t = -1)) (t + 1)))), (3, .int (nI t)), (0, .ref ((ad 0))), (1, .int (nI 2))]) hx hb dX4_count_34 rfl hl (by decide) rfl (fun ls hl => ?_)
        refine lv_iinc (v := nI (t + 1)) (lv' := [(3, .int (nI (t + 1))), (2, .int (nI (cnt (fun t => decide (¬ se t = -1)) (t + 1)))), (0, .ref ((ad 0))), (1, .int (nI 2))]) hx hb dX4_count_35 hl (k := 1) rfl (by exact nI_1 _) (by decide) rfl (fun ls hl => ?_)
        refine lv_goto (tgt := 9) hx hb dX4_count_38 (by decide) ?_
        exact iht ls H locs ⟨lv_sub hl [0, 1, 2, 3] rfl, hP, hD, hS⟩
      · skip
        refine lv_iconst (v := nI 0) hx hb dX4_count_28 (by decide) ?_
        refine lv_goto (tgt := 33) hx hb dX4_count_29 (by decide) ?_
        refine lv_iadd hx hb dX4_count_33 ?_
        refine tp_i (y := nI ((cnt (fun t => decide (¬ se t = -1)) t) + 0)) (by exact nI_add _ _) ?_
        refine tp_i (y := nI (cnt (fun t => decide (¬ se t = -1)) (t + 1))) (by first | (rw [cnt_t (f := (fun t => decide (¬ se t = -1))) (by simp only [decide_eq_true_eq]; exact c_25)]; done) | (rw [cnt_f (f := (fun t => decide (¬ se t = -1))) (by simp only [decide_eq_false_iff_not, Decidable.not_not]; exact c_25)]; rfl)) ?_
        refine lv_istore_n (lv' := [(2, .int (nI (cnt (fun t => decide (¬ se t = -1)) (t + 1)))), (3, .int (nI t)), (0, .ref ((ad 0))), (1, .int (nI 2))]) hx hb dX4_count_34 rfl hl (by decide) rfl (fun ls hl => ?_)
        refine lv_iinc (v := nI (t + 1)) (lv' := [(3, .int (nI (t + 1))), (2, .int (nI (cnt (fun t => decide (¬ se t = -1)) (t + 1)))), (0, .ref ((ad 0))), (1, .int (nI 2))]) hx hb dX4_count_35 hl (k := 1) rfl (by exact nI_1 _) (by decide) rfl (fun ls hl => ?_)
        refine lv_goto (tgt := 9) hx hb dX4_count_38 (by decide) ?_
        exact iht ls H locs ⟨lv_sub hl [0, 1, 2, 3] rfl, hP, hD, hS⟩
  · skip
    clear hl hP hD hS
    obtain ⟨hl, hP, hD, hS⟩ := hI
    refine lv_iload_n hx hb dX4_count_9 rfl (lv_at hl 0 rfl) ?_
    refine lv_aload_n hx hb dX4_count_10 rfl (lv_at hl 2 rfl) ?_
    refine va_get (D := D) (ci := 5) (v := .int (nI T)) (C := RX4) (T := TX4) (N := 21) hx hb hts (by decide +kernel) hown hK hP 0 rfl rfl 1 (by decide) (hts (.fieldLink RX4 50 "TrackDiskModel" "tracks" "I") (by decide +kernel)) (fun _ h9 => h9) rfl dX4_count_11 ?_
    refine lv_icmp_ge (tgt := 41) hx hb dX4_count_14 (by decide) (fun c_14 => ?_) (fun c_14 => ?_)
    · skip
      refine lv_iload_n hx hb dX4_count_41 rfl (lv_at hl 3 rfl) ?_
      refine lv_tableIn (off := 52) (tgt := 94) hx hb dX4_count_42 (by decide) (by decide) (by decide) (by decide) ?_
      refine lv_aload_n hx hb dX4_count_94 rfl (lv_at hl 2 rfl) ?_
      refine va_get (D := D) (ci := 5) (v := .int wn) (C := RX4) (T := TX4) (N := 21) hx hb hts (by decide +kernel) hown hK hP 0 rfl rfl 13 (by decide) (hts (.fieldLink RX4 77 "TrackDiskModel" "waiting" "I") (by decide +kernel)) (fun _ h9 => h9) rfl dX4_count_95 ?_
      have hP9 : va_P D vwCl (moW κ T S ad (nI 0) bs kp sm ks se sp ke kq vo nd wn wt wx wb dn tp tn ts) H := hP
      have hD9 : va_D A (moW κ T S ad (nI 0) bs kp sm ks se sp ke kq vo nd wn wt wx wb dn tp tn ts) := hD
      exact W.iret hx hb hr (fun t ht _ => ⟨⟨rfl, by rw [ht]; exact hP9, hD9⟩, hS.F ht⟩) hS.2.2 dX4_count_98 hlocks
    · exact absurd (nI_le (Nat.le_refl _) (by omega)) c_14

set_option maxHeartbeats 4000000 in
set_option maxRecDepth 100000 in
/-- count(4) -/
theorem m_count_4 (l : Launch) (D : va_G) (κ : Nat → ClassId) (sz : Nat) (T S : Nat) (ad : Nat → Nat) (co : Int32) (bs kp sm ks se sp ke kq vo : Nat → Int32) (nd wn : Int32) (wt wx wb : Nat → Int32) (dn : Int32) (tp : Nat → Int32) (tn ts : Int32) (hT : T ≤ 12) : Met l yX4_count wsX4_count ({ frames := 1, cells := 0, slots := 0, locals := 25 }) (va_Pc [.ref ((ad 0)), .int (nI 4)] (mu_B D κ (moW κ T S ad co bs kp sm ks se sp ke kq vo nd wn wt wx wb dn tp tn ts) sz)) (mu_Q D (some (.int (nd))) (moW κ T S ad (nI 0) bs kp sm ks se sp ke kq vo nd wn wt wx wb dn tp tn ts) (va_A (moW κ T S ad co bs kp sm ks se sp ke kq vo nd wn wt wx wb dn tp tn ts) sz)) 0 0 (va_A (moW κ T S ad co bs kp sm ks se sp ke kq vo nd wn wt wx wb dn tp tn ts) sz) := by
  refine Met.ofW (cc := cX4_count) (maxL := 4) (ret := (some .int)) (by decide) rfl ?_
  intro p e s m args below meth c s₁ B hml hv
  obtain ⟨rfl, hsz, hP, hK, hD0⟩ := hv
  have hx := B.exec
  have hb := B.bytes
  have hr := B.returns
  have hts := atoms_spec (ws := wsX4_count) B.pre
  have hown : s.vm.findClass RX4 = some m.cls := findClass_of_methodNamed B.named
  have hlocks := B.notSynchronized
  subst hsz
  have hD := hD0.self (sz := s.heap.size)
  generalize hAe : va_A (moW κ T S ad co bs kp sm ks se sp ke kq vo nd wn wt wx wb dn tp tn ts) s.heap.size = A at hD ⊢
  have hA : ∀ q : Nat, s.heap.size ≤ q → A q := fun q h => by rw [← hAe]; exact Or.inr h
  refine W.gen (P := fun H locs => va_P D vwCl (moW κ T S ad co bs kp sm ks se sp ke kq vo nd wn wt wx wb dn tp tn ts) H ∧ va_S A s.heap H locs) (fun H locs h => ?_) ⟨hP, va_S.rf⟩
  clear hP
  obtain ⟨hP, hS⟩ := h
  have hl := lv_entry ([.ref ((ad 0)), .int (nI 4)]) (n := 4) (Nat.le_of_ble_eq_true rfl)
  rw [lg_entry_eq]
  generalize (lg_sl ([.ref ((ad 0)), .int (nI 4)]) ++ List.replicate (4 - (lg_sl ([.ref ((ad 0)), .int (nI 4)])).length) Slot.unset).toArray = ls at hl ⊢
  have hl : lv_has ls 4 [(0, .ref ((ad 0))), (1, .int (nI 4))] := hl
  refine lv_aload_n hx hb dX4_count_0 rfl (lv_at hl 0 rfl) ?_
  refine lv_iconst (v := nI 0) hx hb dX4_count_1 (by decide) ?_
  refine va_put (D := D) (ci := 5) (v := .int (nI 0)) (ty := .int) (C := RX4) (T := TX4) (N := 21) hx hb hts (by decide +kernel) tyX4 tyX4_ok nmX4 hown hK hP hD hS 0 rfl rfl 0 (by decide) (hts (.fieldLink RX4 61 "TrackDiskModel" "code" "I") (by decide +kernel)) (fun _ h9 => h9) rfl (by decide +kernel) rfl rfl (Nat.le_of_ble_eq_true rfl) dX4_count_2 (fun H locs hP hD hS => ?_)
  have hP : va_P D vwCl (moW κ T S ad (nI 0) bs kp sm ks se sp ke kq vo nd wn wt wx wb dn tp tn ts) H := hP
  have hD : va_D A (moW κ T S ad (nI 0) bs kp sm ks se sp ke kq vo nd wn wt wx wb dn tp tn ts) := hD
  refine lv_iconst (v := nI 0) hx hb dX4_count_5 (by decide) ?_
  refine lv_istore_n (lv' := [(2, .int (nI 0)), (0, .ref ((ad 0))), (1, .int (nI 4))]) hx hb dX4_count_6 rfl hl (by decide) rfl (fun ls hl => ?_)
  refine lv_iconst (v := nI 0) hx hb dX4_count_7 (by decide) ?_
  refine lv_istore_n (lv' := [(3, .int (nI 0)), (2, .int (nI 0)), (0, .ref ((ad 0))), (1, .int (nI 4))]) hx hb dX4_count_8 rfl hl (by decide) rfl (fun ls hl => ?_)
  refine W.loop (N := T) (I := fun t ls H locs => lv_has ls 4 [(3, .int (nI t)), (2, .int (nI (cnt (fun t => decide (¬ se t = -1)) t))), (0, .ref ((ad 0))), (1, .int (nI 4))] ∧ va_P D vwCl (moW κ T S ad (nI 0) bs kp sm ks se sp ke kq vo nd wn wt wx wb dn tp tn ts) H ∧ va_D A (moW κ T S ad (nI 0) bs kp sm ks se sp ke kq vo nd wn wt wx wb dn tp tn ts) ∧ va_S A s.heap H locs) 0 (by omega) (fun t ls H locs ht hI iht => ?_) (fun ls H locs hI => ?_) ⟨lv_sub hl [0, 1, 2, 3] rfl, hP, hD, hS⟩
  · skip
    clear hl hP hD hS
    obtain ⟨hl, hP, hD, hS⟩ := hI
    refine lv_iload_n hx hb dX4_count_9 rfl (lv_at hl 0 rfl) ?_
    refine lv_aload_n hx hb dX4_count_10 rfl (lv_at hl 2 rfl) ?_
    refine va_get (D := D) (ci := 5) (v := .int (nI T)) (C := RX4) (T := TX4) (N := 21) hx hb hts (by decide +kernel) hown hK hP 0 rfl rfl 1 (by decide) (hts (.fieldLink RX4 50 "TrackDiskModel" "tracks" "I") (by decide +kernel)) (fun _ h9 => h9) rfl dX4_count_11 ?_
    refine lv_icmp_ge (tgt := 41) hx hb dX4_count_14 (by decide) (fun c_14 => ?_) (fun c_14 => ?_)
    · exact absurd c_14 (nI_ge ht (by omega))
    · skip
      refine lv_iload_n hx hb dX4_count_17 rfl (lv_at hl 1 rfl) ?_
      refine lv_aload_n hx hb dX4_count_18 rfl (lv_at hl 2 rfl) ?_
      refine va_get (D := D) (ci := 5) (v := .ref ((ad 5))) (C := RX4) (T := TX4) (N := 21) hx hb hts (by decide +kernel) hown hK hP 0 rfl rfl 7 (by decide) (hts (.fieldLink RX4 23 "TrackDiskModel" "sent" "[I") (by decide +kernel)) (fun _ h9 => h9) rfl dX4_count_19 ?_
      refine lv_iload_n hx hb dX4_count_22 rfl (lv_at hl 0 rfl) ?_
      refine va_iald hx hb hK hP 5 0 rfl rfl (vp_in_nI (by omega) (by omega)) dX4_count_23 ?_
      refine tp_i (y := se t) (by rw [nI_clamp (by omega)]) ?_
      refine lv_iconst (v := (-1)) hx hb dX4_count_24 (by decide) ?_
      refine lv_icmp_ne (tgt := 32) hx hb dX4_count_25 (by decide) (fun c_25 => ?_) (fun c_25 => ?_)
      · skip
        refine lv_iconst (v := nI 1) hx hb dX4_count_32 (by decide) ?_
        refine lv_iadd hx hb dX4_count_33 ?_
        refine tp_i (y := nI ((cnt (fun t => decide (¬ se t = -1)) t) + 1)) (by exact nI_add _ _) ?_
        refine tp_i (y := nI (cnt (fun t => decide (¬ se t = -1)) (t + 1))) (by first | (rw [cnt_t (f := (fun t => decide (¬ se t = -1))) (by simp only [decide_eq_true_eq]; exact c_25)]; done) | (rw [cnt_f (f := (fun t => decide (¬ se t = -1))) (by simp only [decide_eq_false_iff_not, Decidable.not_not]; exact c_25)]; rfl)) ?_
        refine lv_istore_n (lv' := [(2, .int (nI (cnt (fun t => decide (¬ se t = -1)) (t + 1)))), (3, .int (nI t)), (0, .ref ((ad 0))), (1, .int (nI 4))]) hx hb dX4_count_34 rfl hl (by decide) rfl (fun ls hl => ?_)
        refine lv_iinc (v := nI (t + 1)) (lv' := [(3, .int (nI (t + 1))), (2, .int (nI (cnt (fun t => decide (¬ se t = -1)) (t + 1)))), (0, .ref ((ad 0))), (1, .int (nI 4))]) hx hb dX4_count_35 hl (k := 1) rfl (by exact nI_1 _) (by decide) rfl (fun ls hl => ?_)
        refine lv_goto (tgt := 9) hx hb dX4_count_38 (by decide) ?_
        exact iht ls H locs ⟨lv_sub hl [0, 1, 2, 3] rfl, hP, hD, hS⟩
      · skip
        refine lv_iconst (v := nI 0) hx hb dX4_count_28 (by decide) ?_
        refine lv_goto (tgt := 33) hx hb dX4_count_29 (by decide) ?_
        refine lv_iadd hx hb dX4_count_33 ?_
        refine tp_i (y := nI ((cnt (fun t => decide (¬ se t = -1)) t) + 0)) (by exact nI_add _ _) ?_
        refine tp_i (y := nI (cnt (fun t => decide (¬ se t = -1)) (t + 1))) (by first | (rw [cnt_t (f := (fun t => decide (¬ se t = -1))) (by simp only [decide_eq_true_eq]; exact c_25)]; done) | (rw [cnt_f (f := (fun t => decide (¬ se t = -1))) (by simp only [decide_eq_false_iff_not, Decidable.not_not]; exact c_25)]; rfl)) ?_
        refine lv_istore_n (lv' := [(2, .int (nI (cnt (fun t => decide (¬ se t = -1)) (t + 1)))), (3, .int (nI t)), (0, .ref ((ad 0))), (1, .int (nI 4))]) hx hb dX4_count_34 rfl hl (by decide) rfl (fun ls hl => ?_)
        refine lv_iinc (v := nI (t + 1)) (lv' := [(3, .int (nI (t + 1))), (2, .int (nI (cnt (fun t => decide (¬ se t = -1)) (t + 1)))), (0, .ref ((ad 0))), (1, .int (nI 4))]) hx hb dX4_count_35 hl (k := 1) rfl (by exact nI_1 _) (by decide) rfl (fun ls hl => ?_)
        refine lv_goto (tgt := 9) hx hb dX4_count_38 (by decide) ?_
        exact iht ls H locs ⟨lv_sub hl [0, 1, 2, 3] rfl, hP, hD, hS⟩
  · skip
    clear hl hP hD hS
    obtain ⟨hl, hP, hD, hS⟩ := hI
    refine lv_iload_n hx hb dX4_count_9 rfl (lv_at hl 0 rfl) ?_
    refine lv_aload_n hx hb dX4_count_10 rfl (lv_at hl 2 rfl) ?_
    refine va_get (D := D) (ci := 5) (v := .int (nI T)) (C := RX4) (T := TX4) (N := 21) hx hb hts (by decide +kernel) hown hK hP 0 rfl rfl 1 (by decide) (hts (.fieldLink RX4 50 "TrackDiskModel" "tracks" "I") (by decide +kernel)) (fun _ h9 => h9) rfl dX4_count_11 ?_
    refine lv_icmp_ge (tgt := 41) hx hb dX4_count_14 (by decide) (fun c_14 => ?_) (fun c_14 => ?_)
    · skip
      refine lv_iload_n hx hb dX4_count_41 rfl (lv_at hl 3 rfl) ?_
      refine lv_tableIn (off := 70) (tgt := 112) hx hb dX4_count_42 (by decide) (by decide) (by decide) (by decide) ?_
      refine lv_aload_n hx hb dX4_count_112 rfl (lv_at hl 2 rfl) ?_
      refine va_get (D := D) (ci := 5) (v := .int nd) (C := RX4) (T := TX4) (N := 21) hx hb hts (by decide +kernel) hown hK hP 0 rfl rfl 12 (by decide) (hts (.fieldLink RX4 101 "TrackDiskModel" "dumps" "I") (by decide +kernel)) (fun _ h9 => h9) rfl dX4_count_113 ?_
      have hP9 : va_P D vwCl (moW κ T S ad (nI 0) bs kp sm ks se sp ke kq vo nd wn wt wx wb dn tp tn ts) H := hP
      have hD9 : va_D A (moW κ T S ad (nI 0) bs kp sm ks se sp ke kq vo nd wn wt wx wb dn tp tn ts) := hD
      exact W.iret hx hb hr (fun t ht _ => ⟨⟨rfl, by rw [ht]; exact hP9, hD9⟩, hS.F ht⟩) hS.2.2 dX4_count_116 hlocks
    · exact absurd (nI_le (Nat.le_refl _) (by omega)) c_14

set_option maxHeartbeats 4000000 in
set_option maxRecDepth 100000 in
/-- count(5) -/
theorem m_count_5 (l : Launch) (D : va_G) (κ : Nat → ClassId) (sz : Nat) (T S : Nat) (ad : Nat → Nat) (co : Int32) (bs kp sm ks se sp ke kq vo : Nat → Int32) (nd wn : Int32) (wt wx wb : Nat → Int32) (dn : Int32) (tp : Nat → Int32) (tn ts : Int32) (hT : T ≤ 12) : Met l yX4_count wsX4_count ({ frames := 1, cells := 0, slots := 0, locals := 25 }) (va_Pc [.ref ((ad 0)), .int (nI 5)] (mu_B D κ (moW κ T S ad co bs kp sm ks se sp ke kq vo nd wn wt wx wb dn tp tn ts) sz)) (mu_Q D (some (.int (nI (cnt (fun t => decide (¬ se t = -1)) T)))) (moW κ T S ad (nI 0) bs kp sm ks se sp ke kq vo nd wn wt wx wb dn tp tn ts) (va_A (moW κ T S ad co bs kp sm ks se sp ke kq vo nd wn wt wx wb dn tp tn ts) sz)) 0 0 (va_A (moW κ T S ad co bs kp sm ks se sp ke kq vo nd wn wt wx wb dn tp tn ts) sz) := by
  refine Met.ofW (cc := cX4_count) (maxL := 4) (ret := (some .int)) (by decide) rfl ?_
  intro p e s m args below meth c s₁ B hml hv
  obtain ⟨rfl, hsz, hP, hK, hD0⟩ := hv
  have hx := B.exec
  have hb := B.bytes
  have hr := B.returns
  have hts := atoms_spec (ws := wsX4_count) B.pre
  have hown : s.vm.findClass RX4 = some m.cls := findClass_of_methodNamed B.named
  have hlocks := B.notSynchronized
  subst hsz
  have hD := hD0.self (sz := s.heap.size)
  generalize hAe : va_A (moW κ T S ad co bs kp sm ks se sp ke kq vo nd wn wt wx wb dn tp tn ts) s.heap.size = A at hD ⊢
  have hA : ∀ q : Nat, s.heap.size ≤ q → A q := fun q h => by rw [← hAe]; exact Or.inr h
  refine W.gen (P := fun H locs => va_P D vwCl (moW κ T S ad co bs kp sm ks se sp ke kq vo nd wn wt wx wb dn tp tn ts) H ∧ va_S A s.heap H locs) (fun H locs h => ?_) ⟨hP, va_S.rf⟩
  clear hP
  obtain ⟨hP, hS⟩ := h
  have hl := lv_entry ([.ref ((ad 0)), .int (nI 5)]) (n := 4) (Nat.le_of_ble_eq_true rfl)
  rw [lg_entry_eq]
  generalize (lg_sl ([.ref ((ad 0)), .int (nI 5)]) ++ List.replicate (4 - (lg_sl ([.ref ((ad 0)), .int (nI 5)])).length) Slot.unset).toArray = ls at hl ⊢
  have hl : lv_has ls 4 [(0, .ref ((ad 0))), (1, .int (nI 5))] := hl
  refine lv_aload_n hx hb dX4_count_0 rfl (lv_at hl 0 rfl) ?_
  refine lv_iconst (v := nI 0) hx hb dX4_count_1 (by decide) ?_
  refine va_put (D := D) (ci := 5) (v := .int (nI 0)) (ty := .int) (C := RX4) (T := TX4) (N := 21) hx hb hts (by decide +kernel) tyX4 tyX4_ok nmX4 hown hK hP hD hS 0 rfl rfl 0 (by decide) (hts (.fieldLink RX4 61 "TrackDiskModel" "code" "I") (by decide +kernel)) (fun _ h9 => h9) rfl (by decide +kernel) rfl rfl (Nat.le_of_ble_eq_true rfl) dX4_count_2 (fun H locs hP hD hS => ?_)
  have hP : va_P D vwCl (moW κ T S ad (nI 0) bs kp sm ks se sp ke kq vo nd wn wt wx wb dn tp tn ts) H := hP
  have hD : va_D A (moW κ T S ad (nI 0) bs kp sm ks se sp ke kq vo nd wn wt wx wb dn tp tn ts) := hD
  refine lv_iconst (v := nI 0) hx hb dX4_count_5 (by decide) ?_
  refine lv_istore_n (lv' := [(2, .int (nI 0)), (0, .ref ((ad 0))), (1, .int (nI 5))]) hx hb dX4_count_6 rfl hl (by decide) rfl (fun ls hl => ?_)
  refine lv_iconst (v := nI 0) hx hb dX4_count_7 (by decide) ?_
  refine lv_istore_n (lv' := [(3, .int (nI 0)), (2, .int (nI 0)), (0, .ref ((ad 0))), (1, .int (nI 5))]) hx hb dX4_count_8 rfl hl (by decide) rfl (fun ls hl => ?_)
  refine W.loop (N := T) (I := fun t ls H locs => lv_has ls 4 [(3, .int (nI t)), (2, .int (nI (cnt (fun t => decide (¬ se t = -1)) t))), (0, .ref ((ad 0))), (1, .int (nI 5))] ∧ va_P D vwCl (moW κ T S ad (nI 0) bs kp sm ks se sp ke kq vo nd wn wt wx wb dn tp tn ts) H ∧ va_D A (moW κ T S ad (nI 0) bs kp sm ks se sp ke kq vo nd wn wt wx wb dn tp tn ts) ∧ va_S A s.heap H locs) 0 (by omega) (fun t ls H locs ht hI iht => ?_) (fun ls H locs hI => ?_) ⟨lv_sub hl [0, 1, 2, 3] rfl, hP, hD, hS⟩
  · skip
    clear hl hP hD hS
    obtain ⟨hl, hP, hD, hS⟩ := hI
    refine lv_iload_n hx hb dX4_count_9 rfl (lv_at hl 0 rfl) ?_
    refine lv_aload_n hx hb dX4_count_10 rfl (lv_at hl 2 rfl) ?_
    refine va_get (D := D) (ci := 5) (v := .int (nI T)) (C := RX4) (T := TX4) (N := 21) hx hb hts (by decide +kernel) hown hK hP 0 rfl rfl 1 (by decide) (hts (.fieldLink RX4 50 "TrackDiskModel" "tracks" "I") (by decide +kernel)) (fun _ h9 => h9) rfl dX4_count_11 ?_
    refine lv_icmp_ge (tgt := 41) hx hb dX4_count_14 (by decide) (fun c_14 => ?_) (fun c_14 => ?_)
    · exact absurd c_14 (nI_ge ht (by omega))
    · skip
      refine lv_iload_n hx hb dX4_count_17 rfl (lv_at hl 1 rfl) ?_
      refine lv_aload_n hx hb dX4_count_18 rfl (lv_at hl 2 rfl) ?_
      refine va_get (D := D) (ci := 5) (v := .ref ((ad 5))) (C := RX4) (T := TX4) (N := 21) hx hb hts (by decide +kernel) hown hK hP 0 rfl rfl 7 (by decide) (hts (.fieldLink RX4 23 "TrackDiskModel" "sent" "[I") (by decide +kernel)) (fun _ h9 => h9) rfl dX4_count_19 ?_
      refine lv_iload_n hx hb dX4_count_22 rfl (lv_at hl 0 rfl) ?_
      refine va_iald hx hb hK hP 5 0 rfl rfl (vp_in_nI (by omega) (by omega)) dX4_count_23 ?_
      refine tp_i (y := se t) (by rw [nI_clamp (by omega)]) ?_
      refine lv_iconst (v := (-1)) hx hb dX4_count_24 (by decide) ?_
      refine lv_icmp_ne (tgt := 32) hx hb dX4_count_25 (by decide) (fun c_25 => ?_) (fun c_25 => ?_)
      · skip
        refine lv_iconst (v := nI 1) hx hb dX4_count_32 (by decide) ?_
        refine lv_iadd hx hb dX4_count_33 ?_
        refine tp_i (y := nI ((cnt (fun t => decide (¬ se t = -1)) t) + 1)) (by exact nI_add _ _) ?_
        refine tp_i (y := nI (cnt (fun t => decide (¬ se t = -1)) (t + 1))) (by first | (rw [cnt_t (f := (fun t => decide (¬ se t = -1))) (by simp only [decide_eq_true_eq]; exact c_25)]; done) | (rw [cnt_f (f := (fun t => decide (¬ se t = -1))) (by simp only [decide_eq_false_iff_not, Decidable.not_not]; exact c_25)]; rfl)) ?_
        refine lv_istore_n (lv' := [(2, .int (nI (cnt (fun t => decide (¬ se t = -1)) (t + 1)))), (3, .int (nI t)), (0, .ref ((ad 0))), (1, .int (nI 5))]) hx hb dX4_count_34 rfl hl (by decide) rfl (fun ls hl => ?_)
        refine lv_iinc (v := nI (t + 1)) (lv' := [(3, .int (nI (t + 1))), (2, .int (nI (cnt (fun t => decide (¬ se t = -1)) (t + 1)))), (0, .ref ((ad 0))), (1, .int (nI 5))]) hx hb dX4_count_35 hl (k := 1) rfl (by exact nI_1 _) (by decide) rfl (fun ls hl => ?_)
        refine lv_goto (tgt := 9) hx hb dX4_count_38 (by decide) ?_
        exact iht ls H locs ⟨lv_sub hl [0, 1, 2, 3] rfl, hP, hD, hS⟩
      · skip
        refine lv_iconst (v := nI 0) hx hb dX4_count_28 (by decide) ?_
        refine lv_goto (tgt := 33) hx hb dX4_count_29 (by decide) ?_
        refine lv_iadd hx hb dX4_count_33 ?_
        refine tp_i (y := nI ((cnt (fun t => decide (¬ se t = -1)) t) + 0)) (by exact nI_add _ _) ?_
        refine tp_i (y := nI (cnt (fun t => decide (¬ se t = -1)) (t + 1))) (by first | (rw [cnt_t (f := (fun t => decide (¬ se t = -1))) (by simp only [decide_eq_true_eq]; exact c_25)]; done) | (rw [cnt_f (f := (fun t => decide (¬ se t = -1))) (by simp only [decide_eq_false_iff_not, Decidable.not_not]; exact c_25)]; rfl)) ?_
        refine lv_istore_n (lv' := [(2, .int (nI (cnt (fun t => decide (¬ se t = -1)) (t + 1)))), (3, .int (nI t)), (0, .ref ((ad 0))), (1, .int (nI 5))]) hx hb dX4_count_34 rfl hl (by decide) rfl (fun ls hl => ?_)
        refine lv_iinc (v := nI (t + 1)) (lv' := [(3, .int (nI (t + 1))), (2, .int (nI (cnt (fun t => decide (¬ se t = -1)) (t + 1)))), (0, .ref ((ad 0))), (1, .int (nI 5))]) hx hb dX4_count_35 hl (k := 1) rfl (by exact nI_1 _) (by decide) rfl (fun ls hl => ?_)
        refine lv_goto (tgt := 9) hx hb dX4_count_38 (by decide) ?_
        exact iht ls H locs ⟨lv_sub hl [0, 1, 2, 3] rfl, hP, hD, hS⟩
  · skip
    clear hl hP hD hS
    obtain ⟨hl, hP, hD, hS⟩ := hI
    refine lv_iload_n hx hb dX4_count_9 rfl (lv_at hl 0 rfl) ?_
    refine lv_aload_n hx hb dX4_count_10 rfl (lv_at hl 2 rfl) ?_
    refine va_get (D := D) (ci := 5) (v := .int (nI T)) (C := RX4) (T := TX4) (N := 21) hx hb hts (by decide +kernel) hown hK hP 0 rfl rfl 1 (by decide) (hts (.fieldLink RX4 50 "TrackDiskModel" "tracks" "I") (by decide +kernel)) (fun _ h9 => h9) rfl dX4_count_11 ?_
    refine lv_icmp_ge (tgt := 41) hx hb dX4_count_14 (by decide) (fun c_14 => ?_) (fun c_14 => ?_)
    · skip
      refine lv_iload_n hx hb dX4_count_41 rfl (lv_at hl 3 rfl) ?_
      refine lv_tableIn (off := 75) (tgt := 117) hx hb dX4_count_42 (by decide) (by decide) (by decide) (by decide) ?_
      refine lv_iload_n hx hb dX4_count_117 rfl (lv_at hl 1 rfl) ?_
      have hP9 : va_P D vwCl (moW κ T S ad (nI 0) bs kp sm ks se sp ke kq vo nd wn wt wx wb dn tp tn ts) H := hP
      have hD9 : va_D A (moW κ T S ad (nI 0) bs kp sm ks se sp ke kq vo nd wn wt wx wb dn tp tn ts) := hD
      exact W.iret hx hb hr (fun t ht _ => ⟨⟨rfl, by rw [ht]; exact hP9, hD9⟩, hS.F ht⟩) hS.2.2 dX4_count_118 hlocks
    · exact absurd (nI_le (Nat.le_refl _) (by omega)) c_14

set_option maxHeartbeats 4000000 in
set_option maxRecDepth 100000 in
/-- count(3) -/
theorem m_count_30 (l : Launch) (D : va_G) (κ : Nat → ClassId) (sz : Nat) (T S : Nat) (ad : Nat → Nat) (co : Int32) (bs kp sm ks se sp ke kq vo : Nat → Int32) (nd wn : Int32) (wt wx wb : Nat → Int32) (tp : Nat → Int32) (tn ts : Int32)  (hT : T ≤ 12) : Met l yX4_count wsX4_count ({ frames := 1, cells := 0, slots := 0, locals := 25 }) (va_Pc [.ref ((ad 0)), .int (nI 3)] (mu_B D κ (moW κ T S ad co bs kp sm ks se sp ke kq vo nd wn wt wx wb (nI 0) tp tn ts) sz)) (mu_Q D (some (.int (nI 0))) (moW κ T S ad (nI 0) bs kp sm ks se sp ke kq vo nd wn wt wx wb (nI 0) tp tn ts) (va_A (moW κ T S ad co bs kp sm ks se sp ke kq vo nd wn wt wx wb (nI 0) tp tn ts) sz)) 0 0 (va_A (moW κ T S ad co bs kp sm ks se sp ke kq vo nd wn wt wx wb (nI 0) tp tn ts) sz) := by
  refine Met.ofW (cc := cX4_count) (maxL := 4) (ret := (some .int)) (by decide) rfl ?_
  intro p e s m args below meth c s₁ B hml hv
  obtain ⟨rfl, hsz, hP, hK, hD0⟩ := hv
  have hx := B.exec
  have hb := B.bytes
  have hr := B.returns
  have hts := atoms_spec (ws := wsX4_count) B.pre
  have hown : s.vm.findClass RX4 = some m.cls := findClass_of_methodNamed B.named
  have hlocks := B.notSynchronized
  subst hsz
  have hD := hD0.self (sz := s.heap.size)
  generalize hAe : va_A (moW κ T S ad co bs kp sm ks se sp ke kq vo nd wn wt wx wb (nI 0) tp tn ts) s.heap.size = A at hD ⊢
  have hA : ∀ q : Nat, s.heap.size ≤ q → A q := fun q h => by rw [← hAe]; exact Or.inr h
  refine W.gen (P := fun H locs => va_P D vwCl (moW κ T S ad co bs kp sm ks se sp ke kq vo nd wn wt wx wb (nI 0) tp tn ts) H ∧ va_S A s.heap H locs) (fun H locs h => ?_) ⟨hP, va_S.rf⟩
  clear hP
  obtain ⟨hP, hS⟩ := h
  have hl := lv_entry ([.ref ((ad 0)), .int (nI 3)]) (n := 4) (Nat.le_of_ble_eq_true rfl)
  rw [lg_entry_eq]
  generalize (lg_sl ([.ref ((ad 0)), .int (nI 3)]) ++ List.replicate (4 - (lg_sl ([.ref ((ad 0)), .int (nI 3)])).length) Slot.unset).toArray = ls at hl ⊢
  have hl : lv_has ls 4 [(0, .ref ((ad 0))), (1, .int (nI 3))] := hl
  refine lv_aload_n hx hb dX4_count_0 rfl (lv_at hl 0 rfl) ?_
  refine lv_iconst (v := nI 0) hx hb dX4_count_1 (by decide) ?_
  refine va_put (D := D) (ci := 5) (v := .int (nI 0)) (ty := .int) (C := RX4) (T := TX4) (N := 21) hx hb hts (by decide +kernel) tyX4 tyX4_ok nmX4 hown hK hP hD hS 0 rfl rfl 0 (by decide) (hts (.fieldLink RX4 61 "TrackDiskModel" "code" "I") (by decide +kernel)) (fun _ h9 => h9) rfl (by decide +kernel) rfl rfl (Nat.le_of_ble_eq_true rfl) dX4_count_2 (fun H locs hP hD hS => ?_)
  have hP : va_P D vwCl (moW κ T S ad (nI 0) bs kp sm ks se sp ke kq vo nd wn wt wx wb (nI 0) tp tn ts) H := hP
  have hD : va_D A (moW κ T S ad (nI 0) bs kp sm ks se sp ke kq vo nd wn wt wx wb (nI 0) tp tn ts) := hD
  refine lv_iconst (v := nI 0) hx hb dX4_count_5 (by decide) ?_
  refine lv_istore_n (lv' := [(2, .int (nI 0)), (0, .ref ((ad 0))), (1, .int (nI 3))]) hx hb dX4_count_6 rfl hl (by decide) rfl (fun ls hl => ?_)
  refine lv_iconst (v := nI 0) hx hb dX4_count_7 (by decide) ?_
  refine lv_istore_n (lv' := [(3, .int (nI 0)), (2, .int (nI 0)), (0, .ref ((ad 0))), (1, .int (nI 3))]) hx hb dX4_count_8 rfl hl (by decide) rfl (fun ls hl => ?_)
  refine W.loop (N := T) (I := fun t ls H locs => lv_has ls 4 [(3, .int (nI t)), (2, .int (nI (cnt (fun t => decide (¬ se t = -1)) t))), (0, .ref ((ad 0))), (1, .int (nI 3))] ∧ va_P D vwCl (moW κ T S ad (nI 0) bs kp sm ks se sp ke kq vo nd wn wt wx wb (nI 0) tp tn ts) H ∧ va_D A (moW κ T S ad (nI 0) bs kp sm ks se sp ke kq vo nd wn wt wx wb (nI 0) tp tn ts) ∧ va_S A s.heap H locs) 0 (by omega) (fun t ls H locs ht hI iht => ?_) (fun ls H locs hI => ?_) ⟨lv_sub hl [0, 1, 2, 3] rfl, hP, hD, hS⟩
  · skip
    clear hl hP hD hS
    obtain ⟨hl, hP, hD, hS⟩ := hI
    refine lv_iload_n hx hb dX4_count_9 rfl (lv_at hl 0 rfl) ?_
    refine lv_aload_n hx hb dX4_count_10 rfl (lv_at hl 2 rfl) ?_
    refine va_get (D := D) (ci := 5) (v := .int (nI T)) (C := RX4) (T := TX4) (N := 21) hx hb hts (by decide +kernel) hown hK hP 0 rfl rfl 1 (by decide) (hts (.fieldLink RX4 50 "TrackDiskModel" "tracks" "I") (by decide +kernel)) (fun _ h9 => h9) rfl dX4_count_11 ?_
    refine lv_icmp_ge (tgt := 41) hx hb dX4_count_14 (by decide) (fun c_14 => ?_) (fun c_14 => ?_)
    · exact absurd c_14 (nI_ge ht (by omega))
    · skip
      refine lv_iload_n hx hb dX4_count_17 rfl (lv_at hl 1 rfl) ?_
      refine lv_aload_n hx hb dX4_count_18 rfl (lv_at hl 2 rfl) ?_
      refine va_get (D := D) (ci := 5) (v := .ref ((ad 5))) (C := RX4) (T := TX4) (N := 21) hx hb hts (by decide +kernel) hown hK hP 0 rfl rfl 7 (by decide) (hts (.fieldLink RX4 23 "TrackDiskModel" "sent" "[I") (by decide +kernel)) (fun _ h9 => h9) rfl dX4_count_19 ?_
      refine lv_iload_n hx hb dX4_count_22 rfl (lv_at hl 0 rfl) ?_
      refine va_iald hx hb hK hP 5 0 rfl rfl (vp_in_nI (by omega) (by omega)) dX4_count_23 ?_
      refine tp_i (y := se t) (by rw [nI_clamp (by omega)]) ?_
      refine lv_iconst (v := (-1)) hx hb dX4_count_24 (by decide) ?_
      refine lv_icmp_ne (tgt := 32) hx hb dX4_count_25 (by decide) (fun c_25 => ?_) (fun c_25 => ?_)
      · skip
        refine lv_iconst (v := nI 1) hx hb dX4_count_32 (by decide) ?_
        refine lv_iadd hx hb dX4_count_33 ?_
        refine tp_i (y := nI ((cnt (fun t => decide (¬ se t = -1)) t) + 1)) (by exact nI_add _ _) ?_
        refine tp_i (y := nI (cnt (fun t => decide (¬ se t = -1)) (t + 1))) (by first | (rw [cnt_t (f := (fun t => decide (¬ se t = -1))) (by simp only [decide_eq_true_eq]; exact c_25)]; done) | (rw [cnt_f (f := (fun t => decide (¬ se t = -1))) (by simp only [decide_eq_false_iff_not, Decidable.not_not]; exact c_25)]; rfl)) ?_
        refine lv_istore_n (lv' := [(2, .int (nI (cnt (fun t => decide (¬ se t = -1)) (t + 1)))), (3, .int (nI t)), (0, .ref ((ad 0))), (1, .int (nI 3))]) hx hb dX4_count_34 rfl hl (by decide) rfl (fun ls hl => ?_)
        refine lv_iinc (v := nI (t + 1)) (lv' := [(3, .int (nI (t + 1))), (2, .int (nI (cnt (fun t => decide (¬ se t = -1)) (t + 1)))), (0, .ref ((ad 0))), (1, .int (nI 3))]) hx hb dX4_count_35 hl (k := 1) rfl (by exact nI_1 _) (by decide) rfl (fun ls hl => ?_)
        refine lv_goto (tgt := 9) hx hb dX4_count_38 (by decide) ?_
        exact iht ls H locs ⟨lv_sub hl [0, 1, 2, 3] rfl, hP, hD, hS⟩
      · skip
        refine lv_iconst (v := nI 0) hx hb dX4_count_28 (by decide) ?_
        refine lv_goto (tgt := 33) hx hb dX4_count_29 (by decide) ?_
        refine lv_iadd hx hb dX4_count_33 ?_
        refine tp_i (y := nI ((cnt (fun t => decide (¬ se t = -1)) t) + 0)) (by exact nI_add _ _) ?_
        refine tp_i (y := nI (cnt (fun t => decide (¬ se t = -1)) (t + 1))) (by first | (rw [cnt_t (f := (fun t => decide (¬ se t = -1))) (by simp only [decide_eq_true_eq]; exact c_25)]; done) | (rw [cnt_f (f := (fun t => decide (¬ se t = -1))) (by simp only [decide_eq_false_iff_not, Decidable.not_not]; exact c_25)]; rfl)) ?_
        refine lv_istore_n (lv' := [(2, .int (nI (cnt (fun t => decide (¬ se t = -1)) (t + 1)))), (3, .int (nI t)), (0, .ref ((ad 0))), (1, .int (nI 3))]) hx hb dX4_count_34 rfl hl (by decide) rfl (fun ls hl => ?_)
        refine lv_iinc (v := nI (t + 1)) (lv' := [(3, .int (nI (t + 1))), (2, .int (nI (cnt (fun t => decide (¬ se t = -1)) (t + 1)))), (0, .ref ((ad 0))), (1, .int (nI 3))]) hx hb dX4_count_35 hl (k := 1) rfl (by exact nI_1 _) (by decide) rfl (fun ls hl => ?_)
        refine lv_goto (tgt := 9) hx hb dX4_count_38 (by decide) ?_
        exact iht ls H locs ⟨lv_sub hl [0, 1, 2, 3] rfl, hP, hD, hS⟩
  · skip
    clear hl hP hD hS
    obtain ⟨hl, hP, hD, hS⟩ := hI
    refine lv_iload_n hx hb dX4_count_9 rfl (lv_at hl 0 rfl) ?_
    refine lv_aload_n hx hb dX4_count_10 rfl (lv_at hl 2 rfl) ?_
    refine va_get (D := D) (ci := 5) (v := .int (nI T)) (C := RX4) (T := TX4) (N := 21) hx hb hts (by decide +kernel) hown hK hP 0 rfl rfl 1 (by decide) (hts (.fieldLink RX4 50 "TrackDiskModel" "tracks" "I") (by decide +kernel)) (fun _ h9 => h9) rfl dX4_count_11 ?_
    refine lv_icmp_ge (tgt := 41) hx hb dX4_count_14 (by decide) (fun c_14 => ?_) (fun c_14 => ?_)
    · skip
      refine lv_iload_n hx hb dX4_count_41 rfl (lv_at hl 3 rfl) ?_
      refine lv_tableIn (off := 57) (tgt := 99) hx hb dX4_count_42 (by decide) (by decide) (by decide) (by decide) ?_
      refine lv_aload_n hx hb dX4_count_99 rfl (lv_at hl 2 rfl) ?_
      refine va_get (D := D) (ci := 5) (v := .int (nI 0)) (C := RX4) (T := TX4) (N := 21) hx hb hts (by decide +kernel) hown hK hP 0 rfl rfl 17 (by decide) (hts (.fieldLink RX4 73 "TrackDiskModel" "down" "Z") (by decide +kernel)) (fun _ h9 => h9) rfl dX4_count_100 ?_
      refine lv_if_eq (tgt := 110) hx hb dX4_count_103 (by decide) (fun c_103 => ?_) (fun c_103 => ?_)
      · skip
        refine lv_iconst (v := nI 0) hx hb dX4_count_110 (by decide) ?_
        have hP9 : va_P D vwCl (moW κ T S ad (nI 0) bs kp sm ks se sp ke kq vo nd wn wt wx wb (nI 0) tp tn ts) H := hP
        have hD9 : va_D A (moW κ T S ad (nI 0) bs kp sm ks se sp ke kq vo nd wn wt wx wb (nI 0) tp tn ts) := hD
        exact W.iret hx hb hr (fun t ht _ => ⟨⟨rfl, by rw [ht]; exact hP9, hD9⟩, hS.F ht⟩) hS.2.2 dX4_count_111 hlocks
      · exact absurd (by decide) c_103
    · exact absurd (nI_le (Nat.le_refl _) (by omega)) c_14

set_option maxHeartbeats 4000000 in
set_option maxRecDepth 100000 in
/-- count(3) -/
theorem m_count_31 (l : Launch) (D : va_G) (κ : Nat → ClassId) (sz : Nat) (T S : Nat) (ad : Nat → Nat) (co : Int32) (bs kp sm ks se sp ke kq vo : Nat → Int32) (nd wn : Int32) (wt wx wb : Nat → Int32) (tp : Nat → Int32) (tn ts : Int32)  (hT : T ≤ 12) : Met l yX4_count wsX4_count ({ frames := 1, cells := 0, slots := 0, locals := 25 }) (va_Pc [.ref ((ad 0)), .int (nI 3)] (mu_B D κ (moW κ T S ad co bs kp sm ks se sp ke kq vo nd wn wt wx wb (nI 1) tp tn ts) sz)) (mu_Q D (some (.int (nI 1))) (moW κ T S ad (nI 0) bs kp sm ks se sp ke kq vo nd wn wt wx wb (nI 1) tp tn ts) (va_A (moW κ T S ad co bs kp sm ks se sp ke kq vo nd wn wt wx wb (nI 1) tp tn ts) sz)) 0 0 (va_A (moW κ T S ad co bs kp sm ks se sp ke kq vo nd wn wt wx wb (nI 1) tp tn ts) sz) := by
  refine Met.ofW (cc := cX4_count) (maxL := 4) (ret := (some .int)) (by decide) rfl ?_
  intro p e s m args below meth c s₁ B hml hv
  obtain ⟨rfl, hsz, hP, hK, hD0⟩ := hv
  have hx := B.exec
  have hb := B.bytes
  have hr := B.returns
  have hts := atoms_spec (ws := wsX4_count) B.pre
  have hown : s.vm.findClass RX4 = some m.cls := findClass_of_methodNamed B.named
  have hlocks := B.notSynchronized
  subst hsz
  have hD := hD0.self (sz := s.heap.size)
  generalize hAe : va_A (moW κ T S ad co bs kp sm ks se sp ke kq vo nd wn wt wx wb (nI 1) tp tn ts) s.heap.size = A at hD ⊢
  have hA : ∀ q : Nat, s.heap.size ≤ q → A q := fun q h => by rw [← hAe]; exact Or.inr h
  refine W.gen (P := fun H locs => va_P D vwCl (moW κ T S ad co bs kp sm ks se sp ke kq vo nd wn wt wx wb (nI 1) tp tn ts) H ∧ va_S A s.heap H locs) (fun H locs h => ?_) ⟨hP, va_S.rf⟩
  clear hP
  obtain ⟨hP, hS⟩ := h
  have hl := lv_entry ([.ref ((ad 0)), .int (nI 3)]) (n := 4) (Nat.le_of_ble_eq_true rfl)
  rw [lg_entry_eq]
  generalize (lg_sl ([.ref ((ad 0)), .int (nI 3)]) ++ List.replicate (4 - (lg_sl ([.ref ((ad 0)), .int (nI 3)])).length) Slot.unset).toArray = ls at hl ⊢
  have hl : lv_has ls 4 [(0, .ref ((ad 0))), (1, .int (nI 3))] := hl
  refine lv_aload_n hx hb dX4_count_0 rfl (lv_at hl 0 rfl) ?_
  refine lv_iconst (v := nI 0) hx hb dX4_count_1 (by decide) ?_
  refine va_put (D := D) (ci := 5) (v := .int (nI 0)) (ty := .int) (C := RX4) (T := TX4) (N := 21) hx hb hts (by decide +kernel) tyX4 tyX4_ok nmX4 hown hK hP hD hS 0 rfl rfl 0 (by decide) (hts (.fieldLink RX4 61 "TrackDiskModel" "code" "I") (by decide +kernel)) (fun _ h9 => h9) rfl (by decide +kernel) rfl rfl (Nat.le_of_ble_eq_true rfl) dX4_count_2 (fun H locs hP hD hS => ?_)
  have hP : va_P D vwCl (moW κ T S ad (nI 0) bs kp sm ks se sp ke kq vo nd wn wt wx wb (nI 1) tp tn ts) H := hP
  have hD : va_D A (moW κ T S ad (nI 0) bs kp sm ks se sp ke kq vo nd wn wt wx wb (nI 1) tp tn ts) := hD
  refine lv_iconst (v := nI 0) hx hb dX4_count_5 (by decide) ?_
  refine lv_istore_n (lv' := [(2, .int (nI 0)), (0, .ref ((ad 0))), (1, .int (nI 3))]) hx hb dX4_count_6 rfl hl (by decide) rfl (fun ls hl => ?_)
  refine lv_iconst (v := nI 0) hx hb dX4_count_7 (by decide) ?_
  refine lv_istore_n (lv' := [(3, .int (nI 0)), (2, .int (nI 0)), (0, .ref ((ad 0))), (1, .int (nI 3))]) hx hb dX4_count_8 rfl hl (by decide) rfl (fun ls hl => ?_)
  refine W.loop (N := T) (I := fun t ls H locs => lv_has ls 4 [(3, .int (nI t)), (2, .int (nI (cnt (fun t => decide (¬ se t = -1)) t))), (0, .ref ((ad 0))), (1, .int (nI 3))] ∧ va_P D vwCl (moW κ T S ad (nI 0) bs kp sm ks se sp ke kq vo nd wn wt wx wb (nI 1) tp tn ts) H ∧ va_D A (moW κ T S ad (nI 0) bs kp sm ks se sp ke kq vo nd wn wt wx wb (nI 1) tp tn ts) ∧ va_S A s.heap H locs) 0 (by omega) (fun t ls H locs ht hI iht => ?_) (fun ls H locs hI => ?_) ⟨lv_sub hl [0, 1, 2, 3] rfl, hP, hD, hS⟩
  · skip
    clear hl hP hD hS
    obtain ⟨hl, hP, hD, hS⟩ := hI
    refine lv_iload_n hx hb dX4_count_9 rfl (lv_at hl 0 rfl) ?_
    refine lv_aload_n hx hb dX4_count_10 rfl (lv_at hl 2 rfl) ?_
    refine va_get (D := D) (ci := 5) (v := .int (nI T)) (C := RX4) (T := TX4) (N := 21) hx hb hts (by decide +kernel) hown hK hP 0 rfl rfl 1 (by decide) (hts (.fieldLink RX4 50 "TrackDiskModel" "tracks" "I") (by decide +kernel)) (fun _ h9 => h9) rfl dX4_count_11 ?_
    refine lv_icmp_ge (tgt := 41) hx hb dX4_count_14 (by decide) (fun c_14 => ?_) (fun c_14 => ?_)
    · exact absurd c_14 (nI_ge ht (by omega))
    · skip
      refine lv_iload_n hx hb dX4_count_17 rfl (lv_at hl 1 rfl) ?_
      refine lv_aload_n hx hb dX4_count_18 rfl (lv_at hl 2 rfl) ?_
      refine va_get (D := D) (ci := 5) (v := .ref ((ad 5))) (C := RX4) (T := TX4) (N := 21) hx hb hts (by decide +kernel) hown hK hP 0 rfl rfl 7 (by decide) (hts (.fieldLink RX4 23 "TrackDiskModel" "sent" "[I") (by decide +kernel)) (fun _ h9 => h9) rfl dX4_count_19 ?_
      refine lv_iload_n hx hb dX4_count_22 rfl (lv_at hl 0 rfl) ?_
      refine va_iald hx hb hK hP 5 0 rfl rfl (vp_in_nI (by omega) (by omega)) dX4_count_23 ?_
      refine tp_i (y := se t) (by rw [nI_clamp (by omega)]) ?_
      refine lv_iconst (v := (-1)) hx hb dX4_count_24 (by decide) ?_
      refine lv_icmp_ne (tgt := 32) hx hb dX4_count_25 (by decide) (fun c_25 => ?_) (fun c_25 => ?_)
      · skip
        refine lv_iconst (v := nI 1) hx hb dX4_count_32 (by decide) ?_
        refine lv_iadd hx hb dX4_count_33 ?_
        refine tp_i (y := nI ((cnt (fun t => decide (¬ se t = -1)) t) + 1)) (by exact nI_add _ _) ?_
        refine tp_i (y := nI (cnt (fun t => decide (¬ se t = -1)) (t + 1))) (by first | (rw [cnt_t (f := (fun t => decide (¬ se t = -1))) (by simp only [decide_eq_true_eq]; exact c_25)]; done) | (rw [cnt_f (f := (fun t => decide (¬ se t = -1))) (by simp only [decide_eq_false_iff_not, Decidable.not_not]; exact c_25)]; rfl)) ?_
        refine lv_istore_n (lv' := [(2, .int (nI (cnt (fun t => decide (¬ se t = -1)) (t + 1)))), (3, .int (nI t)), (0, .ref ((ad 0))), (1, .int (nI 3))]) hx hb dX4_count_34 rfl hl (by decide) rfl (fun ls hl => ?_)
        refine lv_iinc (v := nI (t + 1)) (lv' := [(3, .int (nI (t + 1))), (2, .int (nI (cnt (fun t => decide (¬ se t = -1)) (t + 1)))), (0, .ref ((ad 0))), (1, .int (nI 3))]) hx hb dX4_count_35 hl (k := 1) rfl (by exact nI_1 _) (by decide) rfl (fun ls hl => ?_)
        refine lv_goto (tgt := 9) hx hb dX4_count_38 (by decide) ?_
        exact iht ls H locs ⟨lv_sub hl [0, 1, 2, 3] rfl, hP, hD, hS⟩
      · skip
        refine lv_iconst (v := nI 0) hx hb dX4_count_28 (by decide) ?_
        refine lv_goto (tgt := 33) hx hb dX4_count_29 (by decide) ?_
        refine lv_iadd hx hb dX4_count_33 ?_
        refine tp_i (y := nI ((cnt (fun t => decide (¬ se t = -1)) t) + 0)) (by exact nI_add _ _) ?_
        refine tp_i (y := nI (cnt (fun t => decide (¬ se t = -1)) (t + 1))) (by first | (rw [cnt_t (f := (fun t => decide (¬ se t = -1))) (by simp only [decide_eq_true_eq]; exact c_25)]; done) | (rw [cnt_f (f := (fun t => decide (¬ se t = -1))) (by simp only [decide_eq_false_iff_not, Decidable.not_not]; exact c_25)]; rfl)) ?_
        refine lv_istore_n (lv' := [(2, .int (nI (cnt (fun t => decide (¬ se t = -1)) (t + 1)))), (3, .int (nI t)), (0, .ref ((ad 0))), (1, .int (nI 3))]) hx hb dX4_count_34 rfl hl (by decide) rfl (fun ls hl => ?_)
        refine lv_iinc (v := nI (t + 1)) (lv' := [(3, .int (nI (t + 1))), (2, .int (nI (cnt (fun t => decide (¬ se t = -1)) (t + 1)))), (0, .ref ((ad 0))), (1, .int (nI 3))]) hx hb dX4_count_35 hl (k := 1) rfl (by exact nI_1 _) (by decide) rfl (fun ls hl => ?_)
        refine lv_goto (tgt := 9) hx hb dX4_count_38 (by decide) ?_
        exact iht ls H locs ⟨lv_sub hl [0, 1, 2, 3] rfl, hP, hD, hS⟩
  · skip
    clear hl hP hD hS
    obtain ⟨hl, hP, hD, hS⟩ := hI
    refine lv_iload_n hx hb dX4_count_9 rfl (lv_at hl 0 rfl) ?_
    refine lv_aload_n hx hb dX4_count_10 rfl (lv_at hl 2 rfl) ?_
    refine va_get (D := D) (ci := 5) (v := .int (nI T)) (C := RX4) (T := TX4) (N := 21) hx hb hts (by decide +kernel) hown hK hP 0 rfl rfl 1 (by decide) (hts (.fieldLink RX4 50 "TrackDiskModel" "tracks" "I") (by decide +kernel)) (fun _ h9 => h9) rfl dX4_count_11 ?_
    refine lv_icmp_ge (tgt := 41) hx hb dX4_count_14 (by decide) (fun c_14 => ?_) (fun c_14 => ?_)
    · skip
      refine lv_iload_n hx hb dX4_count_41 rfl (lv_at hl 3 rfl) ?_
      refine lv_tableIn (off := 57) (tgt := 99) hx hb dX4_count_42 (by decide) (by decide) (by decide) (by decide) ?_
      refine lv_aload_n hx hb dX4_count_99 rfl (lv_at hl 2 rfl) ?_
      refine va_get (D := D) (ci := 5) (v := .int (nI 1)) (C := RX4) (T := TX4) (N := 21) hx hb hts (by decide +kernel) hown hK hP 0 rfl rfl 17 (by decide) (hts (.fieldLink RX4 73 "TrackDiskModel" "down" "Z") (by decide +kernel)) (fun _ h9 => h9) rfl dX4_count_100 ?_
      refine lv_if_eq (tgt := 110) hx hb dX4_count_103 (by decide) (fun c_103 => ?_) (fun c_103 => ?_)
      · exact absurd c_103 (by decide)
      · skip
        refine lv_iconst (v := nI 1) hx hb dX4_count_106 (by decide) ?_
        refine lv_goto (tgt := 111) hx hb dX4_count_107 (by decide) ?_
        have hP9 : va_P D vwCl (moW κ T S ad (nI 0) bs kp sm ks se sp ke kq vo nd wn wt wx wb (nI 1) tp tn ts) H := hP
        have hD9 : va_D A (moW κ T S ad (nI 0) bs kp sm ks se sp ke kq vo nd wn wt wx wb (nI 1) tp tn ts) := hD
        exact W.iret hx hb hr (fun t ht _ => ⟨⟨rfl, by rw [ht]; exact hP9, hD9⟩, hS.F ht⟩) hS.2.2 dX4_count_111 hlocks
    · exact absurd (nI_le (Nat.le_refl _) (by omega)) c_14

set_option maxHeartbeats 4000000 in
set_option maxRecDepth 100000 in
/-- count(6): none -/
theorem m_count_6n (l : Launch) (D : va_G) (κ : Nat → ClassId) (sz : Nat) (T S : Nat) (ad : Nat → Nat) (co : Int32) (bs kp sm ks se sp ke kq vo : Nat → Int32) ( wn : Int32) (wt wx wb : Nat → Int32) (dn : Int32) (tp : Nat → Int32) (tn ts : Int32)  (hT : T ≤ 12) : Met l yX4_count wsX4_count ({ frames := 1, cells := 0, slots := 0, locals := 25 }) (va_Pc [.ref ((ad 0)), .int (nI 6)] (mu_B D κ (moW κ T S ad co bs kp sm ks se sp ke kq vo (nI 0) wn wt wx wb dn tp tn ts) sz)) (mu_Q D (some (.int ((-1)))) (moW κ T S ad (nI 0) bs kp sm ks se sp ke kq vo (nI 0) wn wt wx wb dn tp tn ts) (va_A (moW κ T S ad co bs kp sm ks se sp ke kq vo (nI 0) wn wt wx wb dn tp tn ts) sz)) 0 0 (va_A (moW κ T S ad co bs kp sm ks se sp ke kq vo (nI 0) wn wt wx wb dn tp tn ts) sz) := by
  refine Met.ofW (cc := cX4_count) (maxL := 4) (ret := (some .int)) (by decide) rfl ?_
  intro p e s m args below meth c s₁ B hml hv
  obtain ⟨rfl, hsz, hP, hK, hD0⟩ := hv
  have hx := B.exec
  have hb := B.bytes
  have hr := B.returns
  have hts := atoms_spec (ws := wsX4_count) B.pre
  have hown : s.vm.findClass RX4 = some m.cls := findClass_of_methodNamed B.named
  have hlocks := B.notSynchronized
  subst hsz
  have hD := hD0.self (sz := s.heap.size)
  generalize hAe : va_A (moW κ T S ad co bs kp sm ks se sp ke kq vo (nI 0) wn wt wx wb dn tp tn ts) s.heap.size = A at hD ⊢
  have hA : ∀ q : Nat, s.heap.size ≤ q → A q := fun q h => by rw [← hAe]; exact Or.inr h
  refine W.gen (P := fun H locs => va_P D vwCl (moW κ T S ad co bs kp sm ks se sp ke kq vo (nI 0) wn wt wx wb dn tp tn ts) H ∧ va_S A s.heap H locs) (fun H locs h => ?_) ⟨hP, va_S.rf⟩
  clear hP
  obtain ⟨hP, hS⟩ := h
  have hl := lv_entry ([.ref ((ad 0)), .int (nI 6)]) (n := 4) (Nat.le_of_ble_eq_true rfl)
  rw [lg_entry_eq]
  generalize (lg_sl ([.ref ((ad 0)), .int (nI 6)]) ++ List.replicate (4 - (lg_sl ([.ref ((ad 0)), .int (nI 6)])).length) Slot.unset).toArray = ls at hl ⊢
  have hl : lv_has ls 4 [(0, .ref ((ad 0))), (1, .int (nI 6))] := hl
  refine lv_aload_n hx hb dX4_count_0 rfl (lv_at hl 0 rfl) ?_
  refine lv_iconst (v := nI 0) hx hb dX4_count_1 (by decide) ?_
  refine va_put (D := D) (ci := 5) (v := .int (nI 0)) (ty := .int) (C := RX4) (T := TX4) (N := 21) hx hb hts (by decide +kernel) tyX4 tyX4_ok nmX4 hown hK hP hD hS 0 rfl rfl 0 (by decide) (hts (.fieldLink RX4 61 "TrackDiskModel" "code" "I") (by decide +kernel)) (fun _ h9 => h9) rfl (by decide +kernel) rfl rfl (Nat.le_of_ble_eq_true rfl) dX4_count_2 (fun H locs hP hD hS => ?_)
  have hP : va_P D vwCl (moW κ T S ad (nI 0) bs kp sm ks se sp ke kq vo (nI 0) wn wt wx wb dn tp tn ts) H := hP
  have hD : va_D A (moW κ T S ad (nI 0) bs kp sm ks se sp ke kq vo (nI 0) wn wt wx wb dn tp tn ts) := hD
  refine lv_iconst (v := nI 0) hx hb dX4_count_5 (by decide) ?_
  refine lv_istore_n (lv' := [(2, .int (nI 0)), (0, .ref ((ad 0))), (1, .int (nI 6))]) hx hb dX4_count_6 rfl hl (by decide) rfl (fun ls hl => ?_)
  refine lv_iconst (v := nI 0) hx hb dX4_count_7 (by decide) ?_
  refine lv_istore_n (lv' := [(3, .int (nI 0)), (2, .int (nI 0)), (0, .ref ((ad 0))), (1, .int (nI 6))]) hx hb dX4_count_8 rfl hl (by decide) rfl (fun ls hl => ?_)
  refine W.loop (N := T) (I := fun t ls H locs => lv_has ls 4 [(3, .int (nI t)), (2, .int (nI (cnt (fun t => decide (¬ se t = -1)) t))), (0, .ref ((ad 0))), (1, .int (nI 6))] ∧ va_P D vwCl (moW κ T S ad (nI 0) bs kp sm ks se sp ke kq vo (nI 0) wn wt wx wb dn tp tn ts) H ∧ va_D A (moW κ T S ad (nI 0) bs kp sm ks se sp ke kq vo (nI 0) wn wt wx wb dn tp tn ts) ∧ va_S A s.heap H locs) 0 (by omega) (fun t ls H locs ht hI iht => ?_) (fun ls H locs hI => ?_) ⟨lv_sub hl [0, 1, 2, 3] rfl, hP, hD, hS⟩
  · skip
    clear hl hP hD hS
    obtain ⟨hl, hP, hD, hS⟩ := hI
    refine lv_iload_n hx hb dX4_count_9 rfl (lv_at hl 0 rfl) ?_
    refine lv_aload_n hx hb dX4_count_10 rfl (lv_at hl 2 rfl) ?_
    refine va_get (D := D) (ci := 5) (v := .int (nI T)) (C := RX4) (T := TX4) (N := 21) hx hb hts (by decide +kernel) hown hK hP 0 rfl rfl 1 (by decide) (hts (.fieldLink RX4 50 "TrackDiskModel" "tracks" "I") (by decide +kernel)) (fun _ h9 => h9) rfl dX4_count_11 ?_
    refine lv_icmp_ge (tgt := 41) hx hb dX4_count_14 (by decide) (fun c_14 => ?_) (fun c_14 => ?_)
    · exact absurd c_14 (nI_ge ht (by omega))
    · skip
      refine lv_iload_n hx hb dX4_count_17 rfl (lv_at hl 1 rfl) ?_
      refine lv_aload_n hx hb dX4_count_18 rfl (lv_at hl 2 rfl) ?_
      refine va_get (D := D) (ci := 5) (v := .ref ((ad 5))) (C := RX4) (T := TX4) (N := 21) hx hb hts (by decide +kernel) hown hK hP 0 rfl rfl 7 (by decide) (hts (.fieldLink RX4 23 "TrackDiskModel" "sent" "[I") (by decide +kernel)) (fun _ h9 => h9) rfl dX4_count_19 ?_
      refine lv_iload_n hx hb dX4_count_22 rfl (lv_at hl 0 rfl) ?_
      refine va_iald hx hb hK hP 5 0 rfl rfl (vp_in_nI (by omega) (by omega)) dX4_count_23 ?_
      refine tp_i (y := se t) (by rw [nI_clamp (by omega)]) ?_
      refine lv_iconst (v := (-1)) hx hb dX4_count_24 (by decide) ?_
      refine lv_icmp_ne (tgt := 32) hx hb dX4_count_25 (by decide) (fun c_25 => ?_) (fun c_25 => ?_)
      · skip
        refine lv_iconst (v := nI 1) hx hb dX4_count_32 (by decide) ?_
        refine lv_iadd hx hb dX4_count_33 ?_
        refine tp_i (y := nI ((cnt (fun t => decide (¬ se t = -1)) t) + 1)) (by exact nI_add _ _) ?_
        refine tp_i (y := nI (cnt (fun t => decide (¬ se t = -1)) (t + 1))) (by first | (rw [cnt_t (f := (fun t => decide (¬ se t = -1))) (by simp only [decide_eq_true_eq]; exact c_25)]; done) | (rw [cnt_f (f := (fun t => decide (¬ se t = -1))) (by simp only [decide_eq_false_iff_not, Decidable.not_not]; exact c_25)]; rfl)) ?_
        refine lv_istore_n (lv' := [(2, .int (nI (cnt (fun t => decide (¬ se t = -1)) (t + 1)))), (3, .int (nI t)), (0, .ref ((ad 0))), (1, .int (nI 6))]) hx hb dX4_count_34 rfl hl (by decide) rfl (fun ls hl => ?_)
        refine lv_iinc (v := nI (t + 1)) (lv' := [(3, .int (nI (t + 1))), (2, .int (nI (cnt (fun t => decide (¬ se t = -1)) (t + 1)))), (0, .ref ((ad 0))), (1, .int (nI 6))]) hx hb dX4_count_35 hl (k := 1) rfl (by exact nI_1 _) (by decide) rfl (fun ls hl => ?_)
        refine lv_goto (tgt := 9) hx hb dX4_count_38 (by decide) ?_
        exact iht ls H locs ⟨lv_sub hl [0, 1, 2, 3] rfl, hP, hD, hS⟩
      · skip
        refine lv_iconst (v := nI 0) hx hb dX4_count_28 (by decide) ?_
        refine lv_goto (tgt := 33) hx hb dX4_count_29 (by decide) ?_
        refine lv_iadd hx hb dX4_count_33 ?_
        refine tp_i (y := nI ((cnt (fun t => decide (¬ se t = -1)) t) + 0)) (by exact nI_add _ _) ?_
        refine tp_i (y := nI (cnt (fun t => decide (¬ se t = -1)) (t + 1))) (by first | (rw [cnt_t (f := (fun t => decide (¬ se t = -1))) (by simp only [decide_eq_true_eq]; exact c_25)]; done) | (rw [cnt_f (f := (fun t => decide (¬ se t = -1))) (by simp only [decide_eq_false_iff_not, Decidable.not_not]; exact c_25)]; rfl)) ?_
        refine lv_istore_n (lv' := [(2, .int (nI (cnt (fun t => decide (¬ se t = -1)) (t + 1)))), (3, .int (nI t)), (0, .ref ((ad 0))), (1, .int (nI 6))]) hx hb dX4_count_34 rfl hl (by decide) rfl (fun ls hl => ?_)
        refine lv_iinc (v := nI (t + 1)) (lv' := [(3, .int (nI (t + 1))), (2, .int (nI (cnt (fun t => decide (¬ se t = -1)) (t + 1)))), (0, .ref ((ad 0))), (1, .int (nI 6))]) hx hb dX4_count_35 hl (k := 1) rfl (by exact nI_1 _) (by decide) rfl (fun ls hl => ?_)
        refine lv_goto (tgt := 9) hx hb dX4_count_38 (by decide) ?_
        exact iht ls H locs ⟨lv_sub hl [0, 1, 2, 3] rfl, hP, hD, hS⟩
  · skip
    clear hl hP hD hS
    obtain ⟨hl, hP, hD, hS⟩ := hI
    refine lv_iload_n hx hb dX4_count_9 rfl (lv_at hl 0 rfl) ?_
    refine lv_aload_n hx hb dX4_count_10 rfl (lv_at hl 2 rfl) ?_
    refine va_get (D := D) (ci := 5) (v := .int (nI T)) (C := RX4) (T := TX4) (N := 21) hx hb hts (by decide +kernel) hown hK hP 0 rfl rfl 1 (by decide) (hts (.fieldLink RX4 50 "TrackDiskModel" "tracks" "I") (by decide +kernel)) (fun _ h9 => h9) rfl dX4_count_11 ?_
    refine lv_icmp_ge (tgt := 41) hx hb dX4_count_14 (by decide) (fun c_14 => ?_) (fun c_14 => ?_)
    · skip
      refine lv_iload_n hx hb dX4_count_41 rfl (lv_at hl 3 rfl) ?_
      refine lv_tableIn (off := 77) (tgt := 119) hx hb dX4_count_42 (by decide) (by decide) (by decide) (by decide) ?_
      refine lv_aload_n hx hb dX4_count_119 rfl (lv_at hl 2 rfl) ?_
      refine va_get (D := D) (ci := 5) (v := .int (nI 0)) (C := RX4) (T := TX4) (N := 21) hx hb hts (by decide +kernel) hown hK hP 0 rfl rfl 12 (by decide) (hts (.fieldLink RX4 101 "TrackDiskModel" "dumps" "I") (by decide +kernel)) (fun _ h9 => h9) rfl dX4_count_120 ?_
      refine lv_if_ne (tgt := 130) hx hb dX4_count_123 (by decide) (fun c_123 => ?_) (fun c_123 => ?_)
      · exact absurd (by decide) c_123
      · skip
        refine lv_iconst (v := (-1)) hx hb dX4_count_126 (by decide) ?_
        refine lv_goto (tgt := 140) hx hb dX4_count_127 (by decide) ?_
        have hP9 : va_P D vwCl (moW κ T S ad (nI 0) bs kp sm ks se sp ke kq vo (nI 0) wn wt wx wb dn tp tn ts) H := hP
        have hD9 : va_D A (moW κ T S ad (nI 0) bs kp sm ks se sp ke kq vo (nI 0) wn wt wx wb dn tp tn ts) := hD
        exact W.iret hx hb hr (fun t ht _ => ⟨⟨rfl, by rw [ht]; exact hP9, hD9⟩, hS.F ht⟩) hS.2.2 dX4_count_140 hlocks
    · exact absurd (nI_le (Nat.le_refl _) (by omega)) c_14

set_option maxHeartbeats 4000000 in
set_option maxRecDepth 100000 in
/-- count(6) -/
theorem m_count_6 (l : Launch) (D : va_G) (κ : Nat → ClassId) (sz : Nat) (T S : Nat) (ad : Nat → Nat) (co : Int32) (bs kp sm ks se sp ke kq vo : Nat → Int32) ( wn : Int32) (wt wx wb : Nat → Int32) (dn : Int32) (tp : Nat → Int32) (tn ts : Int32)  (hT : T ≤ 12) (d : Nat) (hd : d < 5) : Met l yX4_count wsX4_count ({ frames := 1, cells := 0, slots := 0, locals := 25 }) (va_Pc [.ref ((ad 0)), .int (nI 6)] (mu_B D κ (moW κ T S ad co bs kp sm ks se sp ke kq vo (nI (d + 1)) wn wt wx wb dn tp tn ts) sz)) (mu_Q D (some (.int (nI (cnt (fun t => dmF kp bs d t 16) 112)))) (moW κ T S ad (nI 0) bs kp sm ks se sp ke kq vo (nI (d + 1)) wn wt wx wb dn tp tn ts) (va_A (moW κ T S ad co bs kp sm ks se sp ke kq vo (nI (d + 1)) wn wt wx wb dn tp tn ts) sz)) 0 0 (va_A (moW κ T S ad co bs kp sm ks se sp ke kq vo (nI (d + 1)) wn wt wx wb dn tp tn ts) sz) := by
  refine Met.ofW (cc := cX4_count) (maxL := 4) (ret := (some .int)) (by decide) rfl ?_
  intro p e s m args below meth c s₁ B hml hv
  obtain ⟨rfl, hsz, hP, hK, hD0⟩ := hv
  have hx := B.exec
  have hb := B.bytes
  have hr := B.returns
  have hts := atoms_spec (ws := wsX4_count) B.pre
  have hown : s.vm.findClass RX4 = some m.cls := findClass_of_methodNamed B.named
  have hlocks := B.notSynchronized
  subst hsz
  have hD := hD0.self (sz := s.heap.size)
  generalize hAe : va_A (moW κ T S ad co bs kp sm ks se sp ke kq vo (nI (d + 1)) wn wt wx wb dn tp tn ts) s.heap.size = A at hD ⊢
  have hA : ∀ q : Nat, s.heap.size ≤ q → A q := fun q h => by rw [← hAe]; exact Or.inr h
  refine W.gen (P := fun H locs => va_P D vwCl (moW κ T S ad co bs kp sm ks se sp ke kq vo (nI (d + 1)) wn wt wx wb dn tp tn ts) H ∧ va_S A s.heap H locs) (fun H locs h => ?_) ⟨hP, va_S.rf⟩
  clear hP
  obtain ⟨hP, hS⟩ := h
  have hl := lv_entry ([.ref ((ad 0)), .int (nI 6)]) (n := 4) (Nat.le_of_ble_eq_true rfl)
  rw [lg_entry_eq]
  generalize (lg_sl ([.ref ((ad 0)), .int (nI 6)]) ++ List.replicate (4 - (lg_sl ([.ref ((ad 0)), .int (nI 6)])).length) Slot.unset).toArray = ls at hl ⊢
  have hl : lv_has ls 4 [(0, .ref ((ad 0))), (1, .int (nI 6))] := hl
  refine lv_aload_n hx hb dX4_count_0 rfl (lv_at hl 0 rfl) ?_
  refine lv_iconst (v := nI 0) hx hb dX4_count_1 (by decide) ?_
  refine va_put (D := D) (ci := 5) (v := .int (nI 0)) (ty := .int) (C := RX4) (T := TX4) (N := 21) hx hb hts (by decide +kernel) tyX4 tyX4_ok nmX4 hown hK hP hD hS 0 rfl rfl 0 (by decide) (hts (.fieldLink RX4 61 "TrackDiskModel" "code" "I") (by decide +kernel)) (fun _ h9 => h9) rfl (by decide +kernel) rfl rfl (Nat.le_of_ble_eq_true rfl) dX4_count_2 (fun H locs hP hD hS => ?_)
  have hP : va_P D vwCl (moW κ T S ad (nI 0) bs kp sm ks se sp ke kq vo (nI (d + 1)) wn wt wx wb dn tp tn ts) H := hP
  have hD : va_D A (moW κ T S ad (nI 0) bs kp sm ks se sp ke kq vo (nI (d + 1)) wn wt wx wb dn tp tn ts) := hD
  refine lv_iconst (v := nI 0) hx hb dX4_count_5 (by decide) ?_
  refine lv_istore_n (lv' := [(2, .int (nI 0)), (0, .ref ((ad 0))), (1, .int (nI 6))]) hx hb dX4_count_6 rfl hl (by decide) rfl (fun ls hl => ?_)
  refine lv_iconst (v := nI 0) hx hb dX4_count_7 (by decide) ?_
  refine lv_istore_n (lv' := [(3, .int (nI 0)), (2, .int (nI 0)), (0, .ref ((ad 0))), (1, .int (nI 6))]) hx hb dX4_count_8 rfl hl (by decide) rfl (fun ls hl => ?_)
  refine W.loop (N := T) (I := fun t ls H locs => lv_has ls 4 [(3, .int (nI t)), (2, .int (nI (cnt (fun t => decide (¬ se t = -1)) t))), (0, .ref ((ad 0))), (1, .int (nI 6))] ∧ va_P D vwCl (moW κ T S ad (nI 0) bs kp sm ks se sp ke kq vo (nI (d + 1)) wn wt wx wb dn tp tn ts) H ∧ va_D A (moW κ T S ad (nI 0) bs kp sm ks se sp ke kq vo (nI (d + 1)) wn wt wx wb dn tp tn ts) ∧ va_S A s.heap H locs) 0 (by omega) (fun t ls H locs ht hI iht => ?_) (fun ls H locs hI => ?_) ⟨lv_sub hl [0, 1, 2, 3] rfl, hP, hD, hS⟩
  · skip
    clear hl hP hD hS
    obtain ⟨hl, hP, hD, hS⟩ := hI
    refine lv_iload_n hx hb dX4_count_9 rfl (lv_at hl 0 rfl) ?_
    refine lv_aload_n hx hb dX4_count_10 rfl (lv_at hl 2 rfl) ?_
    refine va_get (D := D) (ci := 5) (v := .int (nI T)) (C := RX4) (T := TX4) (N := 21) hx hb hts (by decide +kernel) hown hK hP 0 rfl rfl 1 (by decide) (hts (.fieldLink RX4 50 "TrackDiskModel" "tracks" "I") (by decide +kernel)) (fun _ h9 => h9) rfl dX4_count_11 ?_
    refine lv_icmp_ge (tgt := 41) hx hb dX4_count_14 (by decide) (fun c_14 => ?_) (fun c_14 => ?_)
    · exact absurd c_14 (nI_ge ht (by omega))
    · skip
      refine lv_iload_n hx hb dX4_count_17 rfl (lv_at hl 1 rfl) ?_
      refine lv_aload_n hx hb dX4_count_18 rfl (lv_at hl 2 rfl) ?_
      refine va_get (D := D) (ci := 5) (v := .ref ((ad 5))) (C := RX4) (T := TX4) (N := 21) hx hb hts (by decide +kernel) hown hK hP 0 rfl rfl 7 (by decide) (hts (.fieldLink RX4 23 "TrackDiskModel" "sent" "[I") (by decide +kernel)) (fun _ h9 => h9) rfl dX4_count_19 ?_
      refine lv_iload_n hx hb dX4_count_22 rfl (lv_at hl 0 rfl) ?_
      refine va_iald hx hb hK hP 5 0 rfl rfl (vp_in_nI (by omega) (by omega)) dX4_count_23 ?_
      refine tp_i (y := se t) (by rw [nI_clamp (by omega)]) ?_
      refine lv_iconst (v := (-1)) hx hb dX4_count_24 (by decide) ?_
      refine lv_icmp_ne (tgt := 32) hx hb dX4_count_25 (by decide) (fun c_25 => ?_) (fun c_25 => ?_)
      · skip
        refine lv_iconst (v := nI 1) hx hb dX4_count_32 (by decide) ?_
        refine lv_iadd hx hb dX4_count_33 ?_
        refine tp_i (y := nI ((cnt (fun t => decide (¬ se t = -1)) t) + 1)) (by exact nI_add _ _) ?_
        refine tp_i (y := nI (cnt (fun t => decide (¬ se t = -1)) (t + 1))) (by first | (rw [cnt_t (f := (fun t => decide (¬ se t = -1))) (by simp only [decide_eq_true_eq]; exact c_25)]; done) | (rw [cnt_f (f := (fun t => decide (¬ se t = -1))) (by simp only [decide_eq_false_iff_not, Decidable.not_not]; exact c_25)]; rfl)) ?_
        refine lv_istore_n (lv' := [(2, .int (nI (cnt (fun t => decide (¬ se t = -1)) (t + 1)))), (3, .int (nI t)), (0, .ref ((ad 0))), (1, .int (nI 6))]) hx hb dX4_count_34 rfl hl (by decide) rfl (fun ls hl => ?_)
        refine lv_iinc (v := nI (t + 1)) (lv' := [(3, .int (nI (t + 1))), (2, .int (nI (cnt (fun t => decide (¬ se t = -1)) (t + 1)))), (0, .ref ((ad 0))), (1, .int (nI 6))]) hx hb dX4_count_35 hl (k := 1) rfl (by exact nI_1 _) (by decide) rfl (fun ls hl => ?_)
        refine lv_goto (tgt := 9) hx hb dX4_count_38 (by decide) ?_
        exact iht ls H locs ⟨lv_sub hl [0, 1, 2, 3] rfl, hP, hD, hS⟩
      · skip
        refine lv_iconst (v := nI 0) hx hb dX4_count_28 (by decide) ?_
        refine lv_goto (tgt := 33) hx hb dX4_count_29 (by decide) ?_
        refine lv_iadd hx hb dX4_count_33 ?_
        refine tp_i (y := nI ((cnt (fun t => decide (¬ se t = -1)) t) + 0)) (by exact nI_add _ _) ?_
        refine tp_i (y := nI (cnt (fun t => decide (¬ se t = -1)) (t + 1))) (by first | (rw [cnt_t (f := (fun t => decide (¬ se t = -1))) (by simp only [decide_eq_true_eq]; exact c_25)]; done) | (rw [cnt_f (f := (fun t => decide (¬ se t = -1))) (by simp only [decide_eq_false_iff_not, Decidable.not_not]; exact c_25)]; rfl)) ?_
        refine lv_istore_n (lv' := [(2, .int (nI (cnt (fun t => decide (¬ se t = -1)) (t + 1)))), (3, .int (nI t)), (0, .ref ((ad 0))), (1, .int (nI 6))]) hx hb dX4_count_34 rfl hl (by decide) rfl (fun ls hl => ?_)
        refine lv_iinc (v := nI (t + 1)) (lv' := [(3, .int (nI (t + 1))), (2, .int (nI (cnt (fun t => decide (¬ se t = -1)) (t + 1)))), (0, .ref ((ad 0))), (1, .int (nI 6))]) hx hb dX4_count_35 hl (k := 1) rfl (by exact nI_1 _) (by decide) rfl (fun ls hl => ?_)
        refine lv_goto (tgt := 9) hx hb dX4_count_38 (by decide) ?_
        exact iht ls H locs ⟨lv_sub hl [0, 1, 2, 3] rfl, hP, hD, hS⟩
  · skip
    clear hl hP hD hS
    obtain ⟨hl, hP, hD, hS⟩ := hI
    refine lv_iload_n hx hb dX4_count_9 rfl (lv_at hl 0 rfl) ?_
    refine lv_aload_n hx hb dX4_count_10 rfl (lv_at hl 2 rfl) ?_
    refine va_get (D := D) (ci := 5) (v := .int (nI T)) (C := RX4) (T := TX4) (N := 21) hx hb hts (by decide +kernel) hown hK hP 0 rfl rfl 1 (by decide) (hts (.fieldLink RX4 50 "TrackDiskModel" "tracks" "I") (by decide +kernel)) (fun _ h9 => h9) rfl dX4_count_11 ?_
    refine lv_icmp_ge (tgt := 41) hx hb dX4_count_14 (by decide) (fun c_14 => ?_) (fun c_14 => ?_)
    · skip
      refine lv_iload_n hx hb dX4_count_41 rfl (lv_at hl 3 rfl) ?_
      refine lv_tableIn (off := 77) (tgt := 119) hx hb dX4_count_42 (by decide) (by decide) (by decide) (by decide) ?_
      refine lv_aload_n hx hb dX4_count_119 rfl (lv_at hl 2 rfl) ?_
      refine va_get (D := D) (ci := 5) (v := .int (nI (d + 1))) (C := RX4) (T := TX4) (N := 21) hx hb hts (by decide +kernel) hown hK hP 0 rfl rfl 12 (by decide) (hts (.fieldLink RX4 101 "TrackDiskModel" "dumps" "I") (by decide +kernel)) (fun _ h9 => h9) rfl dX4_count_120 ?_
      refine lv_if_ne (tgt := 130) hx hb dX4_count_123 (by decide) (fun c_123 => ?_) (fun c_123 => ?_)
      · skip
        refine lv_aload_n hx hb dX4_count_130 rfl (lv_at hl 2 rfl) ?_
        refine lv_aload_n hx hb dX4_count_131 rfl (lv_at hl 2 rfl) ?_
        refine va_get (D := D) (ci := 5) (v := .int (nI (d + 1))) (C := RX4) (T := TX4) (N := 21) hx hb hts (by decide +kernel) hown hK hP 0 rfl rfl 12 (by decide) (hts (.fieldLink RX4 101 "TrackDiskModel" "dumps" "I") (by decide +kernel)) (fun _ h9 => h9) rfl dX4_count_132 ?_
        refine lv_iconst (v := nI 1) hx hb dX4_count_135 (by decide) ?_
        refine lv_isub hx hb dX4_count_136 ?_
        refine tp_i (y := nI d) (by rw [pk_sub (by omega)]; rfl) ?_
        have hPc := hP.sub (ws' := moW κ T S ad (nI 0) bs kp sm ks se sp ke kq vo (nI (d + 1)) wn wt wx wb dn tp tn ts) [0, 1, 2, 3, 4, 5, 6, 7, 8, 9, 10, 11, 12, 13] rfl
        refine pu_call (va_runV (As := [.int (nI d)]) (rest := []) ⟨hx, hb, hml, hown, hts⟩ (m_differs l D κ T S ad (nI 0) bs kp sm ks se sp ke kq vo (nI (d + 1)) wn wt wx wb dn tp tn ts d hd) (cwV 1 hts gX4_count_X4_differs rfl rfl rfl (by decide +kernel) ⟨Nat.le_of_ble_eq_true rfl, Nat.le_of_ble_eq_true rfl⟩) ⟨pu_blind, va_recv hK hPc (ci := 5) (q0 := 0) rfl rfl, pu_pre hK hPc⟩ rfl rfl hl.1 rfl (lv_room (Nat.le_of_ble_eq_true rfl)) dX4_count_137 ⟨Nat.le_of_ble_eq_true rfl, Nat.le_of_ble_eq_true rfl⟩) ?_
        have hP9 : va_P D vwCl (moW κ T S ad (nI 0) bs kp sm ks se sp ke kq vo (nI (d + 1)) wn wt wx wb dn tp tn ts) H := hP
        have hD9 : va_D A (moW κ T S ad (nI 0) bs kp sm ks se sp ke kq vo (nI (d + 1)) wn wt wx wb dn tp tn ts) := hD
        exact W.iret hx hb hr (fun t ht _ => ⟨⟨rfl, by rw [ht]; exact hP9, hD9⟩, hS.F ht⟩) hS.2.2 dX4_count_140 hlocks
      · exact absurd c_123 (nI_ne0 (by omega) (by omega))
    · exact absurd (nI_le (Nat.le_refl _) (by omega)) c_14

set_option maxHeartbeats 4000000 in
set_option maxRecDepth 100000 in
/-- count of others -/
theorem m_count_no (l : Launch) (D : va_G) (κ : Nat → ClassId) (sz : Nat) (T S : Nat) (ad : Nat → Nat) (co : Int32) (bs kp sm ks se sp ke kq vo : Nat → Int32) (nd wn : Int32) (wt wx wb : Nat → Int32) (dn : Int32) (tp : Nat → Int32) (tn ts : Int32) (hT : T ≤ 12) (x : Int32) (hno : x.toInt < 0 ∨ 6 < x.toInt) : Met l yX4_count wsX4_count ({ frames := 1, cells := 0, slots := 0, locals := 25 }) (va_Pc [.ref ((ad 0)), .int x] (mu_B D κ (moW κ T S ad co bs kp sm ks se sp ke kq vo nd wn wt wx wb dn tp tn ts) sz)) (mu_Q D (some (.int ((-1)))) (moW κ T S ad (nI 0) bs kp sm ks se sp ke kq vo nd wn wt wx wb dn tp tn ts) (va_A (moW κ T S ad co bs kp sm ks se sp ke kq vo nd wn wt wx wb dn tp tn ts) sz)) 0 0 (va_A (moW κ T S ad co bs kp sm ks se sp ke kq vo nd wn wt wx wb dn tp tn ts) sz) := by
  refine Met.ofW (cc := cX4_count) (maxL := 4) (ret := (some .int)) (by decide) rfl ?_
  intro p e s m args below meth c s₁ B hml hv
  obtain ⟨rfl, hsz, hP, hK, hD0⟩ := hv
  have hx := B.exec
  have hb := B.bytes
  have hr := B.returns
  have hts := atoms_spec (ws := wsX4_count) B.pre
  have hown : s.vm.findClass RX4 = some m.cls := findClass_of_methodNamed B.named
  have hlocks := B.notSynchronized
  subst hsz
  have hD := hD0.self (sz := s.heap.size)
  generalize hAe : va_A (moW κ T S ad co bs kp sm ks se sp ke kq vo nd wn wt wx wb dn tp tn ts) s.heap.size = A at hD ⊢
  have hA : ∀ q : Nat, s.heap.size ≤ q → A q := fun q h => by rw [← hAe]; exact Or.inr h
  refine W.gen (P := fun H locs => va_P D vwCl (moW κ T S ad co bs kp sm ks se sp ke kq vo nd wn wt wx wb dn tp tn ts) H ∧ va_S A s.heap H locs) (fun H locs h => ?_) ⟨hP, va_S.rf⟩
  clear hP
  obtain ⟨hP, hS⟩ := h
  have hl := lv_entry ([.ref ((ad 0)), .int x]) (n := 4) (Nat.le_of_ble_eq_true rfl)
  rw [lg_entry_eq]
  generalize (lg_sl ([.ref ((ad 0)), .int x]) ++ List.replicate (4 - (lg_sl ([.ref ((ad 0)), .int x])).length) Slot.unset).toArray = ls at hl ⊢
  have hl : lv_has ls 4 [(0, .ref ((ad 0))), (1, .int x)] := hl
  refine lv_aload_n hx hb dX4_count_0 rfl (lv_at hl 0 rfl) ?_
  refine lv_iconst (v := nI 0) hx hb dX4_count_1 (by decide) ?_
  refine va_put (D := D) (ci := 5) (v := .int (nI 0)) (ty := .int) (C := RX4) (T := TX4) (N := 21) hx hb hts (by decide +kernel) tyX4 tyX4_ok nmX4 hown hK hP hD hS 0 rfl rfl 0 (by decide) (hts (.fieldLink RX4 61 "TrackDiskModel" "code" "I") (by decide +kernel)) (fun _ h9 => h9) rfl (by decide +kernel) rfl rfl (Nat.le_of_ble_eq_true rfl) dX4_count_2 (fun H locs hP hD hS => ?_)
  have hP : va_P D vwCl (moW κ T S ad (nI 0) bs kp sm ks se sp ke kq vo nd wn wt wx wb dn tp tn ts) H := hP
  have hD : va_D A (moW κ T S ad (nI 0) bs kp sm ks se sp ke kq vo nd wn wt wx wb dn tp tn ts) := hD
  refine lv_iconst (v := nI 0) hx hb dX4_count_5 (by decide) ?_
  refine lv_istore_n (lv' := [(2, .int (nI 0)), (0, .ref ((ad 0))), (1, .int x)]) hx hb dX4_count_6 rfl hl (by decide) rfl (fun ls hl => ?_)
  refine lv_iconst (v := nI 0) hx hb dX4_count_7 (by decide) ?_
  refine lv_istore_n (lv' := [(3, .int (nI 0)), (2, .int (nI 0)), (0, .ref ((ad 0))), (1, .int x)]) hx hb dX4_count_8 rfl hl (by decide) rfl (fun ls hl => ?_)
  refine W.loop (N := T) (I := fun t ls H locs => lv_has ls 4 [(3, .int (nI t)), (2, .int (nI (cnt (fun t => decide (¬ se t = -1)) t))), (0, .ref ((ad 0))), (1, .int x)] ∧ va_P D vwCl (moW κ T S ad (nI 0) bs kp sm ks se sp ke kq vo nd wn wt wx wb dn tp tn ts) H ∧ va_D A (moW κ T S ad (nI 0) bs kp sm ks se sp ke kq vo nd wn wt wx wb dn tp tn ts) ∧ va_S A s.heap H locs) 0 (by omega) (fun t ls H locs ht hI iht => ?_) (fun ls H locs hI => ?_) ⟨lv_sub hl [0, 1, 2, 3] rfl, hP, hD, hS⟩
  · skip
    clear hl hP hD hS
    obtain ⟨hl, hP, hD, hS⟩ := hI
    refine lv_iload_n hx hb dX4_count_9 rfl (lv_at hl 0 rfl) ?_
    refine lv_aload_n hx hb dX4_count_10 rfl (lv_at hl 2 rfl) ?_
    refine va_get (D := D) (ci := 5) (v := .int (nI T)) (C := RX4) (T := TX4) (N := 21) hx hb hts (by decide +kernel) hown hK hP 0 rfl rfl 1 (by decide) (hts (.fieldLink RX4 50 "TrackDiskModel" "tracks" "I") (by decide +kernel)) (fun _ h9 => h9) rfl dX4_count_11 ?_
    refine lv_icmp_ge (tgt := 41) hx hb dX4_count_14 (by decide) (fun c_14 => ?_) (fun c_14 => ?_)
    · exact absurd c_14 (nI_ge ht (by omega))
    · skip
      refine lv_iload_n hx hb dX4_count_17 rfl (lv_at hl 1 rfl) ?_
      refine lv_aload_n hx hb dX4_count_18 rfl (lv_at hl 2 rfl) ?_
      refine va_get (D := D) (ci := 5) (v := .ref ((ad 5))) (C := RX4) (T := TX4) (N := 21) hx hb hts (by decide +kernel) hown hK hP 0 rfl rfl 7 (by decide) (hts (.fieldLink RX4 23 "TrackDiskModel" "sent" "[I") (by decide +kernel)) (fun _ h9 => h9) rfl dX4_count_19 ?_
      refine lv_iload_n hx hb dX4_count_22 rfl (lv_at hl 0 rfl) ?_
      refine va_iald hx hb hK hP 5 0 rfl rfl (vp_in_nI (by omega) (by omega)) dX4_count_23 ?_
      refine tp_i (y := se t) (by rw [nI_clamp (by omega)]) ?_
      refine lv_iconst (v := (-1)) hx hb dX4_count_24 (by decide) ?_
      refine lv_icmp_ne (tgt := 32) hx hb dX4_count_25 (by decide) (fun c_25 => ?_) (fun c_25 => ?_)
      · skip
        refine lv_iconst (v := nI 1) hx hb dX4_count_32 (by decide) ?_
        refine lv_iadd hx hb dX4_count_33 ?_
        refine tp_i (y := nI ((cnt (fun t => decide (¬ se t = -1)) t) + 1)) (by exact nI_add _ _) ?_
        refine tp_i (y := nI (cnt (fun t => decide (¬ se t = -1)) (t + 1))) (by first | (rw [cnt_t (f := (fun t => decide (¬ se t = -1))) (by simp only [decide_eq_true_eq]; exact c_25)]; done) | (rw [cnt_f (f := (fun t => decide (¬ se t = -1))) (by simp only [decide_eq_false_iff_not, Decidable.not_not]; exact c_25)]; rfl)) ?_
        refine lv_istore_n (lv' := [(2, .int (nI (cnt (fun t => decide (¬ se t = -1)) (t + 1)))), (3, .int (nI t)), (0, .ref ((ad 0))), (1, .int x)]) hx hb dX4_count_34 rfl hl (by decide) rfl (fun ls hl => ?_)
        refine lv_iinc (v := nI (t + 1)) (lv' := [(3, .int (nI (t + 1))), (2, .int (nI (cnt (fun t => decide (¬ se t = -1)) (t + 1)))), (0, .ref ((ad 0))), (1, .int x)]) hx hb dX4_count_35 hl (k := 1) rfl (by exact nI_1 _) (by decide) rfl (fun ls hl => ?_)
        refine lv_goto (tgt := 9) hx hb dX4_count_38 (by decide) ?_
        exact iht ls H locs ⟨lv_sub hl [0, 1, 2, 3] rfl, hP, hD, hS⟩
      · skip
        refine lv_iconst (v := nI 0) hx hb dX4_count_28 (by decide) ?_
        refine lv_goto (tgt := 33) hx hb dX4_count_29 (by decide) ?_
        refine lv_iadd hx hb dX4_count_33 ?_
        refine tp_i (y := nI ((cnt (fun t => decide (¬ se t = -1)) t) + 0)) (by exact nI_add _ _) ?_
        refine tp_i (y := nI (cnt (fun t => decide (¬ se t = -1)) (t + 1))) (by first | (rw [cnt_t (f := (fun t => decide (¬ se t = -1))) (by simp only [decide_eq_true_eq]; exact c_25)]; done) | (rw [cnt_f (f := (fun t => decide (¬ se t = -1))) (by simp only [decide_eq_false_iff_not, Decidable.not_not]; exact c_25)]; rfl)) ?_
        refine lv_istore_n (lv' := [(2, .int (nI (cnt (fun t => decide (¬ se t = -1)) (t + 1)))), (3, .int (nI t)), (0, .ref ((ad 0))), (1, .int x)]) hx hb dX4_count_34 rfl hl (by decide) rfl (fun ls hl => ?_)
        refine lv_iinc (v := nI (t + 1)) (lv' := [(3, .int (nI (t + 1))), (2, .int (nI (cnt (fun t => decide (¬ se t = -1)) (t + 1)))), (0, .ref ((ad 0))), (1, .int x)]) hx hb dX4_count_35 hl (k := 1) rfl (by exact nI_1 _) (by decide) rfl (fun ls hl => ?_)
        refine lv_goto (tgt := 9) hx hb dX4_count_38 (by decide) ?_
        exact iht ls H locs ⟨lv_sub hl [0, 1, 2, 3] rfl, hP, hD, hS⟩
  · skip
    clear hl hP hD hS
    obtain ⟨hl, hP, hD, hS⟩ := hI
    refine lv_iload_n hx hb dX4_count_9 rfl (lv_at hl 0 rfl) ?_
    refine lv_aload_n hx hb dX4_count_10 rfl (lv_at hl 2 rfl) ?_
    refine va_get (D := D) (ci := 5) (v := .int (nI T)) (C := RX4) (T := TX4) (N := 21) hx hb hts (by decide +kernel) hown hK hP 0 rfl rfl 1 (by decide) (hts (.fieldLink RX4 50 "TrackDiskModel" "tracks" "I") (by decide +kernel)) (fun _ h9 => h9) rfl dX4_count_11 ?_
    refine lv_icmp_ge (tgt := 41) hx hb dX4_count_14 (by decide) (fun c_14 => ?_) (fun c_14 => ?_)
    · skip
      refine lv_iload_n hx hb dX4_count_41 rfl (lv_at hl 3 rfl) ?_
      refine lv_tableOut (tgt := 141) hx hb dX4_count_42 (hno) (by decide) ?_
      refine lv_iconst (v := (-1)) hx hb dX4_count_141 (by decide) ?_
      have hP9 : va_P D vwCl (moW κ T S ad (nI 0) bs kp sm ks se sp ke kq vo nd wn wt wx wb dn tp tn ts) H := hP
      have hD9 : va_D A (moW κ T S ad (nI 0) bs kp sm ks se sp ke kq vo nd wn wt wx wb dn tp tn ts) := hD
      exact W.iret hx hb hr (fun t ht _ => ⟨⟨rfl, by rw [ht]; exact hP9, hD9⟩, hS.F ht⟩) hS.2.2 dX4_count_142 hlocks
    · exact absurd (nI_le (Nat.le_refl _) (by omega)) c_14

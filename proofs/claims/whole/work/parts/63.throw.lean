/-! The throw of TrackDisk.read: what it needs of the start, and what it does -/
def nmT : List String := ["java/lang/IndexOutOfBoundsException", "java/lang/RuntimeException", "java/lang/Exception"]
def oA : List Cond := Bundle.ownAtoms RX3 73 RJx00060 nmT
def tA : List Cond := oA.filter (fun w => w.onTables && w.keeps)
def isDC : Cond → Bool
  | .declares _ => true
  | .castable _ _ => true
  | _ => false
def dA : List Cond := oA.filter isDC
set_option maxRecDepth 20000 in
theorem dA_in : ∀ w ∈ dA, w ∈ lw_tbl := by decide +kernel
theorem dA_ok : ∀ w ∈ dA, isDC w = true := fun w h => (List.mem_filter.mp h).2
theorem dc_warm {w : Cond} (h : isDC w = true) {s U : State} (hW : s.WarmedH U.vm) (hb : w.before #[] s = true) : w.before #[] U = true := by
  cases w <;> first | exact va_Nw.warmD hW hb | exact va_Nw.warmC hW hb | (exfalso; revert h; simp [isDC]; done)
theorem dc_tab {w : Cond} (h : isDC w = true) : w.onTables = true := by
  cases w <;> first | rfl | (exfalso; revert h; simp [isDC]; done)
set_option maxRecDepth 20000 in
theorem own_split : ∀ a ∈ oA, a ∈ tA ∨ a ∈ dA ∨ a = Cond.laysStatic Bundle.tN "UNASSIGNED_STACK" Bundle.steD ∨ a = Cond.laysStatic Bundle.tN "SUPPRESSED_SENTINEL" Bundle.listD ∨ a = Cond.isRef (.static Bundle.tN "UNASSIGNED_STACK" Bundle.steD) ∨ a = Cond.isRef (.static Bundle.tN "SUPPRESSED_SENTINEL" Bundle.listD) := by decide +kernel
set_option maxRecDepth 20000 in
theorem tA_in : ∀ w ∈ tA, w ∈ lw_tbl := by decide +kernel
theorem tA_ok : ∀ w ∈ tA, (w.onTables && w.keeps) = true := fun w h => (List.mem_filter.mp h).2
def thr (U : State) : Prop := ((∀ a ∈ tA, a.before #[] U = true) ∧ ∀ a ∈ dA, a.before #[] U = true) ∧ va_Zq Bundle.tN "UNASSIGNED_STACK" Bundle.steD (fun _ => False) U U.heap ∧ va_Zq Bundle.tN "SUPPRESSED_SENTINEL" Bundle.listD (fun _ => False) U U.heap ∧ (∃ qs, vk_R RX3 71 "no such byte on the disk" qs U) ∧ (Cond.laysStatic Bundle.tN "UNASSIGNED_STACK" Bundle.steD).before #[] U = true ∧ (Cond.laysStatic Bundle.tN "SUPPRESSED_SENTINEL" Bundle.listD).before #[] U = true
theorem lays_moved {C n d : String} {A A' : Array Value} {s U : State} (hl : (Cond.laysStatic C n d).before A s = true) (hvm : s.vm.Alike U.vm) (hH : ∀ q : Nat, q < s.heap.size → U.heap[q]? = s.heap[q]?) : (Cond.laysStatic C n d).before A' U = true := by
  obtain ⟨c, k, i, f, a, cell, hc, hi, hst, ha, hcell, hs, hcls, hlt, hty⟩ := Cond.laysStatic_spec hl
  obtain ⟨k', hi', hek⟩ := State.fieldFound?_setVm hvm hi
  exact Cond.laysStatic_of (s := U) (by rw [hvm.findClass]; exact hc) hi' hst (by rw [hek]; exact ha) (by rw [hH a (Array.getElem?_eq_some_iff.mp hcell).1]; exact hcell) hs hcls hlt (by rw [hek]; exact hty)
theorem isRef_of {C n d : String} {args : Array Value} {U : State} (h : va_Zq C n d (fun _ => False) U U.heap) : (Cond.isRef (.static C n d)).before args U = true := by
  rcases h with ⟨cf, kf, fi, f, a, cell, hf, hst, hin, hsta, hcell, hiss, hv, -⟩ | ⟨t, cf, kf, fi, f, a, cell, hf, hst, hin, hsta, hcell, hiss, hv, -⟩
  · simp [Cond.before, Cond.holds, Cond.value, Term.eval, State.fieldNamed?, hf, hst, hsta, hcell, hiss, hv]
  · simp [Cond.before, Cond.holds, Cond.value, Term.eval, State.fieldNamed?, hf, hst, hsta, hcell, hiss, hv]
theorem thr_atoms {U : State} (h : thr U) (args : Array Value) : ∀ a ∈ oA, a.before args U = true := by
  intro a ha
  rcases own_split a ha with q | q | rfl | rfl | rfl | rfl
  · have h1 := tA_ok a q
    rw [Bool.and_eq_true] at h1
    exact va_tabs h1.1 rfl (h.1.1 a q)
  · exact va_tabs (dc_tab (dA_ok a q)) rfl (h.1.2 a q)
  · exact lays_moved h.2.2.2.2.1 (Vm.Alike.refl U.vm) (fun _ _ => rfl)
  · exact lays_moved h.2.2.2.2.2 (Vm.Alike.refl U.vm) (fun _ _ => rfl)
  · exact isRef_of h.2.1
  · exact isRef_of h.2.2.1
theorem thr_blind {U : State} {g : JFrame} {mk : MethodId} {a : Array Value} (h : thr U) : thr (U.calling g mk a) := by
  refine ⟨⟨fun w hw => ?_, fun w hw => va_tabs (A := #[]) (u := U) (dc_tab (dA_ok w hw)) rfl (h.1.2 w hw)⟩, ?_, ?_, ?_, lays_moved (s := U) h.2.2.2.2.1 (Vm.Alike.refl U.vm) (fun _ _ => rfl), lays_moved (s := U) h.2.2.2.2.2 (Vm.Alike.refl U.vm) (fun _ _ => rfl)⟩
  · have h1 := tA_ok w hw
    rw [Bool.and_eq_true] at h1
    exact va_tabs (A := #[]) (u := U) h1.1 rfl (h.1.1 w hw)
  · exact va_Zq.moved (u := U) (Vm.Alike.refl U.vm) h.2.1
  · exact va_Zq.moved (u := U) (Vm.Alike.refl U.vm) h.2.2.1
  · obtain ⟨qs, hq⟩ := h.2.2.2.1
    exact ⟨qs, vk_R.same rfl hq⟩
theorem thr_moved {s U : State} (h : thr s) (hW : s.WarmedH U.vm) (hH : ∀ q : Nat, q < s.heap.size → U.heap[q]? = s.heap[q]?) : thr U := by
  refine ⟨⟨fun w hw => word_at hW (Or.inl (tA_ok w hw)) (h.1.1 w hw), fun w hw => dc_warm (dA_ok w hw) hW (h.1.2 w hw)⟩, ?_, ?_, ?_, lays_moved h.2.2.2.2.1 hW.alike hH, lays_moved h.2.2.2.2.2 hW.alike hH⟩
  · exact (h.2.1.kept (fun a ha _ => hH a ha)).moved hW.alike
  · exact (h.2.2.1.kept (fun a ha _ => hH a ha)).moved hW.alike
  · obtain ⟨qs, hq⟩ := h.2.2.2.1
    exact ⟨qs, vk_R.warm hW hq⟩
/-- it threw: a new object of the exception's class; nothing that was there has changed -/
def th_Q : Array Value → State → Outcome → State → Prop := fun _ st o t => o = .threw st.heap.size ∧ st.WarmedH t.vm ∧ st.sameButNew ({ t with vm := st.vm } : State) [] 1 6 ∧ ∃ ce : Cell, t.heap[st.heap.size]? = some ce ∧ st.vm.findClass RJx00060 = some ce.cls ∧ st.vm.assignable ce.cls ce.cls = true ∧ ce.vm = .none
def th_B (D : va_G) (κ : Nat → ClassId) (w : va_W) : State → Prop := fun U => pu_B D κ w U ∧ thr U
theorem th_i {a b : Bool} (h : (a && b) = false) (ha : a = true) : b = false := by rw [ha, Bool.true_and] at h; exact h

set_option maxHeartbeats 4000000 in
set_option maxRecDepth 100000 in
/-- read throws -/
theorem c_read_th (l : Launch) (hst : l.stackTraces = false) (D : va_G) (κ : Nat → ClassId) (T S : Nat) (ad : Nat → Nat) (bs sm pl r0 r1 : Nat → Int32) (tk vo : Int32) (du : Nat → Option Nat) (nd : Int32) (wt wx wb : Nat → Int32) (wn : Int32) (tp : Nat → Int32) (tn ts dn : Int32) (x y i : Int32) (hno : (inF x T && inF y S && inF i 16) = false) : MetFree l yX3_read (headSpec wsX3_read ({ frames := 7, cells := 1, slots := 6, locals := 120 })) (va_Pc [.ref ((ad 0)), .int x, .int y, .int i] (th_B D κ (tdW κ T S ad bs sm pl r0 r1 tk vo du nd wt wx wb wn tp tn ts dn))) (fun _ _ _ _ _ => True) th_Q := by
  refine MetFree.of_bodyS (code := cX3_read) (maxLocals := 4) (ret := some .byte) (by decide) ?_ ?_
  · intro args s m h hn
    obtain ⟨meth, c, h1, h2, h3, h4, h5, h6, -, -⟩ := Cond.code_spec hn (atoms_spec (ws := wsX3_read) h _ List.mem_cons_self)
    exact ⟨meth, c, h1, h2, h3, h4, h5, h6⟩
  · intro p e s m args below meth c s₁ B hml0 hPc _
    have hh0 : s₁.heap = s.heap := by rw [B.state]; rfl
    suffices hW : W p l e (headSpec wsX3_read ({ frames := 7, cells := 1, slots := 6, locals := 120 })).room s m args below meth c s.heap [] 0 0 (fun t => ∃ o, t.status = .running ∧ Ended t below o ∧ th_Q args s o t) (entryFrame m args 4) by
      obtain ⟨t, a1, o, b1, b2, b3⟩ := hW s₁ hh0 (Stand.of_body B)
      exact ⟨t, o, a1, b1, b2, b3⟩
    obtain ⟨rfl, ⟨hP, hK⟩, hth⟩ := hPc
    have hx := B.exec
    have hb := B.bytes
    have hts := atoms_spec (ws := wsX3_read) B.pre
    have hown : s.vm.findClass RX3 = some m.cls := findClass_of_methodNamed B.named
    have hlocks := B.notSynchronized
    have hml : c.maxLocals = 4 := B.maxLocals_eq (hts _ List.mem_cons_self)
    have htab : ∀ z ∈ c.exceptionTable.toList, covers z 25 = false := by
      obtain ⟨meth9, c9, g1, g2, -, -, -, -, g3, -⟩ := Cond.code_spec B.named (hts _ List.mem_cons_self)
      have e1 : meth9 = meth := Option.some.inj (g1.symm.trans B.method)
      subst e1
      intro z hz
      exfalso
      have X0 := Stand.of_body B
      have e2 : c9 = c := Option.some.inj (g2.symm.trans X0.code)
      subst e2
      simp [Array.isEmpty_iff.mp g3] at hz
    have hl := lv_entry ([.ref ((ad 0)), .int x, .int y, .int i]) (n := 4) (Nat.le_of_ble_eq_true rfl)
    rw [lg_entry_eq]
    generalize (lg_sl ([.ref ((ad 0)), .int x, .int y, .int i]) ++ List.replicate (4 - (lg_sl ([.ref ((ad 0)), .int x, .int y, .int i])).length) Slot.unset).toArray = ls at hl ⊢
    have hl : lv_has ls 4 [(0, .ref (ad 0)), (1, .int x), (2, .int y), (3, .int i)] := hl
    refine W.cut2 (g2 := F0 m 16 ls []) ?_ (fun K16 => ?_)
    · refine W.newc hx hb hown (hts (.classLink RX3 69 RJx00060) (by decide +kernel)) (hts (.instantiable RJx00060 6) (by decide +kernel)) (hts (.initialized RJx00060) (by decide +kernel)) rfl dX3_read_16 (Nat.le_of_ble_eq_true rfl) (Nat.le_of_ble_eq_true rfl) (fun cC kC hcC hkC hord hsz => ?_)
      refine W.eq (g2 := F0 m 19 ls [.ref s.heap.size]) rfl ?_
      refine lv_dup hx hb dX3_read_19 rfl ?_
      obtain ⟨qs, hqs⟩ := hth.2.2.2.1
      refine va_ldcS hx hb hown hqs dX3_read_20 ?_
      intro T9 hT9 X9
      obtain ⟨U, u1, u2, u3, u4, u5, ce, u6, u7⟩ := X9.ctorThrowS hx (by rw [B.admits.platform]; exact hst) (own := RX3) (cls := RJx00060) (names := nmT) (ic := 73) hown (by decide +kernel) (by decide +kernel) (thr_atoms hth _) (fun x hx => by cases hx) hcC hkC (by rw [hT9]; exact Array.getElem?_push_size) (Nat.le_refl _) (msg := .ref qs) rfl (g := F0 m 22 ls [.ref qs, .ref s.heap.size, .ref s.heap.size]) rfl (by rw [hml]; exact hl.1) rfl rfl (rest := []) rfl (by rw [hb]; exact dX3_read_22) (by rw [hb]; exact dX3_read_25) htab (by decide) (Nat.le_of_ble_eq_true rfl) hlocks
      exact ⟨U, u1, .threw s.heap.size, u2, u3, rfl, u4, u5, ce, u6, u7.cls, u7.self, u7.vm⟩
    · skip
      refine lv_aload_n hx hb dX3_read_0 rfl (lv_at hl 0 rfl) ?_
      refine lv_iload_n hx hb dX3_read_1 rfl (lv_at hl 1 rfl) ?_
      refine lv_iload_n hx hb dX3_read_2 rfl (lv_at hl 2 rfl) ?_
      have hPc := hP.sub (ws' := tdW κ T S ad bs sm pl r0 r1 tk vo du nd wt wx wb wn tp tn ts dn) [0, 1, 2, 3, 4, 5, 6, 7, 8, 9, 10, 11, 12, 13] rfl
      refine pu_call (va_runV (As := [.int x, .int y]) (rest := []) ⟨hx, hb, hml, hown, hts⟩ (c_hasSector l D κ T S ad bs sm pl r0 r1 tk vo du nd wt wx wb wn tp tn ts dn x y) (cwV 2 hts gX3_read_X3_hasSector rfl rfl rfl (by decide +kernel) ⟨Nat.le_of_ble_eq_true rfl, Nat.le_of_ble_eq_true rfl⟩) ⟨pu_blind, va_recv hK hPc (ci := 4) (q0 := 0) rfl rfl, pu_pre hK hPc⟩ rfl rfl hl.1 rfl (lv_room (Nat.le_of_ble_eq_true rfl)) dX3_read_3 ⟨Nat.le_of_ble_eq_true rfl, Nat.le_of_ble_eq_true rfl⟩) ?_
      refine lv_if_eq (tgt := 16) hx hb dX3_read_6 (by decide) (fun c_6 => ?_) (fun c_6 => ?_)
      · skip
        exact K16
      · skip
        refine lv_iload_n hx hb dX3_read_9 rfl (lv_at hl 3 rfl) ?_
        have hPc := hP.sub (ws' := []) [] rfl
        refine pu_call (va_runS (As := [.int i]) (rest := []) ⟨hx, hb, hml, hown, hts⟩ (c_isByte l D κ i) (va_cwS 1 hts gX3_read_X3_isByteNumber rfl rfl rfl (by decide +kernel) ⟨Nat.le_of_ble_eq_true rfl, Nat.le_of_ble_eq_true rfl⟩) ⟨pu_blind, pu_pre hK hPc⟩ rfl rfl hl.1 rfl (lv_room (Nat.le_of_ble_eq_true rfl)) dX3_read_10 ⟨Nat.le_of_ble_eq_true rfl, Nat.le_of_ble_eq_true rfl⟩) ?_
        refine lv_if_ne (tgt := 26) hx hb dX3_read_13 (by decide) (fun c_13 => ?_) (fun c_13 => ?_)
        · exact (bI_cf (th_i hno (bI_ne c_6)) c_13).elim
        · skip
          exact K16

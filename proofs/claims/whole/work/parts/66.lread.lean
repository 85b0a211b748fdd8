/-! The law's own read: with an answer, and with a throw that it catches -/
section SW
variable {p : Program} {l : Launch} {e : Env} {R : Room} {s : State} {m : MethodId} {args : Array Value} {below : List Frame} {meth : Method} {c : Code} {H : Heap} {locs : List Loc} {cells slots : Nat} {Q : State → Prop}
variable {y : MethodName} {bytes cc : ByteArray} {maxL nL mc ms n index : Nat} {ret : Option FieldType} {ws : List Cond} {rm : Room} {Pc : Array Value → State → Prop} {Qc : Array Value → State → Outcome → State → Prop} {free : Addr → Prop} {own : String} {As rest : List Value} {g : JFrame} {hh : List (Nat × Nat × Nat × Nat)}
theorem runSW (hx : p.tables.exec = Jvm.exec) (hb : c.code = cc) (hml : c.maxLocals = nL) (hown : s.vm.findClass own = some m.cls) (hM : Met l y ws rm Pc Qc mc ms free) (hrc : rm.cells = mc) (hrs : rm.slots = ms) (hfr : rm.frames + 1 ≤ R.frames) (hlo : 8 + (maxL + 11) + rm.locals ≤ R.locals)
    (hws : ∀ w ∈ ws, ∀ (a' : Array Value) (U : State), s.WarmedH U.vm → w.before a' U = true) (hcw : Cond.codeWith y bytes maxL ret hh ∈ ws) (hlink : (Cond.methodLink own index y).before args s = true) (hstat : (Cond.static y).before args s = true) (hini : (Cond.initialized y.cls).before args s = true)
    (hy : y.cls ≠ "java/lang/invoke/MethodHandle" ∧ y.cls ≠ "java/lang/invoke/VarHandle") (hpar : (parseMethodDescriptor y.desc).map (fun d => d.parameters.length) = some n) (hblind : FrameBlind Pc) (hpre : ∀ U : State, U.heap = H → s.WarmedH U.vm → Pc As.toArray U)
    (hg : g.method = m) (hn : As.length = n) (hsize : g.locals.size = nL) (hstack : g.stack = As.reverse ++ rest) (hW : 2 * g.monitorRoom + (rest.map fun v => v.category).sum ≤ 8) (hdg : decode cc g.pc = .ok (.invokestatic index, 3)) (hf : cells + mc ≤ R.cells ∧ slots + ms ≤ R.slots) :
    va_Run p l e R s m args below meth c H locs cells slots mc ms g rest (Qc As.toArray) free := by
  intro T hT X
  have hK : Back l R p e below s args y 3 8 (PreOf R mc ms Pc) (PostOf Qc mc ms free) := va_backW (bytes := bytes) (maxL := maxL) (ret := ret) (hh := hh) hM hblind hrc hrs hfr hlo hws hcw (fun a' U hW => word_at hW (Or.inl rfl) hini)
  obtain ⟨mk, methM, cM, hnamed, hmethM, -, -, -, -, -, -, hsigM⟩ := Cond.codeWith_spec (hws _ hcw args s (State.WarmedH.refl s))
  have hstatic : methM.isStatic = true := Cond.static_spec hnamed hmethM hstat
  obtain ⟨kP, hkP, -⟩ := className_of_methodNamed hnamed
  have hinitP : kP.init = .initialized := Cond.initialized_spec (findClass_of_methodNamed hnamed) hkP hini
  have hlen : As.length = methM.sig.parameters.length := by
    rw [hsigM] at hpar
    exact hn.trans (Option.some.inj hpar).symm
  have hdg' : decode c.code g.pc = .ok (.invokestatic index, 3) := by rw [hb]; exact hdg
  obtain ⟨vm₁, X₁, hstep₁⟩ := X.invokestatic hx hown hlink hnamed hmethM hstatic hkP hinitP hy (g := g) hg (argsL := As) (rest := rest) hlen hstack hdg'
  obtain ⟨v, ⟨U', l2, c2, s2⟩, X', ⟨g', mk', t, L, e1, e2, hq, h1, hL, h2, h3⟩, hsteps⟩ := hK m meth c ⟨T.setVm vm₁, locs, cells, slots⟩ { g with stack := rest } (.invokestatic index) mk As.toArray X₁ hg (hsize.trans hml.symm) hdg' hW (X₁.named hnamed) ⟨hf.1, hf.2, hpre (T.setVm vm₁) hT X₁.warmed⟩
  dsimp only [Pt.U, Pt.locs, Pt.cells, Pt.slots] at X' e1 e2 h1 h2 h3 hsteps
  subst h1; subst h2; subst h3
  exact ⟨v, (T.setVm vm₁).calling g' mk' As.toArray, t, U', L, hT, X', hL, e1, e2, hq, fun target h => hstep₁ _ fun acts => by rw [doInvoke_state]; exact hsteps.trans h⟩
end SW

set_option maxHeartbeats 4000000 in
set_option maxRecDepth 100000 in
theorem l_read_ok (l : Launch) (D : va_G) (κ : Nat → ClassId) (sz : Nat) (T S : Nat) (ad : Nat → Nat) (C : CS) (ds : List DS) (o : Nat) (ov : Nat → Int64) (x y i : Int32) (r : Int32) (hMc : CM l D κ yX3_read wsX3_read ({ frames := 2, cells := 0, slots := 0, locals := 44 }) [.ref (ad 0), .int x, .int y, .int i] (kW κ T S ad C ds) (kW κ T S ad C ds) (some (.int r))) : Met l yL_read wsL_read ({ frames := 3, cells := 0, slots := 0, locals := 67 }) (va_Pc [.ref (ad 0), .int x, .int y, .int i, .ref o] (mu_B D κ (kW κ T S ad C ds ++ [(o, .inl (κ 3, 1, .inr (.inl ov)))]) sz)) (mu_Q D (some (.int (nI 0))) (kW κ T S ad C ds ++ [(o, .inl (κ 3, 1, .inr (.inl (vp_updL ov 0 r.toInt64))))]) (va_A (kW κ T S ad C ds ++ [(o, .inl (κ 3, 1, .inr (.inl ov)))]) sz)) 0 0 (va_A (kW κ T S ad C ds ++ [(o, .inl (κ 3, 1, .inr (.inl ov)))]) sz) := by
  refine va_MetW (cc := cL_read) (maxL := 6) (ret := some .int) (hh := [(0, 12, 15, 13)]) (by decide) rfl ?_
  intro p e s m args below meth c s₁ B hml hv
  obtain ⟨rfl, hsz, hP, hK, hD0⟩ := hv
  have hx := B.exec
  have hb := B.bytes
  have hr := B.returns
  have hts := atoms_spec (ws := wsL_read) B.pre
  have hown : s.vm.findClass RL = some m.cls := findClass_of_methodNamed B.named
  have hlocks := B.notSynchronized
  subst hsz
  have hD := hD0.self (sz := s.heap.size)
  generalize hAe : va_A (kW κ T S ad C ds ++ [(o, .inl (κ 3, 1, .inr (.inl ov)))]) s.heap.size = A at hD ⊢
  have hA : ∀ q : Nat, s.heap.size ≤ q → A q := fun q h => by rw [← hAe]; exact Or.inr h
  have hl := lv_entry ([.ref (ad 0), .int x, .int y, .int i, .ref o]) (n := 6) (Nat.le_of_ble_eq_true rfl)
  rw [lg_entry_eq]
  generalize (lg_sl ([.ref (ad 0), .int x, .int y, .int i, .ref o]) ++ List.replicate (6 - (lg_sl ([.ref (ad 0), .int x, .int y, .int i, .ref o])).length) Slot.unset).toArray = ls at hl ⊢
  have hl : lv_has ls 6 [(0, .ref (ad 0)), (1, .int x), (2, .int y), (3, .int i), (4, .ref o)] := hl
  have hPt : va_P D vwCl (cW κ T S ad C ds) s.heap := va_P_mem cW_in hP
  have hS : va_S A s.heap s.heap [] := va_S.rf
  refine lv_aload hx hb dL_read_0 (lv_at hl 4 rfl) ?_
  refine lv_iconst (v := nI 0) hx hb dL_read_2 (by decide) ?_
  refine lv_aload_n hx hb dL_read_3 rfl (lv_at hl 0 rfl) ?_
  refine lv_iload_n hx hb dL_read_4 rfl (lv_at hl 1 rfl) ?_
  refine lv_iload_n hx hb dL_read_5 rfl (lv_at hl 2 rfl) ?_
  refine lv_iload_n hx hb dL_read_6 rfl (lv_at hl 3 rfl) ?_
  have hPc : va_P D vwCl (kW κ T S ad C ds) s.heap := va_P_mem (fun q h => List.mem_append_left _ h) hP
  have hDc : va_D A (kW κ T S ad C ds) := va_D_right (va_D_perm List.perm_append_comm hD)
  refine mu_callA (wc := kW κ T S ad C ds) (wr := [(o, .inl (κ 3, 1, .inr (.inl ov)))]) (wc' := kW κ T S ad C ds) (va_runV (As := [.int x, .int y, .int i]) (rest := [.int (nI 0), .ref o]) ⟨hx, hb, hml, hown, hts⟩ (hMc s.heap.size) (cwV 3 hts gL_read_X3_read rfl rfl rfl (by decide +kernel) ⟨Nat.le_of_ble_eq_true rfl, Nat.le_of_ble_eq_true rfl⟩) ⟨mu_blind, va_recv hK hPt (ci := 4) (q0 := 0) rfl rfl, mu_pre hK hPc hDc⟩ rfl rfl hl.1 rfl (lv_room (Nat.le_of_ble_eq_true rfl)) dL_read_7 ⟨Nat.le_of_ble_eq_true rfl, Nat.le_of_ble_eq_true rfl⟩) hP hD hS hA List.perm_append_comm (fun H locs hP hD hS => ?_)
  refine W.eq (g2 := F0 m 10 ls [.int r, .int (nI 0), .ref o]) rfl ?_
  refine lv_i2l (v := (r).toInt64) hx hb dL_read_10 rfl ?_
  refine va_last hx hb hK hP hD hS 0 3 rfl rfl (vp_in_nI (by omega) (by omega)) dL_read_11 (fun H locs hP hD hS => ?_)
  rw [nI_clamp (n := 0) (by omega)] at hP hD
  refine lv_goto (tgt := 19) hx hb dL_read_12 (by decide) ?_
  refine lv_iconst (v := nI 0) hx hb dL_read_19 (by decide) ?_
  have hP9 : va_P D vwCl (kW κ T S ad C ds ++ [(o, .inl (κ 3, 1, .inr (.inl (vp_updL ov 0 r.toInt64))))]) H := va_P_perm (w := [(o, .inl (κ 3, 1, .inr (.inl (vp_updL ov 0 r.toInt64))))] ++ kW κ T S ad C ds) List.perm_append_comm hP
  have hD9 : va_D A (kW κ T S ad C ds ++ [(o, .inl (κ 3, 1, .inr (.inl (vp_updL ov 0 r.toInt64))))]) := va_D_perm (w := [(o, .inl (κ 3, 1, .inr (.inl (vp_updL ov 0 r.toInt64))))] ++ kW κ T S ad C ds) List.perm_append_comm hD
  exact W.iret hx hb hr (fun t ht _ => ⟨⟨rfl, by rw [ht]; exact hP9, hD9⟩, hS.F ht⟩) hS.2.2 dL_read_20 hlocks

def tb_B (D : va_G) (κ : Nat → ClassId) (w : va_W) (sz : Nat) : State → Prop := fun U => mu_B D κ w sz U ∧ thr U ∧ (Cond.classLink RL 13 RJx00060).before #[] U = true
theorem tb_blind {D : va_G} {κ : Nat → ClassId} {w : va_W} {sz : Nat} {av : List Value} : FrameBlind (va_Pc av (tb_B D κ w sz)) := fun a U g mk q => ⟨q.1, (mu_blind (av := av) a U g mk ⟨q.1, q.2.1⟩).2, thr_blind q.2.2.1, va_tabs (A := #[]) (u := U) rfl rfl q.2.2.2⟩
set_option maxHeartbeats 4000000 in
set_option maxRecDepth 100000 in
theorem l_read_th (l : Launch) (hst : l.stackTraces = false) (D : va_G) (κ : Nat → ClassId) (sz : Nat) (T S : Nat) (ad : Nat → Nat) (C : CS) (ds : List DS) (o : Nat) (ov : Nat → Int64) (x y i : Int32) (hno : (inF x T && inF y S && inF i 16) = false) : Met l yL_read wsL_read ({ frames := 8, cells := 1, slots := 6, locals := 143 }) (va_Pc [.ref (ad 0), .int x, .int y, .int i, .ref o] (tb_B D κ (kW κ T S ad C ds ++ [(o, .inl (κ 3, 1, .inr (.inl ov)))]) sz)) (mu_Q D (some (.int (nI 1))) (kW κ T S ad C ds ++ [(o, .inl (κ 3, 1, .inr (.inl ov)))]) (va_A (kW κ T S ad C ds ++ [(o, .inl (κ 3, 1, .inr (.inl ov)))]) sz)) 1 6 (va_A (kW κ T S ad C ds ++ [(o, .inl (κ 3, 1, .inr (.inl ov)))]) sz) := by
  refine va_MetW (cc := cL_read) (maxL := 6) (ret := some .int) (hh := [(0, 12, 15, 13)]) (by decide) rfl ?_
  intro p e s m args below meth c s₁ B hml hv
  obtain ⟨rfl, ⟨hsz, hP, hK, hD0⟩, hth, hc13⟩ := hv
  have hx := B.exec
  have hb := B.bytes
  have hr := B.returns
  have hts := atoms_spec (ws := wsL_read) B.pre
  have hown : s.vm.findClass RL = some m.cls := findClass_of_methodNamed B.named
  have hlocks := B.notSynchronized
  subst hsz
  have hD := hD0.self (sz := s.heap.size)
  generalize hAe : va_A (kW κ T S ad C ds ++ [(o, .inl (κ 3, 1, .inr (.inl ov)))]) s.heap.size = A at hD ⊢
  have hA : ∀ q : Nat, s.heap.size ≤ q → A q := fun q h => by rw [← hAe]; exact Or.inr h
  have hl := lv_entry ([.ref (ad 0), .int x, .int y, .int i, .ref o]) (n := 6) (Nat.le_of_ble_eq_true rfl)
  rw [lg_entry_eq]
  generalize (lg_sl ([.ref (ad 0), .int x, .int y, .int i, .ref o]) ++ List.replicate (6 - (lg_sl ([.ref (ad 0), .int x, .int y, .int i, .ref o])).length) Slot.unset).toArray = ls at hl ⊢
  have hl : lv_has ls 6 [(0, .ref (ad 0)), (1, .int x), (2, .int y), (3, .int i), (4, .ref o)] := hl
  have hPt : va_P D vwCl (cW κ T S ad C ds) s.heap := va_P_mem cW_in hP
  obtain ⟨m9, meth9, c9, g1, g2, g3, -, -, g4, -⟩ := Cond.codeWith_spec (hts _ List.mem_cons_self)
  have em : m9 = m := Option.some.inj (g1.symm.trans B.named)
  subst em
  have e1 : meth9 = meth := Option.some.inj (g2.symm.trans B.method)
  subst e1
  have e2 : c9 = c := Option.some.inj (g3.symm.trans (Stand.of_body B).code)
  subst e2
  have hG := gL_read_X3_read
  have ok : ∀ w ∈ wsV RL 7 RX3 yX3_read wsX3_read, w.before _ s = true := fun w h => hts w (hG w h).1
  refine lv_aload hx hb dL_read_0 (lv_at hl 4 rfl) ?_
  refine lv_iconst (v := nI 0) hx hb dL_read_2 (by decide) ?_
  refine lv_aload_n hx hb dL_read_3 rfl (lv_at hl 0 rfl) ?_
  refine lv_iload_n hx hb dL_read_4 rfl (lv_at hl 1 rfl) ?_
  refine lv_iload_n hx hb dL_read_5 rfl (lv_at hl 2 rfl) ?_
  refine lv_iload_n hx hb dL_read_6 rfl (lv_at hl 3 rfl) ?_
  obtain ⟨cellB, k1, k2, k3⟩ := va_recv hK hPt (ci := 4) (q0 := 0) rfl rfl
  refine th_call hx hb hml hown (ok _ (by simp [wsV])) (ok _ (by simp [wsV])) (ok _ (by simp [wsV])) (ok _ (by simp [wsV])) (pay_in hts (fun w h => hG w (by unfold wsV; exact List.mem_append_right _ h))) (va_tabs (A := #[]) (u := s) rfl rfl hc13) g4 (c_read_th l hst D κ T S ad C.1 C.2.1 C.2.2.1 C.2.2.2.1 C.2.2.2.2.1 C.2.2.2.2.2.1 C.2.2.2.2.2.2.1 (duF ds) (nI ds.length) C.2.2.2.2.2.2.2.1 C.2.2.2.2.2.2.2.2.1 C.2.2.2.2.2.2.2.2.2.1 C.2.2.2.2.2.2.2.2.2.2.1 C.2.2.2.2.2.2.2.2.2.2.2.1 C.2.2.2.2.2.2.2.2.2.2.2.2.1 C.2.2.2.2.2.2.2.2.2.2.2.2.2.1 C.2.2.2.2.2.2.2.2.2.2.2.2.2.2 x y i hno) rfl rfl (Nat.le_of_ble_eq_true rfl) (Nat.le_of_ble_eq_true rfl) (fun U hU hW g mk => ⟨rfl, ⟨by show va_P D vwCl (cW κ T S ad C ds) U.heap; rw [hU]; exact hPt, va_K.moved (u := U) (U := U.calling g mk _) (Vm.Alike.refl U.vm) (va_K.moved hW.alike hK)⟩, thr_blind (thr_moved hth hW (fun q _ => by rw [hU]))⟩) k1 k2 k3 hl.1 (rest := [.int (nI 0), .ref o]) (Nat.le_of_ble_eq_true rfl) ⟨Nat.le_of_ble_eq_true rfl, Nat.le_of_ble_eq_true rfl⟩ (fun H1 hz1 hk1 => ?_)
  have hP1 : va_P D vwCl (kW κ T S ad C ds ++ [(o, .inl (κ 3, 1, .inr (.inl ov)))]) H1 := hP.kept (fun k q hq => hk1 q.1 ((hP k q hq).lt))
  have hS1 : va_S A s.heap H1 [] := ⟨hz1, fun q h1 _ => hk1 q h1, fun q hq => by cases hq⟩
  refine lv_astore (lv' := [(5, .ref s.heap.size), (0, .ref (ad 0)), (1, .int x), (2, .int y), (3, .int i), (4, .ref o)]) hx hb dL_read_15 hl (by decide) rfl (fun ls hl => ?_)
  refine lv_iconst (v := nI 1) hx hb dL_read_17 (by decide) ?_
  exact W.iret hx hb hr (fun t ht _ => ⟨⟨rfl, by rw [ht]; exact hP1, hD⟩, hS1.F ht⟩) hS1.2.2 dL_read_18 hlocks

/-! The call of read in the law's own read, where it throws -/
section TD
variable {p : Program} {l : Launch} {e : Env} {R : Room} {s : State} {m : MethodId} {args : Array Value} {below : List Frame} {meth : Method} {c : Code} {H : Heap} {locs : List Loc} {cells slots : Nat} {Q : State → Prop}
theorem same_heap {a t : State} {n k : Nat} (h : a.sameButNew t [] n k) : a.heap.size ≤ t.heap.size ∧ ∀ q : Nat, q < a.heap.size → t.heap[q]? = a.heap[q]? := by
  obtain ⟨-, h1, -, -, -, h2⟩ := h
  refine ⟨h1, fun q hq => ?_⟩
  have hc : a.heap[q]? = some a.heap[q] := Array.getElem?_eq_getElem hq
  obtain ⟨c', e1, e2, e3, e4⟩ := h2 q _ hc
  rw [e1, hc]
  congr 1
  have e5 : c'.slots = a.heap[q].slots := Array.ext_getElem? fun i => e4 i (by simp)
  rw [e2, e5]
set_option maxHeartbeats 4000000 in
theorem th_call (hx : p.tables.exec = Jvm.exec) (hb : c.code = cL_read) (hml : c.maxLocals = 6) (hown : s.vm.findClass RL = some m.cls)
    (hlink : (Cond.methodLink RL 7 yX3_read).before args s = true) (hinst : (Cond.instanceMethod yX3_read).before args s = true) (hsel : (Cond.selects RX3 yX3_read yX3_read).before args s = true) (hini : (Cond.initialized RX3).before args s = true)
    (hws : ∀ w ∈ wsX3_read, ∀ (a' : Array Value) (U : State), s.WarmedH U.vm → w.before a' U = true) (hclink : (Cond.classLink RL 13 RJx00060).before args s = true)
    (htab : c.exceptionTable.toList.map (fun h => (h.startPc, h.endPc, h.handlerPc, h.catchType)) = [(0, 12, 15, 13)])
    {rm : Room} {Pc : Array Value → State → Prop} (hM : MetFree l yX3_read (headSpec wsX3_read rm) Pc (fun _ _ _ _ _ => True) th_Q) (hrc : rm.cells = 1) (hrs : rm.slots = 6) (hrf : rm.frames + 1 ≤ R.frames) (hrl : 8 + (4 + 11) + rm.locals ≤ R.locals)
    {b : Addr} {x y i : Int32} (hPc : ∀ U : State, U.heap = H → s.WarmedH U.vm → ∀ g mk, Pc #[.ref b, .int x, .int y, .int i] (U.calling g mk #[.ref b, .int x, .int y, .int i]))
    {cellB : Cell} (hcell : H[b]? = some cellB) (hobj : cellB.vm.isStatics = false) (hcls : s.vm.findClass RX3 = some cellB.cls)
    {ls : Array Slot} (hls : ls.size = 6) {rest : List Value} (hrest : (rest.map fun v => v.category).sum ≤ 8) (hf : cells + 1 ≤ R.cells ∧ slots + 6 ≤ R.slots)
    (kk : ∀ H1 : Heap, H.size ≤ H1.size → (∀ q : Nat, q < H.size → H1[q]? = H[q]?) → W p l e R s m args below meth c H1 locs (cells + 1) (slots + 6) Q (F0 m 15 ls [.ref H.size])) :
    W p l e R s m args below meth c H locs cells slots Q (F0 m 7 ls (.int i :: .int y :: .int x :: .ref b :: rest)) := by
  intro T hT X
  subst hT
  have hy : yX3_read.cls ≠ "java/lang/invoke/MethodHandle" ∧ yX3_read.cls ≠ "java/lang/invoke/VarHandle" := by decide
  have hcw : Cond.code yX3_read cX3_read 4 (some .byte) ∈ wsX3_read := List.mem_cons_self
  have hcode : (Cond.code yX3_read cX3_read 4 (some .byte)).before args s = true := hws _ hcw args s (State.WarmedH.refl s)
  obtain ⟨mk, methM, hnamed, hmethM, hstM, habM⟩ := Cond.instanceMethod_spec hinst
  obtain ⟨methM', cM, hmethM', -, -, -, -, -, -, hsigM⟩ := Cond.code_spec hnamed hcode
  cases hmethM.symm.trans hmethM'
  obtain ⟨c2, r2, m2, q1, q2, q3, q4, kP, hkP, hkPi⟩ := Cond.selects_spec hsel
  cases hcls.symm.trans q1
  cases (State.methodFound?_of_named hnamed hy).symm.trans q2
  cases hnamed.symm.trans q3
  have hselP : selectMethod e.platform s.vm cellB.cls mk = .method mk := by rw [Launch.admits_selectMethod X.admits]; exact q4
  have hlen : ([.int x, .int y, .int i] : List Value).length = methM.sig.parameters.length := by
    have h9 : (parseMethodDescriptor yX3_read.desc).map (fun d => d.parameters.length) = some 3 := by decide +kernel
    rw [hsigM] at h9
    exact (Option.some.inj h9).symm
  have hdg : decode c.code 7 = .ok (.invokevirtual 7, 3) := by rw [hb]; exact dL_read_7
  obtain ⟨vm₁, X₁, hstep₁⟩ := X.invokevirtual hx hown hlink hnamed hmethM hstM hkP hkPi hy (a := b) (cell := cellB) hcell
    (fun z h => by rw [h] at hobj; cases hobj) hselP hmethM habM hkP hkPi (g := F0 m 7 ls (.int i :: .int y :: .int x :: .ref b :: rest)) rfl (argsL := [.int x, .int y, .int i]) (rest := rest) hlen rfl hdg
  have hn₁ := X₁.named hnamed
  obtain ⟨methY, cY, hmY, hcY, -, hlY, -, -, -, -⟩ := Cond.code_spec hn₁ (hws _ hcw #[] (T.setVm vm₁) X₁.warmed)
  obtain ⟨kY, hkY, -⟩ := className_of_methodNamed hn₁
  have hinitY : kY.init = .initialized := Cond.initialized_spec (findClass_of_methodNamed hn₁) hkY (word_at (a' := #[]) (U := T.setVm vm₁) X₁.warmed (Or.inl rfl) hini)
  have hAt : At (T.setVm vm₁) (F0 m 7 ls rest).method c below := X₁.here
  have happ : (headSpec wsX3_read rm).appliesLoose yX3_read e.platform ((T.setVm vm₁).calling (F0 m 7 ls rest) mk #[.ref b, .int x, .int y, .int i]) = true :=
    Spec.appliesLoose_calling (g := F0 m 7 ls rest) hAt hdg hn₁ hkY hinitY
      (X₁.room_calling (g := F0 m 7 ls rest) (R' := rm) (by rw [hml]; exact hls) hmY hcY hrf (by rw [hlY]; have h0 : (F0 m 7 ls rest).monitorRoom = 0 := rfl; have h1 : (F0 m 7 ls rest).stack = rest := rfl; rw [h0, h1]; omega) (by rw [hrc]; exact hf.1) (by rw [hrs]; exact hf.2)) (atoms_intro fun w hw => hws w hw _ _ X₁.warmed)
  obtain ⟨mid, hmid⟩ := hAt.above
  have hfr : ((T.setVm vm₁).setTop (F0 m 7 ls rest)).frames = (.java (F0 m 7 ls rest) :: mid) ++ below := by rw [State.frames_setTop' _ hAt.top, hmid]; rfl
  obtain ⟨o, s₂, hsteps, -, hend, hq⟩ := Steps.callFree hM p X.admits X.cas X.clock (acts := []) hfr happ (hPc (T.setVm vm₁) rfl X₁.warmed (F0 m 7 ls rest) mk) trivial
  have hq' : th_Q #[.ref b, .int x, .int y, .int i] ((T.setVm vm₁).calling (F0 m 7 ls rest) mk #[.ref b, .int x, .int y, .int i]) o s₂ := hq
  rw [State.frames_setTop' _ hAt.top] at hend
  obtain ⟨rfl, hW₂, hsame, ce, hce, hc1, hc2, hc3⟩ := hq'
  obtain ⟨g₀, hr⟩ := X₁.frames_eq
  rw [hr] at hend
  obtain ⟨T', X', hW', hsame', ht⟩ := X₁.outOfThrown (g := F0 m 7 ls rest) rfl hend hW₂ hsame
  have hpl : e.platform.magicAccessors = ({} : Platform).magicAccessors := by rw [X.admits.platform]
  obtain ⟨cc, hfcc, hcl⟩ := Cond.classLink_spec hown hclink e.platform hpl
  obtain ⟨hg₁, hwarm₁, hready₁⟩ := State.classEntry (e := e) X'.warmed hcl
  have hsz₁ : (T'.vm.noted m.cls 13 (.cls cc)).classes.size ≤ T'.vm.classes.size := by no_record
  generalize T'.vm.noted m.cls 13 (.cls cc) = vm₃ at hg₁ hwarm₁ hready₁ hsz₁
  have X'' := X'.noted hwarm₁
  have hhp := same_heap hsame'
  rw [List.append_nil] at X''
  obtain ⟨t2, a1, b1⟩ := kk T'.heap hhp.1 hhp.2 (T'.setVm vm₃) rfl X''
  refine ⟨t2, hstep₁ _ fun acts => ?_, b1⟩
  rw [doInvoke_state]
  refine hsteps.trans ?_
  rw [ht]
  have hhs : T'.heap = s₂.heap := by rw [ht]; exact (Stand.throwing_heap _ _ _).symm
  have hceT : ((T'.setTop (F0 m 7 ls rest)).pushFrame (.throwing T.heap.size)).heap[T.heap.size]? = some ce := by rw [Stand.throwing_heap, hhs]; exact hce
  have hcc : cc = ce.cls := Option.some.inj (hfcc.symm.trans (by
    have h9 : ((T.setVm vm₁).calling (F0 m 7 ls rest) mk #[.ref b, .int x, .int y, .int i]).vm.findClass RJx00060 = s.vm.findClass RJx00060 := by
      show vm₁.findClass RJx00060 = _
      exact X₁.warmed.alike.findClass RJx00060 none
    rw [← h9]; exact hc1))
  have hasg : vm₃.assignable ce.cls ce.cls = true := by
    show vm₃.assignableAux (255 + 1) ce.cls ce.cls = true
    rw [Vm.assignableAux, Bool.or_eq_true, beq_iff_eq]
    exact Or.inl rfl
  obtain ⟨z, hz⟩ : ∃ z : ExceptionTableEntry, c.exceptionTable.toList = [z] ∧ (z.startPc, z.endPc, z.handlerPc, z.catchType) = (0, 12, 15, 13) := by
    cases hq9 : c.exceptionTable.toList with
    | nil => rw [hq9] at htab; simp at htab
    | cons z t =>
      rw [hq9] at htab
      cases t with
      | nil => exact ⟨z, rfl, by simpa using htab⟩
      | cons _ _ => simp at htab
  obtain ⟨hz1, hz2⟩ := hz
  simp only [Prod.mk.injEq] at hz2
  obtain ⟨z1, z2, z3, z4⟩ := hz2
  show Steps p.tables e below ((T'.setTop (F0 m 7 ls rest)).pushFrame (.throwing T.heap.size)) t2
  refine ct_caught (S := T') X'.here (pc := 15) (vm' := vm₃) (fun Q E d acts => ?_) a1
  rw [W.findHandler_eq (s := (T'.setTop (F0 m 7 ls rest)).pushFrame (.throwing T.heap.size)) (meth := meth) (code := c) (by rw [Stand.throwing_vm]; exact X'.method') X'.code, hz1]
  rw [ct_go (cC := cc) (cell := ce) (vm' := vm₃) (by simp [covers, z1, z2]) (by rw [z4]; decide) (by rw [z4, Stand.throwing_vm]; exact hg₁) (by rw [Stand.throwing_vm]; exact hsz₁) hceT (fun k h => by rw [hc3] at h; cases h) ?_ ?_ (by rw [hcc]; exact hasg), z3]
  · rw [← hcc]
    obtain ⟨k9, hk9⟩ := Vm.classAt_of_findClass hfcc
    obtain ⟨k8, hk8, -⟩ := hwarm₁.alike.2.2 _ _ hk9
    exact ⟨k8, hk8⟩
  · obtain ⟨k9, hk9⟩ := Vm.classAt_of_findClass hfcc
    obtain ⟨k8, hk8, -⟩ := hwarm₁.alike.2.2 _ _ hk9
    exact ⟨k8, hk8⟩
end TD

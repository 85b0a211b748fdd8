/-! The base: the world's array classes, contracts of methods that write nothing (pu), of methods that write their world's cells (mu), and rows for their calls. -/
abbrev tyA (κ : Nat → ClassId) : List (ClassId × FieldType) := [(κ 0, .int), (κ 1, .byte), (κ 2, .object RX1), (κ 3, .long)]
def pu_B (D : va_G) (κ : Nat → ClassId) (w : va_W) : State → Prop := fun U => va_P D vwCl w U.heap ∧ va_K D vwCl (tyA κ) U
def pu_Q (v : Value) : Array Value → State → Outcome → State → Prop := fun _ st o t => o = .returned (some v) ∧ t.heap = st.heap
def pu_N : Addr → Prop := fun _ => False
def mu_B (D : va_G) (κ : Nat → ClassId) (w : va_W) (sz : Nat) : State → Prop := fun U => U.heap.size = sz ∧ va_P D vwCl w U.heap ∧ va_K D vwCl (tyA κ) U ∧ va_D (fun _ => True) w
/-- an end: the answer, the world's new cells, all else as it was -/
def mu_Q (D : va_G) (v : Option Value) (w' : va_W) (A : Nat → Prop) : Array Value → State → Outcome → State → Prop := fun _ st o t => (o = .returned v ∧ va_P D vwCl w' t.heap ∧ va_D A w') ∧ va_F A st t
theorem pu_blind {D : va_G} {κ : Nat → ClassId} {w : va_W} {av : List Value} : FrameBlind (va_Pc av (pu_B D κ w)) := fun a U g mk q => ⟨q.1, q.2.1, va_K.moved (u := U) (U := U.calling g mk a) (Vm.Alike.refl U.vm) q.2.2⟩
theorem mu_blind {D : va_G} {κ : Nat → ClassId} {w : va_W} {sz : Nat} {av : List Value} : FrameBlind (va_Pc av (mu_B D κ w sz)) := fun a U g mk q => ⟨q.1, q.2.1, q.2.2.1, va_K.moved (u := U) (U := U.calling g mk a) (Vm.Alike.refl U.vm) q.2.2.2.1, q.2.2.2.2⟩
theorem pu_pre {D : va_G} {κ : Nat → ClassId} {w : va_W} {av : List Value} {s : State} {H : Heap} (hK : va_K D vwCl (tyA κ) s) (hP : va_P D vwCl w H) : ∀ U : State, U.heap = H → s.WarmedH U.vm → va_Pc av (pu_B D κ w) av.toArray U := fun U hU hW => ⟨rfl, by rw [hU]; exact hP, va_K.moved hW.alike hK⟩
theorem mu_pre {D : va_G} {κ : Nat → ClassId} {w : va_W} {av : List Value} {s : State} {H : Heap} {A : Nat → Prop} (hK : va_K D vwCl (tyA κ) s) (hP : va_P D vwCl w H) (hD : va_D A w) : ∀ U : State, U.heap = H → s.WarmedH U.vm → va_Pc av (mu_B D κ w H.size) av.toArray U := fun U hU hW => ⟨rfl, by rw [hU], by rw [hU]; exact hP, va_K.moved hW.alike hK, hD.weaken (fun _ _ _ _ => trivial)⟩
section PU
variable {p : Program} {l : Launch} {e : Env} {R : Room} {s : State} {m : MethodId} {args : Array Value} {below : List Frame} {meth : Method} {c : Code} {H : Heap} {locs : List Loc} {cells slots : Nat} {Q : State → Prop}
variable {pc : Nat} {ls : Array Slot} {rest st0 : List Value} {a : Array Value} {A0 : Nat → Prop} {H0 : Heap} {mc ms : Nat}
theorem tp_i {x y : Int32} (h : x = y) (k : W p l e R s m args below meth c H locs cells slots Q (F0 m pc ls (.int y :: rest))) : W p l e R s m args below meth c H locs cells slots Q (F0 m pc ls (.int x :: rest)) := by rw [h]; exact k
theorem tp_l {x y : Int64} (h : x = y) (k : W p l e R s m args below meth c H locs cells slots Q (F0 m pc ls (.long y :: rest))) : W p l e R s m args below meth c H locs cells slots Q (F0 m pc ls (.long x :: rest)) := by rw [h]; exact k
theorem pu_call {v : Value} (hr : va_Run p l e R s m args below meth c H locs cells slots 0 0 (F0 m pc ls st0) rest (pu_Q v a) pu_N)
    (kk : W p l e R s m args below meth c H locs cells slots Q (F0 m (pc + 3) ls (v :: rest))) : W p l e R s m args below meth c H locs cells slots Q (F0 m pc ls st0) := by
  intro T hT X
  obtain ⟨v', st₀, t, T', L, h0, X', hL, e1, e2, ⟨hv, he⟩, st⟩ := hr T hT X
  cases hv
  have hLn : L = [] := List.eq_nil_iff_forall_not_mem.mpr fun q hq => hL q hq
  subst hLn
  rw [List.append_nil] at X'
  obtain ⟨t2, a1, b1⟩ := kk T' (by rw [e1, he, h0]) X'
  exact ⟨t2, st t2 a1, b1⟩
theorem mu_call {D : va_G} {v : Option Value} {ws wc wr wc' ws' : va_W} (hr : va_Run p l e R s m args below meth c H locs cells slots mc ms (F0 m pc ls st0) rest (mu_Q D v wc' (va_A wc H.size) a) (va_A wc H.size))
    (hP : va_P D vwCl ws H) (hD : va_D A0 ws) (hS : va_S A0 H0 H locs) (hA : ∀ q, H0.size ≤ q → A0 q) (isC isR is' : List Nat) (hC : isC.map (fun i => ws[i]?) = wc.map some) (hR : isR.map (fun i => ws[i]?) = wr.map some) (hn : va_nd isR = true) (hdis : ∀ i ∈ isR, i ∉ isC)
    (hw : is'.filterMap (fun i => (wr ++ wc')[i]?) = ws') (hw2 : is'.map (fun i => (wr ++ wc')[i]?) = ws'.map some) (hnd : va_nd is' = true)
    (kk : ∀ (H1 : Heap) (locs1 : List Loc), va_P D vwCl ws' H1 → va_D A0 ws' → va_S A0 H0 H1 locs1 → W p l e R s m args below meth c H1 locs1 (cells + mc) (slots + ms) Q (F0 m (pc + 3) ls (v.toList ++ rest))) : W p l e R s m args below meth c H locs cells slots Q (F0 m pc ls st0) := by
  intro T hT X
  have hF := va_free hD hS hA isC hC
  obtain ⟨v', st₀, t, T', L, h0, X', hL, e1, e2, ⟨⟨hv, hp, hd⟩, hz, hk⟩, st⟩ := hr T hT X
  cases hv
  rw [h0] at hz hk
  obtain ⟨hP1, hD1⟩ := va_join (H1 := t.heap) hP hD isC isR hC hR hn hdis hk hF hp hd
  obtain ⟨t2, a1, b1⟩ := kk T'.heap (locs ++ L) (by rw [e1]; exact hP1.sub is' hw) (hD1.sub is' hnd hw2)
    ⟨Nat.le_trans hS.1 (by rw [e1]; exact hz), fun q h1 h2 => by rw [e1, hk q (Nat.lt_of_lt_of_le h1 hS.1) (fun z => h2 (hF q z))]; exact hS.2.1 q h1 h2, fun q hq => by
      rcases List.mem_append.mp hq with h | h
      · exact hS.2.2 q h
      · exact hF _ (hL q h)⟩ T' rfl X'
  exact ⟨t2, st t2 a1, b1⟩
theorem pu_iret {cc : ByteArray} {v : Int32} (hexec : p.tables.exec = Jvm.exec) (hb : c.code = cc) (hr : meth.sig.returnType = some .int) (hlocks : meth.locks = false) (hdg : decode cc pc = .ok (.ireturn, 1)) : W p l e R s m args below meth c s.heap [] cells slots (MQ below (pu_Q (.int v)) args s cells slots pu_N) (F0 m pc ls [.int v]) :=
  W.iret hexec hb hr (fun t ht _ => ⟨rfl, ht⟩) (fun q hq => by cases hq) hdg hlocks
theorem pu_zret {cc : ByteArray} {v : Int32} {ty : FieldType} (hexec : p.tables.exec = Jvm.exec) (hb : c.code = cc) (hr : meth.sig.returnType = some ty) (hnr : narrow ty (.int v) = .int v) (hlocks : meth.locks = false) (hdg : decode cc pc = .ok (.ireturn, 1)) : W p l e R s m args below meth c s.heap [] cells slots (MQ below (pu_Q (.int v)) args s cells slots pu_N) (F0 m pc ls [.int v]) :=
  W.zret hexec hb hr hnr (fun t ht _ => ⟨rfl, ht⟩) (fun q hq => by cases hq) hdg hlocks
end PU
section WL
variable {p : Program} {l : Launch} {e : Env} {R : Room} {s : State} {m : MethodId} {args : Array Value} {below : List Frame} {meth : Method} {c : Code} {H0 : Heap} {locs0 : List Loc} {cells slots : Nat} {Q : State → Prop} {pc : Nat} {ls0 : Array Slot} {st : List Value}
theorem W.gen {g : JFrame} {P : Heap → List Loc → Prop} (h : ∀ H locs, P H locs → W p l e R s m args below meth c H locs cells slots Q g) (h0 : P H0 locs0) : W p l e R s m args below meth c H0 locs0 cells slots Q g := h _ _ h0
theorem W.loopP {N : Nat} {I : Nat → Array Slot → Prop} (k0 : Nat) (hk0 : k0 ≤ N)
    (hstep : ∀ k ls, k < N → I k ls → (∀ ls, I (k + 1) ls → W p l e R s m args below meth c H0 locs0 cells slots Q (F0 m pc ls st)) → W p l e R s m args below meth c H0 locs0 cells slots Q (F0 m pc ls st))
    (hexit : ∀ ls, I N ls → W p l e R s m args below meth c H0 locs0 cells slots Q (F0 m pc ls st))
    (h0 : I k0 ls0) : W p l e R s m args below meth c H0 locs0 cells slots Q (F0 m pc ls0 st) := by
  obtain ⟨n, hn⟩ : ∃ n, k0 + n = N := ⟨N - k0, by omega⟩
  induction n generalizing k0 ls0 with
  | zero =>
    have : k0 = N := by omega
    subst this
    exact hexit _ h0
  | succ n ih => exact hstep k0 ls0 (by omega) h0 (fun ls h => ih (k0 + 1) (by omega) h (by omega))
theorem W.loop {N : Nat} {I : Nat → Array Slot → Heap → List Loc → Prop} (k0 : Nat) (hk0 : k0 ≤ N)
    (hstep : ∀ k ls H locs, k < N → I k ls H locs → (∀ ls H locs, I (k + 1) ls H locs → W p l e R s m args below meth c H locs cells slots Q (F0 m pc ls st)) → W p l e R s m args below meth c H locs cells slots Q (F0 m pc ls st))
    (hexit : ∀ ls H locs, I N ls H locs → W p l e R s m args below meth c H locs cells slots Q (F0 m pc ls st))
    (h0 : I k0 ls0 H0 locs0) : W p l e R s m args below meth c H0 locs0 cells slots Q (F0 m pc ls0 st) := by
  obtain ⟨n, hn⟩ : ∃ n, k0 + n = N := ⟨N - k0, by omega⟩
  induction n generalizing k0 ls0 H0 locs0 with
  | zero =>
    have : k0 = N := by omega
    subst this
    exact hexit _ _ _ h0
  | succ n ih => exact hstep k0 ls0 H0 locs0 (by omega) h0 (fun ls H locs h => ih (k0 + 1) (by omega) h (by omega))
end WL

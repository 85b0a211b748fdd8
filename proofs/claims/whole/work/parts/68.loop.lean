/-! THE CLAIM OUT OF ONE WALK OF THE LAW'S BODY. Your part is whole_start (and what it stands on); all else here is the same for every law, but numbers. -/
def R_law : String := "TrackDiskLaw"
def lw_P (b : Addr) (xs : List Int32) (args : Array Value) (s : State) : Prop := args = #[.ref b] ∧ s.IntsAt b xs ∧ xs.length ≤ 2562 ∧ (Jvm.Cond.and given_1 narrow_1).before args s = true
def lw_Q (_ : Array Value) (s : State) (o : Outcome) (t : State) : Prop := o = .returned (some (.int 1)) ∧ Framed s o t [] 601024 7293000
def lw_Z (below : List Frame) (a : Array Value) (s : State) : State → Prop := fun t => ∃ o, t.status = .running ∧ Ended t below o ∧ lw_Q a s o t
/-- the law's own end, with 1 on the stack, nothing written that was there before, its room as the claim has it -/
theorem lw_ret {p : Program} {l : Launch} {e : Env} {s : State} {m : MethodId} {below : List Frame} {meth : Method} {c : Code} {b : Nat} (hx : p.tables.exec = Jvm.exec) (hb : c.code = code) (hr : meth.sig.returnType = ret) (hlocks : meth.locks = false) {pc : Nat} {H : Heap} {ls : Array Slot} (hdg : decode code pc = .ok (.ireturn, 1)) : W p l e room_1 s m #[Value.ref b] below meth c H [] 601024 7293000 (lw_Z below #[Value.ref b] s) (F0 m pc ls [.int 1]) := by
  intro T hT X
  obtain ⟨fs, hret, hrun, hended, hW, hframe⟩ := X.leave (v := some (.int 1)) (hlocks := hlocks) (fun h => by rw [hr] at h; cases h)
  have hmeth' : T.vm.method? m = some meth := X.method'
  refine ⟨T.setFrames fs, ?_, .returned (some (.int 1)), hrun, hended, rfl, ⟨_, rfl⟩, hW, hframe⟩
  jvm_step X.here [X.here.top, hx, hb, hdg, hmeth', hr, ret, narrow_b1]
  (try refine ⟨rfl, ?_⟩); (try refine ⟨rfl, ?_⟩)
  first | (intro acts; rw [hret _ acts rfl rfl rfl]) | rw [hret _ _ rfl rfl rfl]
  exact Steps.refl _
/-- what holds at the law's entry: the machine, the code, the tables' words (any of lw_tbl by 'hts w (by decide +kernel)'), the script of L ints xs at the cell b, what the Statement gives of the start (any of its parts by flat_of_before) -/
def lw_At (p : Program) (s : State) (m : MethodId) (meth : Method) (c : Code) (b L : Nat) (xs : Nat → Int32) : Prop :=
  p.tables.exec = Jvm.exec ∧ c.code = code ∧ meth.sig.returnType = ret ∧ c.maxLocals = 7 ∧ s.vm.findClass R_law = some m.cls ∧ (∀ w ∈ lw_tbl, w.before #[Value.ref b] s = true) ∧ va_X b L xs s s.heap ∧ b < s.heap.size ∧ meth.locks = false ∧ (Jvm.Cond.and given_1 narrow_1).before #[Value.ref b] s = true

/-! The law's cell, and its loop -/
def clF (xs : Nat → Int32) (L j : Nat) : Int32 := if j < L then xs j else nI 0
def cl_B (b L : Nat) (xs : Nat → Int32) : State → Prop := fun U => va_X b L xs U U.heap ∧ b < U.heap.size
theorem cl_blind {b L : Nat} {xs : Nat → Int32} {av : List Value} : FrameBlind (va_Pc av (cl_B b L xs)) := fun a U g mk q => ⟨q.1, va_X.moved (u := U) (U := U.calling g mk a) (Vm.Alike.refl U.vm) q.2.1, q.2.2⟩
theorem cl_pre {b L : Nat} {xs : Nat → Int32} {av : List Value} {s : State} {H : Heap} {locs : List Loc} (hX : va_X b L xs s s.heap) (hbl : b < s.heap.size) (hS : va_S (fun q : Nat => s.heap.size ≤ q) s.heap H locs) : ∀ U : State, U.heap = H → s.WarmedH U.vm → va_Pc av (cl_B b L xs) av.toArray U := fun U hU hW => ⟨rfl, by rw [hU]; exact (hX.kept (hS.2.1 b hbl (Nat.not_le.mpr hbl))).moved hW.alike, by rw [hU]; exact Nat.lt_of_lt_of_le hbl hS.1⟩
set_option maxHeartbeats 4000000 in
theorem l_cell (l : Launch) (b L : Nat) (xs : Nat → Int32) (hL : L ≤ 2562) (j : Nat) (hj : j ≤ 1) : Met l yL_cell wsL_cell ({ frames := 0, cells := 0, slots := 0, locals := 0 }) (va_Pc [.ref b, .int (nI j)] (cl_B b L xs)) (pu_Q (.int (clF xs L j))) 0 0 pu_N := by
  refine Met.ofW (cc := cL_cell) (maxL := 2) (ret := (some .int)) (by decide) rfl ?_
  intro p e s m args below meth c s₁ B hml hv
  obtain ⟨rfl, hX, hbl⟩ := hv
  have hx := B.exec
  have hb := B.bytes
  have hr := B.returns
  have hlocks := B.notSynchronized
  have hS : va_S (fun _ => False) s.heap s.heap [] := va_S.rf
  have hbA : ¬ (fun _ : Nat => False) b := fun h => h
  have hl := lv_entry ([.ref b, .int (nI j)]) (n := 2) (Nat.le_of_ble_eq_true rfl)
  rw [lg_entry_eq]
  generalize (lg_sl ([.ref b, .int (nI j)]) ++ List.replicate (2 - (lg_sl ([.ref b, .int (nI j)])).length) Slot.unset).toArray = ls at hl ⊢
  have hl : lv_has ls 2 [(0, .ref b), (1, .int (nI j))] := hl
  refine lv_iload_n hx hb dL_cell_0 rfl (lv_at hl 1 rfl) ?_
  refine lv_aload_n hx hb dL_cell_1 rfl (lv_at hl 0 rfl) ?_
  refine va_slen hx hb hX hbl hbA hS dL_cell_2 ?_
  refine lv_icmp_ge (tgt := 12) hx hb dL_cell_3 (by decide) (fun c_3 => ?_) (fun c_3 => ?_)
  · refine lv_iconst (v := nI 0) hx hb dL_cell_12 (by decide) ?_
    have h9 : L ≤ j := (nI_leI (by omega) (by omega)).mp c_3
    refine tp_i (y := clF xs L j) (by rw [clF, if_neg (by omega)]) ?_
    exact pu_iret hx hb hr hlocks dL_cell_13
  · have h9 : ¬ L ≤ j := fun h => c_3 ((nI_leI (by omega) (by omega)).mpr h)
    refine lv_aload_n hx hb dL_cell_6 rfl (lv_at hl 0 rfl) ?_
    refine lv_iload_n hx hb dL_cell_7 rfl (lv_at hl 1 rfl) ?_
    refine va_sld hx hb hX hbl hbA hS (vp_in_nI (by omega) (by omega)) dL_cell_8 ?_
    refine lv_goto (tgt := 13) hx hb dL_cell_9 (by decide) ?_
    refine tp_i (y := clF xs L j) (by rw [nI_clamp (by omega), clF, if_pos (by omega)]) ?_
    exact pu_iret hx hb hr hlocks dL_cell_13
theorem nI_int {n : Nat} (h : n < 2 ^ 31) : (nI n).toInt = n := Int32.toInt_ofNat_of_lt h
theorem lim_lt {L i : Nat} (hL : L ≤ 2562) (hi : i ≤ 3000) : nI L - nI 5 < nI i ↔ L < i + 5 := by
  rw [Int32.lt_iff_toInt_lt, Int32.toInt_sub, nI_int (by omega), nI_int (by omega), nI_int (by omega), Int.bmod_eq_of_le (by omega) (by omega)]
  omega

set_option maxHeartbeats 4000000 in
theorem law_loop {p : Program} {l : Launch} {e : Env} {s : State} {m : MethodId} {below : List Frame} {meth : Method} {c : Code} {D : va_G} {κ : Nat → ClassId} {b L : Nat} {xs : Nat → Int32} (F : LF p l s m meth c D κ b L xs) (hr : meth.sig.returnType = ret) (hlocks : meth.locks = false) (hst : l.stackTraces = false) (hthr : thr s) (hcl13 : (Cond.classLink RL 13 RJx00060).before #[] s = true) {T S : Nat} (hT : T ≤ 12) (hS8 : S ≤ 8) {ad bd : Nat → Nat} {o : Nat} :
    ∀ (n j i cells slots : Nat) (C : CS) (ds : List DS) (M : MS) (ov : Nat → Int64) (H : Heap) (locs : List Loc) (ls : Array Slot), L < i + 5 + 5 * n → i = 2 + 5 * j → cells = 29 + 7 * j → slots = 14076 + 1955 * j → 5 * j ≤ 2560 → RelT T S C ds M → va_P D vwCl (LW κ T S ad bd o C ds M ov) H → va_D (fun q : Nat => s.heap.size ≤ q) (LW κ T S ad bd o C ds M ov) → va_S (fun q : Nat => s.heap.size ≤ q) s.heap H locs → lv_has ls 7 [(0, .ref b), (1, .ref (ad 0)), (2, .ref (bd 0)), (3, .ref o), (4, .int (nI i))] → W p l e room_1 s m #[Value.ref b] below meth c H locs cells slots (lw_Z below #[Value.ref b] s) (F0 m 43 ls []) := by
  have F' := F
  obtain ⟨hx, hb, hml, hown, hts, hX, hbl, hK, hL⟩ := F'
  have hbA : ¬ (fun q : Nat => s.heap.size ≤ q) b := Nat.not_le.mpr hbl
  intro n
  induction n with
  | zero =>
    intro j i cells slots C ds M ov H locs ls hn hi0 hc hs hj hR hP hD hS hl
    refine lv_iload hx hb dL_law_43 (lv_at hl 4 rfl) ?_
    refine lv_aload_n hx hb dL_law_45 rfl (lv_at hl 0 rfl) ?_
    refine va_slen hx hb hX hbl hbA hS dL_law_46 ?_
    refine lv_iconst (v := nI 5) hx hb dL_law_47 (by decide) ?_
    refine lv_isub hx hb dL_law_48 ?_
    refine lv_icmp_gt (tgt := 616) hx hb dL_law_49 (by decide) (fun c_49 => ?_) (fun c_49 => absurd ((lim_lt hL (by omega)).mpr (by omega)) c_49)
    refine lv_iconst (v := 1) hx hb dL_law_616 (by decide) ?_
    refine va_forget (fun q hq => hS.2.2 q hq) ?_
    refine W.widen (k := 601024) (n := 7293000) (by omega) (by omega) ?_
    exact lw_ret hx hb hr hlocks dL_law_617
  | succ n ih =>
    intro j i cells slots C ds M ov H locs ls hn hi0 hc hs hj hR hP hD hS hl
    refine lv_iload hx hb dL_law_43 (lv_at hl 4 rfl) ?_
    refine lv_aload_n hx hb dL_law_45 rfl (lv_at hl 0 rfl) ?_
    refine va_slen hx hb hX hbl hbA hS dL_law_46 ?_
    refine lv_iconst (v := nI 5) hx hb dL_law_47 (by decide) ?_
    refine lv_isub hx hb dL_law_48 ?_
    refine lv_icmp_gt (tgt := 616) hx hb dL_law_49 (by decide) (fun c_49 => ?_) (fun c_49 => ?_)
    · refine lv_iconst (v := 1) hx hb dL_law_616 (by decide) ?_
      refine va_forget (fun q hq => hS.2.2 q hq) ?_
      refine W.widen (k := 601024) (n := 7293000) (by omega) (by omega) ?_
      exact lw_ret hx hb hr hlocks dL_law_617
    have hi : i + 5 ≤ L := Nat.not_lt.mp (fun h => c_49 ((lim_lt hL (by omega)).mpr h))
    have hc9 : cells ≤ 5000 := by omega
    have hs9 : slots ≤ 2000000 := by omega
    have K : ∀ (C' : CS) (ds' : List DS) (M' : MS) (ov' : Nat → Int64) (H' : Heap) (locs' : List Loc), RelT T S C' ds' M' → va_P D vwCl (LW κ T S ad bd o C' ds' M' ov') H' → va_D (fun q : Nat => s.heap.size ≤ q) (LW κ T S ad bd o C' ds' M' ov') → va_S (fun q : Nat => s.heap.size ≤ q) s.heap H' locs' → ∀ ls' : Array Slot, lv_has ls' 7 [(0, .ref b), (1, .ref (ad 0)), (2, .ref (bd 0)), (3, .ref o), (4, .int (nI i))] → W p l e room_1 s m #[Value.ref b] below meth c H' locs' (cells + 7) (slots + 1955) (lw_Z below #[Value.ref b] s) (F0 m 610 ls' []) := by
      intro C1 ds1 M1 ov1 H1 locs1 hR1 hP1 hD1 hS1 ls1 hl1
      refine lv_iinc (v := nI (i + 5)) (lv' := [(4, .int (nI (i + 5))), (0, .ref b), (1, .ref (ad 0)), (2, .ref (bd 0)), (3, .ref o)]) hx hb dL_law_610 hl1 (k := 4) rfl (by exact nI_add i 5) (by decide) rfl (fun ls hl => ?_)
      refine lv_goto (tgt := 43) hx hb dL_law_613 (by decide) ?_
      exact ih (j + 1) (i + 5) (cells + 7) (slots + 1955) C1 ds1 M1 ov1 H1 locs1 ls (by omega) (by omega) (by omega) (by omega) (by omega) hR1 hP1 hD1 hS1 (lv_sub hl [1, 2, 3, 4, 0] rfl)
    refine lv_aload_n hx hb dL_law_52 rfl (lv_at hl 0 rfl) ?_
    refine lv_iload hx hb dL_law_53 (lv_at hl 4 rfl) ?_
    refine va_sld hx hb hX hbl hbA hS (vp_in_nI (by omega) (by omega)) dL_law_55 ?_
    refine lv_bipush (v := 15) hx hb dL_law_56 (by decide) ?_
    refine lv_iand hx hb dL_law_58 ?_
    obtain ⟨k, hk, ek⟩ := pk_andE (xs (nI i).toNatClampNeg) (m := 15) 4 (by decide)
    refine tp_i (y := nI k) ek ?_
    clear ek
    rcases (show k = 0 ∨ k = 1 ∨ k = 2 ∨ k = 3 ∨ k = 4 ∨ k = 5 ∨ k = 6 ∨ k = 7 ∨ k = 8 ∨ k = 9 ∨ k = 10 ∨ k = 11 ∨ k = 12 ∨ k = 13 ∨ k = 14 ∨ k = 15 by omega) with rfl | rfl | rfl | rfl | rfl | rfl | rfl | rfl | rfl | rfl | rfl | rfl | rfl | rfl | rfl | rfl
    · refine lv_tableIn (off := 73) (tgt := 132) hx hb dL_law_59 (by decide) (by decide) (by decide) (by decide) ?_
      exact law_write F hT hS8 hc9 hs9 hi hR hP hD hS hl K
    · refine lv_tableIn (off := 124) (tgt := 183) hx hb dL_law_59 (by decide) (by decide) (by decide) (by decide) ?_
      exact law_read F hT hS8 hc9 hs9 hi hR hP hD hS hl hst hthr hcl13 K
    · refine lv_tableIn (off := 204) (tgt := 263) hx hb dL_law_59 (by decide) (by decide) (by decide) (by decide) ?_
      exact law_sync F hT hS8 hc9 hs9 hi hR hP hD hS hl K
    · refine lv_tableIn (off := 217) (tgt := 276) hx hb dL_law_59 (by decide) (by decide) (by decide) (by decide) ?_
      exact law_cut F hT hS8 hc9 hs9 hi hR hP hD hS hl K
    · refine lv_tableIn (off := 252) (tgt := 311) hx hb dL_law_59 (by decide) (by decide) (by decide) (by decide) ?_
      exact law_start F hT hS8 hc9 hs9 hi hR hP hD hS hl K
    · refine lv_tableIn (off := 265) (tgt := 324) hx hb dL_law_59 (by decide) (by decide) (by decide) (by decide) ?_
      exact law_space F hT hS8 hc9 hs9 hi hR hP hD hS hl K
    · refine lv_tableIn (off := 302) (tgt := 361) hx hb dL_law_59 (by decide) (by decide) (by decide) (by decide) ?_
      exact law_mend F hT hS8 hc9 hs9 hi hR hP hD hS hl K
    · refine lv_tableIn (off := 315) (tgt := 374) hx hb dL_law_59 (by decide) (by decide) (by decide) (by decide) ?_
      exact law_poke F hT hS8 hc9 hs9 hi hR hP hD hS hl K
    · refine lv_tableIn (off := 376) (tgt := 435) hx hb dL_law_59 (by decide) (by decide) (by decide) (by decide) ?_
      exact law_wrong F hT hS8 hc9 hs9 hi hR hP hD hS hl K
    · refine lv_tableIn (off := 401) (tgt := 460) hx hb dL_law_59 (by decide) (by decide) (by decide) (by decide) ?_
      exact law_alternate F hT hS8 hc9 hs9 hi hR hP hD hS hl K
    · refine lv_tableIn (off := 426) (tgt := 485) hx hb dL_law_59 (by decide) (by decide) (by decide) (by decide) ?_
      exact law_dump F hT hS8 hc9 hs9 hi hR hP hD hS hl K
    · refine lv_tableIn (off := 451) (tgt := 510) hx hb dL_law_59 (by decide) (by decide) (by decide) (by decide) ?_
      exact law_restore F hT hS8 hc9 hs9 hi hR hP hD hS hl K
    · refine lv_tableIn (off := 488) (tgt := 547) hx hb dL_law_59 (by decide) (by decide) (by decide) (by decide) ?_
      exact law_tape F hT hS8 hc9 hs9 hi hR hP hD hS hl K
    · refine lv_tableIn (off := 513) (tgt := 572) hx hb dL_law_59 (by decide) (by decide) (by decide) (by decide) ?_
      exact law_next F hT hS8 hc9 hs9 hi hR hP hD hS hl K
    · refine lv_tableIn (off := 526) (tgt := 585) hx hb dL_law_59 (by decide) (by decide) (by decide) (by decide) ?_
      exact law_count F hT hS8 hc9 hs9 hi hR hP hD hS hl K
    · refine lv_tableOut (tgt := 610) hx hb dL_law_59 (by decide) (by decide) ?_
      refine W.widen (k := cells + 7) (n := slots + 1955) (by omega) (by omega) ?_
      exact K C ds M ov H locs hR hP hD hS ls hl

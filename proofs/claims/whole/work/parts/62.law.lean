/-! THE LAW: its world, and each of its cases -/
def LW (κ : Nat → ClassId) (T S : Nat) (ad bd : Nat → Nat) (o : Nat) (C : CS) (ds : List DS) (M : MS) (ov : Nat → Int64) : va_W := kW κ T S ad C ds ++ (mW κ T S bd M ++ [(o, .inl (κ 3, 1, .inr (.inl ov)))])
theorem pm2 (a b c : va_W) : ((b ++ c) ++ a).Perm ((c ++ a) ++ b) := by rw [List.append_assoc]; exact List.perm_append_comm
theorem pm3 (a b c : va_W) : ((c ++ a) ++ b).Perm (a ++ (b ++ c)) := by rw [List.append_assoc, ← List.append_assoc a b c]; exact List.perm_append_comm
theorem cW_in {κ : Nat → ClassId} {T S : Nat} {ad : Nat → Nat} {C : CS} {ds : List DS} {r : va_W} : ∀ q ∈ cW κ T S ad C ds, q ∈ kW κ T S ad C ds ++ r := fun _ h => List.mem_append_left _ (List.mem_append_right _ h)
/-- what stays through the law's walk -/
def LF (p : Program) (l : Launch) (s : State) (m : MethodId) (meth : Method) (c : Code) (D : va_G) (κ : Nat → ClassId) (b L : Nat) (xs : Nat → Int32) : Prop := p.tables.exec = Jvm.exec ∧ c.code = code ∧ c.maxLocals = 7 ∧ s.vm.findClass RL = some m.cls ∧ (∀ w ∈ wsL_law, w.before #[Value.ref b] s = true) ∧ va_X b L xs s s.heap ∧ b < s.heap.size ∧ va_K D vwCl (tyA κ) s ∧ L ≤ 2562

set_option maxHeartbeats 4000000 in
set_option maxRecDepth 100000 in
theorem law_write {p : Program} {l : Launch} {e : Env} {s : State} {m : MethodId} {below : List Frame} {meth : Method} {c : Code} {D : va_G} {κ : Nat → ClassId} {b L : Nat} {xs : Nat → Int32} {Q : State → Prop} (F : LF p l s m meth c D κ b L xs) {T S : Nat} (hT : T ≤ 12) (hS8 : S ≤ 8) {ad bd : Nat → Nat} {o : Nat} {C : CS} {ds : List DS} {M : MS} {ov : Nat → Int64} {cells slots i : Nat} (hc9 : cells ≤ 5000) (hs9 : slots ≤ 2000000) (hi : i + 5 ≤ L) (hR : RelT T S C ds M) {H : Heap} {locs : List Loc} (hP : va_P D vwCl (LW κ T S ad bd o C ds M ov) H) (hD : va_D (fun q : Nat => s.heap.size ≤ q) (LW κ T S ad bd o C ds M ov)) (hS : va_S (fun q : Nat => s.heap.size ≤ q) s.heap H locs) {ls : Array Slot} (hl : lv_has ls 7 [(0, .ref b), (1, .ref (ad 0)), (2, .ref (bd 0)), (3, .ref o), (4, .int (nI i))]) 
    (K : ∀ (C' : CS) (ds' : List DS) (M' : MS) (ov' : Nat → Int64) (H' : Heap) (locs' : List Loc), RelT T S C' ds' M' → va_P D vwCl (LW κ T S ad bd o C' ds' M' ov') H' → va_D (fun q : Nat => s.heap.size ≤ q) (LW κ T S ad bd o C' ds' M' ov') → va_S (fun q : Nat => s.heap.size ≤ q) s.heap H' locs' → ∀ ls' : Array Slot, lv_has ls' 7 [(0, .ref b), (1, .ref (ad 0)), (2, .ref (bd 0)), (3, .ref o), (4, .int (nI i))] → W p l e room_1 s m #[Value.ref b] below meth c H' locs' (cells + 7) (slots + 1955) Q (F0 m 610 ls' [])) :
    W p l e room_1 s m #[Value.ref b] below meth c H locs cells slots Q (F0 m 132 ls []) := by
  obtain ⟨hx, hb, hml, hown, hts, hX, hbl, hK, hL⟩ := F
  have hA : ∀ q : Nat, s.heap.size ≤ q → (fun q : Nat => s.heap.size ≤ q) q := fun _ h => h
  have hbA : ¬ (fun q : Nat => s.heap.size ≤ q) b := Nat.not_le.mpr hbl
  have hPt : va_P D vwCl (cW κ T S ad C ds) H := va_P_mem cW_in hP
  obtain ⟨r, C1, M1, hR1, hMc, hMm⟩ := op_write hT hS8 hR l D κ ad bd (xs (i + 1)) (xs (i + 2)) (xs (i + 3))
  refine lv_aload_n hx hb dL_law_132 rfl (lv_at hl 1 rfl) ?_
  refine lv_aload_n hx hb dL_law_133 rfl (lv_at hl 0 rfl) ?_
  refine lv_iload hx hb dL_law_134 (lv_at hl 4 rfl) ?_
  refine lv_iconst (v := nI 1) hx hb dL_law_136 (by decide) ?_
  refine lv_iadd hx hb dL_law_137 ?_
  refine tp_i (y := nI (i + 1)) (by exact nI_add _ _) ?_
  refine va_sld hx hb hX hbl hbA hS (vp_in_nI (by omega) (by omega)) dL_law_138 ?_
  refine tp_i (y := xs (i + 1)) (by rw [nI_clamp (by omega)]) ?_
  refine lv_aload_n hx hb dL_law_139 rfl (lv_at hl 0 rfl) ?_
  refine lv_iload hx hb dL_law_140 (lv_at hl 4 rfl) ?_
  refine lv_iconst (v := nI 2) hx hb dL_law_142 (by decide) ?_
  refine lv_iadd hx hb dL_law_143 ?_
  refine tp_i (y := nI (i + 2)) (by exact nI_add _ _) ?_
  refine va_sld hx hb hX hbl hbA hS (vp_in_nI (by omega) (by omega)) dL_law_144 ?_
  refine tp_i (y := xs (i + 2)) (by rw [nI_clamp (by omega)]) ?_
  refine lv_aload_n hx hb dL_law_145 rfl (lv_at hl 0 rfl) ?_
  refine lv_iload hx hb dL_law_146 (lv_at hl 4 rfl) ?_
  refine lv_iconst (v := nI 3) hx hb dL_law_148 (by decide) ?_
  refine lv_iadd hx hb dL_law_149 ?_
  refine tp_i (y := nI (i + 3)) (by exact nI_add _ _) ?_
  refine va_sld hx hb hX hbl hbA hS (vp_in_nI (by omega) (by omega)) dL_law_150 ?_
  refine tp_i (y := xs (i + 3)) (by rw [nI_clamp (by omega)]) ?_
  refine lv_i2b (v := (xs (i + 3)).toInt8.toInt32) hx hb dL_law_151 rfl ?_
  have hPc : va_P D vwCl (kW κ T S ad C ds) H := va_P_mem (fun q h => List.mem_append_left _ h) hP
  have hDc : va_D (fun q : Nat => s.heap.size ≤ q) (kW κ T S ad C ds) := va_D_right (va_D_perm List.perm_append_comm hD)
  refine mu_callA (wc := kW κ T S ad C ds) (wr := mW κ T S bd M ++ [(o, .inl (κ 3, 1, .inr (.inl ov)))]) (wc' := kW κ T S ad C1 ds) (va_runV (As := [.int (xs (i + 1)), .int (xs (i + 2)), .int ((xs (i + 3)).toInt8.toInt32)]) (rest := []) ⟨hx, hb, hml, hown, hts⟩ (hMc H.size) (cwV 3 hts gL_law_X3_write rfl rfl rfl (by decide +kernel) ⟨Nat.le_of_ble_eq_true rfl, Nat.le_of_ble_eq_true rfl⟩) ⟨mu_blind, va_recv hK hPt (ci := 4) (q0 := 0) rfl rfl, mu_pre hK hPc hDc⟩ rfl rfl hl.1 rfl (lv_room (Nat.le_of_ble_eq_true rfl)) dL_law_152 ⟨show _ ≤ 601024 by omega, show _ ≤ 7293000 by omega⟩) hP hD hS hA List.perm_append_comm (fun H locs hP hD hS => ?_)
  refine W.eq (g2 := F0 m 155 ls [.int r]) rfl ?_
  refine lv_aload_n hx hb dL_law_155 rfl (lv_at hl 2 rfl) ?_
  refine lv_aload_n hx hb dL_law_156 rfl (lv_at hl 0 rfl) ?_
  refine lv_iload hx hb dL_law_157 (lv_at hl 4 rfl) ?_
  refine lv_iconst (v := nI 1) hx hb dL_law_159 (by decide) ?_
  refine lv_iadd hx hb dL_law_160 ?_
  refine tp_i (y := nI (i + 1)) (by exact nI_add _ _) ?_
  refine va_sld hx hb hX hbl hbA hS (vp_in_nI (by omega) (by omega)) dL_law_161 ?_
  refine tp_i (y := xs (i + 1)) (by rw [nI_clamp (by omega)]) ?_
  refine lv_aload_n hx hb dL_law_162 rfl (lv_at hl 0 rfl) ?_
  refine lv_iload hx hb dL_law_163 (lv_at hl 4 rfl) ?_
  refine lv_iconst (v := nI 2) hx hb dL_law_165 (by decide) ?_
  refine lv_iadd hx hb dL_law_166 ?_
  refine tp_i (y := nI (i + 2)) (by exact nI_add _ _) ?_
  refine va_sld hx hb hX hbl hbA hS (vp_in_nI (by omega) (by omega)) dL_law_167 ?_
  refine tp_i (y := xs (i + 2)) (by rw [nI_clamp (by omega)]) ?_
  refine lv_aload_n hx hb dL_law_168 rfl (lv_at hl 0 rfl) ?_
  refine lv_iload hx hb dL_law_169 (lv_at hl 4 rfl) ?_
  refine lv_iconst (v := nI 3) hx hb dL_law_171 (by decide) ?_
  refine lv_iadd hx hb dL_law_172 ?_
  refine tp_i (y := nI (i + 3)) (by exact nI_add _ _) ?_
  refine va_sld hx hb hX hbl hbA hS (vp_in_nI (by omega) (by omega)) dL_law_173 ?_
  refine tp_i (y := xs (i + 3)) (by rw [nI_clamp (by omega)]) ?_
  refine lv_i2b (v := (xs (i + 3)).toInt8.toInt32) hx hb dL_law_174 rfl ?_
  have hPm : va_P D vwCl (mW κ T S bd M) H := va_P_mem (fun q h => List.mem_append_left _ (List.mem_append_left _ h)) hP
  have hDm : va_D (fun q : Nat => s.heap.size ≤ q) (mW κ T S bd M) := va_D_right (va_D_perm (pm2 _ _ _) hD)
  refine mu_callA (wc := mW κ T S bd M) (wr := [(o, .inl (κ 3, 1, .inr (.inl ov)))] ++ kW κ T S ad C1 ds) (wc' := mW κ T S bd M1) (va_runV (As := [.int (xs (i + 1)), .int (xs (i + 2)), .int ((xs (i + 3)).toInt8.toInt32)]) (rest := [.int r]) ⟨hx, hb, hml, hown, hts⟩ (hMm H.size) (cwV 3 hts gL_law_X4_write rfl rfl rfl (by decide +kernel) ⟨Nat.le_of_ble_eq_true rfl, Nat.le_of_ble_eq_true rfl⟩) ⟨mu_blind, va_recv hK hPm (ci := 5) (q0 := 0) rfl rfl, mu_pre hK hPm hDm⟩ rfl rfl hl.1 rfl (lv_room (Nat.le_of_ble_eq_true rfl)) dL_law_175 ⟨show _ ≤ 601024 by omega, show _ ≤ 7293000 by omega⟩) hP hD hS hA (pm2 _ _ _) (fun H locs hP hD hS => ?_)
  refine W.eq (g2 := F0 m 178 ls [.int r, .int r]) rfl ?_
  refine lv_icmp_eq (tgt := 610) hx hb dL_law_178 (by decide) (fun c_178 => ?_) (fun c_178 => ?_)
  · skip
    refine W.widen (k := cells + 7) (n := slots + 1955) (by omega) (by omega) ?_
    exact K C1 ds M1 ov H locs hR1 (va_P_perm (pm3 _ _ _) hP) (va_D_perm (pm3 _ _ _) hD) hS ls (lv_sub hl [0, 1, 2, 3, 4] rfl)
  · exact absurd rfl c_178

set_option maxHeartbeats 4000000 in
set_option maxRecDepth 100000 in
theorem law_sync {p : Program} {l : Launch} {e : Env} {s : State} {m : MethodId} {below : List Frame} {meth : Method} {c : Code} {D : va_G} {κ : Nat → ClassId} {b L : Nat} {xs : Nat → Int32} {Q : State → Prop} (F : LF p l s m meth c D κ b L xs) {T S : Nat} (hT : T ≤ 12) (hS8 : S ≤ 8) {ad bd : Nat → Nat} {o : Nat} {C : CS} {ds : List DS} {M : MS} {ov : Nat → Int64} {cells slots i : Nat} (hc9 : cells ≤ 5000) (hs9 : slots ≤ 2000000) (hi : i + 5 ≤ L) (hR : RelT T S C ds M) {H : Heap} {locs : List Loc} (hP : va_P D vwCl (LW κ T S ad bd o C ds M ov) H) (hD : va_D (fun q : Nat => s.heap.size ≤ q) (LW κ T S ad bd o C ds M ov)) (hS : va_S (fun q : Nat => s.heap.size ≤ q) s.heap H locs) {ls : Array Slot} (hl : lv_has ls 7 [(0, .ref b), (1, .ref (ad 0)), (2, .ref (bd 0)), (3, .ref o), (4, .int (nI i))]) 
    (K : ∀ (C' : CS) (ds' : List DS) (M' : MS) (ov' : Nat → Int64) (H' : Heap) (locs' : List Loc), RelT T S C' ds' M' → va_P D vwCl (LW κ T S ad bd o C' ds' M' ov') H' → va_D (fun q : Nat => s.heap.size ≤ q) (LW κ T S ad bd o C' ds' M' ov') → va_S (fun q : Nat => s.heap.size ≤ q) s.heap H' locs' → ∀ ls' : Array Slot, lv_has ls' 7 [(0, .ref b), (1, .ref (ad 0)), (2, .ref (bd 0)), (3, .ref o), (4, .int (nI i))] → W p l e room_1 s m #[Value.ref b] below meth c H' locs' (cells + 7) (slots + 1955) Q (F0 m 610 ls' [])) :
    W p l e room_1 s m #[Value.ref b] below meth c H locs cells slots Q (F0 m 263 ls []) := by
  obtain ⟨hx, hb, hml, hown, hts, hX, hbl, hK, hL⟩ := F
  have hA : ∀ q : Nat, s.heap.size ≤ q → (fun q : Nat => s.heap.size ≤ q) q := fun _ h => h
  have hbA : ¬ (fun q : Nat => s.heap.size ≤ q) b := Nat.not_le.mpr hbl
  have hPt : va_P D vwCl (cW κ T S ad C ds) H := va_P_mem cW_in hP
  obtain ⟨r, C1, M1, hR1, hMc, hMm⟩ := op_sync hT hS8 hR l D κ ad bd 
  refine lv_aload_n hx hb dL_law_263 rfl (lv_at hl 1 rfl) ?_
  have hPc : va_P D vwCl (kW κ T S ad C ds) H := va_P_mem (fun q h => List.mem_append_left _ h) hP
  have hDc : va_D (fun q : Nat => s.heap.size ≤ q) (kW κ T S ad C ds) := va_D_right (va_D_perm List.perm_append_comm hD)
  refine mu_callA (wc := kW κ T S ad C ds) (wr := mW κ T S bd M ++ [(o, .inl (κ 3, 1, .inr (.inl ov)))]) (wc' := kW κ T S ad C1 ds) (va_runV (As := []) (rest := []) ⟨hx, hb, hml, hown, hts⟩ (hMc H.size) (cwV 0 hts gL_law_X3_sync rfl rfl rfl (by decide +kernel) ⟨Nat.le_of_ble_eq_true rfl, Nat.le_of_ble_eq_true rfl⟩) ⟨mu_blind, va_recv hK hPt (ci := 4) (q0 := 0) rfl rfl, mu_pre hK hPc hDc⟩ rfl rfl hl.1 rfl (lv_room (Nat.le_of_ble_eq_true rfl)) dL_law_264 ⟨show _ ≤ 601024 by omega, show _ ≤ 7293000 by omega⟩) hP hD hS hA List.perm_append_comm (fun H locs hP hD hS => ?_)
  refine W.eq (g2 := F0 m 267 ls [.int r]) rfl ?_
  refine lv_aload_n hx hb dL_law_267 rfl (lv_at hl 2 rfl) ?_
  have hPm : va_P D vwCl (mW κ T S bd M) H := va_P_mem (fun q h => List.mem_append_left _ (List.mem_append_left _ h)) hP
  have hDm : va_D (fun q : Nat => s.heap.size ≤ q) (mW κ T S bd M) := va_D_right (va_D_perm (pm2 _ _ _) hD)
  refine mu_callA (wc := mW κ T S bd M) (wr := [(o, .inl (κ 3, 1, .inr (.inl ov)))] ++ kW κ T S ad C1 ds) (wc' := mW κ T S bd M1) (va_runV (As := []) (rest := [.int r]) ⟨hx, hb, hml, hown, hts⟩ (hMm H.size) (cwV 0 hts gL_law_X4_sync rfl rfl rfl (by decide +kernel) ⟨Nat.le_of_ble_eq_true rfl, Nat.le_of_ble_eq_true rfl⟩) ⟨mu_blind, va_recv hK hPm (ci := 5) (q0 := 0) rfl rfl, mu_pre hK hPm hDm⟩ rfl rfl hl.1 rfl (lv_room (Nat.le_of_ble_eq_true rfl)) dL_law_268 ⟨show _ ≤ 601024 by omega, show _ ≤ 7293000 by omega⟩) hP hD hS hA (pm2 _ _ _) (fun H locs hP hD hS => ?_)
  refine W.eq (g2 := F0 m 271 ls [.int r, .int r]) rfl ?_
  refine lv_icmp_eq (tgt := 610) hx hb dL_law_271 (by decide) (fun c_271 => ?_) (fun c_271 => ?_)
  · skip
    refine W.widen (k := cells + 7) (n := slots + 1955) (by omega) (by omega) ?_
    exact K C1 ds M1 ov H locs hR1 (va_P_perm (pm3 _ _ _) hP) (va_D_perm (pm3 _ _ _) hD) hS ls (lv_sub hl [0, 1, 2, 3, 4] rfl)
  · exact absurd rfl c_271

set_option maxHeartbeats 4000000 in
set_option maxRecDepth 100000 in
theorem law_cut {p : Program} {l : Launch} {e : Env} {s : State} {m : MethodId} {below : List Frame} {meth : Method} {c : Code} {D : va_G} {κ : Nat → ClassId} {b L : Nat} {xs : Nat → Int32} {Q : State → Prop} (F : LF p l s m meth c D κ b L xs) {T S : Nat} (hT : T ≤ 12) (hS8 : S ≤ 8) {ad bd : Nat → Nat} {o : Nat} {C : CS} {ds : List DS} {M : MS} {ov : Nat → Int64} {cells slots i : Nat} (hc9 : cells ≤ 5000) (hs9 : slots ≤ 2000000) (hi : i + 5 ≤ L) (hR : RelT T S C ds M) {H : Heap} {locs : List Loc} (hP : va_P D vwCl (LW κ T S ad bd o C ds M ov) H) (hD : va_D (fun q : Nat => s.heap.size ≤ q) (LW κ T S ad bd o C ds M ov)) (hS : va_S (fun q : Nat => s.heap.size ≤ q) s.heap H locs) {ls : Array Slot} (hl : lv_has ls 7 [(0, .ref b), (1, .ref (ad 0)), (2, .ref (bd 0)), (3, .ref o), (4, .int (nI i))]) 
    (K : ∀ (C' : CS) (ds' : List DS) (M' : MS) (ov' : Nat → Int64) (H' : Heap) (locs' : List Loc), RelT T S C' ds' M' → va_P D vwCl (LW κ T S ad bd o C' ds' M' ov') H' → va_D (fun q : Nat => s.heap.size ≤ q) (LW κ T S ad bd o C' ds' M' ov') → va_S (fun q : Nat => s.heap.size ≤ q) s.heap H' locs' → ∀ ls' : Array Slot, lv_has ls' 7 [(0, .ref b), (1, .ref (ad 0)), (2, .ref (bd 0)), (3, .ref o), (4, .int (nI i))] → W p l e room_1 s m #[Value.ref b] below meth c H' locs' (cells + 7) (slots + 1955) Q (F0 m 610 ls' [])) :
    W p l e room_1 s m #[Value.ref b] below meth c H locs cells slots Q (F0 m 276 ls []) := by
  obtain ⟨hx, hb, hml, hown, hts, hX, hbl, hK, hL⟩ := F
  have hA : ∀ q : Nat, s.heap.size ≤ q → (fun q : Nat => s.heap.size ≤ q) q := fun _ h => h
  have hbA : ¬ (fun q : Nat => s.heap.size ≤ q) b := Nat.not_le.mpr hbl
  have hPt : va_P D vwCl (cW κ T S ad C ds) H := va_P_mem cW_in hP
  obtain ⟨r, C1, M1, hR1, hMc, hMm⟩ := op_cut hT hS8 hR l D κ ad bd (xs (i + 1)) (xs (i + 2))
  refine lv_aload_n hx hb dL_law_276 rfl (lv_at hl 1 rfl) ?_
  refine lv_aload_n hx hb dL_law_277 rfl (lv_at hl 0 rfl) ?_
  refine lv_iload hx hb dL_law_278 (lv_at hl 4 rfl) ?_
  refine lv_iconst (v := nI 1) hx hb dL_law_280 (by decide) ?_
  refine lv_iadd hx hb dL_law_281 ?_
  refine tp_i (y := nI (i + 1)) (by exact nI_add _ _) ?_
  refine va_sld hx hb hX hbl hbA hS (vp_in_nI (by omega) (by omega)) dL_law_282 ?_
  refine tp_i (y := xs (i + 1)) (by rw [nI_clamp (by omega)]) ?_
  refine lv_aload_n hx hb dL_law_283 rfl (lv_at hl 0 rfl) ?_
  refine lv_iload hx hb dL_law_284 (lv_at hl 4 rfl) ?_
  refine lv_iconst (v := nI 2) hx hb dL_law_286 (by decide) ?_
  refine lv_iadd hx hb dL_law_287 ?_
  refine tp_i (y := nI (i + 2)) (by exact nI_add _ _) ?_
  refine va_sld hx hb hX hbl hbA hS (vp_in_nI (by omega) (by omega)) dL_law_288 ?_
  refine tp_i (y := xs (i + 2)) (by rw [nI_clamp (by omega)]) ?_
  have hPc : va_P D vwCl (kW κ T S ad C ds) H := va_P_mem (fun q h => List.mem_append_left _ h) hP
  have hDc : va_D (fun q : Nat => s.heap.size ≤ q) (kW κ T S ad C ds) := va_D_right (va_D_perm List.perm_append_comm hD)
  refine mu_callA (wc := kW κ T S ad C ds) (wr := mW κ T S bd M ++ [(o, .inl (κ 3, 1, .inr (.inl ov)))]) (wc' := kW κ T S ad C1 ds) (va_runV (As := [.int (xs (i + 1)), .int (xs (i + 2))]) (rest := []) ⟨hx, hb, hml, hown, hts⟩ (hMc H.size) (cwV 2 hts gL_law_X3_cut rfl rfl rfl (by decide +kernel) ⟨Nat.le_of_ble_eq_true rfl, Nat.le_of_ble_eq_true rfl⟩) ⟨mu_blind, va_recv hK hPt (ci := 4) (q0 := 0) rfl rfl, mu_pre hK hPc hDc⟩ rfl rfl hl.1 rfl (lv_room (Nat.le_of_ble_eq_true rfl)) dL_law_289 ⟨show _ ≤ 601024 by omega, show _ ≤ 7293000 by omega⟩) hP hD hS hA List.perm_append_comm (fun H locs hP hD hS => ?_)
  refine W.eq (g2 := F0 m 292 ls []) rfl ?_
  refine lv_aload_n hx hb dL_law_292 rfl (lv_at hl 2 rfl) ?_
  refine lv_aload_n hx hb dL_law_293 rfl (lv_at hl 0 rfl) ?_
  refine lv_iload hx hb dL_law_294 (lv_at hl 4 rfl) ?_
  refine lv_iconst (v := nI 1) hx hb dL_law_296 (by decide) ?_
  refine lv_iadd hx hb dL_law_297 ?_
  refine tp_i (y := nI (i + 1)) (by exact nI_add _ _) ?_
  refine va_sld hx hb hX hbl hbA hS (vp_in_nI (by omega) (by omega)) dL_law_298 ?_
  refine tp_i (y := xs (i + 1)) (by rw [nI_clamp (by omega)]) ?_
  refine lv_aload_n hx hb dL_law_299 rfl (lv_at hl 0 rfl) ?_
  refine lv_iload hx hb dL_law_300 (lv_at hl 4 rfl) ?_
  refine lv_iconst (v := nI 2) hx hb dL_law_302 (by decide) ?_
  refine lv_iadd hx hb dL_law_303 ?_
  refine tp_i (y := nI (i + 2)) (by exact nI_add _ _) ?_
  refine va_sld hx hb hX hbl hbA hS (vp_in_nI (by omega) (by omega)) dL_law_304 ?_
  refine tp_i (y := xs (i + 2)) (by rw [nI_clamp (by omega)]) ?_
  have hPm : va_P D vwCl (mW κ T S bd M) H := va_P_mem (fun q h => List.mem_append_left _ (List.mem_append_left _ h)) hP
  have hDm : va_D (fun q : Nat => s.heap.size ≤ q) (mW κ T S bd M) := va_D_right (va_D_perm (pm2 _ _ _) hD)
  refine mu_callA (wc := mW κ T S bd M) (wr := [(o, .inl (κ 3, 1, .inr (.inl ov)))] ++ kW κ T S ad C1 ds) (wc' := mW κ T S bd M1) (va_runV (As := [.int (xs (i + 1)), .int (xs (i + 2))]) (rest := []) ⟨hx, hb, hml, hown, hts⟩ (hMm H.size) (cwV 2 hts gL_law_X4_cut rfl rfl rfl (by decide +kernel) ⟨Nat.le_of_ble_eq_true rfl, Nat.le_of_ble_eq_true rfl⟩) ⟨mu_blind, va_recv hK hPm (ci := 5) (q0 := 0) rfl rfl, mu_pre hK hPm hDm⟩ rfl rfl hl.1 rfl (lv_room (Nat.le_of_ble_eq_true rfl)) dL_law_305 ⟨show _ ≤ 601024 by omega, show _ ≤ 7293000 by omega⟩) hP hD hS hA (pm2 _ _ _) (fun H locs hP hD hS => ?_)
  refine W.eq (g2 := F0 m 308 ls []) rfl ?_
  refine lv_goto (tgt := 610) hx hb dL_law_308 (by decide) ?_
  refine W.widen (k := cells + 7) (n := slots + 1955) (by omega) (by omega) ?_
  exact K C1 ds M1 ov H locs hR1 (va_P_perm (pm3 _ _ _) hP) (va_D_perm (pm3 _ _ _) hD) hS ls (lv_sub hl [0, 1, 2, 3, 4] rfl)

set_option maxHeartbeats 4000000 in
set_option maxRecDepth 100000 in
theorem law_start {p : Program} {l : Launch} {e : Env} {s : State} {m : MethodId} {below : List Frame} {meth : Method} {c : Code} {D : va_G} {κ : Nat → ClassId} {b L : Nat} {xs : Nat → Int32} {Q : State → Prop} (F : LF p l s m meth c D κ b L xs) {T S : Nat} (hT : T ≤ 12) (hS8 : S ≤ 8) {ad bd : Nat → Nat} {o : Nat} {C : CS} {ds : List DS} {M : MS} {ov : Nat → Int64} {cells slots i : Nat} (hc9 : cells ≤ 5000) (hs9 : slots ≤ 2000000) (hi : i + 5 ≤ L) (hR : RelT T S C ds M) {H : Heap} {locs : List Loc} (hP : va_P D vwCl (LW κ T S ad bd o C ds M ov) H) (hD : va_D (fun q : Nat => s.heap.size ≤ q) (LW κ T S ad bd o C ds M ov)) (hS : va_S (fun q : Nat => s.heap.size ≤ q) s.heap H locs) {ls : Array Slot} (hl : lv_has ls 7 [(0, .ref b), (1, .ref (ad 0)), (2, .ref (bd 0)), (3, .ref o), (4, .int (nI i))]) 
    (K : ∀ (C' : CS) (ds' : List DS) (M' : MS) (ov' : Nat → Int64) (H' : Heap) (locs' : List Loc), RelT T S C' ds' M' → va_P D vwCl (LW κ T S ad bd o C' ds' M' ov') H' → va_D (fun q : Nat => s.heap.size ≤ q) (LW κ T S ad bd o C' ds' M' ov') → va_S (fun q : Nat => s.heap.size ≤ q) s.heap H' locs' → ∀ ls' : Array Slot, lv_has ls' 7 [(0, .ref b), (1, .ref (ad 0)), (2, .ref (bd 0)), (3, .ref o), (4, .int (nI i))] → W p l e room_1 s m #[Value.ref b] below meth c H' locs' (cells + 7) (slots + 1955) Q (F0 m 610 ls' [])) :
    W p l e room_1 s m #[Value.ref b] below meth c H locs cells slots Q (F0 m 311 ls []) := by
  obtain ⟨hx, hb, hml, hown, hts, hX, hbl, hK, hL⟩ := F
  have hA : ∀ q : Nat, s.heap.size ≤ q → (fun q : Nat => s.heap.size ≤ q) q := fun _ h => h
  have hbA : ¬ (fun q : Nat => s.heap.size ≤ q) b := Nat.not_le.mpr hbl
  have hPt : va_P D vwCl (cW κ T S ad C ds) H := va_P_mem cW_in hP
  obtain ⟨r, C1, M1, hR1, hMc, hMm⟩ := op_start hT hS8 hR l D κ ad bd 
  refine lv_aload_n hx hb dL_law_311 rfl (lv_at hl 1 rfl) ?_
  have hPc : va_P D vwCl (kW κ T S ad C ds) H := va_P_mem (fun q h => List.mem_append_left _ h) hP
  have hDc : va_D (fun q : Nat => s.heap.size ≤ q) (kW κ T S ad C ds) := va_D_right (va_D_perm List.perm_append_comm hD)
  refine mu_callA (wc := kW κ T S ad C ds) (wr := mW κ T S bd M ++ [(o, .inl (κ 3, 1, .inr (.inl ov)))]) (wc' := kW κ T S ad C1 ds) (va_runV (As := []) (rest := []) ⟨hx, hb, hml, hown, hts⟩ (hMc H.size) (cwV 0 hts gL_law_X3_start rfl rfl rfl (by decide +kernel) ⟨Nat.le_of_ble_eq_true rfl, Nat.le_of_ble_eq_true rfl⟩) ⟨mu_blind, va_recv hK hPt (ci := 4) (q0 := 0) rfl rfl, mu_pre hK hPc hDc⟩ rfl rfl hl.1 rfl (lv_room (Nat.le_of_ble_eq_true rfl)) dL_law_312 ⟨show _ ≤ 601024 by omega, show _ ≤ 7293000 by omega⟩) hP hD hS hA List.perm_append_comm (fun H locs hP hD hS => ?_)
  refine W.eq (g2 := F0 m 315 ls [.int r]) rfl ?_
  refine lv_aload_n hx hb dL_law_315 rfl (lv_at hl 2 rfl) ?_
  have hPm : va_P D vwCl (mW κ T S bd M) H := va_P_mem (fun q h => List.mem_append_left _ (List.mem_append_left _ h)) hP
  have hDm : va_D (fun q : Nat => s.heap.size ≤ q) (mW κ T S bd M) := va_D_right (va_D_perm (pm2 _ _ _) hD)
  refine mu_callA (wc := mW κ T S bd M) (wr := [(o, .inl (κ 3, 1, .inr (.inl ov)))] ++ kW κ T S ad C1 ds) (wc' := mW κ T S bd M1) (va_runV (As := []) (rest := [.int r]) ⟨hx, hb, hml, hown, hts⟩ (hMm H.size) (cwV 0 hts gL_law_X4_start rfl rfl rfl (by decide +kernel) ⟨Nat.le_of_ble_eq_true rfl, Nat.le_of_ble_eq_true rfl⟩) ⟨mu_blind, va_recv hK hPm (ci := 5) (q0 := 0) rfl rfl, mu_pre hK hPm hDm⟩ rfl rfl hl.1 rfl (lv_room (Nat.le_of_ble_eq_true rfl)) dL_law_316 ⟨show _ ≤ 601024 by omega, show _ ≤ 7293000 by omega⟩) hP hD hS hA (pm2 _ _ _) (fun H locs hP hD hS => ?_)
  refine W.eq (g2 := F0 m 319 ls [.int r, .int r]) rfl ?_
  refine lv_icmp_eq (tgt := 610) hx hb dL_law_319 (by decide) (fun c_319 => ?_) (fun c_319 => ?_)
  · skip
    refine W.widen (k := cells + 7) (n := slots + 1955) (by omega) (by omega) ?_
    exact K C1 ds M1 ov H locs hR1 (va_P_perm (pm3 _ _ _) hP) (va_D_perm (pm3 _ _ _) hD) hS ls (lv_sub hl [0, 1, 2, 3, 4] rfl)
  · exact absurd rfl c_319

set_option maxHeartbeats 4000000 in
set_option maxRecDepth 100000 in
theorem law_space {p : Program} {l : Launch} {e : Env} {s : State} {m : MethodId} {below : List Frame} {meth : Method} {c : Code} {D : va_G} {κ : Nat → ClassId} {b L : Nat} {xs : Nat → Int32} {Q : State → Prop} (F : LF p l s m meth c D κ b L xs) {T S : Nat} (hT : T ≤ 12) (hS8 : S ≤ 8) {ad bd : Nat → Nat} {o : Nat} {C : CS} {ds : List DS} {M : MS} {ov : Nat → Int64} {cells slots i : Nat} (hc9 : cells ≤ 5000) (hs9 : slots ≤ 2000000) (hi : i + 5 ≤ L) (hR : RelT T S C ds M) {H : Heap} {locs : List Loc} (hP : va_P D vwCl (LW κ T S ad bd o C ds M ov) H) (hD : va_D (fun q : Nat => s.heap.size ≤ q) (LW κ T S ad bd o C ds M ov)) (hS : va_S (fun q : Nat => s.heap.size ≤ q) s.heap H locs) {ls : Array Slot} (hl : lv_has ls 7 [(0, .ref b), (1, .ref (ad 0)), (2, .ref (bd 0)), (3, .ref o), (4, .int (nI i))]) 
    (K : ∀ (C' : CS) (ds' : List DS) (M' : MS) (ov' : Nat → Int64) (H' : Heap) (locs' : List Loc), RelT T S C' ds' M' → va_P D vwCl (LW κ T S ad bd o C' ds' M' ov') H' → va_D (fun q : Nat => s.heap.size ≤ q) (LW κ T S ad bd o C' ds' M' ov') → va_S (fun q : Nat => s.heap.size ≤ q) s.heap H' locs' → ∀ ls' : Array Slot, lv_has ls' 7 [(0, .ref b), (1, .ref (ad 0)), (2, .ref (bd 0)), (3, .ref o), (4, .int (nI i))] → W p l e room_1 s m #[Value.ref b] below meth c H' locs' (cells + 7) (slots + 1955) Q (F0 m 610 ls' [])) :
    W p l e room_1 s m #[Value.ref b] below meth c H locs cells slots Q (F0 m 324 ls []) := by
  obtain ⟨hx, hb, hml, hown, hts, hX, hbl, hK, hL⟩ := F
  have hA : ∀ q : Nat, s.heap.size ≤ q → (fun q : Nat => s.heap.size ≤ q) q := fun _ h => h
  have hbA : ¬ (fun q : Nat => s.heap.size ≤ q) b := Nat.not_le.mpr hbl
  have hPt : va_P D vwCl (cW κ T S ad C ds) H := va_P_mem cW_in hP
  obtain ⟨r, C1, M1, hR1, hMc, hMm⟩ := op_space hT hS8 hR l D κ ad bd (xs (i + 1)) (xs (i + 2))
  refine lv_aload_n hx hb dL_law_324 rfl (lv_at hl 1 rfl) ?_
  refine lv_aload_n hx hb dL_law_325 rfl (lv_at hl 0 rfl) ?_
  refine lv_iload hx hb dL_law_326 (lv_at hl 4 rfl) ?_
  refine lv_iconst (v := nI 1) hx hb dL_law_328 (by decide) ?_
  refine lv_iadd hx hb dL_law_329 ?_
  refine tp_i (y := nI (i + 1)) (by exact nI_add _ _) ?_
  refine va_sld hx hb hX hbl hbA hS (vp_in_nI (by omega) (by omega)) dL_law_330 ?_
  refine tp_i (y := xs (i + 1)) (by rw [nI_clamp (by omega)]) ?_
  refine lv_aload_n hx hb dL_law_331 rfl (lv_at hl 0 rfl) ?_
  refine lv_iload hx hb dL_law_332 (lv_at hl 4 rfl) ?_
  refine lv_iconst (v := nI 2) hx hb dL_law_334 (by decide) ?_
  refine lv_iadd hx hb dL_law_335 ?_
  refine tp_i (y := nI (i + 2)) (by exact nI_add _ _) ?_
  refine va_sld hx hb hX hbl hbA hS (vp_in_nI (by omega) (by omega)) dL_law_336 ?_
  refine tp_i (y := xs (i + 2)) (by rw [nI_clamp (by omega)]) ?_
  have hPc : va_P D vwCl (kW κ T S ad C ds) H := va_P_mem (fun q h => List.mem_append_left _ h) hP
  have hDc : va_D (fun q : Nat => s.heap.size ≤ q) (kW κ T S ad C ds) := va_D_right (va_D_perm List.perm_append_comm hD)
  refine mu_callA (wc := kW κ T S ad C ds) (wr := mW κ T S bd M ++ [(o, .inl (κ 3, 1, .inr (.inl ov)))]) (wc' := kW κ T S ad C1 ds) (va_runV (As := [.int (xs (i + 1)), .int (xs (i + 2))]) (rest := []) ⟨hx, hb, hml, hown, hts⟩ (hMc H.size) (cwV 2 hts gL_law_X3_space rfl rfl rfl (by decide +kernel) ⟨Nat.le_of_ble_eq_true rfl, Nat.le_of_ble_eq_true rfl⟩) ⟨mu_blind, va_recv hK hPt (ci := 4) (q0 := 0) rfl rfl, mu_pre hK hPc hDc⟩ rfl rfl hl.1 rfl (lv_room (Nat.le_of_ble_eq_true rfl)) dL_law_337 ⟨show _ ≤ 601024 by omega, show _ ≤ 7293000 by omega⟩) hP hD hS hA List.perm_append_comm (fun H locs hP hD hS => ?_)
  refine W.eq (g2 := F0 m 340 ls [.int r]) rfl ?_
  refine lv_aload_n hx hb dL_law_340 rfl (lv_at hl 2 rfl) ?_
  refine lv_aload_n hx hb dL_law_341 rfl (lv_at hl 0 rfl) ?_
  refine lv_iload hx hb dL_law_342 (lv_at hl 4 rfl) ?_
  refine lv_iconst (v := nI 1) hx hb dL_law_344 (by decide) ?_
  refine lv_iadd hx hb dL_law_345 ?_
  refine tp_i (y := nI (i + 1)) (by exact nI_add _ _) ?_
  refine va_sld hx hb hX hbl hbA hS (vp_in_nI (by omega) (by omega)) dL_law_346 ?_
  refine tp_i (y := xs (i + 1)) (by rw [nI_clamp (by omega)]) ?_
  refine lv_aload_n hx hb dL_law_347 rfl (lv_at hl 0 rfl) ?_
  refine lv_iload hx hb dL_law_348 (lv_at hl 4 rfl) ?_
  refine lv_iconst (v := nI 2) hx hb dL_law_350 (by decide) ?_
  refine lv_iadd hx hb dL_law_351 ?_
  refine tp_i (y := nI (i + 2)) (by exact nI_add _ _) ?_
  refine va_sld hx hb hX hbl hbA hS (vp_in_nI (by omega) (by omega)) dL_law_352 ?_
  refine tp_i (y := xs (i + 2)) (by rw [nI_clamp (by omega)]) ?_
  have hPm : va_P D vwCl (mW κ T S bd M) H := va_P_mem (fun q h => List.mem_append_left _ (List.mem_append_left _ h)) hP
  have hDm : va_D (fun q : Nat => s.heap.size ≤ q) (mW κ T S bd M) := va_D_right (va_D_perm (pm2 _ _ _) hD)
  refine mu_callA (wc := mW κ T S bd M) (wr := [(o, .inl (κ 3, 1, .inr (.inl ov)))] ++ kW κ T S ad C1 ds) (wc' := mW κ T S bd M1) (va_runV (As := [.int (xs (i + 1)), .int (xs (i + 2))]) (rest := [.int r]) ⟨hx, hb, hml, hown, hts⟩ (hMm H.size) (cwV 2 hts gL_law_X4_space rfl rfl rfl (by decide +kernel) ⟨Nat.le_of_ble_eq_true rfl, Nat.le_of_ble_eq_true rfl⟩) ⟨mu_blind, va_recv hK hPm (ci := 5) (q0 := 0) rfl rfl, mu_pre hK hPm hDm⟩ rfl rfl hl.1 rfl (lv_room (Nat.le_of_ble_eq_true rfl)) dL_law_353 ⟨show _ ≤ 601024 by omega, show _ ≤ 7293000 by omega⟩) hP hD hS hA (pm2 _ _ _) (fun H locs hP hD hS => ?_)
  refine W.eq (g2 := F0 m 356 ls [.int r, .int r]) rfl ?_
  refine lv_icmp_eq (tgt := 610) hx hb dL_law_356 (by decide) (fun c_356 => ?_) (fun c_356 => ?_)
  · skip
    refine W.widen (k := cells + 7) (n := slots + 1955) (by omega) (by omega) ?_
    exact K C1 ds M1 ov H locs hR1 (va_P_perm (pm3 _ _ _) hP) (va_D_perm (pm3 _ _ _) hD) hS ls (lv_sub hl [0, 1, 2, 3, 4] rfl)
  · exact absurd rfl c_356

set_option maxHeartbeats 4000000 in
set_option maxRecDepth 100000 in
theorem law_mend {p : Program} {l : Launch} {e : Env} {s : State} {m : MethodId} {below : List Frame} {meth : Method} {c : Code} {D : va_G} {κ : Nat → ClassId} {b L : Nat} {xs : Nat → Int32} {Q : State → Prop} (F : LF p l s m meth c D κ b L xs) {T S : Nat} (hT : T ≤ 12) (hS8 : S ≤ 8) {ad bd : Nat → Nat} {o : Nat} {C : CS} {ds : List DS} {M : MS} {ov : Nat → Int64} {cells slots i : Nat} (hc9 : cells ≤ 5000) (hs9 : slots ≤ 2000000) (hi : i + 5 ≤ L) (hR : RelT T S C ds M) {H : Heap} {locs : List Loc} (hP : va_P D vwCl (LW κ T S ad bd o C ds M ov) H) (hD : va_D (fun q : Nat => s.heap.size ≤ q) (LW κ T S ad bd o C ds M ov)) (hS : va_S (fun q : Nat => s.heap.size ≤ q) s.heap H locs) {ls : Array Slot} (hl : lv_has ls 7 [(0, .ref b), (1, .ref (ad 0)), (2, .ref (bd 0)), (3, .ref o), (4, .int (nI i))]) 
    (K : ∀ (C' : CS) (ds' : List DS) (M' : MS) (ov' : Nat → Int64) (H' : Heap) (locs' : List Loc), RelT T S C' ds' M' → va_P D vwCl (LW κ T S ad bd o C' ds' M' ov') H' → va_D (fun q : Nat => s.heap.size ≤ q) (LW κ T S ad bd o C' ds' M' ov') → va_S (fun q : Nat => s.heap.size ≤ q) s.heap H' locs' → ∀ ls' : Array Slot, lv_has ls' 7 [(0, .ref b), (1, .ref (ad 0)), (2, .ref (bd 0)), (3, .ref o), (4, .int (nI i))] → W p l e room_1 s m #[Value.ref b] below meth c H' locs' (cells + 7) (slots + 1955) Q (F0 m 610 ls' [])) :
    W p l e room_1 s m #[Value.ref b] below meth c H locs cells slots Q (F0 m 361 ls []) := by
  obtain ⟨hx, hb, hml, hown, hts, hX, hbl, hK, hL⟩ := F
  have hA : ∀ q : Nat, s.heap.size ≤ q → (fun q : Nat => s.heap.size ≤ q) q := fun _ h => h
  have hbA : ¬ (fun q : Nat => s.heap.size ≤ q) b := Nat.not_le.mpr hbl
  have hPt : va_P D vwCl (cW κ T S ad C ds) H := va_P_mem cW_in hP
  obtain ⟨r, C1, M1, hR1, hMc, hMm⟩ := op_mend hT hS8 hR l D κ ad bd 
  refine lv_aload_n hx hb dL_law_361 rfl (lv_at hl 1 rfl) ?_
  have hPc : va_P D vwCl (kW κ T S ad C ds) H := va_P_mem (fun q h => List.mem_append_left _ h) hP
  have hDc : va_D (fun q : Nat => s.heap.size ≤ q) (kW κ T S ad C ds) := va_D_right (va_D_perm List.perm_append_comm hD)
  refine mu_callA (wc := kW κ T S ad C ds) (wr := mW κ T S bd M ++ [(o, .inl (κ 3, 1, .inr (.inl ov)))]) (wc' := kW κ T S ad C1 ds) (va_runV (As := []) (rest := []) ⟨hx, hb, hml, hown, hts⟩ (hMc H.size) (cwV 0 hts gL_law_X3_mend rfl rfl rfl (by decide +kernel) ⟨Nat.le_of_ble_eq_true rfl, Nat.le_of_ble_eq_true rfl⟩) ⟨mu_blind, va_recv hK hPt (ci := 4) (q0 := 0) rfl rfl, mu_pre hK hPc hDc⟩ rfl rfl hl.1 rfl (lv_room (Nat.le_of_ble_eq_true rfl)) dL_law_362 ⟨show _ ≤ 601024 by omega, show _ ≤ 7293000 by omega⟩) hP hD hS hA List.perm_append_comm (fun H locs hP hD hS => ?_)
  refine W.eq (g2 := F0 m 365 ls [.int r]) rfl ?_
  refine lv_aload_n hx hb dL_law_365 rfl (lv_at hl 2 rfl) ?_
  have hPm : va_P D vwCl (mW κ T S bd M) H := va_P_mem (fun q h => List.mem_append_left _ (List.mem_append_left _ h)) hP
  have hDm : va_D (fun q : Nat => s.heap.size ≤ q) (mW κ T S bd M) := va_D_right (va_D_perm (pm2 _ _ _) hD)
  refine mu_callA (wc := mW κ T S bd M) (wr := [(o, .inl (κ 3, 1, .inr (.inl ov)))] ++ kW κ T S ad C1 ds) (wc' := mW κ T S bd M1) (va_runV (As := []) (rest := [.int r]) ⟨hx, hb, hml, hown, hts⟩ (hMm H.size) (cwV 0 hts gL_law_X4_mend rfl rfl rfl (by decide +kernel) ⟨Nat.le_of_ble_eq_true rfl, Nat.le_of_ble_eq_true rfl⟩) ⟨mu_blind, va_recv hK hPm (ci := 5) (q0 := 0) rfl rfl, mu_pre hK hPm hDm⟩ rfl rfl hl.1 rfl (lv_room (Nat.le_of_ble_eq_true rfl)) dL_law_366 ⟨show _ ≤ 601024 by omega, show _ ≤ 7293000 by omega⟩) hP hD hS hA (pm2 _ _ _) (fun H locs hP hD hS => ?_)
  refine W.eq (g2 := F0 m 369 ls [.int r, .int r]) rfl ?_
  refine lv_icmp_eq (tgt := 610) hx hb dL_law_369 (by decide) (fun c_369 => ?_) (fun c_369 => ?_)
  · skip
    refine W.widen (k := cells + 7) (n := slots + 1955) (by omega) (by omega) ?_
    exact K C1 ds M1 ov H locs hR1 (va_P_perm (pm3 _ _ _) hP) (va_D_perm (pm3 _ _ _) hD) hS ls (lv_sub hl [0, 1, 2, 3, 4] rfl)
  · exact absurd rfl c_369

set_option maxHeartbeats 4000000 in
set_option maxRecDepth 100000 in
theorem law_poke {p : Program} {l : Launch} {e : Env} {s : State} {m : MethodId} {below : List Frame} {meth : Method} {c : Code} {D : va_G} {κ : Nat → ClassId} {b L : Nat} {xs : Nat → Int32} {Q : State → Prop} (F : LF p l s m meth c D κ b L xs) {T S : Nat} (hT : T ≤ 12) (hS8 : S ≤ 8) {ad bd : Nat → Nat} {o : Nat} {C : CS} {ds : List DS} {M : MS} {ov : Nat → Int64} {cells slots i : Nat} (hc9 : cells ≤ 5000) (hs9 : slots ≤ 2000000) (hi : i + 5 ≤ L) (hR : RelT T S C ds M) {H : Heap} {locs : List Loc} (hP : va_P D vwCl (LW κ T S ad bd o C ds M ov) H) (hD : va_D (fun q : Nat => s.heap.size ≤ q) (LW κ T S ad bd o C ds M ov)) (hS : va_S (fun q : Nat => s.heap.size ≤ q) s.heap H locs) {ls : Array Slot} (hl : lv_has ls 7 [(0, .ref b), (1, .ref (ad 0)), (2, .ref (bd 0)), (3, .ref o), (4, .int (nI i))]) 
    (K : ∀ (C' : CS) (ds' : List DS) (M' : MS) (ov' : Nat → Int64) (H' : Heap) (locs' : List Loc), RelT T S C' ds' M' → va_P D vwCl (LW κ T S ad bd o C' ds' M' ov') H' → va_D (fun q : Nat => s.heap.size ≤ q) (LW κ T S ad bd o C' ds' M' ov') → va_S (fun q : Nat => s.heap.size ≤ q) s.heap H' locs' → ∀ ls' : Array Slot, lv_has ls' 7 [(0, .ref b), (1, .ref (ad 0)), (2, .ref (bd 0)), (3, .ref o), (4, .int (nI i))] → W p l e room_1 s m #[Value.ref b] below meth c H' locs' (cells + 7) (slots + 1955) Q (F0 m 610 ls' [])) :
    W p l e room_1 s m #[Value.ref b] below meth c H locs cells slots Q (F0 m 374 ls []) := by
  obtain ⟨hx, hb, hml, hown, hts, hX, hbl, hK, hL⟩ := F
  have hA : ∀ q : Nat, s.heap.size ≤ q → (fun q : Nat => s.heap.size ≤ q) q := fun _ h => h
  have hbA : ¬ (fun q : Nat => s.heap.size ≤ q) b := Nat.not_le.mpr hbl
  have hPt : va_P D vwCl (cW κ T S ad C ds) H := va_P_mem cW_in hP
  obtain ⟨r, C1, M1, hR1, hMc, hMm⟩ := op_poke hT hS8 hR l D κ ad bd (xs (i + 1)) (xs (i + 2)) (xs (i + 3)) (xs (i + 4))
  refine lv_aload_n hx hb dL_law_374 rfl (lv_at hl 1 rfl) ?_
  refine lv_aload_n hx hb dL_law_375 rfl (lv_at hl 0 rfl) ?_
  refine lv_iload hx hb dL_law_376 (lv_at hl 4 rfl) ?_
  refine lv_iconst (v := nI 1) hx hb dL_law_378 (by decide) ?_
  refine lv_iadd hx hb dL_law_379 ?_
  refine tp_i (y := nI (i + 1)) (by exact nI_add _ _) ?_
  refine va_sld hx hb hX hbl hbA hS (vp_in_nI (by omega) (by omega)) dL_law_380 ?_
  refine tp_i (y := xs (i + 1)) (by rw [nI_clamp (by omega)]) ?_
  refine lv_aload_n hx hb dL_law_381 rfl (lv_at hl 0 rfl) ?_
  refine lv_iload hx hb dL_law_382 (lv_at hl 4 rfl) ?_
  refine lv_iconst (v := nI 2) hx hb dL_law_384 (by decide) ?_
  refine lv_iadd hx hb dL_law_385 ?_
  refine tp_i (y := nI (i + 2)) (by exact nI_add _ _) ?_
  refine va_sld hx hb hX hbl hbA hS (vp_in_nI (by omega) (by omega)) dL_law_386 ?_
  refine tp_i (y := xs (i + 2)) (by rw [nI_clamp (by omega)]) ?_
  refine lv_aload_n hx hb dL_law_387 rfl (lv_at hl 0 rfl) ?_
  refine lv_iload hx hb dL_law_388 (lv_at hl 4 rfl) ?_
  refine lv_iconst (v := nI 3) hx hb dL_law_390 (by decide) ?_
  refine lv_iadd hx hb dL_law_391 ?_
  refine tp_i (y := nI (i + 3)) (by exact nI_add _ _) ?_
  refine va_sld hx hb hX hbl hbA hS (vp_in_nI (by omega) (by omega)) dL_law_392 ?_
  refine tp_i (y := xs (i + 3)) (by rw [nI_clamp (by omega)]) ?_
  refine lv_aload_n hx hb dL_law_393 rfl (lv_at hl 0 rfl) ?_
  refine lv_iload hx hb dL_law_394 (lv_at hl 4 rfl) ?_
  refine lv_iconst (v := nI 4) hx hb dL_law_396 (by decide) ?_
  refine lv_iadd hx hb dL_law_397 ?_
  refine tp_i (y := nI (i + 4)) (by exact nI_add _ _) ?_
  refine va_sld hx hb hX hbl hbA hS (vp_in_nI (by omega) (by omega)) dL_law_398 ?_
  refine tp_i (y := xs (i + 4)) (by rw [nI_clamp (by omega)]) ?_
  have hPc : va_P D vwCl (kW κ T S ad C ds) H := va_P_mem (fun q h => List.mem_append_left _ h) hP
  have hDc : va_D (fun q : Nat => s.heap.size ≤ q) (kW κ T S ad C ds) := va_D_right (va_D_perm List.perm_append_comm hD)
  refine mu_callA (wc := kW κ T S ad C ds) (wr := mW κ T S bd M ++ [(o, .inl (κ 3, 1, .inr (.inl ov)))]) (wc' := kW κ T S ad C1 ds) (va_runV (As := [.int (xs (i + 1)), .int (xs (i + 2)), .int (xs (i + 3)), .int (xs (i + 4))]) (rest := []) ⟨hx, hb, hml, hown, hts⟩ (hMc H.size) (cwV 4 hts gL_law_X3_poke rfl rfl rfl (by decide +kernel) ⟨Nat.le_of_ble_eq_true rfl, Nat.le_of_ble_eq_true rfl⟩) ⟨mu_blind, va_recv hK hPt (ci := 4) (q0 := 0) rfl rfl, mu_pre hK hPc hDc⟩ rfl rfl hl.1 rfl (lv_room (Nat.le_of_ble_eq_true rfl)) dL_law_399 ⟨show _ ≤ 601024 by omega, show _ ≤ 7293000 by omega⟩) hP hD hS hA List.perm_append_comm (fun H locs hP hD hS => ?_)
  refine W.eq (g2 := F0 m 402 ls [.int r]) rfl ?_
  refine lv_aload_n hx hb dL_law_402 rfl (lv_at hl 2 rfl) ?_
  refine lv_aload_n hx hb dL_law_403 rfl (lv_at hl 0 rfl) ?_
  refine lv_iload hx hb dL_law_404 (lv_at hl 4 rfl) ?_
  refine lv_iconst (v := nI 1) hx hb dL_law_406 (by decide) ?_
  refine lv_iadd hx hb dL_law_407 ?_
  refine tp_i (y := nI (i + 1)) (by exact nI_add _ _) ?_
  refine va_sld hx hb hX hbl hbA hS (vp_in_nI (by omega) (by omega)) dL_law_408 ?_
  refine tp_i (y := xs (i + 1)) (by rw [nI_clamp (by omega)]) ?_
  refine lv_aload_n hx hb dL_law_409 rfl (lv_at hl 0 rfl) ?_
  refine lv_iload hx hb dL_law_410 (lv_at hl 4 rfl) ?_
  refine lv_iconst (v := nI 2) hx hb dL_law_412 (by decide) ?_
  refine lv_iadd hx hb dL_law_413 ?_
  refine tp_i (y := nI (i + 2)) (by exact nI_add _ _) ?_
  refine va_sld hx hb hX hbl hbA hS (vp_in_nI (by omega) (by omega)) dL_law_414 ?_
  refine tp_i (y := xs (i + 2)) (by rw [nI_clamp (by omega)]) ?_
  refine lv_aload_n hx hb dL_law_415 rfl (lv_at hl 0 rfl) ?_
  refine lv_iload hx hb dL_law_416 (lv_at hl 4 rfl) ?_
  refine lv_iconst (v := nI 3) hx hb dL_law_418 (by decide) ?_
  refine lv_iadd hx hb dL_law_419 ?_
  refine tp_i (y := nI (i + 3)) (by exact nI_add _ _) ?_
  refine va_sld hx hb hX hbl hbA hS (vp_in_nI (by omega) (by omega)) dL_law_420 ?_
  refine tp_i (y := xs (i + 3)) (by rw [nI_clamp (by omega)]) ?_
  refine lv_aload_n hx hb dL_law_421 rfl (lv_at hl 0 rfl) ?_
  refine lv_iload hx hb dL_law_422 (lv_at hl 4 rfl) ?_
  refine lv_iconst (v := nI 4) hx hb dL_law_424 (by decide) ?_
  refine lv_iadd hx hb dL_law_425 ?_
  refine tp_i (y := nI (i + 4)) (by exact nI_add _ _) ?_
  refine va_sld hx hb hX hbl hbA hS (vp_in_nI (by omega) (by omega)) dL_law_426 ?_
  refine tp_i (y := xs (i + 4)) (by rw [nI_clamp (by omega)]) ?_
  have hPm : va_P D vwCl (mW κ T S bd M) H := va_P_mem (fun q h => List.mem_append_left _ (List.mem_append_left _ h)) hP
  have hDm : va_D (fun q : Nat => s.heap.size ≤ q) (mW κ T S bd M) := va_D_right (va_D_perm (pm2 _ _ _) hD)
  refine mu_callA (wc := mW κ T S bd M) (wr := [(o, .inl (κ 3, 1, .inr (.inl ov)))] ++ kW κ T S ad C1 ds) (wc' := mW κ T S bd M1) (va_runV (As := [.int (xs (i + 1)), .int (xs (i + 2)), .int (xs (i + 3)), .int (xs (i + 4))]) (rest := [.int r]) ⟨hx, hb, hml, hown, hts⟩ (hMm H.size) (cwV 4 hts gL_law_X4_poke rfl rfl rfl (by decide +kernel) ⟨Nat.le_of_ble_eq_true rfl, Nat.le_of_ble_eq_true rfl⟩) ⟨mu_blind, va_recv hK hPm (ci := 5) (q0 := 0) rfl rfl, mu_pre hK hPm hDm⟩ rfl rfl hl.1 rfl (lv_room (Nat.le_of_ble_eq_true rfl)) dL_law_427 ⟨show _ ≤ 601024 by omega, show _ ≤ 7293000 by omega⟩) hP hD hS hA (pm2 _ _ _) (fun H locs hP hD hS => ?_)
  refine W.eq (g2 := F0 m 430 ls [.int r, .int r]) rfl ?_
  refine lv_icmp_eq (tgt := 610) hx hb dL_law_430 (by decide) (fun c_430 => ?_) (fun c_430 => ?_)
  · skip
    refine W.widen (k := cells + 7) (n := slots + 1955) (by omega) (by omega) ?_
    exact K C1 ds M1 ov H locs hR1 (va_P_perm (pm3 _ _ _) hP) (va_D_perm (pm3 _ _ _) hD) hS ls (lv_sub hl [0, 1, 2, 3, 4] rfl)
  · exact absurd rfl c_430

set_option maxHeartbeats 4000000 in
set_option maxRecDepth 100000 in
theorem law_wrong {p : Program} {l : Launch} {e : Env} {s : State} {m : MethodId} {below : List Frame} {meth : Method} {c : Code} {D : va_G} {κ : Nat → ClassId} {b L : Nat} {xs : Nat → Int32} {Q : State → Prop} (F : LF p l s m meth c D κ b L xs) {T S : Nat} (hT : T ≤ 12) (hS8 : S ≤ 8) {ad bd : Nat → Nat} {o : Nat} {C : CS} {ds : List DS} {M : MS} {ov : Nat → Int64} {cells slots i : Nat} (hc9 : cells ≤ 5000) (hs9 : slots ≤ 2000000) (hi : i + 5 ≤ L) (hR : RelT T S C ds M) {H : Heap} {locs : List Loc} (hP : va_P D vwCl (LW κ T S ad bd o C ds M ov) H) (hD : va_D (fun q : Nat => s.heap.size ≤ q) (LW κ T S ad bd o C ds M ov)) (hS : va_S (fun q : Nat => s.heap.size ≤ q) s.heap H locs) {ls : Array Slot} (hl : lv_has ls 7 [(0, .ref b), (1, .ref (ad 0)), (2, .ref (bd 0)), (3, .ref o), (4, .int (nI i))]) 
    (K : ∀ (C' : CS) (ds' : List DS) (M' : MS) (ov' : Nat → Int64) (H' : Heap) (locs' : List Loc), RelT T S C' ds' M' → va_P D vwCl (LW κ T S ad bd o C' ds' M' ov') H' → va_D (fun q : Nat => s.heap.size ≤ q) (LW κ T S ad bd o C' ds' M' ov') → va_S (fun q : Nat => s.heap.size ≤ q) s.heap H' locs' → ∀ ls' : Array Slot, lv_has ls' 7 [(0, .ref b), (1, .ref (ad 0)), (2, .ref (bd 0)), (3, .ref o), (4, .int (nI i))] → W p l e room_1 s m #[Value.ref b] below meth c H' locs' (cells + 7) (slots + 1955) Q (F0 m 610 ls' [])) :
    W p l e room_1 s m #[Value.ref b] below meth c H locs cells slots Q (F0 m 435 ls []) := by
  obtain ⟨hx, hb, hml, hown, hts, hX, hbl, hK, hL⟩ := F
  have hA : ∀ q : Nat, s.heap.size ≤ q → (fun q : Nat => s.heap.size ≤ q) q := fun _ h => h
  have hbA : ¬ (fun q : Nat => s.heap.size ≤ q) b := Nat.not_le.mpr hbl
  have hPt : va_P D vwCl (cW κ T S ad C ds) H := va_P_mem cW_in hP
  obtain ⟨r, C1, M1, hR1, hMc, hMm⟩ := op_wrong hT hS8 hR l D κ ad bd (xs (i + 1))
  refine lv_aload_n hx hb dL_law_435 rfl (lv_at hl 1 rfl) ?_
  refine lv_aload_n hx hb dL_law_436 rfl (lv_at hl 0 rfl) ?_
  refine lv_iload hx hb dL_law_437 (lv_at hl 4 rfl) ?_
  refine lv_iconst (v := nI 1) hx hb dL_law_439 (by decide) ?_
  refine lv_iadd hx hb dL_law_440 ?_
  refine tp_i (y := nI (i + 1)) (by exact nI_add _ _) ?_
  refine va_sld hx hb hX hbl hbA hS (vp_in_nI (by omega) (by omega)) dL_law_441 ?_
  refine tp_i (y := xs (i + 1)) (by rw [nI_clamp (by omega)]) ?_
  have hPc : va_P D vwCl (kW κ T S ad C ds) H := va_P_mem (fun q h => List.mem_append_left _ h) hP
  have hDc : va_D (fun q : Nat => s.heap.size ≤ q) (kW κ T S ad C ds) := va_D_right (va_D_perm List.perm_append_comm hD)
  refine mu_callA (wc := kW κ T S ad C ds) (wr := mW κ T S bd M ++ [(o, .inl (κ 3, 1, .inr (.inl ov)))]) (wc' := kW κ T S ad C1 ds) (va_runV (As := [.int (xs (i + 1))]) (rest := []) ⟨hx, hb, hml, hown, hts⟩ (hMc H.size) (cwV 1 hts gL_law_X3_wrong rfl rfl rfl (by decide +kernel) ⟨Nat.le_of_ble_eq_true rfl, Nat.le_of_ble_eq_true rfl⟩) ⟨mu_blind, va_recv hK hPt (ci := 4) (q0 := 0) rfl rfl, mu_pre hK hPc hDc⟩ rfl rfl hl.1 rfl (lv_room (Nat.le_of_ble_eq_true rfl)) dL_law_442 ⟨show _ ≤ 601024 by omega, show _ ≤ 7293000 by omega⟩) hP hD hS hA List.perm_append_comm (fun H locs hP hD hS => ?_)
  refine W.eq (g2 := F0 m 445 ls [.int r]) rfl ?_
  refine lv_aload_n hx hb dL_law_445 rfl (lv_at hl 2 rfl) ?_
  refine lv_aload_n hx hb dL_law_446 rfl (lv_at hl 0 rfl) ?_
  refine lv_iload hx hb dL_law_447 (lv_at hl 4 rfl) ?_
  refine lv_iconst (v := nI 1) hx hb dL_law_449 (by decide) ?_
  refine lv_iadd hx hb dL_law_450 ?_
  refine tp_i (y := nI (i + 1)) (by exact nI_add _ _) ?_
  refine va_sld hx hb hX hbl hbA hS (vp_in_nI (by omega) (by omega)) dL_law_451 ?_
  refine tp_i (y := xs (i + 1)) (by rw [nI_clamp (by omega)]) ?_
  have hPm : va_P D vwCl (mW κ T S bd M) H := va_P_mem (fun q h => List.mem_append_left _ (List.mem_append_left _ h)) hP
  have hDm : va_D (fun q : Nat => s.heap.size ≤ q) (mW κ T S bd M) := va_D_right (va_D_perm (pm2 _ _ _) hD)
  refine mu_callA (wc := mW κ T S bd M) (wr := [(o, .inl (κ 3, 1, .inr (.inl ov)))] ++ kW κ T S ad C1 ds) (wc' := mW κ T S bd M1) (va_runV (As := [.int (xs (i + 1))]) (rest := [.int r]) ⟨hx, hb, hml, hown, hts⟩ (hMm H.size) (cwV 1 hts gL_law_X4_wrong rfl rfl rfl (by decide +kernel) ⟨Nat.le_of_ble_eq_true rfl, Nat.le_of_ble_eq_true rfl⟩) ⟨mu_blind, va_recv hK hPm (ci := 5) (q0 := 0) rfl rfl, mu_pre hK hPm hDm⟩ rfl rfl hl.1 rfl (lv_room (Nat.le_of_ble_eq_true rfl)) dL_law_452 ⟨show _ ≤ 601024 by omega, show _ ≤ 7293000 by omega⟩) hP hD hS hA (pm2 _ _ _) (fun H locs hP hD hS => ?_)
  refine W.eq (g2 := F0 m 455 ls [.int r, .int r]) rfl ?_
  refine lv_icmp_eq (tgt := 610) hx hb dL_law_455 (by decide) (fun c_455 => ?_) (fun c_455 => ?_)
  · skip
    refine W.widen (k := cells + 7) (n := slots + 1955) (by omega) (by omega) ?_
    exact K C1 ds M1 ov H locs hR1 (va_P_perm (pm3 _ _ _) hP) (va_D_perm (pm3 _ _ _) hD) hS ls (lv_sub hl [0, 1, 2, 3, 4] rfl)
  · exact absurd rfl c_455

set_option maxHeartbeats 4000000 in
set_option maxRecDepth 100000 in
theorem law_alternate {p : Program} {l : Launch} {e : Env} {s : State} {m : MethodId} {below : List Frame} {meth : Method} {c : Code} {D : va_G} {κ : Nat → ClassId} {b L : Nat} {xs : Nat → Int32} {Q : State → Prop} (F : LF p l s m meth c D κ b L xs) {T S : Nat} (hT : T ≤ 12) (hS8 : S ≤ 8) {ad bd : Nat → Nat} {o : Nat} {C : CS} {ds : List DS} {M : MS} {ov : Nat → Int64} {cells slots i : Nat} (hc9 : cells ≤ 5000) (hs9 : slots ≤ 2000000) (hi : i + 5 ≤ L) (hR : RelT T S C ds M) {H : Heap} {locs : List Loc} (hP : va_P D vwCl (LW κ T S ad bd o C ds M ov) H) (hD : va_D (fun q : Nat => s.heap.size ≤ q) (LW κ T S ad bd o C ds M ov)) (hS : va_S (fun q : Nat => s.heap.size ≤ q) s.heap H locs) {ls : Array Slot} (hl : lv_has ls 7 [(0, .ref b), (1, .ref (ad 0)), (2, .ref (bd 0)), (3, .ref o), (4, .int (nI i))]) 
    (K : ∀ (C' : CS) (ds' : List DS) (M' : MS) (ov' : Nat → Int64) (H' : Heap) (locs' : List Loc), RelT T S C' ds' M' → va_P D vwCl (LW κ T S ad bd o C' ds' M' ov') H' → va_D (fun q : Nat => s.heap.size ≤ q) (LW κ T S ad bd o C' ds' M' ov') → va_S (fun q : Nat => s.heap.size ≤ q) s.heap H' locs' → ∀ ls' : Array Slot, lv_has ls' 7 [(0, .ref b), (1, .ref (ad 0)), (2, .ref (bd 0)), (3, .ref o), (4, .int (nI i))] → W p l e room_1 s m #[Value.ref b] below meth c H' locs' (cells + 7) (slots + 1955) Q (F0 m 610 ls' [])) :
    W p l e room_1 s m #[Value.ref b] below meth c H locs cells slots Q (F0 m 460 ls []) := by
  obtain ⟨hx, hb, hml, hown, hts, hX, hbl, hK, hL⟩ := F
  have hA : ∀ q : Nat, s.heap.size ≤ q → (fun q : Nat => s.heap.size ≤ q) q := fun _ h => h
  have hbA : ¬ (fun q : Nat => s.heap.size ≤ q) b := Nat.not_le.mpr hbl
  have hPt : va_P D vwCl (cW κ T S ad C ds) H := va_P_mem cW_in hP
  obtain ⟨r, C1, M1, hR1, hMc, hMm⟩ := op_alternate hT hS8 hR l D κ ad bd (xs (i + 1))
  refine lv_aload_n hx hb dL_law_460 rfl (lv_at hl 1 rfl) ?_
  refine lv_aload_n hx hb dL_law_461 rfl (lv_at hl 0 rfl) ?_
  refine lv_iload hx hb dL_law_462 (lv_at hl 4 rfl) ?_
  refine lv_iconst (v := nI 1) hx hb dL_law_464 (by decide) ?_
  refine lv_iadd hx hb dL_law_465 ?_
  refine tp_i (y := nI (i + 1)) (by exact nI_add _ _) ?_
  refine va_sld hx hb hX hbl hbA hS (vp_in_nI (by omega) (by omega)) dL_law_466 ?_
  refine tp_i (y := xs (i + 1)) (by rw [nI_clamp (by omega)]) ?_
  have hPc : va_P D vwCl (kW κ T S ad C ds) H := va_P_mem (fun q h => List.mem_append_left _ h) hP
  have hDc : va_D (fun q : Nat => s.heap.size ≤ q) (kW κ T S ad C ds) := va_D_right (va_D_perm List.perm_append_comm hD)
  refine mu_callA (wc := kW κ T S ad C ds) (wr := mW κ T S bd M ++ [(o, .inl (κ 3, 1, .inr (.inl ov)))]) (wc' := kW κ T S ad C1 ds) (va_runV (As := [.int (xs (i + 1))]) (rest := []) ⟨hx, hb, hml, hown, hts⟩ (hMc H.size) (cwV 1 hts gL_law_X3_alternate rfl rfl rfl (by decide +kernel) ⟨Nat.le_of_ble_eq_true rfl, Nat.le_of_ble_eq_true rfl⟩) ⟨mu_blind, va_recv hK hPt (ci := 4) (q0 := 0) rfl rfl, mu_pre hK hPc hDc⟩ rfl rfl hl.1 rfl (lv_room (Nat.le_of_ble_eq_true rfl)) dL_law_467 ⟨show _ ≤ 601024 by omega, show _ ≤ 7293000 by omega⟩) hP hD hS hA List.perm_append_comm (fun H locs hP hD hS => ?_)
  refine W.eq (g2 := F0 m 470 ls [.int r]) rfl ?_
  refine lv_aload_n hx hb dL_law_470 rfl (lv_at hl 2 rfl) ?_
  refine lv_aload_n hx hb dL_law_471 rfl (lv_at hl 0 rfl) ?_
  refine lv_iload hx hb dL_law_472 (lv_at hl 4 rfl) ?_
  refine lv_iconst (v := nI 1) hx hb dL_law_474 (by decide) ?_
  refine lv_iadd hx hb dL_law_475 ?_
  refine tp_i (y := nI (i + 1)) (by exact nI_add _ _) ?_
  refine va_sld hx hb hX hbl hbA hS (vp_in_nI (by omega) (by omega)) dL_law_476 ?_
  refine tp_i (y := xs (i + 1)) (by rw [nI_clamp (by omega)]) ?_
  have hPm : va_P D vwCl (mW κ T S bd M) H := va_P_mem (fun q h => List.mem_append_left _ (List.mem_append_left _ h)) hP
  have hDm : va_D (fun q : Nat => s.heap.size ≤ q) (mW κ T S bd M) := va_D_right (va_D_perm (pm2 _ _ _) hD)
  refine mu_callA (wc := mW κ T S bd M) (wr := [(o, .inl (κ 3, 1, .inr (.inl ov)))] ++ kW κ T S ad C1 ds) (wc' := mW κ T S bd M1) (va_runV (As := [.int (xs (i + 1))]) (rest := [.int r]) ⟨hx, hb, hml, hown, hts⟩ (hMm H.size) (cwV 1 hts gL_law_X4_alternate rfl rfl rfl (by decide +kernel) ⟨Nat.le_of_ble_eq_true rfl, Nat.le_of_ble_eq_true rfl⟩) ⟨mu_blind, va_recv hK hPm (ci := 5) (q0 := 0) rfl rfl, mu_pre hK hPm hDm⟩ rfl rfl hl.1 rfl (lv_room (Nat.le_of_ble_eq_true rfl)) dL_law_477 ⟨show _ ≤ 601024 by omega, show _ ≤ 7293000 by omega⟩) hP hD hS hA (pm2 _ _ _) (fun H locs hP hD hS => ?_)
  refine W.eq (g2 := F0 m 480 ls [.int r, .int r]) rfl ?_
  refine lv_icmp_eq (tgt := 610) hx hb dL_law_480 (by decide) (fun c_480 => ?_) (fun c_480 => ?_)
  · skip
    refine W.widen (k := cells + 7) (n := slots + 1955) (by omega) (by omega) ?_
    exact K C1 ds M1 ov H locs hR1 (va_P_perm (pm3 _ _ _) hP) (va_D_perm (pm3 _ _ _) hD) hS ls (lv_sub hl [0, 1, 2, 3, 4] rfl)
  · exact absurd rfl c_480

set_option maxHeartbeats 4000000 in
set_option maxRecDepth 100000 in
theorem law_dump {p : Program} {l : Launch} {e : Env} {s : State} {m : MethodId} {below : List Frame} {meth : Method} {c : Code} {D : va_G} {κ : Nat → ClassId} {b L : Nat} {xs : Nat → Int32} {Q : State → Prop} (F : LF p l s m meth c D κ b L xs) {T S : Nat} (hT : T ≤ 12) (hS8 : S ≤ 8) {ad bd : Nat → Nat} {o : Nat} {C : CS} {ds : List DS} {M : MS} {ov : Nat → Int64} {cells slots i : Nat} (hc9 : cells ≤ 5000) (hs9 : slots ≤ 2000000) (hi : i + 5 ≤ L) (hR : RelT T S C ds M) {H : Heap} {locs : List Loc} (hP : va_P D vwCl (LW κ T S ad bd o C ds M ov) H) (hD : va_D (fun q : Nat => s.heap.size ≤ q) (LW κ T S ad bd o C ds M ov)) (hS : va_S (fun q : Nat => s.heap.size ≤ q) s.heap H locs) {ls : Array Slot} (hl : lv_has ls 7 [(0, .ref b), (1, .ref (ad 0)), (2, .ref (bd 0)), (3, .ref o), (4, .int (nI i))]) 
    (K : ∀ (C' : CS) (ds' : List DS) (M' : MS) (ov' : Nat → Int64) (H' : Heap) (locs' : List Loc), RelT T S C' ds' M' → va_P D vwCl (LW κ T S ad bd o C' ds' M' ov') H' → va_D (fun q : Nat => s.heap.size ≤ q) (LW κ T S ad bd o C' ds' M' ov') → va_S (fun q : Nat => s.heap.size ≤ q) s.heap H' locs' → ∀ ls' : Array Slot, lv_has ls' 7 [(0, .ref b), (1, .ref (ad 0)), (2, .ref (bd 0)), (3, .ref o), (4, .int (nI i))] → W p l e room_1 s m #[Value.ref b] below meth c H' locs' (cells + 7) (slots + 1955) Q (F0 m 610 ls' [])) :
    W p l e room_1 s m #[Value.ref b] below meth c H locs cells slots Q (F0 m 485 ls []) := by
  obtain ⟨hx, hb, hml, hown, hts, hX, hbl, hK, hL⟩ := F
  have hA : ∀ q : Nat, s.heap.size ≤ q → (fun q : Nat => s.heap.size ≤ q) q := fun _ h => h
  have hbA : ¬ (fun q : Nat => s.heap.size ≤ q) b := Nat.not_le.mpr hbl
  have hPt : va_P D vwCl (cW κ T S ad C ds) H := va_P_mem cW_in hP
  rcases op_dump hT hS8 hR l D κ ad bd (xs (i + 1)) with ⟨r, C1, M1, hR1, hMc, hMm⟩ | ⟨r, M1, hMc, hMm⟩
  · skip
    refine lv_aload_n hx hb dL_law_485 rfl (lv_at hl 1 rfl) ?_
    refine lv_aload_n hx hb dL_law_486 rfl (lv_at hl 0 rfl) ?_
    refine lv_iload hx hb dL_law_487 (lv_at hl 4 rfl) ?_
    refine lv_iconst (v := nI 1) hx hb dL_law_489 (by decide) ?_
    refine lv_iadd hx hb dL_law_490 ?_
    refine tp_i (y := nI (i + 1)) (by exact nI_add _ _) ?_
    refine va_sld hx hb hX hbl hbA hS (vp_in_nI (by omega) (by omega)) dL_law_491 ?_
    refine tp_i (y := xs (i + 1)) (by rw [nI_clamp (by omega)]) ?_
    have hPc : va_P D vwCl (kW κ T S ad C ds) H := va_P_mem (fun q h => List.mem_append_left _ h) hP
    have hDc : va_D (fun q : Nat => s.heap.size ≤ q) (kW κ T S ad C ds) := va_D_right (va_D_perm List.perm_append_comm hD)
    refine mu_callA (wc := kW κ T S ad C ds) (wr := mW κ T S bd M ++ [(o, .inl (κ 3, 1, .inr (.inl ov)))]) (wc' := kW κ T S ad C1 ds) (va_runV (As := [.int (xs (i + 1))]) (rest := []) ⟨hx, hb, hml, hown, hts⟩ (hMc H.size) (cwV 1 hts gL_law_X3_dump rfl rfl rfl (by decide +kernel) ⟨Nat.le_of_ble_eq_true rfl, Nat.le_of_ble_eq_true rfl⟩) ⟨mu_blind, va_recv hK hPt (ci := 4) (q0 := 0) rfl rfl, mu_pre hK hPc hDc⟩ rfl rfl hl.1 rfl (lv_room (Nat.le_of_ble_eq_true rfl)) dL_law_492 ⟨show _ ≤ 601024 by omega, show _ ≤ 7293000 by omega⟩) hP hD hS hA List.perm_append_comm (fun H locs hP hD hS => ?_)
    refine W.eq (g2 := F0 m 495 ls [.int r]) rfl ?_
    refine lv_aload_n hx hb dL_law_495 rfl (lv_at hl 2 rfl) ?_
    refine lv_aload_n hx hb dL_law_496 rfl (lv_at hl 0 rfl) ?_
    refine lv_iload hx hb dL_law_497 (lv_at hl 4 rfl) ?_
    refine lv_iconst (v := nI 1) hx hb dL_law_499 (by decide) ?_
    refine lv_iadd hx hb dL_law_500 ?_
    refine tp_i (y := nI (i + 1)) (by exact nI_add _ _) ?_
    refine va_sld hx hb hX hbl hbA hS (vp_in_nI (by omega) (by omega)) dL_law_501 ?_
    refine tp_i (y := xs (i + 1)) (by rw [nI_clamp (by omega)]) ?_
    have hPm : va_P D vwCl (mW κ T S bd M) H := va_P_mem (fun q h => List.mem_append_left _ (List.mem_append_left _ h)) hP
    have hDm : va_D (fun q : Nat => s.heap.size ≤ q) (mW κ T S bd M) := va_D_right (va_D_perm (pm2 _ _ _) hD)
    refine mu_callA (wc := mW κ T S bd M) (wr := [(o, .inl (κ 3, 1, .inr (.inl ov)))] ++ kW κ T S ad C1 ds) (wc' := mW κ T S bd M1) (va_runV (As := [.int (xs (i + 1))]) (rest := [.int r]) ⟨hx, hb, hml, hown, hts⟩ (hMm H.size) (cwV 1 hts gL_law_X4_dump rfl rfl rfl (by decide +kernel) ⟨Nat.le_of_ble_eq_true rfl, Nat.le_of_ble_eq_true rfl⟩) ⟨mu_blind, va_recv hK hPm (ci := 5) (q0 := 0) rfl rfl, mu_pre hK hPm hDm⟩ rfl rfl hl.1 rfl (lv_room (Nat.le_of_ble_eq_true rfl)) dL_law_502 ⟨show _ ≤ 601024 by omega, show _ ≤ 7293000 by omega⟩) hP hD hS hA (pm2 _ _ _) (fun H locs hP hD hS => ?_)
    refine W.eq (g2 := F0 m 505 ls [.int r, .int r]) rfl ?_
    refine lv_icmp_eq (tgt := 610) hx hb dL_law_505 (by decide) (fun c_505 => ?_) (fun c_505 => ?_)
    · skip
      refine W.widen (k := cells + 7) (n := slots + 1955) (by omega) (by omega) ?_
      exact K C1 ds M1 ov H locs hR1 (va_P_perm (pm3 _ _ _) hP) (va_D_perm (pm3 _ _ _) hD) hS ls (lv_sub hl [0, 1, 2, 3, 4] rfl)
    · exact absurd rfl c_505
  · skip
    refine lv_aload_n hx hb dL_law_485 rfl (lv_at hl 1 rfl) ?_
    refine lv_aload_n hx hb dL_law_486 rfl (lv_at hl 0 rfl) ?_
    refine lv_iload hx hb dL_law_487 (lv_at hl 4 rfl) ?_
    refine lv_iconst (v := nI 1) hx hb dL_law_489 (by decide) ?_
    refine lv_iadd hx hb dL_law_490 ?_
    refine tp_i (y := nI (i + 1)) (by exact nI_add _ _) ?_
    refine va_sld hx hb hX hbl hbA hS (vp_in_nI (by omega) (by omega)) dL_law_491 ?_
    refine tp_i (y := xs (i + 1)) (by rw [nI_clamp (by omega)]) ?_
    have hPc : va_P D vwCl (kW κ T S ad C ds) H := va_P_mem (fun q h => List.mem_append_left _ h) hP
    have hDc : va_D (fun q : Nat => s.heap.size ≤ q) (kW κ T S ad C ds) := va_D_right (va_D_perm List.perm_append_comm hD)
    refine al_call (wc := kW κ T S ad C ds) (wr := mW κ T S bd M ++ [(o, .inl (κ 3, 1, .inr (.inl ov)))]) (va_runV (As := [.int (xs (i + 1))]) (rest := []) ⟨hx, hb, hml, hown, hts⟩ (hMc H.size) (cwV 1 hts gL_law_X3_dump rfl rfl rfl (by decide +kernel) ⟨Nat.le_of_ble_eq_true rfl, Nat.le_of_ble_eq_true rfl⟩) ⟨mu_blind, va_recv hK hPt (ci := 4) (q0 := 0) rfl rfl, mu_pre hK hPc hDc⟩ rfl rfl hl.1 rfl (lv_room (Nat.le_of_ble_eq_true rfl)) dL_law_492 ⟨show _ ≤ 601024 by omega, show _ ≤ 7293000 by omega⟩) hP hD hS hA List.perm_append_comm (fun ds1 hR1 H locs hP hD hS => ?_)
    refine W.eq (g2 := F0 m 495 ls [.int r]) rfl ?_
    refine lv_aload_n hx hb dL_law_495 rfl (lv_at hl 2 rfl) ?_
    refine lv_aload_n hx hb dL_law_496 rfl (lv_at hl 0 rfl) ?_
    refine lv_iload hx hb dL_law_497 (lv_at hl 4 rfl) ?_
    refine lv_iconst (v := nI 1) hx hb dL_law_499 (by decide) ?_
    refine lv_iadd hx hb dL_law_500 ?_
    refine tp_i (y := nI (i + 1)) (by exact nI_add _ _) ?_
    refine va_sld hx hb hX hbl hbA hS (vp_in_nI (by omega) (by omega)) dL_law_501 ?_
    refine tp_i (y := xs (i + 1)) (by rw [nI_clamp (by omega)]) ?_
    have hPm : va_P D vwCl (mW κ T S bd M) H := va_P_mem (fun q h => List.mem_append_left _ (List.mem_append_left _ h)) hP
    have hDm : va_D (fun q : Nat => s.heap.size ≤ q) (mW κ T S bd M) := va_D_right (va_D_perm (pm2 _ _ _) hD)
    refine mu_callA (wc := mW κ T S bd M) (wr := [(o, .inl (κ 3, 1, .inr (.inl ov)))] ++ kW κ T S ad C ds1) (wc' := mW κ T S bd M1) (va_runV (As := [.int (xs (i + 1))]) (rest := [.int r]) ⟨hx, hb, hml, hown, hts⟩ (hMm H.size) (cwV 1 hts gL_law_X4_dump rfl rfl rfl (by decide +kernel) ⟨Nat.le_of_ble_eq_true rfl, Nat.le_of_ble_eq_true rfl⟩) ⟨mu_blind, va_recv hK hPm (ci := 5) (q0 := 0) rfl rfl, mu_pre hK hPm hDm⟩ rfl rfl hl.1 rfl (lv_room (Nat.le_of_ble_eq_true rfl)) dL_law_502 ⟨show _ ≤ 601024 by omega, show _ ≤ 7293000 by omega⟩) hP hD hS hA (pm2 _ _ _) (fun H locs hP hD hS => ?_)
    refine W.eq (g2 := F0 m 505 ls [.int r, .int r]) rfl ?_
    refine lv_icmp_eq (tgt := 610) hx hb dL_law_505 (by decide) (fun c_505 => ?_) (fun c_505 => ?_)
    · skip
      refine W.widen (k := cells + 7) (n := slots + 1955) (by omega) (by omega) ?_
      exact K C ds1 M1 ov H locs hR1 (va_P_perm (pm3 _ _ _) hP) (va_D_perm (pm3 _ _ _) hD) hS ls (lv_sub hl [0, 1, 2, 3, 4] rfl)
    · exact absurd rfl c_505

set_option maxHeartbeats 4000000 in
set_option maxRecDepth 100000 in
theorem law_restore {p : Program} {l : Launch} {e : Env} {s : State} {m : MethodId} {below : List Frame} {meth : Method} {c : Code} {D : va_G} {κ : Nat → ClassId} {b L : Nat} {xs : Nat → Int32} {Q : State → Prop} (F : LF p l s m meth c D κ b L xs) {T S : Nat} (hT : T ≤ 12) (hS8 : S ≤ 8) {ad bd : Nat → Nat} {o : Nat} {C : CS} {ds : List DS} {M : MS} {ov : Nat → Int64} {cells slots i : Nat} (hc9 : cells ≤ 5000) (hs9 : slots ≤ 2000000) (hi : i + 5 ≤ L) (hR : RelT T S C ds M) {H : Heap} {locs : List Loc} (hP : va_P D vwCl (LW κ T S ad bd o C ds M ov) H) (hD : va_D (fun q : Nat => s.heap.size ≤ q) (LW κ T S ad bd o C ds M ov)) (hS : va_S (fun q : Nat => s.heap.size ≤ q) s.heap H locs) {ls : Array Slot} (hl : lv_has ls 7 [(0, .ref b), (1, .ref (ad 0)), (2, .ref (bd 0)), (3, .ref o), (4, .int (nI i))]) 
    (K : ∀ (C' : CS) (ds' : List DS) (M' : MS) (ov' : Nat → Int64) (H' : Heap) (locs' : List Loc), RelT T S C' ds' M' → va_P D vwCl (LW κ T S ad bd o C' ds' M' ov') H' → va_D (fun q : Nat => s.heap.size ≤ q) (LW κ T S ad bd o C' ds' M' ov') → va_S (fun q : Nat => s.heap.size ≤ q) s.heap H' locs' → ∀ ls' : Array Slot, lv_has ls' 7 [(0, .ref b), (1, .ref (ad 0)), (2, .ref (bd 0)), (3, .ref o), (4, .int (nI i))] → W p l e room_1 s m #[Value.ref b] below meth c H' locs' (cells + 7) (slots + 1955) Q (F0 m 610 ls' [])) :
    W p l e room_1 s m #[Value.ref b] below meth c H locs cells slots Q (F0 m 510 ls []) := by
  obtain ⟨hx, hb, hml, hown, hts, hX, hbl, hK, hL⟩ := F
  have hA : ∀ q : Nat, s.heap.size ≤ q → (fun q : Nat => s.heap.size ≤ q) q := fun _ h => h
  have hbA : ¬ (fun q : Nat => s.heap.size ≤ q) b := Nat.not_le.mpr hbl
  have hPt : va_P D vwCl (cW κ T S ad C ds) H := va_P_mem cW_in hP
  obtain ⟨r, C1, M1, hR1, hMc, hMm⟩ := op_restore hT hS8 hR l D κ ad bd (xs (i + 1)) (xs (i + 2))
  refine lv_aload_n hx hb dL_law_510 rfl (lv_at hl 1 rfl) ?_
  refine lv_aload_n hx hb dL_law_511 rfl (lv_at hl 0 rfl) ?_
  refine lv_iload hx hb dL_law_512 (lv_at hl 4 rfl) ?_
  refine lv_iconst (v := nI 1) hx hb dL_law_514 (by decide) ?_
  refine lv_iadd hx hb dL_law_515 ?_
  refine tp_i (y := nI (i + 1)) (by exact nI_add _ _) ?_
  refine va_sld hx hb hX hbl hbA hS (vp_in_nI (by omega) (by omega)) dL_law_516 ?_
  refine tp_i (y := xs (i + 1)) (by rw [nI_clamp (by omega)]) ?_
  refine lv_aload_n hx hb dL_law_517 rfl (lv_at hl 0 rfl) ?_
  refine lv_iload hx hb dL_law_518 (lv_at hl 4 rfl) ?_
  refine lv_iconst (v := nI 2) hx hb dL_law_520 (by decide) ?_
  refine lv_iadd hx hb dL_law_521 ?_
  refine tp_i (y := nI (i + 2)) (by exact nI_add _ _) ?_
  refine va_sld hx hb hX hbl hbA hS (vp_in_nI (by omega) (by omega)) dL_law_522 ?_
  refine tp_i (y := xs (i + 2)) (by rw [nI_clamp (by omega)]) ?_
  have hPc : va_P D vwCl (kW κ T S ad C ds) H := va_P_mem (fun q h => List.mem_append_left _ h) hP
  have hDc : va_D (fun q : Nat => s.heap.size ≤ q) (kW κ T S ad C ds) := va_D_right (va_D_perm List.perm_append_comm hD)
  refine mu_callA (wc := kW κ T S ad C ds) (wr := mW κ T S bd M ++ [(o, .inl (κ 3, 1, .inr (.inl ov)))]) (wc' := kW κ T S ad C1 ds) (va_runV (As := [.int (xs (i + 1)), .int (xs (i + 2))]) (rest := []) ⟨hx, hb, hml, hown, hts⟩ (hMc H.size) (cwV 2 hts gL_law_X3_restore rfl rfl rfl (by decide +kernel) ⟨Nat.le_of_ble_eq_true rfl, Nat.le_of_ble_eq_true rfl⟩) ⟨mu_blind, va_recv hK hPt (ci := 4) (q0 := 0) rfl rfl, mu_pre hK hPc hDc⟩ rfl rfl hl.1 rfl (lv_room (Nat.le_of_ble_eq_true rfl)) dL_law_523 ⟨show _ ≤ 601024 by omega, show _ ≤ 7293000 by omega⟩) hP hD hS hA List.perm_append_comm (fun H locs hP hD hS => ?_)
  refine W.eq (g2 := F0 m 526 ls [.int r]) rfl ?_
  refine lv_aload_n hx hb dL_law_526 rfl (lv_at hl 2 rfl) ?_
  refine lv_aload_n hx hb dL_law_527 rfl (lv_at hl 0 rfl) ?_
  refine lv_iload hx hb dL_law_528 (lv_at hl 4 rfl) ?_
  refine lv_iconst (v := nI 1) hx hb dL_law_530 (by decide) ?_
  refine lv_iadd hx hb dL_law_531 ?_
  refine tp_i (y := nI (i + 1)) (by exact nI_add _ _) ?_
  refine va_sld hx hb hX hbl hbA hS (vp_in_nI (by omega) (by omega)) dL_law_532 ?_
  refine tp_i (y := xs (i + 1)) (by rw [nI_clamp (by omega)]) ?_
  refine lv_aload_n hx hb dL_law_533 rfl (lv_at hl 0 rfl) ?_
  refine lv_iload hx hb dL_law_534 (lv_at hl 4 rfl) ?_
  refine lv_iconst (v := nI 2) hx hb dL_law_536 (by decide) ?_
  refine lv_iadd hx hb dL_law_537 ?_
  refine tp_i (y := nI (i + 2)) (by exact nI_add _ _) ?_
  refine va_sld hx hb hX hbl hbA hS (vp_in_nI (by omega) (by omega)) dL_law_538 ?_
  refine tp_i (y := xs (i + 2)) (by rw [nI_clamp (by omega)]) ?_
  have hPm : va_P D vwCl (mW κ T S bd M) H := va_P_mem (fun q h => List.mem_append_left _ (List.mem_append_left _ h)) hP
  have hDm : va_D (fun q : Nat => s.heap.size ≤ q) (mW κ T S bd M) := va_D_right (va_D_perm (pm2 _ _ _) hD)
  refine mu_callA (wc := mW κ T S bd M) (wr := [(o, .inl (κ 3, 1, .inr (.inl ov)))] ++ kW κ T S ad C1 ds) (wc' := mW κ T S bd M1) (va_runV (As := [.int (xs (i + 1)), .int (xs (i + 2))]) (rest := [.int r]) ⟨hx, hb, hml, hown, hts⟩ (hMm H.size) (cwV 2 hts gL_law_X4_restore rfl rfl rfl (by decide +kernel) ⟨Nat.le_of_ble_eq_true rfl, Nat.le_of_ble_eq_true rfl⟩) ⟨mu_blind, va_recv hK hPm (ci := 5) (q0 := 0) rfl rfl, mu_pre hK hPm hDm⟩ rfl rfl hl.1 rfl (lv_room (Nat.le_of_ble_eq_true rfl)) dL_law_539 ⟨show _ ≤ 601024 by omega, show _ ≤ 7293000 by omega⟩) hP hD hS hA (pm2 _ _ _) (fun H locs hP hD hS => ?_)
  refine W.eq (g2 := F0 m 542 ls [.int r, .int r]) rfl ?_
  refine lv_icmp_eq (tgt := 610) hx hb dL_law_542 (by decide) (fun c_542 => ?_) (fun c_542 => ?_)
  · skip
    refine W.widen (k := cells + 7) (n := slots + 1955) (by omega) (by omega) ?_
    exact K C1 ds M1 ov H locs hR1 (va_P_perm (pm3 _ _ _) hP) (va_D_perm (pm3 _ _ _) hD) hS ls (lv_sub hl [0, 1, 2, 3, 4] rfl)
  · exact absurd rfl c_542

set_option maxHeartbeats 4000000 in
set_option maxRecDepth 100000 in
theorem law_tape {p : Program} {l : Launch} {e : Env} {s : State} {m : MethodId} {below : List Frame} {meth : Method} {c : Code} {D : va_G} {κ : Nat → ClassId} {b L : Nat} {xs : Nat → Int32} {Q : State → Prop} (F : LF p l s m meth c D κ b L xs) {T S : Nat} (hT : T ≤ 12) (hS8 : S ≤ 8) {ad bd : Nat → Nat} {o : Nat} {C : CS} {ds : List DS} {M : MS} {ov : Nat → Int64} {cells slots i : Nat} (hc9 : cells ≤ 5000) (hs9 : slots ≤ 2000000) (hi : i + 5 ≤ L) (hR : RelT T S C ds M) {H : Heap} {locs : List Loc} (hP : va_P D vwCl (LW κ T S ad bd o C ds M ov) H) (hD : va_D (fun q : Nat => s.heap.size ≤ q) (LW κ T S ad bd o C ds M ov)) (hS : va_S (fun q : Nat => s.heap.size ≤ q) s.heap H locs) {ls : Array Slot} (hl : lv_has ls 7 [(0, .ref b), (1, .ref (ad 0)), (2, .ref (bd 0)), (3, .ref o), (4, .int (nI i))]) 
    (K : ∀ (C' : CS) (ds' : List DS) (M' : MS) (ov' : Nat → Int64) (H' : Heap) (locs' : List Loc), RelT T S C' ds' M' → va_P D vwCl (LW κ T S ad bd o C' ds' M' ov') H' → va_D (fun q : Nat => s.heap.size ≤ q) (LW κ T S ad bd o C' ds' M' ov') → va_S (fun q : Nat => s.heap.size ≤ q) s.heap H' locs' → ∀ ls' : Array Slot, lv_has ls' 7 [(0, .ref b), (1, .ref (ad 0)), (2, .ref (bd 0)), (3, .ref o), (4, .int (nI i))] → W p l e room_1 s m #[Value.ref b] below meth c H' locs' (cells + 7) (slots + 1955) Q (F0 m 610 ls' [])) :
    W p l e room_1 s m #[Value.ref b] below meth c H locs cells slots Q (F0 m 547 ls []) := by
  obtain ⟨hx, hb, hml, hown, hts, hX, hbl, hK, hL⟩ := F
  have hA : ∀ q : Nat, s.heap.size ≤ q → (fun q : Nat => s.heap.size ≤ q) q := fun _ h => h
  have hbA : ¬ (fun q : Nat => s.heap.size ≤ q) b := Nat.not_le.mpr hbl
  have hPt : va_P D vwCl (cW κ T S ad C ds) H := va_P_mem cW_in hP
  obtain ⟨r, C1, M1, hR1, hMc, hMm⟩ := op_tape hT hS8 hR l D κ ad bd (xs (i + 1))
  refine lv_aload_n hx hb dL_law_547 rfl (lv_at hl 1 rfl) ?_
  refine lv_aload_n hx hb dL_law_548 rfl (lv_at hl 0 rfl) ?_
  refine lv_iload hx hb dL_law_549 (lv_at hl 4 rfl) ?_
  refine lv_iconst (v := nI 1) hx hb dL_law_551 (by decide) ?_
  refine lv_iadd hx hb dL_law_552 ?_
  refine tp_i (y := nI (i + 1)) (by exact nI_add _ _) ?_
  refine va_sld hx hb hX hbl hbA hS (vp_in_nI (by omega) (by omega)) dL_law_553 ?_
  refine tp_i (y := xs (i + 1)) (by rw [nI_clamp (by omega)]) ?_
  have hPc : va_P D vwCl (kW κ T S ad C ds) H := va_P_mem (fun q h => List.mem_append_left _ h) hP
  have hDc : va_D (fun q : Nat => s.heap.size ≤ q) (kW κ T S ad C ds) := va_D_right (va_D_perm List.perm_append_comm hD)
  refine mu_callA (wc := kW κ T S ad C ds) (wr := mW κ T S bd M ++ [(o, .inl (κ 3, 1, .inr (.inl ov)))]) (wc' := kW κ T S ad C1 ds) (va_runV (As := [.int (xs (i + 1))]) (rest := []) ⟨hx, hb, hml, hown, hts⟩ (hMc H.size) (cwV 1 hts gL_law_X3_tape rfl rfl rfl (by decide +kernel) ⟨Nat.le_of_ble_eq_true rfl, Nat.le_of_ble_eq_true rfl⟩) ⟨mu_blind, va_recv hK hPt (ci := 4) (q0 := 0) rfl rfl, mu_pre hK hPc hDc⟩ rfl rfl hl.1 rfl (lv_room (Nat.le_of_ble_eq_true rfl)) dL_law_554 ⟨show _ ≤ 601024 by omega, show _ ≤ 7293000 by omega⟩) hP hD hS hA List.perm_append_comm (fun H locs hP hD hS => ?_)
  refine W.eq (g2 := F0 m 557 ls [.int r]) rfl ?_
  refine lv_aload_n hx hb dL_law_557 rfl (lv_at hl 2 rfl) ?_
  refine lv_aload_n hx hb dL_law_558 rfl (lv_at hl 0 rfl) ?_
  refine lv_iload hx hb dL_law_559 (lv_at hl 4 rfl) ?_
  refine lv_iconst (v := nI 1) hx hb dL_law_561 (by decide) ?_
  refine lv_iadd hx hb dL_law_562 ?_
  refine tp_i (y := nI (i + 1)) (by exact nI_add _ _) ?_
  refine va_sld hx hb hX hbl hbA hS (vp_in_nI (by omega) (by omega)) dL_law_563 ?_
  refine tp_i (y := xs (i + 1)) (by rw [nI_clamp (by omega)]) ?_
  have hPm : va_P D vwCl (mW κ T S bd M) H := va_P_mem (fun q h => List.mem_append_left _ (List.mem_append_left _ h)) hP
  have hDm : va_D (fun q : Nat => s.heap.size ≤ q) (mW κ T S bd M) := va_D_right (va_D_perm (pm2 _ _ _) hD)
  refine mu_callA (wc := mW κ T S bd M) (wr := [(o, .inl (κ 3, 1, .inr (.inl ov)))] ++ kW κ T S ad C1 ds) (wc' := mW κ T S bd M1) (va_runV (As := [.int (xs (i + 1))]) (rest := [.int r]) ⟨hx, hb, hml, hown, hts⟩ (hMm H.size) (cwV 1 hts gL_law_X4_tape rfl rfl rfl (by decide +kernel) ⟨Nat.le_of_ble_eq_true rfl, Nat.le_of_ble_eq_true rfl⟩) ⟨mu_blind, va_recv hK hPm (ci := 5) (q0 := 0) rfl rfl, mu_pre hK hPm hDm⟩ rfl rfl hl.1 rfl (lv_room (Nat.le_of_ble_eq_true rfl)) dL_law_564 ⟨show _ ≤ 601024 by omega, show _ ≤ 7293000 by omega⟩) hP hD hS hA (pm2 _ _ _) (fun H locs hP hD hS => ?_)
  refine W.eq (g2 := F0 m 567 ls [.int r, .int r]) rfl ?_
  refine lv_icmp_eq (tgt := 610) hx hb dL_law_567 (by decide) (fun c_567 => ?_) (fun c_567 => ?_)
  · skip
    refine W.widen (k := cells + 7) (n := slots + 1955) (by omega) (by omega) ?_
    exact K C1 ds M1 ov H locs hR1 (va_P_perm (pm3 _ _ _) hP) (va_D_perm (pm3 _ _ _) hD) hS ls (lv_sub hl [0, 1, 2, 3, 4] rfl)
  · exact absurd rfl c_567

set_option maxHeartbeats 4000000 in
set_option maxRecDepth 100000 in
theorem law_next {p : Program} {l : Launch} {e : Env} {s : State} {m : MethodId} {below : List Frame} {meth : Method} {c : Code} {D : va_G} {κ : Nat → ClassId} {b L : Nat} {xs : Nat → Int32} {Q : State → Prop} (F : LF p l s m meth c D κ b L xs) {T S : Nat} (hT : T ≤ 12) (hS8 : S ≤ 8) {ad bd : Nat → Nat} {o : Nat} {C : CS} {ds : List DS} {M : MS} {ov : Nat → Int64} {cells slots i : Nat} (hc9 : cells ≤ 5000) (hs9 : slots ≤ 2000000) (hi : i + 5 ≤ L) (hR : RelT T S C ds M) {H : Heap} {locs : List Loc} (hP : va_P D vwCl (LW κ T S ad bd o C ds M ov) H) (hD : va_D (fun q : Nat => s.heap.size ≤ q) (LW κ T S ad bd o C ds M ov)) (hS : va_S (fun q : Nat => s.heap.size ≤ q) s.heap H locs) {ls : Array Slot} (hl : lv_has ls 7 [(0, .ref b), (1, .ref (ad 0)), (2, .ref (bd 0)), (3, .ref o), (4, .int (nI i))]) 
    (K : ∀ (C' : CS) (ds' : List DS) (M' : MS) (ov' : Nat → Int64) (H' : Heap) (locs' : List Loc), RelT T S C' ds' M' → va_P D vwCl (LW κ T S ad bd o C' ds' M' ov') H' → va_D (fun q : Nat => s.heap.size ≤ q) (LW κ T S ad bd o C' ds' M' ov') → va_S (fun q : Nat => s.heap.size ≤ q) s.heap H' locs' → ∀ ls' : Array Slot, lv_has ls' 7 [(0, .ref b), (1, .ref (ad 0)), (2, .ref (bd 0)), (3, .ref o), (4, .int (nI i))] → W p l e room_1 s m #[Value.ref b] below meth c H' locs' (cells + 7) (slots + 1955) Q (F0 m 610 ls' [])) :
    W p l e room_1 s m #[Value.ref b] below meth c H locs cells slots Q (F0 m 572 ls []) := by
  obtain ⟨hx, hb, hml, hown, hts, hX, hbl, hK, hL⟩ := F
  have hA : ∀ q : Nat, s.heap.size ≤ q → (fun q : Nat => s.heap.size ≤ q) q := fun _ h => h
  have hbA : ¬ (fun q : Nat => s.heap.size ≤ q) b := Nat.not_le.mpr hbl
  have hPt : va_P D vwCl (cW κ T S ad C ds) H := va_P_mem cW_in hP
  obtain ⟨r, C1, M1, hR1, hMc, hMm⟩ := op_next hT hS8 hR l D κ ad bd 
  refine lv_aload_n hx hb dL_law_572 rfl (lv_at hl 1 rfl) ?_
  have hPc : va_P D vwCl (kW κ T S ad C ds) H := va_P_mem (fun q h => List.mem_append_left _ h) hP
  have hDc : va_D (fun q : Nat => s.heap.size ≤ q) (kW κ T S ad C ds) := va_D_right (va_D_perm List.perm_append_comm hD)
  refine mu_callA (wc := kW κ T S ad C ds) (wr := mW κ T S bd M ++ [(o, .inl (κ 3, 1, .inr (.inl ov)))]) (wc' := kW κ T S ad C1 ds) (va_runV (As := []) (rest := []) ⟨hx, hb, hml, hown, hts⟩ (hMc H.size) (cwV 0 hts gL_law_X3_next rfl rfl rfl (by decide +kernel) ⟨Nat.le_of_ble_eq_true rfl, Nat.le_of_ble_eq_true rfl⟩) ⟨mu_blind, va_recv hK hPt (ci := 4) (q0 := 0) rfl rfl, mu_pre hK hPc hDc⟩ rfl rfl hl.1 rfl (lv_room (Nat.le_of_ble_eq_true rfl)) dL_law_573 ⟨show _ ≤ 601024 by omega, show _ ≤ 7293000 by omega⟩) hP hD hS hA List.perm_append_comm (fun H locs hP hD hS => ?_)
  refine W.eq (g2 := F0 m 576 ls [.int r]) rfl ?_
  refine lv_aload_n hx hb dL_law_576 rfl (lv_at hl 2 rfl) ?_
  have hPm : va_P D vwCl (mW κ T S bd M) H := va_P_mem (fun q h => List.mem_append_left _ (List.mem_append_left _ h)) hP
  have hDm : va_D (fun q : Nat => s.heap.size ≤ q) (mW κ T S bd M) := va_D_right (va_D_perm (pm2 _ _ _) hD)
  refine mu_callA (wc := mW κ T S bd M) (wr := [(o, .inl (κ 3, 1, .inr (.inl ov)))] ++ kW κ T S ad C1 ds) (wc' := mW κ T S bd M1) (va_runV (As := []) (rest := [.int r]) ⟨hx, hb, hml, hown, hts⟩ (hMm H.size) (cwV 0 hts gL_law_X4_next rfl rfl rfl (by decide +kernel) ⟨Nat.le_of_ble_eq_true rfl, Nat.le_of_ble_eq_true rfl⟩) ⟨mu_blind, va_recv hK hPm (ci := 5) (q0 := 0) rfl rfl, mu_pre hK hPm hDm⟩ rfl rfl hl.1 rfl (lv_room (Nat.le_of_ble_eq_true rfl)) dL_law_577 ⟨show _ ≤ 601024 by omega, show _ ≤ 7293000 by omega⟩) hP hD hS hA (pm2 _ _ _) (fun H locs hP hD hS => ?_)
  refine W.eq (g2 := F0 m 580 ls [.int r, .int r]) rfl ?_
  refine lv_icmp_eq (tgt := 610) hx hb dL_law_580 (by decide) (fun c_580 => ?_) (fun c_580 => ?_)
  · skip
    refine W.widen (k := cells + 7) (n := slots + 1955) (by omega) (by omega) ?_
    exact K C1 ds M1 ov H locs hR1 (va_P_perm (pm3 _ _ _) hP) (va_D_perm (pm3 _ _ _) hD) hS ls (lv_sub hl [0, 1, 2, 3, 4] rfl)
  · exact absurd rfl c_580

set_option maxHeartbeats 4000000 in
set_option maxRecDepth 100000 in
theorem law_count {p : Program} {l : Launch} {e : Env} {s : State} {m : MethodId} {below : List Frame} {meth : Method} {c : Code} {D : va_G} {κ : Nat → ClassId} {b L : Nat} {xs : Nat → Int32} {Q : State → Prop} (F : LF p l s m meth c D κ b L xs) {T S : Nat} (hT : T ≤ 12) (hS8 : S ≤ 8) {ad bd : Nat → Nat} {o : Nat} {C : CS} {ds : List DS} {M : MS} {ov : Nat → Int64} {cells slots i : Nat} (hc9 : cells ≤ 5000) (hs9 : slots ≤ 2000000) (hi : i + 5 ≤ L) (hR : RelT T S C ds M) {H : Heap} {locs : List Loc} (hP : va_P D vwCl (LW κ T S ad bd o C ds M ov) H) (hD : va_D (fun q : Nat => s.heap.size ≤ q) (LW κ T S ad bd o C ds M ov)) (hS : va_S (fun q : Nat => s.heap.size ≤ q) s.heap H locs) {ls : Array Slot} (hl : lv_has ls 7 [(0, .ref b), (1, .ref (ad 0)), (2, .ref (bd 0)), (3, .ref o), (4, .int (nI i))]) 
    (K : ∀ (C' : CS) (ds' : List DS) (M' : MS) (ov' : Nat → Int64) (H' : Heap) (locs' : List Loc), RelT T S C' ds' M' → va_P D vwCl (LW κ T S ad bd o C' ds' M' ov') H' → va_D (fun q : Nat => s.heap.size ≤ q) (LW κ T S ad bd o C' ds' M' ov') → va_S (fun q : Nat => s.heap.size ≤ q) s.heap H' locs' → ∀ ls' : Array Slot, lv_has ls' 7 [(0, .ref b), (1, .ref (ad 0)), (2, .ref (bd 0)), (3, .ref o), (4, .int (nI i))] → W p l e room_1 s m #[Value.ref b] below meth c H' locs' (cells + 7) (slots + 1955) Q (F0 m 610 ls' [])) :
    W p l e room_1 s m #[Value.ref b] below meth c H locs cells slots Q (F0 m 585 ls []) := by
  obtain ⟨hx, hb, hml, hown, hts, hX, hbl, hK, hL⟩ := F
  have hA : ∀ q : Nat, s.heap.size ≤ q → (fun q : Nat => s.heap.size ≤ q) q := fun _ h => h
  have hbA : ¬ (fun q : Nat => s.heap.size ≤ q) b := Nat.not_le.mpr hbl
  have hPt : va_P D vwCl (cW κ T S ad C ds) H := va_P_mem cW_in hP
  obtain ⟨r, C1, M1, hR1, hMc, hMm⟩ := op_count hT hS8 hR l D κ ad bd (xs (i + 1))
  refine lv_aload_n hx hb dL_law_585 rfl (lv_at hl 1 rfl) ?_
  refine lv_aload_n hx hb dL_law_586 rfl (lv_at hl 0 rfl) ?_
  refine lv_iload hx hb dL_law_587 (lv_at hl 4 rfl) ?_
  refine lv_iconst (v := nI 1) hx hb dL_law_589 (by decide) ?_
  refine lv_iadd hx hb dL_law_590 ?_
  refine tp_i (y := nI (i + 1)) (by exact nI_add _ _) ?_
  refine va_sld hx hb hX hbl hbA hS (vp_in_nI (by omega) (by omega)) dL_law_591 ?_
  refine tp_i (y := xs (i + 1)) (by rw [nI_clamp (by omega)]) ?_
  have hPc : va_P D vwCl (kW κ T S ad C ds) H := va_P_mem (fun q h => List.mem_append_left _ h) hP
  have hDc : va_D (fun q : Nat => s.heap.size ≤ q) (kW κ T S ad C ds) := va_D_right (va_D_perm List.perm_append_comm hD)
  refine mu_callA (wc := kW κ T S ad C ds) (wr := mW κ T S bd M ++ [(o, .inl (κ 3, 1, .inr (.inl ov)))]) (wc' := kW κ T S ad C1 ds) (va_runV (As := [.int (xs (i + 1))]) (rest := []) ⟨hx, hb, hml, hown, hts⟩ (hMc H.size) (cwV 1 hts gL_law_X3_count rfl rfl rfl (by decide +kernel) ⟨Nat.le_of_ble_eq_true rfl, Nat.le_of_ble_eq_true rfl⟩) ⟨mu_blind, va_recv hK hPt (ci := 4) (q0 := 0) rfl rfl, mu_pre hK hPc hDc⟩ rfl rfl hl.1 rfl (lv_room (Nat.le_of_ble_eq_true rfl)) dL_law_592 ⟨show _ ≤ 601024 by omega, show _ ≤ 7293000 by omega⟩) hP hD hS hA List.perm_append_comm (fun H locs hP hD hS => ?_)
  refine W.eq (g2 := F0 m 595 ls [.int r]) rfl ?_
  refine lv_aload_n hx hb dL_law_595 rfl (lv_at hl 2 rfl) ?_
  refine lv_aload_n hx hb dL_law_596 rfl (lv_at hl 0 rfl) ?_
  refine lv_iload hx hb dL_law_597 (lv_at hl 4 rfl) ?_
  refine lv_iconst (v := nI 1) hx hb dL_law_599 (by decide) ?_
  refine lv_iadd hx hb dL_law_600 ?_
  refine tp_i (y := nI (i + 1)) (by exact nI_add _ _) ?_
  refine va_sld hx hb hX hbl hbA hS (vp_in_nI (by omega) (by omega)) dL_law_601 ?_
  refine tp_i (y := xs (i + 1)) (by rw [nI_clamp (by omega)]) ?_
  have hPm : va_P D vwCl (mW κ T S bd M) H := va_P_mem (fun q h => List.mem_append_left _ (List.mem_append_left _ h)) hP
  have hDm : va_D (fun q : Nat => s.heap.size ≤ q) (mW κ T S bd M) := va_D_right (va_D_perm (pm2 _ _ _) hD)
  refine mu_callA (wc := mW κ T S bd M) (wr := [(o, .inl (κ 3, 1, .inr (.inl ov)))] ++ kW κ T S ad C1 ds) (wc' := mW κ T S bd M1) (va_runV (As := [.int (xs (i + 1))]) (rest := [.int r]) ⟨hx, hb, hml, hown, hts⟩ (hMm H.size) (cwV 1 hts gL_law_X4_count rfl rfl rfl (by decide +kernel) ⟨Nat.le_of_ble_eq_true rfl, Nat.le_of_ble_eq_true rfl⟩) ⟨mu_blind, va_recv hK hPm (ci := 5) (q0 := 0) rfl rfl, mu_pre hK hPm hDm⟩ rfl rfl hl.1 rfl (lv_room (Nat.le_of_ble_eq_true rfl)) dL_law_602 ⟨show _ ≤ 601024 by omega, show _ ≤ 7293000 by omega⟩) hP hD hS hA (pm2 _ _ _) (fun H locs hP hD hS => ?_)
  refine W.eq (g2 := F0 m 605 ls [.int r, .int r]) rfl ?_
  refine lv_icmp_eq (tgt := 610) hx hb dL_law_605 (by decide) (fun c_605 => ?_) (fun c_605 => ?_)
  · skip
    refine W.widen (k := cells + 7) (n := slots + 1955) (by omega) (by omega) ?_
    exact K C1 ds M1 ov H locs hR1 (va_P_perm (pm3 _ _ _) hP) (va_D_perm (pm3 _ _ _) hD) hS ls (lv_sub hl [0, 1, 2, 3, 4] rfl)
  · exact absurd rfl c_605

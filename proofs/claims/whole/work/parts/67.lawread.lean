/-! The law's case of read -/
theorem pm4 (a b c : va_W) : (a ++ (b ++ c)).Perm (b ++ (a ++ c)) := by rw [← List.append_assoc, ← List.append_assoc]; exact List.Perm.append_right c List.perm_append_comm
theorem pm5 (a b c : va_W) : ((a ++ c) ++ b).Perm (a ++ (b ++ c)) := by rw [List.append_assoc]; exact List.Perm.append_left a List.perm_append_comm
theorem lcmp_z (x : Int64) : lg_cmp x x = nI 0 := by simp [lg_cmp]; rfl

set_option maxHeartbeats 4000000 in
set_option maxRecDepth 100000 in
theorem law_read {p : Program} {l : Launch} {e : Env} {s : State} {m : MethodId} {below : List Frame} {meth : Method} {c : Code} {D : va_G} {κ : Nat → ClassId} {b L : Nat} {xs : Nat → Int32} {Q : State → Prop} (F : LF p l s m meth c D κ b L xs) {T S : Nat} (hT : T ≤ 12) (hS8 : S ≤ 8) {ad bd : Nat → Nat} {o : Nat} {C : CS} {ds : List DS} {M : MS} {ov : Nat → Int64} {cells slots i : Nat} (hc9 : cells ≤ 5000) (hs9 : slots ≤ 2000000) (hi : i + 5 ≤ L) (hR : RelT T S C ds M) {H : Heap} {locs : List Loc} (hP : va_P D vwCl (LW κ T S ad bd o C ds M ov) H) (hD : va_D (fun q : Nat => s.heap.size ≤ q) (LW κ T S ad bd o C ds M ov)) (hS : va_S (fun q : Nat => s.heap.size ≤ q) s.heap H locs) {ls : Array Slot} (hl : lv_has ls 7 [(0, .ref b), (1, .ref (ad 0)), (2, .ref (bd 0)), (3, .ref o), (4, .int (nI i))]) (hst : l.stackTraces = false) (hthr : thr s) (hcl13 : (Cond.classLink RL 13 RJx00060).before #[] s = true)
    (K : ∀ (C' : CS) (ds' : List DS) (M' : MS) (ov' : Nat → Int64) (H' : Heap) (locs' : List Loc), RelT T S C' ds' M' → va_P D vwCl (LW κ T S ad bd o C' ds' M' ov') H' → va_D (fun q : Nat => s.heap.size ≤ q) (LW κ T S ad bd o C' ds' M' ov') → va_S (fun q : Nat => s.heap.size ≤ q) s.heap H' locs' → ∀ ls' : Array Slot, lv_has ls' 7 [(0, .ref b), (1, .ref (ad 0)), (2, .ref (bd 0)), (3, .ref o), (4, .int (nI i))] → W p l e room_1 s m #[Value.ref b] below meth c H' locs' (cells + 7) (slots + 1955) Q (F0 m 610 ls' [])) :
    W p l e room_1 s m #[Value.ref b] below meth c H locs cells slots Q (F0 m 183 ls []) := by
  obtain ⟨hx, hb, hml, hown, hts, hX, hbl, hK, hL⟩ := F
  have hA : ∀ q : Nat, s.heap.size ≤ q → (fun q : Nat => s.heap.size ≤ q) q := fun _ h => h
  have hbA : ¬ (fun q : Nat => s.heap.size ≤ q) b := Nat.not_le.mpr hbl
  have hPt : va_P D vwCl (cW κ T S ad C ds) H := va_P_mem cW_in hP
  rcases op_read hT hS8 hR l D κ ad bd (xs (i + 1)) (xs (i + 2)) (xs (i + 3)) with ⟨r, M1, hR1, hco, hMc, hMm⟩ | ⟨hno, M1, hR1, hco, hMm⟩
  · skip
    refine lv_aload_n hx hb dL_law_183 rfl (lv_at hl 1 rfl) ?_
    refine lv_aload_n hx hb dL_law_184 rfl (lv_at hl 0 rfl) ?_
    refine lv_iload hx hb dL_law_185 (lv_at hl 4 rfl) ?_
    refine lv_iconst (v := nI 1) hx hb dL_law_187 (by decide) ?_
    refine lv_iadd hx hb dL_law_188 ?_
    refine tp_i (y := nI (i + 1)) (by exact nI_add _ _) ?_
    refine va_sld hx hb hX hbl hbA hS (vp_in_nI (by omega) (by omega)) dL_law_189 ?_
    refine tp_i (y := xs (i + 1)) (by rw [nI_clamp (by omega)]) ?_
    refine lv_aload_n hx hb dL_law_190 rfl (lv_at hl 0 rfl) ?_
    refine lv_iload hx hb dL_law_191 (lv_at hl 4 rfl) ?_
    refine lv_iconst (v := nI 2) hx hb dL_law_193 (by decide) ?_
    refine lv_iadd hx hb dL_law_194 ?_
    refine tp_i (y := nI (i + 2)) (by exact nI_add _ _) ?_
    refine va_sld hx hb hX hbl hbA hS (vp_in_nI (by omega) (by omega)) dL_law_195 ?_
    refine tp_i (y := xs (i + 2)) (by rw [nI_clamp (by omega)]) ?_
    refine lv_aload_n hx hb dL_law_196 rfl (lv_at hl 0 rfl) ?_
    refine lv_iload hx hb dL_law_197 (lv_at hl 4 rfl) ?_
    refine lv_iconst (v := nI 3) hx hb dL_law_199 (by decide) ?_
    refine lv_iadd hx hb dL_law_200 ?_
    refine tp_i (y := nI (i + 3)) (by exact nI_add _ _) ?_
    refine va_sld hx hb hX hbl hbA hS (vp_in_nI (by omega) (by omega)) dL_law_201 ?_
    refine tp_i (y := xs (i + 3)) (by rw [nI_clamp (by omega)]) ?_
    refine lv_aload_n hx hb dL_law_202 rfl (lv_at hl 3 rfl) ?_
    have hPc : va_P D vwCl (kW κ T S ad C ds ++ [(o, .inl (κ 3, 1, .inr (.inl ov)))]) H := va_P_mem (fun q h => (List.mem_append.mp h).elim (fun h => List.mem_append_left _ h) (fun h => List.mem_append_right _ (List.mem_append_right _ h))) hP
    have hDc : va_D (fun q : Nat => s.heap.size ≤ q) (kW κ T S ad C ds ++ [(o, .inl (κ 3, 1, .inr (.inl ov)))]) := va_D_right (va_D_perm (pm4 _ _ _) hD)
    have okw : ∀ w ∈ va_wsS RL 32 yL_read wsL_read, w.before _ s = true := fun w h => hts w (gL_law_L_read w h).1
    refine mu_callA (wc := kW κ T S ad C ds ++ [(o, .inl (κ 3, 1, .inr (.inl ov)))]) (wr := mW κ T S bd M) (wc' := kW κ T S ad C ds ++ [(o, .inl (κ 3, 1, .inr (.inl (vp_updL ov 0 r.toInt64))))]) (runSW (mc := 0) (ms := 0) (As := [.ref ((ad 0)), .int (xs (i + 1)), .int (xs (i + 2)), .int (xs (i + 3)), .ref o]) (rest := []) (n := 5) (ret := some .int) (hh := [(0, 12, 15, 13)]) (bytes := cL_read) (maxL := 6) hx hb hml hown (l_read_ok l D κ H.size T S ad C ds o ov (xs (i + 1)) (xs (i + 2)) (xs (i + 3)) r hMc) rfl rfl (Nat.le_of_ble_eq_true rfl) (Nat.le_of_ble_eq_true rfl) (pay_in hts (fun w h => gL_law_L_read w (by unfold va_wsS; exact List.mem_append_right _ h))) List.mem_cons_self (okw _ (by simp [va_wsS])) (okw _ (by simp [va_wsS])) (okw _ (by simp [va_wsS])) (by decide +kernel) (by decide +kernel) mu_blind (mu_pre hK hPc hDc) rfl rfl hl.1 rfl (lv_room (Nat.le_of_ble_eq_true rfl)) dL_law_203 ⟨show _ ≤ 601024 by omega, show _ ≤ 7293000 by omega⟩) hP hD hS hA (pm4 _ _ _) (fun H locs hP hD hS => ?_)
    refine W.eq (g2 := F0 m 206 ls [.int (nI 0)]) rfl ?_
    refine lv_istore (lv' := [(5, .int (nI 0)), (0, .ref b), (1, .ref ((ad 0))), (2, .ref ((bd 0))), (3, .ref o), (4, .int (nI i))]) hx hb dL_law_206 hl (by decide) rfl (fun ls hl => ?_)
    refine lv_aload_n hx hb dL_law_208 rfl (lv_at hl 3 rfl) ?_
    refine lv_aload_n hx hb dL_law_209 rfl (lv_at hl 1 rfl) ?_
    refine lv_iload hx hb dL_law_210 (lv_at hl 5 rfl) ?_
    refine lv_iconst (v := nI 1) hx hb dL_law_212 (by decide) ?_
    refine lv_iadd hx hb dL_law_213 ?_
    refine tp_i (y := nI (i + 1)) (by exact nI_add _ _) ?_
    refine va_sld hx hb hX hbl hbA hS (vp_in_nI (by omega) (by omega)) dL_law_214 ?_
    refine tp_i (y := xs (i + 1)) (by rw [nI_clamp (by omega)]) ?_
    refine lv_aload_n hx hb dL_law_215 rfl (lv_at hl 1 rfl) ?_
    refine lv_iload hx hb dL_law_216 (lv_at hl 5 rfl) ?_
    refine lv_iconst (v := nI 2) hx hb dL_law_218 (by decide) ?_
    refine lv_iadd hx hb dL_law_219 ?_
    refine tp_i (y := nI (i + 2)) (by exact nI_add _ _) ?_
    refine va_sld hx hb hX hbl hbA hS (vp_in_nI (by omega) (by omega)) dL_law_220 ?_
    refine tp_i (y := xs (i + 2)) (by rw [nI_clamp (by omega)]) ?_
    refine lv_aload_n hx hb dL_law_221 rfl (lv_at hl 1 rfl) ?_
    refine lv_iload hx hb dL_law_222 (lv_at hl 5 rfl) ?_
    refine lv_iconst (v := nI 3) hx hb dL_law_224 (by decide) ?_
    refine lv_iadd hx hb dL_law_225 ?_
    refine tp_i (y := nI (i + 3)) (by exact nI_add _ _) ?_
    refine va_sld hx hb hX hbl hbA hS (vp_in_nI (by omega) (by omega)) dL_law_226 ?_
    refine tp_i (y := xs (i + 3)) (by rw [nI_clamp (by omega)]) ?_
    have hPm : va_P D vwCl (mW κ T S bd M) H := va_P_mem (fun q h => List.mem_append_left _ h) hP
    have hDm : va_D (fun q : Nat => s.heap.size ≤ q) (mW κ T S bd M) := va_D_right (va_D_perm List.perm_append_comm hD)
    refine mu_callA (wc := mW κ T S bd M) (wr := kW κ T S ad C ds ++ [(o, .inl (κ 3, 1, .inr (.inl (vp_updL ov 0 r.toInt64))))]) (wc' := mW κ T S bd M1) (va_runV (As := [.int (xs (i + 1)), .int (xs (i + 2)), .int (xs (i + 3))]) (rest := []) ⟨hx, hb, hml, hown, hts⟩ (hMm H.size) (cwV 3 hts gL_law_X4_read rfl rfl rfl (by decide +kernel) ⟨Nat.le_of_ble_eq_true rfl, Nat.le_of_ble_eq_true rfl⟩) ⟨mu_blind, va_recv hK hPm (ci := 5) (q0 := 0) rfl rfl, mu_pre hK hPm hDm⟩ rfl rfl hl.1 rfl (lv_room (Nat.le_of_ble_eq_true rfl)) dL_law_227 ⟨show _ ≤ 601024 by omega, show _ ≤ 7293000 by omega⟩) hP hD hS hA List.perm_append_comm (fun H locs hP hD hS => ?_)
    refine W.eq (g2 := F0 m 230 ls [.int r]) rfl ?_
    refine lv_istore (lv' := [(6, .int r), (5, .int (nI 0)), (0, .ref b), (1, .ref ((ad 0))), (2, .ref ((bd 0))), (3, .ref o), (4, .int (nI i))]) hx hb dL_law_230 hl (by decide) rfl (fun ls hl => ?_)
    refine lv_aload_n hx hb dL_law_232 rfl (lv_at hl 4 rfl) ?_
    have hPm1 : va_P D vwCl (mW κ T S bd M1) H := va_P_mem (fun q h => List.mem_append_right _ h) hP
    refine pu_call (va_runV (As := []) (rest := []) ⟨hx, hb, hml, hown, hts⟩ (m_thrown l D κ T S bd M1.1 M1.2.1 M1.2.2.1 M1.2.2.2.1 M1.2.2.2.2.1 M1.2.2.2.2.2.1 M1.2.2.2.2.2.2.1 M1.2.2.2.2.2.2.2.1 M1.2.2.2.2.2.2.2.2.1 M1.2.2.2.2.2.2.2.2.2.1 M1.2.2.2.2.2.2.2.2.2.2.1 M1.2.2.2.2.2.2.2.2.2.2.2.1 M1.2.2.2.2.2.2.2.2.2.2.2.2.1 M1.2.2.2.2.2.2.2.2.2.2.2.2.2.1 M1.2.2.2.2.2.2.2.2.2.2.2.2.2.2.1 M1.2.2.2.2.2.2.2.2.2.2.2.2.2.2.2.1 M1.2.2.2.2.2.2.2.2.2.2.2.2.2.2.2.2.1 M1.2.2.2.2.2.2.2.2.2.2.2.2.2.2.2.2.2.1 M1.2.2.2.2.2.2.2.2.2.2.2.2.2.2.2.2.2.2) (cwV 0 hts gL_law_X4_thrown rfl rfl rfl (by decide +kernel) ⟨Nat.le_of_ble_eq_true rfl, Nat.le_of_ble_eq_true rfl⟩) ⟨pu_blind, va_recv hK hPm1 (ci := 5) (q0 := 0) rfl rfl, pu_pre hK hPm1⟩ rfl rfl hl.1 rfl (lv_room (Nat.le_of_ble_eq_true rfl)) dL_law_233 ⟨show _ ≤ 601024 by omega, show _ ≤ 7293000 by omega⟩) ?_
    refine tp_i (y := nI 0) hco ?_
    refine lv_iload hx hb dL_law_236 (lv_at hl 1 rfl) ?_
    refine lv_icmp_eq (tgt := 243) hx hb dL_law_238 (by decide) (fun c_238 => ?_) (fun c_238 => ?_)
    · skip
      refine lv_iload hx hb dL_law_243 (lv_at hl 1 rfl) ?_
      refine lv_if_ne (tgt := 260) hx hb dL_law_245 (by decide) (fun c_245 => ?_) (fun c_245 => ?_)
      · exact absurd (by decide) c_245
      · skip
        have hPo : va_P D vwCl [(o, .inl (κ 3, 1, .inr (.inl (vp_updL ov 0 r.toInt64))))] H := va_P_mem (fun q h => List.mem_append_left _ (List.mem_append_right _ h)) hP
        refine lv_aload_n hx hb dL_law_248 rfl (lv_at hl 5 rfl) ?_
        refine lv_iconst (v := nI 0) hx hb dL_law_249 (by decide) ?_
        refine va_lald hx hb hK hPo 0 3 rfl rfl (vp_in_nI (by omega) (by omega)) dL_law_250 ?_
        refine tp_l (y := r.toInt64) (by rw [nI_clamp (by omega)]; simp [vp_updL]) ?_
        refine lv_iload hx hb dL_law_251 (lv_at hl 0 rfl) ?_
        refine lv_i2l (v := r.toInt64) hx hb dL_law_253 rfl ?_
        refine W.lcmp hx hb dL_law_254 ?_
        refine tp_i (y := nI 0) (lcmp_z _) ?_
        refine lv_if_eq (tgt := 260) hx hb dL_law_255 (by decide) (fun c_255 => ?_) (fun c_255 => ?_)
        · skip
          refine lv_goto (tgt := 610) hx hb dL_law_260 (by decide) ?_
          refine W.widen (k := cells + 7) (n := slots + 1955) (by omega) (by omega) ?_
          exact K C ds M1 (vp_updL ov 0 r.toInt64) H locs hR1 (va_P_perm (pm5 _ _ _) hP) (va_D_perm (pm5 _ _ _) hD) hS ls (lv_sub hl [2, 3, 4, 5, 6] rfl)
        · exact absurd (by decide) c_255
    · exact absurd (by decide) c_238
  · skip
    refine lv_aload_n hx hb dL_law_183 rfl (lv_at hl 1 rfl) ?_
    refine lv_aload_n hx hb dL_law_184 rfl (lv_at hl 0 rfl) ?_
    refine lv_iload hx hb dL_law_185 (lv_at hl 4 rfl) ?_
    refine lv_iconst (v := nI 1) hx hb dL_law_187 (by decide) ?_
    refine lv_iadd hx hb dL_law_188 ?_
    refine tp_i (y := nI (i + 1)) (by exact nI_add _ _) ?_
    refine va_sld hx hb hX hbl hbA hS (vp_in_nI (by omega) (by omega)) dL_law_189 ?_
    refine tp_i (y := xs (i + 1)) (by rw [nI_clamp (by omega)]) ?_
    refine lv_aload_n hx hb dL_law_190 rfl (lv_at hl 0 rfl) ?_
    refine lv_iload hx hb dL_law_191 (lv_at hl 4 rfl) ?_
    refine lv_iconst (v := nI 2) hx hb dL_law_193 (by decide) ?_
    refine lv_iadd hx hb dL_law_194 ?_
    refine tp_i (y := nI (i + 2)) (by exact nI_add _ _) ?_
    refine va_sld hx hb hX hbl hbA hS (vp_in_nI (by omega) (by omega)) dL_law_195 ?_
    refine tp_i (y := xs (i + 2)) (by rw [nI_clamp (by omega)]) ?_
    refine lv_aload_n hx hb dL_law_196 rfl (lv_at hl 0 rfl) ?_
    refine lv_iload hx hb dL_law_197 (lv_at hl 4 rfl) ?_
    refine lv_iconst (v := nI 3) hx hb dL_law_199 (by decide) ?_
    refine lv_iadd hx hb dL_law_200 ?_
    refine tp_i (y := nI (i + 3)) (by exact nI_add _ _) ?_
    refine va_sld hx hb hX hbl hbA hS (vp_in_nI (by omega) (by omega)) dL_law_201 ?_
    refine tp_i (y := xs (i + 3)) (by rw [nI_clamp (by omega)]) ?_
    refine lv_aload_n hx hb dL_law_202 rfl (lv_at hl 3 rfl) ?_
    have hPc : va_P D vwCl (kW κ T S ad C ds ++ [(o, .inl (κ 3, 1, .inr (.inl ov)))]) H := va_P_mem (fun q h => (List.mem_append.mp h).elim (fun h => List.mem_append_left _ h) (fun h => List.mem_append_right _ (List.mem_append_right _ h))) hP
    have hDc : va_D (fun q : Nat => s.heap.size ≤ q) (kW κ T S ad C ds ++ [(o, .inl (κ 3, 1, .inr (.inl ov)))]) := va_D_right (va_D_perm (pm4 _ _ _) hD)
    have okw : ∀ w ∈ va_wsS RL 32 yL_read wsL_read, w.before _ s = true := fun w h => hts w (gL_law_L_read w h).1
    refine mu_callA (wc := kW κ T S ad C ds ++ [(o, .inl (κ 3, 1, .inr (.inl ov)))]) (wr := mW κ T S bd M) (wc' := kW κ T S ad C ds ++ [(o, .inl (κ 3, 1, .inr (.inl ov)))]) (runSW (mc := 1) (ms := 6) (As := [.ref ((ad 0)), .int (xs (i + 1)), .int (xs (i + 2)), .int (xs (i + 3)), .ref o]) (rest := []) (n := 5) (ret := some .int) (hh := [(0, 12, 15, 13)]) (bytes := cL_read) (maxL := 6) hx hb hml hown (l_read_th l hst D κ H.size T S ad C ds o ov (xs (i + 1)) (xs (i + 2)) (xs (i + 3)) hno) rfl rfl (Nat.le_of_ble_eq_true rfl) (Nat.le_of_ble_eq_true rfl) (pay_in hts (fun w h => gL_law_L_read w (by unfold va_wsS; exact List.mem_append_right _ h))) List.mem_cons_self (okw _ (by simp [va_wsS])) (okw _ (by simp [va_wsS])) (okw _ (by simp [va_wsS])) (by decide +kernel) (by decide +kernel) tb_blind (fun U hU hW => ⟨rfl, (mu_pre (av := [.ref ((ad 0)), .int (xs (i + 1)), .int (xs (i + 2)), .int (xs (i + 3)), .ref o]) hK hPc hDc U hU hW).2, thr_moved hthr hW (fun q hq => by rw [hU]; exact hS.2.1 q hq (Nat.not_le.mpr hq)), word_at hW (Or.inl rfl) hcl13⟩) rfl rfl hl.1 rfl (lv_room (Nat.le_of_ble_eq_true rfl)) dL_law_203 ⟨show _ ≤ 601024 by omega, show _ ≤ 7293000 by omega⟩) hP hD hS hA (pm4 _ _ _) (fun H locs hP hD hS => ?_)
    refine W.eq (g2 := F0 m 206 ls [.int (nI 1)]) rfl ?_
    refine lv_istore (lv' := [(5, .int (nI 1)), (0, .ref b), (1, .ref ((ad 0))), (2, .ref ((bd 0))), (3, .ref o), (4, .int (nI i))]) hx hb dL_law_206 hl (by decide) rfl (fun ls hl => ?_)
    refine lv_aload_n hx hb dL_law_208 rfl (lv_at hl 3 rfl) ?_
    refine lv_aload_n hx hb dL_law_209 rfl (lv_at hl 1 rfl) ?_
    refine lv_iload hx hb dL_law_210 (lv_at hl 5 rfl) ?_
    refine lv_iconst (v := nI 1) hx hb dL_law_212 (by decide) ?_
    refine lv_iadd hx hb dL_law_213 ?_
    refine tp_i (y := nI (i + 1)) (by exact nI_add _ _) ?_
    refine va_sld hx hb hX hbl hbA hS (vp_in_nI (by omega) (by omega)) dL_law_214 ?_
    refine tp_i (y := xs (i + 1)) (by rw [nI_clamp (by omega)]) ?_
    refine lv_aload_n hx hb dL_law_215 rfl (lv_at hl 1 rfl) ?_
    refine lv_iload hx hb dL_law_216 (lv_at hl 5 rfl) ?_
    refine lv_iconst (v := nI 2) hx hb dL_law_218 (by decide) ?_
    refine lv_iadd hx hb dL_law_219 ?_
    refine tp_i (y := nI (i + 2)) (by exact nI_add _ _) ?_
    refine va_sld hx hb hX hbl hbA hS (vp_in_nI (by omega) (by omega)) dL_law_220 ?_
    refine tp_i (y := xs (i + 2)) (by rw [nI_clamp (by omega)]) ?_
    refine lv_aload_n hx hb dL_law_221 rfl (lv_at hl 1 rfl) ?_
    refine lv_iload hx hb dL_law_222 (lv_at hl 5 rfl) ?_
    refine lv_iconst (v := nI 3) hx hb dL_law_224 (by decide) ?_
    refine lv_iadd hx hb dL_law_225 ?_
    refine tp_i (y := nI (i + 3)) (by exact nI_add _ _) ?_
    refine va_sld hx hb hX hbl hbA hS (vp_in_nI (by omega) (by omega)) dL_law_226 ?_
    refine tp_i (y := xs (i + 3)) (by rw [nI_clamp (by omega)]) ?_
    have hPm : va_P D vwCl (mW κ T S bd M) H := va_P_mem (fun q h => List.mem_append_left _ h) hP
    have hDm : va_D (fun q : Nat => s.heap.size ≤ q) (mW κ T S bd M) := va_D_right (va_D_perm List.perm_append_comm hD)
    refine mu_callA (wc := mW κ T S bd M) (wr := kW κ T S ad C ds ++ [(o, .inl (κ 3, 1, .inr (.inl ov)))]) (wc' := mW κ T S bd M1) (va_runV (As := [.int (xs (i + 1)), .int (xs (i + 2)), .int (xs (i + 3))]) (rest := []) ⟨hx, hb, hml, hown, hts⟩ (hMm H.size) (cwV 3 hts gL_law_X4_read rfl rfl rfl (by decide +kernel) ⟨Nat.le_of_ble_eq_true rfl, Nat.le_of_ble_eq_true rfl⟩) ⟨mu_blind, va_recv hK hPm (ci := 5) (q0 := 0) rfl rfl, mu_pre hK hPm hDm⟩ rfl rfl hl.1 rfl (lv_room (Nat.le_of_ble_eq_true rfl)) dL_law_227 ⟨show _ ≤ 601024 by omega, show _ ≤ 7293000 by omega⟩) hP hD hS hA List.perm_append_comm (fun H locs hP hD hS => ?_)
    refine W.eq (g2 := F0 m 230 ls [.int (nI 0)]) rfl ?_
    refine lv_istore (lv' := [(6, .int (nI 0)), (5, .int (nI 1)), (0, .ref b), (1, .ref ((ad 0))), (2, .ref ((bd 0))), (3, .ref o), (4, .int (nI i))]) hx hb dL_law_230 hl (by decide) rfl (fun ls hl => ?_)
    refine lv_aload_n hx hb dL_law_232 rfl (lv_at hl 4 rfl) ?_
    have hPm1 : va_P D vwCl (mW κ T S bd M1) H := va_P_mem (fun q h => List.mem_append_right _ h) hP
    refine pu_call (va_runV (As := []) (rest := []) ⟨hx, hb, hml, hown, hts⟩ (m_thrown l D κ T S bd M1.1 M1.2.1 M1.2.2.1 M1.2.2.2.1 M1.2.2.2.2.1 M1.2.2.2.2.2.1 M1.2.2.2.2.2.2.1 M1.2.2.2.2.2.2.2.1 M1.2.2.2.2.2.2.2.2.1 M1.2.2.2.2.2.2.2.2.2.1 M1.2.2.2.2.2.2.2.2.2.2.1 M1.2.2.2.2.2.2.2.2.2.2.2.1 M1.2.2.2.2.2.2.2.2.2.2.2.2.1 M1.2.2.2.2.2.2.2.2.2.2.2.2.2.1 M1.2.2.2.2.2.2.2.2.2.2.2.2.2.2.1 M1.2.2.2.2.2.2.2.2.2.2.2.2.2.2.2.1 M1.2.2.2.2.2.2.2.2.2.2.2.2.2.2.2.2.1 M1.2.2.2.2.2.2.2.2.2.2.2.2.2.2.2.2.2.1 M1.2.2.2.2.2.2.2.2.2.2.2.2.2.2.2.2.2.2) (cwV 0 hts gL_law_X4_thrown rfl rfl rfl (by decide +kernel) ⟨Nat.le_of_ble_eq_true rfl, Nat.le_of_ble_eq_true rfl⟩) ⟨pu_blind, va_recv hK hPm1 (ci := 5) (q0 := 0) rfl rfl, pu_pre hK hPm1⟩ rfl rfl hl.1 rfl (lv_room (Nat.le_of_ble_eq_true rfl)) dL_law_233 ⟨show _ ≤ 601024 by omega, show _ ≤ 7293000 by omega⟩) ?_
    refine tp_i (y := nI 1) hco ?_
    refine lv_iload hx hb dL_law_236 (lv_at hl 1 rfl) ?_
    refine lv_icmp_eq (tgt := 243) hx hb dL_law_238 (by decide) (fun c_238 => ?_) (fun c_238 => ?_)
    · skip
      refine lv_iload hx hb dL_law_243 (lv_at hl 1 rfl) ?_
      refine lv_if_ne (tgt := 260) hx hb dL_law_245 (by decide) (fun c_245 => ?_) (fun c_245 => ?_)
      · skip
        refine lv_goto (tgt := 610) hx hb dL_law_260 (by decide) ?_
        refine W.widen (k := cells + 7) (n := slots + 1955) (by omega) (by omega) ?_
        exact K C ds M1 ov H locs hR1 (va_P_perm (pm5 _ _ _) hP) (va_D_perm (pm5 _ _ _) hD) hS ls (lv_sub hl [2, 3, 4, 5, 6] rfl)
      · exact absurd c_245 (by decide)
    · exact absurd (by decide) c_238

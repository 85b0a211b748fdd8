/-! What the start gives: the classes' places, the arrays' classes, what a throw needs -/
section FA
variable {args : Array Value} {s : State}
theorem st_D (hts : ∀ w ∈ lw_tbl, w.before args s = true) : ∃ D : va_G, ∀ (c : Nat) (q : vw_C), vwCl[c]? = some q → u_Kn s q.1 q.2.1 q.2.2 (D.1 c) (D.2 c) := by
  obtain ⟨c0, i0, h0⟩ := u_known (C := RJx00060) (T := TJx00060) (N := 6) (n := 6) hts inJx00060 (hts _ (by decide +kernel))
  obtain ⟨c1, i1, h1⟩ := u_known (C := RX0) (T := TX0) (N := 3) (n := 3) hts inX0 (hts _ (by decide +kernel))
  obtain ⟨c2, i2, h2⟩ := u_known (C := RX1) (T := TX1) (N := 9) (n := 9) hts inX1 (hts _ (by decide +kernel))
  obtain ⟨c3, i3, h3⟩ := u_known (C := RX2) (T := TX2) (N := 4) (n := 4) hts inX2 (hts _ (by decide +kernel))
  obtain ⟨c4, i4, h4⟩ := u_known (C := RX3) (T := TX3) (N := 8) (n := 8) hts inX3 (hts _ (by decide +kernel))
  obtain ⟨c5, i5, h5⟩ := u_known (C := RX4) (T := TX4) (N := 21) (n := 21) hts inX4 (hts _ (by decide +kernel))
  refine ⟨(fun c => match c with | 0 => c0 | 1 => c1 | 2 => c2 | 3 => c3 | 4 => c4 | _ => c5, fun c => match c with | 0 => i0 | 1 => i1 | 2 => i2 | 3 => i3 | 4 => i4 | _ => i5), ?_⟩
  intro c q hq
  match c, hq with
  | 0, hq => cases hq; exact h0
  | 1, hq => cases hq; exact h1
  | 2, hq => cases hq; exact h2
  | 3, hq => cases hq; exact h3
  | 4, hq => cases hq; exact h4
  | 5, hq => cases hq; exact h5
  | _ + 6, hq => simp at hq
theorem st_K (hts : ∀ w ∈ lw_tbl, w.before args s = true) : ∃ (D : va_G) (κ : Nat → ClassId), va_K D vwCl (tyA κ) s := by
  obtain ⟨D, hD⟩ := st_D hts
  obtain ⟨a0, k0, p0, f0, g0, e0⟩ := Cond.arrayClass_spec (hts (.arrayClass .int) (by decide +kernel))
  obtain ⟨a1, k1, p1, f1, g1, e1⟩ := Cond.arrayClass_spec (hts (.arrayClass .byte) (by decide +kernel))
  obtain ⟨a3, k3, p3, f3, g3, e3⟩ := Cond.arrayClass_spec (hts (.arrayClass .long) (by decide +kernel))
  obtain ⟨p2, a2, k2, f2, -, g2, e2, j2⟩ := Cond.arrayOver_spec (hts (.arrayOver (.object RX1)) (by decide +kernel))
  refine ⟨D, fun k => match k with | 0 => a0 | 1 => a1 | 2 => a2 | _ => a3, hD, ?_⟩
  intro k q hq
  match k, hq with
  | 0, hq => cases hq; exact ⟨fun n z => ⟨fun k h => (by cases h), k0, g0, p0, e0⟩, f0⟩
  | 1, hq => cases hq; exact ⟨fun n z => ⟨fun k h => (by cases h), k1, g1, p1, e1⟩, f1⟩
  | 2, hq => cases hq; exact ⟨fun n z => ⟨fun k h => (by cases h), k2, g2, p2, e2⟩, k2, p2, g2, e2, f2, j2⟩
  | 3, hq => cases hq; exact ⟨fun n z => ⟨fun k h => (by cases h), k3, g3, p3, e3⟩, f3⟩
  | _ + 4, hq => simp at hq
theorem st_nx (hts : ∀ w ∈ lw_tbl, w.before args s = true) : nx s := ⟨va_Nw.of rfl (hts (.methodLinkNest RX3 38 yX2_init RX3) (by decide +kernel)), va_Nw.of rfl (hts (.methodLinkNest RX3 45 yX0_init RX3) (by decide +kernel)), va_AO.of (hts (.arrayOver (.object RX1)) (by decide +kernel))⟩
theorem st_cl13 (hts : ∀ w ∈ lw_tbl, w.before args s = true) : (Cond.classLink RL 13 RJx00060).before #[] s = true := va_tabs rfl rfl (hts (.classLink RL 13 RJx00060) (by decide +kernel))
theorem st_thr (hts : ∀ w ∈ lw_tbl, w.before args s = true) (hgv : (Jvm.Cond.and given_1 narrow_1).before args s = true) : thr s := by
  have hs := flat_of_before _ hgv
  have l1 : (Cond.laysStatic Bundle.tN "UNASSIGNED_STACK" Bundle.steD).before args s = true := hts _ (by decide +kernel)
  have l2 : (Cond.laysStatic Bundle.tN "SUPPRESSED_SENTINEL" Bundle.listD).before args s = true := hts _ (by decide +kernel)
  have h0 : (Cond.initialized Bundle.tN).before args s = true := hts _ (by decide +kernel)
  have r1 : (Cond.isRef (.static Bundle.tN "UNASSIGNED_STACK" Bundle.steD)).before args s = true := hs _ (by decide +kernel)
  have r2 : (Cond.isRef (.static Bundle.tN "SUPPRESSED_SENTINEL" Bundle.listD)).before args s = true := hs _ (by decide +kernel)
  have x1 : (Cond.exactly (.string RX3 71) "java/lang/String").before args s = true := hs _ (by decide +kernel)
  have t1 : (Cond.stringRef RX3 71 "no such byte on the disk").before args s = true := hts _ (by decide +kernel)
  obtain ⟨a, _, _, _, ha, -⟩ := Cond.exactly_spec x1
  refine ⟨⟨fun w h => ?_, fun w h => va_tabs (dc_tab (dA_ok w h)) rfl (hts w (dA_in w h))⟩, va_Zqof l1 h0 r1 (fun _ _ h => h), va_Zqof l2 h0 r2 (fun _ _ h => h), ⟨a, vk_R.of t1 ha⟩, lays_moved l1 (Vm.Alike.refl s.vm) (fun _ _ => rfl), lays_moved l2 (Vm.Alike.refl s.vm) (fun _ _ => rfl)⟩
  have h1 := tA_ok w h
  rw [Bool.and_eq_true] at h1
  exact va_tabs h1.1 rfl (hts w (tA_in w h))
end FA

/-! TrackDiskModel: its world, the functions that its loops compute, its methods' contracts -/
def moW (κ : Nat → ClassId) (T S : Nat) (ad : Nat → Nat) (co : Int32) (bs kp sm ks se sp ke kq vo : Nat → Int32) (nd wn : Int32) (wt wx wb : Nat → Int32) (dn : Int32) (tp : Nat → Int32) (tn ts : Int32) : va_W := [(ad 0, .inr (5, [.int co, .int (nI T), .int (nI S), .ref (ad 1), .ref (ad 2), .ref (ad 3), .ref (ad 4), .ref (ad 5), .ref (ad 6), .ref (ad 7), .ref (ad 8), .ref (ad 9), .int nd, .int wn, .ref (ad 10), .ref (ad 11), .ref (ad 12), .int dn, .ref (ad 13), .int tn, .int ts])), (ad 1, .inl (κ 1, 1792, .inl bs)), (ad 2, .inl (κ 1, 8960, .inl kp)), (ad 3, .inl (κ 0, 112, .inl sm)), (ad 4, .inl (κ 0, 560, .inl ks)), (ad 5, .inl (κ 0, 12, .inl se)), (ad 6, .inl (κ 0, 24, .inl sp)), (ad 7, .inl (κ 0, 60, .inl ke)), (ad 8, .inl (κ 0, 120, .inl kq)), (ad 9, .inl (κ 0, 5, .inl vo)), (ad 10, .inl (κ 0, 40, .inl wt)), (ad 11, .inl (κ 0, 40, .inl wx)), (ad 12, .inl (κ 0, 40, .inl wb)), (ad 13, .inl (κ 0, 100, .inl tp))]
/-- where a track lies -/
def mlF (se : Nat → Int32) (t : Nat) : Nat := if se t = -1 then t else cl (se t)
theorem mlF_1 {se : Nat → Int32} {t : Nat} (h : se t = -1) : mlF se t = t := by simp [mlF, h]
theorem mlF_2 {se : Nat → Int32} {t : Nat} (h : ¬ se t = -1) : mlF se t = cl (se t) := by simp [mlF, h]
theorem mlF_lt {se : Nat → Int32} {T t : Nat} (hT : T ≤ 12) (h : ∀ t, t < T → se t = -1 ∨ vp_in (se t) 14) (ht : t < T) : mlF se t < 14 := by
  by_cases q : se t = -1
  · rw [mlF_1 q]; omega
  · rw [mlF_2 q]; exact (cl_nI ((h t ht).resolve_left q) (by omega)).2
/-- the sum of the sector at a -/
def msA (f : Nat → Int32) (a : Nat) : Int32 := smF f (16 * a) (nI (64 * (a / 8) + a % 8)) 16
/-- whether the sector s of the track t is wrong -/
def iwM (bs sm se : Nat → Int32) (t s : Nat) : Bool := decide (¬ sm (8 * mlF se t + s) = msA bs (8 * mlF se t + s))
def gW (f : Nat → Nat → Bool) (S i : Nat) : Bool := decide (i % 8 < S) && f (i / 8) (i % 8)
theorem gW_1 {f : Nat → Nat → Bool} {S i : Nat} (h : ¬ i % 8 < S) : gW f S i = false := by simp [gW, h]
theorem gW_2 {f : Nat → Nat → Bool} {S i : Nat} (h : f (i / 8) (i % 8) = false) : gW f S i = false := by simp [gW, h]
theorem gW_3 {f : Nat → Nat → Bool} {S i : Nat} (h : i % 8 < S) (h2 : f (i / 8) (i % 8) = true) : gW f S i = true := by simp [gW, h, h2]
/-- the last one found on the way down from N -/
def fsF (g : Nat → Bool) (N : Nat) : Nat → Int32
  | 0 => -1
  | k + 1 => if g (N - k - 1) = true then nI (N - k - 1) else fsF g N k
theorem fsF_t {g : Nat → Bool} {N k : Nat} (h : g (N - k - 1) = true) : fsF g N (k + 1) = nI (N - k - 1) := by simp [fsF, h]
theorem fsF_f {g : Nat → Bool} {N k : Nat} (h : g (N - k - 1) = false) : fsF g N (k + 1) = fsF g N k := by simp [fsF, h]
theorem nI_dec (a : Nat) : nI a + (-1) = nI a - nI 1 := by rw [Int32.sub_eq_add_neg]; rfl
theorem nz_0 {f : Nat → Int32} {a n : Nat} (h : f (a + n) = 0) : bI (nzF f a n) = bI (nzF f a (n + 1)) := by simp [nzF, h]
theorem nz_1 {f : Nat → Int32} {a n : Nat} (h : ¬ f (a + n) = 0) : nI 1 = bI (nzF f a (n + 1)) := bI_t (by simp [nzF, h])
/-- the waiting writes, done one behind another: bytes, sums, space -/
abbrev MW : Type := (Nat → Int32) × (Nat → Int32) × (Nat → Int32)
def mw1 (se : Nat → Int32) (t s : Nat) (x : Int32) (q : MW) : MW := (flF q.1 (16 * (8 * mlF se t + s)) x 16, upd q.2.1 (8 * mlF se t + s) (msA (flF q.1 (16 * (8 * mlF se t + s)) x 16) (8 * mlF se t + s)), upd (upd q.2.2 t (nI 1)) (12 + t) (nI 1))
def mwF (se wt wx wb : Nat → Int32) (q : MW) : Nat → MW
  | 0 => q
  | n + 1 => mw1 se (cl (wt n)) (cl (wx n)) (wb n) (mwF se wt wx wb q n)
theorem hd_lo {x lo hi : Int32} (h : x < lo) (h2 : lo ≤ hi) : hdF x lo hi = lo := by
  have h3 : x < hi := Int32.lt_of_lt_of_le h h2
  simp only [hdF, if_pos h3]
  rw [if_neg (fun q => Int32.lt_irrefl (Int32.lt_trans q h))]
theorem hd_hi {x lo hi : Int32} (h : hi < x) (h2 : lo ≤ hi) : hdF x lo hi = hi := by
  have h3 : ¬ x < hi := fun q => Int32.lt_irrefl (Int32.lt_trans q h)
  simp only [hdF, if_neg h3]
  by_cases q : lo < hi
  · rw [if_pos q]
  · rw [if_neg q]; exact Int32.le_antisymm h2 (Int32.not_lt.mp q)
theorem hd_in {x lo hi : Int32} (h : lo ≤ x) (h2 : x ≤ hi) : hdF x lo hi = x := by
  have h4 : (if x < hi then x else hi) = x := by
    by_cases q : x < hi
    · rw [if_pos q]
    · rw [if_neg q]; exact Int32.le_antisymm (Int32.not_lt.mp q) h2
  simp only [hdF, h4]
  by_cases q : lo < x
  · rw [if_pos q]
  · rw [if_neg q]; exact Int32.le_antisymm h (Int32.not_lt.mp q)
/-- mending, both rows in one -/
def mmR (u : Nat → Bool) (sp : Nat → Int32) (n : Nat) : Nat → Int32 := fun j => if j < 12 then (if j < n ∧ ¬ sp j = sp (12 + j) then bI (u j) else sp j) else (if j - 12 < n ∧ ¬ sp (j - 12) = sp j then bI (u (j - 12)) else sp j)
theorem mmR_0 {u : Nat → Bool} {sp : Nat → Int32} : mmR u sp 0 = sp := by funext j; simp [mmR]
theorem mmR_a {u : Nat → Bool} {sp : Nat → Int32} {n : Nat} (h : n < 12) : mmR u sp n n = sp n := by simp [mmR, h]
theorem mmR_b {u : Nat → Bool} {sp : Nat → Int32} {n : Nat} : mmR u sp n (12 + n) = sp (12 + n) := by simp [mmR, show ¬ 12 + n < 12 by omega]
theorem mmR_s {u : Nat → Bool} {sp : Nat → Int32} {n : Nat} (hn : n < 12) (h : sp n = sp (12 + n)) : mmR u sp n = mmR u sp (n + 1) := by
  funext j
  by_cases q : j = n
  · subst q; simp [mmR, h, hn]
  · by_cases q2 : j = 12 + n
    · subst q2; simp [mmR, h, show ¬ 12 + n < 12 by omega]
    · simp only [mmR, show (j < n + 1) = (j < n) from propext ⟨fun _ => by omega, fun _ => by omega⟩]
      by_cases q3 : j < 12
      · simp only [if_pos q3]
      · simp only [if_neg q3, show (j - 12 < n + 1) = (j - 12 < n) from propext ⟨fun _ => by omega, fun _ => by omega⟩]
theorem mmR_u {u : Nat → Bool} {sp : Nat → Int32} {n : Nat} {v : Int32} (hn : n < 12) (h : ¬ sp n = sp (12 + n)) (hv : v = bI (u n)) : upd (upd (mmR u sp n) n v) (12 + n) v = mmR u sp (n + 1) := by
  funext j
  by_cases q2 : j = 12 + n
  · subst q2; rw [pk_us]; simp [mmR, h, hv, show ¬ 12 + n < 12 by omega]
  · rw [pk_un q2]
    by_cases q : j = n
    · subst q; rw [pk_us]; simp [mmR, h, hv, hn]
    · rw [pk_un q]
      by_cases q3 : j < 12
      · simp only [mmR, if_pos q3, show (j < n + 1) = (j < n) from propext ⟨fun _ => by omega, fun _ => by omega⟩]
      · simp only [mmR, if_neg q3, show (j - 12 < n + 1) = (j - 12 < n) from propext ⟨fun _ => by omega, fun _ => by omega⟩]
/-- the first free alternate, as it is looked for -/
def arF (se : Nat → Int32) (v : Int32) : Nat → Int32
  | 0 => v
  | n + 1 => if se n = arF se v n then arF se v n + nI 1 else arF se v n
theorem arF_t {se : Nat → Int32} {v : Int32} {n : Nat} (h : se n = arF se v n) : arF se v n + nI 1 = arF se v (n + 1) := by simp [arF, ← h]
theorem arF_f {se : Nat → Int32} {v : Int32} {n : Nat} (h : ¬ se n = arF se v n) : arF se v n = arF se v (n + 1) := by simp [arF, h]
def ar2 (se : Nat → Int32) (T : Nat) : Nat → Int32
  | 0 => nI T
  | r + 1 => arF se (ar2 se T r) T
/-- a copy within one row of bytes -/
def cpS (f : Nat → Int32) (b a : Nat) : Nat → Nat → Int32
  | 0 => f
  | n + 1 => upd (cpS f b a n) (b + n) (vp_nar .byte (cpS f b a n (a + n)))
def msF (bs sm : Nat → Int32) (p : Nat) : Nat → Nat → Int32
  | 0 => sm
  | n + 1 => upd (msF bs sm p n) (8 * p + n) (msA bs (8 * p + n))
/-- copies to a dump, and back -/
def dB (f g : Nat → Int32) (a : Nat) : Nat → Nat → Int32
  | 0 => g
  | n + 1 => upd (dB f g a n) (a + n) (vp_nar .byte (f n))
def dI (f g : Nat → Int32) (a : Nat) : Nat → Nat → Int32
  | 0 => g
  | n + 1 => upd (dI f g a n) (a + n) (f n)
def rB (f g : Nat → Int32) (a : Nat) : Nat → Nat → Int32
  | 0 => g
  | n + 1 => upd (rB f g a n) n (vp_nar .byte (f (a + n)))
def rI (f g : Nat → Int32) (a : Nat) : Nat → Nat → Int32
  | 0 => g
  | n + 1 => upd (rI f g a n) n (f (a + n))
def dmF (kp bs : Nat → Int32) (d a : Nat) : Nat → Bool
  | 0 => false
  | n + 1 => dmF kp bs d a n || decide (¬ kp (1792 * d + (16 * a + n)) = bs (16 * a + n))
theorem dm_1 {kp bs : Nat → Int32} {d a n : Nat} (h : dmF kp bs d a n = true) : nI 1 = bI (dmF kp bs d a (n + 1)) := bI_t (by simp [dmF, h])
theorem dm_2 {kp bs : Nat → Int32} {d a n : Nat} (h : ¬ kp (1792 * d + (16 * a + n)) = bs (16 * a + n)) : nI 1 = bI (dmF kp bs d a (n + 1)) := bI_t (by simp [dmF, h])
theorem dm_0 {kp bs : Nat → Int32} {d a n : Nat} (h : dmF kp bs d a n = false) (h2 : kp (1792 * d + (16 * a + n)) = bs (16 * a + n)) : nI 0 = bI (dmF kp bs d a (n + 1)) := bI_f (by simp [dmF, h, h2])
section WJ
variable {p : Program} {l : Launch} {e : Env} {R : Room} {s : State} {m : MethodId} {args : Array Value} {below : List Frame} {meth : Method} {c : Code} {H : Heap} {locs : List Loc} {cells slots : Nat} {Q : State → Prop}
theorem W.cut2 {g g2 : JFrame} (k : W p l e R s m args below meth c H locs cells slots Q g2) (h : W p l e R s m args below meth c H locs cells slots Q g2 → W p l e R s m args below meth c H locs cells slots Q g) : W p l e R s m args below meth c H locs cells slots Q g := h k
end WJ

set_option maxHeartbeats 4000000 in
set_option maxRecDepth 100000 in
/-- thrown -/
theorem m_thrown (l : Launch) (D : va_G) (κ : Nat → ClassId) (T S : Nat) (ad : Nat → Nat) (co : Int32) (bs kp sm ks se sp ke kq vo : Nat → Int32) (nd wn : Int32) (wt wx wb : Nat → Int32) (dn : Int32) (tp : Nat → Int32) (tn ts : Int32)  : Met l yX4_thrown wsX4_thrown ({ frames := 0, cells := 0, slots := 0, locals := 0 }) (va_Pc [.ref ((ad 0))] (pu_B D κ (moW κ T S ad co bs kp sm ks se sp ke kq vo nd wn wt wx wb dn tp tn ts))) (pu_Q (.int (co))) 0 0 pu_N := by
  refine Met.ofW (cc := cX4_thrown) (maxL := 1) (ret := (some .int)) (by decide) rfl ?_
  intro p e s m args below meth c s₁ B hml hv
  obtain ⟨rfl, hP, hK⟩ := hv
  have hx := B.exec
  have hb := B.bytes
  have hr := B.returns
  have hts := atoms_spec (ws := wsX4_thrown) B.pre
  have hown : s.vm.findClass RX4 = some m.cls := findClass_of_methodNamed B.named
  have hlocks := B.notSynchronized
  have hl := lv_entry ([.ref ((ad 0))]) (n := 1) (Nat.le_of_ble_eq_true rfl)
  rw [lg_entry_eq]
  generalize (lg_sl ([.ref ((ad 0))]) ++ List.replicate (1 - (lg_sl ([.ref ((ad 0))])).length) Slot.unset).toArray = ls at hl ⊢
  have hl : lv_has ls 1 [(0, .ref ((ad 0)))] := hl
  refine lv_aload_n hx hb dX4_thrown_0 rfl (lv_at hl 0 rfl) ?_
  refine va_get (D := D) (ci := 5) (v := .int co) (C := RX4) (T := TX4) (N := 21) hx hb hts (by decide +kernel) hown hK hP 0 rfl rfl 0 (by decide) (hts (.fieldLink RX4 61 "TrackDiskModel" "code" "I") (by decide +kernel)) (fun _ h9 => h9) rfl dX4_thrown_1 ?_
  exact pu_iret hx hb hr hlocks dX4_thrown_4

set_option maxHeartbeats 4000000 in
set_option maxRecDepth 100000 in
/-- isTrack -/
theorem m_isTrack (l : Launch) (D : va_G) (κ : Nat → ClassId) (T S : Nat) (ad : Nat → Nat) (co : Int32) (bs kp sm ks se sp ke kq vo : Nat → Int32) (nd wn : Int32) (wt wx wb : Nat → Int32) (dn : Int32) (tp : Nat → Int32) (tn ts : Int32) (x : Int32) : Met l yX4_isTrack wsX4_isTrack ({ frames := 0, cells := 0, slots := 0, locals := 0 }) (va_Pc [.ref ((ad 0)), .int x] (pu_B D κ (moW κ T S ad co bs kp sm ks se sp ke kq vo nd wn wt wx wb dn tp tn ts))) (pu_Q (.int (bI (inF x T)))) 0 0 pu_N := by
  refine Met.ofW (cc := cX4_isTrack) (maxL := 2) (ret := (some .boolean)) (by decide) rfl ?_
  intro p e s m args below meth c s₁ B hml hv
  obtain ⟨rfl, hP, hK⟩ := hv
  have hx := B.exec
  have hb := B.bytes
  have hr := B.returns
  have hts := atoms_spec (ws := wsX4_isTrack) B.pre
  have hown : s.vm.findClass RX4 = some m.cls := findClass_of_methodNamed B.named
  have hlocks := B.notSynchronized
  have hl := lv_entry ([.ref ((ad 0)), .int x]) (n := 2) (Nat.le_of_ble_eq_true rfl)
  rw [lg_entry_eq]
  generalize (lg_sl ([.ref ((ad 0)), .int x]) ++ List.replicate (2 - (lg_sl ([.ref ((ad 0)), .int x])).length) Slot.unset).toArray = ls at hl ⊢
  have hl : lv_has ls 2 [(0, .ref ((ad 0))), (1, .int x)] := hl
  refine lv_iload_n hx hb dX4_isTrack_0 rfl (lv_at hl 1 rfl) ?_
  refine lv_if_lt (tgt := 16) hx hb dX4_isTrack_1 (by decide) (fun c_1 => ?_) (fun c_1 => ?_)
  · skip
    refine lv_iconst (v := nI 0) hx hb dX4_isTrack_16 (by decide) ?_
    refine tp_i (y := bI (inF x T)) (by first | exact bI_f (inF_f1 c_1) | exact bI_f (inF_f2 c_9) | exact bI_t (inF_t c_1 c_9)) ?_
    exact pu_zret hx hb hr (by cases inF x T <;> rfl) hlocks dX4_isTrack_17
  · skip
    refine lv_iload_n hx hb dX4_isTrack_4 rfl (lv_at hl 1 rfl) ?_
    refine lv_aload_n hx hb dX4_isTrack_5 rfl (lv_at hl 0 rfl) ?_
    refine va_get (D := D) (ci := 5) (v := .int (nI T)) (C := RX4) (T := TX4) (N := 21) hx hb hts (by decide +kernel) hown hK hP 0 rfl rfl 1 (by decide) (hts (.fieldLink RX4 50 "TrackDiskModel" "tracks" "I") (by decide +kernel)) (fun _ h9 => h9) rfl dX4_isTrack_6 ?_
    refine lv_icmp_ge (tgt := 16) hx hb dX4_isTrack_9 (by decide) (fun c_9 => ?_) (fun c_9 => ?_)
    · skip
      refine lv_iconst (v := nI 0) hx hb dX4_isTrack_16 (by decide) ?_
      refine tp_i (y := bI (inF x T)) (by first | exact bI_f (inF_f1 c_1) | exact bI_f (inF_f2 c_9) | exact bI_t (inF_t c_1 c_9)) ?_
      exact pu_zret hx hb hr (by cases inF x T <;> rfl) hlocks dX4_isTrack_17
    · skip
      refine lv_iconst (v := nI 1) hx hb dX4_isTrack_12 (by decide) ?_
      refine lv_goto (tgt := 17) hx hb dX4_isTrack_13 (by decide) ?_
      refine tp_i (y := bI (inF x T)) (by first | exact bI_f (inF_f1 c_1) | exact bI_f (inF_f2 c_9) | exact bI_t (inF_t c_1 c_9)) ?_
      exact pu_zret hx hb hr (by cases inF x T <;> rfl) hlocks dX4_isTrack_17

set_option maxHeartbeats 4000000 in
set_option maxRecDepth 100000 in
/-- isSector -/
theorem m_isSector (l : Launch) (D : va_G) (κ : Nat → ClassId) (T S : Nat) (ad : Nat → Nat) (co : Int32) (bs kp sm ks se sp ke kq vo : Nat → Int32) (nd wn : Int32) (wt wx wb : Nat → Int32) (dn : Int32) (tp : Nat → Int32) (tn ts : Int32) (x y : Int32) : Met l yX4_isSector wsX4_isSector ({ frames := 1, cells := 0, slots := 0, locals := 21 }) (va_Pc [.ref ((ad 0)), .int x, .int y] (pu_B D κ (moW κ T S ad co bs kp sm ks se sp ke kq vo nd wn wt wx wb dn tp tn ts))) (pu_Q (.int (bI (inF x T && inF y S)))) 0 0 pu_N := by
  refine Met.ofW (cc := cX4_isSector) (maxL := 3) (ret := (some .boolean)) (by decide) rfl ?_
  intro p e s m args below meth c s₁ B hml hv
  obtain ⟨rfl, hP, hK⟩ := hv
  have hx := B.exec
  have hb := B.bytes
  have hr := B.returns
  have hts := atoms_spec (ws := wsX4_isSector) B.pre
  have hown : s.vm.findClass RX4 = some m.cls := findClass_of_methodNamed B.named
  have hlocks := B.notSynchronized
  have hl := lv_entry ([.ref ((ad 0)), .int x, .int y]) (n := 3) (Nat.le_of_ble_eq_true rfl)
  rw [lg_entry_eq]
  generalize (lg_sl ([.ref ((ad 0)), .int x, .int y]) ++ List.replicate (3 - (lg_sl ([.ref ((ad 0)), .int x, .int y])).length) Slot.unset).toArray = ls at hl ⊢
  have hl : lv_has ls 3 [(0, .ref ((ad 0))), (1, .int x), (2, .int y)] := hl
  refine lv_aload_n hx hb dX4_isSector_0 rfl (lv_at hl 0 rfl) ?_
  refine lv_iload_n hx hb dX4_isSector_1 rfl (lv_at hl 1 rfl) ?_
  have hPc := hP.sub (ws' := moW κ T S ad co bs kp sm ks se sp ke kq vo nd wn wt wx wb dn tp tn ts) [0, 1, 2, 3, 4, 5, 6, 7, 8, 9, 10, 11, 12, 13] rfl
  refine pu_call (va_runV (As := [.int x]) (rest := []) ⟨hx, hb, hml, hown, hts⟩ (m_isTrack l D κ T S ad co bs kp sm ks se sp ke kq vo nd wn wt wx wb dn tp tn ts x) (cwV 1 hts gX4_isSector_X4_isTrack rfl rfl rfl (by decide +kernel) ⟨Nat.le_of_ble_eq_true rfl, Nat.le_of_ble_eq_true rfl⟩) ⟨pu_blind, va_recv hK hPc (ci := 5) (q0 := 0) rfl rfl, pu_pre hK hPc⟩ rfl rfl hl.1 rfl (lv_room (Nat.le_of_ble_eq_true rfl)) dX4_isSector_2 ⟨Nat.le_of_ble_eq_true rfl, Nat.le_of_ble_eq_true rfl⟩) ?_
  refine lv_if_eq (tgt := 24) hx hb dX4_isSector_5 (by decide) (fun c_5 => ?_) (fun c_5 => ?_)
  · skip
    refine lv_iconst (v := nI 0) hx hb dX4_isSector_24 (by decide) ?_
    refine tp_i (y := bI (inF x T && inF y S)) (by first | exact bI_f (by rw [bI_eq c_5]; rfl) | exact bI_f (by rw [inF_f1 c_9, Bool.and_false]) | exact bI_f (by rw [inF_f2 c_17, Bool.and_false]) | exact bI_t (by rw [bI_ne c_5, inF_t c_9 c_17]; rfl)) ?_
    exact pu_zret hx hb hr (by cases (inF x T && inF y S) <;> rfl) hlocks dX4_isSector_25
  · skip
    refine lv_iload_n hx hb dX4_isSector_8 rfl (lv_at hl 2 rfl) ?_
    refine lv_if_lt (tgt := 24) hx hb dX4_isSector_9 (by decide) (fun c_9 => ?_) (fun c_9 => ?_)
    · skip
      refine lv_iconst (v := nI 0) hx hb dX4_isSector_24 (by decide) ?_
      refine tp_i (y := bI (inF x T && inF y S)) (by first | exact bI_f (by rw [bI_eq c_5]; rfl) | exact bI_f (by rw [inF_f1 c_9, Bool.and_false]) | exact bI_f (by rw [inF_f2 c_17, Bool.and_false]) | exact bI_t (by rw [bI_ne c_5, inF_t c_9 c_17]; rfl)) ?_
      exact pu_zret hx hb hr (by cases (inF x T && inF y S) <;> rfl) hlocks dX4_isSector_25
    · skip
      refine lv_iload_n hx hb dX4_isSector_12 rfl (lv_at hl 2 rfl) ?_
      refine lv_aload_n hx hb dX4_isSector_13 rfl (lv_at hl 0 rfl) ?_
      refine va_get (D := D) (ci := 5) (v := .int (nI S)) (C := RX4) (T := TX4) (N := 21) hx hb hts (by decide +kernel) hown hK hP 0 rfl rfl 2 (by decide) (hts (.fieldLink RX4 54 "TrackDiskModel" "sectors" "I") (by decide +kernel)) (fun _ h9 => h9) rfl dX4_isSector_14 ?_
      refine lv_icmp_ge (tgt := 24) hx hb dX4_isSector_17 (by decide) (fun c_17 => ?_) (fun c_17 => ?_)
      · skip
        refine lv_iconst (v := nI 0) hx hb dX4_isSector_24 (by decide) ?_
        refine tp_i (y := bI (inF x T && inF y S)) (by first | exact bI_f (by rw [bI_eq c_5]; rfl) | exact bI_f (by rw [inF_f1 c_9, Bool.and_false]) | exact bI_f (by rw [inF_f2 c_17, Bool.and_false]) | exact bI_t (by rw [bI_ne c_5, inF_t c_9 c_17]; rfl)) ?_
        exact pu_zret hx hb hr (by cases (inF x T && inF y S) <;> rfl) hlocks dX4_isSector_25
      · skip
        refine lv_iconst (v := nI 1) hx hb dX4_isSector_20 (by decide) ?_
        refine lv_goto (tgt := 25) hx hb dX4_isSector_21 (by decide) ?_
        refine tp_i (y := bI (inF x T && inF y S)) (by first | exact bI_f (by rw [bI_eq c_5]; rfl) | exact bI_f (by rw [inF_f1 c_9, Bool.and_false]) | exact bI_f (by rw [inF_f2 c_17, Bool.and_false]) | exact bI_t (by rw [bI_ne c_5, inF_t c_9 c_17]; rfl)) ?_
        exact pu_zret hx hb hr (by cases (inF x T && inF y S) <;> rfl) hlocks dX4_isSector_25

set_option maxHeartbeats 4000000 in
set_option maxRecDepth 100000 in
/-- lies -/
theorem m_lies (l : Launch) (D : va_G) (κ : Nat → ClassId) (T S : Nat) (ad : Nat → Nat) (co : Int32) (bs kp sm ks se sp ke kq vo : Nat → Int32) (nd wn : Int32) (wt wx wb : Nat → Int32) (dn : Int32) (tp : Nat → Int32) (tn ts : Int32) (hT : T ≤ 12) (hse : ∀ t, t < T → se t = -1 ∨ vp_in (se t) 14) (t b : Nat) (ht : t < T) : Met l yX4_lies wsX4_lies ({ frames := 0, cells := 0, slots := 0, locals := 0 }) (va_Pc [.ref ((ad 0)), .int (nI t), .int (nI b)] (pu_B D κ (moW κ T S ad co bs kp sm ks se sp ke kq vo nd wn wt wx wb dn tp tn ts))) (pu_Q (.int (nI (8 * mlF se t + b)))) 0 0 pu_N := by
  refine Met.ofW (cc := cX4_lies) (maxL := 3) (ret := (some .int)) (by decide) rfl ?_
  intro p e s m args below meth c s₁ B hml hv
  obtain ⟨rfl, hP, hK⟩ := hv
  have hx := B.exec
  have hb := B.bytes
  have hr := B.returns
  have hts := atoms_spec (ws := wsX4_lies) B.pre
  have hown : s.vm.findClass RX4 = some m.cls := findClass_of_methodNamed B.named
  have hlocks := B.notSynchronized
  have hl := lv_entry ([.ref ((ad 0)), .int (nI t), .int (nI b)]) (n := 3) (Nat.le_of_ble_eq_true rfl)
  rw [lg_entry_eq]
  generalize (lg_sl ([.ref ((ad 0)), .int (nI t), .int (nI b)]) ++ List.replicate (3 - (lg_sl ([.ref ((ad 0)), .int (nI t), .int (nI b)])).length) Slot.unset).toArray = ls at hl ⊢
  have hl : lv_has ls 3 [(0, .ref ((ad 0))), (1, .int (nI t)), (2, .int (nI b))] := hl
  refine lv_bipush (v := nI 8) hx hb dX4_lies_0 (by decide) ?_
  refine lv_aload_n hx hb dX4_lies_2 rfl (lv_at hl 0 rfl) ?_
  refine va_get (D := D) (ci := 5) (v := .ref ((ad 5))) (C := RX4) (T := TX4) (N := 21) hx hb hts (by decide +kernel) hown hK hP 0 rfl rfl 7 (by decide) (hts (.fieldLink RX4 23 "TrackDiskModel" "sent" "[I") (by decide +kernel)) (fun _ h9 => h9) rfl dX4_lies_3 ?_
  refine lv_iload_n hx hb dX4_lies_6 rfl (lv_at hl 1 rfl) ?_
  refine va_iald hx hb hK hP 5 0 rfl rfl (vp_in_nI (by omega) (by omega)) dX4_lies_7 ?_
  refine tp_i (y := se t) (by rw [nI_clamp (by omega)]) ?_
  refine lv_iconst (v := (-1)) hx hb dX4_lies_8 (by decide) ?_
  refine lv_icmp_ne (tgt := 16) hx hb dX4_lies_9 (by decide) (fun c_9 => ?_) (fun c_9 => ?_)
  · skip
    refine lv_aload_n hx hb dX4_lies_16 rfl (lv_at hl 0 rfl) ?_
    refine va_get (D := D) (ci := 5) (v := .ref ((ad 5))) (C := RX4) (T := TX4) (N := 21) hx hb hts (by decide +kernel) hown hK hP 0 rfl rfl 7 (by decide) (hts (.fieldLink RX4 23 "TrackDiskModel" "sent" "[I") (by decide +kernel)) (fun _ h9 => h9) rfl dX4_lies_17 ?_
    refine lv_iload_n hx hb dX4_lies_20 rfl (lv_at hl 1 rfl) ?_
    refine va_iald hx hb hK hP 5 0 rfl rfl (vp_in_nI (by omega) (by omega)) dX4_lies_21 ?_
    refine tp_i (y := nI (cl (se t))) (by rw [nI_clamp (by omega)]; exact (cl_nI ((hse t ht).resolve_left c_9) (by omega)).1) ?_
    refine lv_imul hx hb dX4_lies_22 ?_
    refine tp_i (y := nI (8 * (cl (se t)))) (by exact pk_mul _ _) ?_
    refine lv_iload_n hx hb dX4_lies_23 rfl (lv_at hl 2 rfl) ?_
    refine lv_iadd hx hb dX4_lies_24 ?_
    refine tp_i (y := nI ((8 * (cl (se t))) + b)) (by exact nI_add _ _) ?_
    refine tp_i (y := nI (8 * mlF se t + b)) (by first | rw [mlF_1 c_9] | rw [mlF_2 c_9]) ?_
    exact pu_iret hx hb hr hlocks dX4_lies_25
  · skip
    refine lv_iload_n hx hb dX4_lies_12 rfl (lv_at hl 1 rfl) ?_
    refine lv_goto (tgt := 22) hx hb dX4_lies_13 (by decide) ?_
    refine lv_imul hx hb dX4_lies_22 ?_
    refine tp_i (y := nI (8 * t)) (by exact pk_mul _ _) ?_
    refine lv_iload_n hx hb dX4_lies_23 rfl (lv_at hl 2 rfl) ?_
    refine lv_iadd hx hb dX4_lies_24 ?_
    refine tp_i (y := nI ((8 * t) + b)) (by exact nI_add _ _) ?_
    refine tp_i (y := nI (8 * mlF se t + b)) (by first | rw [mlF_1 c_9] | rw [mlF_2 c_9]) ?_
    exact pu_iret hx hb hr hlocks dX4_lies_25

set_option maxHeartbeats 4000000 in
set_option maxRecDepth 100000 in
/-- sumOf -/
theorem m_sumOf (l : Launch) (D : va_G) (κ : Nat → ClassId) (T S : Nat) (ad : Nat → Nat) (co : Int32) (bs kp sm ks se sp ke kq vo : Nat → Int32) (nd wn : Int32) (wt wx wb : Nat → Int32) (dn : Int32) (tp : Nat → Int32) (tn ts : Int32) (a : Nat) (ha : a < 112) : Met l yX4_sumOf wsX4_sumOf ({ frames := 0, cells := 0, slots := 0, locals := 0 }) (va_Pc [.ref ((ad 0)), .int (nI a)] (pu_B D κ (moW κ T S ad co bs kp sm ks se sp ke kq vo nd wn wt wx wb dn tp tn ts))) (pu_Q (.int (msA bs a))) 0 0 pu_N := by
  refine Met.ofW (cc := cX4_sumOf) (maxL := 5) (ret := (some .int)) (by decide) rfl ?_
  intro p e s m args below meth c s₁ B hml hv
  obtain ⟨rfl, hP, hK⟩ := hv
  have hx := B.exec
  have hb := B.bytes
  have hr := B.returns
  have hts := atoms_spec (ws := wsX4_sumOf) B.pre
  have hown : s.vm.findClass RX4 = some m.cls := findClass_of_methodNamed B.named
  have hlocks := B.notSynchronized
  have hl := lv_entry ([.ref ((ad 0)), .int (nI a)]) (n := 5) (Nat.le_of_ble_eq_true rfl)
  rw [lg_entry_eq]
  generalize (lg_sl ([.ref ((ad 0)), .int (nI a)]) ++ List.replicate (5 - (lg_sl ([.ref ((ad 0)), .int (nI a)])).length) Slot.unset).toArray = ls at hl ⊢
  have hl : lv_has ls 5 [(0, .ref ((ad 0))), (1, .int (nI a))] := hl
  refine lv_bipush (v := nI 64) hx hb dX4_sumOf_0 (by decide) ?_
  refine lv_iload_n hx hb dX4_sumOf_2 rfl (lv_at hl 1 rfl) ?_
  refine lv_bipush (v := nI 8) hx hb dX4_sumOf_3 (by decide) ?_
  refine lv_idiv hx hb dX4_sumOf_5 (by decide) ?_
  refine tp_i (y := nI (a / 8)) (by exact pk_div (by omega) (by omega) (by omega)) ?_
  refine lv_imul hx hb dX4_sumOf_6 ?_
  refine tp_i (y := nI (64 * (a / 8))) (by exact pk_mul _ _) ?_
  refine lv_iload_n hx hb dX4_sumOf_7 rfl (lv_at hl 1 rfl) ?_
  refine lv_bipush (v := nI 8) hx hb dX4_sumOf_8 (by decide) ?_
  refine lv_irem hx hb dX4_sumOf_10 (by decide) ?_
  refine tp_i (y := nI (a % 8)) (by exact pk_rem (by omega) (by omega) (by omega)) ?_
  refine lv_iadd hx hb dX4_sumOf_11 ?_
  refine tp_i (y := nI ((64 * (a / 8)) + (a % 8))) (by exact nI_add _ _) ?_
  refine lv_istore_n (lv' := [(2, .int (nI ((64 * (a / 8)) + (a % 8)))), (0, .ref ((ad 0))), (1, .int (nI a))]) hx hb dX4_sumOf_12 rfl hl (by decide) rfl (fun ls hl => ?_)
  refine lv_iconst (v := nI 0) hx hb dX4_sumOf_13 (by decide) ?_
  refine lv_istore_n (lv' := [(3, .int (nI 0)), (2, .int (nI ((64 * (a / 8)) + (a % 8)))), (0, .ref ((ad 0))), (1, .int (nI a))]) hx hb dX4_sumOf_14 rfl hl (by decide) rfl (fun ls hl => ?_)
  refine W.loopP (N := 16) (I := fun k ls => lv_has ls 5 [(3, .int (nI k)), (2, .int (smF bs (16 * a) (nI (64 * (a / 8) + a % 8)) k)), (0, .ref ((ad 0))), (1, .int (nI a))]) 0 (by omega) (fun k ls hk hl ihk => ?_) (fun ls hl => ?_) (lv_sub hl [0, 1, 2, 3] rfl)
  · skip
    refine lv_iload_n hx hb dX4_sumOf_15 rfl (lv_at hl 0 rfl) ?_
    refine lv_bipush (v := nI 16) hx hb dX4_sumOf_16 (by decide) ?_
    refine lv_icmp_ge (tgt := 60) hx hb dX4_sumOf_18 (by decide) (fun c_18 => ?_) (fun c_18 => ?_)
    · exact absurd c_18 (nI_ge hk (by omega))
    · skip
      refine lv_iload_n hx hb dX4_sumOf_21 rfl (lv_at hl 1 rfl) ?_
      refine lv_aload_n hx hb dX4_sumOf_22 rfl (lv_at hl 2 rfl) ?_
      refine va_get (D := D) (ci := 5) (v := .ref ((ad 1))) (C := RX4) (T := TX4) (N := 21) hx hb hts (by decide +kernel) hown hK hP 0 rfl rfl 3 (by decide) (hts (.fieldLink RX4 7 "TrackDiskModel" "bytes" "[B") (by decide +kernel)) (fun _ h9 => h9) rfl dX4_sumOf_23 ?_
      refine lv_bipush (v := nI 16) hx hb dX4_sumOf_26 (by decide) ?_
      refine lv_iload_n hx hb dX4_sumOf_28 rfl (lv_at hl 3 rfl) ?_
      refine lv_imul hx hb dX4_sumOf_29 ?_
      refine tp_i (y := nI (16 * a)) (by exact pk_mul _ _) ?_
      refine lv_iload_n hx hb dX4_sumOf_30 rfl (lv_at hl 0 rfl) ?_
      refine lv_iadd hx hb dX4_sumOf_31 ?_
      refine tp_i (y := nI ((16 * a) + k)) (by exact nI_add _ _) ?_
      refine va_bald hx hb hK hP 1 1 rfl rfl (vp_in_nI (by omega) (by omega)) dX4_sumOf_32 ?_
      refine tp_i (y := bs ((16 * a) + k)) (by rw [nI_clamp (by omega)]) ?_
      refine lv_sipush (v := nI 255) hx hb dX4_sumOf_33 (by decide) ?_
      refine lv_iand hx hb dX4_sumOf_36 ?_
      refine lv_ixor hx hb dX4_sumOf_37 ?_
      refine lv_istore (lv' := [(4, .int (((smF bs (16 * a) (nI (64 * (a / 8) + a % 8)) k) ^^^ ((bs ((16 * a) + k)) &&& (nI 255))))), (3, .int (nI k)), (2, .int (smF bs (16 * a) (nI (64 * (a / 8) + a % 8)) k)), (0, .ref ((ad 0))), (1, .int (nI a))]) hx hb dX4_sumOf_38 hl (by decide) rfl (fun ls hl => ?_)
      refine lv_iload hx hb dX4_sumOf_40 (lv_at hl 0 rfl) ?_
      refine lv_iconst (v := nI 3) hx hb dX4_sumOf_42 (by decide) ?_
      refine lv_ishl hx hb dX4_sumOf_43 ?_
      refine lv_iload hx hb dX4_sumOf_44 (lv_at hl 0 rfl) ?_
      refine lv_bipush (v := nI 29) hx hb dX4_sumOf_46 (by decide) ?_
      refine lv_iushr hx hb dX4_sumOf_48 rfl ?_
      refine lv_ior hx hb dX4_sumOf_49 ?_
      refine lv_ldc hx hb hown (hts (.constant RX4 68 (-1640531535)) (by decide +kernel)) dX4_sumOf_50 ?_
      refine lv_imul hx hb dX4_sumOf_52 ?_
      refine tp_i (y := smF bs (16 * a) (nI (64 * (a / 8) + a % 8)) (k + 1)) (by rfl) ?_
      refine lv_istore_n (lv' := [(2, .int (smF bs (16 * a) (nI (64 * (a / 8) + a % 8)) (k + 1))), (4, .int (((smF bs (16 * a) (nI (64 * (a / 8) + a % 8)) k) ^^^ ((bs ((16 * a) + k)) &&& (nI 255))))), (3, .int (nI k)), (0, .ref ((ad 0))), (1, .int (nI a))]) hx hb dX4_sumOf_53 rfl hl (by decide) rfl (fun ls hl => ?_)
      refine lv_iinc (v := nI (k + 1)) (lv' := [(3, .int (nI (k + 1))), (2, .int (smF bs (16 * a) (nI (64 * (a / 8) + a % 8)) (k + 1))), (4, .int (((smF bs (16 * a) (nI (64 * (a / 8) + a % 8)) k) ^^^ ((bs ((16 * a) + k)) &&& (nI 255))))), (0, .ref ((ad 0))), (1, .int (nI a))]) hx hb dX4_sumOf_54 hl (k := 2) rfl (by exact nI_1 _) (by decide) rfl (fun ls hl => ?_)
      refine lv_goto (tgt := 15) hx hb dX4_sumOf_57 (by decide) ?_
      exact ihk ls (lv_sub hl [0, 1, 3, 4] rfl)
  · skip
    refine lv_iload_n hx hb dX4_sumOf_15 rfl (lv_at hl 0 rfl) ?_
    refine lv_bipush (v := nI 16) hx hb dX4_sumOf_16 (by decide) ?_
    refine lv_icmp_ge (tgt := 60) hx hb dX4_sumOf_18 (by decide) (fun c_18 => ?_) (fun c_18 => ?_)
    · skip
      refine lv_iload_n hx hb dX4_sumOf_60 rfl (lv_at hl 1 rfl) ?_
      refine tp_i (y := msA bs a) (by first | rfl | (simp only []; done)) ?_
      exact pu_iret hx hb hr hlocks dX4_sumOf_61
    · exact absurd (nI_le (Nat.le_refl _) (by omega)) c_18

set_option maxHeartbeats 4000000 in
set_option maxRecDepth 100000 in
/-- isWrong -/
theorem m_isWrong (l : Launch) (D : va_G) (κ : Nat → ClassId) (T S : Nat) (ad : Nat → Nat) (co : Int32) (bs kp sm ks se sp ke kq vo : Nat → Int32) (nd wn : Int32) (wt wx wb : Nat → Int32) (dn : Int32) (tp : Nat → Int32) (tn ts : Int32) (hT : T ≤ 12) (hS8 : S ≤ 8) (hse : ∀ t, t < T → se t = -1 ∨ vp_in (se t) 14) (t b : Nat) (ht : t < T) (hb0 : b < S) : Met l yX4_isWrong wsX4_isWrong ({ frames := 1, cells := 0, slots := 0, locals := 24 }) (va_Pc [.ref ((ad 0)), .int (nI t), .int (nI b)] (pu_B D κ (moW κ T S ad co bs kp sm ks se sp ke kq vo nd wn wt wx wb dn tp tn ts))) (pu_Q (.int (bI (iwM bs sm se t b)))) 0 0 pu_N := by
  refine Met.ofW (cc := cX4_isWrong) (maxL := 4) (ret := (some .boolean)) (by decide) rfl ?_
  intro p e s m args below meth c s₁ B hml hv
  obtain ⟨rfl, hP, hK⟩ := hv
  have hx := B.exec
  have hb := B.bytes
  have hr := B.returns
  have hts := atoms_spec (ws := wsX4_isWrong) B.pre
  have hown : s.vm.findClass RX4 = some m.cls := findClass_of_methodNamed B.named
  have hlocks := B.notSynchronized
  have hl := lv_entry ([.ref ((ad 0)), .int (nI t), .int (nI b)]) (n := 4) (Nat.le_of_ble_eq_true rfl)
  rw [lg_entry_eq]
  generalize (lg_sl ([.ref ((ad 0)), .int (nI t), .int (nI b)]) ++ List.replicate (4 - (lg_sl ([.ref ((ad 0)), .int (nI t), .int (nI b)])).length) Slot.unset).toArray = ls at hl ⊢
  have hl : lv_has ls 4 [(0, .ref ((ad 0))), (1, .int (nI t)), (2, .int (nI b))] := hl
  have hml0 := mlF_lt hT hse ht
  refine lv_aload_n hx hb dX4_isWrong_0 rfl (lv_at hl 0 rfl) ?_
  refine lv_iload_n hx hb dX4_isWrong_1 rfl (lv_at hl 1 rfl) ?_
  refine lv_iload_n hx hb dX4_isWrong_2 rfl (lv_at hl 2 rfl) ?_
  have hPc := hP.sub (ws' := moW κ T S ad co bs kp sm ks se sp ke kq vo nd wn wt wx wb dn tp tn ts) [0, 1, 2, 3, 4, 5, 6, 7, 8, 9, 10, 11, 12, 13] rfl
  refine pu_call (va_runV (As := [.int (nI t), .int (nI b)]) (rest := []) ⟨hx, hb, hml, hown, hts⟩ (m_lies l D κ T S ad co bs kp sm ks se sp ke kq vo nd wn wt wx wb dn tp tn ts hT hse t b ht) (cwV 2 hts gX4_isWrong_X4_lies rfl rfl rfl (by decide +kernel) ⟨Nat.le_of_ble_eq_true rfl, Nat.le_of_ble_eq_true rfl⟩) ⟨pu_blind, va_recv hK hPc (ci := 5) (q0 := 0) rfl rfl, pu_pre hK hPc⟩ rfl rfl hl.1 rfl (lv_room (Nat.le_of_ble_eq_true rfl)) dX4_isWrong_3 ⟨Nat.le_of_ble_eq_true rfl, Nat.le_of_ble_eq_true rfl⟩) ?_
  refine lv_istore_n (lv' := [(3, .int (nI (8 * mlF se t + b))), (0, .ref ((ad 0))), (1, .int (nI t)), (2, .int (nI b))]) hx hb dX4_isWrong_6 rfl hl (by decide) rfl (fun ls hl => ?_)
  refine lv_aload_n hx hb dX4_isWrong_7 rfl (lv_at hl 1 rfl) ?_
  refine va_get (D := D) (ci := 5) (v := .ref ((ad 3))) (C := RX4) (T := TX4) (N := 21) hx hb hts (by decide +kernel) hown hK hP 0 rfl rfl 5 (by decide) (hts (.fieldLink RX4 16 "TrackDiskModel" "sums" "[I") (by decide +kernel)) (fun _ h9 => h9) rfl dX4_isWrong_8 ?_
  refine lv_iload_n hx hb dX4_isWrong_11 rfl (lv_at hl 0 rfl) ?_
  refine va_iald hx hb hK hP 3 0 rfl rfl (vp_in_nI (by omega) (by omega)) dX4_isWrong_12 ?_
  refine tp_i (y := sm (8 * mlF se t + b)) (by rw [nI_clamp (by omega)]) ?_
  refine lv_aload_n hx hb dX4_isWrong_13 rfl (lv_at hl 1 rfl) ?_
  refine lv_iload_n hx hb dX4_isWrong_14 rfl (lv_at hl 0 rfl) ?_
  have hPc := hP.sub (ws' := moW κ T S ad co bs kp sm ks se sp ke kq vo nd wn wt wx wb dn tp tn ts) [0, 1, 2, 3, 4, 5, 6, 7, 8, 9, 10, 11, 12, 13] rfl
  refine pu_call (va_runV (As := [.int (nI (8 * mlF se t + b))]) (rest := [.int (sm (8 * mlF se t + b))]) ⟨hx, hb, hml, hown, hts⟩ (m_sumOf l D κ T S ad co bs kp sm ks se sp ke kq vo nd wn wt wx wb dn tp tn ts (8 * mlF se t + b) (by omega)) (cwV 1 hts gX4_isWrong_X4_sumOf rfl rfl rfl (by decide +kernel) ⟨Nat.le_of_ble_eq_true rfl, Nat.le_of_ble_eq_true rfl⟩) ⟨pu_blind, va_recv hK hPc (ci := 5) (q0 := 0) rfl rfl, pu_pre hK hPc⟩ rfl rfl hl.1 rfl (lv_room (Nat.le_of_ble_eq_true rfl)) dX4_isWrong_15 ⟨Nat.le_of_ble_eq_true rfl, Nat.le_of_ble_eq_true rfl⟩) ?_
  refine lv_icmp_eq (tgt := 25) hx hb dX4_isWrong_18 (by decide) (fun c_18 => ?_) (fun c_18 => ?_)
  · skip
    refine lv_iconst (v := nI 0) hx hb dX4_isWrong_25 (by decide) ?_
    refine tp_i (y := bI (iwM bs sm se t b)) (bI_f (by simp only [iwM, decide_eq_false_iff_not, Decidable.not_not]; exact c_18)) ?_
    exact pu_zret hx hb hr (by cases iwM bs sm se t b <;> rfl) hlocks dX4_isWrong_26
  · skip
    refine lv_iconst (v := nI 1) hx hb dX4_isWrong_21 (by decide) ?_
    refine lv_goto (tgt := 26) hx hb dX4_isWrong_22 (by decide) ?_
    refine tp_i (y := bI (iwM bs sm se t b)) (bI_t (by simp only [iwM, decide_eq_true_eq]; exact c_18)) ?_
    exact pu_zret hx hb hr (by cases iwM bs sm se t b <;> rfl) hlocks dX4_isWrong_26

set_option maxHeartbeats 4000000 in
set_option maxRecDepth 100000 in
/-- isUsed -/
theorem m_isUsed (l : Launch) (D : va_G) (κ : Nat → ClassId) (T S : Nat) (ad : Nat → Nat) (co : Int32) (bs kp sm ks se sp ke kq vo : Nat → Int32) (nd wn : Int32) (wt wx wb : Nat → Int32) (dn : Int32) (tp : Nat → Int32) (tn ts : Int32) (hT : T ≤ 12) (hS8 : S ≤ 8) (hse : ∀ t, t < T → se t = -1 ∨ vp_in (se t) 14) (t : Nat) (ht : t < T) : Met l yX4_isUsed wsX4_isUsed ({ frames := 1, cells := 0, slots := 0, locals := 22 }) (va_Pc [.ref ((ad 0)), .int (nI t)] (pu_B D κ (moW κ T S ad co bs kp sm ks se sp ke kq vo nd wn wt wx wb dn tp tn ts))) (pu_Q (.int (bI (nzF bs (16 * (8 * mlF se t + 0)) (16 * S))))) 0 0 pu_N := by
  refine Met.ofW (cc := cX4_isUsed) (maxL := 4) (ret := (some .int)) (by decide) rfl ?_
  intro p e s m args below meth c s₁ B hml hv
  obtain ⟨rfl, hP, hK⟩ := hv
  have hx := B.exec
  have hb := B.bytes
  have hr := B.returns
  have hts := atoms_spec (ws := wsX4_isUsed) B.pre
  have hown : s.vm.findClass RX4 = some m.cls := findClass_of_methodNamed B.named
  have hlocks := B.notSynchronized
  have hl := lv_entry ([.ref ((ad 0)), .int (nI t)]) (n := 4) (Nat.le_of_ble_eq_true rfl)
  rw [lg_entry_eq]
  generalize (lg_sl ([.ref ((ad 0)), .int (nI t)]) ++ List.replicate (4 - (lg_sl ([.ref ((ad 0)), .int (nI t)])).length) Slot.unset).toArray = ls at hl ⊢
  have hl : lv_has ls 4 [(0, .ref ((ad 0))), (1, .int (nI t))] := hl
  have hml0 := mlF_lt hT hse ht
  refine lv_iconst (v := nI 0) hx hb dX4_isUsed_0 (by decide) ?_
  refine lv_istore_n (lv' := [(2, .int (nI 0)), (0, .ref ((ad 0))), (1, .int (nI t))]) hx hb dX4_isUsed_1 rfl hl (by decide) rfl (fun ls hl => ?_)
  refine lv_iconst (v := nI 0) hx hb dX4_isUsed_2 (by decide) ?_
  refine lv_istore_n (lv' := [(3, .int (nI 0)), (2, .int (nI 0)), (0, .ref ((ad 0))), (1, .int (nI t))]) hx hb dX4_isUsed_3 rfl hl (by decide) rfl (fun ls hl => ?_)
  refine W.loopP (N := 16 * S) (I := fun k ls => lv_has ls 4 [(3, .int (nI k)), (2, .int (bI (nzF bs (16 * (8 * mlF se t + 0)) k))), (0, .ref ((ad 0))), (1, .int (nI t))]) 0 (by omega) (fun k ls hk hl ihk => ?_) (fun ls hl => ?_) (lv_sub hl [0, 1, 2, 3] rfl)
  · skip
    refine lv_iload_n hx hb dX4_isUsed_4 rfl (lv_at hl 0 rfl) ?_
    refine lv_bipush (v := nI 16) hx hb dX4_isUsed_5 (by decide) ?_
    refine lv_aload_n hx hb dX4_isUsed_7 rfl (lv_at hl 2 rfl) ?_
    refine va_get (D := D) (ci := 5) (v := .int (nI S)) (C := RX4) (T := TX4) (N := 21) hx hb hts (by decide +kernel) hown hK hP 0 rfl rfl 2 (by decide) (hts (.fieldLink RX4 54 "TrackDiskModel" "sectors" "I") (by decide +kernel)) (fun _ h9 => h9) rfl dX4_isUsed_8 ?_
    refine lv_imul hx hb dX4_isUsed_11 ?_
    refine tp_i (y := nI (16 * S)) (by exact pk_mul _ _) ?_
    refine lv_icmp_ge (tgt := 46) hx hb dX4_isUsed_12 (by decide) (fun c_12 => ?_) (fun c_12 => ?_)
    · exact absurd c_12 (nI_ge hk (by omega))
    · skip
      refine lv_aload_n hx hb dX4_isUsed_15 rfl (lv_at hl 2 rfl) ?_
      refine va_get (D := D) (ci := 5) (v := .ref ((ad 1))) (C := RX4) (T := TX4) (N := 21) hx hb hts (by decide +kernel) hown hK hP 0 rfl rfl 3 (by decide) (hts (.fieldLink RX4 7 "TrackDiskModel" "bytes" "[B") (by decide +kernel)) (fun _ h9 => h9) rfl dX4_isUsed_16 ?_
      refine lv_bipush (v := nI 16) hx hb dX4_isUsed_19 (by decide) ?_
      refine lv_aload_n hx hb dX4_isUsed_21 rfl (lv_at hl 2 rfl) ?_
      refine lv_iload_n hx hb dX4_isUsed_22 rfl (lv_at hl 3 rfl) ?_
      refine lv_iconst (v := nI 0) hx hb dX4_isUsed_23 (by decide) ?_
      have hPc := hP.sub (ws' := moW κ T S ad co bs kp sm ks se sp ke kq vo nd wn wt wx wb dn tp tn ts) [0, 1, 2, 3, 4, 5, 6, 7, 8, 9, 10, 11, 12, 13] rfl
      refine pu_call (va_runV (As := [.int (nI t), .int (nI 0)]) (rest := [.int (nI 16), .ref ((ad 1))]) ⟨hx, hb, hml, hown, hts⟩ (m_lies l D κ T S ad co bs kp sm ks se sp ke kq vo nd wn wt wx wb dn tp tn ts hT hse t 0 ht) (cwV 2 hts gX4_isUsed_X4_lies rfl rfl rfl (by decide +kernel) ⟨Nat.le_of_ble_eq_true rfl, Nat.le_of_ble_eq_true rfl⟩) ⟨pu_blind, va_recv hK hPc (ci := 5) (q0 := 0) rfl rfl, pu_pre hK hPc⟩ rfl rfl hl.1 rfl (lv_room (Nat.le_of_ble_eq_true rfl)) dX4_isUsed_24 ⟨Nat.le_of_ble_eq_true rfl, Nat.le_of_ble_eq_true rfl⟩) ?_
      refine lv_imul hx hb dX4_isUsed_27 ?_
      refine tp_i (y := nI (16 * (8 * mlF se t + 0))) (by exact pk_mul _ _) ?_
      refine lv_iload_n hx hb dX4_isUsed_28 rfl (lv_at hl 0 rfl) ?_
      refine lv_iadd hx hb dX4_isUsed_29 ?_
      refine tp_i (y := nI ((16 * (8 * mlF se t + 0)) + k)) (by exact nI_add _ _) ?_
      refine va_bald hx hb hK hP 1 1 rfl rfl (vp_in_nI (by omega) (by omega)) dX4_isUsed_30 ?_
      refine tp_i (y := bs ((16 * (8 * mlF se t + 0)) + k)) (by rw [nI_clamp (by omega)]) ?_
      refine lv_if_eq (tgt := 38) hx hb dX4_isUsed_31 (by decide) (fun c_31 => ?_) (fun c_31 => ?_)
      · skip
        refine lv_iload_n hx hb dX4_isUsed_38 rfl (lv_at hl 1 rfl) ?_
        refine tp_i (y := bI (nzF bs (16 * (8 * mlF se t + 0)) (k + 1))) (by first | exact nz_0 c_31 | exact nz_1 c_31) ?_
        refine lv_istore_n (lv' := [(2, .int (bI (nzF bs (16 * (8 * mlF se t + 0)) (k + 1)))), (3, .int (nI k)), (0, .ref ((ad 0))), (1, .int (nI t))]) hx hb dX4_isUsed_39 rfl hl (by decide) rfl (fun ls hl => ?_)
        refine lv_iinc (v := nI (k + 1)) (lv' := [(3, .int (nI (k + 1))), (2, .int (bI (nzF bs (16 * (8 * mlF se t + 0)) (k + 1)))), (0, .ref ((ad 0))), (1, .int (nI t))]) hx hb dX4_isUsed_40 hl (k := 1) rfl (by exact nI_1 _) (by decide) rfl (fun ls hl => ?_)
        refine lv_goto (tgt := 4) hx hb dX4_isUsed_43 (by decide) ?_
        exact ihk ls (lv_sub hl [0, 1, 2, 3] rfl)
      · skip
        refine lv_iconst (v := nI 1) hx hb dX4_isUsed_34 (by decide) ?_
        refine lv_goto (tgt := 39) hx hb dX4_isUsed_35 (by decide) ?_
        refine tp_i (y := bI (nzF bs (16 * (8 * mlF se t + 0)) (k + 1))) (by first | exact nz_0 c_31 | exact nz_1 c_31) ?_
        refine lv_istore_n (lv' := [(2, .int (bI (nzF bs (16 * (8 * mlF se t + 0)) (k + 1)))), (3, .int (nI k)), (0, .ref ((ad 0))), (1, .int (nI t))]) hx hb dX4_isUsed_39 rfl hl (by decide) rfl (fun ls hl => ?_)
        refine lv_iinc (v := nI (k + 1)) (lv' := [(3, .int (nI (k + 1))), (2, .int (bI (nzF bs (16 * (8 * mlF se t + 0)) (k + 1)))), (0, .ref ((ad 0))), (1, .int (nI t))]) hx hb dX4_isUsed_40 hl (k := 1) rfl (by exact nI_1 _) (by decide) rfl (fun ls hl => ?_)
        refine lv_goto (tgt := 4) hx hb dX4_isUsed_43 (by decide) ?_
        exact ihk ls (lv_sub hl [0, 1, 2, 3] rfl)
  · skip
    refine lv_iload_n hx hb dX4_isUsed_4 rfl (lv_at hl 0 rfl) ?_
    refine lv_bipush (v := nI 16) hx hb dX4_isUsed_5 (by decide) ?_
    refine lv_aload_n hx hb dX4_isUsed_7 rfl (lv_at hl 2 rfl) ?_
    refine va_get (D := D) (ci := 5) (v := .int (nI S)) (C := RX4) (T := TX4) (N := 21) hx hb hts (by decide +kernel) hown hK hP 0 rfl rfl 2 (by decide) (hts (.fieldLink RX4 54 "TrackDiskModel" "sectors" "I") (by decide +kernel)) (fun _ h9 => h9) rfl dX4_isUsed_8 ?_
    refine lv_imul hx hb dX4_isUsed_11 ?_
    refine tp_i (y := nI (16 * S)) (by exact pk_mul _ _) ?_
    refine lv_icmp_ge (tgt := 46) hx hb dX4_isUsed_12 (by decide) (fun c_12 => ?_) (fun c_12 => ?_)
    · skip
      refine lv_iload_n hx hb dX4_isUsed_46 rfl (lv_at hl 1 rfl) ?_
      exact pu_iret hx hb hr hlocks dX4_isUsed_47
    · exact absurd (nI_le (Nat.le_refl _) (by omega)) c_12

set_option maxHeartbeats 4000000 in
set_option maxRecDepth 100000 in
/-- differs -/
theorem m_differs (l : Launch) (D : va_G) (κ : Nat → ClassId) (T S : Nat) (ad : Nat → Nat) (co : Int32) (bs kp sm ks se sp ke kq vo : Nat → Int32) (nd wn : Int32) (wt wx wb : Nat → Int32) (dn : Int32) (tp : Nat → Int32) (tn ts : Int32) (d : Nat) (hd : d < 5) : Met l yX4_differs wsX4_differs ({ frames := 0, cells := 0, slots := 0, locals := 0 }) (va_Pc [.ref ((ad 0)), .int (nI d)] (pu_B D κ (moW κ T S ad co bs kp sm ks se sp ke kq vo nd wn wt wx wb dn tp tn ts))) (pu_Q (.int (nI (cnt (fun t => dmF kp bs d t 16) 112)))) 0 0 pu_N := by
  refine Met.ofW (cc := cX4_differs) (maxL := 6) (ret := (some .int)) (by decide) rfl ?_
  intro p e s m args below meth c s₁ B hml hv
  obtain ⟨rfl, hP, hK⟩ := hv
  have hx := B.exec
  have hb := B.bytes
  have hr := B.returns
  have hts := atoms_spec (ws := wsX4_differs) B.pre
  have hown : s.vm.findClass RX4 = some m.cls := findClass_of_methodNamed B.named
  have hlocks := B.notSynchronized
  have hl := lv_entry ([.ref ((ad 0)), .int (nI d)]) (n := 6) (Nat.le_of_ble_eq_true rfl)
  rw [lg_entry_eq]
  generalize (lg_sl ([.ref ((ad 0)), .int (nI d)]) ++ List.replicate (6 - (lg_sl ([.ref ((ad 0)), .int (nI d)])).length) Slot.unset).toArray = ls at hl ⊢
  have hl : lv_has ls 6 [(0, .ref ((ad 0))), (1, .int (nI d))] := hl
  refine lv_iconst (v := nI 0) hx hb dX4_differs_0 (by decide) ?_
  refine lv_istore_n (lv' := [(2, .int (nI 0)), (0, .ref ((ad 0))), (1, .int (nI d))]) hx hb dX4_differs_1 rfl hl (by decide) rfl (fun ls hl => ?_)
  refine lv_iconst (v := nI 0) hx hb dX4_differs_2 (by decide) ?_
  refine lv_istore_n (lv' := [(3, .int (nI 0)), (2, .int (nI 0)), (0, .ref ((ad 0))), (1, .int (nI d))]) hx hb dX4_differs_3 rfl hl (by decide) rfl (fun ls hl => ?_)
  refine W.loopP (N := 112) (I := fun t ls => lv_has ls 6 [(3, .int (nI t)), (2, .int (nI (cnt (fun t => dmF kp bs d t 16) t))), (0, .ref ((ad 0))), (1, .int (nI d))]) 0 (by omega) (fun t ls ht hl iht => ?_) (fun ls hl => ?_) (lv_sub hl [0, 1, 2, 3] rfl)
  · skip
    refine lv_iload_n hx hb dX4_differs_4 rfl (lv_at hl 0 rfl) ?_
    refine lv_bipush (v := nI 112) hx hb dX4_differs_5 (by decide) ?_
    refine lv_icmp_ge (tgt := 91) hx hb dX4_differs_7 (by decide) (fun c_7 => ?_) (fun c_7 => ?_)
    · exact absurd c_7 (nI_ge ht (by omega))
    · skip
      refine lv_iconst (v := nI 0) hx hb dX4_differs_10 (by decide) ?_
      refine lv_istore (lv' := [(4, .int (nI 0)), (3, .int (nI t)), (2, .int (nI (cnt (fun t => dmF kp bs d t 16) t))), (0, .ref ((ad 0))), (1, .int (nI d))]) hx hb dX4_differs_11 hl (by decide) rfl (fun ls hl => ?_)
      refine lv_bipush (v := nI 16) hx hb dX4_differs_13 (by decide) ?_
      refine lv_iload_n hx hb dX4_differs_15 rfl (lv_at hl 1 rfl) ?_
      refine lv_imul hx hb dX4_differs_16 ?_
      refine tp_i (y := nI (16 * t)) (by exact pk_mul _ _) ?_
      refine lv_istore (lv' := [(5, .int (nI (16 * t))), (4, .int (nI 0)), (3, .int (nI t)), (2, .int (nI (cnt (fun t => dmF kp bs d t 16) t))), (0, .ref ((ad 0))), (1, .int (nI d))]) hx hb dX4_differs_17 hl (by decide) rfl (fun ls hl => ?_)
      refine W.loopP (N := 16) (I := fun k ls => lv_has ls 6 [(5, .int (nI (16 * t + k))), (4, .int (bI (dmF kp bs d t k))), (3, .int (nI t)), (2, .int (nI (cnt (fun t => dmF kp bs d t 16) t))), (0, .ref ((ad 0))), (1, .int (nI d))]) 0 (by omega) (fun k ls hk hl ihk => ?_) (fun ls hl => ?_) (lv_sub hl [0, 1, 2, 3, 4, 5] rfl)
      · skip
        refine lv_iload hx hb dX4_differs_19 (lv_at hl 0 rfl) ?_
        refine lv_bipush (v := nI 16) hx hb dX4_differs_21 (by decide) ?_
        refine lv_iload_n hx hb dX4_differs_23 rfl (lv_at hl 2 rfl) ?_
        refine lv_imul hx hb dX4_differs_24 ?_
        refine tp_i (y := nI (16 * t)) (by exact pk_mul _ _) ?_
        refine lv_bipush (v := nI 16) hx hb dX4_differs_25 (by decide) ?_
        refine lv_iadd hx hb dX4_differs_27 ?_
        refine tp_i (y := nI ((16 * t) + 16)) (by exact nI_add _ _) ?_
        refine lv_icmp_ge (tgt := 72) hx hb dX4_differs_28 (by decide) (fun c_28 => ?_) (fun c_28 => ?_)
        · exact absurd c_28 (nI_ge (by omega) (by omega))
        · skip
          refine lv_iload hx hb dX4_differs_31 (lv_at hl 1 rfl) ?_
          refine lv_if_ne (tgt := 59) hx hb dX4_differs_33 (by decide) (fun c_33 => ?_) (fun c_33 => ?_)
          · skip
            refine lv_iconst (v := nI 1) hx hb dX4_differs_59 (by decide) ?_
            refine lv_goto (tgt := 64) hx hb dX4_differs_60 (by decide) ?_
            refine tp_i (y := bI (dmF kp bs d t (k + 1))) (by first | exact dm_1 (bI_ne c_33) | exact dm_2 c_56 | exact dm_0 (bI_eq c_33) c_56) ?_
            refine lv_istore (lv' := [(4, .int (bI (dmF kp bs d t (k + 1)))), (5, .int (nI (16 * t + k))), (3, .int (nI t)), (2, .int (nI (cnt (fun t => dmF kp bs d t 16) t))), (0, .ref ((ad 0))), (1, .int (nI d))]) hx hb dX4_differs_64 hl (by decide) rfl (fun ls hl => ?_)
            refine lv_iinc (v := nI (16 * t + k + 1)) (lv' := [(5, .int (nI (16 * t + k + 1))), (4, .int (bI (dmF kp bs d t (k + 1)))), (3, .int (nI t)), (2, .int (nI (cnt (fun t => dmF kp bs d t 16) t))), (0, .ref ((ad 0))), (1, .int (nI d))]) hx hb dX4_differs_66 hl (k := 1) rfl (by exact nI_1 _) (by decide) rfl (fun ls hl => ?_)
            refine lv_goto (tgt := 19) hx hb dX4_differs_69 (by decide) ?_
            exact ihk ls (lv_sub hl [0, 1, 2, 3, 4, 5] rfl)
          · skip
            refine lv_aload_n hx hb dX4_differs_36 rfl (lv_at hl 4 rfl) ?_
            refine va_get (D := D) (ci := 5) (v := .ref ((ad 2))) (C := RX4) (T := TX4) (N := 21) hx hb hts (by decide +kernel) hown hK hP 0 rfl rfl 4 (by decide) (hts (.fieldLink RX4 13 "TrackDiskModel" "kept" "[B") (by decide +kernel)) (fun _ h9 => h9) rfl dX4_differs_37 ?_
            refine lv_sipush (v := nI 1792) hx hb dX4_differs_40 (by decide) ?_
            refine lv_iload_n hx hb dX4_differs_43 rfl (lv_at hl 5 rfl) ?_
            refine lv_imul hx hb dX4_differs_44 ?_
            refine tp_i (y := nI (1792 * d)) (by exact pk_mul _ _) ?_
            refine lv_iload hx hb dX4_differs_45 (lv_at hl 0 rfl) ?_
            refine lv_iadd hx hb dX4_differs_47 ?_
            refine tp_i (y := nI ((1792 * d) + (16 * t + k))) (by exact nI_add _ _) ?_
            refine va_bald hx hb hK hP 2 1 rfl rfl (vp_in_nI (by omega) (by omega)) dX4_differs_48 ?_
            refine tp_i (y := kp ((1792 * d) + (16 * t + k))) (by rw [nI_clamp (by omega)]) ?_
            refine lv_aload_n hx hb dX4_differs_49 rfl (lv_at hl 4 rfl) ?_
            refine va_get (D := D) (ci := 5) (v := .ref ((ad 1))) (C := RX4) (T := TX4) (N := 21) hx hb hts (by decide +kernel) hown hK hP 0 rfl rfl 3 (by decide) (hts (.fieldLink RX4 7 "TrackDiskModel" "bytes" "[B") (by decide +kernel)) (fun _ h9 => h9) rfl dX4_differs_50 ?_
            refine lv_iload hx hb dX4_differs_53 (lv_at hl 0 rfl) ?_
            refine va_bald hx hb hK hP 1 1 rfl rfl (vp_in_nI (by omega) (by omega)) dX4_differs_55 ?_
            refine tp_i (y := bs (16 * t + k)) (by rw [nI_clamp (by omega)]) ?_
            refine lv_icmp_eq (tgt := 63) hx hb dX4_differs_56 (by decide) (fun c_56 => ?_) (fun c_56 => ?_)
            · skip
              refine lv_iconst (v := nI 0) hx hb dX4_differs_63 (by decide) ?_
              refine tp_i (y := bI (dmF kp bs d t (k + 1))) (by first | exact dm_1 (bI_ne c_33) | exact dm_2 c_56 | exact dm_0 (bI_eq c_33) c_56) ?_
              refine lv_istore (lv' := [(4, .int (bI (dmF kp bs d t (k + 1)))), (5, .int (nI (16 * t + k))), (3, .int (nI t)), (2, .int (nI (cnt (fun t => dmF kp bs d t 16) t))), (0, .ref ((ad 0))), (1, .int (nI d))]) hx hb dX4_differs_64 hl (by decide) rfl (fun ls hl => ?_)
              refine lv_iinc (v := nI (16 * t + k + 1)) (lv' := [(5, .int (nI (16 * t + k + 1))), (4, .int (bI (dmF kp bs d t (k + 1)))), (3, .int (nI t)), (2, .int (nI (cnt (fun t => dmF kp bs d t 16) t))), (0, .ref ((ad 0))), (1, .int (nI d))]) hx hb dX4_differs_66 hl (k := 1) rfl (by exact nI_1 _) (by decide) rfl (fun ls hl => ?_)
              refine lv_goto (tgt := 19) hx hb dX4_differs_69 (by decide) ?_
              exact ihk ls (lv_sub hl [0, 1, 2, 3, 4, 5] rfl)
            · skip
              refine lv_iconst (v := nI 1) hx hb dX4_differs_59 (by decide) ?_
              refine lv_goto (tgt := 64) hx hb dX4_differs_60 (by decide) ?_
              refine tp_i (y := bI (dmF kp bs d t (k + 1))) (by first | exact dm_1 (bI_ne c_33) | exact dm_2 c_56 | exact dm_0 (bI_eq c_33) c_56) ?_
              refine lv_istore (lv' := [(4, .int (bI (dmF kp bs d t (k + 1)))), (5, .int (nI (16 * t + k))), (3, .int (nI t)), (2, .int (nI (cnt (fun t => dmF kp bs d t 16) t))), (0, .ref ((ad 0))), (1, .int (nI d))]) hx hb dX4_differs_64 hl (by decide) rfl (fun ls hl => ?_)
              refine lv_iinc (v := nI (16 * t + k + 1)) (lv' := [(5, .int (nI (16 * t + k + 1))), (4, .int (bI (dmF kp bs d t (k + 1)))), (3, .int (nI t)), (2, .int (nI (cnt (fun t => dmF kp bs d t 16) t))), (0, .ref ((ad 0))), (1, .int (nI d))]) hx hb dX4_differs_66 hl (k := 1) rfl (by exact nI_1 _) (by decide) rfl (fun ls hl => ?_)
              refine lv_goto (tgt := 19) hx hb dX4_differs_69 (by decide) ?_
              exact ihk ls (lv_sub hl [0, 1, 2, 3, 4, 5] rfl)
      · skip
        refine lv_iload hx hb dX4_differs_19 (lv_at hl 0 rfl) ?_
        refine lv_bipush (v := nI 16) hx hb dX4_differs_21 (by decide) ?_
        refine lv_iload_n hx hb dX4_differs_23 rfl (lv_at hl 2 rfl) ?_
        refine lv_imul hx hb dX4_differs_24 ?_
        refine tp_i (y := nI (16 * t)) (by exact pk_mul _ _) ?_
        refine lv_bipush (v := nI 16) hx hb dX4_differs_25 (by decide) ?_
        refine lv_iadd hx hb dX4_differs_27 ?_
        refine tp_i (y := nI ((16 * t) + 16)) (by exact nI_add _ _) ?_
        refine lv_icmp_ge (tgt := 72) hx hb dX4_differs_28 (by decide) (fun c_28 => ?_) (fun c_28 => ?_)
        · skip
          refine lv_iload_n hx hb dX4_differs_72 rfl (lv_at hl 3 rfl) ?_
          refine lv_iload hx hb dX4_differs_73 (lv_at hl 1 rfl) ?_
          refine lv_if_eq (tgt := 82) hx hb dX4_differs_75 (by decide) (fun c_75 => ?_) (fun c_75 => ?_)
          · skip
            refine lv_iconst (v := nI 0) hx hb dX4_differs_82 (by decide) ?_
            refine lv_iadd hx hb dX4_differs_83 ?_
            refine tp_i (y := nI ((cnt (fun t => dmF kp bs d t 16) t) + 0)) (by exact nI_add _ _) ?_
            refine tp_i (y := nI (cnt (fun t => dmF kp bs d t 16) (t + 1))) (by first | (rw [cnt_t (f := (fun t => dmF kp bs d t 16)) (bI_ne c_75)]; done) | (rw [cnt_f (f := (fun t => dmF kp bs d t 16)) (bI_eq c_75)]; rfl)) ?_
            refine lv_istore_n (lv' := [(2, .int (nI (cnt (fun t => dmF kp bs d t 16) (t + 1)))), (5, .int (nI (16 * t + 16))), (4, .int (bI (dmF kp bs d t 16))), (3, .int (nI t)), (0, .ref ((ad 0))), (1, .int (nI d))]) hx hb dX4_differs_84 rfl hl (by decide) rfl (fun ls hl => ?_)
            refine lv_iinc (v := nI (t + 1)) (lv' := [(3, .int (nI (t + 1))), (2, .int (nI (cnt (fun t => dmF kp bs d t 16) (t + 1)))), (5, .int (nI (16 * t + 16))), (4, .int (bI (dmF kp bs d t 16))), (0, .ref ((ad 0))), (1, .int (nI d))]) hx hb dX4_differs_85 hl (k := 3) rfl (by exact nI_1 _) (by decide) rfl (fun ls hl => ?_)
            refine lv_goto (tgt := 4) hx hb dX4_differs_88 (by decide) ?_
            exact iht ls (lv_sub hl [0, 1, 4, 5] rfl)
          · skip
            refine lv_iconst (v := nI 1) hx hb dX4_differs_78 (by decide) ?_
            refine lv_goto (tgt := 83) hx hb dX4_differs_79 (by decide) ?_
            refine lv_iadd hx hb dX4_differs_83 ?_
            refine tp_i (y := nI ((cnt (fun t => dmF kp bs d t 16) t) + 1)) (by exact nI_add _ _) ?_
            refine tp_i (y := nI (cnt (fun t => dmF kp bs d t 16) (t + 1))) (by first | (rw [cnt_t (f := (fun t => dmF kp bs d t 16)) (bI_ne c_75)]; done) | (rw [cnt_f (f := (fun t => dmF kp bs d t 16)) (bI_eq c_75)]; rfl)) ?_
            refine lv_istore_n (lv' := [(2, .int (nI (cnt (fun t => dmF kp bs d t 16) (t + 1)))), (5, .int (nI (16 * t + 16))), (4, .int (bI (dmF kp bs d t 16))), (3, .int (nI t)), (0, .ref ((ad 0))), (1, .int (nI d))]) hx hb dX4_differs_84 rfl hl (by decide) rfl (fun ls hl => ?_)
            refine lv_iinc (v := nI (t + 1)) (lv' := [(3, .int (nI (t + 1))), (2, .int (nI (cnt (fun t => dmF kp bs d t 16) (t + 1)))), (5, .int (nI (16 * t + 16))), (4, .int (bI (dmF kp bs d t 16))), (0, .ref ((ad 0))), (1, .int (nI d))]) hx hb dX4_differs_85 hl (k := 3) rfl (by exact nI_1 _) (by decide) rfl (fun ls hl => ?_)
            refine lv_goto (tgt := 4) hx hb dX4_differs_88 (by decide) ?_
            exact iht ls (lv_sub hl [0, 1, 4, 5] rfl)
        · exact absurd (nI_le (Nat.le_refl _) (by omega)) c_28
  · skip
    refine lv_iload_n hx hb dX4_differs_4 rfl (lv_at hl 0 rfl) ?_
    refine lv_bipush (v := nI 112) hx hb dX4_differs_5 (by decide) ?_
    refine lv_icmp_ge (tgt := 91) hx hb dX4_differs_7 (by decide) (fun c_7 => ?_) (fun c_7 => ?_)
    · skip
      refine lv_iload_n hx hb dX4_differs_91 rfl (lv_at hl 1 rfl) ?_
      exact pu_iret hx hb hr hlocks dX4_differs_92
    · exact absurd (nI_le (Nat.le_refl _) (by omega)) c_7

set_option maxHeartbeats 4000000 in
set_option maxRecDepth 100000 in
/-- write: none -/
theorem m_write_no (l : Launch) (D : va_G) (κ : Nat → ClassId) (sz : Nat) (T S : Nat) (ad : Nat → Nat) (co : Int32) (bs kp sm ks se sp ke kq vo : Nat → Int32) (nd wn : Int32) (wt wx wb : Nat → Int32) (dn : Int32) (tp : Nat → Int32) (tn ts : Int32) (x y z : Int32) (hno : (inF x T && inF y S) = false) : Met l yX4_write wsX4_write ({ frames := 2, cells := 0, slots := 0, locals := 43 }) (va_Pc [.ref ((ad 0)), .int x, .int y, .int z.toInt8.toInt32] (mu_B D κ (moW κ T S ad co bs kp sm ks se sp ke kq vo nd wn wt wx wb dn tp tn ts) sz)) (mu_Q D (some (.int ((-2)))) (moW κ T S ad (nI 0) bs kp sm ks se sp ke kq vo nd wn wt wx wb dn tp tn ts) (va_A (moW κ T S ad co bs kp sm ks se sp ke kq vo nd wn wt wx wb dn tp tn ts) sz)) 0 0 (va_A (moW κ T S ad co bs kp sm ks se sp ke kq vo nd wn wt wx wb dn tp tn ts) sz) := by
  refine Met.ofW (cc := cX4_write) (maxL := 4) (ret := (some .int)) (by decide) rfl ?_
  intro p e s m args below meth c s₁ B hml hv
  obtain ⟨rfl, hsz, hP, hK, hD0⟩ := hv
  have hx := B.exec
  have hb := B.bytes
  have hr := B.returns
  have hts := atoms_spec (ws := wsX4_write) B.pre
  have hown : s.vm.findClass RX4 = some m.cls := findClass_of_methodNamed B.named
  have hlocks := B.notSynchronized
  subst hsz
  have hD := hD0.self (sz := s.heap.size)
  generalize hAe : va_A (moW κ T S ad co bs kp sm ks se sp ke kq vo nd wn wt wx wb dn tp tn ts) s.heap.size = A at hD ⊢
  have hA : ∀ q : Nat, s.heap.size ≤ q → A q := fun q h => by rw [← hAe]; exact Or.inr h
  refine W.gen (P := fun H locs => va_P D vwCl (moW κ T S ad co bs kp sm ks se sp ke kq vo nd wn wt wx wb dn tp tn ts) H ∧ va_S A s.heap H locs) (fun H locs h => ?_) ⟨hP, va_S.rf⟩
  clear hP
  obtain ⟨hP, hS⟩ := h
  have hl := lv_entry ([.ref ((ad 0)), .int x, .int y, .int z.toInt8.toInt32]) (n := 4) (Nat.le_of_ble_eq_true rfl)
  rw [lg_entry_eq]
  generalize (lg_sl ([.ref ((ad 0)), .int x, .int y, .int z.toInt8.toInt32]) ++ List.replicate (4 - (lg_sl ([.ref ((ad 0)), .int x, .int y, .int z.toInt8.toInt32])).length) Slot.unset).toArray = ls at hl ⊢
  have hl : lv_has ls 4 [(0, .ref ((ad 0))), (1, .int x), (2, .int y), (3, .int z.toInt8.toInt32)] := hl
  refine lv_aload_n hx hb dX4_write_0 rfl (lv_at hl 0 rfl) ?_
  refine lv_iconst (v := nI 0) hx hb dX4_write_1 (by decide) ?_
  refine va_put (D := D) (ci := 5) (v := .int (nI 0)) (ty := .int) (C := RX4) (T := TX4) (N := 21) hx hb hts (by decide +kernel) tyX4 tyX4_ok nmX4 hown hK hP hD hS 0 rfl rfl 0 (by decide) (hts (.fieldLink RX4 61 "TrackDiskModel" "code" "I") (by decide +kernel)) (fun _ h9 => h9) rfl (by decide +kernel) rfl rfl (Nat.le_of_ble_eq_true rfl) dX4_write_2 (fun H locs hP hD hS => ?_)
  have hP : va_P D vwCl (moW κ T S ad (nI 0) bs kp sm ks se sp ke kq vo nd wn wt wx wb dn tp tn ts) H := hP
  have hD : va_D A (moW κ T S ad (nI 0) bs kp sm ks se sp ke kq vo nd wn wt wx wb dn tp tn ts) := hD
  refine lv_aload_n hx hb dX4_write_5 rfl (lv_at hl 0 rfl) ?_
  refine lv_iload_n hx hb dX4_write_6 rfl (lv_at hl 1 rfl) ?_
  refine lv_iload_n hx hb dX4_write_7 rfl (lv_at hl 2 rfl) ?_
  have hPc := hP.sub (ws' := moW κ T S ad (nI 0) bs kp sm ks se sp ke kq vo nd wn wt wx wb dn tp tn ts) [0, 1, 2, 3, 4, 5, 6, 7, 8, 9, 10, 11, 12, 13] rfl
  refine pu_call (va_runV (As := [.int x, .int y]) (rest := []) ⟨hx, hb, hml, hown, hts⟩ (m_isSector l D κ T S ad (nI 0) bs kp sm ks se sp ke kq vo nd wn wt wx wb dn tp tn ts x y) (cwV 2 hts gX4_write_X4_isSector rfl rfl rfl (by decide +kernel) ⟨Nat.le_of_ble_eq_true rfl, Nat.le_of_ble_eq_true rfl⟩) ⟨pu_blind, va_recv hK hPc (ci := 5) (q0 := 0) rfl rfl, pu_pre hK hPc⟩ rfl rfl hl.1 rfl (lv_room (Nat.le_of_ble_eq_true rfl)) dX4_write_8 ⟨Nat.le_of_ble_eq_true rfl, Nat.le_of_ble_eq_true rfl⟩) ?_
  refine lv_if_ne (tgt := 17) hx hb dX4_write_11 (by decide) (fun c_11 => ?_) (fun c_11 => ?_)
  · exact (bI_cf hno c_11).elim
  · skip
    refine lv_bipush (v := (-2)) hx hb dX4_write_14 (by decide) ?_
    have hP9 : va_P D vwCl (moW κ T S ad (nI 0) bs kp sm ks se sp ke kq vo nd wn wt wx wb dn tp tn ts) H := hP
    have hD9 : va_D A (moW κ T S ad (nI 0) bs kp sm ks se sp ke kq vo nd wn wt wx wb dn tp tn ts) := hD
    exact W.iret hx hb hr (fun t ht _ => ⟨⟨rfl, by rw [ht]; exact hP9, hD9⟩, hS.F ht⟩) hS.2.2 dX4_write_16 hlocks

set_option maxHeartbeats 4000000 in
set_option maxRecDepth 100000 in
/-- write: down -/
theorem m_write_down (l : Launch) (D : va_G) (κ : Nat → ClassId) (sz : Nat) (T S : Nat) (ad : Nat → Nat) (co : Int32) (bs kp sm ks se sp ke kq vo : Nat → Int32) (nd wn : Int32) (wt wx wb : Nat → Int32) (tp : Nat → Int32) (tn ts : Int32)  (hT : T ≤ 12) (hS8 : S ≤ 8) (t b : Nat) (ht : t < T) (hb0 : b < S) (z : Int32) : Met l yX4_write wsX4_write ({ frames := 2, cells := 0, slots := 0, locals := 43 }) (va_Pc [.ref ((ad 0)), .int (nI t), .int (nI b), .int z.toInt8.toInt32] (mu_B D κ (moW κ T S ad co bs kp sm ks se sp ke kq vo nd wn wt wx wb (nI 1) tp tn ts) sz)) (mu_Q D (some (.int ((-5)))) (moW κ T S ad (nI 0) bs kp sm ks se sp ke kq vo nd wn wt wx wb (nI 1) tp tn ts) (va_A (moW κ T S ad co bs kp sm ks se sp ke kq vo nd wn wt wx wb (nI 1) tp tn ts) sz)) 0 0 (va_A (moW κ T S ad co bs kp sm ks se sp ke kq vo nd wn wt wx wb (nI 1) tp tn ts) sz) := by
  refine Met.ofW (cc := cX4_write) (maxL := 4) (ret := (some .int)) (by decide) rfl ?_
  intro p e s m args below meth c s₁ B hml hv
  obtain ⟨rfl, hsz, hP, hK, hD0⟩ := hv
  have hx := B.exec
  have hb := B.bytes
  have hr := B.returns
  have hts := atoms_spec (ws := wsX4_write) B.pre
  have hown : s.vm.findClass RX4 = some m.cls := findClass_of_methodNamed B.named
  have hlocks := B.notSynchronized
  subst hsz
  have hD := hD0.self (sz := s.heap.size)
  generalize hAe : va_A (moW κ T S ad co bs kp sm ks se sp ke kq vo nd wn wt wx wb (nI 1) tp tn ts) s.heap.size = A at hD ⊢
  have hA : ∀ q : Nat, s.heap.size ≤ q → A q := fun q h => by rw [← hAe]; exact Or.inr h
  refine W.gen (P := fun H locs => va_P D vwCl (moW κ T S ad co bs kp sm ks se sp ke kq vo nd wn wt wx wb (nI 1) tp tn ts) H ∧ va_S A s.heap H locs) (fun H locs h => ?_) ⟨hP, va_S.rf⟩
  clear hP
  obtain ⟨hP, hS⟩ := h
  have hl := lv_entry ([.ref ((ad 0)), .int (nI t), .int (nI b), .int z.toInt8.toInt32]) (n := 4) (Nat.le_of_ble_eq_true rfl)
  rw [lg_entry_eq]
  generalize (lg_sl ([.ref ((ad 0)), .int (nI t), .int (nI b), .int z.toInt8.toInt32]) ++ List.replicate (4 - (lg_sl ([.ref ((ad 0)), .int (nI t), .int (nI b), .int z.toInt8.toInt32])).length) Slot.unset).toArray = ls at hl ⊢
  have hl : lv_has ls 4 [(0, .ref ((ad 0))), (1, .int (nI t)), (2, .int (nI b)), (3, .int z.toInt8.toInt32)] := hl
  refine lv_aload_n hx hb dX4_write_0 rfl (lv_at hl 0 rfl) ?_
  refine lv_iconst (v := nI 0) hx hb dX4_write_1 (by decide) ?_
  refine va_put (D := D) (ci := 5) (v := .int (nI 0)) (ty := .int) (C := RX4) (T := TX4) (N := 21) hx hb hts (by decide +kernel) tyX4 tyX4_ok nmX4 hown hK hP hD hS 0 rfl rfl 0 (by decide) (hts (.fieldLink RX4 61 "TrackDiskModel" "code" "I") (by decide +kernel)) (fun _ h9 => h9) rfl (by decide +kernel) rfl rfl (Nat.le_of_ble_eq_true rfl) dX4_write_2 (fun H locs hP hD hS => ?_)
  have hP : va_P D vwCl (moW κ T S ad (nI 0) bs kp sm ks se sp ke kq vo nd wn wt wx wb (nI 1) tp tn ts) H := hP
  have hD : va_D A (moW κ T S ad (nI 0) bs kp sm ks se sp ke kq vo nd wn wt wx wb (nI 1) tp tn ts) := hD
  refine lv_aload_n hx hb dX4_write_5 rfl (lv_at hl 0 rfl) ?_
  refine lv_iload_n hx hb dX4_write_6 rfl (lv_at hl 1 rfl) ?_
  refine lv_iload_n hx hb dX4_write_7 rfl (lv_at hl 2 rfl) ?_
  have hPc := hP.sub (ws' := moW κ T S ad (nI 0) bs kp sm ks se sp ke kq vo nd wn wt wx wb (nI 1) tp tn ts) [0, 1, 2, 3, 4, 5, 6, 7, 8, 9, 10, 11, 12, 13] rfl
  refine pu_call (va_runV (As := [.int (nI t), .int (nI b)]) (rest := []) ⟨hx, hb, hml, hown, hts⟩ (m_isSector l D κ T S ad (nI 0) bs kp sm ks se sp ke kq vo nd wn wt wx wb (nI 1) tp tn ts (nI t) (nI b)) (cwV 2 hts gX4_write_X4_isSector rfl rfl rfl (by decide +kernel) ⟨Nat.le_of_ble_eq_true rfl, Nat.le_of_ble_eq_true rfl⟩) ⟨pu_blind, va_recv hK hPc (ci := 5) (q0 := 0) rfl rfl, pu_pre hK hPc⟩ rfl rfl hl.1 rfl (lv_room (Nat.le_of_ble_eq_true rfl)) dX4_write_8 ⟨Nat.le_of_ble_eq_true rfl, Nat.le_of_ble_eq_true rfl⟩) ?_
  refine lv_if_ne (tgt := 17) hx hb dX4_write_11 (by decide) (fun c_11 => ?_) (fun c_11 => ?_)
  · skip
    refine lv_aload_n hx hb dX4_write_17 rfl (lv_at hl 0 rfl) ?_
    refine va_get (D := D) (ci := 5) (v := .int (nI 1)) (C := RX4) (T := TX4) (N := 21) hx hb hts (by decide +kernel) hown hK hP 0 rfl rfl 17 (by decide) (hts (.fieldLink RX4 73 "TrackDiskModel" "down" "Z") (by decide +kernel)) (fun _ h9 => h9) rfl dX4_write_18 ?_
    refine lv_if_eq (tgt := 27) hx hb dX4_write_21 (by decide) (fun c_21 => ?_) (fun c_21 => ?_)
    · exact absurd c_21 (by decide)
    · skip
      refine lv_bipush (v := (-5)) hx hb dX4_write_24 (by decide) ?_
      have hP9 : va_P D vwCl (moW κ T S ad (nI 0) bs kp sm ks se sp ke kq vo nd wn wt wx wb (nI 1) tp tn ts) H := hP
      have hD9 : va_D A (moW κ T S ad (nI 0) bs kp sm ks se sp ke kq vo nd wn wt wx wb (nI 1) tp tn ts) := hD
      exact W.iret hx hb hr (fun t ht _ => ⟨⟨rfl, by rw [ht]; exact hP9, hD9⟩, hS.F ht⟩) hS.2.2 dX4_write_26 hlocks
  · exact (bI_ct (by rw [inF_nI ht (by omega), inF_nI hb0 (by omega)]; rfl) c_11).elim

set_option maxHeartbeats 4000000 in
set_option maxRecDepth 100000 in
/-- write: full -/
theorem m_write_full (l : Launch) (D : va_G) (κ : Nat → ClassId) (sz : Nat) (T S : Nat) (ad : Nat → Nat) (co : Int32) (bs kp sm ks se sp ke kq vo : Nat → Int32) (nd : Int32) (wt wx wb : Nat → Int32) (tp : Nat → Int32) (tn ts : Int32)  (hT : T ≤ 12) (hS8 : S ≤ 8) (t b : Nat) (ht : t < T) (hb0 : b < S) (z : Int32) : Met l yX4_write wsX4_write ({ frames := 2, cells := 0, slots := 0, locals := 43 }) (va_Pc [.ref ((ad 0)), .int (nI t), .int (nI b), .int z.toInt8.toInt32] (mu_B D κ (moW κ T S ad co bs kp sm ks se sp ke kq vo nd (nI 40) wt wx wb (nI 0) tp tn ts) sz)) (mu_Q D (some (.int ((-1)))) (moW κ T S ad (nI 0) bs kp sm ks se sp ke kq vo nd (nI 40) wt wx wb (nI 0) tp tn ts) (va_A (moW κ T S ad co bs kp sm ks se sp ke kq vo nd (nI 40) wt wx wb (nI 0) tp tn ts) sz)) 0 0 (va_A (moW κ T S ad co bs kp sm ks se sp ke kq vo nd (nI 40) wt wx wb (nI 0) tp tn ts) sz) := by
  refine Met.ofW (cc := cX4_write) (maxL := 4) (ret := (some .int)) (by decide) rfl ?_
  intro p e s m args below meth c s₁ B hml hv
  obtain ⟨rfl, hsz, hP, hK, hD0⟩ := hv
  have hx := B.exec
  have hb := B.bytes
  have hr := B.returns
  have hts := atoms_spec (ws := wsX4_write) B.pre
  have hown : s.vm.findClass RX4 = some m.cls := findClass_of_methodNamed B.named
  have hlocks := B.notSynchronized
  subst hsz
  have hD := hD0.self (sz := s.heap.size)
  generalize hAe : va_A (moW κ T S ad co bs kp sm ks se sp ke kq vo nd (nI 40) wt wx wb (nI 0) tp tn ts) s.heap.size = A at hD ⊢
  have hA : ∀ q : Nat, s.heap.size ≤ q → A q := fun q h => by rw [← hAe]; exact Or.inr h
  refine W.gen (P := fun H locs => va_P D vwCl (moW κ T S ad co bs kp sm ks se sp ke kq vo nd (nI 40) wt wx wb (nI 0) tp tn ts) H ∧ va_S A s.heap H locs) (fun H locs h => ?_) ⟨hP, va_S.rf⟩
  clear hP
  obtain ⟨hP, hS⟩ := h
  have hl := lv_entry ([.ref ((ad 0)), .int (nI t), .int (nI b), .int z.toInt8.toInt32]) (n := 4) (Nat.le_of_ble_eq_true rfl)
  rw [lg_entry_eq]
  generalize (lg_sl ([.ref ((ad 0)), .int (nI t), .int (nI b), .int z.toInt8.toInt32]) ++ List.replicate (4 - (lg_sl ([.ref ((ad 0)), .int (nI t), .int (nI b), .int z.toInt8.toInt32])).length) Slot.unset).toArray = ls at hl ⊢
  have hl : lv_has ls 4 [(0, .ref ((ad 0))), (1, .int (nI t)), (2, .int (nI b)), (3, .int z.toInt8.toInt32)] := hl
  refine lv_aload_n hx hb dX4_write_0 rfl (lv_at hl 0 rfl) ?_
  refine lv_iconst (v := nI 0) hx hb dX4_write_1 (by decide) ?_
  refine va_put (D := D) (ci := 5) (v := .int (nI 0)) (ty := .int) (C := RX4) (T := TX4) (N := 21) hx hb hts (by decide +kernel) tyX4 tyX4_ok nmX4 hown hK hP hD hS 0 rfl rfl 0 (by decide) (hts (.fieldLink RX4 61 "TrackDiskModel" "code" "I") (by decide +kernel)) (fun _ h9 => h9) rfl (by decide +kernel) rfl rfl (Nat.le_of_ble_eq_true rfl) dX4_write_2 (fun H locs hP hD hS => ?_)
  have hP : va_P D vwCl (moW κ T S ad (nI 0) bs kp sm ks se sp ke kq vo nd (nI 40) wt wx wb (nI 0) tp tn ts) H := hP
  have hD : va_D A (moW κ T S ad (nI 0) bs kp sm ks se sp ke kq vo nd (nI 40) wt wx wb (nI 0) tp tn ts) := hD
  refine lv_aload_n hx hb dX4_write_5 rfl (lv_at hl 0 rfl) ?_
  refine lv_iload_n hx hb dX4_write_6 rfl (lv_at hl 1 rfl) ?_
  refine lv_iload_n hx hb dX4_write_7 rfl (lv_at hl 2 rfl) ?_
  have hPc := hP.sub (ws' := moW κ T S ad (nI 0) bs kp sm ks se sp ke kq vo nd (nI 40) wt wx wb (nI 0) tp tn ts) [0, 1, 2, 3, 4, 5, 6, 7, 8, 9, 10, 11, 12, 13] rfl
  refine pu_call (va_runV (As := [.int (nI t), .int (nI b)]) (rest := []) ⟨hx, hb, hml, hown, hts⟩ (m_isSector l D κ T S ad (nI 0) bs kp sm ks se sp ke kq vo nd (nI 40) wt wx wb (nI 0) tp tn ts (nI t) (nI b)) (cwV 2 hts gX4_write_X4_isSector rfl rfl rfl (by decide +kernel) ⟨Nat.le_of_ble_eq_true rfl, Nat.le_of_ble_eq_true rfl⟩) ⟨pu_blind, va_recv hK hPc (ci := 5) (q0 := 0) rfl rfl, pu_pre hK hPc⟩ rfl rfl hl.1 rfl (lv_room (Nat.le_of_ble_eq_true rfl)) dX4_write_8 ⟨Nat.le_of_ble_eq_true rfl, Nat.le_of_ble_eq_true rfl⟩) ?_
  refine lv_if_ne (tgt := 17) hx hb dX4_write_11 (by decide) (fun c_11 => ?_) (fun c_11 => ?_)
  · skip
    refine lv_aload_n hx hb dX4_write_17 rfl (lv_at hl 0 rfl) ?_
    refine va_get (D := D) (ci := 5) (v := .int (nI 0)) (C := RX4) (T := TX4) (N := 21) hx hb hts (by decide +kernel) hown hK hP 0 rfl rfl 17 (by decide) (hts (.fieldLink RX4 73 "TrackDiskModel" "down" "Z") (by decide +kernel)) (fun _ h9 => h9) rfl dX4_write_18 ?_
    refine lv_if_eq (tgt := 27) hx hb dX4_write_21 (by decide) (fun c_21 => ?_) (fun c_21 => ?_)
    · skip
      refine lv_aload_n hx hb dX4_write_27 rfl (lv_at hl 0 rfl) ?_
      refine va_get (D := D) (ci := 5) (v := .int (nI 40)) (C := RX4) (T := TX4) (N := 21) hx hb hts (by decide +kernel) hown hK hP 0 rfl rfl 13 (by decide) (hts (.fieldLink RX4 77 "TrackDiskModel" "waiting" "I") (by decide +kernel)) (fun _ h9 => h9) rfl dX4_write_28 ?_
      refine lv_bipush (v := nI 40) hx hb dX4_write_31 (by decide) ?_
      refine lv_icmp_ne (tgt := 38) hx hb dX4_write_33 (by decide) (fun c_33 => ?_) (fun c_33 => ?_)
      · exact absurd (by decide) c_33
      · skip
        refine lv_iconst (v := (-1)) hx hb dX4_write_36 (by decide) ?_
        have hP9 : va_P D vwCl (moW κ T S ad (nI 0) bs kp sm ks se sp ke kq vo nd (nI 40) wt wx wb (nI 0) tp tn ts) H := hP
        have hD9 : va_D A (moW κ T S ad (nI 0) bs kp sm ks se sp ke kq vo nd (nI 40) wt wx wb (nI 0) tp tn ts) := hD
        exact W.iret hx hb hr (fun t ht _ => ⟨⟨rfl, by rw [ht]; exact hP9, hD9⟩, hS.F ht⟩) hS.2.2 dX4_write_37 hlocks
    · exact absurd (by decide) c_21
  · exact (bI_ct (by rw [inF_nI ht (by omega), inF_nI hb0 (by omega)]; rfl) c_11).elim

set_option maxHeartbeats 4000000 in
set_option maxRecDepth 100000 in
/-- write -/
theorem m_write (l : Launch) (D : va_G) (κ : Nat → ClassId) (sz : Nat) (T S : Nat) (ad : Nat → Nat) (co : Int32) (bs kp sm ks se sp ke kq vo : Nat → Int32) (nd : Int32) (wt wx wb : Nat → Int32) (tp : Nat → Int32) (tn ts : Int32)  (hT : T ≤ 12) (hS8 : S ≤ 8) (t b : Nat) (ht : t < T) (hb0 : b < S) (z : Int32) (w : Nat) (hw : w < 40) : Met l yX4_write wsX4_write ({ frames := 2, cells := 0, slots := 0, locals := 43 }) (va_Pc [.ref ((ad 0)), .int (nI t), .int (nI b), .int z.toInt8.toInt32] (mu_B D κ (moW κ T S ad co bs kp sm ks se sp ke kq vo nd (nI w) wt wx wb (nI 0) tp tn ts) sz)) (mu_Q D (some (.int (nI (w + 1)))) (moW κ T S ad (nI 0) bs kp sm ks se sp ke kq vo nd (nI (w + 1)) (upd wt w (nI t)) (upd wx w (nI b)) (upd wb w (z.toInt8.toInt32)) (nI 0) tp tn ts) (va_A (moW κ T S ad co bs kp sm ks se sp ke kq vo nd (nI w) wt wx wb (nI 0) tp tn ts) sz)) 0 0 (va_A (moW κ T S ad co bs kp sm ks se sp ke kq vo nd (nI w) wt wx wb (nI 0) tp tn ts) sz) := by
  refine Met.ofW (cc := cX4_write) (maxL := 4) (ret := (some .int)) (by decide) rfl ?_
  intro p e s m args below meth c s₁ B hml hv
  obtain ⟨rfl, hsz, hP, hK, hD0⟩ := hv
  have hx := B.exec
  have hb := B.bytes
  have hr := B.returns
  have hts := atoms_spec (ws := wsX4_write) B.pre
  have hown : s.vm.findClass RX4 = some m.cls := findClass_of_methodNamed B.named
  have hlocks := B.notSynchronized
  subst hsz
  have hD := hD0.self (sz := s.heap.size)
  generalize hAe : va_A (moW κ T S ad co bs kp sm ks se sp ke kq vo nd (nI w) wt wx wb (nI 0) tp tn ts) s.heap.size = A at hD ⊢
  have hA : ∀ q : Nat, s.heap.size ≤ q → A q := fun q h => by rw [← hAe]; exact Or.inr h
  refine W.gen (P := fun H locs => va_P D vwCl (moW κ T S ad co bs kp sm ks se sp ke kq vo nd (nI w) wt wx wb (nI 0) tp tn ts) H ∧ va_S A s.heap H locs) (fun H locs h => ?_) ⟨hP, va_S.rf⟩
  clear hP
  obtain ⟨hP, hS⟩ := h
  have hl := lv_entry ([.ref ((ad 0)), .int (nI t), .int (nI b), .int z.toInt8.toInt32]) (n := 4) (Nat.le_of_ble_eq_true rfl)
  rw [lg_entry_eq]
  generalize (lg_sl ([.ref ((ad 0)), .int (nI t), .int (nI b), .int z.toInt8.toInt32]) ++ List.replicate (4 - (lg_sl ([.ref ((ad 0)), .int (nI t), .int (nI b), .int z.toInt8.toInt32])).length) Slot.unset).toArray = ls at hl ⊢
  have hl : lv_has ls 4 [(0, .ref ((ad 0))), (1, .int (nI t)), (2, .int (nI b)), (3, .int z.toInt8.toInt32)] := hl
  refine lv_aload_n hx hb dX4_write_0 rfl (lv_at hl 0 rfl) ?_
  refine lv_iconst (v := nI 0) hx hb dX4_write_1 (by decide) ?_
  refine va_put (D := D) (ci := 5) (v := .int (nI 0)) (ty := .int) (C := RX4) (T := TX4) (N := 21) hx hb hts (by decide +kernel) tyX4 tyX4_ok nmX4 hown hK hP hD hS 0 rfl rfl 0 (by decide) (hts (.fieldLink RX4 61 "TrackDiskModel" "code" "I") (by decide +kernel)) (fun _ h9 => h9) rfl (by decide +kernel) rfl rfl (Nat.le_of_ble_eq_true rfl) dX4_write_2 (fun H locs hP hD hS => ?_)
  have hP : va_P D vwCl (moW κ T S ad (nI 0) bs kp sm ks se sp ke kq vo nd (nI w) wt wx wb (nI 0) tp tn ts) H := hP
  have hD : va_D A (moW κ T S ad (nI 0) bs kp sm ks se sp ke kq vo nd (nI w) wt wx wb (nI 0) tp tn ts) := hD
  refine lv_aload_n hx hb dX4_write_5 rfl (lv_at hl 0 rfl) ?_
  refine lv_iload_n hx hb dX4_write_6 rfl (lv_at hl 1 rfl) ?_
  refine lv_iload_n hx hb dX4_write_7 rfl (lv_at hl 2 rfl) ?_
  have hPc := hP.sub (ws' := moW κ T S ad (nI 0) bs kp sm ks se sp ke kq vo nd (nI w) wt wx wb (nI 0) tp tn ts) [0, 1, 2, 3, 4, 5, 6, 7, 8, 9, 10, 11, 12, 13] rfl
  refine pu_call (va_runV (As := [.int (nI t), .int (nI b)]) (rest := []) ⟨hx, hb, hml, hown, hts⟩ (m_isSector l D κ T S ad (nI 0) bs kp sm ks se sp ke kq vo nd (nI w) wt wx wb (nI 0) tp tn ts (nI t) (nI b)) (cwV 2 hts gX4_write_X4_isSector rfl rfl rfl (by decide +kernel) ⟨Nat.le_of_ble_eq_true rfl, Nat.le_of_ble_eq_true rfl⟩) ⟨pu_blind, va_recv hK hPc (ci := 5) (q0 := 0) rfl rfl, pu_pre hK hPc⟩ rfl rfl hl.1 rfl (lv_room (Nat.le_of_ble_eq_true rfl)) dX4_write_8 ⟨Nat.le_of_ble_eq_true rfl, Nat.le_of_ble_eq_true rfl⟩) ?_
  refine lv_if_ne (tgt := 17) hx hb dX4_write_11 (by decide) (fun c_11 => ?_) (fun c_11 => ?_)
  · skip
    refine lv_aload_n hx hb dX4_write_17 rfl (lv_at hl 0 rfl) ?_
    refine va_get (D := D) (ci := 5) (v := .int (nI 0)) (C := RX4) (T := TX4) (N := 21) hx hb hts (by decide +kernel) hown hK hP 0 rfl rfl 17 (by decide) (hts (.fieldLink RX4 73 "TrackDiskModel" "down" "Z") (by decide +kernel)) (fun _ h9 => h9) rfl dX4_write_18 ?_
    refine lv_if_eq (tgt := 27) hx hb dX4_write_21 (by decide) (fun c_21 => ?_) (fun c_21 => ?_)
    · skip
      refine lv_aload_n hx hb dX4_write_27 rfl (lv_at hl 0 rfl) ?_
      refine va_get (D := D) (ci := 5) (v := .int (nI w)) (C := RX4) (T := TX4) (N := 21) hx hb hts (by decide +kernel) hown hK hP 0 rfl rfl 13 (by decide) (hts (.fieldLink RX4 77 "TrackDiskModel" "waiting" "I") (by decide +kernel)) (fun _ h9 => h9) rfl dX4_write_28 ?_
      refine lv_bipush (v := nI 40) hx hb dX4_write_31 (by decide) ?_
      refine lv_icmp_ne (tgt := 38) hx hb dX4_write_33 (by decide) (fun c_33 => ?_) (fun c_33 => ?_)
      · skip
        refine lv_aload_n hx hb dX4_write_38 rfl (lv_at hl 0 rfl) ?_
        refine va_get (D := D) (ci := 5) (v := .ref ((ad 10))) (C := RX4) (T := TX4) (N := 21) hx hb hts (by decide +kernel) hown hK hP 0 rfl rfl 14 (by decide) (hts (.fieldLink RX4 38 "TrackDiskModel" "waitTracks" "[I") (by decide +kernel)) (fun _ h9 => h9) rfl dX4_write_39 ?_
        refine lv_aload_n hx hb dX4_write_42 rfl (lv_at hl 0 rfl) ?_
        refine va_get (D := D) (ci := 5) (v := .int (nI w)) (C := RX4) (T := TX4) (N := 21) hx hb hts (by decide +kernel) hown hK hP 0 rfl rfl 13 (by decide) (hts (.fieldLink RX4 77 "TrackDiskModel" "waiting" "I") (by decide +kernel)) (fun _ h9 => h9) rfl dX4_write_43 ?_
        refine lv_iload_n hx hb dX4_write_46 rfl (lv_at hl 1 rfl) ?_
        refine va_iast hx hb hK hP hD hS 10 0 rfl rfl (vp_in_nI (by omega) (by omega)) dX4_write_47 (fun H locs hP hD hS => ?_)
        rw [nI_clamp (n := w) (by omega)] at hP hD
        have hP : va_P D vwCl (moW κ T S ad (nI 0) bs kp sm ks se sp ke kq vo nd (nI w) (upd (wt) (w) (nI t)) wx wb (nI 0) tp tn ts) H := hP
        have hD : va_D A (moW κ T S ad (nI 0) bs kp sm ks se sp ke kq vo nd (nI w) (upd (wt) (w) (nI t)) wx wb (nI 0) tp tn ts) := hD
        refine lv_aload_n hx hb dX4_write_48 rfl (lv_at hl 0 rfl) ?_
        refine va_get (D := D) (ci := 5) (v := .ref ((ad 11))) (C := RX4) (T := TX4) (N := 21) hx hb hts (by decide +kernel) hown hK hP 0 rfl rfl 15 (by decide) (hts (.fieldLink RX4 41 "TrackDiskModel" "waitSectors" "[I") (by decide +kernel)) (fun _ h9 => h9) rfl dX4_write_49 ?_
        refine lv_aload_n hx hb dX4_write_52 rfl (lv_at hl 0 rfl) ?_
        refine va_get (D := D) (ci := 5) (v := .int (nI w)) (C := RX4) (T := TX4) (N := 21) hx hb hts (by decide +kernel) hown hK hP 0 rfl rfl 13 (by decide) (hts (.fieldLink RX4 77 "TrackDiskModel" "waiting" "I") (by decide +kernel)) (fun _ h9 => h9) rfl dX4_write_53 ?_
        refine lv_iload_n hx hb dX4_write_56 rfl (lv_at hl 2 rfl) ?_
        refine va_iast hx hb hK hP hD hS 11 0 rfl rfl (vp_in_nI (by omega) (by omega)) dX4_write_57 (fun H locs hP hD hS => ?_)
        rw [nI_clamp (n := w) (by omega)] at hP hD
        have hP : va_P D vwCl (moW κ T S ad (nI 0) bs kp sm ks se sp ke kq vo nd (nI w) (upd (wt) (w) (nI t)) (upd (wx) (w) (nI b)) wb (nI 0) tp tn ts) H := hP
        have hD : va_D A (moW κ T S ad (nI 0) bs kp sm ks se sp ke kq vo nd (nI w) (upd (wt) (w) (nI t)) (upd (wx) (w) (nI b)) wb (nI 0) tp tn ts) := hD
        refine lv_aload_n hx hb dX4_write_58 rfl (lv_at hl 0 rfl) ?_
        refine va_get (D := D) (ci := 5) (v := .ref ((ad 12))) (C := RX4) (T := TX4) (N := 21) hx hb hts (by decide +kernel) hown hK hP 0 rfl rfl 16 (by decide) (hts (.fieldLink RX4 44 "TrackDiskModel" "waitBytes" "[I") (by decide +kernel)) (fun _ h9 => h9) rfl dX4_write_59 ?_
        refine lv_aload_n hx hb dX4_write_62 rfl (lv_at hl 0 rfl) ?_
        refine va_get (D := D) (ci := 5) (v := .int (nI w)) (C := RX4) (T := TX4) (N := 21) hx hb hts (by decide +kernel) hown hK hP 0 rfl rfl 13 (by decide) (hts (.fieldLink RX4 77 "TrackDiskModel" "waiting" "I") (by decide +kernel)) (fun _ h9 => h9) rfl dX4_write_63 ?_
        refine lv_iload_n hx hb dX4_write_66 rfl (lv_at hl 3 rfl) ?_
        refine va_iast hx hb hK hP hD hS 12 0 rfl rfl (vp_in_nI (by omega) (by omega)) dX4_write_67 (fun H locs hP hD hS => ?_)
        rw [nI_clamp (n := w) (by omega)] at hP hD
        have hP : va_P D vwCl (moW κ T S ad (nI 0) bs kp sm ks se sp ke kq vo nd (nI w) (upd (wt) (w) (nI t)) (upd (wx) (w) (nI b)) (upd (wb) (w) (z.toInt8.toInt32)) (nI 0) tp tn ts) H := hP
        have hD : va_D A (moW κ T S ad (nI 0) bs kp sm ks se sp ke kq vo nd (nI w) (upd (wt) (w) (nI t)) (upd (wx) (w) (nI b)) (upd (wb) (w) (z.toInt8.toInt32)) (nI 0) tp tn ts) := hD
        refine lv_aload_n hx hb dX4_write_68 rfl (lv_at hl 0 rfl) ?_
        refine lv_dup hx hb dX4_write_69 rfl ?_
        refine va_get (D := D) (ci := 5) (v := .int (nI w)) (C := RX4) (T := TX4) (N := 21) hx hb hts (by decide +kernel) hown hK hP 0 rfl rfl 13 (by decide) (hts (.fieldLink RX4 77 "TrackDiskModel" "waiting" "I") (by decide +kernel)) (fun _ h9 => h9) rfl dX4_write_70 ?_
        refine lv_iconst (v := nI 1) hx hb dX4_write_73 (by decide) ?_
        refine lv_iadd hx hb dX4_write_74 ?_
        refine tp_i (y := nI (w + 1)) (by exact nI_add _ _) ?_
        refine va_put (D := D) (ci := 5) (v := .int (nI (w + 1))) (ty := .int) (C := RX4) (T := TX4) (N := 21) hx hb hts (by decide +kernel) tyX4 tyX4_ok nmX4 hown hK hP hD hS 0 rfl rfl 13 (by decide) (hts (.fieldLink RX4 77 "TrackDiskModel" "waiting" "I") (by decide +kernel)) (fun _ h9 => h9) rfl (by decide +kernel) rfl rfl (Nat.le_of_ble_eq_true rfl) dX4_write_75 (fun H locs hP hD hS => ?_)
        have hP : va_P D vwCl (moW κ T S ad (nI 0) bs kp sm ks se sp ke kq vo nd (nI (w + 1)) (upd (wt) (w) (nI t)) (upd (wx) (w) (nI b)) (upd (wb) (w) (z.toInt8.toInt32)) (nI 0) tp tn ts) H := hP
        have hD : va_D A (moW κ T S ad (nI 0) bs kp sm ks se sp ke kq vo nd (nI (w + 1)) (upd (wt) (w) (nI t)) (upd (wx) (w) (nI b)) (upd (wb) (w) (z.toInt8.toInt32)) (nI 0) tp tn ts) := hD
        refine lv_aload_n hx hb dX4_write_78 rfl (lv_at hl 0 rfl) ?_
        refine va_get (D := D) (ci := 5) (v := .int (nI (w + 1))) (C := RX4) (T := TX4) (N := 21) hx hb hts (by decide +kernel) hown hK hP 0 rfl rfl 13 (by decide) (hts (.fieldLink RX4 77 "TrackDiskModel" "waiting" "I") (by decide +kernel)) (fun _ h9 => h9) rfl dX4_write_79 ?_
        have hP9 : va_P D vwCl (moW κ T S ad (nI 0) bs kp sm ks se sp ke kq vo nd (nI (w + 1)) (upd wt w (nI t)) (upd wx w (nI b)) (upd wb w (z.toInt8.toInt32)) (nI 0) tp tn ts) H := hP
        have hD9 : va_D A (moW κ T S ad (nI 0) bs kp sm ks se sp ke kq vo nd (nI (w + 1)) (upd wt w (nI t)) (upd wx w (nI b)) (upd wb w (z.toInt8.toInt32)) (nI 0) tp tn ts) := hD
        exact W.iret hx hb hr (fun t ht _ => ⟨⟨rfl, by rw [ht]; exact hP9, hD9⟩, hS.F ht⟩) hS.2.2 dX4_write_82 hlocks
      · exact absurd ((nI_eq (by omega) (by omega)).mp c_33) (by omega)
    · exact absurd (by decide) c_21
  · exact (bI_ct (by rw [inF_nI ht (by omega), inF_nI hb0 (by omega)]; rfl) c_11).elim

set_option maxHeartbeats 4000000 in
set_option maxRecDepth 100000 in
/-- done -/
theorem m_done (l : Launch) (D : va_G) (κ : Nat → ClassId) (sz : Nat) (T S : Nat) (ad : Nat → Nat) (co : Int32) (bs kp sm ks se sp ke kq vo : Nat → Int32) (nd wn : Int32) (wt wx wb : Nat → Int32) (dn : Int32) (tp : Nat → Int32) (tn ts : Int32) (hT : T ≤ 12) (hS8 : S ≤ 8) (hse : ∀ t, t < T → se t = -1 ∨ vp_in (se t) 14) (w : Nat) (hw : w < 40) (hwt : vp_in (wt w) T) (hwx : vp_in (wx w) S) (n : Nat) (hn : n ≤ 16) : Met l yX4_done wsX4_done ({ frames := 1, cells := 0, slots := 0, locals := 22 }) (va_Pc [.ref ((ad 0)), .int (nI w), .int (nI n)] (mu_B D κ (moW κ T S ad co bs kp sm ks se sp ke kq vo nd wn wt wx wb dn tp tn ts) sz)) (mu_Q D none (moW κ T S ad co (flF bs (16 * (8 * mlF se (cl (wt w)) + cl (wx w))) (wb w) n) kp sm ks se (upd sp (cl (wt w)) (nI 1)) ke kq vo nd wn wt wx wb dn tp tn ts) (va_A (moW κ T S ad co bs kp sm ks se sp ke kq vo nd wn wt wx wb dn tp tn ts) sz)) 0 0 (va_A (moW κ T S ad co bs kp sm ks se sp ke kq vo nd wn wt wx wb dn tp tn ts) sz) := by
  refine Met.ofW (cc := cX4_done) (maxL := 5) (ret := none) (by decide) rfl ?_
  intro p e s m args below meth c s₁ B hml hv
  obtain ⟨rfl, hsz, hP, hK, hD0⟩ := hv
  have hx := B.exec
  have hb := B.bytes
  have hr := B.returns
  have hts := atoms_spec (ws := wsX4_done) B.pre
  have hown : s.vm.findClass RX4 = some m.cls := findClass_of_methodNamed B.named
  have hlocks := B.notSynchronized
  subst hsz
  have hD := hD0.self (sz := s.heap.size)
  generalize hAe : va_A (moW κ T S ad co bs kp sm ks se sp ke kq vo nd wn wt wx wb dn tp tn ts) s.heap.size = A at hD ⊢
  have hA : ∀ q : Nat, s.heap.size ≤ q → A q := fun q h => by rw [← hAe]; exact Or.inr h
  refine W.gen (P := fun H locs => va_P D vwCl (moW κ T S ad co bs kp sm ks se sp ke kq vo nd wn wt wx wb dn tp tn ts) H ∧ va_S A s.heap H locs) (fun H locs h => ?_) ⟨hP, va_S.rf⟩
  clear hP
  obtain ⟨hP, hS⟩ := h
  have hl := lv_entry ([.ref ((ad 0)), .int (nI w), .int (nI n)]) (n := 5) (Nat.le_of_ble_eq_true rfl)
  rw [lg_entry_eq]
  generalize (lg_sl ([.ref ((ad 0)), .int (nI w), .int (nI n)]) ++ List.replicate (5 - (lg_sl ([.ref ((ad 0)), .int (nI w), .int (nI n)])).length) Slot.unset).toArray = ls at hl ⊢
  have hl : lv_has ls 5 [(0, .ref ((ad 0))), (1, .int (nI w)), (2, .int (nI n))] := hl
  have hwtk := cl_nI hwt (by omega)
  have hwxk := cl_nI hwx (by omega)
  have hml0 := mlF_lt hT hse hwtk.2
  refine lv_aload_n hx hb dX4_done_0 rfl (lv_at hl 0 rfl) ?_
  refine lv_aload_n hx hb dX4_done_1 rfl (lv_at hl 0 rfl) ?_
  refine va_get (D := D) (ci := 5) (v := .ref ((ad 10))) (C := RX4) (T := TX4) (N := 21) hx hb hts (by decide +kernel) hown hK hP 0 rfl rfl 14 (by decide) (hts (.fieldLink RX4 38 "TrackDiskModel" "waitTracks" "[I") (by decide +kernel)) (fun _ h9 => h9) rfl dX4_done_2 ?_
  refine lv_iload_n hx hb dX4_done_5 rfl (lv_at hl 1 rfl) ?_
  refine va_iald hx hb hK hP 10 0 rfl rfl (vp_in_nI (by omega) (by omega)) dX4_done_6 ?_
  refine tp_i (y := nI (cl (wt w))) (by rw [nI_clamp (by omega)]; exact hwtk.1) ?_
  refine lv_aload_n hx hb dX4_done_7 rfl (lv_at hl 0 rfl) ?_
  refine va_get (D := D) (ci := 5) (v := .ref ((ad 11))) (C := RX4) (T := TX4) (N := 21) hx hb hts (by decide +kernel) hown hK hP 0 rfl rfl 15 (by decide) (hts (.fieldLink RX4 41 "TrackDiskModel" "waitSectors" "[I") (by decide +kernel)) (fun _ h9 => h9) rfl dX4_done_8 ?_
  refine lv_iload_n hx hb dX4_done_11 rfl (lv_at hl 1 rfl) ?_
  refine va_iald hx hb hK hP 11 0 rfl rfl (vp_in_nI (by omega) (by omega)) dX4_done_12 ?_
  refine tp_i (y := nI (cl (wx w))) (by rw [nI_clamp (by omega)]; exact hwxk.1) ?_
  have hPc := hP.sub (ws' := moW κ T S ad co bs kp sm ks se sp ke kq vo nd wn wt wx wb dn tp tn ts) [0, 1, 2, 3, 4, 5, 6, 7, 8, 9, 10, 11, 12, 13] rfl
  refine pu_call (va_runV (As := [.int (nI (cl (wt w))), .int (nI (cl (wx w)))]) (rest := []) ⟨hx, hb, hml, hown, hts⟩ (m_lies l D κ T S ad co bs kp sm ks se sp ke kq vo nd wn wt wx wb dn tp tn ts hT hse (cl (wt w)) (cl (wx w)) hwtk.2) (cwV 2 hts gX4_done_X4_lies rfl rfl rfl (by decide +kernel) ⟨Nat.le_of_ble_eq_true rfl, Nat.le_of_ble_eq_true rfl⟩) ⟨pu_blind, va_recv hK hPc (ci := 5) (q0 := 0) rfl rfl, pu_pre hK hPc⟩ rfl rfl hl.1 rfl (lv_room (Nat.le_of_ble_eq_true rfl)) dX4_done_13 ⟨Nat.le_of_ble_eq_true rfl, Nat.le_of_ble_eq_true rfl⟩) ?_
  refine lv_istore_n (lv' := [(3, .int (nI (8 * mlF se (cl (wt w)) + cl (wx w)))), (0, .ref ((ad 0))), (1, .int (nI w)), (2, .int (nI n))]) hx hb dX4_done_16 rfl hl (by decide) rfl (fun ls hl => ?_)
  refine lv_iconst (v := nI 0) hx hb dX4_done_17 (by decide) ?_
  refine lv_istore (lv' := [(4, .int (nI 0)), (3, .int (nI (8 * mlF se (cl (wt w)) + cl (wx w)))), (0, .ref ((ad 0))), (1, .int (nI w)), (2, .int (nI n))]) hx hb dX4_done_18 hl (by decide) rfl (fun ls hl => ?_)
  refine W.loop (N := n) (I := fun k ls H locs => lv_has ls 5 [(4, .int (nI k)), (3, .int (nI (8 * mlF se (cl (wt w)) + cl (wx w)))), (0, .ref ((ad 0))), (1, .int (nI w)), (2, .int (nI n))] ∧ va_P D vwCl (moW κ T S ad co (flF bs (16 * (8 * mlF se (cl (wt w)) + cl (wx w))) (wb w) k) kp sm ks se sp ke kq vo nd wn wt wx wb dn tp tn ts) H ∧ va_D A (moW κ T S ad co (flF bs (16 * (8 * mlF se (cl (wt w)) + cl (wx w))) (wb w) k) kp sm ks se sp ke kq vo nd wn wt wx wb dn tp tn ts) ∧ va_S A s.heap H locs) 0 (by omega) (fun k ls H locs hk hI ihk => ?_) (fun ls H locs hI => ?_) ⟨lv_sub hl [0, 1, 2, 3, 4] rfl, hP, hD, hS⟩
  · skip
    clear hl hP hD hS
    obtain ⟨hl, hP, hD, hS⟩ := hI
    refine lv_iload hx hb dX4_done_20 (lv_at hl 0 rfl) ?_
    refine lv_iload_n hx hb dX4_done_22 rfl (lv_at hl 4 rfl) ?_
    refine lv_icmp_ge (tgt := 54) hx hb dX4_done_23 (by decide) (fun c_23 => ?_) (fun c_23 => ?_)
    · exact absurd c_23 (nI_ge hk (by omega))
    · skip
      refine lv_aload_n hx hb dX4_done_26 rfl (lv_at hl 2 rfl) ?_
      refine va_get (D := D) (ci := 5) (v := .ref ((ad 1))) (C := RX4) (T := TX4) (N := 21) hx hb hts (by decide +kernel) hown hK hP 0 rfl rfl 3 (by decide) (hts (.fieldLink RX4 7 "TrackDiskModel" "bytes" "[B") (by decide +kernel)) (fun _ h9 => h9) rfl dX4_done_27 ?_
      refine lv_bipush (v := nI 16) hx hb dX4_done_30 (by decide) ?_
      refine lv_iload_n hx hb dX4_done_32 rfl (lv_at hl 1 rfl) ?_
      refine lv_imul hx hb dX4_done_33 ?_
      refine tp_i (y := nI (16 * (8 * mlF se (cl (wt w)) + cl (wx w)))) (by exact pk_mul _ _) ?_
      refine lv_iload hx hb dX4_done_34 (lv_at hl 0 rfl) ?_
      refine lv_iadd hx hb dX4_done_36 ?_
      refine tp_i (y := nI ((16 * (8 * mlF se (cl (wt w)) + cl (wx w))) + k)) (by exact nI_add _ _) ?_
      refine lv_aload_n hx hb dX4_done_37 rfl (lv_at hl 2 rfl) ?_
      refine va_get (D := D) (ci := 5) (v := .ref ((ad 12))) (C := RX4) (T := TX4) (N := 21) hx hb hts (by decide +kernel) hown hK hP 0 rfl rfl 16 (by decide) (hts (.fieldLink RX4 44 "TrackDiskModel" "waitBytes" "[I") (by decide +kernel)) (fun _ h9 => h9) rfl dX4_done_38 ?_
      refine lv_iload_n hx hb dX4_done_41 rfl (lv_at hl 3 rfl) ?_
      refine va_iald hx hb hK hP 12 0 rfl rfl (vp_in_nI (by omega) (by omega)) dX4_done_42 ?_
      refine tp_i (y := wb w) (by rw [nI_clamp (by omega)]) ?_
      refine lv_iload hx hb dX4_done_43 (lv_at hl 0 rfl) ?_
      refine lv_iadd hx hb dX4_done_45 ?_
      refine lv_i2b (v := (((wb w) + (nI k))).toInt8.toInt32) hx hb dX4_done_46 rfl ?_
      refine va_bast hx hb hK hP hD hS 1 1 rfl rfl (vp_in_nI (by omega) (by omega)) dX4_done_47 (fun H locs hP hD hS => ?_)
      rw [nI_clamp (n := (16 * (8 * mlF se (cl (wt w)) + cl (wx w))) + k) (by omega)] at hP hD
      rw [pk_vb] at hP hD
      have hP : va_P D vwCl (moW κ T S ad co (upd (flF bs (16 * (8 * mlF se (cl (wt w)) + cl (wx w))) (wb w) k) ((16 * (8 * mlF se (cl (wt w)) + cl (wx w))) + k) ((((wb w) + (nI k))).toInt8.toInt32)) kp sm ks se sp ke kq vo nd wn wt wx wb dn tp tn ts) H := hP
      have hD : va_D A (moW κ T S ad co (upd (flF bs (16 * (8 * mlF se (cl (wt w)) + cl (wx w))) (wb w) k) ((16 * (8 * mlF se (cl (wt w)) + cl (wx w))) + k) ((((wb w) + (nI k))).toInt8.toInt32)) kp sm ks se sp ke kq vo nd wn wt wx wb dn tp tn ts) := hD
      refine lv_iinc (v := nI (k + 1)) (lv' := [(4, .int (nI (k + 1))), (3, .int (nI (8 * mlF se (cl (wt w)) + cl (wx w)))), (0, .ref ((ad 0))), (1, .int (nI w)), (2, .int (nI n))]) hx hb dX4_done_48 hl (k := 0) rfl (by exact nI_1 _) (by decide) rfl (fun ls hl => ?_)
      refine lv_goto (tgt := 20) hx hb dX4_done_51 (by decide) ?_
      exact ihk ls H locs ⟨lv_sub hl [0, 1, 2, 3, 4] rfl, hP, hD, hS⟩
  · skip
    clear hl hP hD hS
    obtain ⟨hl, hP, hD, hS⟩ := hI
    refine lv_iload hx hb dX4_done_20 (lv_at hl 0 rfl) ?_
    refine lv_iload_n hx hb dX4_done_22 rfl (lv_at hl 4 rfl) ?_
    refine lv_icmp_ge (tgt := 54) hx hb dX4_done_23 (by decide) (fun c_23 => ?_) (fun c_23 => ?_)
    · skip
      refine lv_aload_n hx hb dX4_done_54 rfl (lv_at hl 2 rfl) ?_
      refine va_get (D := D) (ci := 5) (v := .ref ((ad 6))) (C := RX4) (T := TX4) (N := 21) hx hb hts (by decide +kernel) hown hK hP 0 rfl rfl 8 (by decide) (hts (.fieldLink RX4 26 "TrackDiskModel" "space" "[I") (by decide +kernel)) (fun _ h9 => h9) rfl dX4_done_55 ?_
      refine lv_aload_n hx hb dX4_done_58 rfl (lv_at hl 2 rfl) ?_
      refine va_get (D := D) (ci := 5) (v := .ref ((ad 10))) (C := RX4) (T := TX4) (N := 21) hx hb hts (by decide +kernel) hown hK hP 0 rfl rfl 14 (by decide) (hts (.fieldLink RX4 38 "TrackDiskModel" "waitTracks" "[I") (by decide +kernel)) (fun _ h9 => h9) rfl dX4_done_59 ?_
      refine lv_iload_n hx hb dX4_done_62 rfl (lv_at hl 3 rfl) ?_
      refine va_iald hx hb hK hP 10 0 rfl rfl (vp_in_nI (by omega) (by omega)) dX4_done_63 ?_
      refine tp_i (y := nI (cl (wt w))) (by rw [nI_clamp (by omega)]; exact hwtk.1) ?_
      refine lv_iconst (v := nI 1) hx hb dX4_done_64 (by decide) ?_
      refine va_iast hx hb hK hP hD hS 6 0 rfl rfl (vp_in_nI (by omega) (by omega)) dX4_done_65 (fun H locs hP hD hS => ?_)
      rw [nI_clamp (n := cl (wt w)) (by omega)] at hP hD
      have hP : va_P D vwCl (moW κ T S ad co (flF bs (16 * (8 * mlF se (cl (wt w)) + cl (wx w))) (wb w) n) kp sm ks se (upd (sp) (cl (wt w)) (nI 1)) ke kq vo nd wn wt wx wb dn tp tn ts) H := hP
      have hD : va_D A (moW κ T S ad co (flF bs (16 * (8 * mlF se (cl (wt w)) + cl (wx w))) (wb w) n) kp sm ks se (upd (sp) (cl (wt w)) (nI 1)) ke kq vo nd wn wt wx wb dn tp tn ts) := hD
      have hP9 : va_P D vwCl (moW κ T S ad co (flF bs (16 * (8 * mlF se (cl (wt w)) + cl (wx w))) (wb w) n) kp sm ks se (upd sp (cl (wt w)) (nI 1)) ke kq vo nd wn wt wx wb dn tp tn ts) H := hP
      have hD9 : va_D A (moW κ T S ad co (flF bs (16 * (8 * mlF se (cl (wt w)) + cl (wx w))) (wb w) n) kp sm ks se (upd sp (cl (wt w)) (nI 1)) ke kq vo nd wn wt wx wb dn tp tn ts) := hD
      exact W.vret hx hb hr (fun t ht _ => ⟨⟨rfl, by rw [ht]; exact hP9, hD9⟩, hS.F ht⟩) hS.2.2 dX4_done_66 hlocks
    · exact absurd (nI_le (Nat.le_refl _) (by omega)) c_23

set_option maxHeartbeats 4000000 in
set_option maxRecDepth 100000 in
/-- whole -/
theorem m_whole (l : Launch) (D : va_G) (κ : Nat → ClassId) (sz : Nat) (T S : Nat) (ad : Nat → Nat) (co : Int32) (bs kp sm ks se sp ke kq vo : Nat → Int32) (nd wn : Int32) (wt wx wb : Nat → Int32) (dn : Int32) (tp : Nat → Int32) (tn ts : Int32) (hT : T ≤ 12) (hS8 : S ≤ 8) (hse : ∀ t, t < T → se t = -1 ∨ vp_in (se t) 14) (w : Nat) (hw : w < 40) (hwt : vp_in (wt w) T) (hwx : vp_in (wx w) S)  : Met l yX4_whole wsX4_whole ({ frames := 2, cells := 0, slots := 0, locals := 46 }) (va_Pc [.ref ((ad 0)), .int (nI w)] (mu_B D κ (moW κ T S ad co bs kp sm ks se sp ke kq vo nd wn wt wx wb dn tp tn ts) sz)) (mu_Q D none (moW κ T S ad co (flF bs (16 * (8 * mlF se (cl (wt w)) + cl (wx w))) (wb w) 16) kp (upd sm (8 * mlF se (cl (wt w)) + cl (wx w)) (msA (flF bs (16 * (8 * mlF se (cl (wt w)) + cl (wx w))) (wb w) 16) (8 * mlF se (cl (wt w)) + cl (wx w)))) ks se (upd (upd sp (cl (wt w)) (nI 1)) (12 + cl (wt w)) (nI 1)) ke kq vo nd wn wt wx wb dn tp tn ts) (va_A (moW κ T S ad co bs kp sm ks se sp ke kq vo nd wn wt wx wb dn tp tn ts) sz)) 0 0 (va_A (moW κ T S ad co bs kp sm ks se sp ke kq vo nd wn wt wx wb dn tp tn ts) sz) := by
  refine Met.ofW (cc := cX4_whole) (maxL := 3) (ret := none) (by decide) rfl ?_
  intro p e s m args below meth c s₁ B hml hv
  obtain ⟨rfl, hsz, hP, hK, hD0⟩ := hv
  have hx := B.exec
  have hb := B.bytes
  have hr := B.returns
  have hts := atoms_spec (ws := wsX4_whole) B.pre
  have hown : s.vm.findClass RX4 = some m.cls := findClass_of_methodNamed B.named
  have hlocks := B.notSynchronized
  subst hsz
  have hD := hD0.self (sz := s.heap.size)
  generalize hAe : va_A (moW κ T S ad co bs kp sm ks se sp ke kq vo nd wn wt wx wb dn tp tn ts) s.heap.size = A at hD ⊢
  have hA : ∀ q : Nat, s.heap.size ≤ q → A q := fun q h => by rw [← hAe]; exact Or.inr h
  refine W.gen (P := fun H locs => va_P D vwCl (moW κ T S ad co bs kp sm ks se sp ke kq vo nd wn wt wx wb dn tp tn ts) H ∧ va_S A s.heap H locs) (fun H locs h => ?_) ⟨hP, va_S.rf⟩
  clear hP
  obtain ⟨hP, hS⟩ := h
  have hl := lv_entry ([.ref ((ad 0)), .int (nI w)]) (n := 3) (Nat.le_of_ble_eq_true rfl)
  rw [lg_entry_eq]
  generalize (lg_sl ([.ref ((ad 0)), .int (nI w)]) ++ List.replicate (3 - (lg_sl ([.ref ((ad 0)), .int (nI w)])).length) Slot.unset).toArray = ls at hl ⊢
  have hl : lv_has ls 3 [(0, .ref ((ad 0))), (1, .int (nI w))] := hl
  have hwtk := cl_nI hwt (by omega)
  have hwxk := cl_nI hwx (by omega)
  have hml0 := mlF_lt hT hse hwtk.2
  refine lv_aload_n hx hb dX4_whole_0 rfl (lv_at hl 0 rfl) ?_
  refine lv_iload_n hx hb dX4_whole_1 rfl (lv_at hl 1 rfl) ?_
  refine lv_bipush (v := nI 16) hx hb dX4_whole_2 (by decide) ?_
  have hPc := hP.sub (ws' := moW κ T S ad co bs kp sm ks se sp ke kq vo nd wn wt wx wb dn tp tn ts) [0, 1, 2, 3, 4, 5, 6, 7, 8, 9, 10, 11, 12, 13] rfl
  have hDc := hD.sub (ws' := moW κ T S ad co bs kp sm ks se sp ke kq vo nd wn wt wx wb dn tp tn ts) [0, 1, 2, 3, 4, 5, 6, 7, 8, 9, 10, 11, 12, 13] (by decide) rfl
  refine mu_call (wc := moW κ T S ad co bs kp sm ks se sp ke kq vo nd wn wt wx wb dn tp tn ts) (wc' := moW κ T S ad co (flF bs (16 * (8 * mlF se (cl (wt w)) + cl (wx w))) (wb w) 16) kp sm ks se (upd sp (cl (wt w)) (nI 1)) ke kq vo nd wn wt wx wb dn tp tn ts) (ws' := moW κ T S ad co (flF bs (16 * (8 * mlF se (cl (wt w)) + cl (wx w))) (wb w) 16) kp sm ks se (upd sp (cl (wt w)) (nI 1)) ke kq vo nd wn wt wx wb dn tp tn ts) (wr := (([] : List Nat).filterMap fun i => (moW κ T S ad co bs kp sm ks se sp ke kq vo nd wn wt wx wb dn tp tn ts)[i]?)) (va_runV (As := [.int (nI w), .int (nI 16)]) (rest := []) ⟨hx, hb, hml, hown, hts⟩ (m_done l D κ H.size T S ad co bs kp sm ks se sp ke kq vo nd wn wt wx wb dn tp tn ts hT hS8 hse w hw hwt hwx 16 (by omega)) (cwV 2 hts gX4_whole_X4_done rfl rfl rfl (by decide +kernel) ⟨Nat.le_of_ble_eq_true rfl, Nat.le_of_ble_eq_true rfl⟩) ⟨mu_blind, va_recv hK hPc (ci := 5) (q0 := 0) rfl rfl, mu_pre hK hPc hDc⟩ rfl rfl hl.1 rfl (lv_room (Nat.le_of_ble_eq_true rfl)) dX4_whole_4 ⟨Nat.le_of_ble_eq_true rfl, Nat.le_of_ble_eq_true rfl⟩) hP hD hS hA [0, 1, 2, 3, 4, 5, 6, 7, 8, 9, 10, 11, 12, 13] [] [0, 1, 2, 3, 4, 5, 6, 7, 8, 9, 10, 11, 12, 13] rfl rfl (by decide) (by decide) rfl rfl (by decide) (fun H locs hP hD hS => ?_)
  refine W.eq (g2 := F0 m 7 ls []) rfl ?_
  refine lv_aload_n hx hb dX4_whole_7 rfl (lv_at hl 0 rfl) ?_
  refine lv_aload_n hx hb dX4_whole_8 rfl (lv_at hl 0 rfl) ?_
  refine va_get (D := D) (ci := 5) (v := .ref ((ad 10))) (C := RX4) (T := TX4) (N := 21) hx hb hts (by decide +kernel) hown hK hP 0 rfl rfl 14 (by decide) (hts (.fieldLink RX4 38 "TrackDiskModel" "waitTracks" "[I") (by decide +kernel)) (fun _ h9 => h9) rfl dX4_whole_9 ?_
  refine lv_iload_n hx hb dX4_whole_12 rfl (lv_at hl 1 rfl) ?_
  refine va_iald hx hb hK hP 10 0 rfl rfl (vp_in_nI (by omega) (by omega)) dX4_whole_13 ?_
  refine tp_i (y := nI (cl (wt w))) (by rw [nI_clamp (by omega)]; exact hwtk.1) ?_
  refine lv_aload_n hx hb dX4_whole_14 rfl (lv_at hl 0 rfl) ?_
  refine va_get (D := D) (ci := 5) (v := .ref ((ad 11))) (C := RX4) (T := TX4) (N := 21) hx hb hts (by decide +kernel) hown hK hP 0 rfl rfl 15 (by decide) (hts (.fieldLink RX4 41 "TrackDiskModel" "waitSectors" "[I") (by decide +kernel)) (fun _ h9 => h9) rfl dX4_whole_15 ?_
  refine lv_iload_n hx hb dX4_whole_18 rfl (lv_at hl 1 rfl) ?_
  refine va_iald hx hb hK hP 11 0 rfl rfl (vp_in_nI (by omega) (by omega)) dX4_whole_19 ?_
  refine tp_i (y := nI (cl (wx w))) (by rw [nI_clamp (by omega)]; exact hwxk.1) ?_
  have hPc := hP.sub (ws' := moW κ T S ad co (flF bs (16 * (8 * mlF se (cl (wt w)) + cl (wx w))) (wb w) 16) kp sm ks se (upd sp (cl (wt w)) (nI 1)) ke kq vo nd wn wt wx wb dn tp tn ts) [0, 1, 2, 3, 4, 5, 6, 7, 8, 9, 10, 11, 12, 13] rfl
  refine pu_call (va_runV (As := [.int (nI (cl (wt w))), .int (nI (cl (wx w)))]) (rest := []) ⟨hx, hb, hml, hown, hts⟩ (m_lies l D κ T S ad co (flF bs (16 * (8 * mlF se (cl (wt w)) + cl (wx w))) (wb w) 16) kp sm ks se (upd sp (cl (wt w)) (nI 1)) ke kq vo nd wn wt wx wb dn tp tn ts hT hse (cl (wt w)) (cl (wx w)) hwtk.2) (cwV 2 hts gX4_whole_X4_lies rfl rfl rfl (by decide +kernel) ⟨Nat.le_of_ble_eq_true rfl, Nat.le_of_ble_eq_true rfl⟩) ⟨pu_blind, va_recv hK hPc (ci := 5) (q0 := 0) rfl rfl, pu_pre hK hPc⟩ rfl rfl hl.1 rfl (lv_room (Nat.le_of_ble_eq_true rfl)) dX4_whole_20 ⟨Nat.le_of_ble_eq_true rfl, Nat.le_of_ble_eq_true rfl⟩) ?_
  refine lv_istore_n (lv' := [(2, .int (nI (8 * mlF se (cl (wt w)) + cl (wx w)))), (0, .ref ((ad 0))), (1, .int (nI w))]) hx hb dX4_whole_23 rfl hl (by decide) rfl (fun ls hl => ?_)
  refine lv_aload_n hx hb dX4_whole_24 rfl (lv_at hl 1 rfl) ?_
  refine va_get (D := D) (ci := 5) (v := .ref ((ad 3))) (C := RX4) (T := TX4) (N := 21) hx hb hts (by decide +kernel) hown hK hP 0 rfl rfl 5 (by decide) (hts (.fieldLink RX4 16 "TrackDiskModel" "sums" "[I") (by decide +kernel)) (fun _ h9 => h9) rfl dX4_whole_25 ?_
  refine lv_iload_n hx hb dX4_whole_28 rfl (lv_at hl 0 rfl) ?_
  refine lv_aload_n hx hb dX4_whole_29 rfl (lv_at hl 1 rfl) ?_
  refine lv_iload_n hx hb dX4_whole_30 rfl (lv_at hl 0 rfl) ?_
  have hPc := hP.sub (ws' := moW κ T S ad co (flF bs (16 * (8 * mlF se (cl (wt w)) + cl (wx w))) (wb w) 16) kp sm ks se (upd sp (cl (wt w)) (nI 1)) ke kq vo nd wn wt wx wb dn tp tn ts) [0, 1, 2, 3, 4, 5, 6, 7, 8, 9, 10, 11, 12, 13] rfl
  refine pu_call (va_runV (As := [.int (nI (8 * mlF se (cl (wt w)) + cl (wx w)))]) (rest := [.int (nI (8 * mlF se (cl (wt w)) + cl (wx w))), .ref ((ad 3))]) ⟨hx, hb, hml, hown, hts⟩ (m_sumOf l D κ T S ad co (flF bs (16 * (8 * mlF se (cl (wt w)) + cl (wx w))) (wb w) 16) kp sm ks se (upd sp (cl (wt w)) (nI 1)) ke kq vo nd wn wt wx wb dn tp tn ts (8 * mlF se (cl (wt w)) + cl (wx w)) (by omega)) (cwV 1 hts gX4_whole_X4_sumOf rfl rfl rfl (by decide +kernel) ⟨Nat.le_of_ble_eq_true rfl, Nat.le_of_ble_eq_true rfl⟩) ⟨pu_blind, va_recv hK hPc (ci := 5) (q0 := 0) rfl rfl, pu_pre hK hPc⟩ rfl rfl hl.1 rfl (lv_room (Nat.le_of_ble_eq_true rfl)) dX4_whole_31 ⟨Nat.le_of_ble_eq_true rfl, Nat.le_of_ble_eq_true rfl⟩) ?_
  refine va_iast hx hb hK hP hD hS 3 0 rfl rfl (vp_in_nI (by omega) (by omega)) dX4_whole_34 (fun H locs hP hD hS => ?_)
  rw [nI_clamp (n := 8 * mlF se (cl (wt w)) + cl (wx w)) (by omega)] at hP hD
  have hP : va_P D vwCl (moW κ T S ad co (flF bs (16 * (8 * mlF se (cl (wt w)) + cl (wx w))) (wb w) 16) kp (upd (sm) (8 * mlF se (cl (wt w)) + cl (wx w)) (msA (flF bs (16 * (8 * mlF se (cl (wt w)) + cl (wx w))) (wb w) 16) (8 * mlF se (cl (wt w)) + cl (wx w)))) ks se (upd sp (cl (wt w)) (nI 1)) ke kq vo nd wn wt wx wb dn tp tn ts) H := hP
  have hD : va_D A (moW κ T S ad co (flF bs (16 * (8 * mlF se (cl (wt w)) + cl (wx w))) (wb w) 16) kp (upd (sm) (8 * mlF se (cl (wt w)) + cl (wx w)) (msA (flF bs (16 * (8 * mlF se (cl (wt w)) + cl (wx w))) (wb w) 16) (8 * mlF se (cl (wt w)) + cl (wx w)))) ks se (upd sp (cl (wt w)) (nI 1)) ke kq vo nd wn wt wx wb dn tp tn ts) := hD
  refine lv_aload_n hx hb dX4_whole_35 rfl (lv_at hl 1 rfl) ?_
  refine va_get (D := D) (ci := 5) (v := .ref ((ad 6))) (C := RX4) (T := TX4) (N := 21) hx hb hts (by decide +kernel) hown hK hP 0 rfl rfl 8 (by decide) (hts (.fieldLink RX4 26 "TrackDiskModel" "space" "[I") (by decide +kernel)) (fun _ h9 => h9) rfl dX4_whole_36 ?_
  refine lv_bipush (v := nI 12) hx hb dX4_whole_39 (by decide) ?_
  refine lv_aload_n hx hb dX4_whole_41 rfl (lv_at hl 1 rfl) ?_
  refine va_get (D := D) (ci := 5) (v := .ref ((ad 10))) (C := RX4) (T := TX4) (N := 21) hx hb hts (by decide +kernel) hown hK hP 0 rfl rfl 14 (by decide) (hts (.fieldLink RX4 38 "TrackDiskModel" "waitTracks" "[I") (by decide +kernel)) (fun _ h9 => h9) rfl dX4_whole_42 ?_
  refine lv_iload_n hx hb dX4_whole_45 rfl (lv_at hl 2 rfl) ?_
  refine va_iald hx hb hK hP 10 0 rfl rfl (vp_in_nI (by omega) (by omega)) dX4_whole_46 ?_
  refine tp_i (y := nI (cl (wt w))) (by rw [nI_clamp (by omega)]; exact hwtk.1) ?_
  refine lv_iadd hx hb dX4_whole_47 ?_
  refine tp_i (y := nI (12 + (cl (wt w)))) (by exact nI_add _ _) ?_
  refine lv_iconst (v := nI 1) hx hb dX4_whole_48 (by decide) ?_
  refine va_iast hx hb hK hP hD hS 6 0 rfl rfl (vp_in_nI (by omega) (by omega)) dX4_whole_49 (fun H locs hP hD hS => ?_)
  rw [nI_clamp (n := 12 + (cl (wt w))) (by omega)] at hP hD
  have hP : va_P D vwCl (moW κ T S ad co (flF bs (16 * (8 * mlF se (cl (wt w)) + cl (wx w))) (wb w) 16) kp (upd (sm) (8 * mlF se (cl (wt w)) + cl (wx w)) (msA (flF bs (16 * (8 * mlF se (cl (wt w)) + cl (wx w))) (wb w) 16) (8 * mlF se (cl (wt w)) + cl (wx w)))) ks se (upd (upd sp (cl (wt w)) (nI 1)) (12 + (cl (wt w))) (nI 1)) ke kq vo nd wn wt wx wb dn tp tn ts) H := hP
  have hD : va_D A (moW κ T S ad co (flF bs (16 * (8 * mlF se (cl (wt w)) + cl (wx w))) (wb w) 16) kp (upd (sm) (8 * mlF se (cl (wt w)) + cl (wx w)) (msA (flF bs (16 * (8 * mlF se (cl (wt w)) + cl (wx w))) (wb w) 16) (8 * mlF se (cl (wt w)) + cl (wx w)))) ks se (upd (upd sp (cl (wt w)) (nI 1)) (12 + (cl (wt w))) (nI 1)) ke kq vo nd wn wt wx wb dn tp tn ts) := hD
  have hP9 : va_P D vwCl (moW κ T S ad co (flF bs (16 * (8 * mlF se (cl (wt w)) + cl (wx w))) (wb w) 16) kp (upd sm (8 * mlF se (cl (wt w)) + cl (wx w)) (msA (flF bs (16 * (8 * mlF se (cl (wt w)) + cl (wx w))) (wb w) 16) (8 * mlF se (cl (wt w)) + cl (wx w)))) ks se (upd (upd sp (cl (wt w)) (nI 1)) (12 + cl (wt w)) (nI 1)) ke kq vo nd wn wt wx wb dn tp tn ts) H := hP
  have hD9 : va_D A (moW κ T S ad co (flF bs (16 * (8 * mlF se (cl (wt w)) + cl (wx w))) (wb w) 16) kp (upd sm (8 * mlF se (cl (wt w)) + cl (wx w)) (msA (flF bs (16 * (8 * mlF se (cl (wt w)) + cl (wx w))) (wb w) 16) (8 * mlF se (cl (wt w)) + cl (wx w)))) ks se (upd (upd sp (cl (wt w)) (nI 1)) (12 + cl (wt w)) (nI 1)) ke kq vo nd wn wt wx wb dn tp tn ts) := hD
  exact W.vret hx hb hr (fun t ht _ => ⟨⟨rfl, by rw [ht]; exact hP9, hD9⟩, hS.F ht⟩) hS.2.2 dX4_whole_50 hlocks

set_option maxHeartbeats 4000000 in
set_option maxRecDepth 100000 in
/-- sync: down -/
theorem m_sync_down (l : Launch) (D : va_G) (κ : Nat → ClassId) (sz : Nat) (T S : Nat) (ad : Nat → Nat) (co : Int32) (bs kp sm ks se sp ke kq vo : Nat → Int32) (nd wn : Int32) (wt wx wb : Nat → Int32) (tp : Nat → Int32) (tn ts : Int32)   : Met l yX4_sync wsX4_sync ({ frames := 3, cells := 0, slots := 0, locals := 68 }) (va_Pc [.ref ((ad 0))] (mu_B D κ (moW κ T S ad co bs kp sm ks se sp ke kq vo nd wn wt wx wb (nI 1) tp tn ts) sz)) (mu_Q D (some (.int ((-5)))) (moW κ T S ad (nI 0) bs kp sm ks se sp ke kq vo nd wn wt wx wb (nI 1) tp tn ts) (va_A (moW κ T S ad co bs kp sm ks se sp ke kq vo nd wn wt wx wb (nI 1) tp tn ts) sz)) 0 0 (va_A (moW κ T S ad co bs kp sm ks se sp ke kq vo nd wn wt wx wb (nI 1) tp tn ts) sz) := by
  refine Met.ofW (cc := cX4_sync) (maxL := 2) (ret := (some .int)) (by decide) rfl ?_
  intro p e s m args below meth c s₁ B hml hv
  obtain ⟨rfl, hsz, hP, hK, hD0⟩ := hv
  have hx := B.exec
  have hb := B.bytes
  have hr := B.returns
  have hts := atoms_spec (ws := wsX4_sync) B.pre
  have hown : s.vm.findClass RX4 = some m.cls := findClass_of_methodNamed B.named
  have hlocks := B.notSynchronized
  subst hsz
  have hD := hD0.self (sz := s.heap.size)
  generalize hAe : va_A (moW κ T S ad co bs kp sm ks se sp ke kq vo nd wn wt wx wb (nI 1) tp tn ts) s.heap.size = A at hD ⊢
  have hA : ∀ q : Nat, s.heap.size ≤ q → A q := fun q h => by rw [← hAe]; exact Or.inr h
  refine W.gen (P := fun H locs => va_P D vwCl (moW κ T S ad co bs kp sm ks se sp ke kq vo nd wn wt wx wb (nI 1) tp tn ts) H ∧ va_S A s.heap H locs) (fun H locs h => ?_) ⟨hP, va_S.rf⟩
  clear hP
  obtain ⟨hP, hS⟩ := h
  have hl := lv_entry ([.ref ((ad 0))]) (n := 2) (Nat.le_of_ble_eq_true rfl)
  rw [lg_entry_eq]
  generalize (lg_sl ([.ref ((ad 0))]) ++ List.replicate (2 - (lg_sl ([.ref ((ad 0))])).length) Slot.unset).toArray = ls at hl ⊢
  have hl : lv_has ls 2 [(0, .ref ((ad 0)))] := hl
  refine lv_aload_n hx hb dX4_sync_0 rfl (lv_at hl 0 rfl) ?_
  refine lv_iconst (v := nI 0) hx hb dX4_sync_1 (by decide) ?_
  refine va_put (D := D) (ci := 5) (v := .int (nI 0)) (ty := .int) (C := RX4) (T := TX4) (N := 21) hx hb hts (by decide +kernel) tyX4 tyX4_ok nmX4 hown hK hP hD hS 0 rfl rfl 0 (by decide) (hts (.fieldLink RX4 61 "TrackDiskModel" "code" "I") (by decide +kernel)) (fun _ h9 => h9) rfl (by decide +kernel) rfl rfl (Nat.le_of_ble_eq_true rfl) dX4_sync_2 (fun H locs hP hD hS => ?_)
  have hP : va_P D vwCl (moW κ T S ad (nI 0) bs kp sm ks se sp ke kq vo nd wn wt wx wb (nI 1) tp tn ts) H := hP
  have hD : va_D A (moW κ T S ad (nI 0) bs kp sm ks se sp ke kq vo nd wn wt wx wb (nI 1) tp tn ts) := hD
  refine lv_aload_n hx hb dX4_sync_5 rfl (lv_at hl 0 rfl) ?_
  refine va_get (D := D) (ci := 5) (v := .int (nI 1)) (C := RX4) (T := TX4) (N := 21) hx hb hts (by decide +kernel) hown hK hP 0 rfl rfl 17 (by decide) (hts (.fieldLink RX4 73 "TrackDiskModel" "down" "Z") (by decide +kernel)) (fun _ h9 => h9) rfl dX4_sync_6 ?_
  refine lv_if_eq (tgt := 15) hx hb dX4_sync_9 (by decide) (fun c_9 => ?_) (fun c_9 => ?_)
  · exact absurd c_9 (by decide)
  · skip
    refine lv_bipush (v := (-5)) hx hb dX4_sync_12 (by decide) ?_
    have hP9 : va_P D vwCl (moW κ T S ad (nI 0) bs kp sm ks se sp ke kq vo nd wn wt wx wb (nI 1) tp tn ts) H := hP
    have hD9 : va_D A (moW κ T S ad (nI 0) bs kp sm ks se sp ke kq vo nd wn wt wx wb (nI 1) tp tn ts) := hD
    exact W.iret hx hb hr (fun t ht _ => ⟨⟨rfl, by rw [ht]; exact hP9, hD9⟩, hS.F ht⟩) hS.2.2 dX4_sync_14 hlocks

set_option maxHeartbeats 4000000 in
set_option maxRecDepth 100000 in
/-- sync -/
theorem m_sync (l : Launch) (D : va_G) (κ : Nat → ClassId) (sz : Nat) (T S : Nat) (ad : Nat → Nat) (co : Int32) (bs kp sm ks se sp ke kq vo : Nat → Int32) (nd : Int32) (wt wx wb : Nat → Int32) (tp : Nat → Int32) (tn ts : Int32)  (hT : T ≤ 12) (hS8 : S ≤ 8) (hse : ∀ t, t < T → se t = -1 ∨ vp_in (se t) 14) (n : Nat) (hn : n ≤ 40) (hwt : ∀ k, k < n → vp_in (wt k) T) (hwx : ∀ k, k < n → vp_in (wx k) S)  : Met l yX4_sync wsX4_sync ({ frames := 3, cells := 0, slots := 0, locals := 68 }) (va_Pc [.ref ((ad 0))] (mu_B D κ (moW κ T S ad co bs kp sm ks se sp ke kq vo nd (nI n) wt wx wb (nI 0) tp tn ts) sz)) (mu_Q D (some (.int (nI n))) (moW κ T S ad (nI 0) ((mwF se wt wx wb (bs, sm, sp) n).1) kp ((mwF se wt wx wb (bs, sm, sp) n).2.1) ks se ((mwF se wt wx wb (bs, sm, sp) n).2.2) ke kq vo nd (nI 0) wt wx wb (nI 0) tp tn ts) (va_A (moW κ T S ad co bs kp sm ks se sp ke kq vo nd (nI n) wt wx wb (nI 0) tp tn ts) sz)) 0 0 (va_A (moW κ T S ad co bs kp sm ks se sp ke kq vo nd (nI n) wt wx wb (nI 0) tp tn ts) sz) := by
  refine Met.ofW (cc := cX4_sync) (maxL := 2) (ret := (some .int)) (by decide) rfl ?_
  intro p e s m args below meth c s₁ B hml hv
  obtain ⟨rfl, hsz, hP, hK, hD0⟩ := hv
  have hx := B.exec
  have hb := B.bytes
  have hr := B.returns
  have hts := atoms_spec (ws := wsX4_sync) B.pre
  have hown : s.vm.findClass RX4 = some m.cls := findClass_of_methodNamed B.named
  have hlocks := B.notSynchronized
  subst hsz
  have hD := hD0.self (sz := s.heap.size)
  generalize hAe : va_A (moW κ T S ad co bs kp sm ks se sp ke kq vo nd (nI n) wt wx wb (nI 0) tp tn ts) s.heap.size = A at hD ⊢
  have hA : ∀ q : Nat, s.heap.size ≤ q → A q := fun q h => by rw [← hAe]; exact Or.inr h
  refine W.gen (P := fun H locs => va_P D vwCl (moW κ T S ad co bs kp sm ks se sp ke kq vo nd (nI n) wt wx wb (nI 0) tp tn ts) H ∧ va_S A s.heap H locs) (fun H locs h => ?_) ⟨hP, va_S.rf⟩
  clear hP
  obtain ⟨hP, hS⟩ := h
  have hl := lv_entry ([.ref ((ad 0))]) (n := 2) (Nat.le_of_ble_eq_true rfl)
  rw [lg_entry_eq]
  generalize (lg_sl ([.ref ((ad 0))]) ++ List.replicate (2 - (lg_sl ([.ref ((ad 0))])).length) Slot.unset).toArray = ls at hl ⊢
  have hl : lv_has ls 2 [(0, .ref ((ad 0)))] := hl
  refine lv_aload_n hx hb dX4_sync_0 rfl (lv_at hl 0 rfl) ?_
  refine lv_iconst (v := nI 0) hx hb dX4_sync_1 (by decide) ?_
  refine va_put (D := D) (ci := 5) (v := .int (nI 0)) (ty := .int) (C := RX4) (T := TX4) (N := 21) hx hb hts (by decide +kernel) tyX4 tyX4_ok nmX4 hown hK hP hD hS 0 rfl rfl 0 (by decide) (hts (.fieldLink RX4 61 "TrackDiskModel" "code" "I") (by decide +kernel)) (fun _ h9 => h9) rfl (by decide +kernel) rfl rfl (Nat.le_of_ble_eq_true rfl) dX4_sync_2 (fun H locs hP hD hS => ?_)
  have hP : va_P D vwCl (moW κ T S ad (nI 0) bs kp sm ks se sp ke kq vo nd (nI n) wt wx wb (nI 0) tp tn ts) H := hP
  have hD : va_D A (moW κ T S ad (nI 0) bs kp sm ks se sp ke kq vo nd (nI n) wt wx wb (nI 0) tp tn ts) := hD
  refine lv_aload_n hx hb dX4_sync_5 rfl (lv_at hl 0 rfl) ?_
  refine va_get (D := D) (ci := 5) (v := .int (nI 0)) (C := RX4) (T := TX4) (N := 21) hx hb hts (by decide +kernel) hown hK hP 0 rfl rfl 17 (by decide) (hts (.fieldLink RX4 73 "TrackDiskModel" "down" "Z") (by decide +kernel)) (fun _ h9 => h9) rfl dX4_sync_6 ?_
  refine lv_if_eq (tgt := 15) hx hb dX4_sync_9 (by decide) (fun c_9 => ?_) (fun c_9 => ?_)
  · skip
    refine lv_iconst (v := nI 0) hx hb dX4_sync_15 (by decide) ?_
    refine lv_istore_n (lv' := [(1, .int (nI 0)), (0, .ref ((ad 0)))]) hx hb dX4_sync_16 rfl hl (by decide) rfl (fun ls hl => ?_)
    refine W.loop (N := n) (I := fun k ls H locs => lv_has ls 2 [(1, .int (nI k)), (0, .ref ((ad 0)))] ∧ va_P D vwCl (moW κ T S ad (nI 0) ((mwF se wt wx wb (bs, sm, sp) k).1) kp ((mwF se wt wx wb (bs, sm, sp) k).2.1) ks se ((mwF se wt wx wb (bs, sm, sp) k).2.2) ke kq vo nd (nI n) wt wx wb (nI 0) tp tn ts) H ∧ va_D A (moW κ T S ad (nI 0) ((mwF se wt wx wb (bs, sm, sp) k).1) kp ((mwF se wt wx wb (bs, sm, sp) k).2.1) ks se ((mwF se wt wx wb (bs, sm, sp) k).2.2) ke kq vo nd (nI n) wt wx wb (nI 0) tp tn ts) ∧ va_S A s.heap H locs) 0 (by omega) (fun k ls H locs hk hI ihk => ?_) (fun ls H locs hI => ?_) ⟨lv_sub hl [0, 1] rfl, hP, hD, hS⟩
    · skip
      clear hl hP hD hS
      obtain ⟨hl, hP, hD, hS⟩ := hI
      refine lv_iload_n hx hb dX4_sync_17 rfl (lv_at hl 0 rfl) ?_
      refine lv_aload_n hx hb dX4_sync_18 rfl (lv_at hl 1 rfl) ?_
      refine va_get (D := D) (ci := 5) (v := .int (nI n)) (C := RX4) (T := TX4) (N := 21) hx hb hts (by decide +kernel) hown hK hP 0 rfl rfl 13 (by decide) (hts (.fieldLink RX4 77 "TrackDiskModel" "waiting" "I") (by decide +kernel)) (fun _ h9 => h9) rfl dX4_sync_19 ?_
      refine lv_icmp_ge (tgt := 36) hx hb dX4_sync_22 (by decide) (fun c_22 => ?_) (fun c_22 => ?_)
      · exact absurd c_22 (nI_ge hk (by omega))
      · skip
        refine lv_aload_n hx hb dX4_sync_25 rfl (lv_at hl 1 rfl) ?_
        refine lv_iload_n hx hb dX4_sync_26 rfl (lv_at hl 0 rfl) ?_
        have hPc := hP.sub (ws' := moW κ T S ad (nI 0) ((mwF se wt wx wb (bs, sm, sp) k).1) kp ((mwF se wt wx wb (bs, sm, sp) k).2.1) ks se ((mwF se wt wx wb (bs, sm, sp) k).2.2) ke kq vo nd (nI n) wt wx wb (nI 0) tp tn ts) [0, 1, 2, 3, 4, 5, 6, 7, 8, 9, 10, 11, 12, 13] rfl
        have hDc := hD.sub (ws' := moW κ T S ad (nI 0) ((mwF se wt wx wb (bs, sm, sp) k).1) kp ((mwF se wt wx wb (bs, sm, sp) k).2.1) ks se ((mwF se wt wx wb (bs, sm, sp) k).2.2) ke kq vo nd (nI n) wt wx wb (nI 0) tp tn ts) [0, 1, 2, 3, 4, 5, 6, 7, 8, 9, 10, 11, 12, 13] (by decide) rfl
        refine mu_call (wc := moW κ T S ad (nI 0) ((mwF se wt wx wb (bs, sm, sp) k).1) kp ((mwF se wt wx wb (bs, sm, sp) k).2.1) ks se ((mwF se wt wx wb (bs, sm, sp) k).2.2) ke kq vo nd (nI n) wt wx wb (nI 0) tp tn ts) (wc' := moW κ T S ad (nI 0) (flF (mwF se wt wx wb (bs, sm, sp) k).1 (16 * (8 * mlF se (cl (wt k)) + cl (wx k))) (wb k) 16) kp (upd (mwF se wt wx wb (bs, sm, sp) k).2.1 (8 * mlF se (cl (wt k)) + cl (wx k)) (msA (flF (mwF se wt wx wb (bs, sm, sp) k).1 (16 * (8 * mlF se (cl (wt k)) + cl (wx k))) (wb k) 16) (8 * mlF se (cl (wt k)) + cl (wx k)))) ks se (upd (upd (mwF se wt wx wb (bs, sm, sp) k).2.2 (cl (wt k)) (nI 1)) (12 + cl (wt k)) (nI 1)) ke kq vo nd (nI n) wt wx wb (nI 0) tp tn ts) (ws' := moW κ T S ad (nI 0) (flF (mwF se wt wx wb (bs, sm, sp) k).1 (16 * (8 * mlF se (cl (wt k)) + cl (wx k))) (wb k) 16) kp (upd (mwF se wt wx wb (bs, sm, sp) k).2.1 (8 * mlF se (cl (wt k)) + cl (wx k)) (msA (flF (mwF se wt wx wb (bs, sm, sp) k).1 (16 * (8 * mlF se (cl (wt k)) + cl (wx k))) (wb k) 16) (8 * mlF se (cl (wt k)) + cl (wx k)))) ks se (upd (upd (mwF se wt wx wb (bs, sm, sp) k).2.2 (cl (wt k)) (nI 1)) (12 + cl (wt k)) (nI 1)) ke kq vo nd (nI n) wt wx wb (nI 0) tp tn ts) (wr := (([] : List Nat).filterMap fun i => (moW κ T S ad (nI 0) ((mwF se wt wx wb (bs, sm, sp) k).1) kp ((mwF se wt wx wb (bs, sm, sp) k).2.1) ks se ((mwF se wt wx wb (bs, sm, sp) k).2.2) ke kq vo nd (nI n) wt wx wb (nI 0) tp tn ts)[i]?)) (va_runV (As := [.int (nI k)]) (rest := []) ⟨hx, hb, hml, hown, hts⟩ (m_whole l D κ H.size T S ad (nI 0) ((mwF se wt wx wb (bs, sm, sp) k).1) kp ((mwF se wt wx wb (bs, sm, sp) k).2.1) ks se ((mwF se wt wx wb (bs, sm, sp) k).2.2) ke kq vo nd (nI n) wt wx wb (nI 0) tp tn ts hT hS8 hse k (by omega) (hwt k hk) (hwx k hk)) (cwV 1 hts gX4_sync_X4_whole rfl rfl rfl (by decide +kernel) ⟨Nat.le_of_ble_eq_true rfl, Nat.le_of_ble_eq_true rfl⟩) ⟨mu_blind, va_recv hK hPc (ci := 5) (q0 := 0) rfl rfl, mu_pre hK hPc hDc⟩ rfl rfl hl.1 rfl (lv_room (Nat.le_of_ble_eq_true rfl)) dX4_sync_27 ⟨Nat.le_of_ble_eq_true rfl, Nat.le_of_ble_eq_true rfl⟩) hP hD hS hA [0, 1, 2, 3, 4, 5, 6, 7, 8, 9, 10, 11, 12, 13] [] [0, 1, 2, 3, 4, 5, 6, 7, 8, 9, 10, 11, 12, 13] rfl rfl (by decide) (by decide) rfl rfl (by decide) (fun H locs hP hD hS => ?_)
        refine W.eq (g2 := F0 m 30 ls []) rfl ?_
        refine lv_iinc (v := nI (k + 1)) (lv' := [(1, .int (nI (k + 1))), (0, .ref ((ad 0)))]) hx hb dX4_sync_30 hl (k := 0) rfl (by exact nI_1 _) (by decide) rfl (fun ls hl => ?_)
        refine lv_goto (tgt := 17) hx hb dX4_sync_33 (by decide) ?_
        exact ihk ls H locs ⟨lv_sub hl [0, 1] rfl, hP, hD, hS⟩
    · skip
      clear hl hP hD hS
      obtain ⟨hl, hP, hD, hS⟩ := hI
      refine lv_iload_n hx hb dX4_sync_17 rfl (lv_at hl 0 rfl) ?_
      refine lv_aload_n hx hb dX4_sync_18 rfl (lv_at hl 1 rfl) ?_
      refine va_get (D := D) (ci := 5) (v := .int (nI n)) (C := RX4) (T := TX4) (N := 21) hx hb hts (by decide +kernel) hown hK hP 0 rfl rfl 13 (by decide) (hts (.fieldLink RX4 77 "TrackDiskModel" "waiting" "I") (by decide +kernel)) (fun _ h9 => h9) rfl dX4_sync_19 ?_
      refine lv_icmp_ge (tgt := 36) hx hb dX4_sync_22 (by decide) (fun c_22 => ?_) (fun c_22 => ?_)
      · skip
        refine lv_aload_n hx hb dX4_sync_36 rfl (lv_at hl 1 rfl) ?_
        refine va_get (D := D) (ci := 5) (v := .int (nI n)) (C := RX4) (T := TX4) (N := 21) hx hb hts (by decide +kernel) hown hK hP 0 rfl rfl 13 (by decide) (hts (.fieldLink RX4 77 "TrackDiskModel" "waiting" "I") (by decide +kernel)) (fun _ h9 => h9) rfl dX4_sync_37 ?_
        refine lv_istore_n (lv' := [(1, .int (nI n)), (0, .ref ((ad 0)))]) hx hb dX4_sync_40 rfl hl (by decide) rfl (fun ls hl => ?_)
        refine lv_aload_n hx hb dX4_sync_41 rfl (lv_at hl 1 rfl) ?_
        refine lv_iconst (v := nI 0) hx hb dX4_sync_42 (by decide) ?_
        refine va_put (D := D) (ci := 5) (v := .int (nI 0)) (ty := .int) (C := RX4) (T := TX4) (N := 21) hx hb hts (by decide +kernel) tyX4 tyX4_ok nmX4 hown hK hP hD hS 0 rfl rfl 13 (by decide) (hts (.fieldLink RX4 77 "TrackDiskModel" "waiting" "I") (by decide +kernel)) (fun _ h9 => h9) rfl (by decide +kernel) rfl rfl (Nat.le_of_ble_eq_true rfl) dX4_sync_43 (fun H locs hP hD hS => ?_)
        have hP : va_P D vwCl (moW κ T S ad (nI 0) ((mwF se wt wx wb (bs, sm, sp) n).1) kp ((mwF se wt wx wb (bs, sm, sp) n).2.1) ks se ((mwF se wt wx wb (bs, sm, sp) n).2.2) ke kq vo nd (nI 0) wt wx wb (nI 0) tp tn ts) H := hP
        have hD : va_D A (moW κ T S ad (nI 0) ((mwF se wt wx wb (bs, sm, sp) n).1) kp ((mwF se wt wx wb (bs, sm, sp) n).2.1) ks se ((mwF se wt wx wb (bs, sm, sp) n).2.2) ke kq vo nd (nI 0) wt wx wb (nI 0) tp tn ts) := hD
        refine lv_iload_n hx hb dX4_sync_46 rfl (lv_at hl 0 rfl) ?_
        have hP9 : va_P D vwCl (moW κ T S ad (nI 0) ((mwF se wt wx wb (bs, sm, sp) n).1) kp ((mwF se wt wx wb (bs, sm, sp) n).2.1) ks se ((mwF se wt wx wb (bs, sm, sp) n).2.2) ke kq vo nd (nI 0) wt wx wb (nI 0) tp tn ts) H := hP
        have hD9 : va_D A (moW κ T S ad (nI 0) ((mwF se wt wx wb (bs, sm, sp) n).1) kp ((mwF se wt wx wb (bs, sm, sp) n).2.1) ks se ((mwF se wt wx wb (bs, sm, sp) n).2.2) ke kq vo nd (nI 0) wt wx wb (nI 0) tp tn ts) := hD
        exact W.iret hx hb hr (fun t ht _ => ⟨⟨rfl, by rw [ht]; exact hP9, hD9⟩, hS.F ht⟩) hS.2.2 dX4_sync_47 hlocks
      · exact absurd (nI_le (Nat.le_refl _) (by omega)) c_22
  · exact absurd (by decide) c_9

set_option maxHeartbeats 4000000 in
set_option maxRecDepth 100000 in
/-- cut: down -/
theorem m_cut_down (l : Launch) (D : va_G) (κ : Nat → ClassId) (sz : Nat) (T S : Nat) (ad : Nat → Nat) (co : Int32) (bs kp sm ks se sp ke kq vo : Nat → Int32) (nd wn : Int32) (wt wx wb : Nat → Int32) (tp : Nat → Int32) (tn ts : Int32)  (x y : Int32) : Met l yX4_cut wsX4_cut ({ frames := 3, cells := 0, slots := 0, locals := 68 }) (va_Pc [.ref ((ad 0)), .int x, .int y] (mu_B D κ (moW κ T S ad co bs kp sm ks se sp ke kq vo nd wn wt wx wb (nI 1) tp tn ts) sz)) (mu_Q D none (moW κ T S ad (nI 0) bs kp sm ks se sp ke kq vo nd wn wt wx wb (nI 1) tp tn ts) (va_A (moW κ T S ad co bs kp sm ks se sp ke kq vo nd wn wt wx wb (nI 1) tp tn ts) sz)) 0 0 (va_A (moW κ T S ad co bs kp sm ks se sp ke kq vo nd wn wt wx wb (nI 1) tp tn ts) sz) := by
  refine Met.ofW (cc := cX4_cut) (maxL := 5) (ret := none) (by decide) rfl ?_
  intro p e s m args below meth c s₁ B hml hv
  obtain ⟨rfl, hsz, hP, hK, hD0⟩ := hv
  have hx := B.exec
  have hb := B.bytes
  have hr := B.returns
  have hts := atoms_spec (ws := wsX4_cut) B.pre
  have hown : s.vm.findClass RX4 = some m.cls := findClass_of_methodNamed B.named
  have hlocks := B.notSynchronized
  subst hsz
  have hD := hD0.self (sz := s.heap.size)
  generalize hAe : va_A (moW κ T S ad co bs kp sm ks se sp ke kq vo nd wn wt wx wb (nI 1) tp tn ts) s.heap.size = A at hD ⊢
  have hA : ∀ q : Nat, s.heap.size ≤ q → A q := fun q h => by rw [← hAe]; exact Or.inr h
  refine W.gen (P := fun H locs => va_P D vwCl (moW κ T S ad co bs kp sm ks se sp ke kq vo nd wn wt wx wb (nI 1) tp tn ts) H ∧ va_S A s.heap H locs) (fun H locs h => ?_) ⟨hP, va_S.rf⟩
  clear hP
  obtain ⟨hP, hS⟩ := h
  have hl := lv_entry ([.ref ((ad 0)), .int x, .int y]) (n := 5) (Nat.le_of_ble_eq_true rfl)
  rw [lg_entry_eq]
  generalize (lg_sl ([.ref ((ad 0)), .int x, .int y]) ++ List.replicate (5 - (lg_sl ([.ref ((ad 0)), .int x, .int y])).length) Slot.unset).toArray = ls at hl ⊢
  have hl : lv_has ls 5 [(0, .ref ((ad 0))), (1, .int x), (2, .int y)] := hl
  refine lv_aload_n hx hb dX4_cut_0 rfl (lv_at hl 0 rfl) ?_
  refine lv_iconst (v := nI 0) hx hb dX4_cut_1 (by decide) ?_
  refine va_put (D := D) (ci := 5) (v := .int (nI 0)) (ty := .int) (C := RX4) (T := TX4) (N := 21) hx hb hts (by decide +kernel) tyX4 tyX4_ok nmX4 hown hK hP hD hS 0 rfl rfl 0 (by decide) (hts (.fieldLink RX4 61 "TrackDiskModel" "code" "I") (by decide +kernel)) (fun _ h9 => h9) rfl (by decide +kernel) rfl rfl (Nat.le_of_ble_eq_true rfl) dX4_cut_2 (fun H locs hP hD hS => ?_)
  have hP : va_P D vwCl (moW κ T S ad (nI 0) bs kp sm ks se sp ke kq vo nd wn wt wx wb (nI 1) tp tn ts) H := hP
  have hD : va_D A (moW κ T S ad (nI 0) bs kp sm ks se sp ke kq vo nd wn wt wx wb (nI 1) tp tn ts) := hD
  refine lv_aload_n hx hb dX4_cut_5 rfl (lv_at hl 0 rfl) ?_
  refine va_get (D := D) (ci := 5) (v := .int (nI 1)) (C := RX4) (T := TX4) (N := 21) hx hb hts (by decide +kernel) hown hK hP 0 rfl rfl 17 (by decide) (hts (.fieldLink RX4 73 "TrackDiskModel" "down" "Z") (by decide +kernel)) (fun _ h9 => h9) rfl dX4_cut_6 ?_
  refine lv_if_eq (tgt := 13) hx hb dX4_cut_9 (by decide) (fun c_9 => ?_) (fun c_9 => ?_)
  · exact absurd c_9 (by decide)
  · skip
    have hP9 : va_P D vwCl (moW κ T S ad (nI 0) bs kp sm ks se sp ke kq vo nd wn wt wx wb (nI 1) tp tn ts) H := hP
    have hD9 : va_D A (moW κ T S ad (nI 0) bs kp sm ks se sp ke kq vo nd wn wt wx wb (nI 1) tp tn ts) := hD
    exact W.vret hx hb hr (fun t ht _ => ⟨⟨rfl, by rw [ht]; exact hP9, hD9⟩, hS.F ht⟩) hS.2.2 dX4_cut_12 hlocks

set_option maxHeartbeats 4000000 in
set_option maxRecDepth 100000 in
/-- cut: all -/
theorem m_cut_all (l : Launch) (D : va_G) (κ : Nat → ClassId) (sz : Nat) (T S : Nat) (ad : Nat → Nat) (co : Int32) (bs kp sm ks se sp ke kq vo : Nat → Int32) (nd : Int32) (wt wx wb : Nat → Int32) (tp : Nat → Int32) (tn ts : Int32)  (hT : T ≤ 12) (hS8 : S ≤ 8) (hse : ∀ t, t < T → se t = -1 ∨ vp_in (se t) 14) (w : Nat) (hw : w ≤ 40) (hwt : ∀ k, k < w → vp_in (wt k) T) (hwx : ∀ k, k < w → vp_in (wx k) S) (x y : Int32) (n : Nat) (hj : hdF x (nI 0) (nI w) = nI n) (hnw : n = w) : Met l yX4_cut wsX4_cut ({ frames := 3, cells := 0, slots := 0, locals := 68 }) (va_Pc [.ref ((ad 0)), .int x, .int y] (mu_B D κ (moW κ T S ad co bs kp sm ks se sp ke kq vo nd (nI w) wt wx wb (nI 0) tp tn ts) sz)) (mu_Q D none (moW κ T S ad (nI 0) ((mwF se wt wx wb (bs, sm, sp) n).1) kp ((mwF se wt wx wb (bs, sm, sp) n).2.1) ks se ((mwF se wt wx wb (bs, sm, sp) n).2.2) ke kq vo nd (nI 0) wt wx wb (nI 1) tp tn ts) (va_A (moW κ T S ad co bs kp sm ks se sp ke kq vo nd (nI w) wt wx wb (nI 0) tp tn ts) sz)) 0 0 (va_A (moW κ T S ad co bs kp sm ks se sp ke kq vo nd (nI w) wt wx wb (nI 0) tp tn ts) sz) := by
  refine Met.ofW (cc := cX4_cut) (maxL := 5) (ret := none) (by decide) rfl ?_
  intro p e s m args below meth c s₁ B hml hv
  obtain ⟨rfl, hsz, hP, hK, hD0⟩ := hv
  have hx := B.exec
  have hb := B.bytes
  have hr := B.returns
  have hts := atoms_spec (ws := wsX4_cut) B.pre
  have hown : s.vm.findClass RX4 = some m.cls := findClass_of_methodNamed B.named
  have hlocks := B.notSynchronized
  subst hsz
  have hD := hD0.self (sz := s.heap.size)
  generalize hAe : va_A (moW κ T S ad co bs kp sm ks se sp ke kq vo nd (nI w) wt wx wb (nI 0) tp tn ts) s.heap.size = A at hD ⊢
  have hA : ∀ q : Nat, s.heap.size ≤ q → A q := fun q h => by rw [← hAe]; exact Or.inr h
  refine W.gen (P := fun H locs => va_P D vwCl (moW κ T S ad co bs kp sm ks se sp ke kq vo nd (nI w) wt wx wb (nI 0) tp tn ts) H ∧ va_S A s.heap H locs) (fun H locs h => ?_) ⟨hP, va_S.rf⟩
  clear hP
  obtain ⟨hP, hS⟩ := h
  have hl := lv_entry ([.ref ((ad 0)), .int x, .int y]) (n := 5) (Nat.le_of_ble_eq_true rfl)
  rw [lg_entry_eq]
  generalize (lg_sl ([.ref ((ad 0)), .int x, .int y]) ++ List.replicate (5 - (lg_sl ([.ref ((ad 0)), .int x, .int y])).length) Slot.unset).toArray = ls at hl ⊢
  have hl : lv_has ls 5 [(0, .ref ((ad 0))), (1, .int x), (2, .int y)] := hl
  refine lv_aload_n hx hb dX4_cut_0 rfl (lv_at hl 0 rfl) ?_
  refine lv_iconst (v := nI 0) hx hb dX4_cut_1 (by decide) ?_
  refine va_put (D := D) (ci := 5) (v := .int (nI 0)) (ty := .int) (C := RX4) (T := TX4) (N := 21) hx hb hts (by decide +kernel) tyX4 tyX4_ok nmX4 hown hK hP hD hS 0 rfl rfl 0 (by decide) (hts (.fieldLink RX4 61 "TrackDiskModel" "code" "I") (by decide +kernel)) (fun _ h9 => h9) rfl (by decide +kernel) rfl rfl (Nat.le_of_ble_eq_true rfl) dX4_cut_2 (fun H locs hP hD hS => ?_)
  have hP : va_P D vwCl (moW κ T S ad (nI 0) bs kp sm ks se sp ke kq vo nd (nI w) wt wx wb (nI 0) tp tn ts) H := hP
  have hD : va_D A (moW κ T S ad (nI 0) bs kp sm ks se sp ke kq vo nd (nI w) wt wx wb (nI 0) tp tn ts) := hD
  refine lv_aload_n hx hb dX4_cut_5 rfl (lv_at hl 0 rfl) ?_
  refine va_get (D := D) (ci := 5) (v := .int (nI 0)) (C := RX4) (T := TX4) (N := 21) hx hb hts (by decide +kernel) hown hK hP 0 rfl rfl 17 (by decide) (hts (.fieldLink RX4 73 "TrackDiskModel" "down" "Z") (by decide +kernel)) (fun _ h9 => h9) rfl dX4_cut_6 ?_
  refine lv_if_eq (tgt := 13) hx hb dX4_cut_9 (by decide) (fun c_9 => ?_) (fun c_9 => ?_)
  · skip
    refine W.cut2 (g2 := F0 m 37 ls [.int (nI n)]) ?_ (fun K37 => ?_)
    · skip
      refine lv_istore_n (lv' := [(3, .int (nI n)), (0, .ref ((ad 0))), (1, .int x), (2, .int y)]) hx hb dX4_cut_37 rfl hl (by decide) rfl (fun ls hl => ?_)
      refine lv_iconst (v := nI 0) hx hb dX4_cut_38 (by decide) ?_
      refine lv_istore (lv' := [(4, .int (nI 0)), (3, .int (nI n)), (0, .ref ((ad 0))), (1, .int x), (2, .int y)]) hx hb dX4_cut_39 hl (by decide) rfl (fun ls hl => ?_)
      refine W.loop (N := n) (I := fun k ls H locs => lv_has ls 5 [(4, .int (nI k)), (3, .int (nI n)), (0, .ref ((ad 0))), (1, .int x), (2, .int y)] ∧ va_P D vwCl (moW κ T S ad (nI 0) ((mwF se wt wx wb (bs, sm, sp) k).1) kp ((mwF se wt wx wb (bs, sm, sp) k).2.1) ks se ((mwF se wt wx wb (bs, sm, sp) k).2.2) ke kq vo nd (nI w) wt wx wb (nI 0) tp tn ts) H ∧ va_D A (moW κ T S ad (nI 0) ((mwF se wt wx wb (bs, sm, sp) k).1) kp ((mwF se wt wx wb (bs, sm, sp) k).2.1) ks se ((mwF se wt wx wb (bs, sm, sp) k).2.2) ke kq vo nd (nI w) wt wx wb (nI 0) tp tn ts) ∧ va_S A s.heap H locs) 0 (by omega) (fun k ls H locs hk hI ihk => ?_) (fun ls H locs hI => ?_) ⟨lv_sub hl [0, 1, 2, 3, 4] rfl, hP, hD, hS⟩
      · skip
        clear hl hP hD hS
        obtain ⟨hl, hP, hD, hS⟩ := hI
        refine lv_iload hx hb dX4_cut_41 (lv_at hl 0 rfl) ?_
        refine lv_iload_n hx hb dX4_cut_43 rfl (lv_at hl 1 rfl) ?_
        refine lv_icmp_ge (tgt := 59) hx hb dX4_cut_44 (by decide) (fun c_44 => ?_) (fun c_44 => ?_)
        · exact absurd c_44 (nI_ge hk (by omega))
        · skip
          refine lv_aload_n hx hb dX4_cut_47 rfl (lv_at hl 2 rfl) ?_
          refine lv_iload hx hb dX4_cut_48 (lv_at hl 0 rfl) ?_
          have hPc := hP.sub (ws' := moW κ T S ad (nI 0) ((mwF se wt wx wb (bs, sm, sp) k).1) kp ((mwF se wt wx wb (bs, sm, sp) k).2.1) ks se ((mwF se wt wx wb (bs, sm, sp) k).2.2) ke kq vo nd (nI w) wt wx wb (nI 0) tp tn ts) [0, 1, 2, 3, 4, 5, 6, 7, 8, 9, 10, 11, 12, 13] rfl
          have hDc := hD.sub (ws' := moW κ T S ad (nI 0) ((mwF se wt wx wb (bs, sm, sp) k).1) kp ((mwF se wt wx wb (bs, sm, sp) k).2.1) ks se ((mwF se wt wx wb (bs, sm, sp) k).2.2) ke kq vo nd (nI w) wt wx wb (nI 0) tp tn ts) [0, 1, 2, 3, 4, 5, 6, 7, 8, 9, 10, 11, 12, 13] (by decide) rfl
          refine mu_call (wc := moW κ T S ad (nI 0) ((mwF se wt wx wb (bs, sm, sp) k).1) kp ((mwF se wt wx wb (bs, sm, sp) k).2.1) ks se ((mwF se wt wx wb (bs, sm, sp) k).2.2) ke kq vo nd (nI w) wt wx wb (nI 0) tp tn ts) (wc' := moW κ T S ad (nI 0) (flF (mwF se wt wx wb (bs, sm, sp) k).1 (16 * (8 * mlF se (cl (wt k)) + cl (wx k))) (wb k) 16) kp (upd (mwF se wt wx wb (bs, sm, sp) k).2.1 (8 * mlF se (cl (wt k)) + cl (wx k)) (msA (flF (mwF se wt wx wb (bs, sm, sp) k).1 (16 * (8 * mlF se (cl (wt k)) + cl (wx k))) (wb k) 16) (8 * mlF se (cl (wt k)) + cl (wx k)))) ks se (upd (upd (mwF se wt wx wb (bs, sm, sp) k).2.2 (cl (wt k)) (nI 1)) (12 + cl (wt k)) (nI 1)) ke kq vo nd (nI w) wt wx wb (nI 0) tp tn ts) (ws' := moW κ T S ad (nI 0) (flF (mwF se wt wx wb (bs, sm, sp) k).1 (16 * (8 * mlF se (cl (wt k)) + cl (wx k))) (wb k) 16) kp (upd (mwF se wt wx wb (bs, sm, sp) k).2.1 (8 * mlF se (cl (wt k)) + cl (wx k)) (msA (flF (mwF se wt wx wb (bs, sm, sp) k).1 (16 * (8 * mlF se (cl (wt k)) + cl (wx k))) (wb k) 16) (8 * mlF se (cl (wt k)) + cl (wx k)))) ks se (upd (upd (mwF se wt wx wb (bs, sm, sp) k).2.2 (cl (wt k)) (nI 1)) (12 + cl (wt k)) (nI 1)) ke kq vo nd (nI w) wt wx wb (nI 0) tp tn ts) (wr := (([] : List Nat).filterMap fun i => (moW κ T S ad (nI 0) ((mwF se wt wx wb (bs, sm, sp) k).1) kp ((mwF se wt wx wb (bs, sm, sp) k).2.1) ks se ((mwF se wt wx wb (bs, sm, sp) k).2.2) ke kq vo nd (nI w) wt wx wb (nI 0) tp tn ts)[i]?)) (va_runV (As := [.int (nI k)]) (rest := []) ⟨hx, hb, hml, hown, hts⟩ (m_whole l D κ H.size T S ad (nI 0) ((mwF se wt wx wb (bs, sm, sp) k).1) kp ((mwF se wt wx wb (bs, sm, sp) k).2.1) ks se ((mwF se wt wx wb (bs, sm, sp) k).2.2) ke kq vo nd (nI w) wt wx wb (nI 0) tp tn ts hT hS8 hse k (by omega) (hwt k (by omega)) (hwx k (by omega))) (cwV 1 hts gX4_cut_X4_whole rfl rfl rfl (by decide +kernel) ⟨Nat.le_of_ble_eq_true rfl, Nat.le_of_ble_eq_true rfl⟩) ⟨mu_blind, va_recv hK hPc (ci := 5) (q0 := 0) rfl rfl, mu_pre hK hPc hDc⟩ rfl rfl hl.1 rfl (lv_room (Nat.le_of_ble_eq_true rfl)) dX4_cut_50 ⟨Nat.le_of_ble_eq_true rfl, Nat.le_of_ble_eq_true rfl⟩) hP hD hS hA [0, 1, 2, 3, 4, 5, 6, 7, 8, 9, 10, 11, 12, 13] [] [0, 1, 2, 3, 4, 5, 6, 7, 8, 9, 10, 11, 12, 13] rfl rfl (by decide) (by decide) rfl rfl (by decide) (fun H locs hP hD hS => ?_)
          refine W.eq (g2 := F0 m 53 ls []) rfl ?_
          refine lv_iinc (v := nI (k + 1)) (lv' := [(4, .int (nI (k + 1))), (3, .int (nI n)), (0, .ref ((ad 0))), (1, .int x), (2, .int y)]) hx hb dX4_cut_53 hl (k := 0) rfl (by exact nI_1 _) (by decide) rfl (fun ls hl => ?_)
          refine lv_goto (tgt := 41) hx hb dX4_cut_56 (by decide) ?_
          exact ihk ls H locs ⟨lv_sub hl [0, 1, 2, 3, 4] rfl, hP, hD, hS⟩
      · skip
        clear hl hP hD hS
        obtain ⟨hl, hP, hD, hS⟩ := hI
        refine lv_iload hx hb dX4_cut_41 (lv_at hl 0 rfl) ?_
        refine lv_iload_n hx hb dX4_cut_43 rfl (lv_at hl 1 rfl) ?_
        refine lv_icmp_ge (tgt := 59) hx hb dX4_cut_44 (by decide) (fun c_44 => ?_) (fun c_44 => ?_)
        · skip
          refine lv_iload_n hx hb dX4_cut_59 rfl (lv_at hl 1 rfl) ?_
          refine lv_aload_n hx hb dX4_cut_60 rfl (lv_at hl 2 rfl) ?_
          refine va_get (D := D) (ci := 5) (v := .int (nI w)) (C := RX4) (T := TX4) (N := 21) hx hb hts (by decide +kernel) hown hK hP 0 rfl rfl 13 (by decide) (hts (.fieldLink RX4 77 "TrackDiskModel" "waiting" "I") (by decide +kernel)) (fun _ h9 => h9) rfl dX4_cut_61 ?_
          refine lv_icmp_ge (tgt := 92) hx hb dX4_cut_64 (by decide) (fun c_64 => ?_) (fun c_64 => ?_)
          · skip
            refine lv_aload_n hx hb dX4_cut_92 rfl (lv_at hl 2 rfl) ?_
            refine lv_iconst (v := nI 0) hx hb dX4_cut_93 (by decide) ?_
            refine va_put (D := D) (ci := 5) (v := .int (nI 0)) (ty := .int) (C := RX4) (T := TX4) (N := 21) hx hb hts (by decide +kernel) tyX4 tyX4_ok nmX4 hown hK hP hD hS 0 rfl rfl 13 (by decide) (hts (.fieldLink RX4 77 "TrackDiskModel" "waiting" "I") (by decide +kernel)) (fun _ h9 => h9) rfl (by decide +kernel) rfl rfl (Nat.le_of_ble_eq_true rfl) dX4_cut_94 (fun H locs hP hD hS => ?_)
            have hP : va_P D vwCl (moW κ T S ad (nI 0) ((mwF se wt wx wb (bs, sm, sp) n).1) kp ((mwF se wt wx wb (bs, sm, sp) n).2.1) ks se ((mwF se wt wx wb (bs, sm, sp) n).2.2) ke kq vo nd (nI 0) wt wx wb (nI 0) tp tn ts) H := hP
            have hD : va_D A (moW κ T S ad (nI 0) ((mwF se wt wx wb (bs, sm, sp) n).1) kp ((mwF se wt wx wb (bs, sm, sp) n).2.1) ks se ((mwF se wt wx wb (bs, sm, sp) n).2.2) ke kq vo nd (nI 0) wt wx wb (nI 0) tp tn ts) := hD
            refine lv_aload_n hx hb dX4_cut_97 rfl (lv_at hl 2 rfl) ?_
            refine lv_iconst (v := nI 1) hx hb dX4_cut_98 (by decide) ?_
            refine va_put (D := D) (ci := 5) (v := .int (nI 1)) (ty := .boolean) (C := RX4) (T := TX4) (N := 21) hx hb hts (by decide +kernel) tyX4 tyX4_ok nmX4 hown hK hP hD hS 0 rfl rfl 17 (by decide) (hts (.fieldLink RX4 73 "TrackDiskModel" "down" "Z") (by decide +kernel)) (fun _ h9 => h9) rfl (by decide +kernel) rfl rfl (Nat.le_of_ble_eq_true rfl) dX4_cut_99 (fun H locs hP hD hS => ?_)
            have hP : va_P D vwCl (moW κ T S ad (nI 0) ((mwF se wt wx wb (bs, sm, sp) n).1) kp ((mwF se wt wx wb (bs, sm, sp) n).2.1) ks se ((mwF se wt wx wb (bs, sm, sp) n).2.2) ke kq vo nd (nI 0) wt wx wb (nI 1) tp tn ts) H := hP
            have hD : va_D A (moW κ T S ad (nI 0) ((mwF se wt wx wb (bs, sm, sp) n).1) kp ((mwF se wt wx wb (bs, sm, sp) n).2.1) ks se ((mwF se wt wx wb (bs, sm, sp) n).2.2) ke kq vo nd (nI 0) wt wx wb (nI 1) tp tn ts) := hD
            have hP9 : va_P D vwCl (moW κ T S ad (nI 0) ((mwF se wt wx wb (bs, sm, sp) n).1) kp ((mwF se wt wx wb (bs, sm, sp) n).2.1) ks se ((mwF se wt wx wb (bs, sm, sp) n).2.2) ke kq vo nd (nI 0) wt wx wb (nI 1) tp tn ts) H := hP
            have hD9 : va_D A (moW κ T S ad (nI 0) ((mwF se wt wx wb (bs, sm, sp) n).1) kp ((mwF se wt wx wb (bs, sm, sp) n).2.1) ks se ((mwF se wt wx wb (bs, sm, sp) n).2.2) ke kq vo nd (nI 0) wt wx wb (nI 1) tp tn ts) := hD
            exact W.vret hx hb hr (fun t ht _ => ⟨⟨rfl, by rw [ht]; exact hP9, hD9⟩, hS.F ht⟩) hS.2.2 dX4_cut_102 hlocks
          · exact absurd (nI_le (Nat.le_of_eq hnw.symm) (by omega)) c_64
        · exact absurd (nI_le (Nat.le_refl _) (by omega)) c_44
    · skip
      refine lv_iload_n hx hb dX4_cut_13 rfl (lv_at hl 1 rfl) ?_
      refine lv_if_ge (tgt := 21) hx hb dX4_cut_14 (by decide) (fun c_14 => ?_) (fun c_14 => ?_)
      · skip
        refine lv_iload_n hx hb dX4_cut_21 rfl (lv_at hl 1 rfl) ?_
        refine lv_aload_n hx hb dX4_cut_22 rfl (lv_at hl 0 rfl) ?_
        refine va_get (D := D) (ci := 5) (v := .int (nI w)) (C := RX4) (T := TX4) (N := 21) hx hb hts (by decide +kernel) hown hK hP 0 rfl rfl 13 (by decide) (hts (.fieldLink RX4 77 "TrackDiskModel" "waiting" "I") (by decide +kernel)) (fun _ h9 => h9) rfl dX4_cut_23 ?_
        refine lv_icmp_le (tgt := 36) hx hb dX4_cut_26 (by decide) (fun c_26 => ?_) (fun c_26 => ?_)
        · skip
          refine lv_iload_n hx hb dX4_cut_36 rfl (lv_at hl 1 rfl) ?_
          refine tp_i (y := nI n) (by rw [← hj]; first | exact (hd_lo (Int32.not_le.mp c_14) (nI_le (Nat.zero_le _) (by omega))).symm | exact (hd_hi (Int32.not_le.mp c_26) (nI_le (Nat.zero_le _) (by omega))).symm | exact (hd_in c_14 c_26).symm) ?_
          exact K37
        · skip
          refine lv_aload_n hx hb dX4_cut_29 rfl (lv_at hl 0 rfl) ?_
          refine va_get (D := D) (ci := 5) (v := .int (nI w)) (C := RX4) (T := TX4) (N := 21) hx hb hts (by decide +kernel) hown hK hP 0 rfl rfl 13 (by decide) (hts (.fieldLink RX4 77 "TrackDiskModel" "waiting" "I") (by decide +kernel)) (fun _ h9 => h9) rfl dX4_cut_30 ?_
          refine lv_goto (tgt := 37) hx hb dX4_cut_33 (by decide) ?_
          refine tp_i (y := nI n) (by rw [← hj]; first | exact (hd_lo (Int32.not_le.mp c_14) (nI_le (Nat.zero_le _) (by omega))).symm | exact (hd_hi (Int32.not_le.mp c_26) (nI_le (Nat.zero_le _) (by omega))).symm | exact (hd_in c_14 c_26).symm) ?_
          exact K37
      · skip
        refine lv_iconst (v := nI 0) hx hb dX4_cut_17 (by decide) ?_
        refine lv_goto (tgt := 37) hx hb dX4_cut_18 (by decide) ?_
        refine tp_i (y := nI n) (by rw [← hj]; first | exact (hd_lo (Int32.not_le.mp c_14) (nI_le (Nat.zero_le _) (by omega))).symm | exact (hd_hi (Int32.not_le.mp c_26) (nI_le (Nat.zero_le _) (by omega))).symm | exact (hd_in c_14 c_26).symm) ?_
        exact K37
  · exact absurd (by decide) c_9

set_option maxHeartbeats 4000000 in
set_option maxRecDepth 100000 in
/-- cut: torn -/
theorem m_cut (l : Launch) (D : va_G) (κ : Nat → ClassId) (sz : Nat) (T S : Nat) (ad : Nat → Nat) (co : Int32) (bs kp sm ks se sp ke kq vo : Nat → Int32) (nd : Int32) (wt wx wb : Nat → Int32) (tp : Nat → Int32) (tn ts : Int32)  (hT : T ≤ 12) (hS8 : S ≤ 8) (hse : ∀ t, t < T → se t = -1 ∨ vp_in (se t) 14) (w : Nat) (hw : w ≤ 40) (hwt : ∀ k, k < w → vp_in (wt k) T) (hwx : ∀ k, k < w → vp_in (wx k) S) (x y : Int32) (n : Nat) (hj : hdF x (nI 0) (nI w) = nI n) (hnw : n < w) (g : Nat) (hg : hdF y (nI 0) (nI 16) = nI g) (hg6 : g ≤ 16) : Met l yX4_cut wsX4_cut ({ frames := 3, cells := 0, slots := 0, locals := 68 }) (va_Pc [.ref ((ad 0)), .int x, .int y] (mu_B D κ (moW κ T S ad co bs kp sm ks se sp ke kq vo nd (nI w) wt wx wb (nI 0) tp tn ts) sz)) (mu_Q D none (moW κ T S ad (nI 0) (flF (mwF se wt wx wb (bs, sm, sp) n).1 (16 * (8 * mlF se (cl (wt n)) + cl (wx n))) (wb n) g) kp ((mwF se wt wx wb (bs, sm, sp) n).2.1) ks se (upd (mwF se wt wx wb (bs, sm, sp) n).2.2 (cl (wt n)) (nI 1)) ke kq vo nd (nI 0) wt wx wb (nI 1) tp tn ts) (va_A (moW κ T S ad co bs kp sm ks se sp ke kq vo nd (nI w) wt wx wb (nI 0) tp tn ts) sz)) 0 0 (va_A (moW κ T S ad co bs kp sm ks se sp ke kq vo nd (nI w) wt wx wb (nI 0) tp tn ts) sz) := by
  refine Met.ofW (cc := cX4_cut) (maxL := 5) (ret := none) (by decide) rfl ?_
  intro p e s m args below meth c s₁ B hml hv
  obtain ⟨rfl, hsz, hP, hK, hD0⟩ := hv
  have hx := B.exec
  have hb := B.bytes
  have hr := B.returns
  have hts := atoms_spec (ws := wsX4_cut) B.pre
  have hown : s.vm.findClass RX4 = some m.cls := findClass_of_methodNamed B.named
  have hlocks := B.notSynchronized
  subst hsz
  have hD := hD0.self (sz := s.heap.size)
  generalize hAe : va_A (moW κ T S ad co bs kp sm ks se sp ke kq vo nd (nI w) wt wx wb (nI 0) tp tn ts) s.heap.size = A at hD ⊢
  have hA : ∀ q : Nat, s.heap.size ≤ q → A q := fun q h => by rw [← hAe]; exact Or.inr h
  refine W.gen (P := fun H locs => va_P D vwCl (moW κ T S ad co bs kp sm ks se sp ke kq vo nd (nI w) wt wx wb (nI 0) tp tn ts) H ∧ va_S A s.heap H locs) (fun H locs h => ?_) ⟨hP, va_S.rf⟩
  clear hP
  obtain ⟨hP, hS⟩ := h
  have hl := lv_entry ([.ref ((ad 0)), .int x, .int y]) (n := 5) (Nat.le_of_ble_eq_true rfl)
  rw [lg_entry_eq]
  generalize (lg_sl ([.ref ((ad 0)), .int x, .int y]) ++ List.replicate (5 - (lg_sl ([.ref ((ad 0)), .int x, .int y])).length) Slot.unset).toArray = ls at hl ⊢
  have hl : lv_has ls 5 [(0, .ref ((ad 0))), (1, .int x), (2, .int y)] := hl
  refine lv_aload_n hx hb dX4_cut_0 rfl (lv_at hl 0 rfl) ?_
  refine lv_iconst (v := nI 0) hx hb dX4_cut_1 (by decide) ?_
  refine va_put (D := D) (ci := 5) (v := .int (nI 0)) (ty := .int) (C := RX4) (T := TX4) (N := 21) hx hb hts (by decide +kernel) tyX4 tyX4_ok nmX4 hown hK hP hD hS 0 rfl rfl 0 (by decide) (hts (.fieldLink RX4 61 "TrackDiskModel" "code" "I") (by decide +kernel)) (fun _ h9 => h9) rfl (by decide +kernel) rfl rfl (Nat.le_of_ble_eq_true rfl) dX4_cut_2 (fun H locs hP hD hS => ?_)
  have hP : va_P D vwCl (moW κ T S ad (nI 0) bs kp sm ks se sp ke kq vo nd (nI w) wt wx wb (nI 0) tp tn ts) H := hP
  have hD : va_D A (moW κ T S ad (nI 0) bs kp sm ks se sp ke kq vo nd (nI w) wt wx wb (nI 0) tp tn ts) := hD
  refine lv_aload_n hx hb dX4_cut_5 rfl (lv_at hl 0 rfl) ?_
  refine va_get (D := D) (ci := 5) (v := .int (nI 0)) (C := RX4) (T := TX4) (N := 21) hx hb hts (by decide +kernel) hown hK hP 0 rfl rfl 17 (by decide) (hts (.fieldLink RX4 73 "TrackDiskModel" "down" "Z") (by decide +kernel)) (fun _ h9 => h9) rfl dX4_cut_6 ?_
  refine lv_if_eq (tgt := 13) hx hb dX4_cut_9 (by decide) (fun c_9 => ?_) (fun c_9 => ?_)
  · skip
    refine W.cut2 (g2 := F0 m 37 ls [.int (nI n)]) ?_ (fun K37 => ?_)
    · skip
      refine lv_istore_n (lv' := [(3, .int (nI n)), (0, .ref ((ad 0))), (1, .int x), (2, .int y)]) hx hb dX4_cut_37 rfl hl (by decide) rfl (fun ls hl => ?_)
      refine lv_iconst (v := nI 0) hx hb dX4_cut_38 (by decide) ?_
      refine lv_istore (lv' := [(4, .int (nI 0)), (3, .int (nI n)), (0, .ref ((ad 0))), (1, .int x), (2, .int y)]) hx hb dX4_cut_39 hl (by decide) rfl (fun ls hl => ?_)
      refine W.loop (N := n) (I := fun k ls H locs => lv_has ls 5 [(4, .int (nI k)), (3, .int (nI n)), (0, .ref ((ad 0))), (1, .int x), (2, .int y)] ∧ va_P D vwCl (moW κ T S ad (nI 0) ((mwF se wt wx wb (bs, sm, sp) k).1) kp ((mwF se wt wx wb (bs, sm, sp) k).2.1) ks se ((mwF se wt wx wb (bs, sm, sp) k).2.2) ke kq vo nd (nI w) wt wx wb (nI 0) tp tn ts) H ∧ va_D A (moW κ T S ad (nI 0) ((mwF se wt wx wb (bs, sm, sp) k).1) kp ((mwF se wt wx wb (bs, sm, sp) k).2.1) ks se ((mwF se wt wx wb (bs, sm, sp) k).2.2) ke kq vo nd (nI w) wt wx wb (nI 0) tp tn ts) ∧ va_S A s.heap H locs) 0 (by omega) (fun k ls H locs hk hI ihk => ?_) (fun ls H locs hI => ?_) ⟨lv_sub hl [0, 1, 2, 3, 4] rfl, hP, hD, hS⟩
      · skip
        clear hl hP hD hS
        obtain ⟨hl, hP, hD, hS⟩ := hI
        refine lv_iload hx hb dX4_cut_41 (lv_at hl 0 rfl) ?_
        refine lv_iload_n hx hb dX4_cut_43 rfl (lv_at hl 1 rfl) ?_
        refine lv_icmp_ge (tgt := 59) hx hb dX4_cut_44 (by decide) (fun c_44 => ?_) (fun c_44 => ?_)
        · exact absurd c_44 (nI_ge hk (by omega))
        · skip
          refine lv_aload_n hx hb dX4_cut_47 rfl (lv_at hl 2 rfl) ?_
          refine lv_iload hx hb dX4_cut_48 (lv_at hl 0 rfl) ?_
          have hPc := hP.sub (ws' := moW κ T S ad (nI 0) ((mwF se wt wx wb (bs, sm, sp) k).1) kp ((mwF se wt wx wb (bs, sm, sp) k).2.1) ks se ((mwF se wt wx wb (bs, sm, sp) k).2.2) ke kq vo nd (nI w) wt wx wb (nI 0) tp tn ts) [0, 1, 2, 3, 4, 5, 6, 7, 8, 9, 10, 11, 12, 13] rfl
          have hDc := hD.sub (ws' := moW κ T S ad (nI 0) ((mwF se wt wx wb (bs, sm, sp) k).1) kp ((mwF se wt wx wb (bs, sm, sp) k).2.1) ks se ((mwF se wt wx wb (bs, sm, sp) k).2.2) ke kq vo nd (nI w) wt wx wb (nI 0) tp tn ts) [0, 1, 2, 3, 4, 5, 6, 7, 8, 9, 10, 11, 12, 13] (by decide) rfl
          refine mu_call (wc := moW κ T S ad (nI 0) ((mwF se wt wx wb (bs, sm, sp) k).1) kp ((mwF se wt wx wb (bs, sm, sp) k).2.1) ks se ((mwF se wt wx wb (bs, sm, sp) k).2.2) ke kq vo nd (nI w) wt wx wb (nI 0) tp tn ts) (wc' := moW κ T S ad (nI 0) (flF (mwF se wt wx wb (bs, sm, sp) k).1 (16 * (8 * mlF se (cl (wt k)) + cl (wx k))) (wb k) 16) kp (upd (mwF se wt wx wb (bs, sm, sp) k).2.1 (8 * mlF se (cl (wt k)) + cl (wx k)) (msA (flF (mwF se wt wx wb (bs, sm, sp) k).1 (16 * (8 * mlF se (cl (wt k)) + cl (wx k))) (wb k) 16) (8 * mlF se (cl (wt k)) + cl (wx k)))) ks se (upd (upd (mwF se wt wx wb (bs, sm, sp) k).2.2 (cl (wt k)) (nI 1)) (12 + cl (wt k)) (nI 1)) ke kq vo nd (nI w) wt wx wb (nI 0) tp tn ts) (ws' := moW κ T S ad (nI 0) (flF (mwF se wt wx wb (bs, sm, sp) k).1 (16 * (8 * mlF se (cl (wt k)) + cl (wx k))) (wb k) 16) kp (upd (mwF se wt wx wb (bs, sm, sp) k).2.1 (8 * mlF se (cl (wt k)) + cl (wx k)) (msA (flF (mwF se wt wx wb (bs, sm, sp) k).1 (16 * (8 * mlF se (cl (wt k)) + cl (wx k))) (wb k) 16) (8 * mlF se (cl (wt k)) + cl (wx k)))) ks se (upd (upd (mwF se wt wx wb (bs, sm, sp) k).2.2 (cl (wt k)) (nI 1)) (12 + cl (wt k)) (nI 1)) ke kq vo nd (nI w) wt wx wb (nI 0) tp tn ts) (wr := (([] : List Nat).filterMap fun i => (moW κ T S ad (nI 0) ((mwF se wt wx wb (bs, sm, sp) k).1) kp ((mwF se wt wx wb (bs, sm, sp) k).2.1) ks se ((mwF se wt wx wb (bs, sm, sp) k).2.2) ke kq vo nd (nI w) wt wx wb (nI 0) tp tn ts)[i]?)) (va_runV (As := [.int (nI k)]) (rest := []) ⟨hx, hb, hml, hown, hts⟩ (m_whole l D κ H.size T S ad (nI 0) ((mwF se wt wx wb (bs, sm, sp) k).1) kp ((mwF se wt wx wb (bs, sm, sp) k).2.1) ks se ((mwF se wt wx wb (bs, sm, sp) k).2.2) ke kq vo nd (nI w) wt wx wb (nI 0) tp tn ts hT hS8 hse k (by omega) (hwt k (by omega)) (hwx k (by omega))) (cwV 1 hts gX4_cut_X4_whole rfl rfl rfl (by decide +kernel) ⟨Nat.le_of_ble_eq_true rfl, Nat.le_of_ble_eq_true rfl⟩) ⟨mu_blind, va_recv hK hPc (ci := 5) (q0 := 0) rfl rfl, mu_pre hK hPc hDc⟩ rfl rfl hl.1 rfl (lv_room (Nat.le_of_ble_eq_true rfl)) dX4_cut_50 ⟨Nat.le_of_ble_eq_true rfl, Nat.le_of_ble_eq_true rfl⟩) hP hD hS hA [0, 1, 2, 3, 4, 5, 6, 7, 8, 9, 10, 11, 12, 13] [] [0, 1, 2, 3, 4, 5, 6, 7, 8, 9, 10, 11, 12, 13] rfl rfl (by decide) (by decide) rfl rfl (by decide) (fun H locs hP hD hS => ?_)
          refine W.eq (g2 := F0 m 53 ls []) rfl ?_
          refine lv_iinc (v := nI (k + 1)) (lv' := [(4, .int (nI (k + 1))), (3, .int (nI n)), (0, .ref ((ad 0))), (1, .int x), (2, .int y)]) hx hb dX4_cut_53 hl (k := 0) rfl (by exact nI_1 _) (by decide) rfl (fun ls hl => ?_)
          refine lv_goto (tgt := 41) hx hb dX4_cut_56 (by decide) ?_
          exact ihk ls H locs ⟨lv_sub hl [0, 1, 2, 3, 4] rfl, hP, hD, hS⟩
      · skip
        clear hl hP hD hS
        obtain ⟨hl, hP, hD, hS⟩ := hI
        refine lv_iload hx hb dX4_cut_41 (lv_at hl 0 rfl) ?_
        refine lv_iload_n hx hb dX4_cut_43 rfl (lv_at hl 1 rfl) ?_
        refine lv_icmp_ge (tgt := 59) hx hb dX4_cut_44 (by decide) (fun c_44 => ?_) (fun c_44 => ?_)
        · skip
          refine lv_iload_n hx hb dX4_cut_59 rfl (lv_at hl 1 rfl) ?_
          refine lv_aload_n hx hb dX4_cut_60 rfl (lv_at hl 2 rfl) ?_
          refine va_get (D := D) (ci := 5) (v := .int (nI w)) (C := RX4) (T := TX4) (N := 21) hx hb hts (by decide +kernel) hown hK hP 0 rfl rfl 13 (by decide) (hts (.fieldLink RX4 77 "TrackDiskModel" "waiting" "I") (by decide +kernel)) (fun _ h9 => h9) rfl dX4_cut_61 ?_
          refine lv_icmp_ge (tgt := 92) hx hb dX4_cut_64 (by decide) (fun c_64 => ?_) (fun c_64 => ?_)
          · exact absurd c_64 (nI_ge hnw (by omega))
          · skip
            refine lv_aload_n hx hb dX4_cut_67 rfl (lv_at hl 2 rfl) ?_
            refine lv_iload_n hx hb dX4_cut_68 rfl (lv_at hl 1 rfl) ?_
            refine W.cut2 (g2 := F0 m 89 ls [.int (nI g), .int (nI n), .ref ((ad 0))]) ?_ (fun K89 => ?_)
            · skip
              have hPc := hP.sub (ws' := moW κ T S ad (nI 0) ((mwF se wt wx wb (bs, sm, sp) n).1) kp ((mwF se wt wx wb (bs, sm, sp) n).2.1) ks se ((mwF se wt wx wb (bs, sm, sp) n).2.2) ke kq vo nd (nI w) wt wx wb (nI 0) tp tn ts) [0, 1, 2, 3, 4, 5, 6, 7, 8, 9, 10, 11, 12, 13] rfl
              have hDc := hD.sub (ws' := moW κ T S ad (nI 0) ((mwF se wt wx wb (bs, sm, sp) n).1) kp ((mwF se wt wx wb (bs, sm, sp) n).2.1) ks se ((mwF se wt wx wb (bs, sm, sp) n).2.2) ke kq vo nd (nI w) wt wx wb (nI 0) tp tn ts) [0, 1, 2, 3, 4, 5, 6, 7, 8, 9, 10, 11, 12, 13] (by decide) rfl
              refine mu_call (wc := moW κ T S ad (nI 0) ((mwF se wt wx wb (bs, sm, sp) n).1) kp ((mwF se wt wx wb (bs, sm, sp) n).2.1) ks se ((mwF se wt wx wb (bs, sm, sp) n).2.2) ke kq vo nd (nI w) wt wx wb (nI 0) tp tn ts) (wc' := moW κ T S ad (nI 0) (flF (mwF se wt wx wb (bs, sm, sp) n).1 (16 * (8 * mlF se (cl (wt n)) + cl (wx n))) (wb n) g) kp ((mwF se wt wx wb (bs, sm, sp) n).2.1) ks se (upd (mwF se wt wx wb (bs, sm, sp) n).2.2 (cl (wt n)) (nI 1)) ke kq vo nd (nI w) wt wx wb (nI 0) tp tn ts) (ws' := moW κ T S ad (nI 0) (flF (mwF se wt wx wb (bs, sm, sp) n).1 (16 * (8 * mlF se (cl (wt n)) + cl (wx n))) (wb n) g) kp ((mwF se wt wx wb (bs, sm, sp) n).2.1) ks se (upd (mwF se wt wx wb (bs, sm, sp) n).2.2 (cl (wt n)) (nI 1)) ke kq vo nd (nI w) wt wx wb (nI 0) tp tn ts) (wr := (([] : List Nat).filterMap fun i => (moW κ T S ad (nI 0) ((mwF se wt wx wb (bs, sm, sp) n).1) kp ((mwF se wt wx wb (bs, sm, sp) n).2.1) ks se ((mwF se wt wx wb (bs, sm, sp) n).2.2) ke kq vo nd (nI w) wt wx wb (nI 0) tp tn ts)[i]?)) (va_runV (As := [.int (nI n), .int (nI g)]) (rest := []) ⟨hx, hb, hml, hown, hts⟩ (m_done l D κ H.size T S ad (nI 0) ((mwF se wt wx wb (bs, sm, sp) n).1) kp ((mwF se wt wx wb (bs, sm, sp) n).2.1) ks se ((mwF se wt wx wb (bs, sm, sp) n).2.2) ke kq vo nd (nI w) wt wx wb (nI 0) tp tn ts hT hS8 hse n (by omega) (hwt n hnw) (hwx n hnw) g hg6) (cwV 2 hts gX4_cut_X4_done rfl rfl rfl (by decide +kernel) ⟨Nat.le_of_ble_eq_true rfl, Nat.le_of_ble_eq_true rfl⟩) ⟨mu_blind, va_recv hK hPc (ci := 5) (q0 := 0) rfl rfl, mu_pre hK hPc hDc⟩ rfl rfl hl.1 rfl (lv_room (Nat.le_of_ble_eq_true rfl)) dX4_cut_89 ⟨Nat.le_of_ble_eq_true rfl, Nat.le_of_ble_eq_true rfl⟩) hP hD hS hA [0, 1, 2, 3, 4, 5, 6, 7, 8, 9, 10, 11, 12, 13] [] [0, 1, 2, 3, 4, 5, 6, 7, 8, 9, 10, 11, 12, 13] rfl rfl (by decide) (by decide) rfl rfl (by decide) (fun H locs hP hD hS => ?_)
              refine W.eq (g2 := F0 m 92 ls []) rfl ?_
              refine lv_aload_n hx hb dX4_cut_92 rfl (lv_at hl 2 rfl) ?_
              refine lv_iconst (v := nI 0) hx hb dX4_cut_93 (by decide) ?_
              refine va_put (D := D) (ci := 5) (v := .int (nI 0)) (ty := .int) (C := RX4) (T := TX4) (N := 21) hx hb hts (by decide +kernel) tyX4 tyX4_ok nmX4 hown hK hP hD hS 0 rfl rfl 13 (by decide) (hts (.fieldLink RX4 77 "TrackDiskModel" "waiting" "I") (by decide +kernel)) (fun _ h9 => h9) rfl (by decide +kernel) rfl rfl (Nat.le_of_ble_eq_true rfl) dX4_cut_94 (fun H locs hP hD hS => ?_)
              have hP : va_P D vwCl (moW κ T S ad (nI 0) (flF (mwF se wt wx wb (bs, sm, sp) n).1 (16 * (8 * mlF se (cl (wt n)) + cl (wx n))) (wb n) g) kp ((mwF se wt wx wb (bs, sm, sp) n).2.1) ks se (upd (mwF se wt wx wb (bs, sm, sp) n).2.2 (cl (wt n)) (nI 1)) ke kq vo nd (nI 0) wt wx wb (nI 0) tp tn ts) H := hP
              have hD : va_D A (moW κ T S ad (nI 0) (flF (mwF se wt wx wb (bs, sm, sp) n).1 (16 * (8 * mlF se (cl (wt n)) + cl (wx n))) (wb n) g) kp ((mwF se wt wx wb (bs, sm, sp) n).2.1) ks se (upd (mwF se wt wx wb (bs, sm, sp) n).2.2 (cl (wt n)) (nI 1)) ke kq vo nd (nI 0) wt wx wb (nI 0) tp tn ts) := hD
              refine lv_aload_n hx hb dX4_cut_97 rfl (lv_at hl 2 rfl) ?_
              refine lv_iconst (v := nI 1) hx hb dX4_cut_98 (by decide) ?_
              refine va_put (D := D) (ci := 5) (v := .int (nI 1)) (ty := .boolean) (C := RX4) (T := TX4) (N := 21) hx hb hts (by decide +kernel) tyX4 tyX4_ok nmX4 hown hK hP hD hS 0 rfl rfl 17 (by decide) (hts (.fieldLink RX4 73 "TrackDiskModel" "down" "Z") (by decide +kernel)) (fun _ h9 => h9) rfl (by decide +kernel) rfl rfl (Nat.le_of_ble_eq_true rfl) dX4_cut_99 (fun H locs hP hD hS => ?_)
              have hP : va_P D vwCl (moW κ T S ad (nI 0) (flF (mwF se wt wx wb (bs, sm, sp) n).1 (16 * (8 * mlF se (cl (wt n)) + cl (wx n))) (wb n) g) kp ((mwF se wt wx wb (bs, sm, sp) n).2.1) ks se (upd (mwF se wt wx wb (bs, sm, sp) n).2.2 (cl (wt n)) (nI 1)) ke kq vo nd (nI 0) wt wx wb (nI 1) tp tn ts) H := hP
              have hD : va_D A (moW κ T S ad (nI 0) (flF (mwF se wt wx wb (bs, sm, sp) n).1 (16 * (8 * mlF se (cl (wt n)) + cl (wx n))) (wb n) g) kp ((mwF se wt wx wb (bs, sm, sp) n).2.1) ks se (upd (mwF se wt wx wb (bs, sm, sp) n).2.2 (cl (wt n)) (nI 1)) ke kq vo nd (nI 0) wt wx wb (nI 1) tp tn ts) := hD
              have hP9 : va_P D vwCl (moW κ T S ad (nI 0) (flF (mwF se wt wx wb (bs, sm, sp) n).1 (16 * (8 * mlF se (cl (wt n)) + cl (wx n))) (wb n) g) kp ((mwF se wt wx wb (bs, sm, sp) n).2.1) ks se (upd (mwF se wt wx wb (bs, sm, sp) n).2.2 (cl (wt n)) (nI 1)) ke kq vo nd (nI 0) wt wx wb (nI 1) tp tn ts) H := hP
              have hD9 : va_D A (moW κ T S ad (nI 0) (flF (mwF se wt wx wb (bs, sm, sp) n).1 (16 * (8 * mlF se (cl (wt n)) + cl (wx n))) (wb n) g) kp ((mwF se wt wx wb (bs, sm, sp) n).2.1) ks se (upd (mwF se wt wx wb (bs, sm, sp) n).2.2 (cl (wt n)) (nI 1)) ke kq vo nd (nI 0) wt wx wb (nI 1) tp tn ts) := hD
              exact W.vret hx hb hr (fun t ht _ => ⟨⟨rfl, by rw [ht]; exact hP9, hD9⟩, hS.F ht⟩) hS.2.2 dX4_cut_102 hlocks
            · skip
              refine lv_iload_n hx hb dX4_cut_69 rfl (lv_at hl 4 rfl) ?_
              refine lv_if_ge (tgt := 77) hx hb dX4_cut_70 (by decide) (fun c_70 => ?_) (fun c_70 => ?_)
              · skip
                refine lv_iload_n hx hb dX4_cut_77 rfl (lv_at hl 4 rfl) ?_
                refine lv_bipush (v := nI 16) hx hb dX4_cut_78 (by decide) ?_
                refine lv_icmp_le (tgt := 88) hx hb dX4_cut_80 (by decide) (fun c_80 => ?_) (fun c_80 => ?_)
                · skip
                  refine lv_iload_n hx hb dX4_cut_88 rfl (lv_at hl 4 rfl) ?_
                  refine tp_i (y := nI g) (by rw [← hg]; first | exact (hd_lo (Int32.not_le.mp c_70) (by decide)).symm | exact (hd_hi (Int32.not_le.mp c_80) (by decide)).symm | exact (hd_in c_70 c_80).symm) ?_
                  exact K89
                · skip
                  refine lv_bipush (v := nI 16) hx hb dX4_cut_83 (by decide) ?_
                  refine lv_goto (tgt := 89) hx hb dX4_cut_85 (by decide) ?_
                  refine tp_i (y := nI g) (by rw [← hg]; first | exact (hd_lo (Int32.not_le.mp c_70) (by decide)).symm | exact (hd_hi (Int32.not_le.mp c_80) (by decide)).symm | exact (hd_in c_70 c_80).symm) ?_
                  exact K89
              · skip
                refine lv_iconst (v := nI 0) hx hb dX4_cut_73 (by decide) ?_
                refine lv_goto (tgt := 89) hx hb dX4_cut_74 (by decide) ?_
                refine tp_i (y := nI g) (by rw [← hg]; first | exact (hd_lo (Int32.not_le.mp c_70) (by decide)).symm | exact (hd_hi (Int32.not_le.mp c_80) (by decide)).symm | exact (hd_in c_70 c_80).symm) ?_
                exact K89
        · exact absurd (nI_le (Nat.le_refl _) (by omega)) c_44
    · skip
      refine lv_iload_n hx hb dX4_cut_13 rfl (lv_at hl 1 rfl) ?_
      refine lv_if_ge (tgt := 21) hx hb dX4_cut_14 (by decide) (fun c_14 => ?_) (fun c_14 => ?_)
      · skip
        refine lv_iload_n hx hb dX4_cut_21 rfl (lv_at hl 1 rfl) ?_
        refine lv_aload_n hx hb dX4_cut_22 rfl (lv_at hl 0 rfl) ?_
        refine va_get (D := D) (ci := 5) (v := .int (nI w)) (C := RX4) (T := TX4) (N := 21) hx hb hts (by decide +kernel) hown hK hP 0 rfl rfl 13 (by decide) (hts (.fieldLink RX4 77 "TrackDiskModel" "waiting" "I") (by decide +kernel)) (fun _ h9 => h9) rfl dX4_cut_23 ?_
        refine lv_icmp_le (tgt := 36) hx hb dX4_cut_26 (by decide) (fun c_26 => ?_) (fun c_26 => ?_)
        · skip
          refine lv_iload_n hx hb dX4_cut_36 rfl (lv_at hl 1 rfl) ?_
          refine tp_i (y := nI n) (by rw [← hj]; first | exact (hd_lo (Int32.not_le.mp c_14) (nI_le (Nat.zero_le _) (by omega))).symm | exact (hd_hi (Int32.not_le.mp c_26) (nI_le (Nat.zero_le _) (by omega))).symm | exact (hd_in c_14 c_26).symm) ?_
          exact K37
        · skip
          refine lv_aload_n hx hb dX4_cut_29 rfl (lv_at hl 0 rfl) ?_
          refine va_get (D := D) (ci := 5) (v := .int (nI w)) (C := RX4) (T := TX4) (N := 21) hx hb hts (by decide +kernel) hown hK hP 0 rfl rfl 13 (by decide) (hts (.fieldLink RX4 77 "TrackDiskModel" "waiting" "I") (by decide +kernel)) (fun _ h9 => h9) rfl dX4_cut_30 ?_
          refine lv_goto (tgt := 37) hx hb dX4_cut_33 (by decide) ?_
          refine tp_i (y := nI n) (by rw [← hj]; first | exact (hd_lo (Int32.not_le.mp c_14) (nI_le (Nat.zero_le _) (by omega))).symm | exact (hd_hi (Int32.not_le.mp c_26) (nI_le (Nat.zero_le _) (by omega))).symm | exact (hd_in c_14 c_26).symm) ?_
          exact K37
      · skip
        refine lv_iconst (v := nI 0) hx hb dX4_cut_17 (by decide) ?_
        refine lv_goto (tgt := 37) hx hb dX4_cut_18 (by decide) ?_
        refine tp_i (y := nI n) (by rw [← hj]; first | exact (hd_lo (Int32.not_le.mp c_14) (nI_le (Nat.zero_le _) (by omega))).symm | exact (hd_hi (Int32.not_le.mp c_26) (nI_le (Nat.zero_le _) (by omega))).symm | exact (hd_in c_14 c_26).symm) ?_
        exact K37
  · exact absurd (by decide) c_9

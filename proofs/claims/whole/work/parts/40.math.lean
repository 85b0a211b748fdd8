/-! The tie between the disk of the class and the disk of the model -/
/-- bytes, sums, places, rows and taken alternates of a Surface beside bytes, sums, sent and space of the model -/
def DRb (T S : Nat) (bs mbs : Nat → Int32) : Prop := (∀ p s i, p < T + 2 → s < S → i < 16 → bs ((p * S + s) * 16 + i) = mbs (16 * (8 * p + s) + i)) ∧ (∀ p s i, p < 14 → s < 8 → i < 16 → ¬ (p < T + 2 ∧ s < S) → mbs (16 * (8 * p + s) + i) = 0) ∧ isB bs ∧ isB mbs
def DRs (T S : Nat) (sm msm : Nat → Int32) : Prop := ∀ p s, p < T + 2 → s < S → sm (p * S + s) = msm (8 * p + s)
def DRp (T : Nat) (pl mse : Nat → Int32) : Prop := ∀ t, t < T → (mse t = -1 ∧ pl t = nI t) ∨ ∃ a, a < 2 ∧ mse t = nI (T + a) ∧ pl t = nI (T + a)
def DRr (T : Nat) (r0 r1 msp : Nat → Int32) : Prop := ∀ t, t < T → r0 t = msp t ∧ r1 t = msp (12 + t)
def DRk (T : Nat) (tk : Int32) (mse : Nat → Int32) : Prop := ∃ k, k ≤ 2 ∧ tk = nI k ∧ (∀ a, a < k → ∃ t, t < T ∧ mse t = nI (T + a)) ∧ (∀ t a, t < T → a < 2 → mse t = nI (T + a) → a < k) ∧ (∀ t t', t < T → t' < T → mse t = mse t' → ¬ mse t = -1 → t = t')
def DR (T S : Nat) (bs sm pl r0 r1 : Nat → Int32) (tk : Int32) (mbs msm mse msp : Nat → Int32) : Prop := DRb T S bs mbs ∧ DRs T S sm msm ∧ DRp T pl mse ∧ DRr T r0 r1 msp ∧ DRk T tk mse
theorem cl_n {n : Nat} (h : n < 2 ^ 31) : cl (nI n) = n := nI_clamp h
theorem ix_inj {S p s p' s' : Nat} (hs : s < S) (hs' : s' < S) (h : p * S + s = p' * S + s') : p = p' ∧ s = s' := by
  have e : p = p' := by
    rcases Nat.lt_trichotomy p p' with q | q | q
    · have h1 : (p + 1) * S ≤ p' * S := Nat.mul_le_mul_right S q
      rw [Nat.succ_mul] at h1
      omega
    · exact q
    · have h1 : (p' + 1) * S ≤ p * S := Nat.mul_le_mul_right S q
      rw [Nat.succ_mul] at h1
      omega
  subst e
  exact ⟨rfl, by omega⟩
theorem flF_in {f : Nat → Int32} {a : Nat} {x : Int32} {n i : Nat} (h : i < n) : flF f a x n (a + i) = (x + nI i).toInt8.toInt32 := by
  induction n with
  | zero => omega
  | succ n ih =>
    by_cases q : i = n
    · subst q; exact pk_us
    · show upd _ _ _ _ = _
      rw [pk_un (by omega)]
      exact ih (by omega)
theorem flF_out {f : Nat → Int32} {a : Nat} {x : Int32} {n j : Nat} (h : j < a ∨ a + n ≤ j) : flF f a x n j = f j := by
  induction n with
  | zero => rfl
  | succ n ih =>
    show upd _ _ _ _ = _
    rw [pk_un (by omega)]
    exact ih (by omega)
theorem isB_upd {f : Nat → Int32} {k : Nat} {x : Int32} (h : isB f) (hx : x.toInt8.toInt32 = x) : isB (upd f k x) := by
  intro j
  by_cases q : j = k
  · subst q; rw [pk_us]; exact hx
  · rw [pk_un q]; exact h j
theorem b8 (x : Int32) : (x.toInt8.toInt32).toInt8.toInt32 = x.toInt8.toInt32 := by simp
theorem isB_fl {f : Nat → Int32} {a : Nat} {x : Int32} {n : Nat} (h : isB f) : isB (flF f a x n) := by
  induction n with
  | zero => exact h
  | succ n ih => exact isB_upd ih (b8 _)
theorem isB_nar {x : Int32} (h : x.toInt8.toInt32 = x) : vp_nar .byte x = x := by rw [vp_nar_byte]; exact h
theorem smF_ext {f g : Nat → Int32} {a b : Nat} {s0 : Int32} {n : Nat} (h : ∀ i, i < n → f (a + i) = g (b + i)) : smF f a s0 n = smF g b s0 n := by
  induction n with
  | zero => rfl
  | succ n ih =>
    show smS _ _ = smS _ _
    rw [ih (fun i hi => h i (by omega)), h n (by omega)]
theorem sum_eq {T S : Nat} {bs mbs : Nat → Int32} (hS8 : S ≤ 8) (h : DRb T S bs mbs) {p s : Nat} (hp : p < T + 2) (hs : s < S) : smA bs S p s = msA mbs (8 * p + s) := by
  unfold smA msA
  rw [show 64 * ((8 * p + s) / 8) + (8 * p + s) % 8 = 64 * p + s by omega]
  exact smF_ext fun i hi => h.1 p s i hp hs hi
theorem pl_eq {T : Nat} {pl mse : Nat → Int32} (hT : T ≤ 12) (h : DRp T pl mse) {t : Nat} (ht : t < T) : mlF mse t = cl (pl t) ∧ cl (pl t) < T + 2 := by
  rcases h t ht with ⟨h1, h2⟩ | ⟨a, ha, h1, h2⟩
  · rw [mlF_1 h1, h2, cl_n (by omega)]
    exact ⟨rfl, by omega⟩
  · rw [mlF_2 (by rw [h1]; exact nI_nm1 (by omega)), h1, h2, cl_n (by omega)]
    exact ⟨rfl, by omega⟩
theorem pl_in {T : Nat} {pl mse : Nat → Int32} (hT : T ≤ 12) (h : DRp T pl mse) : ∀ t, t < T → vp_in (pl t) (T + 2) := by
  intro t ht
  rcases h t ht with ⟨h1, h2⟩ | ⟨a, ha, h1, h2⟩
  · rw [h2]; exact vp_in_nI (by omega) (by omega)
  · rw [h2]; exact vp_in_nI (by omega) (by omega)
theorem se_in {T : Nat} {pl mse : Nat → Int32} (hT : T ≤ 12) (h : DRp T pl mse) : ∀ t, t < T → mse t = -1 ∨ vp_in (mse t) 14 := by
  intro t ht
  rcases h t ht with ⟨h1, h2⟩ | ⟨a, ha, h1, h2⟩
  · exact Or.inl h1
  · exact Or.inr (by rw [h1]; exact vp_in_nI (by omega) (by omega))
/-- a write's bytes keep the tie -/
theorem DRb_fl {T S : Nat} {bs mbs : Nat → Int32} (hT : T ≤ 12) (hS8 : S ≤ 8) (h : DRb T S bs mbs) {p s : Nat} (hp : p < T + 2) (hs : s < S) (x : Int32) {n : Nat} (hn : n ≤ 16) : DRb T S (flF bs ((p * S + s) * 16) x n) (flF mbs (16 * (8 * p + s)) x n) := by
  obtain ⟨h1, h2, h3, h4⟩ := h
  refine ⟨fun p' s' i hp' hs' hi => ?_, fun p' s' i hp' hs' hi hno => ?_, isB_fl h3, isB_fl h4⟩
  · by_cases q : p' = p ∧ s' = s
    · obtain ⟨rfl, rfl⟩ := q
      by_cases r : i < n
      · rw [flF_in r, flF_in r]
      · rw [flF_out (by omega), flF_out (by omega)]
        exact h1 _ _ _ hp hs hi
    · have hne : p' * S + s' ≠ p * S + s := fun e => q (ix_inj hs' hs e)
      rw [flF_out (by omega), flF_out (by omega)]
      exact h1 _ _ _ hp' hs' hi
  · rw [flF_out]
    · exact h2 _ _ _ hp' hs' hi hno
    · rcases Nat.lt_trichotomy (8 * p' + s') (8 * p + s) with q | q | q
      · omega
      · exact absurd ⟨by omega, by omega⟩ hno
      · omega
theorem DRs_upd {T S : Nat} {sm msm : Nat → Int32} (hS8 : S ≤ 8) (h : DRs T S sm msm) {p s : Nat} (hs : s < S) {x y : Int32} (e : x = y) : DRs T S (upd sm (p * S + s) x) (upd msm (8 * p + s) y) := by
  intro p' s' hp' hs'
  by_cases q : p' = p ∧ s' = s
  · obtain ⟨rfl, rfl⟩ := q
    rw [pk_us, pk_us, e]
  · rw [pk_un (fun e => q (ix_inj hs' hs e)), pk_un (by omega)]
    exact h _ _ hp' hs'
theorem DRr_0 {T : Nat} {r0 r1 msp : Nat → Int32} (hT : T ≤ 12) (h : DRr T r0 r1 msp) {t : Nat} (ht : t < T) (x : Int32) : DRr T (upd r0 t x) r1 (upd msp t x) := by
  intro t' ht'
  by_cases q : t' = t
  · subst q
    exact ⟨by rw [pk_us, pk_us], by rw [pk_un (by omega)]; exact (h _ ht').2⟩
  · exact ⟨by rw [pk_un q, pk_un q]; exact (h _ ht').1, by rw [pk_un (by omega)]; exact (h _ ht').2⟩
theorem DRr_1 {T : Nat} {r0 r1 msp : Nat → Int32} (hT : T ≤ 12) (h : DRr T r0 r1 msp) {t : Nat} (ht : t < T) (x : Int32) : DRr T r0 (upd r1 t x) (upd msp (12 + t) x) := by
  intro t' ht'
  by_cases q : t' = t
  · subst q
    exact ⟨by rw [pk_un (by omega)]; exact (h _ ht').1, by rw [pk_us, pk_us]⟩
  · exact ⟨by rw [pk_un (by omega)]; exact (h _ ht').1, by rw [pk_un q, pk_un (by omega)]; exact (h _ ht').2⟩
/-- one waiting write done -/
theorem DR_lay {T S : Nat} {q : LY} {w : MW} {pl mse : Nat → Int32} {tk : Int32} (hT : T ≤ 12) (hS8 : S ≤ 8) (h : DR T S q.1 q.2.1 pl q.2.2.1 q.2.2.2 tk w.1 w.2.1 mse w.2.2) {t s : Nat} (ht : t < T) (hs : s < S) (x : Int32) :
    DR T S (ly1 S pl t s x q).1 (ly1 S pl t s x q).2.1 pl (ly1 S pl t s x q).2.2.1 (ly1 S pl t s x q).2.2.2 tk (mw1 mse t s x w).1 (mw1 mse t s x w).2.1 mse (mw1 mse t s x w).2.2 := by
  obtain ⟨hb, hsm, hp, hr, hk⟩ := h
  obtain ⟨e, hlt⟩ := pl_eq hT hp ht
  have hb' := DRb_fl hT hS8 hb hlt hs x (Nat.le_refl 16)
  refine ⟨?_, ?_, hp, ?_, hk⟩
  · show DRb T S (flF _ _ _ _) (flF _ (16 * (8 * mlF mse t + s)) _ _)
    rw [e]; exact hb'
  · show DRs T S (upd _ _ _) (upd _ (8 * mlF mse t + s) (msA (flF _ (16 * (8 * mlF mse t + s)) _ _) (8 * mlF mse t + s)))
    rw [e]; exact DRs_upd hS8 hsm hs (sum_eq hS8 hb' hlt hs)
  · exact DRr_1 hT (DRr_0 hT hr ht _) ht _
theorem DR_layF {T S : Nat} {q : LY} {w : MW} {pl mse wt wx wb mwt mwx mwb : Nat → Int32} {tk : Int32} (hT : T ≤ 12) (hS8 : S ≤ 8) (h : DR T S q.1 q.2.1 pl q.2.2.1 q.2.2.2 tk w.1 w.2.1 mse w.2.2) {n : Nat} (hw : ∀ k, k < n → wt k = mwt k ∧ wx k = mwx k ∧ wb k = mwb k ∧ vp_in (wt k) T ∧ vp_in (wx k) S) :
    DR T S (lyF S pl wt wx wb q n).1 (lyF S pl wt wx wb q n).2.1 pl (lyF S pl wt wx wb q n).2.2.1 (lyF S pl wt wx wb q n).2.2.2 tk (mwF mse mwt mwx mwb w n).1 (mwF mse mwt mwx mwb w n).2.1 mse (mwF mse mwt mwx mwb w n).2.2 := by
  induction n with
  | zero => exact h
  | succ n ih =>
    obtain ⟨e1, e2, e3, h4, h5⟩ := hw n (by omega)
    have := DR_lay hT hS8 (ih (fun k hk => hw k (by omega))) (cl_nI h4 (by omega)).2 (cl_nI h5 (by omega)).2 (wb n)
    have hm : mwF mse mwt mwx mwb w (n + 1) = mw1 mse (cl (wt n)) (cl (wx n)) (wb n) (mwF mse mwt mwx mwb w n) := by
      show mw1 mse (cl (mwt n)) (cl (mwx n)) (mwb n) _ = _
      rw [← e1, ← e2, ← e3]
    rw [hm]
    exact this
/-- a torn one -/
theorem DR_torn {T S : Nat} {bs sm pl r0 r1 mbs msm mse msp : Nat → Int32} {tk : Int32} (hT : T ≤ 12) (hS8 : S ≤ 8) (h : DR T S bs sm pl r0 r1 tk mbs msm mse msp) {t s : Nat} (ht : t < T) (hs : s < S) (x : Int32) {n : Nat} (hn : n ≤ 16) :
    DR T S (flF bs ((cl (pl t) * S + s) * 16) x n) sm pl (upd r0 t (nI 1)) r1 tk (flF mbs (16 * (8 * mlF mse t + s)) x n) msm mse (upd msp t (nI 1)) := by
  obtain ⟨hb, hsm, hp, hr, hk⟩ := h
  obtain ⟨e, hlt⟩ := pl_eq hT hp ht
  refine ⟨?_, hsm, hp, DRr_0 hT hr ht _, hk⟩
  rw [e]; exact DRb_fl hT hS8 hb hlt hs x hn
/-- one byte turned -/
theorem DRb_upd {T S : Nat} {bs mbs : Nat → Int32} (hT : T ≤ 12) (hS8 : S ≤ 8) (h : DRb T S bs mbs) {p s i : Nat} (hp : p < T + 2) (hs : s < S) (hi : i < 16) {x y : Int32} (e : x = y) (hx : x.toInt8.toInt32 = x) : DRb T S (upd bs ((p * S + s) * 16 + i) x) (upd mbs (16 * (8 * p + s) + i) y) := by
  subst e
  obtain ⟨h1, h2, h3, h4⟩ := h
  refine ⟨fun p' s' i' hp' hs' hi' => ?_, fun p' s' i' hp' hs' hi' hno => ?_, isB_upd h3 hx, isB_upd h4 hx⟩
  · by_cases q : p' = p ∧ s' = s
    · obtain ⟨rfl, rfl⟩ := q
      by_cases r : i' = i
      · subst r; rw [pk_us, pk_us]
      · rw [pk_un (by omega), pk_un (by omega)]; exact h1 _ _ _ hp hs hi'
    · have hne : p' * S + s' ≠ p * S + s := fun e => q (ix_inj hs' hs e)
      rw [pk_un (by omega), pk_un (by omega)]; exact h1 _ _ _ hp' hs' hi'
  · rw [pk_un]
    · exact h2 _ _ _ hp' hs' hi' hno
    · intro e
      exact hno ⟨by omega, by omega⟩

/-! Counts, the first wrong one, mending, alternates, copies -/
theorem cnt_congr {f g : Nat → Bool} {n : Nat} (h : ∀ i, i < n → f i = g i) : cnt f n = cnt g n := by
  induction n with
  | zero => rfl
  | succ n ih =>
    show cnt f n + _ = cnt g n + _
    rw [ih (fun i hi => h i (by omega)), h n (by omega)]
theorem cnt_le (f : Nat → Bool) (n : Nat) : cnt f n ≤ n := by
  induction n with
  | zero => exact Nat.le_refl 0
  | succ n ih =>
    show cnt f n + (if f n = true then 1 else 0) ≤ n + 1
    by_cases q : f n = true
    · rw [if_pos q]; omega
    · rw [if_neg q]; omega
theorem cnt_zero {f : Nat → Bool} {n : Nat} : cnt f n = 0 ↔ ∀ i, i < n → f i = false := by
  induction n with
  | zero => exact ⟨fun _ i hi => absurd hi (Nat.not_lt_zero i), fun _ => rfl⟩
  | succ n ih =>
    constructor
    · intro h i hi
      have h1 : cnt f n = 0 ∧ ¬ f n = true := by
        by_cases q : f n = true
        · rw [cnt_t q] at h; omega
        · rw [cnt_f (by simpa using q)] at h; exact ⟨h, q⟩
      rcases Nat.lt_or_ge i n with q | q
      · exact ih.mp h1.1 i q
      · have : i = n := by omega
        subst this; simpa using h1.2
    · intro h
      rw [cnt_f (h n (by omega))]
      exact ih.mpr fun i hi => h i (by omega)
theorem cnt_rev (h : Nat → Bool) (N k : Nat) (hk : k ≤ N) : cnt (fun j => h (N - j - 1)) k + cnt h (N - k) = cnt h N := by
  induction k with
  | zero => simp [cnt]
  | succ k ih =>
    have ih := ih (by omega)
    obtain ⟨m, hm⟩ : ∃ m, N - k = m + 1 := ⟨N - k - 1, by omega⟩
    have e1 : N - k - 1 = m := by omega
    have e2 : N - (k + 1) = m := by omega
    rw [hm] at ih
    rw [e2]
    by_cases q : h m = true
    · rw [cnt_t (f := fun j => h (N - j - 1)) (by rw [e1]; exact q)]
      rw [cnt_t q] at ih
      omega
    · have q : h m = false := by simpa using q
      rw [cnt_f (f := fun j => h (N - j - 1)) (by rw [e1]; exact q)]
      rw [cnt_f q] at ih
      omega
theorem cnt_blk {g : Nat → Nat → Bool} {S t n : Nat} (hn : n ≤ 8) : cnt (gW g S) (t * 8 + n) = cnt (gW g S) (t * 8) + cnt (g t) (min n S) := by
  induction n with
  | zero => simp [cnt]
  | succ n ih =>
    have ih := ih (by omega)
    show cnt (gW g S) (t * 8 + n) + (if gW g S (t * 8 + n) = true then 1 else 0) = _
    rw [ih]
    have e1 : (t * 8 + n) / 8 = t := by omega
    have e2 : (t * 8 + n) % 8 = n := by omega
    by_cases q : n < S
    · rw [show min (n + 1) S = n + 1 by omega, show min n S = n by omega]
      show _ = _ + (cnt (g t) n + _)
      have : gW g S (t * 8 + n) = g t n := by simp [gW, e1, e2, q]
      rw [this]; omega
    · rw [show min (n + 1) S = S by omega, show min n S = S by omega]
      have : gW g S (t * 8 + n) = false := by simp [gW, e1, e2, q]
      rw [this]; simp
theorem cnt_cn2 {g : Nat → Nat → Bool} {S : Nat} (hS : S ≤ 8) (T : Nat) : cnt (gW g S) (T * 8) = cn2 g S T := by
  induction T with
  | zero => simp [cnt, cn2]
  | succ T ih =>
    rw [show (T + 1) * 8 = T * 8 + 8 by omega, cnt_blk (Nat.le_refl 8), ih, show min 8 S = S by omega]
    rfl
theorem cn2_congr {f g : Nat → Nat → Bool} {S T : Nat} (h : ∀ t s, t < T → s < S → f t s = g t s) : cn2 f S T = cn2 g S T := by
  induction T with
  | zero => rfl
  | succ T ih =>
    show cn2 f S T + cnt (f T) S = cn2 g S T + cnt (g T) S
    rw [ih (fun t s ht hs => h t s (by omega) hs), cnt_congr (fun s hs => h T s (by omega) hs)]
theorem iw_eq {T S : Nat} {bs sm pl r0 r1 mbs msm mse msp : Nat → Int32} {tk : Int32} (hT : T ≤ 12) (hS8 : S ≤ 8) (h : DR T S bs sm pl r0 r1 tk mbs msm mse msp) {t s : Nat} (ht : t < T) (hs : s < S) : iwF bs sm pl S t s = iwM mbs msm mse t s := by
  obtain ⟨hb, hsm, hp, hr, hk⟩ := h
  obtain ⟨e, hlt⟩ := pl_eq hT hp ht
  unfold iwF iwM
  rw [e, hsm _ _ hlt hs, sum_eq hS8 hb hlt hs]
theorem tot_eq {T S : Nat} {bs sm pl r0 r1 mbs msm mse msp : Nat → Int32} {tk : Int32} (hT : T ≤ 12) (hS8 : S ≤ 8) (h : DR T S bs sm pl r0 r1 tk mbs msm mse msp) : cnt (fun j => gW (iwM mbs msm mse) S (T * 8 - j - 1)) (T * 8) = cn2 (iwF bs sm pl S) S T := by
  have := cnt_rev (gW (iwM mbs msm mse) S) (T * 8) (T * 8) (Nat.le_refl _)
  rw [Nat.sub_self] at this
  rw [show cnt (gW (iwM mbs msm mse) S) 0 = 0 from rfl, Nat.add_zero] at this
  rw [this, cnt_cn2 hS8]
  exact cn2_congr fun t s ht hs => (iw_eq hT hS8 h ht hs).symm
theorem fs_spec (g : Nat → Bool) (N k : Nat) (hk : k ≤ N) : (fsF g N k = -1 ∧ ∀ i, N - k ≤ i → i < N → g i = false) ∨ ∃ i, N - k ≤ i ∧ i < N ∧ g i = true ∧ (∀ j, N - k ≤ j → j < i → g j = false) ∧ fsF g N k = nI i := by
  induction k with
  | zero => exact Or.inl ⟨rfl, fun i h1 h2 => by omega⟩
  | succ k ih =>
    by_cases q : g (N - k - 1) = true
    · exact Or.inr ⟨N - k - 1, by omega, by omega, q, fun j h1 h2 => by omega, fsF_t q⟩
    · have q : g (N - k - 1) = false := by simpa using q
      rw [fsF_f q]
      have hd : ∀ i, N - (k + 1) ≤ i → i < N - k → g i = false := fun i h1 h2 => by rw [show i = N - k - 1 by omega]; exact q
      rcases ih (by omega) with ⟨e, h⟩ | ⟨i, h1, h2, h3, h4, e⟩
      · exact Or.inl ⟨e, fun i h1 h2 => by
          rcases Nat.lt_or_ge i (N - k) with r | r
          · exact hd i h1 r
          · exact h i r h2⟩
      · exact Or.inr ⟨i, by omega, h2, h3, fun j h5 h6 => by
          rcases Nat.lt_or_ge j (N - k) with r | r
          · exact hd j h5 r
          · exact h4 j r h6, e⟩
/-- what wrong() tells, in both -/
theorem wr_spec {T S : Nat} {bs sm pl r0 r1 mbs msm mse msp : Nat → Int32} {tk : Int32} (hT : T ≤ 12) (hS8 : S ≤ 8) (h : DR T S bs sm pl r0 r1 tk mbs msm mse msp) :
    (cn2 (iwF bs sm pl S) S T = 0 ∧ fwS (iwF bs sm pl S) T S (-1)) ∨ (¬ cn2 (iwF bs sm pl S) S T = 0 ∧ ∃ u v, u < T ∧ v < S ∧ fwS (iwF bs sm pl S) T S (nI (u * 8 + v)) ∧ fsF (gW (iwM mbs msm mse) S) (T * 8) (T * 8) = nI (u * 8 + v)) := by
  have hc : cnt (gW (iwM mbs msm mse) S) (T * 8) = cn2 (iwF bs sm pl S) S T := by
    rw [cnt_cn2 hS8]; exact cn2_congr fun t s ht hs => (iw_eq hT hS8 h ht hs).symm
  have hg : ∀ t s, t < T → s < S → gW (iwM mbs msm mse) S (t * 8 + s) = iwF bs sm pl S t s := by
    intro t s ht hs
    rw [iw_eq hT hS8 h ht hs]
    simp [gW, show (t * 8 + s) / 8 = t by omega, show (t * 8 + s) % 8 = s by omega, hs]
  rcases fs_spec (gW (iwM mbs msm mse) S) (T * 8) (T * 8) (Nat.le_refl _) with ⟨e, h1⟩ | ⟨i, h1, h2, h3, h4, e⟩
  · refine Or.inl ⟨by rw [← hc]; exact cnt_zero.mpr fun i hi => h1 i (by omega) hi, Or.inl ⟨rfl, fun t s ht hs => ?_⟩⟩
    rw [← hg t s ht hs]; exact h1 _ (by omega) (by omega)
  · have hs : i % 8 < S := by
      rcases Nat.lt_or_ge (i % 8) S with q | q
      · exact q
      · rw [gW_1 (by omega)] at h3; cases h3
    have ei : i / 8 * 8 + i % 8 = i := by omega
    refine Or.inr ⟨fun z => ?_, i / 8, i % 8, by omega, hs, Or.inr ⟨i / 8, i % 8, by omega, hs, ?_, fun t' s' g1 g2 g3 => ?_, rfl⟩, by rw [ei]; exact e⟩
    · rw [← hc] at z
      rw [cnt_zero.mp z i h2] at h3; cases h3
    · rw [← hg _ _ (by omega) hs, ei]; exact h3
    · rw [← hg t' s' g1 g2]; exact h4 _ (by omega) (by omega)
theorem nzF_ext {f g : Nat → Int32} {a b n : Nat} (h : ∀ i, i < n → f (a + i) = g (b + i)) : nzF f a n = nzF g b n := by
  induction n with
  | zero => rfl
  | succ n ih =>
    show (nzF f a n || _) = (nzF g b n || _)
    rw [ih (fun i hi => h i (by omega)), h n (by omega)]
theorem us_eq {T S : Nat} {bs pl mbs mse : Nat → Int32} (hT : T ≤ 12) (hb : DRb T S bs mbs) (hp : DRp T pl mse) {t : Nat} (ht : t < T) : usF bs pl S t = nzF mbs (16 * (8 * mlF mse t + 0)) (16 * S) := by
  obtain ⟨e, hlt⟩ := pl_eq hT hp ht
  unfold usF
  rw [e, Nat.mul_comm S 16]
  refine nzF_ext fun k hk => ?_
  have h := hb.1 (cl (pl t)) (k / 16) (k % 16) hlt (by omega) (by omega)
  rw [show (cl (pl t) * S + 0) * 16 + k = (cl (pl t) * S + k / 16) * 16 + k % 16 by omega, h]
  congr 1; omega
theorem DR_mend {T S : Nat} {bs sm pl r0 r1 mbs msm mse msp : Nat → Int32} {tk : Int32} (hT : T ≤ 12) (h : DR T S bs sm pl r0 r1 tk mbs msm mse msp) :
    DR T S bs sm pl (mdR (usF bs pl S) r0 r1 r0 T) (mdR (usF bs pl S) r0 r1 r1 T) tk mbs msm mse (mmR (fun t => nzF mbs (16 * (8 * mlF mse t + 0)) (16 * S)) msp T) := by
  obtain ⟨hb, hsm, hp, hr, hk⟩ := h
  refine ⟨hb, hsm, hp, fun t ht => ?_, hk⟩
  obtain ⟨e0, e1⟩ := hr t ht
  have eu := us_eq hT hb hp ht
  constructor
  · simp only [mdR, mmR, ht, show t < 12 by omega, e0, e1, eu, if_true]
  · simp only [mdR, mmR, ht, show ¬ 12 + t < 12 by omega, show 12 + t - 12 = t by omega, e0, e1, eu, if_false]
theorem mend_cnt {T S : Nat} {bs sm pl r0 r1 mbs msm mse msp : Nat → Int32} {tk : Int32} (h : DR T S bs sm pl r0 r1 tk mbs msm mse msp) : cnt (dfF r0 r1) T = cnt (fun t => dfF msp (fun j => msp (12 + j)) t) T :=
  cnt_congr fun t ht => by
    obtain ⟨e0, e1⟩ := h.2.2.2.1 t ht
    simp only [dfF, e0, e1]

/-! Alternates, copies, the start -/
theorem nI_inj {a b : Nat} (ha : a < 2 ^ 31) (hb : b < 2 ^ 31) (h : nI a = nI b) : a = b := (nI_eq ha hb).mp h
/-- the search for a free alternate -/
theorem ar_step {T k : Nat} {se : Nat → Int32} (hT : T ≤ 12) (hk2 : k ≤ 2) (hp : ∀ t, t < T → se t = -1 ∨ ∃ a, a < 2 ∧ se t = nI (T + a)) (h2 : ∀ t a, t < T → a < 2 → se t = nI (T + a) → a < k) (c : Nat) (hc : c ≤ k) :
    ∀ n, n ≤ T → ∃ c', c ≤ c' ∧ c' ≤ k ∧ arF se (nI (T + c)) n = nI (T + c') ∧ ∀ t, t < n → se t = nI (T + c) → c + 1 ≤ c' := by
  intro n
  induction n with
  | zero => exact fun _ => ⟨c, Nat.le_refl c, hc, rfl, fun t ht => absurd ht (Nat.not_lt_zero t)⟩
  | succ n ih =>
    intro hn
    obtain ⟨c', h3, h4, h5, h6⟩ := ih (by omega)
    by_cases q : se n = nI (T + c')
    · have hlt : c' < 2 := by
        rcases hp n (by omega) with e | ⟨a, ha, e⟩
        · rw [e] at q; exact absurd q.symm (nI_nm1 (by omega))
        · rw [e] at q
          have := nI_inj (by omega) (by omega) q
          omega
      have hck := h2 n c' (by omega) hlt q
      refine ⟨c' + 1, by omega, by omega, ?_, fun t ht e => by omega⟩
      rw [← arF_t (by rw [h5]; exact q), h5]
      exact nI_1 _
    · refine ⟨c', h3, h4, ?_, fun t ht e => ?_⟩
      · rw [← arF_f (by rw [h5]; exact q), h5]
      · rcases Nat.lt_or_ge t n with r | r
        · exact h6 t r e
        · have : t = n := by omega
          subst this
          rcases Nat.lt_or_ge c c' with w | w
          · omega
          · have : c' = c := by omega
            subst this
            exact absurd e q
theorem ar_eq {T k : Nat} {se : Nat → Int32} (hT : T ≤ 12) (hk2 : k ≤ 2) (hp : ∀ t, t < T → se t = -1 ∨ ∃ a, a < 2 ∧ se t = nI (T + a)) (h1 : ∀ a, a < k → ∃ t, t < T ∧ se t = nI (T + a)) (h2 : ∀ t a, t < T → a < 2 → se t = nI (T + a) → a < k) : ar2 se T 2 = nI (T + k) := by
  obtain ⟨c1, a1, a2, a3, a4⟩ := ar_step hT hk2 hp h2 0 (Nat.zero_le k) T (Nat.le_refl T)
  obtain ⟨c2, b1, b2, b3, b4⟩ := ar_step hT hk2 hp h2 c1 a2 T (Nat.le_refl T)
  have e : ar2 se T 2 = nI (T + c2) := by
    show arF se (arF se (nI T) T) T = _
    rw [show nI T = nI (T + 0) from rfl, a3, b3]
  rw [e]
  have : c2 = k := by
    rcases Nat.lt_or_ge c2 k with q | q
    · exfalso
      rcases Nat.lt_or_ge c1 1 with r | r
      · obtain ⟨t, ht, et⟩ := h1 0 (by omega)
        have := a4 t ht et
        omega
      · obtain ⟨t, ht, et⟩ := h1 c1 (by omega)
        have := b4 t ht et
        omega
    · omega
  rw [this]
theorem se_or {T : Nat} {pl mse : Nat → Int32} (h : DRp T pl mse) : ∀ t, t < T → mse t = -1 ∨ ∃ a, a < 2 ∧ mse t = nI (T + a) := fun t ht => (h t ht).elim (fun h => Or.inl h.1) (fun ⟨a, h1, h2, _⟩ => Or.inr ⟨a, h1, h2⟩)
theorem cnt_rm {f : Nat → Bool} {n t1 : Nat} (h1 : t1 < n) (h2 : f t1 = true) : cnt f n = cnt (fun t => f t && decide (t ≠ t1)) n + 1 := by
  induction n with
  | zero => omega
  | succ n ih =>
    by_cases q : t1 = n
    · subst q
      rw [cnt_t h2, cnt_f (f := fun t => f t && decide (t ≠ t1)) (by simp)]
      congr 1
      exact cnt_congr fun i hi => by simp [show i ≠ t1 by omega]
    · have ih := ih (by omega)
      show cnt f n + (if f n = true then 1 else 0) = cnt _ n + (if (f n && decide (n ≠ t1)) = true then 1 else 0) + 1
      rw [ih, show (f n && decide (n ≠ t1)) = f n by simp [show n ≠ t1 from fun e => q e.symm]]
      omega
theorem sent_cnt {T : Nat} {tk : Int32} {pl mse : Nat → Int32} (hT : T ≤ 12) (hp : DRp T pl mse) (h : DRk T tk mse) : nI (cnt (fun t => decide (¬ mse t = -1)) T) = tk := by
  obtain ⟨k, hk2, rfl, h1, h2, h3⟩ := h
  congr 1
  have ho := se_or hp
  have hin : ∀ t, t < T → ¬ mse t = -1 → ∃ a, a < k ∧ mse t = nI (T + a) := fun t ht hne => by
    obtain ⟨a, ha, e⟩ := (ho t ht).resolve_left hne
    exact ⟨a, h2 t a ht ha e, e⟩
  have hn1 : ∀ a : Nat, a < k → ¬ nI (T + a) = -1 := fun a ha => nI_nm1 (by omega)
  rcases (show k = 0 ∨ k = 1 ∨ k = 2 by omega) with rfl | rfl | rfl
  · exact cnt_zero.mpr fun t ht => by
      simp only [decide_eq_false_iff_not, Decidable.not_not]
      by_cases q : mse t = -1
      · exact q
      · obtain ⟨a, ha, _⟩ := hin t ht q
        exact absurd ha (Nat.not_lt_zero a)
  · obtain ⟨t0, ht0, e0⟩ := h1 0 (by omega)
    rw [cnt_rm ht0 (by simp only [decide_eq_true_eq]; rw [e0]; exact hn1 0 (by omega))]
    rw [cnt_zero.mpr]
    intro t ht
    by_cases q : mse t = -1
    · simp [q]
    · obtain ⟨a, ha, e⟩ := hin t ht q
      have : a = 0 := by omega
      subst this
      have := h3 t t0 ht ht0 (e.trans e0.symm) q
      simp [this]
  · obtain ⟨t0, ht0, e0⟩ := h1 0 (by omega)
    obtain ⟨t1, ht1, e1⟩ := h1 1 (by omega)
    have hne : t1 ≠ t0 := fun e => by
      subst e
      have := nI_inj (by omega) (by omega) (e0.symm.trans e1)
      omega
    rw [cnt_rm ht0 (by simp only [decide_eq_true_eq]; rw [e0]; exact hn1 0 (by omega))]
    rw [cnt_rm (t1 := t1) ht1 (by simp only [Bool.and_eq_true, decide_eq_true_eq]; exact ⟨by rw [e1]; exact hn1 1 (by omega), hne⟩)]
    rw [cnt_zero.mpr]
    intro t ht
    by_cases q : mse t = -1
    · simp [q]
    · obtain ⟨a, ha, e⟩ := hin t ht q
      rcases (show a = 0 ∨ a = 1 by omega) with rfl | rfl
      · have := h3 t t0 ht ht0 (e.trans e0.symm) q
        simp [this]
      · have := h3 t t1 ht ht1 (e.trans e1.symm) q
        simp [this]
theorem sent_iff {T : Nat} {pl mse : Nat → Int32} (hT : T ≤ 12) (hp : DRp T pl mse) {t : Nat} (ht : t < T) : isF pl T t = true ↔ ¬ mse t = -1 := by
  unfold isF
  rw [decide_eq_true_eq]
  rcases hp t ht with ⟨h1, h2⟩ | ⟨a, ha, h1, h2⟩
  · rw [h1, h2, cl_n (by omega)]
    exact ⟨fun q => by omega, fun q => absurd rfl q⟩
  · rw [h1, h2, cl_n (by omega)]
    exact ⟨fun _ => nI_nm1 (by omega), fun _ => by omega⟩
theorem cpS_spec {f : Nat → Int32} {b a n : Nat} (hf : isB f) (h : a + n ≤ b) : isB (cpS f b a n) ∧ (∀ j, (j < b ∨ b + n ≤ j) → cpS f b a n j = f j) ∧ ∀ i, i < n → cpS f b a n (b + i) = f (a + i) := by
  induction n with
  | zero => exact ⟨hf, fun _ _ => rfl, fun i hi => absurd hi (Nat.not_lt_zero i)⟩
  | succ n ih =>
    obtain ⟨h1, h2, h3⟩ := ih (by omega)
    have e : vp_nar .byte (cpS f b a n (a + n)) = f (a + n) := by rw [h2 _ (by omega)]; exact isB_nar (hf _)
    have ee : cpS f b a (n + 1) = upd (cpS f b a n) (b + n) (f (a + n)) := by
      show upd _ _ _ = _
      rw [e]
    rw [ee]
    refine ⟨isB_upd h1 (hf _), fun j hj => ?_, fun i hi => ?_⟩
    · rw [pk_un (by omega)]; exact h2 j (by omega)
    · by_cases q : i = n
      · subst q; exact pk_us
      · rw [pk_un (by omega)]; exact h3 i (by omega)
theorem ssF_in {bs sm : Nat → Int32} {S p n s : Nat} (h : s < n) : ssF bs sm S p n (p * S + s) = smA bs S p s := by
  induction n with
  | zero => omega
  | succ n ih =>
    show upd _ _ _ _ = _
    by_cases q : s = n
    · subst q; exact pk_us
    · rw [pk_un (by omega)]; exact ih (by omega)
theorem ssF_out {bs sm : Nat → Int32} {S p n j : Nat} (h : ∀ s, s < n → j ≠ p * S + s) : ssF bs sm S p n j = sm j := by
  induction n with
  | zero => rfl
  | succ n ih =>
    show upd _ _ _ _ = _
    rw [pk_un (h n (by omega))]; exact ih fun s hs => h s (by omega)
theorem msF_in {bs sm : Nat → Int32} {p n s : Nat} (h : s < n) : msF bs sm p n (8 * p + s) = msA bs (8 * p + s) := by
  induction n with
  | zero => omega
  | succ n ih =>
    show upd _ _ _ _ = _
    by_cases q : s = n
    · subst q; exact pk_us
    · rw [pk_un (by omega)]; exact ih (by omega)
theorem msF_out {bs sm : Nat → Int32} {p n j : Nat} (h : ∀ s, s < n → j ≠ 8 * p + s) : msF bs sm p n j = sm j := by
  induction n with
  | zero => rfl
  | succ n ih =>
    show upd _ _ _ _ = _
    rw [pk_un (h n (by omega))]; exact ih fun s hs => h s (by omega)
theorem isB_cpy {f g : Nat → Int32} {a b n : Nat} (hf : isB f) (hg : isB g) : isB (va_cpy f g a b n) := by
  intro j
  unfold va_cpy
  split
  · exact hf _
  · exact hg _
theorem DR_send {T S : Nat} {bs sm pl r0 r1 mbs msm mse msp : Nat → Int32} {k0 : Nat} (hT : T ≤ 12) (hS8 : S ≤ 8) (h : DR T S bs sm pl r0 r1 (nI k0) mbs msm mse msp) (hk0 : k0 < 2) {t : Nat} (ht : t < T) (hse : mse t = -1) :
    DR T S (va_cpy bs bs ((cl (pl t) * S + 0) * 16) (((T + k0) * S + 0) * 16) (S * 16)) (ssF (va_cpy bs bs ((cl (pl t) * S + 0) * 16) (((T + k0) * S + 0) * 16) (S * 16)) sm S (T + k0) S) (upd pl t (nI (T + k0))) r0 r1 (nI (k0 + 1))
      (cpS mbs (128 * (T + k0)) (128 * t) (16 * S)) (msF (cpS mbs (128 * (T + k0)) (128 * t) (16 * S)) msm (T + k0) S) (upd mse t (nI (T + k0))) msp := by
  obtain ⟨hb, hsm, hp, hr, hk⟩ := h
  have hpt : pl t = nI t := by
    rcases hp t ht with ⟨_, e⟩ | ⟨a, ha, e, _⟩
    · exact e
    · rw [hse] at e; exact absurd e.symm (nI_nm1 (by omega))
  rw [hpt, cl_n (by omega)]
  obtain ⟨c1, c2, c3⟩ := cpS_spec (f := mbs) (b := 128 * (T + k0)) (a := 128 * t) (n := 16 * S) hb.2.2.2 (by omega)
  have hb' : DRb T S (va_cpy bs bs ((t * S + 0) * 16) (((T + k0) * S + 0) * 16) (S * 16)) (cpS mbs (128 * (T + k0)) (128 * t) (16 * S)) := by
    obtain ⟨g1, g2, g3, g4⟩ := hb
    refine ⟨fun p s i hp1 hs hi => ?_, fun p s i hp1 hs hi hno => ?_, isB_cpy g3 g3, c1⟩
    · by_cases q : p = T + k0
      · subst q
        rw [pk_cpy_in (by omega) (by omega), show 16 * (8 * (T + k0) + s) + i = 128 * (T + k0) + (16 * s + i) by omega, c3 _ (by omega)]
        have := g1 t s i (by omega) hs hi
        rw [show (t * S + 0) * 16 + (((T + k0) * S + s) * 16 + i - ((T + k0) * S + 0) * 16) = (t * S + s) * 16 + i by omega, this]
        congr 1; omega
      · have hd : (p * S + s) * 16 + i < ((T + k0) * S + 0) * 16 ∨ ((T + k0) * S + 0) * 16 + S * 16 ≤ (p * S + s) * 16 + i := by
          rcases Nat.lt_or_ge p (T + k0) with r | r
          · have h1 : (p + 1) * S ≤ (T + k0) * S := Nat.mul_le_mul_right S r
            rw [Nat.succ_mul] at h1
            omega
          · have h1 : (T + k0 + 1) * S ≤ p * S := Nat.mul_le_mul_right S (by omega)
            rw [Nat.succ_mul] at h1
            omega
        rw [pk_cpy_out hd, c2 _ (by omega)]
        exact g1 _ _ _ hp1 hs hi
    · rw [c2]
      · exact g2 _ _ _ hp1 hs hi hno
      · rcases Nat.lt_trichotomy p (T + k0) with r | r | r
        · omega
        · subst r
          have : ¬ s < S := fun z => hno ⟨by omega, z⟩
          omega
        · omega
  refine ⟨hb', fun p s hp1 hs => ?_, fun t' ht' => ?_, hr, ?_⟩
  · by_cases q : p = T + k0
    · subst q
      rw [ssF_in hs, msF_in hs]
      exact sum_eq hS8 hb' (by omega) hs
    · rw [ssF_out (fun s' hs' e => q (ix_inj hs hs' e).1), msF_out (fun s' hs' e => by omega)]
      exact hsm _ _ hp1 hs
  · by_cases q : t' = t
    · subst q
      exact Or.inr ⟨k0, hk0, pk_us, pk_us⟩
    · rw [pk_un q, pk_un q]; exact hp _ ht'
  · obtain ⟨k, hk2, ek, h1, h2, h3⟩ := hk
    have : k0 = k := nI_inj (by omega) (by omega) ek
    subst this
    refine ⟨k0 + 1, by omega, rfl, fun a ha => ?_, fun t' a ht' ha e => ?_, fun t1 t2 ht1 ht2 e hne => ?_⟩
    · rcases Nat.lt_or_ge a k0 with r | r
      · obtain ⟨t', ht', e⟩ := h1 a r
        refine ⟨t', ht', ?_⟩
        rw [pk_un]
        · exact e
        · intro z
          subst z
          rw [hse] at e; exact absurd e.symm (nI_nm1 (by omega))
      · have : a = k0 := by omega
        subst this
        exact ⟨t, ht, pk_us⟩
    · by_cases q : t' = t
      · subst q
        rw [pk_us] at e
        have := nI_inj (by omega) (by omega) e
        omega
      · rw [pk_un q] at e
        have := h2 t' a ht' ha e
        omega
    · by_cases q1 : t1 = t
      · by_cases q2 : t2 = t
        · rw [q1, q2]
        · subst q1
          rw [pk_us, pk_un q2] at e
          have := h2 t2 k0 ht2 hk0 e.symm
          omega
      · by_cases q2 : t2 = t
        · subst q2
          rw [pk_us, pk_un q1] at e
          have := h2 t1 k0 ht1 hk0 e
          omega
        · rw [pk_un q1, pk_un q2] at e
          rw [pk_un q1] at hne
          exact h3 t1 t2 ht1 ht2 e hne
/-- the tie speaks of few places -/
theorem DRb_cong {T S : Nat} {bs bs' g g' : Nat → Int32} (hT : T ≤ 12) (hS8 : S ≤ 8) (h : DRb T S bs g) (e0 : ∀ j, j < (T + 2) * S * 16 → bs' j = bs j) (e : ∀ j, j < 1792 → g' j = g j) (b1 : isB bs') (b2 : isB g') : DRb T S bs' g' := by
  obtain ⟨h1, h2, h3, h4⟩ := h
  refine ⟨fun p s i hp hs hi => ?_, fun p s i hp hs hi hno => ?_, b1, b2⟩
  · rw [e0 _ (sf_lt hp hs hi), e _ (by omega)]; exact h1 _ _ _ hp hs hi
  · rw [e _ (by omega)]; exact h2 _ _ _ hp hs hi hno
theorem DR_cong {T S : Nat} {bs sm pl r0 r1 bs' sm' pl' r0' r1' g gs ge gp g' gs' ge' gp' : Nat → Int32} {tk : Int32} (hT : T ≤ 12) (hS8 : S ≤ 8) (h : DR T S bs sm pl r0 r1 tk g gs ge gp)
    (e0 : ∀ j, j < (T + 2) * S * 16 → bs' j = bs j) (e1 : ∀ j, j < (T + 2) * S → sm' j = sm j) (e2 : ∀ j, j < T → pl' j = pl j) (e3 : ∀ j, j < T → r0' j = r0 j) (e4 : ∀ j, j < T → r1' j = r1 j)
    (f0 : ∀ j, j < 1792 → g' j = g j) (f1 : ∀ j, j < 112 → gs' j = gs j) (f2 : ∀ j, j < 12 → ge' j = ge j) (f3 : ∀ j, j < 24 → gp' j = gp j) (b1 : isB bs') (b2 : isB g') : DR T S bs' sm' pl' r0' r1' tk g' gs' ge' gp' := by
  obtain ⟨hb, hsm, hp, hr, k, hk2, ek, h1, h2, h3⟩ := h
  refine ⟨DRb_cong hT hS8 hb e0 f0 b1 b2, fun p s hp1 hs => ?_, fun t ht => ?_, fun t ht => ?_, k, hk2, ek, fun a ha => ?_, fun t a ht ha e => ?_, fun t1 t2 ht1 ht2 e hne => ?_⟩
  · rw [e1 _ (sf_slt hp1 hs), f1 _ (by omega)]; exact hsm _ _ hp1 hs
  · rw [e2 _ ht, f2 _ (by omega)]; exact hp t ht
  · rw [e3 _ ht, e4 _ ht, f3 _ (by omega), f3 _ (by omega)]; exact hr t ht
  · obtain ⟨t, ht, e⟩ := h1 a ha
    exact ⟨t, ht, by rw [f2 _ (by omega)]; exact e⟩
  · rw [f2 _ (by omega)] at e; exact h2 t a ht ha e
  · rw [f2 _ (by omega), f2 _ (by omega)] at e
    rw [f2 _ (by omega)] at hne
    exact h3 t1 t2 ht1 ht2 e hne
theorem cpy0 {f g : Nat → Int32} {n j : Nat} (h : j < n) : va_cpy f g 0 0 n j = f j := by rw [pk_cpy_in (Nat.zero_le _) (by omega)]; congr 1; omega
theorem dI_in {f g : Nat → Int32} {a n j : Nat} (h : j < n) : dI f g a n (a + j) = f j := by
  induction n with
  | zero => omega
  | succ n ih =>
    show upd _ _ _ _ = _
    by_cases q : j = n
    · subst q; exact pk_us
    · rw [pk_un (by omega)]; exact ih (by omega)
theorem dI_out {f g : Nat → Int32} {a n j : Nat} (h : j < a ∨ a + n ≤ j) : dI f g a n j = g j := by
  induction n with
  | zero => rfl
  | succ n ih =>
    show upd _ _ _ _ = _
    rw [pk_un (by omega)]; exact ih (by omega)
theorem dB_eq {f g : Nat → Int32} (h : isB f) (a n : Nat) : dB f g a n = dI f g a n := by
  induction n with
  | zero => rfl
  | succ n ih =>
    show upd _ _ _ = upd _ _ _
    rw [ih, isB_nar (h n)]
theorem isB_dI {f g : Nat → Int32} {a n : Nat} (hf : isB f) (hg : isB g) : isB (dI f g a n) := by
  induction n with
  | zero => exact hg
  | succ n ih => exact isB_upd ih (hf n)
theorem rI_in {f g : Nat → Int32} {a n j : Nat} (h : j < n) : rI f g a n j = f (a + j) := by
  induction n with
  | zero => omega
  | succ n ih =>
    show upd _ _ _ _ = _
    by_cases q : j = n
    · subst q; exact pk_us
    · rw [pk_un (by omega)]; exact ih (by omega)
theorem rB_eq {f g : Nat → Int32} (h : isB f) (a n : Nat) : rB f g a n = rI f g a n := by
  induction n with
  | zero => rfl
  | succ n ih =>
    show upd _ _ _ = upd _ _ _
    rw [ih, isB_nar (h _)]
theorem isB_rI {f g : Nat → Int32} {a n : Nat} (hf : isB f) (hg : isB g) : isB (rI f g a n) := by
  induction n with
  | zero => exact hg
  | succ n ih => exact isB_upd ih (hf _)
theorem isB_0 : isB (fun _ => 0) := fun _ => show (0 : Int32).toInt8.toInt32 = 0 by decide
/-- the start -/
theorem plF_in {n j : Nat} (h : j < n) : plF n j = nI j := by
  induction n with
  | zero => omega
  | succ n ih =>
    show upd _ _ _ _ = _
    by_cases q : j = n
    · subst q; exact pk_us
    · rw [pk_un q]; exact ih (by omega)
theorem seF_in {n j : Nat} (h : j < n) : seF n j = -1 := by
  induction n with
  | zero => omega
  | succ n ih =>
    show upd _ _ _ _ = _
    by_cases q : j = n
    · subst q; exact pk_us
    · rw [pk_un q]; exact ih (by omega)
theorem s2F_in {bs : Nat → Int32} {S n p s : Nat} (hs : s < S) (h : p < n) : s2F bs S n (p * S + s) = smA bs S p s := by
  induction n with
  | zero => omega
  | succ n ih =>
    show ssF _ _ _ _ _ _ = _
    by_cases q : p = n
    · subst q; exact ssF_in hs
    · rw [ssF_out (fun s' hs' e => q (ix_inj hs hs' e).1)]; exact ih (by omega)
theorem m2F_in {bs : Nat → Int32} {S n p s : Nat} (hS8 : S ≤ 8) (hs : s < S) (h : p < n) : m2F bs S n (8 * p + s) = msA bs (8 * p + s) := by
  induction n with
  | zero => omega
  | succ n ih =>
    show msF _ _ _ _ _ = _
    by_cases q : p = n
    · subst q; exact msF_in hs
    · rw [msF_out (fun s' hs' e => by omega)]; exact ih (by omega)
theorem DR_init {T S : Nat} (hT : T ≤ 12) (hS8 : S ≤ 8) : DR T S (fun _ => 0) (s2F (fun _ => 0) S (T + 2)) (plF T) (fun _ => 0) (fun _ => 0) (nI 0) (fun _ => 0) (m2F (fun _ => 0) S (T + 2)) (seF 12) (fun _ => 0) := by
  have hb : DRb T S (fun _ => 0) (fun _ => 0) := ⟨fun _ _ _ _ _ _ => rfl, fun _ _ _ _ _ _ _ => rfl, isB_0, isB_0⟩
  refine ⟨hb, fun p s hp hs => ?_, fun t ht => Or.inl ⟨seF_in (by omega), plF_in ht⟩, fun _ _ => ⟨rfl, rfl⟩, 0, by omega, rfl, fun a ha => absurd ha (Nat.not_lt_zero a), fun t a ht ha e => ?_, fun t1 t2 h1 h2 e hne => absurd (seF_in (by omega)) hne⟩
  · rw [s2F_in hs hp, m2F_in hS8 hs hp]; exact sum_eq hS8 hb hp hs
  · rw [seF_in (by omega)] at e; exact absurd e.symm (nI_nm1 (by omega))
/-- sectors that differ -/
theorem cnt_cn2F {f : Nat → Bool} {S : Nat} (n : Nat) : cnt f (n * S) = cn2 (fun p s => f (p * S + s)) S n := by
  induction n with
  | zero => simp [cnt, cn2]
  | succ n ih =>
    have h : ∀ m, cnt f (n * S + m) = cnt f (n * S) + cnt (fun s => f (n * S + s)) m := by
      intro m
      induction m with
      | zero => rfl
      | succ m ihm =>
        show cnt f (n * S + m) + (if f (n * S + m) = true then 1 else 0) = cnt f (n * S) + (cnt (fun s => f (n * S + s)) m + (if f (n * S + m) = true then 1 else 0))
        rw [ihm]; omega
    rw [Nat.succ_mul, h, ih]
    rfl
theorem cnt_tail {f : Nat → Bool} {n m : Nat} (h : ∀ i, n ≤ i → i < n + m → f i = false) : cnt f (n + m) = cnt f n := by
  induction m with
  | zero => rfl
  | succ m ih =>
    show cnt f (n + m) + (if f (n + m) = true then 1 else 0) = _
    rw [ih (fun i h1 h2 => h i h1 (by omega)), h (n + m) (by omega) (by omega)]
    simp
theorem dn_dm {bs bbs mbs kp : Nat → Int32} {d a q n : Nat} (h : ∀ i, i < n → bs (q * 16 + i) = mbs (16 * a + i) ∧ bbs (q * 16 + i) = kp (1792 * d + (16 * a + i))) : dnF bs bbs (q * 16) n = dmF kp mbs d a n := by
  induction n with
  | zero => rfl
  | succ n ih =>
    show (dnF bs bbs (q * 16) n || _) = (dmF kp mbs d a n || _)
    rw [ih (fun i hi => h i (by omega)), (h n (by omega)).1, (h n (by omega)).2]
    congr 1
    exact decide_eq_decide.mpr ⟨fun z e => z e.symm, fun z e => z e.symm⟩
theorem dm_0' {mbs kp : Nat → Int32} {d a n : Nat} (h : ∀ i, i < n → mbs (16 * a + i) = kp (1792 * d + (16 * a + i))) : dmF kp mbs d a n = false := by
  induction n with
  | zero => rfl
  | succ n ih =>
    show (dmF kp mbs d a n || _) = false
    rw [ih (fun i hi => h i (by omega)), h n (by omega)]
    simp
theorem diff_eq {T S d : Nat} {bs bbs mbs kp : Nat → Int32} (hT : T ≤ 12) (hS8 : S ≤ 8) (h : DRb T S bs mbs) (hd : DRb T S bbs (fun j => kp (1792 * d + j))) : cnt (fun q => dnF bs bbs (q * 16) 16) ((T + 2) * S) = cnt (fun t => dmF kp mbs d t 16) 112 := by
  have hz : ∀ p s, p < 14 → s < 8 → ¬ (p < T + 2 ∧ s < S) → dmF kp mbs d (8 * p + s) 16 = false := fun p s hp hs hno => dm_0' fun i hi => by
    rw [h.2.1 p s i hp hs hi hno]
    exact (hd.2.1 p s i hp hs hi hno).symm
  rw [cnt_cn2F, show (112 : Nat) = (T + 2) * 8 + (112 - (T + 2) * 8) by omega, cnt_tail (fun i h1 h2 => ?_)]
  · rw [cnt_congr (g := gW (fun p s => dmF kp mbs d (8 * p + s) 16) S) (fun i hi => ?_), cnt_cn2 hS8]
    · exact cn2_congr fun p s hp hs => dn_dm fun i hi => ⟨h.1 p s i hp hs hi, hd.1 p s i hp hs hi⟩
    · simp only [gW]
      by_cases q : i % 8 < S
      · rw [show 8 * (i / 8) + i % 8 = i by omega]; simp [q]
      · have := hz (i / 8) (i % 8) (by omega) (by omega) (fun z => q z.2)
        rw [show 8 * (i / 8) + i % 8 = i by omega] at this
        rw [this]; simp [q]
  · have := hz (i / 8) (i % 8) (by omega) (by omega) (fun z => by omega)
    rwa [show 8 * (i / 8) + i % 8 = i by omega] at this

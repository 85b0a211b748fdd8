/-! Worlds by membership: order doesn't matter; a callee's cells beside the rest; contracts that make cells -/
theorem va_P_iff {D : va_G} {cl : List vw_C} {w : va_W} {H : Heap} : va_P D cl w H ↔ ∀ q ∈ w, va_at D cl q H := by
  constructor
  · intro h q hq
    obtain ⟨k, hk⟩ := List.mem_iff_getElem?.mp hq
    exact h k q hk
  · intro h k q hq
    exact h q (List.mem_of_getElem? hq)
theorem va_D_iff {A : Nat → Prop} {w : va_W} : va_D A w ↔ w.Pairwise (fun p q => p.1 ≠ q.1) ∧ ∀ q ∈ w, A q.1 := by
  constructor
  · rintro ⟨h1, h2⟩
    refine ⟨List.pairwise_iff_getElem.mpr fun i j hi hj hij e => ?_, fun q hq => ?_⟩
    · have := h1 i j _ _ (List.getElem?_eq_getElem hi) (List.getElem?_eq_getElem hj) e
      omega
    · obtain ⟨k, hk⟩ := List.mem_iff_getElem?.mp hq
      exact h2 k q hk
  · rintro ⟨h1, h2⟩
    refine ⟨fun i j p q hp hq e => ?_, fun k q hq => h2 q (List.mem_of_getElem? hq)⟩
    obtain ⟨hi, ei⟩ := List.getElem?_eq_some_iff.mp hp
    obtain ⟨hj, ej⟩ := List.getElem?_eq_some_iff.mp hq
    rcases Nat.lt_trichotomy i j with r | r | r
    · exact absurd (by rw [ei, ej]; exact e) (List.pairwise_iff_getElem.mp h1 i j hi hj r)
    · exact r
    · exact absurd (by rw [ei, ej]; exact e.symm) (List.pairwise_iff_getElem.mp h1 j i hj hi r)
theorem va_P_perm {D : va_G} {cl : List vw_C} {w w' : va_W} {H : Heap} (hp : w.Perm w') (h : va_P D cl w H) : va_P D cl w' H := va_P_iff.mpr fun q hq => va_P_iff.mp h q (hp.mem_iff.mpr hq)
theorem va_P_mem {D : va_G} {cl : List vw_C} {w w' : va_W} {H : Heap} (hp : ∀ q ∈ w', q ∈ w) (h : va_P D cl w H) : va_P D cl w' H := va_P_iff.mpr fun q hq => va_P_iff.mp h q (hp q hq)
theorem va_D_perm {A : Nat → Prop} {w w' : va_W} (hp : w.Perm w') (h : va_D A w) : va_D A w' := by
  obtain ⟨h1, h2⟩ := va_D_iff.mp h
  exact va_D_iff.mpr ⟨(hp.pairwise_iff (fun {_ _} h => Ne.symm h)).mp h1, fun q hq => h2 q (hp.mem_iff.mpr hq)⟩
theorem va_D_right {A : Nat → Prop} {a b : va_W} (h : va_D A (a ++ b)) : va_D A b := by
  obtain ⟨h1, h2⟩ := va_D_iff.mp h
  exact va_D_iff.mpr ⟨(List.pairwise_append.mp h1).2.1, fun q hq => h2 q (List.mem_append_right _ hq)⟩
theorem va_A_iff {w : va_W} {sz q : Nat} : va_A w sz q ↔ (∃ p ∈ w, p.1 = q) ∨ sz ≤ q := by
  constructor
  · rintro (⟨k, e, h⟩ | h)
    · exact Or.inl ⟨_, List.mem_of_getElem? h, rfl⟩
    · exact Or.inr h
  · rintro (⟨p, hp, rfl⟩ | h)
    · obtain ⟨k, hk⟩ := List.mem_iff_getElem?.mp hp
      exact Or.inl ⟨k, p.2, hk⟩
    · exact Or.inr h
theorem fr_free {A0 : Nat → Prop} {wr wc : va_W} {H0 H : Heap} {locs : List Loc} (hD : va_D A0 (wr ++ wc)) (hS : va_S A0 H0 H locs) (hA : ∀ q, H0.size ≤ q → A0 q) : ∀ q, va_A wc H.size q → A0 q := by
  intro q hq
  rcases va_A_iff.mp hq with ⟨p, hp, rfl⟩ | h
  · exact (va_D_iff.mp hD).2 p (List.mem_append_right _ hp)
  · exact hA q (Nat.le_trans hS.1 h)
theorem fr_join {A0 : Nat → Prop} {D : va_G} {cl : List vw_C} {wr wc w1 : va_W} {H H1 : Heap} (hP : va_P D cl (wr ++ wc) H) (hD : va_D A0 (wr ++ wc)) (hk : ∀ q : Nat, q < H.size → ¬ va_A wc H.size q → H1[q]? = H[q]?) (hF : ∀ q, va_A wc H.size q → A0 q) (hP1 : va_P D cl w1 H1) (hD1 : va_D (va_A wc H.size) w1) : va_P D cl (wr ++ w1) H1 ∧ va_D A0 (wr ++ w1) := by
  obtain ⟨d1, d2⟩ := va_D_iff.mp hD
  obtain ⟨e1, e2⟩ := va_D_iff.mp hD1
  obtain ⟨a1, a2, a3⟩ := List.pairwise_append.mp d1
  have hP' := va_P_iff.mp hP
  have hlt : ∀ q ∈ wr, q.1 < H.size := fun q hq => (hP' q (List.mem_append_left _ hq)).lt
  constructor
  · refine va_P_iff.mpr fun q hq => ?_
    rcases List.mem_append.mp hq with h | h
    · refine (hP' q (List.mem_append_left _ h)).kept (hk q.1 (hlt q h) fun z => ?_)
      rcases va_A_iff.mp z with ⟨p, hp, e⟩ | z
      · exact a3 q h p hp e.symm
      · have := hlt q h
        omega
    · exact va_P_iff.mp hP1 q h
  · refine va_D_iff.mpr ⟨List.pairwise_append.mpr ⟨a1, e1, fun p hp q hq e => ?_⟩, fun q hq => ?_⟩
    · rcases va_A_iff.mp (e2 q hq) with ⟨r, hr, e'⟩ | z
      · exact a3 p hp r hr (e.trans e'.symm)
      · have := hlt p hp
        omega
    · rcases List.mem_append.mp hq with h | h
      · exact d2 q (List.mem_append_left _ h)
      · exact hF _ (e2 q h)
/-- an end that makes cells: the answer, the new world up to what x tells -/
def al_Q {X : Type} (D : va_G) (v : Option Value) (G : X → Prop) (w' : X → va_W) (A : Nat → Prop) : Array Value → State → Outcome → State → Prop := fun _ st o t => (∃ x, G x ∧ o = .returned v ∧ va_P D vwCl (w' x) t.heap ∧ va_D A (w' x)) ∧ va_F A st t
def adF (l : List Nat) : Nat → Nat := fun j => l.getD j 0
theorem ty_same {D : va_G} {κ : Nat → ClassId} {s : State} {cA : ClassId} {ty : FieldType} {k : Nat} (hK : va_K D vwCl (tyA κ) s) (hK' : va_K D vwCl (tyA κ ++ [(cA, ty)]) s) (hk : (tyA κ)[k]? = some (κ k, ty)) (h : ty = .int ∨ ty = .byte ∨ ty = .long ∨ ty = .object RX1) : cA = κ k := by
  have h1 := (hK.2 k _ hk).2
  have h2 := (hK'.2 4 (cA, ty) rfl).2
  rcases h with rfl | rfl | rfl | rfl
  · exact Option.some.inj (h2.symm.trans h1)
  · exact Option.some.inj (h2.symm.trans h1)
  · exact Option.some.inj (h2.symm.trans h1)
  · obtain ⟨_, _, _, _, _, g2⟩ := h2
    obtain ⟨_, _, _, _, _, g1⟩ := h1
    exact Option.some.inj (g2.symm.trans g1)
section AL
variable {p : Program} {l : Launch} {e : Env} {R : Room} {s : State} {m : MethodId} {args : Array Value} {below : List Frame} {meth : Method} {c : Code} {H : Heap} {locs : List Loc} {cells slots : Nat} {Q : State → Prop}
variable {pc : Nat} {ls : Array Slot} {rest st0 : List Value} {a : Array Value} {A0 : Nat → Prop} {H0 : Heap} {mc ms : Nat}
theorem al_call {X : Type} {D : va_G} {v : Option Value} {G : X → Prop} {w' : X → va_W} {ws wr wc : va_W} (hr : va_Run p l e R s m args below meth c H locs cells slots mc ms (F0 m pc ls st0) rest (al_Q D v G w' (va_A wc H.size) a) (va_A wc H.size))
    (hP : va_P D vwCl ws H) (hD : va_D A0 ws) (hS : va_S A0 H0 H locs) (hA : ∀ q, H0.size ≤ q → A0 q) (hp : ws.Perm (wr ++ wc))
    (kk : ∀ x, G x → ∀ (H1 : Heap) (locs1 : List Loc), va_P D vwCl (wr ++ w' x) H1 → va_D A0 (wr ++ w' x) → va_S A0 H0 H1 locs1 → W p l e R s m args below meth c H1 locs1 (cells + mc) (slots + ms) Q (F0 m (pc + 3) ls (v.toList ++ rest))) : W p l e R s m args below meth c H locs cells slots Q (F0 m pc ls st0) := by
  intro T hT X
  have hD' := va_D_perm hp hD
  have hF := fr_free hD' hS hA
  obtain ⟨v', st₀, t, T', L, h0, X', hL, e1, e2, ⟨⟨x, hG, hv, hp1, hd⟩, hz, hk⟩, st⟩ := hr T hT X
  cases hv
  rw [h0] at hz hk
  obtain ⟨hP1, hD1⟩ := fr_join (H1 := t.heap) (va_P_perm hp hP) hD' hk hF hp1 hd
  obtain ⟨t2, a1, b1⟩ := kk x hG T'.heap (locs ++ L) (by rw [e1]; exact hP1) hD1
    ⟨Nat.le_trans hS.1 (by rw [e1]; exact hz), fun q h1 h2 => by rw [e1, hk q (Nat.lt_of_lt_of_le h1 hS.1) (fun z => h2 (hF q z))]; exact hS.2.1 q h1 h2, fun q hq => by
      rcases List.mem_append.mp hq with h | h
      · exact hS.2.2 q h
      · exact hF _ (hL q h)⟩ T' rfl X'
  exact ⟨t2, st t2 a1, b1⟩
/-- the same for a callee that makes no cells of its own kind -/
theorem mu_callA {D : va_G} {v : Option Value} {ws wr wc wc' : va_W} (hr : va_Run p l e R s m args below meth c H locs cells slots mc ms (F0 m pc ls st0) rest (mu_Q D v wc' (va_A wc H.size) a) (va_A wc H.size))
    (hP : va_P D vwCl ws H) (hD : va_D A0 ws) (hS : va_S A0 H0 H locs) (hA : ∀ q, H0.size ≤ q → A0 q) (hp : ws.Perm (wr ++ wc))
    (kk : ∀ (H1 : Heap) (locs1 : List Loc), va_P D vwCl (wr ++ wc') H1 → va_D A0 (wr ++ wc') → va_S A0 H0 H1 locs1 → W p l e R s m args below meth c H1 locs1 (cells + mc) (slots + ms) Q (F0 m (pc + 3) ls (v.toList ++ rest))) : W p l e R s m args below meth c H locs cells slots Q (F0 m pc ls st0) :=
  al_call (a := a) (X := Unit) (G := fun _ => True) (w' := fun _ => wc') (fun T hT X => by
    obtain ⟨v', st₀, t, T', L, h0, X', hL, e1, e2, ⟨⟨hv, hp1, hd⟩, hF⟩, st⟩ := hr T hT X
    exact ⟨v', st₀, t, T', L, h0, X', hL, e1, e2, ⟨⟨(), trivial, hv, hp1, hd⟩, hF⟩, st⟩) hP hD hS hA hp (fun _ _ H1 locs1 hP hD hS => kk H1 locs1 hP hD hS)
end AL

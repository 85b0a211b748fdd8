/-! Both states, the tie, and each operation in both -/
abbrev DS : Type := (Nat → Nat) × (Nat → Int32) × (Nat → Int32) × (Nat → Int32) × (Nat → Int32) × (Nat → Int32) × Int32 × Int32
abbrev CS : Type := (Nat → Int32) × (Nat → Int32) × (Nat → Int32) × (Nat → Int32) × (Nat → Int32) × Int32 × Int32 × (Nat → Int32) × (Nat → Int32) × (Nat → Int32) × Int32 × (Nat → Int32) × Int32 × Int32 × Int32
abbrev MS : Type := Int32 × (Nat → Int32) × (Nat → Int32) × (Nat → Int32) × (Nat → Int32) × (Nat → Int32) × (Nat → Int32) × (Nat → Int32) × (Nat → Int32) × (Nat → Int32) × Int32 × Int32 × (Nat → Int32) × (Nat → Int32) × (Nat → Int32) × Int32 × (Nat → Int32) × Int32 × Int32
def duF (ds : List DS) : Nat → Option Nat := fun k => ds[k]?.map (fun d => d.1 0)
def drW (κ : Nat → ClassId) (T S : Nat) (d : DS) : va_W := sfW κ T S d.1 d.2.1 d.2.2.1 d.2.2.2.1 d.2.2.2.2.1 d.2.2.2.2.2.1 d.2.2.2.2.2.2.1 d.2.2.2.2.2.2.2
def dsW (κ : Nat → ClassId) (T S : Nat) : List DS → va_W
  | [] => []
  | d :: ds => drW κ T S d ++ dsW κ T S ds
theorem dsW_app (κ : Nat → ClassId) (T S : Nat) (a b : List DS) : dsW κ T S (a ++ b) = dsW κ T S a ++ dsW κ T S b := by
  induction a with
  | nil => rfl
  | cons d a ih => show drW κ T S d ++ dsW κ T S (a ++ b) = (drW κ T S d ++ dsW κ T S a) ++ _; rw [ih, List.append_assoc]
def cW (κ : Nat → ClassId) (T S : Nat) (ad : Nat → Nat) (C : CS) (ds : List DS) : va_W := tdW κ T S ad C.1 C.2.1 C.2.2.1 C.2.2.2.1 C.2.2.2.2.1 C.2.2.2.2.2.1 C.2.2.2.2.2.2.1 (duF ds) (nI ds.length) C.2.2.2.2.2.2.2.1 C.2.2.2.2.2.2.2.2.1 C.2.2.2.2.2.2.2.2.2.1 C.2.2.2.2.2.2.2.2.2.2.1 C.2.2.2.2.2.2.2.2.2.2.2.1 C.2.2.2.2.2.2.2.2.2.2.2.2.1 C.2.2.2.2.2.2.2.2.2.2.2.2.2.1 C.2.2.2.2.2.2.2.2.2.2.2.2.2.2
def mW (κ : Nat → ClassId) (T S : Nat) (ad : Nat → Nat) (M : MS) : va_W := moW κ T S ad M.1 M.2.1 M.2.2.1 M.2.2.2.1 M.2.2.2.2.1 M.2.2.2.2.2.1 M.2.2.2.2.2.2.1 M.2.2.2.2.2.2.2.1 M.2.2.2.2.2.2.2.2.1 M.2.2.2.2.2.2.2.2.2.1 M.2.2.2.2.2.2.2.2.2.2.1 M.2.2.2.2.2.2.2.2.2.2.2.1 M.2.2.2.2.2.2.2.2.2.2.2.2.1 M.2.2.2.2.2.2.2.2.2.2.2.2.2.1 M.2.2.2.2.2.2.2.2.2.2.2.2.2.2.1 M.2.2.2.2.2.2.2.2.2.2.2.2.2.2.2.1 M.2.2.2.2.2.2.2.2.2.2.2.2.2.2.2.2.1 M.2.2.2.2.2.2.2.2.2.2.2.2.2.2.2.2.2.1 M.2.2.2.2.2.2.2.2.2.2.2.2.2.2.2.2.2.2
def kW (κ : Nat → ClassId) (T S : Nat) (ad : Nat → Nat) (C : CS) (ds : List DS) : va_W := dsW κ T S ds ++ cW κ T S ad C ds
/-- the tie of a dump -/
def DRd (T S : Nat) (d : DS) (k : Nat) (kp ks ke kq vo : Nat → Int32) : Prop := DR T S d.2.1 d.2.2.1 d.2.2.2.1 d.2.2.2.2.1 d.2.2.2.2.2.1 d.2.2.2.2.2.2.1 (fun j => kp (1792 * k + j)) (fun j => ks (112 * k + j)) (fun j => ke (12 * k + j)) (fun j => kq (24 * k + j)) ∧ d.2.2.2.2.2.2.2 = vo k
/-- THE TIE of the two -/
abbrev RelT (T S : Nat) (C : CS) (ds : List DS) (M : MS) : Prop :=
  DR T S C.1 C.2.1 C.2.2.1 C.2.2.2.1 C.2.2.2.2.1 C.2.2.2.2.2.1 M.2.1 M.2.2.2.1 M.2.2.2.2.2.1 M.2.2.2.2.2.2.1 ∧ isB M.2.2.1 ∧ M.2.2.2.2.2.2.2.2.2.2.1 = nI ds.length ∧ ds.length ≤ 5 ∧ (∀ k d, ds[k]? = some d → DRd T S d k M.2.2.1 M.2.2.2.2.1 M.2.2.2.2.2.2.2.1 M.2.2.2.2.2.2.2.2.1 M.2.2.2.2.2.2.2.2.2.1) ∧
  (∃ w, w ≤ 40 ∧ C.2.2.2.2.2.2.2.2.2.2.1 = nI w ∧ M.2.2.2.2.2.2.2.2.2.2.2.1 = nI w ∧ ∀ k, k < w → C.2.2.2.2.2.2.2.1 k = M.2.2.2.2.2.2.2.2.2.2.2.2.1 k ∧ C.2.2.2.2.2.2.2.2.1 k = M.2.2.2.2.2.2.2.2.2.2.2.2.2.1 k ∧ C.2.2.2.2.2.2.2.2.2.1 k = M.2.2.2.2.2.2.2.2.2.2.2.2.2.2.1 k ∧ vp_in (C.2.2.2.2.2.2.2.1 k) T ∧ vp_in (C.2.2.2.2.2.2.2.2.1 k) S) ∧
  (C.2.2.2.2.2.2.2.2.2.2.2.2.2.2 = M.2.2.2.2.2.2.2.2.2.2.2.2.2.2.2.1 ∧ (C.2.2.2.2.2.2.2.2.2.2.2.2.2.2 = nI 0 ∨ C.2.2.2.2.2.2.2.2.2.2.2.2.2.2 = nI 1)) ∧
  (∃ n a, a ≤ n ∧ n ≤ 100 ∧ C.2.2.2.2.2.2.2.2.2.2.2.2.1 = nI n ∧ M.2.2.2.2.2.2.2.2.2.2.2.2.2.2.2.2.2.1 = nI n ∧ C.2.2.2.2.2.2.2.2.2.2.2.2.2.1 = nI a ∧ M.2.2.2.2.2.2.2.2.2.2.2.2.2.2.2.2.2.2 = nI a ∧ ∀ j, j < n → C.2.2.2.2.2.2.2.2.2.2.2.1 j = M.2.2.2.2.2.2.2.2.2.2.2.2.2.2.2.2.1 j)

/-- a contract over a world, and the same beside other cells -/
def CM (l : Launch) (D : va_G) (κ : Nat → ClassId) (y : MethodName) (ws : List Cond) (rm : Room) (av : List Value) (w w' : va_W) (v : Option Value) : Prop := ∀ sz, Met l y ws rm (va_Pc av (mu_B D κ w sz)) (mu_Q D v w' (va_A w sz)) 0 0 (va_A w sz)
theorem Met_mono {l : Launch} {y : MethodName} {ws : List Cond} {rm : Room} {Pc Pc' : Array Value → State → Prop} {Qc Qc' : Array Value → State → Outcome → State → Prop} {mc ms : Nat} {free free' : Addr → Prop} (h : Met l y ws rm Pc Qc mc ms free)
    (h1 : ∀ a st, Pc' a st → Pc a st) (h2 : ∀ a st o t, Pc' a st → Qc a st o t → Qc' a st o t) (h3 : ∀ q, free q → free' q) : Met l y ws rm Pc' Qc' mc ms free' := by
  intro p e ha hc hk s m args below hf happ hP hK
  obtain ⟨k, o, a1, a2, a3, a4, L, a5, a6⟩ := h p e ha hc hk s m args below hf happ (h1 _ _ hP) hK
  exact ⟨k, o, a1, a2, a3, h2 _ _ _ _ hP a4, L, a5, fun q hq => h3 _ (a6 q hq)⟩
theorem va_A_mono {w W f : va_W} {sz : Nat} (hp : W.Perm (f ++ w)) : ∀ q, va_A w sz q → va_A W sz q := fun q hq => by
  rcases va_A_iff.mp hq with ⟨p, hp1, e⟩ | z
  · exact va_A_iff.mpr (Or.inl ⟨p, hp.mem_iff.mpr (List.mem_append_right _ hp1), e⟩)
  · exact va_A_iff.mpr (Or.inr z)
theorem fr_post {D : va_G} {w w1 f W : va_W} {st t : State} (hP : va_P D vwCl W st.heap) (hD : va_D (fun _ => True) W) (hp : W.Perm (f ++ w)) (hP1 : va_P D vwCl w1 t.heap) (hD1 : va_D (va_A w st.heap.size) w1) (hF : va_F (va_A w st.heap.size) st t) : va_P D vwCl (f ++ w1) t.heap ∧ va_D (va_A W st.heap.size) (f ++ w1) ∧ va_F (va_A W st.heap.size) st t := by
  have hD' : va_D (va_A W st.heap.size) (f ++ w) := va_D_perm hp hD.self
  obtain ⟨a, b⟩ := fr_join (H1 := t.heap) (va_P_perm hp hP) hD' hF.2 (va_A_mono hp) hP1 hD1
  exact ⟨a, b, hF.1, fun q h1 h2 => hF.2 q h1 (fun z => h2 (va_A_mono hp q z))⟩
theorem CM.fr {l : Launch} {D : va_G} {κ : Nat → ClassId} {y : MethodName} {ws : List Cond} {rm : Room} {av : List Value} {w w' W W' : va_W} {v : Option Value} (f : va_W) (h : CM l D κ y ws rm av w w' v) (hp : W.Perm (f ++ w)) (hp' : W'.Perm (f ++ w')) : CM l D κ y ws rm av W W' v := by
  intro sz
  refine Met_mono (h sz) (fun a st hs => ?_) (fun a st o t hs hq => ?_) (va_A_mono hp)
  · obtain ⟨e, hsz, hP, hK, hD⟩ := hs
    refine ⟨e, hsz, va_P_mem (fun q hq => hp.mem_iff.mpr (List.mem_append_right _ hq)) hP, hK, ?_⟩
    exact va_D_right (va_D_perm hp hD)
  · obtain ⟨e, hsz, hP, hK, hD⟩ := hs
    subst hsz
    obtain ⟨⟨ho, hP1, hD1⟩, hF⟩ := hq
    obtain ⟨b1, b2, b3⟩ := fr_post hP hD hp hP1 hD1 hF
    exact ⟨⟨ho, va_P_perm hp'.symm b1, va_D_perm hp'.symm b2⟩, b3⟩
/-- a class's contract beside its dumps -/
theorem CM.k {l : Launch} {D : va_G} {κ : Nat → ClassId} {y : MethodName} {ws : List Cond} {rm : Room} {av : List Value} {T S : Nat} {ad : Nat → Nat} {C C' : CS} {ds : List DS} {v : Option Value} (h : CM l D κ y ws rm av (cW κ T S ad C ds) (cW κ T S ad C' ds) v) : CM l D κ y ws rm av (kW κ T S ad C ds) (kW κ T S ad C' ds) v :=
  h.fr (dsW κ T S ds) (List.Perm.refl _) (List.Perm.refl _)
/-- one dump taken out -/
theorem ds_perm (κ : Nat → ClassId) (T S : Nat) {ds : List DS} {k : Nat} {d : DS} (h : ds[k]? = some d) : ∃ f, ∀ w, (dsW κ T S ds ++ w).Perm (f ++ (w ++ drW κ T S d)) := by
  obtain ⟨hk, e⟩ := List.getElem?_eq_some_iff.mp h
  have e2 : ds = ds.take k ++ d :: ds.drop (k + 1) := by
    rw [← e, ← List.drop_eq_getElem_cons hk, List.take_append_drop]
  refine ⟨dsW κ T S (ds.take k) ++ dsW κ T S (ds.drop (k + 1)), fun w => ?_⟩
  have h0 : dsW κ T S ds = dsW κ T S (ds.take k) ++ (drW κ T S d ++ dsW κ T S (ds.drop (k + 1))) := by
    conv => lhs; rw [e2]
    exact dsW_app κ T S _ _
  rw [h0]
  have h1 : (dsW κ T S (ds.take k) ++ (drW κ T S d ++ dsW κ T S (ds.drop (k + 1)))) ++ w = dsW κ T S (ds.take k) ++ (drW κ T S d ++ (dsW κ T S (ds.drop (k + 1)) ++ w)) := by simp only [List.append_assoc]
  have h2 : (dsW κ T S (ds.take k) ++ dsW κ T S (ds.drop (k + 1))) ++ (w ++ drW κ T S d) = dsW κ T S (ds.take k) ++ ((dsW κ T S (ds.drop (k + 1)) ++ w) ++ drW κ T S d) := by simp only [List.append_assoc]
  rw [h1, h2]
  exact List.Perm.append_left _ List.perm_append_comm

theorem ww_add {T S w : Nat} {wt wx wb mwt mwx mwb : Nat → Int32} (h : ∀ k, k < w → wt k = mwt k ∧ wx k = mwx k ∧ wb k = mwb k ∧ vp_in (wt k) T ∧ vp_in (wx k) S) (hTS : T < 2 ^ 31 ∧ S < 2 ^ 31) {t b : Nat} {z : Int32} (ht : t < T) (hb : b < S) :
    ∀ k, k < w + 1 → upd wt w (nI t) k = upd mwt w (nI t) k ∧ upd wx w (nI b) k = upd mwx w (nI b) k ∧ upd wb w z k = upd mwb w z k ∧ vp_in (upd wt w (nI t) k) T ∧ vp_in (upd wx w (nI b) k) S := by
  intro k hk
  by_cases q : k = w
  · subst q
    simp only [pk_us]
    exact ⟨trivial, trivial, trivial, vp_in_nI ht hTS.1, vp_in_nI hb hTS.2⟩
  · simp only [pk_un q]
    exact h k (by omega)

set_option maxHeartbeats 4000000 in
set_option maxRecDepth 100000 in
theorem op_write {T S : Nat} {C : CS} {ds : List DS} {M : MS} (hT : T ≤ 12) (hS8 : S ≤ 8) (hR : RelT T S C ds M) (l : Launch) (D : va_G) (κ : Nat → ClassId) (ad bd : Nat → Nat) (x y z : Int32) : ∃ (r : Int32) (C' : CS) (M' : MS), RelT T S C' ds M' ∧ CM l D κ yX3_write wsX3_write ({ frames := 2, cells := 0, slots := 0, locals := 43 }) [.ref (ad 0), .int x, .int y, .int (z.toInt8.toInt32)] (kW κ T S ad C ds) (kW κ T S ad C' ds) (some (.int r)) ∧ CM l D κ yX4_write wsX4_write ({ frames := 2, cells := 0, slots := 0, locals := 43 }) [.ref (bd 0), .int x, .int y, .int (z.toInt8.toInt32)] (mW κ T S bd M) (mW κ T S bd M') (some (.int r)) := by
  obtain ⟨bs, sm, pl, r0, r1, tk, vo, wt, wx, wb, wn, tp, tn, ts, dn⟩ := C
  obtain ⟨mco, mbs, mkp, msm, mks, mse, msp, mke, mkq, mvo, mnd, mwn, mwt, mwx, mwb, mdn, mtp, mtn, mts⟩ := M
  obtain ⟨hD, hkp, hnd, hd5, hds, ⟨w, hw40, ewn, emwn, hww⟩, ⟨edn, hdn⟩, n, a, han, hn100, etn, emtn, ets, emts, htp⟩ := hR
  dsimp only at hD hkp hnd hds ewn emwn hww edn hdn etn emtn ets emts htp
  subst ewn emwn edn etn emtn ets emts hnd
  have hpl := pl_in hT hD.2.2.1
  have hse := se_in hT hD.2.2.1
  have hwt : ∀ k, k < w → vp_in (wt k) T := fun k hk => (hww k hk).2.2.2.1
  have hwx : ∀ k, k < w → vp_in (wx k) S := fun k hk => (hww k hk).2.2.2.2
  have hmwt : ∀ k, k < w → vp_in (mwt k) T := fun k hk => by rw [← (hww k hk).1]; exact hwt k hk
  have hmwx : ∀ k, k < w → vp_in (mwx k) S := fun k hk => by rw [← (hww k hk).2.1]; exact hwx k hk
  by_cases hs : (inF x T && inF y S) = true
  · rw [Bool.and_eq_true] at hs
    obtain ⟨t, ht, rfl⟩ := inF_of hs.1 (by omega)
    obtain ⟨b, hb, rfl⟩ := inF_of hs.2 (by omega)
    rcases hdn with rfl | rfl
    · rcases Nat.lt_or_ge w 40 with q | q
      · skip
        exact ⟨nI (w + 1), (bs, sm, pl, r0, r1, tk, vo, (upd wt w (nI t)), (upd wx w (nI b)), (upd wb w (z.toInt8.toInt32)), (nI (w + 1)), tp, (nI n), (nI a), (nI 0)), ((nI 0), mbs, mkp, msm, mks, mse, msp, mke, mkq, mvo, (nI ds.length), (nI (w + 1)), (upd mwt w (nI t)), (upd mwx w (nI b)), (upd mwb w (z.toInt8.toInt32)), (nI 0), mtp, (nI n), (nI a)), ⟨hD, hkp, rfl, hd5, hds, ⟨w + 1, by omega, rfl, rfl, ww_add hww ⟨by omega, by omega⟩ ht hb⟩, ⟨rfl, Or.inl rfl⟩, ⟨n, a, han, hn100, rfl, rfl, rfl, rfl, htp⟩⟩, CM.k (fun sz => c_write l D κ sz T S ad bs sm pl r0 r1 tk vo (duF ds) (nI ds.length) wt wx wb tp (nI n) (nI a) hT hS8 t b ht hb z w q), fun sz => m_write l D κ sz T S bd mco mbs mkp msm mks mse msp mke mkq mvo (nI ds.length) mwt mwx mwb mtp (nI n) (nI a) hT hS8 t b ht hb z w q⟩
      · have e : w = 40 := by omega
        subst e
        exact ⟨-1, (bs, sm, pl, r0, r1, tk, vo, wt, wx, wb, (nI 40), tp, (nI n), (nI a), (nI 0)), ((nI 0), mbs, mkp, msm, mks, mse, msp, mke, mkq, mvo, (nI ds.length), (nI 40), mwt, mwx, mwb, (nI 0), mtp, (nI n), (nI a)), ⟨hD, hkp, rfl, hd5, hds, ⟨40, hw40, rfl, rfl, hww⟩, ⟨rfl, Or.inl rfl⟩, ⟨n, a, han, hn100, rfl, rfl, rfl, rfl, htp⟩⟩, CM.k (fun sz => c_write_full l D κ sz T S ad bs sm pl r0 r1 tk vo (duF ds) (nI ds.length) wt wx wb tp (nI n) (nI a) hT hS8 t b ht hb z), fun sz => m_write_full l D κ sz T S bd mco mbs mkp msm mks mse msp mke mkq mvo (nI ds.length) mwt mwx mwb mtp (nI n) (nI a) hT hS8 t b ht hb z⟩
    · exact ⟨-5, (bs, sm, pl, r0, r1, tk, vo, wt, wx, wb, (nI w), tp, (nI n), (nI a), (nI 1)), ((nI 0), mbs, mkp, msm, mks, mse, msp, mke, mkq, mvo, (nI ds.length), (nI w), mwt, mwx, mwb, (nI 1), mtp, (nI n), (nI a)), ⟨hD, hkp, rfl, hd5, hds, ⟨w, hw40, rfl, rfl, hww⟩, ⟨rfl, Or.inr rfl⟩, ⟨n, a, han, hn100, rfl, rfl, rfl, rfl, htp⟩⟩, CM.k (fun sz => c_write_down l D κ sz T S ad bs sm pl r0 r1 tk vo (duF ds) (nI ds.length) wt wx wb (nI w) tp (nI n) (nI a) hT hS8 t b ht hb z), fun sz => m_write_down l D κ sz T S bd mco mbs mkp msm mks mse msp mke mkq mvo (nI ds.length) (nI w) mwt mwx mwb mtp (nI n) (nI a) hT hS8 t b ht hb z⟩
  · have hno : (inF x T && inF y S) = false := by simpa using hs
    exact ⟨-2, (bs, sm, pl, r0, r1, tk, vo, wt, wx, wb, (nI w), tp, (nI n), (nI a), dn), ((nI 0), mbs, mkp, msm, mks, mse, msp, mke, mkq, mvo, (nI ds.length), (nI w), mwt, mwx, mwb, dn, mtp, (nI n), (nI a)), ⟨hD, hkp, rfl, hd5, hds, ⟨w, hw40, rfl, rfl, hww⟩, ⟨rfl, hdn⟩, ⟨n, a, han, hn100, rfl, rfl, rfl, rfl, htp⟩⟩, CM.k (fun sz => c_write_no l D κ sz T S ad bs sm pl r0 r1 tk vo (duF ds) (nI ds.length) wt wx wb (nI w) tp (nI n) (nI a) dn x y z hno), fun sz => m_write_no l D κ sz T S bd mco mbs mkp msm mks mse msp mke mkq mvo (nI ds.length) (nI w) mwt mwx mwb dn mtp (nI n) (nI a) x y z hno⟩

set_option maxHeartbeats 4000000 in
set_option maxRecDepth 100000 in
theorem op_sync {T S : Nat} {C : CS} {ds : List DS} {M : MS} (hT : T ≤ 12) (hS8 : S ≤ 8) (hR : RelT T S C ds M) (l : Launch) (D : va_G) (κ : Nat → ClassId) (ad bd : Nat → Nat)  : ∃ (r : Int32) (C' : CS) (M' : MS), RelT T S C' ds M' ∧ CM l D κ yX3_sync wsX3_sync ({ frames := 5, cells := 0, slots := 0, locals := 116 }) [.ref (ad 0)] (kW κ T S ad C ds) (kW κ T S ad C' ds) (some (.int r)) ∧ CM l D κ yX4_sync wsX4_sync ({ frames := 3, cells := 0, slots := 0, locals := 68 }) [.ref (bd 0)] (mW κ T S bd M) (mW κ T S bd M') (some (.int r)) := by
  obtain ⟨bs, sm, pl, r0, r1, tk, vo, wt, wx, wb, wn, tp, tn, ts, dn⟩ := C
  obtain ⟨mco, mbs, mkp, msm, mks, mse, msp, mke, mkq, mvo, mnd, mwn, mwt, mwx, mwb, mdn, mtp, mtn, mts⟩ := M
  obtain ⟨hD, hkp, hnd, hd5, hds, ⟨w, hw40, ewn, emwn, hww⟩, ⟨edn, hdn⟩, n, a, han, hn100, etn, emtn, ets, emts, htp⟩ := hR
  dsimp only at hD hkp hnd hds ewn emwn hww edn hdn etn emtn ets emts htp
  subst ewn emwn edn etn emtn ets emts hnd
  have hpl := pl_in hT hD.2.2.1
  have hse := se_in hT hD.2.2.1
  have hwt : ∀ k, k < w → vp_in (wt k) T := fun k hk => (hww k hk).2.2.2.1
  have hwx : ∀ k, k < w → vp_in (wx k) S := fun k hk => (hww k hk).2.2.2.2
  have hmwt : ∀ k, k < w → vp_in (mwt k) T := fun k hk => by rw [← (hww k hk).1]; exact hwt k hk
  have hmwx : ∀ k, k < w → vp_in (mwx k) S := fun k hk => by rw [← (hww k hk).2.1]; exact hwx k hk
  rcases hdn with rfl | rfl
  · exact ⟨nI w, ((lyF S pl wt wx wb (bs, sm, r0, r1) w).1, (lyF S pl wt wx wb (bs, sm, r0, r1) w).2.1, pl, (lyF S pl wt wx wb (bs, sm, r0, r1) w).2.2.1, (lyF S pl wt wx wb (bs, sm, r0, r1) w).2.2.2, tk, vo, wt, wx, wb, (nI 0), tp, (nI n), (nI a), (nI 0)), ((nI 0), (mwF mse mwt mwx mwb (mbs, msm, msp) w).1, mkp, (mwF mse mwt mwx mwb (mbs, msm, msp) w).2.1, mks, mse, (mwF mse mwt mwx mwb (mbs, msm, msp) w).2.2, mke, mkq, mvo, (nI ds.length), (nI 0), mwt, mwx, mwb, (nI 0), mtp, (nI n), (nI a)), ⟨DR_layF (q := (bs, sm, r0, r1)) (w := (mbs, msm, msp)) hT hS8 hD hww, hkp, rfl, hd5, hds, ⟨0, by omega, rfl, rfl, fun k hk => absurd hk (Nat.not_lt_zero k)⟩, ⟨rfl, Or.inl rfl⟩, ⟨n, a, han, hn100, rfl, rfl, rfl, rfl, htp⟩⟩, CM.k (fun sz => c_sync l D κ sz T S ad bs sm pl r0 r1 tk vo (duF ds) (nI ds.length) wt wx wb tp (nI n) (nI a) hT hS8 hpl w hw40 hwt hwx), fun sz => m_sync l D κ sz T S bd mco mbs mkp msm mks mse msp mke mkq mvo (nI ds.length) mwt mwx mwb mtp (nI n) (nI a) hT hS8 hse w hw40 hmwt hmwx⟩
  · exact ⟨-5, (bs, sm, pl, r0, r1, tk, vo, wt, wx, wb, (nI w), tp, (nI n), (nI a), (nI 1)), ((nI 0), mbs, mkp, msm, mks, mse, msp, mke, mkq, mvo, (nI ds.length), (nI w), mwt, mwx, mwb, (nI 1), mtp, (nI n), (nI a)), ⟨hD, hkp, rfl, hd5, hds, ⟨w, hw40, rfl, rfl, hww⟩, ⟨rfl, Or.inr rfl⟩, ⟨n, a, han, hn100, rfl, rfl, rfl, rfl, htp⟩⟩, CM.k (fun sz => c_sync_down l D κ sz T S ad bs sm pl r0 r1 tk vo (duF ds) (nI ds.length) wt wx wb (nI w) tp (nI n) (nI a) ), fun sz => m_sync_down l D κ sz T S bd mco mbs mkp msm mks mse msp mke mkq mvo (nI ds.length) (nI w) mwt mwx mwb mtp (nI n) (nI a) ⟩

theorem hd_nat (x : Int32) {lo hi : Nat} (h : lo ≤ hi) (hh : hi < 2 ^ 31) : ∃ n, lo ≤ n ∧ n ≤ hi ∧ hdF x (nI lo) (nI hi) = nI n := by
  by_cases h1 : x < nI lo
  · exact ⟨lo, Nat.le_refl lo, h, hd_lo h1 (nI_le h hh)⟩
  · by_cases h2 : nI hi < x
    · exact ⟨hi, h, Nat.le_refl hi, hd_hi h2 (nI_le h hh)⟩
    · have h3 := Int32.not_lt.mp h1
      have h4 := Int32.not_lt.mp h2
      have h0 : ¬ x < 0 := fun q => by
        have := Int32.lt_of_le_of_lt h3 q
        exact nI_pos (by omega) this
      obtain ⟨j, hj, rfl⟩ := nI_of2 (nI_toInt hh) h0 h4
      exact ⟨j, (nI_leI (by omega) (by omega)).mp h3, hj, hd_in h3 h4⟩

set_option maxHeartbeats 4000000 in
set_option maxRecDepth 100000 in
theorem op_cut {T S : Nat} {C : CS} {ds : List DS} {M : MS} (hT : T ≤ 12) (hS8 : S ≤ 8) (hR : RelT T S C ds M) (l : Launch) (D : va_G) (κ : Nat → ClassId) (ad bd : Nat → Nat) (x y : Int32) : ∃ (r : Int32) (C' : CS) (M' : MS), RelT T S C' ds M' ∧ CM l D κ yX3_cut wsX3_cut ({ frames := 5, cells := 0, slots := 0, locals := 116 }) [.ref (ad 0), .int x, .int y] (kW κ T S ad C ds) (kW κ T S ad C' ds) none ∧ CM l D κ yX4_cut wsX4_cut ({ frames := 3, cells := 0, slots := 0, locals := 68 }) [.ref (bd 0), .int x, .int y] (mW κ T S bd M) (mW κ T S bd M') none := by
  obtain ⟨bs, sm, pl, r0, r1, tk, vo, wt, wx, wb, wn, tp, tn, ts, dn⟩ := C
  obtain ⟨mco, mbs, mkp, msm, mks, mse, msp, mke, mkq, mvo, mnd, mwn, mwt, mwx, mwb, mdn, mtp, mtn, mts⟩ := M
  obtain ⟨hD, hkp, hnd, hd5, hds, ⟨w, hw40, ewn, emwn, hww⟩, ⟨edn, hdn⟩, n, a, han, hn100, etn, emtn, ets, emts, htp⟩ := hR
  dsimp only at hD hkp hnd hds ewn emwn hww edn hdn etn emtn ets emts htp
  subst ewn emwn edn etn emtn ets emts hnd
  have hpl := pl_in hT hD.2.2.1
  have hse := se_in hT hD.2.2.1
  have hwt : ∀ k, k < w → vp_in (wt k) T := fun k hk => (hww k hk).2.2.2.1
  have hwx : ∀ k, k < w → vp_in (wx k) S := fun k hk => (hww k hk).2.2.2.2
  have hmwt : ∀ k, k < w → vp_in (mwt k) T := fun k hk => by rw [← (hww k hk).1]; exact hwt k hk
  have hmwx : ∀ k, k < w → vp_in (mwx k) S := fun k hk => by rw [← (hww k hk).2.1]; exact hwx k hk
  rcases hdn with rfl | rfl
  · obtain ⟨nn, -, hnw, hj⟩ := hd_nat x (Nat.zero_le w) (by omega)
    obtain ⟨g, -, hg6, hg⟩ := hd_nat y (Nat.zero_le 16) (by omega)
    have h1 := DR_layF (q := (bs, sm, r0, r1)) (w := (mbs, msm, msp)) (n := nn) hT hS8 hD (fun k hk => hww k (by omega))
    rcases Nat.lt_or_ge nn w with hlt | hge
    · obtain ⟨e1, e2, e3, -, -⟩ := hww nn hlt
      have h2 := DR_torn hT hS8 h1 (cl_nI (hwt nn hlt) (by omega)).2 (cl_nI (hwx nn hlt) (by omega)).2 (wb nn) hg6
      exact ⟨0, ((flF (lyF S pl wt wx wb (bs, sm, r0, r1) nn).1 ((cl (pl (cl (wt nn))) * S + cl (wx nn)) * 16) (wb nn) g), (lyF S pl wt wx wb (bs, sm, r0, r1) nn).2.1, pl, (upd (lyF S pl wt wx wb (bs, sm, r0, r1) nn).2.2.1 (cl (wt nn)) (nI 1)), (lyF S pl wt wx wb (bs, sm, r0, r1) nn).2.2.2, tk, vo, wt, wx, wb, (nI 0), tp, (nI n), (nI a), (nI 1)), ((nI 0), (flF (mwF mse mwt mwx mwb (mbs, msm, msp) nn).1 (16 * (8 * mlF mse (cl (mwt nn)) + cl (mwx nn))) (mwb nn) g), mkp, (mwF mse mwt mwx mwb (mbs, msm, msp) nn).2.1, mks, mse, (upd (mwF mse mwt mwx mwb (mbs, msm, msp) nn).2.2 (cl (mwt nn)) (nI 1)), mke, mkq, mvo, (nI ds.length), (nI 0), mwt, mwx, mwb, (nI 1), mtp, (nI n), (nI a)), ⟨by rw [← e1, ← e2, ← e3]; exact h2, hkp, rfl, hd5, hds, ⟨0, by omega, rfl, rfl, fun k hk => absurd hk (Nat.not_lt_zero k)⟩, ⟨rfl, Or.inr rfl⟩, ⟨n, a, han, hn100, rfl, rfl, rfl, rfl, htp⟩⟩, CM.k (fun sz => c_cut l D κ sz T S ad bs sm pl r0 r1 tk vo (duF ds) (nI ds.length) wt wx wb tp (nI n) (nI a) hT hS8 hpl w hw40 hwt hwx x y nn hj hlt g hg hg6), fun sz => m_cut l D κ sz T S bd mco mbs mkp msm mks mse msp mke mkq mvo (nI ds.length) mwt mwx mwb mtp (nI n) (nI a) hT hS8 hse w hw40 hmwt hmwx x y nn hj hlt g hg hg6⟩
    · have e : nn = w := by omega
      exact ⟨0, ((lyF S pl wt wx wb (bs, sm, r0, r1) nn).1, (lyF S pl wt wx wb (bs, sm, r0, r1) nn).2.1, pl, (lyF S pl wt wx wb (bs, sm, r0, r1) nn).2.2.1, (lyF S pl wt wx wb (bs, sm, r0, r1) nn).2.2.2, tk, vo, wt, wx, wb, (nI 0), tp, (nI n), (nI a), (nI 1)), ((nI 0), (mwF mse mwt mwx mwb (mbs, msm, msp) nn).1, mkp, (mwF mse mwt mwx mwb (mbs, msm, msp) nn).2.1, mks, mse, (mwF mse mwt mwx mwb (mbs, msm, msp) nn).2.2, mke, mkq, mvo, (nI ds.length), (nI 0), mwt, mwx, mwb, (nI 1), mtp, (nI n), (nI a)), ⟨h1, hkp, rfl, hd5, hds, ⟨0, by omega, rfl, rfl, fun k hk => absurd hk (Nat.not_lt_zero k)⟩, ⟨rfl, Or.inr rfl⟩, ⟨n, a, han, hn100, rfl, rfl, rfl, rfl, htp⟩⟩, CM.k (fun sz => c_cut_all l D κ sz T S ad bs sm pl r0 r1 tk vo (duF ds) (nI ds.length) wt wx wb tp (nI n) (nI a) hT hS8 hpl w hw40 hwt hwx x y nn hj e), fun sz => m_cut_all l D κ sz T S bd mco mbs mkp msm mks mse msp mke mkq mvo (nI ds.length) mwt mwx mwb mtp (nI n) (nI a) hT hS8 hse w hw40 hmwt hmwx x y nn hj e⟩
  · exact ⟨0, (bs, sm, pl, r0, r1, tk, vo, wt, wx, wb, (nI w), tp, (nI n), (nI a), (nI 1)), ((nI 0), mbs, mkp, msm, mks, mse, msp, mke, mkq, mvo, (nI ds.length), (nI w), mwt, mwx, mwb, (nI 1), mtp, (nI n), (nI a)), ⟨hD, hkp, rfl, hd5, hds, ⟨w, hw40, rfl, rfl, hww⟩, ⟨rfl, Or.inr rfl⟩, ⟨n, a, han, hn100, rfl, rfl, rfl, rfl, htp⟩⟩, CM.k (fun sz => c_cut_down l D κ sz T S ad bs sm pl r0 r1 tk vo (duF ds) (nI ds.length) wt wx wb (nI w) tp (nI n) (nI a) x y), fun sz => m_cut_down l D κ sz T S bd mco mbs mkp msm mks mse msp mke mkq mvo (nI ds.length) (nI w) mwt mwx mwb mtp (nI n) (nI a) x y⟩

set_option maxHeartbeats 4000000 in
set_option maxRecDepth 100000 in
theorem op_start {T S : Nat} {C : CS} {ds : List DS} {M : MS} (hT : T ≤ 12) (hS8 : S ≤ 8) (hR : RelT T S C ds M) (l : Launch) (D : va_G) (κ : Nat → ClassId) (ad bd : Nat → Nat)  : ∃ (r : Int32) (C' : CS) (M' : MS), RelT T S C' ds M' ∧ CM l D κ yX3_start wsX3_start ({ frames := 4, cells := 0, slots := 0, locals := 94 }) [.ref (ad 0)] (kW κ T S ad C ds) (kW κ T S ad C' ds) (some (.int r)) ∧ CM l D κ yX4_start wsX4_start ({ frames := 3, cells := 0, slots := 0, locals := 71 }) [.ref (bd 0)] (mW κ T S bd M) (mW κ T S bd M') (some (.int r)) := by
  obtain ⟨bs, sm, pl, r0, r1, tk, vo, wt, wx, wb, wn, tp, tn, ts, dn⟩ := C
  obtain ⟨mco, mbs, mkp, msm, mks, mse, msp, mke, mkq, mvo, mnd, mwn, mwt, mwx, mwb, mdn, mtp, mtn, mts⟩ := M
  obtain ⟨hD, hkp, hnd, hd5, hds, ⟨w, hw40, ewn, emwn, hww⟩, ⟨edn, hdn⟩, n, a, han, hn100, etn, emtn, ets, emts, htp⟩ := hR
  dsimp only at hD hkp hnd hds ewn emwn hww edn hdn etn emtn ets emts htp
  subst ewn emwn edn etn emtn ets emts hnd
  have hpl := pl_in hT hD.2.2.1
  have hse := se_in hT hD.2.2.1
  have hwt : ∀ k, k < w → vp_in (wt k) T := fun k hk => (hww k hk).2.2.2.1
  have hwx : ∀ k, k < w → vp_in (wx k) S := fun k hk => (hww k hk).2.2.2.2
  have hmwt : ∀ k, k < w → vp_in (mwt k) T := fun k hk => by rw [← (hww k hk).1]; exact hwt k hk
  have hmwx : ∀ k, k < w → vp_in (mwx k) S := fun k hk => by rw [← (hww k hk).2.1]; exact hwx k hk
  rcases hdn with rfl | rfl
  · exact ⟨-5, (bs, sm, pl, r0, r1, tk, vo, wt, wx, wb, (nI w), tp, (nI n), (nI a), (nI 0)), ((nI 0), mbs, mkp, msm, mks, mse, msp, mke, mkq, mvo, (nI ds.length), (nI w), mwt, mwx, mwb, (nI 0), mtp, (nI n), (nI a)), ⟨hD, hkp, rfl, hd5, hds, ⟨w, hw40, rfl, rfl, hww⟩, ⟨rfl, Or.inl rfl⟩, ⟨n, a, han, hn100, rfl, rfl, rfl, rfl, htp⟩⟩, CM.k (fun sz => c_start_up l D κ sz T S ad bs sm pl r0 r1 tk vo (duF ds) (nI ds.length) wt wx wb (nI w) tp (nI n) (nI a) ), fun sz => m_start_up l D κ sz T S bd mco mbs mkp msm mks mse msp mke mkq mvo (nI ds.length) (nI w) mwt mwx mwb mtp (nI n) (nI a) ⟩
  · exact ⟨nI (cn2 (iwF bs sm pl S) S T), (bs, sm, pl, r0, r1, tk, vo, wt, wx, wb, (nI w), tp, (nI n), (nI a), (nI 0)), ((nI 0), mbs, mkp, msm, mks, mse, msp, mke, mkq, mvo, (nI ds.length), (nI w), mwt, mwx, mwb, (nI 0), mtp, (nI n), (nI a)), ⟨hD, hkp, rfl, hd5, hds, ⟨w, hw40, rfl, rfl, hww⟩, ⟨rfl, Or.inl rfl⟩, ⟨n, a, han, hn100, rfl, rfl, rfl, rfl, htp⟩⟩, CM.k (fun sz => c_start l D κ sz T S ad bs sm pl r0 r1 tk vo (duF ds) (nI ds.length) wt wx wb (nI w) tp (nI n) (nI a) hT hS8 hpl), fun sz => by have h9 := m_start l D κ sz T S bd mco mbs mkp msm mks mse msp mke mkq mvo (nI ds.length) (nI w) mwt mwx mwb mtp (nI n) (nI a) hT hS8 hse; rw [tot_eq hT hS8 hD] at h9; exact h9⟩

set_option maxHeartbeats 4000000 in
set_option maxRecDepth 100000 in
theorem op_space {T S : Nat} {C : CS} {ds : List DS} {M : MS} (hT : T ≤ 12) (hS8 : S ≤ 8) (hR : RelT T S C ds M) (l : Launch) (D : va_G) (κ : Nat → ClassId) (ad bd : Nat → Nat) (x y : Int32) : ∃ (r : Int32) (C' : CS) (M' : MS), RelT T S C' ds M' ∧ CM l D κ yX3_space wsX3_space ({ frames := 1, cells := 0, slots := 0, locals := 21 }) [.ref (ad 0), .int x, .int y] (kW κ T S ad C ds) (kW κ T S ad C' ds) (some (.int r)) ∧ CM l D κ yX4_space wsX4_space ({ frames := 1, cells := 0, slots := 0, locals := 21 }) [.ref (bd 0), .int x, .int y] (mW κ T S bd M) (mW κ T S bd M') (some (.int r)) := by
  obtain ⟨bs, sm, pl, r0, r1, tk, vo, wt, wx, wb, wn, tp, tn, ts, dn⟩ := C
  obtain ⟨mco, mbs, mkp, msm, mks, mse, msp, mke, mkq, mvo, mnd, mwn, mwt, mwx, mwb, mdn, mtp, mtn, mts⟩ := M
  obtain ⟨hD, hkp, hnd, hd5, hds, ⟨w, hw40, ewn, emwn, hww⟩, ⟨edn, hdn⟩, n, a, han, hn100, etn, emtn, ets, emts, htp⟩ := hR
  dsimp only at hD hkp hnd hds ewn emwn hww edn hdn etn emtn ets emts htp
  subst ewn emwn edn etn emtn ets emts hnd
  have hpl := pl_in hT hD.2.2.1
  have hse := se_in hT hD.2.2.1
  have hwt : ∀ k, k < w → vp_in (wt k) T := fun k hk => (hww k hk).2.2.2.1
  have hwx : ∀ k, k < w → vp_in (wx k) S := fun k hk => (hww k hk).2.2.2.2
  have hmwt : ∀ k, k < w → vp_in (mwt k) T := fun k hk => by rw [← (hww k hk).1]; exact hwt k hk
  have hmwx : ∀ k, k < w → vp_in (mwx k) S := fun k hk => by rw [← (hww k hk).2.1]; exact hwx k hk
  by_cases hs : (inF x 2 && inF y T) = true
  · rw [Bool.and_eq_true] at hs
    obtain ⟨e, he, rfl⟩ := inF_of hs.1 (by omega)
    obtain ⟨t, ht, rfl⟩ := inF_of hs.2 (by omega)
    have hr := hD.2.2.2.1 t ht
    rcases (show e = 0 ∨ e = 1 by omega) with rfl | rfl
    · exact ⟨r0 t, (bs, sm, pl, r0, r1, tk, vo, wt, wx, wb, (nI w), tp, (nI n), (nI a), dn), ((nI 0), mbs, mkp, msm, mks, mse, msp, mke, mkq, mvo, (nI ds.length), (nI w), mwt, mwx, mwb, dn, mtp, (nI n), (nI a)), ⟨hD, hkp, rfl, hd5, hds, ⟨w, hw40, rfl, rfl, hww⟩, ⟨rfl, hdn⟩, ⟨n, a, han, hn100, rfl, rfl, rfl, rfl, htp⟩⟩, CM.k (fun sz => c_space_0 l D κ sz T S ad bs sm pl r0 r1 tk vo (duF ds) (nI ds.length) wt wx wb (nI w) tp (nI n) (nI a) dn hT hS8 t ht), fun sz => by have h9 := m_space_0 l D κ sz T S bd mco mbs mkp msm mks mse msp mke mkq mvo (nI ds.length) (nI w) mwt mwx mwb dn mtp (nI n) (nI a) hT t ht; rw [show msp (12 * 0 + t) = r0 t from by rw [show 12 * 0 + t = t by omega]; exact hr.1.symm] at h9; exact h9⟩
    · exact ⟨r1 t, (bs, sm, pl, r0, r1, tk, vo, wt, wx, wb, (nI w), tp, (nI n), (nI a), dn), ((nI 0), mbs, mkp, msm, mks, mse, msp, mke, mkq, mvo, (nI ds.length), (nI w), mwt, mwx, mwb, dn, mtp, (nI n), (nI a)), ⟨hD, hkp, rfl, hd5, hds, ⟨w, hw40, rfl, rfl, hww⟩, ⟨rfl, hdn⟩, ⟨n, a, han, hn100, rfl, rfl, rfl, rfl, htp⟩⟩, CM.k (fun sz => c_space_1 l D κ sz T S ad bs sm pl r0 r1 tk vo (duF ds) (nI ds.length) wt wx wb (nI w) tp (nI n) (nI a) dn hT hS8 t ht), fun sz => by have h9 := m_space_1 l D κ sz T S bd mco mbs mkp msm mks mse msp mke mkq mvo (nI ds.length) (nI w) mwt mwx mwb dn mtp (nI n) (nI a) hT t ht; rw [show msp (12 * 1 + t) = r1 t from hr.2.symm] at h9; exact h9⟩
  · have hno : (inF x 2 && inF y T) = false := by simpa using hs
    exact ⟨-2, (bs, sm, pl, r0, r1, tk, vo, wt, wx, wb, (nI w), tp, (nI n), (nI a), dn), ((nI 0), mbs, mkp, msm, mks, mse, msp, mke, mkq, mvo, (nI ds.length), (nI w), mwt, mwx, mwb, dn, mtp, (nI n), (nI a)), ⟨hD, hkp, rfl, hd5, hds, ⟨w, hw40, rfl, rfl, hww⟩, ⟨rfl, hdn⟩, ⟨n, a, han, hn100, rfl, rfl, rfl, rfl, htp⟩⟩, CM.k (fun sz => c_space_no l D κ sz T S ad bs sm pl r0 r1 tk vo (duF ds) (nI ds.length) wt wx wb (nI w) tp (nI n) (nI a) dn x y hno), fun sz => m_space_no l D κ sz T S bd mco mbs mkp msm mks mse msp mke mkq mvo (nI ds.length) (nI w) mwt mwx mwb dn mtp (nI n) (nI a) x y hno⟩

set_option maxHeartbeats 4000000 in
set_option maxRecDepth 100000 in
theorem op_mend {T S : Nat} {C : CS} {ds : List DS} {M : MS} (hT : T ≤ 12) (hS8 : S ≤ 8) (hR : RelT T S C ds M) (l : Launch) (D : va_G) (κ : Nat → ClassId) (ad bd : Nat → Nat)  : ∃ (r : Int32) (C' : CS) (M' : MS), RelT T S C' ds M' ∧ CM l D κ yX3_mend wsX3_mend ({ frames := 4, cells := 0, slots := 0, locals := 90 }) [.ref (ad 0)] (kW κ T S ad C ds) (kW κ T S ad C' ds) (some (.int r)) ∧ CM l D κ yX4_mend wsX4_mend ({ frames := 2, cells := 0, slots := 0, locals := 45 }) [.ref (bd 0)] (mW κ T S bd M) (mW κ T S bd M') (some (.int r)) := by
  obtain ⟨bs, sm, pl, r0, r1, tk, vo, wt, wx, wb, wn, tp, tn, ts, dn⟩ := C
  obtain ⟨mco, mbs, mkp, msm, mks, mse, msp, mke, mkq, mvo, mnd, mwn, mwt, mwx, mwb, mdn, mtp, mtn, mts⟩ := M
  obtain ⟨hD, hkp, hnd, hd5, hds, ⟨w, hw40, ewn, emwn, hww⟩, ⟨edn, hdn⟩, n, a, han, hn100, etn, emtn, ets, emts, htp⟩ := hR
  dsimp only at hD hkp hnd hds ewn emwn hww edn hdn etn emtn ets emts htp
  subst ewn emwn edn etn emtn ets emts hnd
  have hpl := pl_in hT hD.2.2.1
  have hse := se_in hT hD.2.2.1
  have hwt : ∀ k, k < w → vp_in (wt k) T := fun k hk => (hww k hk).2.2.2.1
  have hwx : ∀ k, k < w → vp_in (wx k) S := fun k hk => (hww k hk).2.2.2.2
  have hmwt : ∀ k, k < w → vp_in (mwt k) T := fun k hk => by rw [← (hww k hk).1]; exact hwt k hk
  have hmwx : ∀ k, k < w → vp_in (mwx k) S := fun k hk => by rw [← (hww k hk).2.1]; exact hwx k hk
  rcases hdn with rfl | rfl
  · exact ⟨nI (cnt (dfF r0 r1) T), (bs, sm, pl, (mdR (usF bs pl S) r0 r1 r0 T), (mdR (usF bs pl S) r0 r1 r1 T), tk, vo, wt, wx, wb, (nI w), tp, (nI n), (nI a), (nI 0)), ((nI 0), mbs, mkp, msm, mks, mse, (mmR (fun t => nzF mbs (16 * (8 * mlF mse t + 0)) (16 * S)) msp T), mke, mkq, mvo, (nI ds.length), (nI w), mwt, mwx, mwb, (nI 0), mtp, (nI n), (nI a)), ⟨DR_mend hT hD, hkp, rfl, hd5, hds, ⟨w, hw40, rfl, rfl, hww⟩, ⟨rfl, Or.inl rfl⟩, ⟨n, a, han, hn100, rfl, rfl, rfl, rfl, htp⟩⟩, CM.k (fun sz => c_mend l D κ sz T S ad bs sm pl r0 r1 tk vo (duF ds) (nI ds.length) wt wx wb (nI w) tp (nI n) (nI a) hT hS8 hpl), fun sz => by have h9 := m_mend l D κ sz T S bd mco mbs mkp msm mks mse msp mke mkq mvo (nI ds.length) (nI w) mwt mwx mwb mtp (nI n) (nI a) hT hS8 hse; rw [← mend_cnt hD] at h9; exact h9⟩
  · exact ⟨-5, (bs, sm, pl, r0, r1, tk, vo, wt, wx, wb, (nI w), tp, (nI n), (nI a), (nI 1)), ((nI 0), mbs, mkp, msm, mks, mse, msp, mke, mkq, mvo, (nI ds.length), (nI w), mwt, mwx, mwb, (nI 1), mtp, (nI n), (nI a)), ⟨hD, hkp, rfl, hd5, hds, ⟨w, hw40, rfl, rfl, hww⟩, ⟨rfl, Or.inr rfl⟩, ⟨n, a, han, hn100, rfl, rfl, rfl, rfl, htp⟩⟩, CM.k (fun sz => c_mend_down l D κ sz T S ad bs sm pl r0 r1 tk vo (duF ds) (nI ds.length) wt wx wb (nI w) tp (nI n) (nI a) ), fun sz => m_mend_down l D κ sz T S bd mco mbs mkp msm mks mse msp mke mkq mvo (nI ds.length) (nI w) mwt mwx mwb mtp (nI n) (nI a) ⟩

theorem x8 (a m : Int32) : (a ^^^ (m &&& nI 255)).toInt8.toInt32 = (a ^^^ m).toInt8.toInt32 := by
  have : (a ^^^ (m &&& nI 255)).toInt8 = (a ^^^ m).toInt8 := by
    apply Int8.toBitVec_inj.mp
    have e : (nI 255).toBitVec = 255#32 := by decide
    simp only [Int32.toBitVec_toInt8, Int32.toBitVec_xor, Int32.toBitVec_and, e]
    rw [BitVec.signExtend_eq_setWidth_of_le _ (by decide), BitVec.signExtend_eq_setWidth_of_le _ (by decide)]
    ext i hi
    have h2 : (255#32).getLsbD i = true := by
      rcases (show i = 0 ∨ i = 1 ∨ i = 2 ∨ i = 3 ∨ i = 4 ∨ i = 5 ∨ i = 6 ∨ i = 7 by omega) with rfl | rfl | rfl | rfl | rfl | rfl | rfl | rfl <;> rfl
    simp only [BitVec.getElem_setWidth, BitVec.getLsbD_xor, BitVec.getLsbD_and, h2, Bool.and_true]
  rw [this]

set_option maxHeartbeats 4000000 in
set_option maxRecDepth 100000 in
theorem op_poke {T S : Nat} {C : CS} {ds : List DS} {M : MS} (hT : T ≤ 12) (hS8 : S ≤ 8) (hR : RelT T S C ds M) (l : Launch) (D : va_G) (κ : Nat → ClassId) (ad bd : Nat → Nat) (x y i m0 : Int32) : ∃ (r : Int32) (C' : CS) (M' : MS), RelT T S C' ds M' ∧ CM l D κ yX3_poke wsX3_poke ({ frames := 2, cells := 0, slots := 0, locals := 44 }) [.ref (ad 0), .int x, .int y, .int i, .int m0] (kW κ T S ad C ds) (kW κ T S ad C' ds) (some (.int r)) ∧ CM l D κ yX4_poke wsX4_poke ({ frames := 2, cells := 0, slots := 0, locals := 43 }) [.ref (bd 0), .int x, .int y, .int i, .int m0] (mW κ T S bd M) (mW κ T S bd M') (some (.int r)) := by
  obtain ⟨bs, sm, pl, r0, r1, tk, vo, wt, wx, wb, wn, tp, tn, ts, dn⟩ := C
  obtain ⟨mco, mbs, mkp, msm, mks, mse, msp, mke, mkq, mvo, mnd, mwn, mwt, mwx, mwb, mdn, mtp, mtn, mts⟩ := M
  obtain ⟨hD, hkp, hnd, hd5, hds, ⟨w, hw40, ewn, emwn, hww⟩, ⟨edn, hdn⟩, n, a, han, hn100, etn, emtn, ets, emts, htp⟩ := hR
  dsimp only at hD hkp hnd hds ewn emwn hww edn hdn etn emtn ets emts htp
  subst ewn emwn edn etn emtn ets emts hnd
  have hpl := pl_in hT hD.2.2.1
  have hse := se_in hT hD.2.2.1
  have hwt : ∀ k, k < w → vp_in (wt k) T := fun k hk => (hww k hk).2.2.2.1
  have hwx : ∀ k, k < w → vp_in (wx k) S := fun k hk => (hww k hk).2.2.2.2
  have hmwt : ∀ k, k < w → vp_in (mwt k) T := fun k hk => by rw [← (hww k hk).1]; exact hwt k hk
  have hmwx : ∀ k, k < w → vp_in (mwx k) S := fun k hk => by rw [← (hww k hk).2.1]; exact hwx k hk
  by_cases hs : (inF x T && inF y S) = true
  · rw [Bool.and_eq_true] at hs
    obtain ⟨t, ht, rfl⟩ := inF_of hs.1 (by omega)
    obtain ⟨b, hb, rfl⟩ := inF_of hs.2 (by omega)
    by_cases hi : inF i 16 = true
    · obtain ⟨j, hj, rfl⟩ := inF_of hi (by omega)
      by_cases hm : (m0 &&& nI 255) = 0
      · exact ⟨-4, (bs, sm, pl, r0, r1, tk, vo, wt, wx, wb, (nI w), tp, (nI n), (nI a), dn), ((nI 0), mbs, mkp, msm, mks, mse, msp, mke, mkq, mvo, (nI ds.length), (nI w), mwt, mwx, mwb, dn, mtp, (nI n), (nI a)), ⟨hD, hkp, rfl, hd5, hds, ⟨w, hw40, rfl, rfl, hww⟩, ⟨rfl, hdn⟩, ⟨n, a, han, hn100, rfl, rfl, rfl, rfl, htp⟩⟩, CM.k (fun sz => c_poke_bm l D κ sz T S ad bs sm pl r0 r1 tk vo (duF ds) (nI ds.length) wt wx wb (nI w) tp (nI n) (nI a) dn hT hS8 t b ht hb (nI j) m0 hi hm), fun sz => m_poke_bm l D κ sz T S bd mco mbs mkp msm mks mse msp mke mkq mvo (nI ds.length) (nI w) mwt mwx mwb dn mtp (nI n) (nI a) hT hS8 t b ht hb j hj m0 hm⟩
      · obtain ⟨ep, hlt⟩ := pl_eq hT hD.2.2.1 ht
        have ev : mbs (16 * (8 * mlF mse t + b) + j) = bs ((cl (pl t) * S + b) * 16 + j) := by rw [ep]; exact (hD.1.1 _ _ _ hlt hb hj).symm
        exact ⟨bs ((cl (pl t) * S + b) * 16 + j) &&& nI 255, ((upd bs ((cl (pl t) * S + b) * 16 + j) (((bs ((cl (pl t) * S + b) * 16 + j) &&& nI 255) ^^^ (m0 &&& nI 255)).toInt8.toInt32)), sm, pl, r0, r1, tk, vo, wt, wx, wb, (nI w), tp, (nI n), (nI a), dn), ((nI 0), (upd mbs (16 * (8 * mlF mse t + b) + j) (((bs ((cl (pl t) * S + b) * 16 + j) &&& nI 255) ^^^ m0).toInt8.toInt32)), mkp, msm, mks, mse, msp, mke, mkq, mvo, (nI ds.length), (nI w), mwt, mwx, mwb, dn, mtp, (nI n), (nI a)), ⟨by rw [ep]; exact ⟨DRb_upd hT hS8 hD.1 hlt hb hj (x8 _ _) (b8 _), hD.2⟩, hkp, rfl, hd5, hds, ⟨w, hw40, rfl, rfl, hww⟩, ⟨rfl, hdn⟩, ⟨n, a, han, hn100, rfl, rfl, rfl, rfl, htp⟩⟩, CM.k (fun sz => c_poke l D κ sz T S ad bs sm pl r0 r1 tk vo (duF ds) (nI ds.length) wt wx wb (nI w) tp (nI n) (nI a) dn hT hS8 hpl t b ht hb j hj m0 hm), fun sz => by have h9 := m_poke l D κ sz T S bd mco mbs mkp msm mks mse msp mke mkq mvo (nI ds.length) (nI w) mwt mwx mwb dn mtp (nI n) (nI a) hT hS8 hse t b ht hb j hj m0 hm; rw [ev] at h9; exact h9⟩
    · have hi0 : inF i 16 = false := by simpa using hi
      exact ⟨-4, (bs, sm, pl, r0, r1, tk, vo, wt, wx, wb, (nI w), tp, (nI n), (nI a), dn), ((nI 0), mbs, mkp, msm, mks, mse, msp, mke, mkq, mvo, (nI ds.length), (nI w), mwt, mwx, mwb, dn, mtp, (nI n), (nI a)), ⟨hD, hkp, rfl, hd5, hds, ⟨w, hw40, rfl, rfl, hww⟩, ⟨rfl, hdn⟩, ⟨n, a, han, hn100, rfl, rfl, rfl, rfl, htp⟩⟩, CM.k (fun sz => c_poke_bi l D κ sz T S ad bs sm pl r0 r1 tk vo (duF ds) (nI ds.length) wt wx wb (nI w) tp (nI n) (nI a) dn hT hS8 t b ht hb i m0 hi0), fun sz => m_poke_bi l D κ sz T S bd mco mbs mkp msm mks mse msp mke mkq mvo (nI ds.length) (nI w) mwt mwx mwb dn mtp (nI n) (nI a) hT hS8 t b ht hb i m0 hi0⟩
  · have hno : (inF x T && inF y S) = false := by simpa using hs
    exact ⟨-2, (bs, sm, pl, r0, r1, tk, vo, wt, wx, wb, (nI w), tp, (nI n), (nI a), dn), ((nI 0), mbs, mkp, msm, mks, mse, msp, mke, mkq, mvo, (nI ds.length), (nI w), mwt, mwx, mwb, dn, mtp, (nI n), (nI a)), ⟨hD, hkp, rfl, hd5, hds, ⟨w, hw40, rfl, rfl, hww⟩, ⟨rfl, hdn⟩, ⟨n, a, han, hn100, rfl, rfl, rfl, rfl, htp⟩⟩, CM.k (fun sz => c_poke_no l D κ sz T S ad bs sm pl r0 r1 tk vo (duF ds) (nI ds.length) wt wx wb (nI w) tp (nI n) (nI a) dn x y i m0 hno), fun sz => m_poke_no l D κ sz T S bd mco mbs mkp msm mks mse msp mke mkq mvo (nI ds.length) (nI w) mwt mwx mwb dn mtp (nI n) (nI a) x y i m0 hno⟩

set_option maxHeartbeats 4000000 in
set_option maxRecDepth 100000 in
theorem op_wrong {T S : Nat} {C : CS} {ds : List DS} {M : MS} (hT : T ≤ 12) (hS8 : S ≤ 8) (hR : RelT T S C ds M) (l : Launch) (D : va_G) (κ : Nat → ClassId) (ad bd : Nat → Nat) (x : Int32) : ∃ (r : Int32) (C' : CS) (M' : MS), RelT T S C' ds M' ∧ CM l D κ yX3_wrong wsX3_wrong ({ frames := 4, cells := 0, slots := 0, locals := 94 }) [.ref (ad 0), .int x] (kW κ T S ad C ds) (kW κ T S ad C' ds) (some (.int r)) ∧ CM l D κ yX4_wrong wsX4_wrong ({ frames := 2, cells := 0, slots := 0, locals := 47 }) [.ref (bd 0), .int x] (mW κ T S bd M) (mW κ T S bd M') (some (.int r)) := by
  obtain ⟨bs, sm, pl, r0, r1, tk, vo, wt, wx, wb, wn, tp, tn, ts, dn⟩ := C
  obtain ⟨mco, mbs, mkp, msm, mks, mse, msp, mke, mkq, mvo, mnd, mwn, mwt, mwx, mwb, mdn, mtp, mtn, mts⟩ := M
  obtain ⟨hD, hkp, hnd, hd5, hds, ⟨w, hw40, ewn, emwn, hww⟩, ⟨edn, hdn⟩, n, a, han, hn100, etn, emtn, ets, emts, htp⟩ := hR
  dsimp only at hD hkp hnd hds ewn emwn hww edn hdn etn emtn ets emts htp
  subst ewn emwn edn etn emtn ets emts hnd
  have hpl := pl_in hT hD.2.2.1
  have hse := se_in hT hD.2.2.1
  have hwt : ∀ k, k < w → vp_in (wt k) T := fun k hk => (hww k hk).2.2.2.1
  have hwx : ∀ k, k < w → vp_in (wx k) S := fun k hk => (hww k hk).2.2.2.2
  have hmwt : ∀ k, k < w → vp_in (mwt k) T := fun k hk => by rw [← (hww k hk).1]; exact hwt k hk
  have hmwx : ∀ k, k < w → vp_in (mwx k) S := fun k hk => by rw [← (hww k hk).2.1]; exact hwx k hk
  have htot := tot_eq hT hS8 hD
  by_cases h0 : x = 0
  · subst h0
    exact ⟨nI (cn2 (iwF bs sm pl S) S T), (bs, sm, pl, r0, r1, tk, vo, wt, wx, wb, (nI w), tp, (nI n), (nI a), dn), ((nI 0), mbs, mkp, msm, mks, mse, msp, mke, mkq, mvo, (nI ds.length), (nI w), mwt, mwx, mwb, dn, mtp, (nI n), (nI a)), ⟨hD, hkp, rfl, hd5, hds, ⟨w, hw40, rfl, rfl, hww⟩, ⟨rfl, hdn⟩, ⟨n, a, han, hn100, rfl, rfl, rfl, rfl, htp⟩⟩, CM.k (fun sz => c_wrong_0 l D κ sz T S ad bs sm pl r0 r1 tk vo (duF ds) (nI ds.length) wt wx wb (nI w) tp (nI n) (nI a) dn hT hS8 hpl), fun sz => by have h9 := m_wrong_0 l D κ sz T S bd mco mbs mkp msm mks mse msp mke mkq mvo (nI ds.length) (nI w) mwt mwx mwb dn mtp (nI n) (nI a) hT hS8 hse; rw [htot] at h9; exact h9⟩
  · have hbig : cnt (fun j => gW (iwM mbs msm mse) S (T * 8 - j - 1)) (T * 8) < 2 ^ 31 := Nat.lt_of_le_of_lt (cnt_le _ _) (by omega)
    rcases wr_spec hT hS8 hD with ⟨hz, hfw⟩ | ⟨hz, u, v, hu, hv, hfw, hfs⟩
    · have hz9 := htot.trans hz
      by_cases h1 : x = nI 1
      · subst h1
        exact ⟨-1, (bs, sm, pl, r0, r1, tk, vo, wt, wx, wb, (nI w), tp, (nI n), (nI a), dn), ((nI 0), mbs, mkp, msm, mks, mse, msp, mke, mkq, mvo, (nI ds.length), (nI w), mwt, mwx, mwb, dn, mtp, (nI n), (nI a)), ⟨hD, hkp, rfl, hd5, hds, ⟨w, hw40, rfl, rfl, hww⟩, ⟨rfl, hdn⟩, ⟨n, a, han, hn100, rfl, rfl, rfl, rfl, htp⟩⟩, CM.k (fun sz => c_wrong_n1 l D κ sz T S ad bs sm pl r0 r1 tk vo (duF ds) (nI ds.length) wt wx wb (nI w) tp (nI n) (nI a) dn hT hS8 hpl hfw), fun sz => m_wrong_z l D κ sz T S bd mco mbs mkp msm mks mse msp mke mkq mvo (nI ds.length) (nI w) mwt mwx mwb dn mtp (nI n) (nI a) hT hS8 hse (nI 1) h0 hz9⟩
      · by_cases h2 : x = nI 2
        · subst h2
          exact ⟨-1, (bs, sm, pl, r0, r1, tk, vo, wt, wx, wb, (nI w), tp, (nI n), (nI a), dn), ((nI 0), mbs, mkp, msm, mks, mse, msp, mke, mkq, mvo, (nI ds.length), (nI w), mwt, mwx, mwb, dn, mtp, (nI n), (nI a)), ⟨hD, hkp, rfl, hd5, hds, ⟨w, hw40, rfl, rfl, hww⟩, ⟨rfl, hdn⟩, ⟨n, a, han, hn100, rfl, rfl, rfl, rfl, htp⟩⟩, CM.k (fun sz => c_wrong_n2 l D κ sz T S ad bs sm pl r0 r1 tk vo (duF ds) (nI ds.length) wt wx wb (nI w) tp (nI n) (nI a) dn hT hS8 hpl hfw), fun sz => m_wrong_z l D κ sz T S bd mco mbs mkp msm mks mse msp mke mkq mvo (nI ds.length) (nI w) mwt mwx mwb dn mtp (nI n) (nI a) hT hS8 hse (nI 2) h0 hz9⟩
        · exact ⟨-1, (bs, sm, pl, r0, r1, tk, vo, wt, wx, wb, (nI w), tp, (nI n), (nI a), dn), ((nI 0), mbs, mkp, msm, mks, mse, msp, mke, mkq, mvo, (nI ds.length), (nI w), mwt, mwx, mwb, dn, mtp, (nI n), (nI a)), ⟨hD, hkp, rfl, hd5, hds, ⟨w, hw40, rfl, rfl, hww⟩, ⟨rfl, hdn⟩, ⟨n, a, han, hn100, rfl, rfl, rfl, rfl, htp⟩⟩, CM.k (fun sz => c_wrong_no l D κ sz T S ad bs sm pl r0 r1 tk vo (duF ds) (nI ds.length) wt wx wb (nI w) tp (nI n) (nI a) dn x h0 h1 h2), fun sz => m_wrong_z l D κ sz T S bd mco mbs mkp msm mks mse msp mke mkq mvo (nI ds.length) (nI w) mwt mwx mwb dn mtp (nI n) (nI a) hT hS8 hse x h0 hz9⟩
    · have hz9 : ¬ cnt (fun j => gW (iwM mbs msm mse) S (T * 8 - j - 1)) (T * 8) = 0 := by rw [htot]; exact hz
      by_cases h1 : x = nI 1
      · subst h1
        exact ⟨nI u, (bs, sm, pl, r0, r1, tk, vo, wt, wx, wb, (nI w), tp, (nI n), (nI a), dn), ((nI 0), mbs, mkp, msm, mks, mse, msp, mke, mkq, mvo, (nI ds.length), (nI w), mwt, mwx, mwb, dn, mtp, (nI n), (nI a)), ⟨hD, hkp, rfl, hd5, hds, ⟨w, hw40, rfl, rfl, hww⟩, ⟨rfl, hdn⟩, ⟨n, a, han, hn100, rfl, rfl, rfl, rfl, htp⟩⟩, CM.k (fun sz => c_wrong_1 l D κ sz T S ad bs sm pl r0 r1 tk vo (duF ds) (nI ds.length) wt wx wb (nI w) tp (nI n) (nI a) dn hT hS8 hpl u v hu hv hfw), fun sz => m_wrong_1 l D κ sz T S bd mco mbs mkp msm mks mse msp mke mkq mvo (nI ds.length) (nI w) mwt mwx mwb dn mtp (nI n) (nI a) hT hS8 hse hz9 hbig u v hu hv hfs⟩
      · by_cases h2 : x = nI 2
        · subst h2
          exact ⟨nI v, (bs, sm, pl, r0, r1, tk, vo, wt, wx, wb, (nI w), tp, (nI n), (nI a), dn), ((nI 0), mbs, mkp, msm, mks, mse, msp, mke, mkq, mvo, (nI ds.length), (nI w), mwt, mwx, mwb, dn, mtp, (nI n), (nI a)), ⟨hD, hkp, rfl, hd5, hds, ⟨w, hw40, rfl, rfl, hww⟩, ⟨rfl, hdn⟩, ⟨n, a, han, hn100, rfl, rfl, rfl, rfl, htp⟩⟩, CM.k (fun sz => c_wrong_2 l D κ sz T S ad bs sm pl r0 r1 tk vo (duF ds) (nI ds.length) wt wx wb (nI w) tp (nI n) (nI a) dn hT hS8 hpl u v hu hv hfw), fun sz => m_wrong_2 l D κ sz T S bd mco mbs mkp msm mks mse msp mke mkq mvo (nI ds.length) (nI w) mwt mwx mwb dn mtp (nI n) (nI a) hT hS8 hse hz9 hbig u v hu hv hfs⟩
        · by_cases hlo : x < nI 1
          · exact ⟨-1, (bs, sm, pl, r0, r1, tk, vo, wt, wx, wb, (nI w), tp, (nI n), (nI a), dn), ((nI 0), mbs, mkp, msm, mks, mse, msp, mke, mkq, mvo, (nI ds.length), (nI w), mwt, mwx, mwb, dn, mtp, (nI n), (nI a)), ⟨hD, hkp, rfl, hd5, hds, ⟨w, hw40, rfl, rfl, hww⟩, ⟨rfl, hdn⟩, ⟨n, a, han, hn100, rfl, rfl, rfl, rfl, htp⟩⟩, CM.k (fun sz => c_wrong_no l D κ sz T S ad bs sm pl r0 r1 tk vo (duF ds) (nI ds.length) wt wx wb (nI w) tp (nI n) (nI a) dn x h0 h1 h2), fun sz => m_wrong_lo l D κ sz T S bd mco mbs mkp msm mks mse msp mke mkq mvo (nI ds.length) (nI w) mwt mwx mwb dn mtp (nI n) (nI a) hT hS8 hse x h0 hlo hz9 hbig⟩
          · have hhi : ¬ x ≤ nI 2 := fun q => by
              obtain ⟨j, hj, e⟩ := nI_of2 (n := 2) rfl (fun z => hlo (Int32.lt_trans z (by decide))) q
              rcases (show j = 0 ∨ j = 1 ∨ j = 2 by omega) with rfl | rfl | rfl
              · exact h0 e
              · exact h1 e
              · exact h2 e
            exact ⟨-1, (bs, sm, pl, r0, r1, tk, vo, wt, wx, wb, (nI w), tp, (nI n), (nI a), dn), ((nI 0), mbs, mkp, msm, mks, mse, msp, mke, mkq, mvo, (nI ds.length), (nI w), mwt, mwx, mwb, dn, mtp, (nI n), (nI a)), ⟨hD, hkp, rfl, hd5, hds, ⟨w, hw40, rfl, rfl, hww⟩, ⟨rfl, hdn⟩, ⟨n, a, han, hn100, rfl, rfl, rfl, rfl, htp⟩⟩, CM.k (fun sz => c_wrong_no l D κ sz T S ad bs sm pl r0 r1 tk vo (duF ds) (nI ds.length) wt wx wb (nI w) tp (nI n) (nI a) dn x h0 h1 h2), fun sz => m_wrong_hi l D κ sz T S bd mco mbs mkp msm mks mse msp mke mkq mvo (nI ds.length) (nI w) mwt mwx mwb dn mtp (nI n) (nI a) hT hS8 hse x h0 hlo hhi hz9 hbig⟩

set_option maxHeartbeats 4000000 in
set_option maxRecDepth 100000 in
theorem op_alternate {T S : Nat} {C : CS} {ds : List DS} {M : MS} (hT : T ≤ 12) (hS8 : S ≤ 8) (hR : RelT T S C ds M) (l : Launch) (D : va_G) (κ : Nat → ClassId) (ad bd : Nat → Nat) (x : Int32) : ∃ (r : Int32) (C' : CS) (M' : MS), RelT T S C' ds M' ∧ CM l D κ yX3_alternate wsX3_alternate ({ frames := 4, cells := 0, slots := 0, locals := 92 }) [.ref (ad 0), .int x] (kW κ T S ad C ds) (kW κ T S ad C' ds) (some (.int r)) ∧ CM l D κ yX4_alternate wsX4_alternate ({ frames := 1, cells := 0, slots := 0, locals := 24 }) [.ref (bd 0), .int x] (mW κ T S bd M) (mW κ T S bd M') (some (.int r)) := by
  obtain ⟨bs, sm, pl, r0, r1, tk, vo, wt, wx, wb, wn, tp, tn, ts, dn⟩ := C
  obtain ⟨mco, mbs, mkp, msm, mks, mse, msp, mke, mkq, mvo, mnd, mwn, mwt, mwx, mwb, mdn, mtp, mtn, mts⟩ := M
  obtain ⟨hD, hkp, hnd, hd5, hds, ⟨w, hw40, ewn, emwn, hww⟩, ⟨edn, hdn⟩, n, a, han, hn100, etn, emtn, ets, emts, htp⟩ := hR
  dsimp only at hD hkp hnd hds ewn emwn hww edn hdn etn emtn ets emts htp
  subst ewn emwn edn etn emtn ets emts hnd
  have hpl := pl_in hT hD.2.2.1
  have hse := se_in hT hD.2.2.1
  have hwt : ∀ k, k < w → vp_in (wt k) T := fun k hk => (hww k hk).2.2.2.1
  have hwx : ∀ k, k < w → vp_in (wx k) S := fun k hk => (hww k hk).2.2.2.2
  have hmwt : ∀ k, k < w → vp_in (mwt k) T := fun k hk => by rw [← (hww k hk).1]; exact hwt k hk
  have hmwx : ∀ k, k < w → vp_in (mwx k) S := fun k hk => by rw [← (hww k hk).2.1]; exact hwx k hk
  by_cases hs : inF x T = true
  · obtain ⟨t, ht, rfl⟩ := inF_of hs (by omega)
    rcases hdn with rfl | rfl
    · by_cases hn1 : mse t = -1
      · have hF : isF pl T t = false := by
          cases hq : isF pl T t with
          | false => rfl
          | true => exact absurd hn1 ((sent_iff hT hD.2.2.1 ht).mp hq)
        obtain ⟨k0, hk2, etk, k1, k2, k3⟩ := id hD.2.2.2.2
        have hfr := ar_eq hT hk2 (se_or hD.2.2.1) k1 k2
        subst etk
        rcases Nat.lt_or_ge k0 2 with q | q
        · exact ⟨nI (T + k0), ((va_cpy bs bs ((cl (pl t) * S + 0) * 16) (((T + k0) * S + 0) * 16) (S * 16)), (ssF (va_cpy bs bs ((cl (pl t) * S + 0) * 16) (((T + k0) * S + 0) * 16) (S * 16)) sm S (T + k0) S), (upd pl t (nI (T + k0))), r0, r1, (nI (k0 + 1)), vo, wt, wx, wb, (nI w), tp, (nI n), (nI a), (nI 0)), ((nI 0), (cpS mbs (128 * (T + k0)) (128 * t) (16 * S)), mkp, (msF (cpS mbs (128 * (T + k0)) (128 * t) (16 * S)) msm (T + k0) S), mks, (upd mse t (nI (T + k0))), msp, mke, mkq, mvo, (nI ds.length), (nI w), mwt, mwx, mwb, (nI 0), mtp, (nI n), (nI a)), ⟨DR_send hT hS8 hD q ht hn1, hkp, rfl, hd5, hds, ⟨w, hw40, rfl, rfl, hww⟩, ⟨rfl, Or.inl rfl⟩, ⟨n, a, han, hn100, rfl, rfl, rfl, rfl, htp⟩⟩, CM.k (fun sz => c_alt l D κ sz T S ad bs sm pl r0 r1 vo (duF ds) (nI ds.length) wt wx wb (nI w) tp (nI n) (nI a) hT hS8 hpl t ht hF k0 q hD.1.2.2.1.fit), fun sz => m_alt l D κ sz T S bd mco mbs mkp msm mks mse msp mke mkq mvo (nI ds.length) (nI w) mwt mwx mwb mtp (nI n) (nI a) hT hS8 t ht hn1 k0 hfr q⟩
        · have e : k0 = 2 := by omega
          subst e
          exact ⟨nI 0, (bs, sm, pl, r0, r1, (nI 2), vo, wt, wx, wb, (nI w), tp, (nI n), (nI a), (nI 0)), ((nI 0), mbs, mkp, msm, mks, mse, msp, mke, mkq, mvo, (nI ds.length), (nI w), mwt, mwx, mwb, (nI 0), mtp, (nI n), (nI a)), ⟨hD, hkp, rfl, hd5, hds, ⟨w, hw40, rfl, rfl, hww⟩, ⟨rfl, Or.inl rfl⟩, ⟨n, a, han, hn100, rfl, rfl, rfl, rfl, htp⟩⟩, CM.k (fun sz => c_alt_full l D κ sz T S ad bs sm pl r0 r1 vo (duF ds) (nI ds.length) wt wx wb (nI w) tp (nI n) (nI a) hT hS8 hpl t ht hF), fun sz => m_alt_full l D κ sz T S bd mco mbs mkp msm mks mse msp mke mkq mvo (nI ds.length) (nI w) mwt mwx mwb mtp (nI n) (nI a) hT t ht hn1 2 hfr rfl⟩
      · exact ⟨nI 0, (bs, sm, pl, r0, r1, tk, vo, wt, wx, wb, (nI w), tp, (nI n), (nI a), (nI 0)), ((nI 0), mbs, mkp, msm, mks, mse, msp, mke, mkq, mvo, (nI ds.length), (nI w), mwt, mwx, mwb, (nI 0), mtp, (nI n), (nI a)), ⟨hD, hkp, rfl, hd5, hds, ⟨w, hw40, rfl, rfl, hww⟩, ⟨rfl, Or.inl rfl⟩, ⟨n, a, han, hn100, rfl, rfl, rfl, rfl, htp⟩⟩, CM.k (fun sz => c_alt_sent l D κ sz T S ad bs sm pl r0 r1 tk vo (duF ds) (nI ds.length) wt wx wb (nI w) tp (nI n) (nI a) hT hS8 hpl t ht ((sent_iff hT hD.2.2.1 ht).mpr hn1)), fun sz => m_alt_sent l D κ sz T S bd mco mbs mkp msm mks mse msp mke mkq mvo (nI ds.length) (nI w) mwt mwx mwb mtp (nI n) (nI a) hT t ht hn1⟩
    · exact ⟨-5, (bs, sm, pl, r0, r1, tk, vo, wt, wx, wb, (nI w), tp, (nI n), (nI a), (nI 1)), ((nI 0), mbs, mkp, msm, mks, mse, msp, mke, mkq, mvo, (nI ds.length), (nI w), mwt, mwx, mwb, (nI 1), mtp, (nI n), (nI a)), ⟨hD, hkp, rfl, hd5, hds, ⟨w, hw40, rfl, rfl, hww⟩, ⟨rfl, Or.inr rfl⟩, ⟨n, a, han, hn100, rfl, rfl, rfl, rfl, htp⟩⟩, CM.k (fun sz => c_alt_down l D κ sz T S ad bs sm pl r0 r1 tk vo (duF ds) (nI ds.length) wt wx wb (nI w) tp (nI n) (nI a) hT hS8 t ht), fun sz => m_alt_down l D κ sz T S bd mco mbs mkp msm mks mse msp mke mkq mvo (nI ds.length) (nI w) mwt mwx mwb mtp (nI n) (nI a) hT t ht⟩
  · have hno : inF x T = false := by simpa using hs
    exact ⟨-2, (bs, sm, pl, r0, r1, tk, vo, wt, wx, wb, (nI w), tp, (nI n), (nI a), dn), ((nI 0), mbs, mkp, msm, mks, mse, msp, mke, mkq, mvo, (nI ds.length), (nI w), mwt, mwx, mwb, dn, mtp, (nI n), (nI a)), ⟨hD, hkp, rfl, hd5, hds, ⟨w, hw40, rfl, rfl, hww⟩, ⟨rfl, hdn⟩, ⟨n, a, han, hn100, rfl, rfl, rfl, rfl, htp⟩⟩, CM.k (fun sz => c_alt_no l D κ sz T S ad bs sm pl r0 r1 tk vo (duF ds) (nI ds.length) wt wx wb (nI w) tp (nI n) (nI a) dn x hno), fun sz => m_alt_no l D κ sz T S bd mco mbs mkp msm mks mse msp mke mkq mvo (nI ds.length) (nI w) mwt mwx mwb dn mtp (nI n) (nI a) x hno⟩

theorem tp_add {tp mtp : Nat → Int32} {a n : Nat} {x : Int32} (han : a ≤ n) (h : ∀ j, j < n → tp j = mtp j) : ∀ j, j < a + 1 → upd tp a x j = upd mtp a x j := by
  intro j hj
  by_cases z : j = a
  · subst z; rw [pk_us, pk_us]
  · rw [pk_un z, pk_un z]; exact h j (by omega)

set_option maxHeartbeats 4000000 in
set_option maxRecDepth 100000 in
theorem op_tape {T S : Nat} {C : CS} {ds : List DS} {M : MS} (hT : T ≤ 12) (hS8 : S ≤ 8) (hR : RelT T S C ds M) (l : Launch) (D : va_G) (κ : Nat → ClassId) (ad bd : Nat → Nat) (x : Int32) : ∃ (r : Int32) (C' : CS) (M' : MS), RelT T S C' ds M' ∧ CM l D κ yX3_tape wsX3_tape ({ frames := 1, cells := 0, slots := 0, locals := 21 }) [.ref (ad 0), .int x] (kW κ T S ad C ds) (kW κ T S ad C' ds) (some (.int r)) ∧ CM l D κ yX4_tape wsX4_tape ({ frames := 0, cells := 0, slots := 0, locals := 0 }) [.ref (bd 0), .int x] (mW κ T S bd M) (mW κ T S bd M') (some (.int r)) := by
  obtain ⟨bs, sm, pl, r0, r1, tk, vo, wt, wx, wb, wn, tp, tn, ts, dn⟩ := C
  obtain ⟨mco, mbs, mkp, msm, mks, mse, msp, mke, mkq, mvo, mnd, mwn, mwt, mwx, mwb, mdn, mtp, mtn, mts⟩ := M
  obtain ⟨hD, hkp, hnd, hd5, hds, ⟨w, hw40, ewn, emwn, hww⟩, ⟨edn, hdn⟩, n, a, han, hn100, etn, emtn, ets, emts, htp⟩ := hR
  dsimp only at hD hkp hnd hds ewn emwn hww edn hdn etn emtn ets emts htp
  subst ewn emwn edn etn emtn ets emts hnd
  have hpl := pl_in hT hD.2.2.1
  have hse := se_in hT hD.2.2.1
  have hwt : ∀ k, k < w → vp_in (wt k) T := fun k hk => (hww k hk).2.2.2.1
  have hwx : ∀ k, k < w → vp_in (wx k) S := fun k hk => (hww k hk).2.2.2.2
  have hmwt : ∀ k, k < w → vp_in (mwt k) T := fun k hk => by rw [← (hww k hk).1]; exact hwt k hk
  have hmwx : ∀ k, k < w → vp_in (mwx k) S := fun k hk => by rw [← (hww k hk).2.1]; exact hwx k hk
  by_cases hneg : x < 0
  · exact ⟨nI n, (bs, sm, pl, r0, r1, tk, vo, wt, wx, wb, (nI w), tp, (nI n), (nI 0), dn), ((nI 0), mbs, mkp, msm, mks, mse, msp, mke, mkq, mvo, (nI ds.length), (nI w), mwt, mwx, mwb, dn, mtp, (nI n), (nI 0)), ⟨hD, hkp, rfl, hd5, hds, ⟨w, hw40, rfl, rfl, hww⟩, ⟨rfl, hdn⟩, ⟨n, 0, Nat.zero_le n, hn100, rfl, rfl, rfl, rfl, htp⟩⟩, CM.k (fun sz => c_tape_back l D κ sz T S ad bs sm pl r0 r1 tk vo (duF ds) (nI ds.length) wt wx wb (nI w) tp (nI n) (nI a) dn x hneg), fun sz => m_tape_back l D κ sz T S bd mco mbs mkp msm mks mse msp mke mkq mvo (nI ds.length) (nI w) mwt mwx mwb dn mtp (nI n) (nI a) x hneg⟩
  · rcases Nat.lt_or_ge a 100 with q | q
    · exact ⟨nI (a + 1), (bs, sm, pl, r0, r1, tk, vo, wt, wx, wb, (nI w), (upd tp a x), (nI (a + 1)), (nI (a + 1)), dn), ((nI 0), mbs, mkp, msm, mks, mse, msp, mke, mkq, mvo, (nI ds.length), (nI w), mwt, mwx, mwb, dn, (upd mtp a x), (nI (a + 1)), (nI (a + 1))), ⟨hD, hkp, rfl, hd5, hds, ⟨w, hw40, rfl, rfl, hww⟩, ⟨rfl, hdn⟩, ⟨a + 1, a + 1, Nat.le_refl _, by omega, rfl, rfl, rfl, rfl, tp_add han htp⟩⟩, CM.k (fun sz => c_tape l D κ sz T S ad bs sm pl r0 r1 tk vo (duF ds) (nI ds.length) wt wx wb (nI w) tp (nI n) dn x hneg a q), fun sz => m_tape l D κ sz T S bd mco mbs mkp msm mks mse msp mke mkq mvo (nI ds.length) (nI w) mwt mwx mwb dn mtp (nI n) x hneg a q⟩
    · exact ⟨nI n, (bs, sm, pl, r0, r1, tk, vo, wt, wx, wb, (nI w), tp, (nI n), (nI a), dn), ((nI 0), mbs, mkp, msm, mks, mse, msp, mke, mkq, mvo, (nI ds.length), (nI w), mwt, mwx, mwb, dn, mtp, (nI n), (nI a)), ⟨hD, hkp, rfl, hd5, hds, ⟨w, hw40, rfl, rfl, hww⟩, ⟨rfl, hdn⟩, ⟨n, a, han, hn100, rfl, rfl, rfl, rfl, htp⟩⟩, CM.k (fun sz => c_tape_full l D κ sz T S ad bs sm pl r0 r1 tk vo (duF ds) (nI ds.length) wt wx wb (nI w) tp (nI n) (nI a) dn x hneg (nI_le q (by omega))), fun sz => m_tape_full l D κ sz T S bd mco mbs mkp msm mks mse msp mke mkq mvo (nI ds.length) (nI w) mwt mwx mwb dn mtp (nI n) (nI a) x hneg (nI_le q (by omega))⟩

set_option maxHeartbeats 4000000 in
set_option maxRecDepth 100000 in
theorem op_next {T S : Nat} {C : CS} {ds : List DS} {M : MS} (hT : T ≤ 12) (hS8 : S ≤ 8) (hR : RelT T S C ds M) (l : Launch) (D : va_G) (κ : Nat → ClassId) (ad bd : Nat → Nat)  : ∃ (r : Int32) (C' : CS) (M' : MS), RelT T S C' ds M' ∧ CM l D κ yX3_next wsX3_next ({ frames := 1, cells := 0, slots := 0, locals := 21 }) [.ref (ad 0)] (kW κ T S ad C ds) (kW κ T S ad C' ds) (some (.int r)) ∧ CM l D κ yX4_next wsX4_next ({ frames := 0, cells := 0, slots := 0, locals := 0 }) [.ref (bd 0)] (mW κ T S bd M) (mW κ T S bd M') (some (.int r)) := by
  obtain ⟨bs, sm, pl, r0, r1, tk, vo, wt, wx, wb, wn, tp, tn, ts, dn⟩ := C
  obtain ⟨mco, mbs, mkp, msm, mks, mse, msp, mke, mkq, mvo, mnd, mwn, mwt, mwx, mwb, mdn, mtp, mtn, mts⟩ := M
  obtain ⟨hD, hkp, hnd, hd5, hds, ⟨w, hw40, ewn, emwn, hww⟩, ⟨edn, hdn⟩, n, a, han, hn100, etn, emtn, ets, emts, htp⟩ := hR
  dsimp only at hD hkp hnd hds ewn emwn hww edn hdn etn emtn ets emts htp
  subst ewn emwn edn etn emtn ets emts hnd
  have hpl := pl_in hT hD.2.2.1
  have hse := se_in hT hD.2.2.1
  have hwt : ∀ k, k < w → vp_in (wt k) T := fun k hk => (hww k hk).2.2.2.1
  have hwx : ∀ k, k < w → vp_in (wx k) S := fun k hk => (hww k hk).2.2.2.2
  have hmwt : ∀ k, k < w → vp_in (mwt k) T := fun k hk => by rw [← (hww k hk).1]; exact hwt k hk
  have hmwx : ∀ k, k < w → vp_in (mwx k) S := fun k hk => by rw [← (hww k hk).2.1]; exact hwx k hk
  rcases Nat.lt_or_ge a n with q | q
  · exact ⟨tp a, (bs, sm, pl, r0, r1, tk, vo, wt, wx, wb, (nI w), tp, (nI n), (nI (a + 1)), dn), ((nI 0), mbs, mkp, msm, mks, mse, msp, mke, mkq, mvo, (nI ds.length), (nI w), mwt, mwx, mwb, dn, mtp, (nI n), (nI (a + 1))), ⟨hD, hkp, rfl, hd5, hds, ⟨w, hw40, rfl, rfl, hww⟩, ⟨rfl, hdn⟩, ⟨n, a + 1, q, hn100, rfl, rfl, rfl, rfl, htp⟩⟩, CM.k (fun sz => c_next l D κ sz T S ad bs sm pl r0 r1 tk vo (duF ds) (nI ds.length) wt wx wb (nI w) tp dn n a q hn100), fun sz => by have h9 := m_next l D κ sz T S bd mco mbs mkp msm mks mse msp mke mkq mvo (nI ds.length) (nI w) mwt mwx mwb dn mtp n a q hn100; rw [← htp a q] at h9; exact h9⟩
  · have e : a = n := by omega
    subst e
    exact ⟨-1, (bs, sm, pl, r0, r1, tk, vo, wt, wx, wb, (nI w), tp, (nI a), (nI a), dn), ((nI 0), mbs, mkp, msm, mks, mse, msp, mke, mkq, mvo, (nI ds.length), (nI w), mwt, mwx, mwb, dn, mtp, (nI a), (nI a)), ⟨hD, hkp, rfl, hd5, hds, ⟨w, hw40, rfl, rfl, hww⟩, ⟨rfl, hdn⟩, ⟨a, a, Nat.le_refl a, hn100, rfl, rfl, rfl, rfl, htp⟩⟩, CM.k (fun sz => c_next_end l D κ sz T S ad bs sm pl r0 r1 tk vo (duF ds) (nI ds.length) wt wx wb (nI w) tp (nI a) (nI a) dn (fun z => Int32.lt_irrefl z)), fun sz => m_next_end l D κ sz T S bd mco mbs mkp msm mks mse msp mke mkq mvo (nI ds.length) (nI w) mwt mwx mwb dn mtp (nI a) ⟩

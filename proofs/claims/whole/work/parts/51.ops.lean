/-! count, restore, dump, read in both; the start -/
theorem inF_no {x : Int32} {n m : Nat} (h : inF x n = false) (hn : n < 2 ^ 31) (hm : n = m + 1) : x.toInt < 0 ∨ (m : Int) < x.toInt := by
  by_cases q : x < 0
  · rw [Int32.lt_iff_toInt_lt, Int32.toInt_zero] at q
    exact Or.inl q
  · have h2 : nI n ≤ x := by
      by_cases z : nI n ≤ x
      · exact z
      · rw [inF_t q z] at h; cases h
    rw [Int32.le_iff_toInt_le, nI_toInt hn] at h2
    exact Or.inr (by omega)
theorem duF_at {ds : List DS} {k : Nat} {d : DS} (h : ds[k]? = some d) : duF ds k = some (d.1 0) := by simp [duF, h]
theorem duF_add (ds : List DS) (d : DS) : duF (ds ++ [d]) = va_up (duF ds) ds.length (some (d.1 0)) := by
  funext k
  unfold duF va_up
  by_cases q : k = ds.length
  · subst q; simp
  · rw [if_neg q]
    rcases Nat.lt_or_ge k ds.length with r | r
    · rw [List.getElem?_append_left r]
    · rw [List.getElem?_append_right r, List.getElem?_eq_none (by simp; omega)]
      show _ = Option.map _ ds[k]?
      rw [List.getElem?_eq_none (by omega)]

set_option maxHeartbeats 4000000 in
set_option maxRecDepth 100000 in
theorem op_count {T S : Nat} {C : CS} {ds : List DS} {M : MS} (hT : T ≤ 12) (hS8 : S ≤ 8) (hR : RelT T S C ds M) (l : Launch) (D : va_G) (κ : Nat → ClassId) (ad bd : Nat → Nat) (x : Int32) : ∃ (r : Int32) (C' : CS) (M' : MS), RelT T S C' ds M' ∧ CM l D κ yX3_count wsX3_count ({ frames := 3, cells := 0, slots := 0, locals := 68 }) [.ref (ad 0), .int x] (kW κ T S ad C ds) (kW κ T S ad C' ds) (some (.int r)) ∧ CM l D κ yX4_count wsX4_count ({ frames := 1, cells := 0, slots := 0, locals := 25 }) [.ref (bd 0), .int x] (mW κ T S bd M) (mW κ T S bd M') (some (.int r)) := by
  obtain ⟨bs, sm, pl, r0, r1, tk, vo, wt, wx, wb, wn, tp, tn, ts, dn⟩ := C
  obtain ⟨mco, mbs, mkp, msm, mks, mse, msp, mke, mkq, mvo, mnd, mwn, mwt, mwx, mwb, mdn, mtp, mtn, mts⟩ := M
  obtain ⟨hD, hkp, hnd, hd5, hds, ⟨w, hw40, ewn, emwn, hww⟩, ⟨edn, hdn⟩, n, a, han, hn100, etn, emtn, ets, emts, htp⟩ := hR
  dsimp only at hD hkp hnd hds ewn emwn hww edn hdn etn emtn ets emts htp
  subst ewn emwn edn etn emtn ets emts hnd
  have hpl := pl_in hT hD.2.2.1
  have hse := se_in hT hD.2.2.1
  have hwt : ∀ k, k < w → vp_in (wt k) T := fun k hk => (hww k hk).2.2.2.1
  have hwx : ∀ k, k < w → vp_in (wx k) S := fun k hk => (hww k hk).2.2.2.2
  have hmwt : ∀ k, k < w → vp_in (mwt k) T := fun k hk => by rw [← (hww k hk).1]; exact hwt k hk
  have hmwx : ∀ k, k < w → vp_in (mwx k) S := fun k hk => by rw [← (hww k hk).2.1]; exact hwx k hk
  by_cases hs : inF x 7 = true
  · obtain ⟨j, hj, rfl⟩ := inF_of hs (by omega)
    rcases (show j = 0 ∨ j = 1 ∨ j = 2 ∨ j = 3 ∨ j = 4 ∨ j = 5 ∨ j = 6 by omega) with rfl | rfl | rfl | rfl | rfl | rfl | rfl
    · exact ⟨nI T, (bs, sm, pl, r0, r1, tk, vo, wt, wx, wb, (nI w), tp, (nI n), (nI a), dn), ((nI 0), mbs, mkp, msm, mks, mse, msp, mke, mkq, mvo, (nI ds.length), (nI w), mwt, mwx, mwb, dn, mtp, (nI n), (nI a)), ⟨hD, hkp, rfl, hd5, hds, ⟨w, hw40, rfl, rfl, hww⟩, ⟨rfl, hdn⟩, ⟨n, a, han, hn100, rfl, rfl, rfl, rfl, htp⟩⟩, CM.k (fun sz => c_count_0 l D κ sz T S ad bs sm pl r0 r1 tk vo (duF ds) (nI ds.length) wt wx wb (nI w) tp (nI n) (nI a) dn ), fun sz => m_count_0 l D κ sz T S bd mco mbs mkp msm mks mse msp mke mkq mvo (nI ds.length) (nI w) mwt mwx mwb dn mtp (nI n) (nI a) hT⟩
    · exact ⟨nI S, (bs, sm, pl, r0, r1, tk, vo, wt, wx, wb, (nI w), tp, (nI n), (nI a), dn), ((nI 0), mbs, mkp, msm, mks, mse, msp, mke, mkq, mvo, (nI ds.length), (nI w), mwt, mwx, mwb, dn, mtp, (nI n), (nI a)), ⟨hD, hkp, rfl, hd5, hds, ⟨w, hw40, rfl, rfl, hww⟩, ⟨rfl, hdn⟩, ⟨n, a, han, hn100, rfl, rfl, rfl, rfl, htp⟩⟩, CM.k (fun sz => c_count_1 l D κ sz T S ad bs sm pl r0 r1 tk vo (duF ds) (nI ds.length) wt wx wb (nI w) tp (nI n) (nI a) dn ), fun sz => m_count_1 l D κ sz T S bd mco mbs mkp msm mks mse msp mke mkq mvo (nI ds.length) (nI w) mwt mwx mwb dn mtp (nI n) (nI a) hT⟩
    · exact ⟨nI w, (bs, sm, pl, r0, r1, tk, vo, wt, wx, wb, (nI w), tp, (nI n), (nI a), dn), ((nI 0), mbs, mkp, msm, mks, mse, msp, mke, mkq, mvo, (nI ds.length), (nI w), mwt, mwx, mwb, dn, mtp, (nI n), (nI a)), ⟨hD, hkp, rfl, hd5, hds, ⟨w, hw40, rfl, rfl, hww⟩, ⟨rfl, hdn⟩, ⟨n, a, han, hn100, rfl, rfl, rfl, rfl, htp⟩⟩, CM.k (fun sz => c_count_2 l D κ sz T S ad bs sm pl r0 r1 tk vo (duF ds) (nI ds.length) wt wx wb (nI w) tp (nI n) (nI a) dn ), fun sz => m_count_2 l D κ sz T S bd mco mbs mkp msm mks mse msp mke mkq mvo (nI ds.length) (nI w) mwt mwx mwb dn mtp (nI n) (nI a) hT⟩
    · rcases hdn with rfl | rfl
      · exact ⟨nI 0, (bs, sm, pl, r0, r1, tk, vo, wt, wx, wb, (nI w), tp, (nI n), (nI a), (nI 0)), ((nI 0), mbs, mkp, msm, mks, mse, msp, mke, mkq, mvo, (nI ds.length), (nI w), mwt, mwx, mwb, (nI 0), mtp, (nI n), (nI a)), ⟨hD, hkp, rfl, hd5, hds, ⟨w, hw40, rfl, rfl, hww⟩, ⟨rfl, Or.inl rfl⟩, ⟨n, a, han, hn100, rfl, rfl, rfl, rfl, htp⟩⟩, CM.k (fun sz => c_count_30 l D κ sz T S ad bs sm pl r0 r1 tk vo (duF ds) (nI ds.length) wt wx wb (nI w) tp (nI n) (nI a) ), fun sz => m_count_30 l D κ sz T S bd mco mbs mkp msm mks mse msp mke mkq mvo (nI ds.length) (nI w) mwt mwx mwb mtp (nI n) (nI a) hT⟩
      · exact ⟨nI 1, (bs, sm, pl, r0, r1, tk, vo, wt, wx, wb, (nI w), tp, (nI n), (nI a), (nI 1)), ((nI 0), mbs, mkp, msm, mks, mse, msp, mke, mkq, mvo, (nI ds.length), (nI w), mwt, mwx, mwb, (nI 1), mtp, (nI n), (nI a)), ⟨hD, hkp, rfl, hd5, hds, ⟨w, hw40, rfl, rfl, hww⟩, ⟨rfl, Or.inr rfl⟩, ⟨n, a, han, hn100, rfl, rfl, rfl, rfl, htp⟩⟩, CM.k (fun sz => c_count_31 l D κ sz T S ad bs sm pl r0 r1 tk vo (duF ds) (nI ds.length) wt wx wb (nI w) tp (nI n) (nI a) ), fun sz => m_count_31 l D κ sz T S bd mco mbs mkp msm mks mse msp mke mkq mvo (nI ds.length) (nI w) mwt mwx mwb mtp (nI n) (nI a) hT⟩
    · exact ⟨nI ds.length, (bs, sm, pl, r0, r1, tk, vo, wt, wx, wb, (nI w), tp, (nI n), (nI a), dn), ((nI 0), mbs, mkp, msm, mks, mse, msp, mke, mkq, mvo, (nI ds.length), (nI w), mwt, mwx, mwb, dn, mtp, (nI n), (nI a)), ⟨hD, hkp, rfl, hd5, hds, ⟨w, hw40, rfl, rfl, hww⟩, ⟨rfl, hdn⟩, ⟨n, a, han, hn100, rfl, rfl, rfl, rfl, htp⟩⟩, CM.k (fun sz => c_count_4 l D κ sz T S ad bs sm pl r0 r1 tk vo (duF ds) (nI ds.length) wt wx wb (nI w) tp (nI n) (nI a) dn ), fun sz => m_count_4 l D κ sz T S bd mco mbs mkp msm mks mse msp mke mkq mvo (nI ds.length) (nI w) mwt mwx mwb dn mtp (nI n) (nI a) hT⟩
    · exact ⟨tk, (bs, sm, pl, r0, r1, tk, vo, wt, wx, wb, (nI w), tp, (nI n), (nI a), dn), ((nI 0), mbs, mkp, msm, mks, mse, msp, mke, mkq, mvo, (nI ds.length), (nI w), mwt, mwx, mwb, dn, mtp, (nI n), (nI a)), ⟨hD, hkp, rfl, hd5, hds, ⟨w, hw40, rfl, rfl, hww⟩, ⟨rfl, hdn⟩, ⟨n, a, han, hn100, rfl, rfl, rfl, rfl, htp⟩⟩, CM.k (fun sz => c_count_5 l D κ sz T S ad bs sm pl r0 r1 tk vo (duF ds) (nI ds.length) wt wx wb (nI w) tp (nI n) (nI a) dn ), fun sz => by have h9 := m_count_5 l D κ sz T S bd mco mbs mkp msm mks mse msp mke mkq mvo (nI ds.length) (nI w) mwt mwx mwb dn mtp (nI n) (nI a) hT; rw [sent_cnt hT hD.2.2.1 hD.2.2.2.2] at h9; exact h9⟩
    · cases ds with
      | nil =>
        exact ⟨-1, (bs, sm, pl, r0, r1, tk, vo, wt, wx, wb, (nI w), tp, (nI n), (nI a), dn), ((nI 0), mbs, mkp, msm, mks, mse, msp, mke, mkq, mvo, (nI 0), (nI w), mwt, mwx, mwb, dn, mtp, (nI n), (nI a)), ⟨hD, hkp, rfl, hd5, hds, ⟨w, hw40, rfl, rfl, hww⟩, ⟨rfl, hdn⟩, ⟨n, a, han, hn100, rfl, rfl, rfl, rfl, htp⟩⟩, CM.k (fun sz => c_count_6n l D κ sz T S ad bs sm pl r0 r1 tk vo (duF []) wt wx wb (nI w) tp (nI n) (nI a) dn ), fun sz => m_count_6n l D κ sz T S bd mco mbs mkp msm mks mse msp mke mkq mvo (nI w) mwt mwx mwb dn mtp (nI n) (nI a) hT⟩
      | cons d0 ds0 =>
        generalize hds0 : d0 :: ds0 = ds at *
        obtain ⟨m0, hm0⟩ : ∃ m0, ds.length = m0 + 1 := ⟨ds0.length, by rw [← hds0]; rfl⟩
        obtain ⟨d, hd⟩ : ∃ d, ds[m0]? = some d := ⟨ds[m0]'(by omega), List.getElem?_eq_getElem (by omega)⟩
        have hdu := duF_at hd
        have hDd := hds m0 d hd
        obtain ⟨f, hf⟩ := ds_perm κ T S hd
        obtain ⟨bad, bbs, bsm, bpl, br0, br1, btk, bvo⟩ := d
        have hC : CM l D κ yX3_count wsX3_count ({ frames := 3, cells := 0, slots := 0, locals := 68 }) [.ref (ad 0), .int (nI 6)] (cW κ T S ad (bs, sm, pl, r0, r1, tk, vo, wt, wx, wb, (nI w), tp, (nI n), (nI a), dn) ds ++ drW κ T S (bad, bbs, bsm, bpl, br0, br1, btk, bvo)) (cW κ T S ad (bs, sm, pl, r0, r1, tk, vo, wt, wx, wb, (nI w), tp, (nI n), (nI a), dn) ds ++ drW κ T S (bad, bbs, bsm, bpl, br0, br1, btk, bvo)) (some (.int (nI (cnt (fun q => dnF bs bbs (q * 16) 16) ((T + 2) * S))))) := fun sz => by
          have h9 := c_count_6 l D κ sz T S ad bs sm pl r0 r1 tk vo (duF ds) wt wx wb (nI w) tp (nI n) (nI a) dn bad bbs bsm bpl br0 br1 btk bvo hT hS8 m0 (by omega) hdu
          rw [← hm0] at h9
          exact h9
        exact ⟨nI (cnt (fun q => dnF bs bbs (q * 16) 16) ((T + 2) * S)), (bs, sm, pl, r0, r1, tk, vo, wt, wx, wb, (nI w), tp, (nI n), (nI a), dn), ((nI 0), mbs, mkp, msm, mks, mse, msp, mke, mkq, mvo, (nI ds.length), (nI w), mwt, mwx, mwb, dn, mtp, (nI n), (nI a)), ⟨hD, hkp, rfl, hd5, hds, ⟨w, hw40, rfl, rfl, hww⟩, ⟨rfl, hdn⟩, ⟨n, a, han, hn100, rfl, rfl, rfl, rfl, htp⟩⟩, CM.fr f hC (hf _) (hf _), fun sz => by have h9 := m_count_6 l D κ sz T S bd mco mbs mkp msm mks mse msp mke mkq mvo (nI w) mwt mwx mwb dn mtp (nI n) (nI a) hT m0 (by omega); rw [← hm0, ← diff_eq hT hS8 hD.1 hDd.1.1] at h9; exact h9⟩
  · have hno := inF_no (m := 6) (show inF x 7 = false by simpa using hs) (by omega) rfl
    exact ⟨-1, (bs, sm, pl, r0, r1, tk, vo, wt, wx, wb, (nI w), tp, (nI n), (nI a), dn), ((nI 0), mbs, mkp, msm, mks, mse, msp, mke, mkq, mvo, (nI ds.length), (nI w), mwt, mwx, mwb, dn, mtp, (nI n), (nI a)), ⟨hD, hkp, rfl, hd5, hds, ⟨w, hw40, rfl, rfl, hww⟩, ⟨rfl, hdn⟩, ⟨n, a, han, hn100, rfl, rfl, rfl, rfl, htp⟩⟩, CM.k (fun sz => c_count_no l D κ sz T S ad bs sm pl r0 r1 tk vo (duF ds) (nI ds.length) wt wx wb (nI w) tp (nI n) (nI a) dn x hno), fun sz => m_count_no l D κ sz T S bd mco mbs mkp msm mks mse msp mke mkq mvo (nI ds.length) (nI w) mwt mwx mwb dn mtp (nI n) (nI a) hT x hno⟩

set_option maxHeartbeats 4000000 in
set_option maxRecDepth 100000 in
theorem op_restore {T S : Nat} {C : CS} {ds : List DS} {M : MS} (hT : T ≤ 12) (hS8 : S ≤ 8) (hR : RelT T S C ds M) (l : Launch) (D : va_G) (κ : Nat → ClassId) (ad bd : Nat → Nat) (x y : Int32) : ∃ (r : Int32) (C' : CS) (M' : MS), RelT T S C' ds M' ∧ CM l D κ yX3_restore wsX3_restore ({ frames := 2, cells := 0, slots := 0, locals := 81 }) [.ref (ad 0), .int x, .int y] (kW κ T S ad C ds) (kW κ T S ad C' ds) (some (.int r)) ∧ CM l D κ yX4_restore wsX4_restore ({ frames := 0, cells := 0, slots := 0, locals := 0 }) [.ref (bd 0), .int x, .int y] (mW κ T S bd M) (mW κ T S bd M') (some (.int r)) := by
  obtain ⟨bs, sm, pl, r0, r1, tk, vo, wt, wx, wb, wn, tp, tn, ts, dn⟩ := C
  obtain ⟨mco, mbs, mkp, msm, mks, mse, msp, mke, mkq, mvo, mnd, mwn, mwt, mwx, mwb, mdn, mtp, mtn, mts⟩ := M
  obtain ⟨hD, hkp, hnd, hd5, hds, ⟨w, hw40, ewn, emwn, hww⟩, ⟨edn, hdn⟩, n, a, han, hn100, etn, emtn, ets, emts, htp⟩ := hR
  dsimp only at hD hkp hnd hds ewn emwn hww edn hdn etn emtn ets emts htp
  subst ewn emwn edn etn emtn ets emts hnd
  have hpl := pl_in hT hD.2.2.1
  have hse := se_in hT hD.2.2.1
  have hwt : ∀ k, k < w → vp_in (wt k) T := fun k hk => (hww k hk).2.2.2.1
  have hwx : ∀ k, k < w → vp_in (wx k) S := fun k hk => (hww k hk).2.2.2.2
  have hmwt : ∀ k, k < w → vp_in (mwt k) T := fun k hk => by rw [← (hww k hk).1]; exact hwt k hk
  have hmwx : ∀ k, k < w → vp_in (mwx k) S := fun k hk => by rw [← (hww k hk).2.1]; exact hwx k hk
  by_cases hlo : x < nI 1
  · exact ⟨-2, (bs, sm, pl, r0, r1, tk, vo, wt, wx, wb, (nI w), tp, (nI n), (nI a), dn), ((nI 0), mbs, mkp, msm, mks, mse, msp, mke, mkq, mvo, (nI ds.length), (nI w), mwt, mwx, mwb, dn, mtp, (nI n), (nI a)), ⟨hD, hkp, rfl, hd5, hds, ⟨w, hw40, rfl, rfl, hww⟩, ⟨rfl, hdn⟩, ⟨n, a, han, hn100, rfl, rfl, rfl, rfl, htp⟩⟩, CM.k (fun sz => c_res_lo l D κ sz T S ad bs sm pl r0 r1 tk vo (duF ds) (nI ds.length) wt wx wb (nI w) tp (nI n) (nI a) dn x y hlo), fun sz => m_res_lo l D κ sz T S bd mco mbs mkp msm mks mse msp mke mkq mvo (nI ds.length) (nI w) mwt mwx mwb dn mtp (nI n) (nI a) x y hlo⟩
  · by_cases hhi : nI ds.length < x
    · exact ⟨-2, (bs, sm, pl, r0, r1, tk, vo, wt, wx, wb, (nI w), tp, (nI n), (nI a), dn), ((nI 0), mbs, mkp, msm, mks, mse, msp, mke, mkq, mvo, (nI ds.length), (nI w), mwt, mwx, mwb, dn, mtp, (nI n), (nI a)), ⟨hD, hkp, rfl, hd5, hds, ⟨w, hw40, rfl, rfl, hww⟩, ⟨rfl, hdn⟩, ⟨n, a, han, hn100, rfl, rfl, rfl, rfl, htp⟩⟩, CM.k (fun sz => c_res_hi l D κ sz T S ad bs sm pl r0 r1 tk vo (duF ds) (nI ds.length) wt wx wb (nI w) tp (nI n) (nI a) dn x y hlo hhi), fun sz => m_res_hi l D κ sz T S bd mco mbs mkp msm mks mse msp mke mkq mvo (nI ds.length) (nI w) mwt mwx mwb dn mtp (nI n) (nI a) x y hlo hhi⟩
    · obtain ⟨k, hk, rfl⟩ : ∃ k, k < ds.length ∧ x = nI (k + 1) := by
        obtain ⟨j, hj, rfl⟩ := nI_of2 (nI_toInt (n := ds.length) (by omega)) (fun z => hlo (Int32.lt_trans z (by decide))) (Int32.not_lt.mp hhi)
        rcases j with _ | k
        · exact absurd (by decide) hlo
        · exact ⟨k, by omega, rfl⟩
      obtain ⟨d, hd⟩ : ∃ d, ds[k]? = some d := ⟨ds[k], List.getElem?_eq_getElem hk⟩
      have hdu := duF_at hd
      have hDd := hds k d hd
      obtain ⟨f, hf⟩ := ds_perm κ T S hd
      obtain ⟨bad, bbs, bsm, bpl, br0, br1, btk, bvo⟩ := d
      rcases hdn with rfl | rfl
      · by_cases hv : bvo = y
        · skip
          have hC : CM l D κ yX3_restore wsX3_restore ({ frames := 2, cells := 0, slots := 0, locals := 81 }) [.ref (ad 0), .int (nI (k + 1)), .int y] (cW κ T S ad (bs, sm, pl, r0, r1, tk, vo, wt, wx, wb, (nI w), tp, (nI n), (nI a), (nI 0)) ds ++ drW κ T S (bad, bbs, bsm, bpl, br0, br1, btk, bvo)) (cW κ T S ad ((va_cpy bbs bs 0 0 ((T + 2) * S * 16)), (va_cpy bsm sm 0 0 ((T + 2) * S)), (va_cpy bpl pl 0 0 T), (va_cpy br0 r0 0 0 T), (va_cpy br1 r1 0 0 T), btk, bvo, wt, wx, wb, (nI 0), tp, (nI n), (nI a), (nI 0)) ds ++ drW κ T S (bad, bbs, bsm, bpl, br0, br1, btk, bvo)) (some (.int (nI 1))) := fun sz => c_res l D κ sz T S ad bs sm pl r0 r1 tk vo (duF ds) wt wx wb (nI w) tp (nI n) (nI a) bad bbs bsm bpl br0 br1 btk bvo hT hS8 ds.length k hk hd5 hdu y hv hDd.1.1.2.2.1.fit
          have hvk : mvo k = y := hDd.2.symm.trans hv
          exact ⟨nI 1, ((va_cpy bbs bs 0 0 ((T + 2) * S * 16)), (va_cpy bsm sm 0 0 ((T + 2) * S)), (va_cpy bpl pl 0 0 T), (va_cpy br0 r0 0 0 T), (va_cpy br1 r1 0 0 T), btk, bvo, wt, wx, wb, (nI 0), tp, (nI n), (nI a), (nI 0)), ((nI 0), (rB mkp mbs (1792 * k) 1792), mkp, (rI mks msm (112 * k) 112), mks, (rI mke mse (12 * k) 12), (rI mkq msp (24 * k) 24), mke, mkq, mvo, (nI ds.length), (nI 0), mwt, mwx, mwb, (nI 0), mtp, (nI n), (nI a)), ⟨DR_cong hT hS8 hDd.1 (fun j hj => cpy0 hj) (fun j hj => cpy0 hj) (fun j hj => cpy0 hj) (fun j hj => cpy0 hj) (fun j hj => cpy0 hj) (fun j hj => by show rB mkp mbs (1792 * k) 1792 j = _; rw [rB_eq hkp]; exact rI_in hj) (fun j hj => rI_in hj) (fun j hj => rI_in hj) (fun j hj => rI_in hj) (isB_cpy hDd.1.1.2.2.1 hD.1.2.2.1) (by show isB (rB mkp mbs (1792 * k) 1792); rw [rB_eq hkp]; exact isB_rI hkp hD.1.2.2.2), hkp, rfl, hd5, hds, ⟨0, by omega, rfl, rfl, fun k hk => absurd hk (Nat.not_lt_zero k)⟩, ⟨rfl, Or.inl rfl⟩, ⟨n, a, han, hn100, rfl, rfl, rfl, rfl, htp⟩⟩, CM.fr f hC (hf _) (hf _), fun sz => m_res l D κ sz T S bd mco mbs mkp msm mks mse msp mke mkq mvo (nI w) mwt mwx mwb mtp (nI n) (nI a) ds.length k hk hd5 y hvk⟩
        · skip
          have hC : CM l D κ yX3_restore wsX3_restore ({ frames := 2, cells := 0, slots := 0, locals := 81 }) [.ref (ad 0), .int (nI (k + 1)), .int y] (cW κ T S ad (bs, sm, pl, r0, r1, tk, vo, wt, wx, wb, (nI w), tp, (nI n), (nI a), (nI 0)) ds ++ drW κ T S (bad, bbs, bsm, bpl, br0, br1, btk, bvo)) (cW κ T S ad (bs, sm, pl, r0, r1, tk, vo, wt, wx, wb, (nI w), tp, (nI n), (nI a), (nI 0)) ds ++ drW κ T S (bad, bbs, bsm, bpl, br0, br1, btk, bvo)) (some (.int (nI 0))) := fun sz => c_res_vol l D κ sz T S ad bs sm pl r0 r1 tk vo (duF ds) wt wx wb (nI w) tp (nI n) (nI a) bad bbs bsm bpl br0 br1 btk bvo ds.length k hk hd5 hdu y hv
          exact ⟨nI 0, (bs, sm, pl, r0, r1, tk, vo, wt, wx, wb, (nI w), tp, (nI n), (nI a), (nI 0)), ((nI 0), mbs, mkp, msm, mks, mse, msp, mke, mkq, mvo, (nI ds.length), (nI w), mwt, mwx, mwb, (nI 0), mtp, (nI n), (nI a)), ⟨hD, hkp, rfl, hd5, hds, ⟨w, hw40, rfl, rfl, hww⟩, ⟨rfl, Or.inl rfl⟩, ⟨n, a, han, hn100, rfl, rfl, rfl, rfl, htp⟩⟩, CM.fr f hC (hf _) (hf _), fun sz => m_res_vol l D κ sz T S bd mco mbs mkp msm mks mse msp mke mkq mvo (nI w) mwt mwx mwb mtp (nI n) (nI a) ds.length k hk hd5 y (fun z => hv (hDd.2.trans z))⟩
      · exact ⟨-5, (bs, sm, pl, r0, r1, tk, vo, wt, wx, wb, (nI w), tp, (nI n), (nI a), (nI 1)), ((nI 0), mbs, mkp, msm, mks, mse, msp, mke, mkq, mvo, (nI ds.length), (nI w), mwt, mwx, mwb, (nI 1), mtp, (nI n), (nI a)), ⟨hD, hkp, rfl, hd5, hds, ⟨w, hw40, rfl, rfl, hww⟩, ⟨rfl, Or.inr rfl⟩, ⟨n, a, han, hn100, rfl, rfl, rfl, rfl, htp⟩⟩, CM.k (fun sz => c_res_down l D κ sz T S ad bs sm pl r0 r1 tk vo (duF ds) wt wx wb (nI w) tp (nI n) (nI a) ds.length k (bad 0) hk hd5 hdu y), fun sz => m_res_down l D κ sz T S bd mco mbs mkp msm mks mse msp mke mkq mvo (nI w) mwt mwx mwb mtp (nI n) (nI a) ds.length k hk hd5 y⟩

/-- a contract of dump that makes a dump -/
def AM (l : Launch) (D : va_G) (κ : Nat → ClassId) (T S : Nat) (ad : Nat → Nat) (C : CS) (ds : List DS) (M' : MS) (x r : Int32) : Prop := ∀ sz, Met l yX3_dump wsX3_dump ({ frames := 4, cells := 6, slots := 1949, locals := 94 }) (va_Pc [.ref (ad 0), .int x] (mu_B D κ (kW κ T S ad C ds) sz)) (al_Q (X := List DS) D (some (.int r)) (fun ds' => RelT T S C ds' M') (fun ds' => kW κ T S ad C ds') (va_A (kW κ T S ad C ds) sz)) 6 1949 (va_A (kW κ T S ad C ds) sz)

set_option maxHeartbeats 4000000 in
set_option maxRecDepth 100000 in
theorem op_dump {T S : Nat} {C : CS} {ds : List DS} {M : MS} (hT : T ≤ 12) (hS8 : S ≤ 8) (hR : RelT T S C ds M) (l : Launch) (D : va_G) (κ : Nat → ClassId) (ad bd : Nat → Nat) (x : Int32) : (∃ (r : Int32) (C' : CS) (M' : MS), RelT T S C' ds M' ∧ CM l D κ yX3_dump wsX3_dump ({ frames := 4, cells := 0, slots := 0, locals := 94 }) [.ref (ad 0), .int x] (kW κ T S ad C ds) (kW κ T S ad C' ds) (some (.int r)) ∧ CM l D κ yX4_dump wsX4_dump ({ frames := 0, cells := 0, slots := 0, locals := 0 }) [.ref (bd 0), .int x] (mW κ T S bd M) (mW κ T S bd M') (some (.int r))) ∨ ∃ (r : Int32) (M' : MS), AM l D κ T S ad C ds M' x r ∧ CM l D κ yX4_dump wsX4_dump ({ frames := 0, cells := 0, slots := 0, locals := 0 }) [.ref (bd 0), .int x] (mW κ T S bd M) (mW κ T S bd M') (some (.int r)) := by
  obtain ⟨bs, sm, pl, r0, r1, tk, vo, wt, wx, wb, wn, tp, tn, ts, dn⟩ := C
  obtain ⟨mco, mbs, mkp, msm, mks, mse, msp, mke, mkq, mvo, mnd, mwn, mwt, mwx, mwb, mdn, mtp, mtn, mts⟩ := M
  obtain ⟨hD, hkp, hnd, hd5, hds, ⟨w, hw40, ewn, emwn, hww⟩, ⟨edn, hdn⟩, n, a, han, hn100, etn, emtn, ets, emts, htp⟩ := hR
  dsimp only at hD hkp hnd hds ewn emwn hww edn hdn etn emtn ets emts htp
  subst ewn emwn edn etn emtn ets emts hnd
  have hpl := pl_in hT hD.2.2.1
  have hse := se_in hT hD.2.2.1
  have hwt : ∀ k, k < w → vp_in (wt k) T := fun k hk => (hww k hk).2.2.2.1
  have hwx : ∀ k, k < w → vp_in (wx k) S := fun k hk => (hww k hk).2.2.2.2
  have hmwt : ∀ k, k < w → vp_in (mwt k) T := fun k hk => by rw [← (hww k hk).1]; exact hwt k hk
  have hmwx : ∀ k, k < w → vp_in (mwx k) S := fun k hk => by rw [← (hww k hk).2.1]; exact hwx k hk
  rcases hdn with rfl | rfl
  · rcases Nat.lt_or_ge ds.length 5 with q | q
    · right
      have hrel : ∀ bd9 : Nat → Nat, RelT T S (bs, sm, pl, r0, r1, tk, vo, wt, wx, wb, (nI w), tp, (nI n), (nI a), (nI 0)) (ds ++ [(bd9, va_cpy bs (fun _ => 0) 0 0 ((T + 2) * S * 16), va_cpy sm (s2F (fun _ => 0) S (T + 2)) 0 0 ((T + 2) * S), va_cpy pl (plF T) 0 0 T, va_cpy r0 (fun _ => 0) 0 0 T, va_cpy r1 (fun _ => 0) 0 0 T, tk, x)]) ((nI 0), mbs, (dB mbs mkp (1792 * ds.length) 1792), msm, (dI msm mks (112 * ds.length) 112), mse, msp, (dI mse mke (12 * ds.length) 12), (dI msp mkq (24 * ds.length) 24), (upd mvo ds.length x), (nI (ds.length + 1)), (nI w), mwt, mwx, mwb, (nI 0), mtp, (nI n), (nI a)) := by
        intro bd9
        have hkp' : isB (dB mbs mkp (1792 * ds.length) 1792) := by rw [dB_eq hD.1.2.2.2]; exact isB_dI hD.1.2.2.2 hkp
        refine ⟨hD, hkp', by simp, by simp; omega, fun k d hd => ?_, ⟨w, hw40, rfl, rfl, hww⟩, ⟨rfl, Or.inl rfl⟩, ⟨n, a, han, hn100, rfl, rfl, rfl, rfl, htp⟩⟩
        show DRd T S d k (dB mbs mkp (1792 * ds.length) 1792) (dI msm mks (112 * ds.length) 112) (dI mse mke (12 * ds.length) 12) (dI msp mkq (24 * ds.length) 24) (upd mvo ds.length x)
        rcases Nat.lt_or_ge k ds.length with z | z
        · rw [List.getElem?_append_left z] at hd
          obtain ⟨g1, g2⟩ := hds k d hd
          refine ⟨DR_cong hT hS8 g1 (fun _ _ => rfl) (fun _ _ => rfl) (fun _ _ => rfl) (fun _ _ => rfl) (fun _ _ => rfl) (fun j hj => ?_) (fun j hj => dI_out (by omega)) (fun j hj => dI_out (by omega)) (fun j hj => dI_out (by omega)) g1.1.2.2.1 (fun j => hkp' _), by rw [pk_un (by omega)]; exact g2⟩
          show dB mbs mkp (1792 * ds.length) 1792 (1792 * k + j) = _
          rw [dB_eq hD.1.2.2.2]
          exact dI_out (by omega)
        · obtain ⟨hk, e⟩ := List.getElem?_eq_some_iff.mp hd
          have e2 : k = ds.length := by simp at hk; omega
          subst e2
          rw [List.getElem?_append_right (Nat.le_refl _), Nat.sub_self] at hd
          cases hd
          refine ⟨DR_cong hT hS8 hD (fun j hj => cpy0 (f := bs) (g := fun _ => 0) hj) (fun j hj => cpy0 (f := sm) (g := s2F (fun _ => 0) S (T + 2)) hj) (fun j hj => cpy0 (f := pl) (g := plF T) hj) (fun j hj => cpy0 (f := r0) (g := fun _ => 0) hj) (fun j hj => cpy0 (f := r1) (g := fun _ => 0) hj) (fun j hj => ?_) (fun j hj => dI_in hj) (fun j hj => dI_in hj) (fun j hj => dI_in hj) (isB_cpy hD.1.2.2.1 isB_0) (fun j => hkp' _), by rw [pk_us]⟩
          show dB mbs mkp (1792 * ds.length) 1792 (1792 * ds.length + j) = _
          rw [dB_eq hD.1.2.2.2]
          exact dI_in hj
      refine ⟨nI (ds.length + 1), ((nI 0), mbs, (dB mbs mkp (1792 * ds.length) 1792), msm, (dI msm mks (112 * ds.length) 112), mse, msp, (dI mse mke (12 * ds.length) 12), (dI msp mkq (24 * ds.length) 24), (upd mvo ds.length x), (nI (ds.length + 1)), (nI w), mwt, mwx, mwb, (nI 0), mtp, (nI n), (nI a)), fun sz => ?_, fun sz => m_dump l D κ sz T S bd mco mbs mkp msm mks mse msp mke mkq mvo (nI w) mwt mwx mwb mtp (nI n) (nI a) ds.length q x⟩
      have h9 := c_dump l D κ sz T S ad bs sm pl r0 r1 tk vo (duF ds) wt wx wb (nI w) tp (nI n) (nI a) hT hS8 ds.length q x hD.1.2.2.1.fit
      have hp : (kW κ T S ad (bs, sm, pl, r0, r1, tk, vo, wt, wx, wb, (nI w), tp, (nI n), (nI a), (nI 0)) ds).Perm (dsW κ T S ds ++ tdW κ T S ad bs sm pl r0 r1 tk vo (duF ds) (nI ds.length) wt wx wb (nI w) tp (nI n) (nI a) (nI 0)) := List.Perm.refl _
      refine Met_mono h9 (fun a9 st hs => ?_) (fun a9 st o t hs hq => ?_) (va_A_mono hp)
      · obtain ⟨e, hsz, hP, hK, hDD⟩ := hs
        exact ⟨e, hsz, va_P_mem (fun q hq => hp.mem_iff.mpr (List.mem_append_right _ hq)) hP, hK, va_D_right (va_D_perm hp hDD)⟩
      · obtain ⟨e, hsz, hP, hK, hDD⟩ := hs
        subst hsz
        obtain ⟨⟨bd9, -, ho, hP1, hD1⟩, hF⟩ := hq
        obtain ⟨b1, b2, b3⟩ := fr_post hP hDD hp hP1 hD1 hF
        refine ⟨⟨ds ++ [(bd9, va_cpy bs (fun _ => 0) 0 0 ((T + 2) * S * 16), va_cpy sm (s2F (fun _ => 0) S (T + 2)) 0 0 ((T + 2) * S), va_cpy pl (plF T) 0 0 T, va_cpy r0 (fun _ => 0) 0 0 T, va_cpy r1 (fun _ => 0) 0 0 T, tk, x)], hrel bd9, ho, ?_⟩, b3⟩
        have hp2 : (dsW κ T S ds ++ (tdW κ T S ad bs sm pl r0 r1 tk vo (va_up (duF ds) ds.length (some (bd9 0))) (nI (ds.length + 1)) wt wx wb (nI w) tp (nI n) (nI a) (nI 0) ++ drW κ T S (bd9, va_cpy bs (fun _ => 0) 0 0 ((T + 2) * S * 16), va_cpy sm (s2F (fun _ => 0) S (T + 2)) 0 0 ((T + 2) * S), va_cpy pl (plF T) 0 0 T, va_cpy r0 (fun _ => 0) 0 0 T, va_cpy r1 (fun _ => 0) 0 0 T, tk, x))).Perm (kW κ T S ad (bs, sm, pl, r0, r1, tk, vo, wt, wx, wb, (nI w), tp, (nI n), (nI a), (nI 0)) (ds ++ [(bd9, va_cpy bs (fun _ => 0) 0 0 ((T + 2) * S * 16), va_cpy sm (s2F (fun _ => 0) S (T + 2)) 0 0 ((T + 2) * S), va_cpy pl (plF T) 0 0 T, va_cpy r0 (fun _ => 0) 0 0 T, va_cpy r1 (fun _ => 0) 0 0 T, tk, x)])) := by
          unfold kW
          rw [dsW_app]
          show List.Perm _ ((dsW κ T S ds ++ (drW κ T S _ ++ [])) ++ tdW κ T S ad _ _ _ _ _ _ _ (duF (ds ++ [_])) (nI (ds ++ [_]).length) _ _ _ _ _ _ _ _)
          rw [duF_add, List.append_nil, List.length_append, List.append_assoc]
          exact List.Perm.append_left _ List.perm_append_comm
        exact ⟨va_P_perm hp2 b1, va_D_perm hp2 b2⟩
    · have e : ds.length = 5 := by omega
      left
      exact ⟨-1, (bs, sm, pl, r0, r1, tk, vo, wt, wx, wb, (nI w), tp, (nI n), (nI a), (nI 0)), ((nI 0), mbs, mkp, msm, mks, mse, msp, mke, mkq, mvo, (nI ds.length), (nI w), mwt, mwx, mwb, (nI 0), mtp, (nI n), (nI a)), ⟨hD, hkp, rfl, hd5, hds, ⟨w, hw40, rfl, rfl, hww⟩, ⟨rfl, Or.inl rfl⟩, ⟨n, a, han, hn100, rfl, rfl, rfl, rfl, htp⟩⟩, CM.k (fun sz => by have h9 := c_dump_full l D κ sz T S ad bs sm pl r0 r1 tk vo (duF ds) wt wx wb (nI w) tp (nI n) (nI a) x; rw [← e] at h9; exact h9), fun sz => by have h9 := m_dump_full l D κ sz T S bd mco mbs mkp msm mks mse msp mke mkq mvo (nI w) mwt mwx mwb mtp (nI n) (nI a) x; rw [← e] at h9; exact h9⟩
  · left
    exact ⟨-5, (bs, sm, pl, r0, r1, tk, vo, wt, wx, wb, (nI w), tp, (nI n), (nI a), (nI 1)), ((nI 0), mbs, mkp, msm, mks, mse, msp, mke, mkq, mvo, (nI ds.length), (nI w), mwt, mwx, mwb, (nI 1), mtp, (nI n), (nI a)), ⟨hD, hkp, rfl, hd5, hds, ⟨w, hw40, rfl, rfl, hww⟩, ⟨rfl, Or.inr rfl⟩, ⟨n, a, han, hn100, rfl, rfl, rfl, rfl, htp⟩⟩, CM.k (fun sz => c_dump_down l D κ sz T S ad bs sm pl r0 r1 tk vo (duF ds) (nI ds.length) wt wx wb (nI w) tp (nI n) (nI a) x), fun sz => m_dump_down l D κ sz T S bd mco mbs mkp msm mks mse msp mke mkq mvo (nI ds.length) (nI w) mwt mwx mwb mtp (nI n) (nI a) x⟩

set_option maxHeartbeats 4000000 in
set_option maxRecDepth 100000 in
theorem op_read {T S : Nat} {C : CS} {ds : List DS} {M : MS} (hT : T ≤ 12) (hS8 : S ≤ 8) (hR : RelT T S C ds M) (l : Launch) (D : va_G) (κ : Nat → ClassId) (ad bd : Nat → Nat) (x y i : Int32) : (∃ (r : Int32) (M' : MS), RelT T S C ds M' ∧ M'.1 = nI 0 ∧ CM l D κ yX3_read wsX3_read ({ frames := 2, cells := 0, slots := 0, locals := 44 }) [.ref (ad 0), .int x, .int y, .int i] (kW κ T S ad C ds) (kW κ T S ad C ds) (some (.int r)) ∧ CM l D κ yX4_read wsX4_read ({ frames := 2, cells := 0, slots := 0, locals := 43 }) [.ref (bd 0), .int x, .int y, .int i] (mW κ T S bd M) (mW κ T S bd M') (some (.int r))) ∨ ((inF x T && inF y S && inF i 16) = false ∧ ∃ M' : MS, RelT T S C ds M' ∧ M'.1 = nI 1 ∧ CM l D κ yX4_read wsX4_read ({ frames := 2, cells := 0, slots := 0, locals := 43 }) [.ref (bd 0), .int x, .int y, .int i] (mW κ T S bd M) (mW κ T S bd M') (some (.int (nI 0)))) := by
  obtain ⟨bs, sm, pl, r0, r1, tk, vo, wt, wx, wb, wn, tp, tn, ts, dn⟩ := C
  obtain ⟨mco, mbs, mkp, msm, mks, mse, msp, mke, mkq, mvo, mnd, mwn, mwt, mwx, mwb, mdn, mtp, mtn, mts⟩ := M
  obtain ⟨hD, hkp, hnd, hd5, hds, ⟨w, hw40, ewn, emwn, hww⟩, ⟨edn, hdn⟩, n, a, han, hn100, etn, emtn, ets, emts, htp⟩ := hR
  dsimp only at hD hkp hnd hds ewn emwn hww edn hdn etn emtn ets emts htp
  subst ewn emwn edn etn emtn ets emts hnd
  have hpl := pl_in hT hD.2.2.1
  have hse := se_in hT hD.2.2.1
  have hwt : ∀ k, k < w → vp_in (wt k) T := fun k hk => (hww k hk).2.2.2.1
  have hwx : ∀ k, k < w → vp_in (wx k) S := fun k hk => (hww k hk).2.2.2.2
  have hmwt : ∀ k, k < w → vp_in (mwt k) T := fun k hk => by rw [← (hww k hk).1]; exact hwt k hk
  have hmwx : ∀ k, k < w → vp_in (mwx k) S := fun k hk => by rw [← (hww k hk).2.1]; exact hwx k hk
  by_cases hs : (inF x T && inF y S) = true
  · have hs2 := hs
    rw [Bool.and_eq_true] at hs2
    by_cases hi : inF i 16 = true
    · left
      obtain ⟨t, ht, rfl⟩ := inF_of hs2.1 (by omega)
      obtain ⟨b, hb, rfl⟩ := inF_of hs2.2 (by omega)
      obtain ⟨j, hj, rfl⟩ := inF_of hi (by omega)
      obtain ⟨ep, hlt⟩ := pl_eq hT hD.2.2.1 ht
      have ev : mbs (16 * (8 * mlF mse t + b) + j) = bs ((cl (pl t) * S + b) * 16 + j) := by rw [ep]; exact (hD.1.1 _ _ _ hlt hb hj).symm
      exact ⟨bs ((cl (pl t) * S + b) * 16 + j), ((nI 0), mbs, mkp, msm, mks, mse, msp, mke, mkq, mvo, (nI ds.length), (nI w), mwt, mwx, mwb, dn, mtp, (nI n), (nI a)), ⟨hD, hkp, rfl, hd5, hds, ⟨w, hw40, rfl, rfl, hww⟩, ⟨rfl, hdn⟩, ⟨n, a, han, hn100, rfl, rfl, rfl, rfl, htp⟩⟩, rfl, CM.k (fun sz => c_read l D κ sz T S ad bs sm pl r0 r1 tk vo (duF ds) (nI ds.length) wt wx wb (nI w) tp (nI n) (nI a) dn hT hS8 hpl t b ht hb j hj hD.1.2.2.1), fun sz => by have h9 := m_read l D κ sz T S bd mco mbs mkp msm mks mse msp mke mkq mvo (nI ds.length) (nI w) mwt mwx mwb dn mtp (nI n) (nI a) hT hS8 hse t b ht hb j hj hD.1.2.2.2; rw [ev] at h9; exact h9⟩
    · right
      have hi0 : inF i 16 = false := by simpa using hi
      obtain ⟨t, ht, rfl⟩ := inF_of hs2.1 (by omega)
      obtain ⟨b, hb, rfl⟩ := inF_of hs2.2 (by omega)
      exact ⟨by rw [hi0, Bool.and_false], ((nI 1), mbs, mkp, msm, mks, mse, msp, mke, mkq, mvo, (nI ds.length), (nI w), mwt, mwx, mwb, dn, mtp, (nI n), (nI a)), ⟨hD, hkp, rfl, hd5, hds, ⟨w, hw40, rfl, rfl, hww⟩, ⟨rfl, hdn⟩, ⟨n, a, han, hn100, rfl, rfl, rfl, rfl, htp⟩⟩, rfl, fun sz => m_read_bi l D κ sz T S bd mco mbs mkp msm mks mse msp mke mkq mvo (nI ds.length) (nI w) mwt mwx mwb dn mtp (nI n) (nI a) hT hS8 t b ht hb i hi0⟩
  · right
    have hno : (inF x T && inF y S) = false := by simpa using hs
    exact ⟨by rw [hno, Bool.false_and], ((nI 1), mbs, mkp, msm, mks, mse, msp, mke, mkq, mvo, (nI ds.length), (nI w), mwt, mwx, mwb, dn, mtp, (nI n), (nI a)), ⟨hD, hkp, rfl, hd5, hds, ⟨w, hw40, rfl, rfl, hww⟩, ⟨rfl, hdn⟩, ⟨n, a, han, hn100, rfl, rfl, rfl, rfl, htp⟩⟩, rfl, fun sz => m_read_no l D κ sz T S bd mco mbs mkp msm mks mse msp mke mkq mvo (nI ds.length) (nI w) mwt mwx mwb dn mtp (nI n) (nI a) x y i hno⟩

/-- the start -/
def CS0 (T S : Nat) : CS := ((fun _ => 0), s2F (fun _ => 0) S (T + 2), plF T, (fun _ => 0), (fun _ => 0), nI 0, nI 0, (fun _ => 0), (fun _ => 0), (fun _ => 0), nI 0, (fun _ => 0), nI 0, nI 0, nI 0)
def MS0 (T S : Nat) : MS := (nI 0, (fun _ => 0), (fun _ => 0), m2F (fun _ => 0) S (T + 2), (fun _ => 0), seF 12, (fun _ => 0), (fun _ => 0), (fun _ => 0), (fun _ => 0), nI 0, nI 0, (fun _ => 0), (fun _ => 0), (fun _ => 0), nI 0, (fun _ => 0), nI 0, nI 0)
theorem rel_0 {T S : Nat} (hT : T ≤ 12) (hS8 : S ≤ 8) : RelT T S (CS0 T S) [] (MS0 T S) := ⟨DR_init hT hS8, isB_0, rfl, by decide, fun k d h => by simp at h, ⟨0, by omega, rfl, rfl, fun k hk => absurd hk (Nat.not_lt_zero k)⟩, ⟨rfl, Or.inl rfl⟩, 0, 0, Nat.le_refl 0, by omega, rfl, rfl, rfl, rfl, fun j hj => absurd hj (Nat.not_lt_zero j)⟩

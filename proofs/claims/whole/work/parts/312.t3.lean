/-! single calls, three -/
theorem zV_fg {x : Int32} (k : Nat) (hx : x = nI k) (h1 : 1 ≤ k) (h5 : k ≤ 5) {y : Int32} (hy : y = (-1000000000) - nI k) {M : za_M} {R : za_M → (Int32 → za_M → Prop) → Prop} {K : Int32 → Int32 → za_M → Prop} (h : zI M) (hK : ∀ v M', zI M' → K v v M') (hR : ∀ (M1 : za_M) (K' : Int32 → za_M → Prop), (∀ x : za_L, x.1 ≠ 24 → M1.1 x = M.1 x) → f_X10_finding y M1 K' → R M1 K') : f_X9_fail x M (fun r1 M1 => R M1 (fun r2 M2 => K r1 r2 M2)) := by
  rw [zf_fail k hx h1 h5]
  refine hR _ _ (fun x hx => za_up_oth _ _ _ (fun e => hx (by rw [e]))) ?_
  rw [zf_find k hy h1 h5, hy]
  exact hK _ _ (zI_err h h5)
theorem zT_ofAsh (x1 x2 : Int32) : zV (f_X9_ofAsh x1 x2) (f_X10_ofAsh x1 x2) := by
  intro M K hI hK
  obtain ⟨nA, nP, nL, bA, bP, bL, rA, rP, rL, cA, cP, cL⟩ := zI_cnt hI
  simp only [f_X9_ofAsh, zq_cAsh, cA]
  have ff : ∀ (M1 : za_M), (∀ x : za_L, x.1 ≠ 24 → M1.1 x = M.1 x) → M1.1 (28, 0, 0) 1 = nI nA := fun M1 h => by rw [h (28, 0, 0) (by decide)]; exact rA
  rcases zw_cs x1 (n := nA) (by omega) with ⟨a, ha, rfl, q1⟩ | q1
  · rw [q1, if_neg (by decide), zx_in (by omega) (by decide), nI_clamp (by omega)]
    have hh := hI.2.2.1.1.2.1 a (by rw [rA, nI_clamp (by omega)]; exact ha)
    by_cases w0 : x2 = 0
    · rw [if_pos w0, hh.1, w0]
      simp only [f_X10_ofAsh, zq_rAsh, zf_X10_within, rA, q1, show zw 0 0 4 = 1 by decide, zl_10, if_false, show ((0 : Int32) = 4) = False by decide]
      rw [zq_ashIs (y := 0) a 0 rfl rfl (by omega)]
      exact hK _ _ hI
    rw [if_neg w0]
    by_cases w1 : x2 = 1
    · rw [if_pos w1, hh.2.1, w1]
      simp only [f_X10_ofAsh, zq_rAsh, zf_X10_within, rA, q1, show zw 1 0 4 = 1 by decide, zl_10, if_false, show ((1 : Int32) = 4) = False by decide]
      rw [zq_ashIs (y := 1) a 1 rfl rfl (by omega), show 7 + 4 * a + 1 = 8 + 4 * a by omega]
      exact hK _ _ hI
    rw [if_neg w1]
    by_cases w2 : x2 = 2
    · rw [if_pos w2, hh.2.2.1, w2]
      simp only [f_X10_ofAsh, zq_rAsh, zf_X10_within, rA, q1, show zw 2 0 4 = 1 by decide, zl_10, if_false, show ((2 : Int32) = 4) = False by decide]
      rw [zq_ashIs (y := 2) a 2 rfl rfl (by omega), show 7 + 4 * a + 2 = 9 + 4 * a by omega]
      exact hK _ _ hI
    rw [if_neg w2]
    by_cases w3 : x2 = 3
    · rw [if_pos w3, hh.2.2.2, w3]
      simp only [f_X10_ofAsh, zq_rAsh, zf_X10_within, rA, q1, show zw 3 0 4 = 1 by decide, zl_10, if_false, show ((3 : Int32) = 4) = False by decide]
      rw [zq_ashIs (y := 3) a 3 rfl rfl (by omega), show 7 + 4 * a + 3 = 10 + 4 * a by omega]
      exact hK _ _ hI
    rw [if_neg w3]
    by_cases w4 : x2 = 4
    · rw [if_pos w4, w4]
      refine zq_bush hI.2.2.1.1 rP bP (by omega) ?_
      simp only [f_X10_ofAsh, zq_rAsh, zf_X10_within, rA, q1, show zw 4 0 4 = 1 by decide, zl_10, if_false, if_true]
      exact zq_allOf rP bP (by omega) (hK _ _ hI)
    · rw [if_neg w4]
      have q2 : zw x2 0 4 = 0 := by
        rcases zw_cs x2 (n := 5) (by omega) with ⟨k, hk, e, _⟩ | e
        · have hc : k = 0 ∨ k = 1 ∨ k = 2 ∨ k = 3 ∨ k = 4 := by omega
          rcases hc with rfl | rfl | rfl | rfl | rfl
          · exact absurd e w0
          · exact absurd e w1
          · exact absurd e w2
          · exact absurd e w3
          · exact absurd e w4
        · exact e
      exact zV_ff (R := f_X10_ofAsh (nI a) x2) (y := -1000000001) 1 rfl (by decide) (by decide) rfl hI hK (fun M1 K' h => by simp only [f_X10_ofAsh, zq_rAsh, zf_X10_within, ff M1 h, q1, q2, zl_10, if_true, if_false])
  · rw [q1, if_pos rfl]
    exact zV_ff (R := f_X10_ofAsh x1 x2) (y := -1000000001) 1 rfl (by decide) (by decide) rfl hI hK (fun M1 K' h => by simp only [f_X10_ofAsh, zq_rAsh, ff M1 h, q1, if_true])
theorem zT_stored (x1 x2 : Int32) : zV (f_X9_stored x1 x2) (f_X10_stored x1 x2) := by
  intro M K hI hK
  obtain ⟨nA, nP, nL, bA, bP, bL, rA, rP, rL, cA, cP, cL⟩ := zI_cnt hI
  simp only [f_X9_stored, zq_cPot, zq_cAsh, cA, cP]
  have ff : ∀ (M1 : za_M), (∀ x : za_L, x.1 ≠ 24 → M1.1 x = M.1 x) → M1.1 (28, 0, 0) 1 = nI nA ∧ M1.1 (28, 0, 0) 2 = nI nP := fun M1 h => by rw [h (28, 0, 0) (by decide)]; exact ⟨rA, rP⟩
  rcases zw_cs x1 (n := nP) (by omega) with ⟨p, hp, rfl, q1⟩ | q1
  · rw [q1, if_neg (by decide)]
    rcases zw_cs x2 (n := nA) (by omega) with ⟨a, ha, rfl, q2⟩ | q2
    · rw [q2, if_neg (by decide), zx_in (by omega) (by decide), zx_in (by omega) (by decide), nI_clamp (by omega), nI_clamp (by omega)]
      simp only [f_X10_stored, zq_rPot, zq_rAsh, rA, rP, q1, q2, zl_10, if_false]
      rw [zq_storeAt p a rfl rfl, zx_in (by omega) (by decide), nI_clamp (by omega), (hI.2.2.1.1.2.2.1 p (by rw [rP, nI_clamp (by omega)]; exact hp)).2.2 a (by omega)]
      exact hK _ _ hI
    · rw [q2, if_pos rfl]
      exact zV_ff (R := f_X10_stored (nI p) x2) (y := -1000000001) 1 rfl (by decide) (by decide) rfl hI hK (fun M1 K' h => by simp only [f_X10_stored, f_X10_stored_b29, zq_rPot, zq_rAsh, (ff M1 h).1, (ff M1 h).2, q1, q2, zl_10, if_true, if_false])
  · rw [q1, if_pos rfl]
    exact zV_ff (R := f_X10_stored x1 x2) (y := -1000000001) 1 rfl (by decide) (by decide) rfl hI hK (fun M1 K' h => by simp only [f_X10_stored, f_X10_stored_b29, zq_rPot, (ff M1 h).2, q1, if_true])
theorem zT_hedge (x1 x2 x3 : Int32) : zV (f_X9_hedge x1 x2 x3) (f_X10_hedge x1 x2 x3) := by
  intro M K hI hK
  obtain ⟨nA, nP, nL, bA, bP, bL, rA, rP, rL, cA, cP, cL⟩ := zI_cnt hI
  simp only [f_X9_hedge, f_X9_hedge_b35, zq_cAsh, zf_X9_within, cA]
  have ff : ∀ (M1 : za_M), (∀ x : za_L, x.1 ≠ 24 → M1.1 x = M.1 x) → M1.1 (28, 0, 0) 1 = nI nA := fun M1 h => by rw [h (28, 0, 0) (by decide)]; exact rA
  rcases zw_cs x1 (n := nA) (by omega) with ⟨a, ha, rfl, q1⟩ | q1
  · rw [q1, if_neg (by decide)]
    have ha' : a < (M.1 (28, 0, 0) 1).toNatClampNeg := by rw [rA, nI_clamp (by omega)]; exact ha
    have hh := hI.2.2.1.1.2.1 a ha'
    rcases zw_cs x2 (n := 2) (by omega) with ⟨w, hw, rfl, q2⟩ | q2
    · have q2 : zw (nI w) 0 1 = 1 := q2
      rw [q2, if_neg (by decide)]
      have hc : w = 0 ∨ w = 1 := by omega
      rcases hc with rfl | rfl
      · rw [if_pos (show nI 0 = 0 from rfl), if_pos (show nI 0 = 0 from rfl)]
        by_cases q3 : zw x3 0 9 = 0
        · rw [if_pos q3]
          exact zV_ff (R := f_X10_hedge (nI a) (nI 0) x3) (y := -1000000001) 1 rfl (by decide) (by decide) rfl hI hK (fun M1 K' h => by simp only [f_X10_hedge, f_X10_hedge_b29, zq_rAsh, zf_X10_within, ff M1 h, q1, q2, q3, zl_10, if_true, if_false, show (nI 0 = 0) = True from eq_true rfl])
        · rw [if_neg q3, zx_in (by omega) (by decide), nI_clamp (by omega)]
          have hv : zs x3 10 := by
            rcases zw_cs x3 (n := 10) (by omega) with ⟨k, hk, e, _⟩ | e
            · exact ⟨k, hk, e⟩
            · exact absurd e q3
          simp only [za_let]
          have o : (za_up M (3, 0, a) 2 x3).1 (28, 0, 0) = M.1 (28, 0, 0) := za_up_oth _ _ _ (by simp)
          simp only [f_X10_hedge, f_X10_hedge_b29, zq_rAsh, zf_X10_within, o, rA, q1, q2, zl_10, if_false, if_true, show (nI 0 = 0) = True from eq_true rfl]
          rw [if_neg q3, zq_ashAt (y := 2) a 2 rfl rfl, zq_turn (7 + 4 * a + 2) rfl (by omega), o, hh.2.2.1, show 7 + 4 * a + 2 = 9 + 4 * a by omega]
          refine hK _ _ (zI_cty (N' := upd (M.1 (28, 0, 0)) (9 + 4 * a) x3) hI (zg_up (by omega)) (zk_up (by decide)) (zN_a2 hI.1.1 (by omega) hv) (by rw [za_up_row, o]) (fun k hk => zu_ne (by omega)) (zc_ash (f := 2) hI.1.1 hI.2.2.1.1 (by omega) (by omega)))
      · rw [if_neg (show ¬ nI 1 = 0 by decide), if_neg (show ¬ nI 1 = 0 by decide)]
        by_cases q3 : zw x3 0 3 = 0
        · rw [if_pos q3]
          exact zV_ff (R := f_X10_hedge (nI a) (nI 1) x3) (y := -1000000001) 1 rfl (by decide) (by decide) rfl hI hK (fun M1 K' h => by simp only [f_X10_hedge, f_X10_hedge_b29, zq_rAsh, zf_X10_within, ff M1 h, q1, q2, q3, zl_10, if_true, if_false, show (nI 1 = 0) = False by decide])
        · rw [if_neg q3, zx_in (by omega) (by decide), nI_clamp (by omega)]
          have hv : zs x3 4 := by
            rcases zw_cs x3 (n := 4) (by omega) with ⟨k, hk, e, _⟩ | e
            · exact ⟨k, hk, e⟩
            · exact absurd e q3
          simp only [za_let]
          have o : (za_up M (3, 0, a) 3 x3).1 (28, 0, 0) = M.1 (28, 0, 0) := za_up_oth _ _ _ (by simp)
          simp only [f_X10_hedge, f_X10_hedge_b29, zq_rAsh, zf_X10_within, o, rA, q1, q2, zl_10, if_false, show (nI 1 = 0) = False by decide]
          rw [if_neg q3, zq_ashAt (y := 3) a 3 rfl rfl, zq_turn (7 + 4 * a + 3) rfl (by omega), o, hh.2.2.2, show 7 + 4 * a + 3 = 10 + 4 * a by omega]
          refine hK _ _ (zI_cty (N' := upd (M.1 (28, 0, 0)) (10 + 4 * a) x3) hI (zg_up (by omega)) (zk_up (by decide)) (zN_a3 hI.1.1 (by omega) hv) (by rw [za_up_row, o]) (fun k hk => zu_ne (by omega)) (zc_ash (f := 3) hI.1.1 hI.2.2.1.1 (by omega) (by omega)))
    · have q2 : zw x2 0 1 = 0 := q2
      rw [q2, if_pos rfl]
      exact zV_ff (R := f_X10_hedge (nI a) x2 x3) (y := -1000000001) 1 rfl (by decide) (by decide) rfl hI hK (fun M1 K' h => by simp only [f_X10_hedge, zq_rAsh, zf_X10_within, ff M1 h, q1, q2, zl_10, if_true, if_false])
  · rw [q1, if_pos rfl]
    exact zV_ff (R := f_X10_hedge x1 x2 x3) (y := -1000000001) 1 rfl (by decide) (by decide) rfl hI hK (fun M1 K' h => by simp only [f_X10_hedge, zq_rAsh, ff M1 h, q1, if_true])
theorem zT_become (x1 x2 : Int32) : zV (f_X9_become x1 x2) (f_X10_become x1 x2) := by
  intro M K hI hK
  obtain ⟨nA, nP, nL, bA, bP, bL, rA, rP, rL, cA, cP, cL⟩ := zI_cnt hI
  simp only [f_X9_become, f_X9_isKindAndNumber, zq_cAsh, zf_X9_within, cA, eq_true (zw_B _ _ _), true_and]
  have ff : ∀ (M1 : za_M), (∀ x : za_L, x.1 ≠ 24 → M1.1 x = M.1 x) → M1.1 (28, 0, 0) 1 = nI nA := fun M1 h => by rw [h (28, 0, 0) (by decide)]; exact rA
  rcases zw_cs x1 (n := nA) (by omega) with ⟨a, ha, rfl, q1⟩ | q1
  · rw [q1, if_neg (by decide)]
    have ha' : a < (M.1 (28, 0, 0) 1).toNatClampNeg := by rw [rA, nI_clamp (by omega)]; exact ha
    have hh := hI.2.2.1.1.2.1 a ha'
    rcases zw_cs x2 (n := 70) (by omega) with ⟨w, hw, rfl, q2⟩ | q2
    · have q2 : zw (nI w) 0 69 = 1 := q2
      have hd : nI w / 10 = nI (w / 10) := pk_div (by omega) (by decide) (by decide)
      have hr : nI w - nI w / 10 * 10 = nI (w % 10) := pk_rem (by omega) (by decide) (by decide)
      rw [q2, if_neg (by decide), zx_in (by omega) (by decide), nI_clamp (by omega)]
      simp only [za_let]
      rw [hr, hd, hh.1]
      generalize hM1 : za_up (za_up M (3, 0, a) 0 (nI (w / 10))) (3, 0, a) 1 (nI (w % 10)) = M1
      have o : M1.1 (28, 0, 0) = M.1 (28, 0, 0) := by rw [← hM1, za_up_oth _ _ _ (by simp), za_up_oth _ _ _ (by simp)]
      simp only [f_X10_become, f_X10_isKindM, zq_rAsh, zf_X10_within, o, rA, q1, q2, zl_10, if_false, eq_true (zw_B _ _ _), true_and, za_let, za_B1]
      rw [hr, hd, zq_ashAt (y := 1) a 1 rfl rfl, zx_in (by omega) (by decide), zq_ashAt (y := 0) a 0 rfl rfl, zq_turn (7 + 4 * a + 0) rfl (by omega), nI_clamp (by omega), za_up_row, o, zu_ne (by omega), show 7 + 4 * a + 0 = 7 + 4 * a by omega, show 7 + 4 * a + 1 = 8 + 4 * a by omega]
      have g1 := zc_ash (f := 0) (v := nI (w / 10)) hI.1.1 hI.2.2.1.1 (a := a) (by omega) (by omega)
      have n1 : zN (upd (M.1 (28, 0, 0)) (7 + 4 * a) (nI (w / 10))) := zN_a0 hI.1.1 (by omega) (zs_nI (by omega))
      have g2 := zc_ash (f := 1) (v := nI (w % 10)) n1 g1 (a := a) (by omega) (by omega)
      have n2 := zN_a1 n1 (a := a) (by omega) (zs_nI (n := w % 10) (b := 10) (by omega))
      have ec : upd (upd (M.1 (28, 0, 0)) (7 + 4 * a) (nI (w / 10))) (8 + 4 * a) (nI (w % 10)) = upd (upd (M.1 (28, 0, 0)) (8 + 4 * a) (nI (w % 10))) (7 + 4 * a) (nI (w / 10)) := by
        funext k
        unfold upd
        by_cases k1 : k = 7 + 4 * a
        · rw [if_neg (show ¬ k = 8 + 4 * a by omega), if_pos k1, if_pos k1]
        · rw [if_neg k1, if_neg k1]
      refine hK _ _ (zI_cty (M1 := M1) (N' := upd (upd (M.1 (28, 0, 0)) (7 + 4 * a) (nI (w / 10))) (8 + 4 * a) (nI (w % 10))) hI (by rw [← hM1]; exact zg_tr (zg_up (by omega)) (zg_up (by omega))) (zk_tr (zk_up (by decide)) (zk_up (by decide))) n2 (by rw [za_up_row, za_up_row, o, ec]) (fun k hk => by rw [zu_ne (by omega), zu_ne (by omega)]) (by rw [← hM1]; exact g2))
    · have q2 : zw x2 0 69 = 0 := q2
      rw [q2, if_pos rfl]
      exact zV_ff (R := f_X10_become (nI a) x2) (y := -1000000001) 1 rfl (by decide) (by decide) rfl hI hK (fun M1 K' h => by simp only [f_X10_become, f_X10_isKindM, zq_rAsh, zf_X10_within, ff M1 h, q1, q2, zl_10, if_true, if_false, za_B0, true_and])
  · rw [q1, if_pos rfl]
    exact zV_ff (R := f_X10_become x1 x2) (y := -1000000001) 1 rfl (by decide) (by decide) rfl hI hK (fun M1 K' h => by simp only [f_X10_become, zq_rAsh, ff M1 h, q1, if_true])
theorem zT_as (x1 x2 : Int32) : zV (f_X9_as x1 x2) (f_X10_as x1 x2) := by
  intro M K hI hK
  obtain ⟨nA, nP, nL, bA, bP, bL, rA, rP, rL, cA, cP, cL⟩ := zI_cnt hI
  simp only [f_X9_as, zq_cAsh, zf_X9_within, cA]
  have f28 : ∀ (M1 : za_M), (∀ x : za_L, x.1 ≠ 24 → M1.1 x = M.1 x) → M1.1 (28, 0, 0) = M.1 (28, 0, 0) := fun M1 h => h (28, 0, 0) (by decide)
  have ff : ∀ (M1 : za_M), (∀ x : za_L, x.1 ≠ 24 → M1.1 x = M.1 x) → M1.1 (28, 0, 0) 1 = nI nA := fun M1 h => by rw [h (28, 0, 0) (by decide)]; exact rA
  rcases zw_cs x1 (n := nA) (by omega) with ⟨a, ha, rfl, q1⟩ | q1
  · rw [q1, if_neg (by decide)]
    have ha' : a < (M.1 (28, 0, 0) 1).toNatClampNeg := by rw [rA, nI_clamp (by omega)]; exact ha
    have hh := hI.2.2.1.1.2.1 a ha'
    obtain ⟨k, hk, ek⟩ := (hI.1.1.2.1 a (by omega)).1
    rcases zw_cs x2 (n := 7) (by omega) with ⟨t, ht, rfl, q2⟩ | q2
    · have q2 : zw (nI t) 0 6 = 1 := q2
      rw [q2, if_neg (by decide), zx_in (by omega) (by decide), nI_clamp (by omega), hh.1, ek]
      refine zq_cUnder hk ht ?_
      by_cases z : zun k t = 0
      · rw [if_pos z]
        refine zV_fg (R := f_X10_as (nI a) (nI t)) (y := -1000000005) 5 rfl (by decide) (by decide) rfl hI hK (fun M1 K' h hh => ?_)
        simp only [f_X10_as, zq_rAsh, zf_X10_within, ff M1 h, q1, q2, zl_10, if_false]
        rw [zq_ashIs (y := 0) a 0 rfl rfl (by omega), f28 M1 h, show 7 + 4 * a + 0 = 7 + 4 * a by omega, ek]
        exact zq_rUnder hk ht (by rw [if_pos z]; exact hh)
      · rw [if_neg z, hh.2.1]
        simp only [f_X10_as, zq_rAsh, zf_X10_within, rA, q1, q2, zl_10, if_false]
        rw [zq_ashIs (y := 0) a 0 rfl rfl (by omega), show 7 + 4 * a + 0 = 7 + 4 * a by omega, ek]
        refine zq_rUnder hk ht ?_
        rw [if_neg z, zq_ashIs (y := 1) a 1 rfl rfl (by omega), show 7 + 4 * a + 1 = 8 + 4 * a by omega]
        exact hK _ _ hI
    · have q2 : zw x2 0 6 = 0 := q2
      rw [q2, if_pos rfl]
      exact zV_ff (R := f_X10_as (nI a) x2) (y := -1000000001) 1 rfl (by decide) (by decide) rfl hI hK (fun M1 K' h => by simp only [f_X10_as, zq_rAsh, zf_X10_within, ff M1 h, q1, q2, zl_10, if_true, if_false])
  · rw [q1, if_pos rfl]
    exact zV_ff (R := f_X10_as x1 x2) (y := -1000000001) 1 rfl (by decide) (by decide) rfl hI hK (fun M1 K' h => by simp only [f_X10_as, zq_rAsh, ff M1 h, q1, if_true])

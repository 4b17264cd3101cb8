/-! copies of counties and rows; lend -/
theorem zc_cl {c fr to ash n : Nat} {N : Nat → Int32} {M : za_M} {K : Int32 → za_M → Prop} (h : zc c N M) (h1 : fr < (N 2).toNatClampNeg) (h2 : to < (N 2).toNatClampNeg) (hP : (N 2).toNatClampNeg < 5) (h4 : ash < 5) (k1 : zcl N fr to ash n → K 1 M) (k0 : ¬ zcl N fr to ash n → K 0 M) : f_X1_canLend c (nI fr) (nI to) (nI ash) (nI n) M K := by
  simp only [f_X1_canLend, f_X1_canLend_b40]
  rw [zx_in (by omega) (by decide), zx_in (by omega) (by decide), nI_clamp (by omega), nI_clamp (by omega), (h.2.2.1 fr h1).2.2 ash h4]
  by_cases q : N (29 + 7 * fr + ash) < nI n
  · rw [if_pos q]
    exact k0 (fun z => z.1 q)
  · rw [if_neg q, zx_in (by omega) (by decide), zx_in (by omega) (by decide), nI_clamp (by omega), (h.2.2.1 to h2).2.2 ash h4]
    by_cases r : 999 < N (29 + 7 * to + ash) + nI n
    · rw [if_pos r]
      exact k0 (fun z => z.2 r)
    · rw [if_neg r]
      exact k1 ⟨q, r⟩
theorem zr_cl {fr to ash n : Nat} {M : za_M} {K : Int32 → za_M → Prop} (h1 : fr < 4) (h2 : to < 4) (h4 : ash < 5) (k1 : zcl (M.1 (28, 0, 0)) fr to ash n → K 1 M) (k0 : ¬ zcl (M.1 (28, 0, 0)) fr to ash n → K 0 M) : f_X10_canLend (nI fr) (nI to) (nI ash) (nI n) M K := by
  simp only [f_X10_canLend, f_X10_canLend_b38]
  rw [zq_storeAt fr ash rfl rfl, zx_in (by omega) (by decide), nI_clamp (by omega)]
  by_cases q : M.1 (28, 0, 0) (29 + 7 * fr + ash) < nI n
  · rw [if_pos q]
    exact k0 (fun z => z.1 q)
  · rw [if_neg q, zq_storeAt to ash rfl rfl, zx_in (by omega) (by decide), nI_clamp (by omega)]
    by_cases r : 999 < M.1 (28, 0, 0) (29 + 7 * to + ash) + nI n
    · rw [if_pos r]
      exact k0 (fun z => z.2 r)
    · rw [if_neg r]
      exact k1 ⟨q, r⟩
theorem zT_lend (x1 x2 x3 x4 x5 : Int32) : zV (f_X9_lend x1 x2 x3 x4 x5) (f_X10_lend x1 x2 x3 x4 x5) := by
  intro M K hI hK
  obtain ⟨nA, nP, nL, bA, bP, bL, rA, rP, rL, cA, cP, cL⟩ := zI_cnt hI
  simp only [f_X9_lend, f_X9_lend_b36, f_X9_lend_b37, zq_cPot, zq_cAsh, zf_X9_within, cA, cP, if_true, zl_10, if_false]
  have f28 : ∀ (M1 : za_M), (∀ x : za_L, x.1 ≠ 24 → M1.1 x = M.1 x) → M1.1 (28, 0, 0) = M.1 (28, 0, 0) := fun M1 h => h (28, 0, 0) (by decide)
  rcases (zw_cs x1 (n := nP) (by omega)).symm with q1 | ⟨fr, hfr, rfl, q1⟩
  · rw [q1, if_pos rfl]
    exact zV_ff (R := f_X10_lend x1 x2 x3 x4 x5) (y := -1000000001) 1 rfl (by decide) (by decide) rfl hI hK (fun M1 K' h => by simp only [f_X10_lend, zq_rPot, f28 M1 h, rP, q1, if_true])
  rw [q1, if_neg (by decide)]
  rcases (zw_cs x2 (n := nP) (by omega)).symm with q2 | ⟨to, hto, rfl, q2⟩
  · rw [q2, if_pos rfl]
    exact zV_ff (R := f_X10_lend (nI fr) x2 x3 x4 x5) (y := -1000000001) 1 rfl (by decide) (by decide) rfl hI hK (fun M1 K' h => by simp only [f_X10_lend, zq_rPot, f28 M1 h, rP, q1, q2, zl_10, if_true, if_false])
  rw [q2, if_neg (by decide)]
  by_cases e : fr = to
  · subst e
    rw [if_pos rfl]
    exact zV_ff (R := f_X10_lend (nI fr) (nI fr) x3 x4 x5) (y := -1000000001) 1 rfl (by decide) (by decide) rfl hI hK (fun M1 K' h => by simp only [f_X10_lend, zq_rPot, f28 M1 h, rP, q1, zl_10, if_true, if_false])
  have e' : ¬ nI fr = nI to := fun q => e ((nI_eq (by omega) (by omega)).mp q)
  rw [if_neg e']
  rcases (zw_cs x3 (n := nA) (by omega)).symm with q3 | ⟨ash, hash, rfl, q3⟩
  · rw [q3, if_pos rfl]
    exact zV_ff (R := f_X10_lend (nI fr) (nI to) x3 x4 x5) (y := -1000000001) 1 rfl (by decide) (by decide) rfl hI hK (fun M1 K' h => by simp only [f_X10_lend, zq_rPot, zq_rAsh, f28 M1 h, rP, rA, q1, q2, q3, e', zl_10, if_true, if_false])
  rw [q3, if_neg (by decide)]
  by_cases q4 : zw x4 1 99 = 0
  · rw [if_pos q4]
    exact zV_ff (R := f_X10_lend (nI fr) (nI to) (nI ash) x4 x5) (y := -1000000001) 1 rfl (by decide) (by decide) rfl hI hK (fun M1 K' h => by simp only [f_X10_lend, zq_rPot, zq_rAsh, zf_X10_within, f28 M1 h, rP, rA, q1, q2, q3, q4, e', zl_10, if_true, if_false])
  rw [if_neg q4]
  by_cases q5 : zw x5 1 60 = 0
  · rw [if_pos q5]
    exact zV_ff (R := f_X10_lend (nI fr) (nI to) (nI ash) x4 x5) (y := -1000000001) 1 rfl (by decide) (by decide) rfl hI hK (fun M1 K' h => by simp only [f_X10_lend, zq_rPot, zq_rAsh, zf_X10_within, f28 M1 h, rP, rA, q1, q2, q3, q4, q5, e', zl_10, if_true, if_false])
  rw [if_neg q5]
  obtain ⟨n, hn, hn1, rfl⟩ := zw_1n (m := 99) (by decide) q4
  have pF : fr < (M.1 (28, 0, 0) 2).toNatClampNeg := by rw [rP, nI_clamp (by omega)]; exact hfr
  have pT : to < (M.1 (28, 0, 0) 2).toNatClampNeg := by rw [rP, nI_clamp (by omega)]; exact hto
  have pA : ash < (M.1 (28, 0, 0) 1).toNatClampNeg := by rw [rA, nI_clamp (by omega)]; exact hash
  have v3 : vp_in 3 279 := vp_in_nI (n := 3) (by decide) (by decide)
  refine zc_cl hI.2.2.1.1 pF pT (by rw [rP, nI_clamp (by omega)]; exact bP) (by omega) (fun hc => ?_) (fun hc => ?_)
  · rw [if_neg (by decide), cL]
    by_cases q6 : nL < 10
    · rw [if_pos (show nI nL < 10 from nI_lt (b := 10) q6 (by omega))]
      have kl := zlend_N (d := x5) hI.1.1 rL q6 pF pT pA (by omega) e hc
      refine zc_lend (d := x5) hI.1.1 hI.2.2.1.1 rL q6 pF pT pA (by omega) e hc (fun M1 c1 g1 => ?_)
      have o : M1.1 (28, 0, 0) = M.1 (28, 0, 0) := g1.1 _ (by simp)
      have e5 : M1.1 (2, 0, 0) 5 = nI (nL + 1) := by
        rw [c1.1.2.2.1]
        unfold zlend
        rw [zu_ne (by omega), zu_ne (by omega)]
        exact (zadd_f _).1
      rw [e5, nI_pred]
      simp only [f_X10_lend, zq_rPot, zq_rAsh, zf_X10_within, o, rP, rA, q1, q2, q3, e', zl_10, if_false]
      rw [if_neg q4, if_neg q5]
      refine zr_cl (by omega) (by omega) (by omega) (fun _ => ?_) (fun z => absurd (by rw [o]; exact hc) z)
      rw [if_neg (by decide)]
      refine ⟨v3, ?_⟩
      rw [show Int32.toNatClampNeg 3 = 3 by decide, o, rL, if_neg (show ¬ nI nL = 10 from fun q => by have := (nI_eq (a := nL) (b := 10) (by omega) (by omega)).mp q; omega)]
      refine zr_lend (by omega) (by omega) (by omega) e (by show M1.1 (28, 0, 0) 3 = _; rw [o]; exact rL) q6 (fun M2 e2 k2 => ?_)
      have e2 : M2.1 (28, 0, 0) = zlend (M1.1 (28, 0, 0)) nL fr to ash n x5 := e2
      rw [o] at e2
      exact hK _ _ (zI_cty hI g1 (zk_mo k2 (by decide)) kl.1 e2 kl.2 c1)
    · rw [if_neg (show ¬ nI nL < 10 from fun q => q6 ((nI_ltI (a := nL) (b := 10) (by omega) (by omega)).mp q))]
      have e10 : nL = 10 := by omega
      refine zV_fg (R := f_X10_lend (nI fr) (nI to) (nI ash) (nI n) x5) (y := -1000000004) 4 rfl (by decide) (by decide) rfl hI hK (fun M1 K' h hh => ?_)
      simp only [f_X10_lend, zq_rPot, zq_rAsh, zf_X10_within, f28 M1 h, rP, rA, q1, q2, q3, e', zl_10, if_false]
      rw [if_neg q4, if_neg q5]
      refine zr_cl (by omega) (by omega) (by omega) (fun _ => ?_) (fun z => absurd (by rw [f28 M1 h]; exact hc) z)
      rw [if_neg (by decide)]
      refine ⟨v3, ?_⟩
      rw [show Int32.toNatClampNeg 3 = 3 by decide, f28 M1 h, rL, e10, if_pos (show nI 10 = 10 from rfl)]
      exact hh
  · rw [if_pos rfl]
    refine zV_fg (R := f_X10_lend (nI fr) (nI to) (nI ash) (nI n) x5) (y := -1000000003) 3 rfl (by decide) (by decide) rfl hI hK (fun M1 K' h hh => ?_)
    simp only [f_X10_lend, zq_rPot, zq_rAsh, zf_X10_within, f28 M1 h, rP, rA, q1, q2, q3, e', zl_10, if_false]
    rw [if_neg q4, if_neg q5]
    refine zr_cl (by omega) (by omega) (by omega) (fun z => absurd z (by rw [f28 M1 h]; exact hc)) (fun _ => ?_)
    rw [if_pos rfl]
    exact hh
/-- the reference's row copied -/
theorem zr_copy {z0 z1 : za_L} {M : za_M} {K : za_M → Prop} (hz : z0 ≠ z1) (k : ∀ M', M'.1 z1 = (fun j => if j < 279 then M.1 z0 j else M.1 z1 j) → (∀ x, x ≠ z1 → M'.1 x = M.1 x) → M'.2 = M.2 → K M') : f_X10_copy z0 z1 M K := by
  unfold f_X10_copy
  have key : ∀ (s : Nat) (x : Int32) (M' : za_M), (∃ i, x = nI i ∧ i + s = 279 ∧ M'.1 z1 = (fun j => if j < i then M.1 z0 j else M.1 z1 j) ∧ (∀ x, x ≠ z1 → M'.1 x = M.1 x) ∧ M'.2 = M.2) → ∃ q, za_lp1 (f_X10_copy_b2 K z0 z1) q x M' := by
    refine za_lp1_ind (fun s x M' => ∃ i, x = nI i ∧ i + s = 279 ∧ M'.1 z1 = (fun j => if j < i then M.1 z0 j else M.1 z1 j) ∧ (∀ x, x ≠ z1 → M'.1 x = M.1 x) ∧ M'.2 = M.2) ?_ ?_
    · intro x M' ⟨i, e1, e2, i1, i2, i3⟩ L
      subst e1
      have ei : i = 279 := by omega
      subst ei
      unfold f_X10_copy_b2
      rw [if_pos (show (279 : Int32) ≤ nI 279 by decide)]
      exact k M' i1 i2 i3
    · intro s x M' ⟨i, e1, e2, i1, i2, i3⟩ L hL
      subst e1
      simp only [f_X10_copy_b2, za_let]
      rw [if_neg (show ¬ (279 : Int32) ≤ nI i from fun q => by have := (nI_leI (a := 279) (b := i) (by omega) (by omega)).mp q; omega), zx_in (by omega) (by decide), zx_in (by omega) (by decide), nI_clamp (by omega), nI_1]
      refine hL _ _ ⟨i + 1, rfl, by omega, ?_, fun y hy => by rw [za_up_oth _ _ _ hy]; exact i2 y hy, i3⟩
      rw [za_up_row, i1, i2 z0 hz]
      funext j
      unfold upd
      by_cases q : j = i
      · rw [if_pos q, if_pos (by omega), q]
      · rw [if_neg q]
        dsimp only
        by_cases r : j < i
        · rw [if_pos r, if_pos (by omega)]
        · rw [if_neg r, if_neg (by omega)]
  exact key 279 _ _ ⟨0, rfl, by omega, by funext j; rw [if_neg (by omega)], fun _ _ => rfl, rfl⟩
theorem zc_cpA {c0 i0 c1 i1 : Nat} {M : za_M} {K : za_M → Prop} (hc : c0 ≠ c1) (k : ∀ M', (∀ j, j < 4 → M'.1 (3, c0, i0) j = M.1 (3, c1, i1) j) → (∀ x, x ≠ (3, c0, i0) → M'.1 x = M.1 x) → M'.2 = M.2 → K M') : f_X0_copy c0 i0 c1 i1 M K := by
  simp only [f_X0_copy, za_let]
  have hne : ((3, c1, i1) : za_L) ≠ (3, c0, i0) := by simp only [ne_eq, Prod.mk.injEq]; omega
  refine k _ (fun j hj => ?_) (fun x hx => by rw [za_up_oth _ _ _ hx, za_up_oth _ _ _ hx, za_up_oth _ _ _ hx, za_up_oth _ _ _ hx]) rfl
  have hcs : j = 0 ∨ j = 1 ∨ j = 2 ∨ j = 3 := by omega
  rw [za_up_oth _ _ _ hne, za_up_oth _ _ _ hne, za_up_oth _ _ _ hne]
  rcases hcs with rfl | rfl | rfl | rfl <;> simp [zl_up]
theorem zc_cpL {c0 i0 c1 i1 : Nat} {M : za_M} {K : za_M → Prop} (hc : c0 ≠ c1) (k : ∀ M', (∀ j, j < 5 → M'.1 (5, c0, i0) j = M.1 (5, c1, i1) j) → (∀ x, x ≠ (5, c0, i0) → M'.1 x = M.1 x) → M'.2 = M.2 → K M') : f_X3_copy c0 i0 c1 i1 M K := by
  simp only [f_X3_copy, za_let]
  have hne : ((5, c1, i1) : za_L) ≠ (5, c0, i0) := by simp only [ne_eq, Prod.mk.injEq]; omega
  refine k _ (fun j hj => ?_) (fun x hx => by rw [za_up_oth _ _ _ hx, za_up_oth _ _ _ hx, za_up_oth _ _ _ hx, za_up_oth _ _ _ hx, za_up_oth _ _ _ hx]) rfl
  have hcs : j = 0 ∨ j = 1 ∨ j = 2 ∨ j = 3 ∨ j = 4 := by omega
  rw [za_up_oth _ _ _ hne, za_up_oth _ _ _ hne, za_up_oth _ _ _ hne, za_up_oth _ _ _ hne]
  rcases hcs with rfl | rfl | rfl | rfl | rfl <;> simp [zl_up]
theorem zc_cpP {c0 i0 c1 i1 : Nat} {M : za_M} {K : za_M → Prop} (hc : c0 ≠ c1) (k : ∀ M', (∀ j, j < 5 → M'.1 (13, c0, i0) j = M.1 (13, c1, i1) j) → M'.1 (4, c0, i0) 1 = M.1 (4, c1, i1) 1 → M'.1 (4, c0, i0) 2 = M.1 (4, c1, i1) 2 → (∀ x, x ≠ (13, c0, i0) → x ≠ (4, c0, i0) → M'.1 x = M.1 x) → M'.2 = M.2 → K M') : f_X4_copy c0 i0 c1 i1 M K := by
  simp only [f_X4_copy, za_let]
  have hne : ((4, c1, i1) : za_L) ≠ (4, c0, i0) := by simp only [ne_eq, Prod.mk.injEq]; omega
  refine ⟨by unfold za_cok; decide, ?_⟩
  refine k _ (fun j hj => ?_) ?_ ?_ (fun x hx hy => by rw [za_up_oth _ _ _ hy, za_up_oth _ _ _ hy, za_uf_oth _ _ hx]) rfl
  · rw [za_up_oth _ _ _ (by simp), za_up_oth _ _ _ (by simp), za_uf_row, show Int32.toNatClampNeg 0 = 0 by decide, show Int32.toNatClampNeg 5 = 5 by decide, pk_cpy_in (by omega) (by omega), Nat.zero_add, Nat.sub_zero]
  · simp [zl_up, za_uf_oth]
  · rw [za_up_oth _ _ _ hne]
    simp [zl_up, za_uf_oth]
/-- county c1 copied into county c0 -/
theorem zc_copy {c0 c1 : Nat} {N : Nat → Int32} {M : za_M} {K : za_M → Prop} (hc : c0 ≠ c1) (hN : zN N) (h : zc c1 N M) (hj : ∀ i j, i < 10 → j < 10 → M.2 c0 i % 10 = M.2 c0 j % 10 → i = j) (k : ∀ M', zc c0 N M' → zg c0 M M' → M'.2 = M.2 → K M') : f_X1_copy c0 c1 M K := by
  have hA := zs_cl hN.1.1 (by decide)
  have hP := zs_cl hN.1.2.1 (by decide)
  have hL := zs_cl hN.1.2.2.1 (by decide)
  generalize hnA : (N 1).toNatClampNeg = nA at *
  generalize hnP : (N 2).toNatClampNeg = nP at *
  generalize hnL : (N 3).toNatClampNeg = nL at *
  obtain ⟨h1, h2, h3, h4, h5⟩ := h
  rw [hnA] at h2
  rw [hnP] at h3
  rw [hnL] at h4
  simp only [f_X1_copy, za_let]
  have hne : ((2, c1, 0) : za_L) ≠ (2, c0, 0) := by simp only [ne_eq, Prod.mk.injEq]; omega
  have ho : ∀ (M : za_M) (k : Nat) (v : Int32), (za_up M (2, c0, 0) k v).1 (2, c1, 0) = M.1 (2, c1, 0) := fun M k v => za_up_oth _ _ _ hne
  simp only [ho, h1.1, h1.2.1, h1.2.2.1, h1.2.2.2]
  generalize hM0 : za_up (za_up (za_up (za_up M (2, c0, 0) 3 (N 1)) (2, c0, 0) 4 (N 2)) (2, c0, 0) 5 (N 3)) (2, c0, 0) 6 (N 0) = M0
  have cnt : M0.1 (2, c0, 0) 3 = N 1 ∧ M0.1 (2, c0, 0) 4 = N 2 ∧ M0.1 (2, c0, 0) 5 = N 3 ∧ M0.1 (2, c0, 0) 6 = N 0 := by
    rw [← hM0]
    simp [zl_up]
  have g0 : zg c0 M M0 := by
    rw [← hM0]
    exact zg_tr (zg_up (by omega)) (zg_tr (zg_up (by omega)) (zg_tr (zg_up (by omega)) (zg_up (by omega))))
  have p0 : M0.2 = M.2 := by rw [← hM0]; rfl
  have src : ∀ (M' : za_M), zg c0 M M' → ∀ k i, M'.1 (k, c1, i) = M.1 (k, c1, i) ∨ k = 18 := fun M' g k i => by
    by_cases z : k = 18
    · exact Or.inr z
    · exact Or.inl (g.1 _ (by simp only; omega))
  have loans : ∀ (s : Nat) (x : Int32) (M' : za_M), (∃ i, x = nI i ∧ i + s = nL ∧ zg c0 M M' ∧ M'.2 = M.2 ∧ (M'.1 (2, c0, 0) 3 = N 1 ∧ M'.1 (2, c0, 0) 4 = N 2 ∧ M'.1 (2, c0, 0) 5 = N 3 ∧ M'.1 (2, c0, 0) 6 = N 0) ∧ (∀ a, a < nA → ∀ j, j < 4 → M'.1 (3, c0, a) j = M.1 (3, c1, a) j) ∧ (∀ p, p < nP → (∀ j, j < 5 → M'.1 (13, c0, p) j = M.1 (13, c1, p) j) ∧ M'.1 (4, c0, p) 1 = M.1 (4, c1, p) 1 ∧ M'.1 (4, c0, p) 2 = M.1 (4, c1, p) 2) ∧ ∀ l, l < i → ∀ j, j < 5 → M'.1 (5, c0, M.2 c0 l % 10) j = M.1 (5, c1, M.2 c1 l % 10) j) → ∃ q, za_lp1 (f_X1_copy_b96 K c0 c1) q x M' := by
    refine za_lp1_ind (fun s x M' => ∃ i, x = nI i ∧ i + s = nL ∧ zg c0 M M' ∧ M'.2 = M.2 ∧ (M'.1 (2, c0, 0) 3 = N 1 ∧ M'.1 (2, c0, 0) 4 = N 2 ∧ M'.1 (2, c0, 0) 5 = N 3 ∧ M'.1 (2, c0, 0) 6 = N 0) ∧ (∀ a, a < nA → ∀ j, j < 4 → M'.1 (3, c0, a) j = M.1 (3, c1, a) j) ∧ (∀ p, p < nP → (∀ j, j < 5 → M'.1 (13, c0, p) j = M.1 (13, c1, p) j) ∧ M'.1 (4, c0, p) 1 = M.1 (4, c1, p) 1 ∧ M'.1 (4, c0, p) 2 = M.1 (4, c1, p) 2) ∧ ∀ l, l < i → ∀ j, j < 5 → M'.1 (5, c0, M.2 c0 l % 10) j = M.1 (5, c1, M.2 c1 l % 10) j) ?_ ?_
    · intro x M' ⟨i, e1, e2, g, p, c, fa, fp, fl⟩ L
      subst e1
      unfold f_X1_copy_b96
      rw [c.2.2.1, hL.2, if_pos (nI_le (by omega) (by omega))]
      refine k M' ⟨c, fun a ha => ?_, fun q hq => ?_, fun l hl => ?_, by rw [p]; exact hj⟩ g p
      · rw [hnA] at ha
        rw [fa a ha 0 (by omega), fa a ha 1 (by omega), fa a ha 2 (by omega), fa a ha 3 (by omega)]
        exact h2 a ha
      · rw [hnP] at hq
        obtain ⟨f1, f2, f3⟩ := fp q hq
        rw [f2, f3]
        exact ⟨(h3 q hq).1, (h3 q hq).2.1, fun a ha => by rw [f1 a ha]; exact (h3 q hq).2.2 a ha⟩
      · rw [hnL] at hl
        have fl' := fl l (by omega)
        rw [p, fl' 0 (by omega), fl' 1 (by omega), fl' 2 (by omega), fl' 3 (by omega), fl' 4 (by omega)]
        exact h4 l hl
    · intro s x M' ⟨i, e1, e2, g, p, c, fa, fp, fl⟩ L hL'
      subst e1
      unfold f_X1_copy_b96
      rw [c.2.2.1, hL.2, if_neg (by rw [nI_leI (by omega) (by omega)]; omega), zx_in (by omega) (by decide), zx_in (by omega) (by decide), nI_clamp (by omega), p]
      refine zc_cpL hc (fun M2 m1 m2 m3 => ?_)
      rw [nI_1]
      have o : ∀ k i', k ≠ 5 → M2.1 (k, c0, i') = M'.1 (k, c0, i') := fun k i' hk => m2 _ (by simp [hk])
      refine hL' _ _ ⟨i + 1, rfl, by omega, zg_tr g ⟨fun y hy => m2 y (fun e => hy (by rw [e]; simp)), fun d _ => by rw [m3]⟩, by rw [m3]; exact p, by rw [o 2 0 (by decide)]; exact c, fun a ha j hj2 => by rw [o 3 a (by decide)]; exact fa a ha j hj2, fun q hq => by rw [o 13 q (by decide), o 4 q (by decide)]; exact fp q hq, fun l hl j hj2 => ?_⟩
      by_cases z : l = i
      · subst z
        rw [m1 j hj2]
        rcases src M' g 5 (M.2 c1 l % 10) with e | e
        · rw [e]
        · omega
      · rw [m2 _ (by simp only [ne_eq, Prod.mk.injEq, true_and]; exact fun e => z (hj l i (by omega) (by omega) e))]
        exact fl l (by omega) j hj2
  have potters : ∀ (s : Nat) (x : Int32) (M' : za_M), (∃ i, x = nI i ∧ i + s = nP ∧ zg c0 M M' ∧ M'.2 = M.2 ∧ (M'.1 (2, c0, 0) 3 = N 1 ∧ M'.1 (2, c0, 0) 4 = N 2 ∧ M'.1 (2, c0, 0) 5 = N 3 ∧ M'.1 (2, c0, 0) 6 = N 0) ∧ (∀ a, a < nA → ∀ j, j < 4 → M'.1 (3, c0, a) j = M.1 (3, c1, a) j) ∧ (∀ p, p < i → (∀ j, j < 5 → M'.1 (13, c0, p) j = M.1 (13, c1, p) j) ∧ M'.1 (4, c0, p) 1 = M.1 (4, c1, p) 1 ∧ M'.1 (4, c0, p) 2 = M.1 (4, c1, p) 2)) → ∃ q, za_lp1 (f_X1_copy_b65 K c0 c1) q x M' := by
    refine za_lp1_ind (fun s x M' => ∃ i, x = nI i ∧ i + s = nP ∧ zg c0 M M' ∧ M'.2 = M.2 ∧ (M'.1 (2, c0, 0) 3 = N 1 ∧ M'.1 (2, c0, 0) 4 = N 2 ∧ M'.1 (2, c0, 0) 5 = N 3 ∧ M'.1 (2, c0, 0) 6 = N 0) ∧ (∀ a, a < nA → ∀ j, j < 4 → M'.1 (3, c0, a) j = M.1 (3, c1, a) j) ∧ (∀ p, p < i → (∀ j, j < 5 → M'.1 (13, c0, p) j = M.1 (13, c1, p) j) ∧ M'.1 (4, c0, p) 1 = M.1 (4, c1, p) 1 ∧ M'.1 (4, c0, p) 2 = M.1 (4, c1, p) 2)) ?_ ?_
    · intro x M' ⟨i, e1, e2, g, p, c, fa, fp⟩ L
      subst e1
      have ei : i = nP := by omega
      subst ei
      unfold f_X1_copy_b65
      rw [c.2.1, hP.2, if_pos (nI_le (by omega) (by omega))]
      exact loans nL _ _ ⟨0, rfl, by omega, g, p, c, fa, fp, fun l hl => by omega⟩
    · intro s x M' ⟨i, e1, e2, g, p, c, fa, fp⟩ L hL'
      subst e1
      unfold f_X1_copy_b65
      rw [c.2.1, hP.2, if_neg (by rw [nI_leI (by omega) (by omega)]; omega), zx_in (by omega) (by decide), zx_in (by omega) (by decide), nI_clamp (by omega)]
      refine zc_cpP hc (fun M2 m1 m2 m3 m4 m5 => ?_)
      rw [nI_1]
      have o : ∀ k i', k ≠ 13 → k ≠ 4 → M2.1 (k, c0, i') = M'.1 (k, c0, i') := fun k i' a b => m4 _ (by simp [a]) (by simp [b])
      refine hL' _ _ ⟨i + 1, rfl, by omega, zg_tr g ⟨fun y hy => m4 y (fun e => hy (by rw [e]; simp)) (fun e => hy (by rw [e]; simp)), fun d _ => by rw [m5]⟩, by rw [m5]; exact p, by rw [o 2 0 (by decide) (by decide)]; exact c, fun a ha j hj2 => by rw [o 3 a (by decide) (by decide)]; exact fa a ha j hj2, fun q hq => ?_⟩
      by_cases z : q = i
      · subst z
        have s13 : M'.1 (13, c1, q) = M.1 (13, c1, q) := by rcases src M' g 13 q with e | e
                                                            · exact e
                                                            · omega
        have s4 : M'.1 (4, c1, q) = M.1 (4, c1, q) := by rcases src M' g 4 q with e | e
                                                         · exact e
                                                         · omega
        rw [m2, m3, s4]
        exact ⟨fun j hj2 => by rw [m1 j hj2, s13], rfl, rfl⟩
      · rw [m4 (13, c0, q) (by simp [z]) (by simp), m4 (4, c0, q) (by simp) (by simp [z])]
        exact fp q (by omega)
  have ashes : ∀ (s : Nat) (x : Int32) (M' : za_M), (∃ i, x = nI i ∧ i + s = nA ∧ zg c0 M M' ∧ M'.2 = M.2 ∧ (M'.1 (2, c0, 0) 3 = N 1 ∧ M'.1 (2, c0, 0) 4 = N 2 ∧ M'.1 (2, c0, 0) 5 = N 3 ∧ M'.1 (2, c0, 0) 6 = N 0) ∧ (∀ a, a < i → ∀ j, j < 4 → M'.1 (3, c0, a) j = M.1 (3, c1, a) j)) → ∃ q, za_lp1 (f_X1_copy_b34 K c0 c1) q x M' := by
    refine za_lp1_ind (fun s x M' => ∃ i, x = nI i ∧ i + s = nA ∧ zg c0 M M' ∧ M'.2 = M.2 ∧ (M'.1 (2, c0, 0) 3 = N 1 ∧ M'.1 (2, c0, 0) 4 = N 2 ∧ M'.1 (2, c0, 0) 5 = N 3 ∧ M'.1 (2, c0, 0) 6 = N 0) ∧ (∀ a, a < i → ∀ j, j < 4 → M'.1 (3, c0, a) j = M.1 (3, c1, a) j)) ?_ ?_
    · intro x M' ⟨i, e1, e2, g, p, c, fa⟩ L
      subst e1
      have ei : i = nA := by omega
      subst ei
      unfold f_X1_copy_b34
      rw [c.1, hA.2, if_pos (nI_le (by omega) (by omega))]
      exact potters nP _ _ ⟨0, rfl, by omega, g, p, c, fa, fun q hq => by omega⟩
    · intro s x M' ⟨i, e1, e2, g, p, c, fa⟩ L hL'
      subst e1
      unfold f_X1_copy_b34
      rw [c.1, hA.2, if_neg (by rw [nI_leI (by omega) (by omega)]; omega), zx_in (by omega) (by decide), zx_in (by omega) (by decide), nI_clamp (by omega)]
      refine zc_cpA hc (fun M2 m1 m2 m3 => ?_)
      rw [nI_1]
      refine hL' _ _ ⟨i + 1, rfl, by omega, zg_tr g ⟨fun y hy => m2 y (fun e => hy (by rw [e]; simp)), fun d _ => by rw [m3]⟩, by rw [m3]; exact p, by rw [m2 (2, c0, 0) (by simp)]; exact c, fun a ha j hj2 => ?_⟩
      by_cases z : a = i
      · subst z
        rw [m1 j hj2]
        rcases src M' g 3 a with e | e
        · rw [e]
        · omega
      · rw [m2 (3, c0, a) (by simp [z])]
        exact fa a (by omega) j hj2
  exact ashes nA _ _ ⟨0, rfl, by omega, g0, p0, cnt, fun a ha => by omega⟩

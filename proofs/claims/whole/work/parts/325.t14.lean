/-! single calls, thirteen: image, restore, feed -/
theorem zc_take {c u n : Nat} {f : Nat → Nat} {z : za_L} {M : za_M} {K : za_M → Prop} (hn : n ≤ 50) (hz : z ≠ (17, c, u)) (hz2 : z ≠ (6, c, u)) (ht : ∀ i, i < n → M.1 z i = zdec (f i)) (hw : n = 0 ∨ zwf f n 0 0) (hu : M.1 (6, c, u) 0 = nI u) (k : ∀ M', zlw c u n f M' → (∀ x : za_L, x ≠ (6, c, u) → x ≠ (17, c, u) → M'.1 x = M.1 x) → M'.2 = M.2 → K M') : f_X2_take c u z (nI n) M K := by
  unfold f_X2_take
  rw [zf_X9_held, zl_lit 50, zhd_nI (by omega) (by omega), za_letE, Nat.min_eq_right hn, za_up_row, zu_eq]
  refine ⟨⟨by decide, by decide, nI_pos (by omega), by rw [nI_clamp (by omega), show (0 : Int32).toNatClampNeg = 0 by decide]; omega, by rw [nI_clamp (by omega), show (0 : Int32).toNatClampNeg = 0 by decide]; omega⟩, ?_⟩
  rw [za_letE, nI_clamp (by omega), show (0 : Int32).toNatClampNeg = 0 by decide, za_up_oth _ _ _ hz2]
  refine k _ ⟨?_, ?_, hn, fun i hi => ?_, hw⟩ (fun x h1 h2 => by rw [za_uf_oth _ _ h2, za_up_oth _ _ _ h1]) rfl
  · rw [za_uf_oth _ _ (by simp), za_up_row, zu_ne (by decide)]
    exact hu
  · rw [za_uf_oth _ _ (by simp), za_up_row, zu_eq]
  · rw [za_uf_row, pk_cpy_in (by omega) (by omega), Nat.zero_add, Nat.sub_zero]
    exact ht i hi
/-- a state of the class copied -/
theorem zc_cpS {c0 c1 : Nat} {N : Nat → Int32} {M : za_M} {K : za_M → Prop} (hc : c0 ≠ c1) (hN : zN N) (h : zS c1 N M) (hj : ∀ i j, i < 10 → j < 10 → M.2 c0 i % 10 = M.2 c0 j % 10 → i = j) (hu : ∀ u, u < 2 → M.1 (6, c0, u) 0 = nI u) (k : ∀ M', zS c0 N M' → (∀ x : za_L, x.1 ≠ 18 → ¬ zst c0 x → M'.1 x = M.1 x) → M'.2 = M.2 → K M') : f_X7_copy c0 c1 M K := by
  unfold f_X7_copy
  have b5 := zs_cl hN.1.2.2.2.1 (by decide)
  have b6 := zs_cl hN.1.2.2.2.2 (by decide)
  refine zc_copy hc hN h.1 hj (fun M1 d1 g1 p1 => ?_)
  have far : ∀ k i, ¬ zst c0 (k, c1, i) := fun k i q => hc q.1.symm
  have wg : ∀ x : za_L, x.1 ≠ 18 → ¬ zst c0 x → M1.1 x = M.1 x := by
    intro x h1 h2
    refine g1.1 x (fun q => ?_)
    rcases q with q | q
    · exact h1 q
    · exact h2 ⟨q.1, by omega⟩
  refine za_lp1_ind (fun s x M' => ∃ i, x = nI i ∧ i + s = 2 ∧ zc c0 N M' ∧ (∀ u, u < i → zlw c0 u (zTn N u) (zTf N u) M') ∧ (∀ x : za_L, x.1 ≠ 18 → ¬ zst c0 x → M'.1 x = M.1 x) ∧ M'.2 = M.2 ∧ ∀ u, u < 2 → M'.1 (6, c0, u) 0 = nI u) ?_ ?_ 2 0 M1 ⟨0, rfl, by omega, d1, fun u hu => by omega, wg, p1, fun u hu' => by rw [g1.1 (6, c0, u) (by simp)]; exact hu u hu'⟩
  · intro x M' ⟨i, a1, a2, a3, a4, a5, a6, a7⟩ L
    subst a1
    have ei : i = 2 := by omega
    subst ei
    unfold f_X7_copy_b13
    have z0 : (0 : Int32).toNatClampNeg = 0 := by decide
    have z50 : (50 : Int32).toNatClampNeg = 50 := by decide
    have z20 : (20 : Int32).toNatClampNeg = 20 := by decide
    rw [if_pos (show (2 : Int32) ≤ nI 2 by decide), z0, z50, z20, za_letE]
    refine ⟨by unfold za_cok; decide, ?_⟩
    rw [za_letE]
    refine ⟨by unfold za_cok; decide, ?_⟩
    have h1n : ((1, c1, 0) : za_L) ≠ (1, c0, 0) := by simp only [ne_eq, Prod.mk.injEq]; omega
    have h16n : ((16, c1, 0) : za_L) ≠ (15, c0, 0) := by simp
    rw [za_letE, za_letE, za_letE, za_letE, za_letE, za_letE]
    generalize hM2 : za_uf (za_uf M' (15, c0, 0) (va_cpy (M'.1 (15, c1, 0)) (M'.1 (15, c0, 0)) 0 0 50)) (16, c0, 0) (va_cpy ((za_uf M' (15, c0, 0) (va_cpy (M'.1 (15, c1, 0)) (M'.1 (15, c0, 0)) 0 0 50)).1 (16, c1, 0)) ((za_uf M' (15, c0, 0) (va_cpy (M'.1 (15, c1, 0)) (M'.1 (15, c0, 0)) 0 0 50)).1 (16, c0, 0)) 0 0 20) = M2
    have r15 : ∀ i, i < 50 → M2.1 (15, c0, 0) i = M.1 (15, c1, 0) i := fun i hi => by rw [← hM2, za_uf_oth _ _ (by simp), za_uf_row, pk_cpy_in (by omega) (by omega), Nat.zero_add, Nat.sub_zero, a5 (15, c1, 0) (by simp) (far _ _)]
    have r16 : ∀ i, i < 20 → M2.1 (16, c0, 0) i = M.1 (16, c1, 0) i := fun i hi => by rw [← hM2, za_uf_row, pk_cpy_in (by omega) (by omega), Nat.zero_add, Nat.sub_zero, za_uf_oth _ _ h16n, a5 (16, c1, 0) (by simp) (far _ _)]
    have ro : ∀ x : za_L, x ≠ (15, c0, 0) → x ≠ (16, c0, 0) → M2.1 x = M'.1 x := fun x h1 h2 => by rw [← hM2, za_uf_oth _ _ h2, za_uf_oth _ _ h1]
    have r1 : M2.1 (1, c1, 0) = M.1 (1, c1, 0) := (ro _ (by simp) (by simp)).trans (a5 _ (by simp) (far _ _))
    rw [za_up_oth _ _ _ h1n, za_up_oth _ _ _ h1n, za_up_oth _ _ _ h1n, r1]
    generalize hM3 : za_up (za_up (za_up M2 (1, c0, 0) 4 (M.1 (1, c1, 0) 4)) (1, c0, 0) 5 (M.1 (1, c1, 0) 5)) (1, c0, 0) 6 (M.1 (1, c1, 0) 6) = M3
    have s4 : M3.1 (1, c0, 0) 4 = M.1 (1, c1, 0) 4 := by rw [← hM3, za_up_row, zu_ne (by decide), za_up_row, zu_ne (by decide), za_up_row, zu_eq]
    have s5 : M3.1 (1, c0, 0) 5 = M.1 (1, c1, 0) 5 := by rw [← hM3, za_up_row, zu_ne (by decide), za_up_row, zu_eq]
    have s6 : M3.1 (1, c0, 0) 6 = M.1 (1, c1, 0) 6 := by rw [← hM3, za_up_row, zu_eq]
    have so : ∀ x : za_L, x ≠ (1, c0, 0) → M3.1 x = M2.1 x := fun x h1 => by rw [← hM3, za_up_oth _ _ _ h1, za_up_oth _ _ _ h1, za_up_oth _ _ _ h1]
    have oo : ∀ x : za_L, x.1 ≠ 1 → x.1 ≠ 15 → x.1 ≠ 16 → M3.1 x = M'.1 x := fun x h1 h2 h3 => (so x (fun e => h1 (by rw [e]))).trans (ro x (fun e => h2 (by rw [e])) (fun e => h3 (by rw [e])))
    have p3 : M3.2 = M.2 := by rw [← hM3, ← a6, ← hM2]; rfl
    obtain ⟨t1, t2, t3, t4, t5⟩ := h
    refine k M3 ⟨zc_cg a3 (fun x _ hx => oo x (by omega) (by omega) (by omega)) (by rw [p3, a6]), fun u hu => zlw_cg (a4 u hu) (oo _ (by simp) (by simp) (by simp)) (oo _ (by simp) (by simp) (by simp)), ⟨by rw [s4]; exact t3.1, fun i hi => ?_⟩, ⟨by rw [s5]; exact t4.1, fun i hi => ?_⟩, by rw [s6]; exact t5⟩ (fun x h1 h2 => ?_) p3
    · rw [so _ (by simp), r15 i (by omega)]
      exact t3.2 i hi
    · rw [so _ (by simp), r16 i (by omega)]
      exact t4.2 i hi
    · rw [so x (fun e => h2 (by rw [e]; exact ⟨rfl, by simp⟩)), ro x (fun e => h2 (by rw [e]; exact ⟨rfl, by simp⟩)) (fun e => h2 (by rw [e]; exact ⟨rfl, by simp⟩))]
      exact a5 x h1 h2
  · intro s x M' ⟨i, a1, a2, a3, a4, a5, a6, a7⟩ L hL
    subst a1
    have lw := h.2.1 i (by omega)
    have e6 : M'.1 (6, c1, i) = M.1 (6, c1, i) := a5 _ (by simp) (far _ _)
    have e17 : M'.1 (17, c1, i) = M.1 (17, c1, i) := a5 _ (by simp) (far _ _)
    unfold f_X7_copy_b13
    rw [if_neg (show ¬ (2 : Int32) ≤ nI i from fun z => by have := (nI_leI (a := 2) (b := i) (by omega) (by omega)).mp z; omega), zx_in (by omega) (by decide), zx_in (by omega) (by decide), zx_in (by omega) (by decide), nI_clamp (by omega), e6, lw.2.1, nI_1]
    refine zc_take lw.2.2.1 (by simp; omega) (by simp) (fun j hj => by rw [e17]; exact lw.2.2.2.1 j hj) lw.2.2.2.2 (a7 i (by omega)) (fun M2 l2 o2 p2 => ?_)
    refine hL _ _ ⟨i + 1, rfl, by omega, zc_cg a3 (fun x _ hx => o2 x (fun e => by rw [e] at hx; simp at hx) (fun e => by rw [e] at hx; simp at hx)) (by rw [p2]), fun u hu => ?_, fun x h1 h2 => (o2 x (fun e => h2 (by rw [e]; exact ⟨rfl, by simp⟩)) (fun e => h2 (by rw [e]; exact ⟨rfl, by simp⟩))).trans (a5 x h1 h2), by rw [p2, a6], fun u hu => ?_⟩
    · by_cases z : u = i
      · rw [z]; exact l2
      · exact zlw_cg (a4 u (by omega)) (o2 _ (by simp [z]) (by simp)) (o2 _ (by simp) (by simp [z]))
    · by_cases z : u = i
      · rw [z]; exact l2.1
      · rw [o2 (6, c0, u) (by simp [z]) (by simp)]
        exact a7 u hu
theorem zI_use {M : za_M} (h : zI M) : ∀ u, u < 2 → M.1 (6, 1, u) 0 = nI u := fun u hu => by
  rcases h.2.2.2.1 with q | q
  · exact q.2 u hu
  · exact (q.2.1 u hu).1
theorem zst_01 {c i : Nat} {k : Nat} (h : c ≠ 1) : ¬ zst 1 (k, c, i) := fun q => h q.1
theorem zT_image : zV f_X9_image f_X10_image := by
  intro M K hI hK
  have hj := hI.2.2.2.2.2
  unfold f_X9_image
  refine zc_cpS (by decide) hI.1.1 hI.2.2.1 (hj.1 1 (by decide)) (zI_use hI) (fun M1 s1 o1 p1 => ?_)
  rw [za_letE, za_letE, o1 (0, 0, 0) (by simp) (zst_01 (by decide)), za_up_row, zu_eq]
  generalize hM2 : za_up M1 (0, 0, 0) 9 (M.1 (0, 0, 0) 9 + 1) = M2
  have s2 : zS 1 (M.1 (28, 0, 0)) M2 := by rw [← hM2]; exact zS_cg s1 (fun x hx => za_up_oth _ _ _ (fun e => by rw [e] at hx; simp [zst] at hx)) rfl
  have o2 : ∀ x : za_L, x.1 ≠ 18 → x.1 ≠ 0 → ¬ zst 1 x → M2.1 x = M.1 x := fun x h1 h2 h3 => by rw [← hM2, za_up_oth _ _ _ (fun e => h2 (by rw [e]))]; exact o1 x h1 h3
  have r0 : M2.1 (0, 0, 0) 9 = M.1 (0, 0, 0) 9 + 1 := by rw [← hM2, za_up_row, zu_eq]
  have p2 : M2.2 = M.2 := by rw [← hM2]; exact p1
  unfold f_X10_image
  refine zr_copy (by decide) (fun M3 m1 m2 m3 => ?_)
  have ec : ∀ k i, k ≠ 18 → k ≠ 0 → k ≠ 29 → M3.1 (k, 0, i) = M.1 (k, 0, i) := fun k i h1 h2 h3 => (m2 _ (by simp [h3])).trans (o2 _ h1 h2 (zst_01 (by decide)))
  rw [za_letE, za_letE, ec 27 0 (by decide) (by decide) (by decide), za_up_row, zu_eq, hI.2.2.2.2.1.2.1]
  refine hK _ _ ?_
  generalize hM4 : za_up M3 (27, 0, 0) 3 (M.1 (27, 0, 0) 3 + 1) = M4
  have o4 : ∀ x : za_L, x.1 ≠ 18 → x.1 ≠ 0 → x.1 ≠ 29 → x.1 ≠ 27 → ¬ zst 1 x → M4.1 x = M.1 x := fun x h1 h2 h3 h4 h5 => by rw [← hM4, za_up_oth _ _ _ (fun e => h4 (by rw [e])), m2 x (fun e => h3 (by rw [e])), o2 x h1 h2 h5]
  have e28 : M4.1 (28, 0, 0) = M.1 (28, 0, 0) := o4 _ (by simp) (by simp) (by simp) (by simp) (zst_01 (by decide))
  have e29 : M4.1 (29, 0, 0) = M.1 (28, 0, 0) := by
    rw [← hM4, za_up_oth _ _ _ (by decide), m1, o2 (28, 0, 0) (by simp) (by simp) (zst_01 (by decide)), o2 (29, 0, 0) (by simp) (by simp) (zst_01 (by decide))]
    funext j
    by_cases z : j < 279
    · rw [if_pos z]
    · rw [if_neg z]
      exact (hj.2 j (by omega)).1
  have p4 : M4.2 = M.2 := by rw [← hM4]; exact m3.trans p2
  obtain ⟨h1, h2, h3, h4, h5, h6⟩ := hI
  unfold zI
  rw [e28, e29]
  refine ⟨h1, h1, zS_cg h3 (fun x hx => o4 x (by have := hx.2; omega) (by have := hx.2; omega) (by have := hx.2; omega) (by have := hx.2; omega) (fun q => by have := hx.1; have := q.1; omega)) (by rw [p4]), Or.inr (zS_cg s2 (fun x hx => ?_) (by rw [p4, p2])), ?_, ?_⟩
  · rw [← hM4, za_up_oth _ _ _ (fun e => by rw [e] at hx; simp [zst] at hx), m2 x (fun e => by rw [e] at hx; simp [zst] at hx)]
  · obtain ⟨a1, a2, a3, a4⟩ := h5
    have q : ∀ k i, k ≠ 18 → k ≠ 0 → k ≠ 29 → k ≠ 27 → M4.1 (k, 0, i) = M.1 (k, 0, i) := fun k i b1 b2 b3 b4 => o4 _ b1 b2 b3 b4 (zst_01 (by decide))
    have q0 : M4.1 (0, 0, 0) 9 = M.1 (0, 0, 0) 9 + 1 := by rw [← hM4, za_up_oth _ _ _ (by decide), m2 _ (by decide)]; exact r0
    have q3 : M4.1 (27, 0, 0) 3 = M.1 (27, 0, 0) 3 + 1 := by rw [← hM4, za_up_row, zu_eq]
    have q15 : M4.1 (27, 0, 0) 15 = M.1 (27, 0, 0) 15 := by rw [← hM4, za_up_row, zu_ne (by decide), ec 27 0 (by decide) (by decide) (by decide)]
    unfold zo
    rw [q0, q3, q15, q 24 0 (by decide) (by decide) (by decide) (by decide), q 31 0 (by decide) (by decide) (by decide) (by decide), q 8 0 (by decide) (by decide) (by decide) (by decide), q 21 0 (by decide) (by decide) (by decide) (by decide), q 36 0 (by decide) (by decide) (by decide) (by decide), q 37 0 (by decide) (by decide) (by decide) (by decide), q 38 0 (by decide) (by decide) (by decide) (by decide), q 39 0 (by decide) (by decide) (by decide) (by decide)]
    refine ⟨a1, by rw [a2], a3, fun p hp => ?_⟩
    rw [q 9 p (by decide) (by decide) (by decide) (by decide), q 23 p (by decide) (by decide) (by decide) (by decide)]
    exact a4 p hp
  · refine ⟨by rw [p4]; exact h6.1, fun j hj2 => ?_⟩
    rw [e28, e29, o4 (30, 0, 0) (by simp) (by simp) (by simp) (by simp) (zst_01 (by decide))]
    exact ⟨rfl, (h6.2 j hj2).2⟩
theorem zT_restore : zV f_X9_restore f_X10_restore := by
  intro M K hI hK
  have hj := hI.2.2.2.2.2
  have a2 := hI.2.2.2.2.1.2.1
  unfold f_X9_restore
  by_cases q : M.1 (0, 0, 0) 9 = 0
  · rw [if_pos q]
    exact zV_fg (R := f_X10_restore) (y := -1000000002) 2 rfl (by decide) (by decide) rfl hI hK (fun M1 K' h hh => by unfold f_X10_restore; rw [h (27, 0, 0) (by decide), ← a2, if_pos q]; exact hh)
  rw [if_neg q]
  have hk : zS 1 (M.1 (29, 0, 0)) M := by
    rcases hI.2.2.2.1 with z | z
    · exact absurd z.1 q
    · exact z
  have st0 : ∀ k i, ¬ zst 0 (k, 1, i) := fun k i z => by have := z.1; simp at this
  refine zc_cpS (by decide) hI.2.1.1 hk (hj.1 0 (by decide)) (fun u hu => (hI.2.2.1.2.1 u hu).1) (fun M1 s1 o1 p1 => ?_)
  have far : ∀ k i, k ≠ 18 → 18 ≤ k ∨ k = 0 ∨ k = 8 ∨ k = 9 → M1.1 (k, 0, i) = M.1 (k, 0, i) := fun k i h1 h2 => o1 _ h1 (fun z => by have := z.2; simp only at this; omega)
  unfold f_X10_restore
  dsimp only
  rw [far 27 0 (by decide) (by omega), ← a2, if_neg q, s1.1.1.2.2.2]
  refine zr_copy (by decide) (fun M2 m1 m2 m3 => ?_)
  have e28 : M2.1 (28, 0, 0) = M.1 (29, 0, 0) := by
    rw [m1, far 29 0 (by decide) (by omega), far 28 0 (by decide) (by omega)]
    funext j
    by_cases z : j < 279
    · rw [if_pos z]
    · rw [if_neg z]
      exact (hj.2 j (by omega)).1.symm
  rw [show Int32.toNatClampNeg 0 = 0 by decide, e28]
  refine ⟨vp_in_nI (n := 0) (by decide) (by decide), hK _ _ ?_⟩
  have e29 : M2.1 (29, 0, 0) = M.1 (29, 0, 0) := (m2 _ (by decide)).trans (far 29 0 (by decide) (by omega))
  have e30 : M2.1 (30, 0, 0) = M.1 (30, 0, 0) := (m2 _ (by decide)).trans (far 30 0 (by decide) (by omega))
  have e0 : M2.1 (0, 0, 0) = M.1 (0, 0, 0) := (m2 _ (by decide)).trans (far 0 0 (by decide) (by omega))
  have p2 : M2.2 = M.2 := m3.trans p1
  obtain ⟨h1, h2, h3, h4, h5, h6⟩ := hI
  unfold zI
  rw [e28, e29]
  refine ⟨h2, h2, zS_cg s1 (fun x hx => m2 x (fun e => by rw [e] at hx; simp [zst] at hx)) (by rw [m3]), Or.inr (zS_cg hk (fun x hx => (m2 x (fun e => by rw [e] at hx; simp [zst] at hx)).trans (o1 x (by have := hx.2; omega) (fun z => by have := hx.1; have := z.1; omega))) (by rw [p2])), ?_, ?_⟩
  · have g : ∀ k i, k ≠ 18 → k ≠ 28 → 18 ≤ k ∨ k = 0 ∨ k = 8 ∨ k = 9 → M2.1 (k, 0, i) = M.1 (k, 0, i) := fun k i b1 b2 b3 => (m2 _ (by simp [b2])).trans (far k i b1 b3)
    unfold zo
    rw [e0, g 24 0 (by decide) (by decide) (by omega), g 31 0 (by decide) (by decide) (by omega), g 27 0 (by decide) (by decide) (by omega), g 8 0 (by decide) (by decide) (by omega), g 21 0 (by decide) (by decide) (by omega), g 36 0 (by decide) (by decide) (by omega), g 37 0 (by decide) (by decide) (by omega), g 38 0 (by decide) (by decide) (by omega), g 39 0 (by decide) (by decide) (by omega)]
    obtain ⟨c1, c2, c3, c4⟩ := h5
    refine ⟨c1, c2, c3, fun p hp => ?_⟩
    rw [g 9 p (by decide) (by decide) (by omega), g 23 p (by decide) (by decide) (by omega)]
    exact c4 p hp
  · refine ⟨by rw [p2]; exact h6.1, fun j hj2 => ?_⟩
    rw [e28, e29, e30]
    exact ⟨rfl, (h6.2 j hj2).2.trans (h6.2 j hj2).1.symm⟩
/-! feed (the first rows: from the kit's bits to paste) -/
theorem wb_tb (n : Nat) : (lN n).toBitVec = BitVec.ofNat 64 n := rfl
theorem wb_inj {a b : Int64} (h : a.toBitVec = b.toBitVec) : a = b := Int64.toBitVec_inj.mp h
theorem wb_tn {n : Nat} (h : n < 2 ^ 64) : (lN n).toBitVec.toNat = n := by rw [wb_tb, BitVec.toNat_ofNat, Nat.mod_eq_of_lt h]
theorem wb_of (x : Int64) : ∃ n, n < 2 ^ 64 ∧ x = lN n := ⟨x.toBitVec.toNat, x.toBitVec.isLt, wb_inj (by rw [wb_tb]; simp)⟩
theorem wb_c : ∀ k, k < 64 → ((nI k).toInt64 &&& 63) = lN k := by decide +kernel
theorem wb_cu : ∀ k, k < 64 → ((nI k).toInt64.toUInt64 &&& Int64.toUInt64 63) = UInt64.ofNat k := by decide +kernel
theorem wb_sm : ∀ k, k < 64 → (BitVec.ofNat 64 k).smod 64 = BitVec.ofNat 64 k := by decide +kernel
theorem wb_shr {n k : Nat} (hn : n < 2 ^ 64) (hk : k < 64) : ((lN n).toUInt64 >>> ((nI k).toInt64.toUInt64 &&& Int64.toUInt64 63)).toInt64 = lN (n / 2 ^ k) := by
  rw [wb_cu k hk]
  apply wb_inj
  apply BitVec.eq_of_toNat_eq
  show ((lN n).toUInt64 >>> UInt64.ofNat k).toNat = (BitVec.ofNat 64 _).toNat
  have h1 : (UInt64.ofNat k).toNat = k := by
    show (BitVec.ofNat 64 k).toNat = k
    rw [BitVec.toNat_ofNat, Nat.mod_eq_of_lt (by omega)]
  have h2 : (lN n).toUInt64.toNat = n := wb_tn hn
  rw [UInt64.toNat_shiftRight, h1, h2, Nat.mod_eq_of_lt hk, Nat.shiftRight_eq_div_pow, BitVec.toNat_ofNat, Nat.mod_eq_of_lt (Nat.lt_of_le_of_lt (Nat.div_le_self _ _) hn)]
theorem zfb (x : Int64) {k : Nat} (hk : k < 8) : ((((x.toUInt64 >>> ((8 * nI k).toInt64.toUInt64 &&& Int64.toUInt64 63)).toInt64).toInt32) &&& 255) = nI (x.toBitVec.toNat / 2 ^ (8 * k) % 2 ^ 8) := by
  obtain ⟨n, hn, rfl⟩ := wb_of x
  rw [zl_lit 8, pk_mul, wb_shr hn (by omega), lN_i, pk_and _ 8 (by decide), wb_tn hn]
  congr 1
  rw [show (nI (n / 2 ^ (8 * k))).toBitVec.toNat = n / 2 ^ (8 * k) % 2 ^ 32 from by simp [nI]]
  omega
theorem zfr_ (x : Int64) {k : Nat} (hk : k < 8) : ((x >>> ((8 * nI k).toInt64 &&& 63)) &&& 255).toInt32 = nI (x.toBitVec.toNat / 2 ^ (8 * k) % 2 ^ 8) := by
  obtain ⟨n, hn, rfl⟩ := wb_of x
  rw [zl_lit 8, pk_mul, wb_c (8 * k) (by omega), wb_tn hn]
  have e : (lN n >>> lN (8 * k)) &&& 255 = lN (n / 2 ^ (8 * k) % 2 ^ 8) := by
    apply wb_inj
    have e1 : ((lN n >>> lN (8 * k)) &&& 255).toBitVec = ((BitVec.ofNat 64 n).sshiftRight (8 * k) &&& BitVec.ofNat 64 (2 ^ 8 - 1)) := by
      rw [Int64.toBitVec_and, Int64.toBitVec_shiftRight, wb_tb, wb_tb, wb_sm _ (by omega), BitVec.sshiftRight_eq', BitVec.toNat_ofNat, Nat.mod_eq_of_lt (by omega)]
      rfl
    rw [e1, wb_tb]
    apply BitVec.eq_of_getLsbD_eq
    intro i hi
    rw [BitVec.getLsbD_and, BitVec.getLsbD_sshiftRight, BitVec.getLsbD_ofNat, BitVec.getLsbD_ofNat, BitVec.getLsbD_ofNat, Nat.testBit_two_pow_sub_one, Nat.testBit_mod_two_pow, Nat.testBit_div_two_pow]
    by_cases z : i < 8
    · have z2 : 8 * k + i < 64 := by omega
      have z3 : ¬ 64 ≤ i := by omega
      have z4 : i + 8 * k < 64 := by omega
      simp [z, hi, z2, z3, z4, Nat.add_comm]
    · simp [z]
  rw [e, lN_i]
/-- the tape, as it grows -/
def zfd (N : Nat → Int32) (t : Nat) (b : Nat → Int32) : Nat → Nat → Int32
  | 0 => N
  | i+1 => upd (upd (zfd N t b i) (105 + (t + i)) (b i)) 5 (nI (t + i + 1))
theorem zfd_N {N : Nat → Int32} {t : Nat} {b : Nat → Int32} (h : zN N) (e5 : N 5 = nI t) (hb : ∀ i, zs (b i) 256) : ∀ i, t + i ≤ 50 → zN (zfd N t b i) ∧ zfd N t b i 5 = nI (t + i) ∧ (∀ k, k < 105 ∨ 155 ≤ k → k ≠ 5 → zfd N t b i k = N k) ∧ ∀ j, j < 50 → zfd N t b i (105 + j) = if t ≤ j ∧ j < t + i then b (j - t) else N (105 + j) := by
  intro i
  induction i with
  | zero => intro _; exact ⟨h, e5, fun _ _ _ => rfl, fun j _ => by rw [if_neg (by omega)]; rfl⟩
  | succ i ih =>
    intro hi
    obtain ⟨a1, a2, a3, a4⟩ := ih (by omega)
    refine ⟨zN_up5 (zN_up5 a1 (Or.inr (Or.inr (Or.inl ⟨by omega, by omega, hb i⟩)))) (Or.inl ⟨rfl, zs_nI (by omega)⟩), ?_, fun k h1 h2 => ?_, fun j hj => ?_⟩
    · unfold zfd; rw [zu_eq]; rfl
    · unfold zfd; rw [zu_ne h2, zu_ne (by omega)]; exact a3 k h1 h2
    · unfold zfd
      rw [zu_ne (by omega)]
      by_cases z : j = t + i
      · rw [z, zu_eq, if_pos (by omega), show t + i - t = i by omega]
      · rw [zu_ne (by omega), a4 j hj]
        by_cases y : t ≤ j ∧ j < t + i
        · rw [if_pos y, if_pos (by omega)]
        · rw [if_neg y, if_neg (by omega)]
theorem zT_feed (x1 : Int64) (x3 : Int32) : zV (f_X9_feed x1 x3) (f_X10_feed x1 x3) := by
  intro M K hI hK
  obtain ⟨t, ht, et⟩ := hI.1.1.1.2.2.2.1
  have s := hI.2.2.1
  have s4 := s.2.2.1
  have c4 : M.1 (1, 0, 0) 4 = nI t := by rw [s4.1, et]
  have v5 : vp_in 5 279 := vp_in_nI (n := 5) (by decide) (by decide)
  have z5 : Int32.toNatClampNeg 5 = 5 := by decide
  unfold f_X9_feed
  rw [zf_X9_within]
  by_cases q1 : zw x3 1 8 = 0
  · rw [if_pos q1]
    exact zV_fg (R := f_X10_feed x1 x3) (y := -1000000001) 1 rfl (by decide) (by decide) rfl hI hK (fun M1 K' h hh => by unfold f_X10_feed; rw [zf_X10_within, if_pos q1]; exact hh)
  rw [if_neg q1, c4]
  obtain ⟨n, hn, hn1, rfl⟩ := zw_1n (m := 8) (by decide) q1
  rw [nI_add]
  by_cases q2 : t + n ≤ 50
  · rw [if_pos (show nI (t + n) ≤ 50 from nI_le (b := 50) q2 (by omega))]
    generalize hb : (fun k => nI (x1.toBitVec.toNat / 2 ^ (8 * k) % 2 ^ 8)) = b
    have eb : ∀ k, b k = nI (x1.toBitVec.toNat / 2 ^ (8 * k) % 2 ^ 8) := fun k => by rw [← hb]
    have sb : ∀ k, zs (b k) 256 := fun k => by rw [eb]; exact zs_nI (Nat.mod_lt _ (by decide))
    have fd := zfd_N hI.1.1 et sb
    refine za_lp1_ind (fun f x M' => ∃ i, x = nI i ∧ i + f = n ∧ (∀ x : za_L, x ≠ (15, 0, 0) → M'.1 x = M.1 x) ∧ (∀ j, M'.1 (15, 0, 0) j = if t ≤ j ∧ j < t + i then b (j - t) else M.1 (15, 0, 0) j) ∧ M'.2 = M.2) ?_ ?_ n 0 M ⟨0, rfl, by omega, fun _ _ => rfl, fun j => by rw [if_neg (by omega)], rfl⟩
    · intro x M' ⟨i, a1, a2, a3, a4, a5⟩ L
      subst a1
      have ei : i = n := by omega
      subst ei
      unfold f_X9_feed_b39
      rw [if_pos (nI_le (by omega) (by omega)), za_letE, za_letE, a3 (1, 0, 0) (by decide), c4, nI_add, za_up_row, zu_eq]
      generalize hM1 : za_up M' (1, 0, 0) 4 (nI (t + i)) = M1
      have o1 : ∀ x : za_L, x ≠ (1, 0, 0) → x ≠ (15, 0, 0) → M1.1 x = M.1 x := fun x h1 h2 => by rw [← hM1, za_up_oth _ _ _ h1]; exact a3 x h2
      have r15 : M1.1 (15, 0, 0) = M'.1 (15, 0, 0) := by rw [← hM1, za_up_oth _ _ _ (by decide)]
      have r1 : ∀ j, j ≠ 4 → M1.1 (1, 0, 0) j = M.1 (1, 0, 0) j := fun j hj => by rw [← hM1, za_up_row, zu_ne hj, a3 _ (by decide)]
      have r14 : M1.1 (1, 0, 0) 4 = nI (t + i) := by rw [← hM1, za_up_row, zu_eq]
      have p1 : M1.2 = M.2 := by rw [← hM1]; exact a5
      have o28 : M1.1 (28, 0, 0) = M.1 (28, 0, 0) := o1 _ (by decide) (by decide)
      unfold f_X10_feed
      rw [zf_X10_within, if_neg q1, z5, o28, et, nI_add, if_pos (show nI (t + i) ≤ 50 from nI_le (b := 50) q2 (by omega))]
      refine ⟨v5, ?_⟩
      refine za_lp1_ind (fun f x M' => ∃ k, x = nI k ∧ k + f = i ∧ M'.1 (28, 0, 0) = zfd (M.1 (28, 0, 0)) t b k ∧ (∀ x : za_L, x ≠ (28, 0, 0) → M'.1 x = M1.1 x) ∧ M'.2 = M1.2) ?_ ?_ i 0 M1 ⟨0, rfl, by omega, o28, fun _ _ => rfl, rfl⟩
      · intro x M2 ⟨k, b1, b2, b3, b4⟩ L
        subst b1
        have ek : k = i := by omega
        subst ek
        obtain ⟨d1, d2, d3, d4⟩ := fd k (by omega)
        unfold f_X10_feed_b40
        rw [if_pos (nI_le (by omega) (by omega)), z5, b3, d2]
        refine ⟨v5, hK _ _ (zI_tp (N' := zfd (M.1 (28, 0, 0)) t b k) hI d1 b3 (fun j h1 h2 h3 => d3 j (by omega) h2) ?_ ?_ ?_ (fun x h1 h2 h3 h4 => ?_) (by rw [b4.2, p1]))⟩
        · rw [b4.1 (1, 0, 0) (by decide), r14, d2, b4.1 (15, 0, 0) (by decide), r15]
          refine ⟨rfl, fun j hj => ?_⟩
          rw [nI_clamp (by omega)] at hj
          rw [a4, d4 j (by omega)]
          by_cases y : t ≤ j ∧ j < t + k
          · rw [if_pos y, if_pos y]
          · rw [if_neg y, if_neg y]
            exact s4.2 j (by rw [et, nI_clamp (by omega)]; omega)
        · rw [b4.1 (1, 0, 0) (by decide), r1 5 (by decide), d3 6 (by omega) (by omega), b4.1 (16, 0, 0) (by decide), o1 (16, 0, 0) (by decide) (by decide)]
          refine ⟨s.2.2.2.1.1, fun j hj => ?_⟩
          rw [d3 (155 + j) (by omega) (by omega)]
          exact s.2.2.2.1.2 j hj
        · rw [b4.1 (1, 0, 0) (by decide), r1 6 (by decide)]
        · rw [b4.1 x h1]
          exact o1 x h2 h3
      · intro f x M2 ⟨k, b1, b2, b3, b4⟩ L hL
        subst b1
        obtain ⟨d1, d2, d3, d4⟩ := fd k (by omega)
        unfold f_X10_feed_b40
        rw [if_neg (by rw [nI_leI (by omega) (by omega)]; omega), z5, za_letE, zfr_ x1 (by omega), b3, d2, zl_lit 105, nI_add]
        refine ⟨v5, vp_in_nI (by omega) (by decide), ?_⟩
        rw [za_letE, nI_clamp (by omega)]
        refine ⟨v5, ?_⟩
        rw [za_letE, za_up_row, b3, zu_ne (show 5 ≠ 105 + (t + k) by omega), d2]
        refine ⟨v5, ?_⟩
        rw [za_letE, nI_1, nI_1]
        refine hL _ _ ⟨k + 1, rfl, by omega, ?_, fun x hx => by rw [za_up_oth _ _ _ hx, za_up_oth _ _ _ hx]; exact b4.1 x hx, b4.2⟩
        rw [za_up_row, za_up_row, b3, ← eb]
        rfl
    · intro f x M' ⟨i, a1, a2, a3, a4, a5⟩ L hL
      subst a1
      unfold f_X9_feed_b39
      rw [if_neg (by rw [nI_leI (by omega) (by omega)]; omega), za_letE, zfb x1 (by omega), a3 (1, 0, 0) (by decide), c4, nI_add]
      refine ⟨vp_in_nI (by omega) (by decide), ?_⟩
      rw [za_letE, nI_clamp (by omega), nI_1]
      refine hL _ _ ⟨i + 1, rfl, by omega, fun x hx => by rw [za_up_oth _ _ _ hx]; exact a3 x hx, fun j => ?_, a5⟩
      rw [za_up_row]
      by_cases z : j = t + i
      · rw [z, zu_eq, if_pos (by omega), show t + i - t = i by omega, eb]
      · rw [zu_ne z, a4]
        by_cases y : t ≤ j ∧ j < t + i
        · rw [if_pos y, if_pos (by omega)]
        · rw [if_neg y, if_neg (by omega)]
  · have q2' : ¬ nI (t + n) ≤ 50 := fun z => q2 ((nI_leI (a := t + n) (b := 50) (by omega) (by omega)).mp z)
    rw [if_neg q2']
    refine zV_fg (R := f_X10_feed x1 (nI n)) (y := -1000000004) 4 rfl (by decide) (by decide) rfl hI hK (fun M1 K' h hh => ?_)
    unfold f_X10_feed
    rw [zf_X10_within, if_neg q1, z5, h (28, 0, 0) (by decide), et, nI_add, if_neg q2']
    exact ⟨v5, hh⟩

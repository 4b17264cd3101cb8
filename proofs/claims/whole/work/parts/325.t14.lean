/-! single calls, thirteen: image, restore, feed -/
theorem zc_take {c u n : Nat} {f : Nat → Nat} {z : za_L} {M : za_M} {K : za_M → Prop} (hn : n ≤ 50) (hz : z ≠ (17, c, u)) (hz2 : z ≠ (6, c, u)) (ht : ∀ i, i < n → M.1 z i = zdec (f i)) (hw : n = 0 ∨ zwf f n 0 0) (hu : M.1 (6, c, u) 0 = nI u) (k : ∀ M', zlw c u n f M' → (∀ x : za_L, x ≠ (6, c, u) → x ≠ (17, c, u) → M'.1 x = M.1 x) → M'.2 = M.2 → K M') : f_X2_take c u z (nI n) M K := by
  unfold f_X2_take
  rw [zf_X9_held, zl_lit 50, zhd_nI (by omega) (by omega), za_letE, Nat.min_eq_right hn, za_up_row, zu_eq]
  refine ⟨⟨by decide, by decide, nI_pos (by omega), by rw [nI_clamp (by omega), show (0 : Int32).toNatClampNeg = 0 by decide]; omega, by rw [nI_clamp (by omega), show (0 : Int32).toNatClampNeg = 0 by decide]; omega⟩, ?_⟩
  rw [za_letE, nI_clamp (by omega), show (0 : Int32).toNatClampNeg = 0 by decide, za_up_oth _ _ _ hz2]
  refine k _ ⟨?_, ?_, hn, fun i hi => ?_, hw⟩ (fun x h1 h2 => by rw [za_uf_oth _ _ h2, za_up_oth _ _ _ h1]) rfl
  · rw [za_uf_oth _ _ (by simp), za_up_row, zu_ne (by decide)]
    exact hu
  · rw [za_uf_oth _ _ (by simp), za_up_row, zu_eq]
  · rw [za_uf_row, pk_cpy_in (by omega) (by omega), Nat.zero_add, Nat.sub_zero]
    exact ht i hi
/-- a state of the class copied -/
theorem zc_cpS {c0 c1 : Nat} {N : Nat → Int32} {M : za_M} {K : za_M → Prop} (hc : c0 ≠ c1) (hN : zN N) (h : zS c1 N M) (hj : ∀ i j, i < 10 → j < 10 → M.2 c0 i % 10 = M.2 c0 j % 10 → i = j) (hu : ∀ u, u < 2 → M.1 (6, c0, u) 0 = nI u) (k : ∀ M', zS c0 N M' → (∀ x : za_L, x.1 ≠ 18 → ¬ zst c0 x → M'.1 x = M.1 x) → M'.2 = M.2 → K M') : f_X7_copy c0 c1 M K := by
  unfold f_X7_copy
  have b5 := zs_cl hN.1.2.2.2.1 (by decide)
  have b6 := zs_cl hN.1.2.2.2.2 (by decide)
  refine zc_copy hc hN h.1 hj (fun M1 d1 g1 p1 => ?_)
  have far : ∀ k i, ¬ zst c0 (k, c1, i) := fun k i q => hc q.1.symm
  refine za_lp1_ind (fun s x M' => ∃ i, x = nI i ∧ i + s = 2 ∧ zc c0 N M' ∧ (∀ u, u < i → zlw c0 u (zTn N u) (zTf N u) M') ∧ (∀ x : za_L, x.1 ≠ 18 → ¬ zst c0 x → M'.1 x = M.1 x) ∧ M'.2 = M.2 ∧ ∀ u, u < 2 → M'.1 (6, c0, u) 0 = nI u) ?_ ?_ 2 0 M1 ⟨0, rfl, by omega, d1, fun u hu => by omega, fun x h1 h2 => g1.1 x (fun q => by rcases q with q | q
                                                                                                                                                                                                                                                                                                     · exact h1 q
                                                                                                                                                                                                                                                                                                     · exact h2 ⟨q.1, by omega⟩), p1, fun u hu' => by rw [g1.1 (6, c0, u) (by simp)]; exact hu u hu'⟩
  · intro x M' ⟨i, a1, a2, a3, a4, a5, a6, a7⟩ L
    subst a1
    have ei : i = 2 := by omega
    subst ei
    unfold f_X7_copy_b13
    have z0 : (0 : Int32).toNatClampNeg = 0 := by decide
    have z50 : (50 : Int32).toNatClampNeg = 50 := by decide
    have z20 : (20 : Int32).toNatClampNeg = 20 := by decide
    rw [if_pos (show (2 : Int32) ≤ nI 2 by decide), z0, z50, z20, za_letE]
    refine ⟨by unfold za_cok; decide, ?_⟩
    rw [za_letE]
    refine ⟨by unfold za_cok; decide, ?_⟩
    have h1n : ((1, c1, 0) : za_L) ≠ (1, c0, 0) := by simp only [ne_eq, Prod.mk.injEq]; omega
    have h16n : ((16, c1, 0) : za_L) ≠ (15, c0, 0) := by simp
    rw [za_letE, za_letE, za_letE, za_letE, za_letE, za_letE]
    generalize hM2 : za_uf (za_uf M' (15, c0, 0) (va_cpy (M'.1 (15, c1, 0)) (M'.1 (15, c0, 0)) 0 0 50)) (16, c0, 0) (va_cpy ((za_uf M' (15, c0, 0) (va_cpy (M'.1 (15, c1, 0)) (M'.1 (15, c0, 0)) 0 0 50)).1 (16, c1, 0)) ((za_uf M' (15, c0, 0) (va_cpy (M'.1 (15, c1, 0)) (M'.1 (15, c0, 0)) 0 0 50)).1 (16, c0, 0)) 0 0 20) = M2
    have r15 : ∀ i, i < 50 → M2.1 (15, c0, 0) i = M.1 (15, c1, 0) i := fun i hi => by rw [← hM2, za_uf_oth _ _ (by simp), za_uf_row, pk_cpy_in (by omega) (by omega), Nat.zero_add, Nat.sub_zero, a5 (15, c1, 0) (by simp) (far _ _)]
    have r16 : ∀ i, i < 20 → M2.1 (16, c0, 0) i = M.1 (16, c1, 0) i := fun i hi => by rw [← hM2, za_uf_row, pk_cpy_in (by omega) (by omega), Nat.zero_add, Nat.sub_zero, za_uf_oth _ _ h16n, a5 (16, c1, 0) (by simp) (far _ _)]
    have ro : ∀ x : za_L, x ≠ (15, c0, 0) → x ≠ (16, c0, 0) → M2.1 x = M'.1 x := fun x h1 h2 => by rw [← hM2, za_uf_oth _ _ h2, za_uf_oth _ _ h1]
    have r1 : M2.1 (1, c1, 0) = M.1 (1, c1, 0) := (ro _ (by simp) (by simp)).trans (a5 _ (by simp) (far _ _))
    rw [za_up_oth _ _ _ h1n, za_up_oth _ _ _ h1n, za_up_oth _ _ _ h1n, r1]
    generalize hM3 : za_up (za_up (za_up M2 (1, c0, 0) 4 (M.1 (1, c1, 0) 4)) (1, c0, 0) 5 (M.1 (1, c1, 0) 5)) (1, c0, 0) 6 (M.1 (1, c1, 0) 6) = M3
    have s4 : M3.1 (1, c0, 0) 4 = M.1 (1, c1, 0) 4 := by rw [← hM3, za_up_row, zu_ne (by decide), za_up_row, zu_ne (by decide), za_up_row, zu_eq]
    have s5 : M3.1 (1, c0, 0) 5 = M.1 (1, c1, 0) 5 := by rw [← hM3, za_up_row, zu_ne (by decide), za_up_row, zu_eq]
    have s6 : M3.1 (1, c0, 0) 6 = M.1 (1, c1, 0) 6 := by rw [← hM3, za_up_row, zu_eq]
    have so : ∀ x : za_L, x ≠ (1, c0, 0) → M3.1 x = M2.1 x := fun x h1 => by rw [← hM3, za_up_oth _ _ _ h1, za_up_oth _ _ _ h1, za_up_oth _ _ _ h1]
    have oo : ∀ x : za_L, x.1 ≠ 1 → x.1 ≠ 15 → x.1 ≠ 16 → M3.1 x = M'.1 x := fun x h1 h2 h3 => (so x (fun e => h1 (by rw [e]))).trans (ro x (fun e => h2 (by rw [e])) (fun e => h3 (by rw [e])))
    have p3 : M3.2 = M.2 := by rw [← hM3, ← a6, ← hM2]; rfl
    obtain ⟨t1, t2, t3, t4, t5⟩ := h
    refine k M3 ⟨zc_cg a3 (fun x _ hx => oo x (by omega) (by omega) (by omega)) (by rw [p3, a6]), fun u hu => zlw_cg (a4 u hu) (oo _ (by simp) (by simp) (by simp)) (oo _ (by simp) (by simp) (by simp)), ⟨by rw [s4]; exact t3.1, fun i hi => ?_⟩, ⟨by rw [s5]; exact t4.1, fun i hi => ?_⟩, by rw [s6]; exact t5⟩ (fun x h1 h2 => ?_) p3
    · rw [so _ (by simp), r15 i (by omega)]
      exact t3.2 i hi
    · rw [so _ (by simp), r16 i (by omega)]
      exact t4.2 i hi
    · rw [so x (fun e => h2 (by rw [e]; exact ⟨rfl, by simp⟩)), ro x (fun e => h2 (by rw [e]; exact ⟨rfl, by simp⟩)) (fun e => h2 (by rw [e]; exact ⟨rfl, by simp⟩))]
      exact a5 x h1 h2
  · intro s x M' ⟨i, a1, a2, a3, a4, a5, a6, a7⟩ L hL
    subst a1
    have lw := h.2.1 i (by omega)
    have e6 : M'.1 (6, c1, i) = M.1 (6, c1, i) := a5 _ (by simp) (far _ _)
    have e17 : M'.1 (17, c1, i) = M.1 (17, c1, i) := a5 _ (by simp) (far _ _)
    unfold f_X7_copy_b13
    rw [if_neg (show ¬ (2 : Int32) ≤ nI i from fun z => by have := (nI_leI (a := 2) (b := i) (by omega) (by omega)).mp z; omega), zx_in (by omega) (by decide), zx_in (by omega) (by decide), zx_in (by omega) (by decide), nI_clamp (by omega), e6, lw.2.1, nI_1]
    refine zc_take lw.2.2.1 (by simp; omega) (by simp) (fun j hj => by rw [e17]; exact lw.2.2.2.1 j hj) lw.2.2.2.2 (a7 i (by omega)) (fun M2 l2 o2 p2 => ?_)
    refine hL _ _ ⟨i + 1, rfl, by omega, zc_cg a3 (fun x _ hx => o2 x (fun e => by rw [e] at hx; simp at hx) (fun e => by rw [e] at hx; simp at hx)) (by rw [p2]), fun u hu => ?_, fun x h1 h2 => (o2 x (fun e => h2 (by rw [e]; exact ⟨rfl, by simp⟩)) (fun e => h2 (by rw [e]; exact ⟨rfl, by simp⟩))).trans (a5 x h1 h2), by rw [p2, a6], fun u hu => ?_⟩
    · by_cases z : u = i
      · rw [z]; exact l2
      · exact zlw_cg (a4 u (by omega)) (o2 _ (by simp [z]) (by simp)) (o2 _ (by simp) (by simp [z]))
    · by_cases z : u = i
      · rw [z]; exact l2.1
      · rw [o2 (6, c0, u) (by simp [z]) (by simp)]
        exact a7 u hu
theorem zI_use {M : za_M} (h : zI M) : ∀ u, u < 2 → M.1 (6, 1, u) 0 = nI u := fun u hu => by
  rcases h.2.2.2.1 with q | q
  · exact q.2 u hu
  · exact (q.2.1 u hu).1
theorem zst_01 {c i : Nat} {k : Nat} (h : c ≠ 1) : ¬ zst 1 (k, c, i) := fun q => h q.1
theorem zT_image : zV f_X9_image f_X10_image := by
  intro M K hI hK
  have hj := hI.2.2.2.2.2
  unfold f_X9_image
  refine zc_cpS (by decide) hI.1.1 hI.2.2.1 (hj.1 1 (by decide)) (zI_use hI) (fun M1 s1 o1 p1 => ?_)
  rw [za_letE, za_letE, o1 (0, 0, 0) (by simp) (zst_01 (by decide)), za_up_row, zu_eq]
  generalize hM2 : za_up M1 (0, 0, 0) 9 (M.1 (0, 0, 0) 9 + 1) = M2
  have s2 : zS 1 (M.1 (28, 0, 0)) M2 := by rw [← hM2]; exact zS_cg s1 (fun x hx => za_up_oth _ _ _ (fun e => by rw [e] at hx; simp [zst] at hx)) rfl
  have o2 : ∀ x : za_L, x.1 ≠ 18 → x.1 ≠ 0 → ¬ zst 1 x → M2.1 x = M.1 x := fun x h1 h2 h3 => by rw [← hM2, za_up_oth _ _ _ (fun e => h2 (by rw [e]))]; exact o1 x h1 h3
  have r0 : M2.1 (0, 0, 0) 9 = M.1 (0, 0, 0) 9 + 1 := by rw [← hM2, za_up_row, zu_eq]
  have p2 : M2.2 = M.2 := by rw [← hM2]; exact p1
  unfold f_X10_image
  refine zr_copy (by decide) (fun M3 m1 m2 m3 => ?_)
  have ec : ∀ k i, k ≠ 18 → k ≠ 0 → k ≠ 29 → M3.1 (k, 0, i) = M.1 (k, 0, i) := fun k i h1 h2 h3 => (m2 _ (by simp [h3])).trans (o2 _ h1 h2 (zst_01 (by decide)))
  rw [za_letE, za_letE, ec 27 0 (by decide) (by decide) (by decide), za_up_row, zu_eq, hI.2.2.2.2.1.2.1]
  refine hK _ _ ?_
  generalize hM4 : za_up M3 (27, 0, 0) 3 (M.1 (27, 0, 0) 3 + 1) = M4
  have o4 : ∀ x : za_L, x.1 ≠ 18 → x.1 ≠ 0 → x.1 ≠ 29 → x.1 ≠ 27 → ¬ zst 1 x → M4.1 x = M.1 x := fun x h1 h2 h3 h4 h5 => by rw [← hM4, za_up_oth _ _ _ (fun e => h4 (by rw [e])), m2 x (fun e => h3 (by rw [e])), o2 x h1 h2 h5]
  have e28 : M4.1 (28, 0, 0) = M.1 (28, 0, 0) := o4 _ (by simp) (by simp) (by simp) (by simp) (zst_01 (by decide))
  have e29 : M4.1 (29, 0, 0) = M.1 (28, 0, 0) := by
    rw [← hM4, za_up_oth _ _ _ (by decide), m1, o2 (28, 0, 0) (by simp) (by simp) (zst_01 (by decide)), o2 (29, 0, 0) (by simp) (by simp) (zst_01 (by decide))]
    funext j
    by_cases z : j < 279
    · rw [if_pos z]
    · rw [if_neg z]
      exact (hj.2 j (by omega)).1
  have p4 : M4.2 = M.2 := by rw [← hM4]; exact m3.trans p2
  obtain ⟨h1, h2, h3, h4, h5, h6⟩ := hI
  unfold zI
  rw [e28, e29]
  refine ⟨h1, h1, zS_cg h3 (fun x hx => o4 x (by have := hx.2; omega) (by have := hx.2; omega) (by have := hx.2; omega) (by have := hx.2; omega) (fun q => by have := hx.1; have := q.1; omega)) (by rw [p4]), Or.inr (zS_cg s2 (fun x hx => ?_) (by rw [p4, p2])), ?_, ?_⟩
  · rw [← hM4, za_up_oth _ _ _ (fun e => by rw [e] at hx; simp [zst] at hx), m2 x (fun e => by rw [e] at hx; simp [zst] at hx)]
  · obtain ⟨a1, a2, a3, a4⟩ := h5
    have q : ∀ k i, k ≠ 18 → k ≠ 0 → k ≠ 29 → k ≠ 27 → M4.1 (k, 0, i) = M.1 (k, 0, i) := fun k i b1 b2 b3 b4 => o4 _ b1 b2 b3 b4 (zst_01 (by decide))
    have q0 : M4.1 (0, 0, 0) 9 = M.1 (0, 0, 0) 9 + 1 := by rw [← hM4, za_up_oth _ _ _ (by decide), m2 _ (by decide)]; exact r0
    have q3 : M4.1 (27, 0, 0) 3 = M.1 (27, 0, 0) 3 + 1 := by rw [← hM4, za_up_row, zu_eq]
    have q15 : M4.1 (27, 0, 0) 15 = M.1 (27, 0, 0) 15 := by rw [← hM4, za_up_row, zu_ne (by decide), ec 27 0 (by decide) (by decide) (by decide)]
    unfold zo
    rw [q0, q3, q15, q 24 0 (by decide) (by decide) (by decide) (by decide), q 31 0 (by decide) (by decide) (by decide) (by decide), q 8 0 (by decide) (by decide) (by decide) (by decide), q 21 0 (by decide) (by decide) (by decide) (by decide), q 36 0 (by decide) (by decide) (by decide) (by decide), q 37 0 (by decide) (by decide) (by decide) (by decide), q 38 0 (by decide) (by decide) (by decide) (by decide), q 39 0 (by decide) (by decide) (by decide) (by decide)]
    refine ⟨a1, by rw [a2], a3, fun p hp => ?_⟩
    rw [q 9 p (by decide) (by decide) (by decide) (by decide), q 23 p (by decide) (by decide) (by decide) (by decide)]
    exact a4 p hp
  · refine ⟨by rw [p4]; exact h6.1, fun j hj2 => ?_⟩
    rw [e28, e29, o4 (30, 0, 0) (by simp) (by simp) (by simp) (by simp) (zst_01 (by decide))]
    exact ⟨rfl, (h6.2 j hj2).2⟩
theorem zT_restore : zV f_X9_restore f_X10_restore := by
  intro M K hI hK
  have hj := hI.2.2.2.2.2
  have a2 := hI.2.2.2.2.1.2.1
  unfold f_X9_restore
  by_cases q : M.1 (0, 0, 0) 9 = 0
  · rw [if_pos q]
    exact zV_fg (R := f_X10_restore) (y := -1000000002) 2 rfl (by decide) (by decide) rfl hI hK (fun M1 K' h hh => by unfold f_X10_restore; rw [h (27, 0, 0) (by decide), ← a2, if_pos q]; exact hh)
  rw [if_neg q]
  have hk : zS 1 (M.1 (29, 0, 0)) M := by
    rcases hI.2.2.2.1 with z | z
    · exact absurd z.1 q
    · exact z
  have st0 : ∀ k i, ¬ zst 0 (k, 1, i) := fun k i z => by have := z.1; simp at this
  refine zc_cpS (by decide) hI.2.1.1 hk (hj.1 0 (by decide)) (fun u hu => (hI.2.2.1.2.1 u hu).1) (fun M1 s1 o1 p1 => ?_)
  have far : ∀ k i, k ≠ 18 → 18 ≤ k ∨ k = 0 ∨ k = 8 ∨ k = 9 → M1.1 (k, 0, i) = M.1 (k, 0, i) := fun k i h1 h2 => o1 _ h1 (fun z => by have := z.2; simp only at this; omega)
  unfold f_X10_restore
  rw [far 27 0 (by decide) (by omega), ← a2, if_neg q, s1.1.1.2.2.2]
  refine zr_copy (by decide) (fun M2 m1 m2 m3 => ?_)
  have e28 : M2.1 (28, 0, 0) = M.1 (29, 0, 0) := by
    rw [m1, far 29 0 (by decide) (by omega), far 28 0 (by decide) (by omega)]
    funext j
    by_cases z : j < 279
    · rw [if_pos z]
    · rw [if_neg z]
      exact (hj.2 j (by omega)).1.symm
  rw [show Int32.toNatClampNeg 0 = 0 by decide, e28]
  refine ⟨vp_in_nI (n := 0) (by decide) (by decide), hK _ _ ?_⟩
  have e29 : M2.1 (29, 0, 0) = M.1 (29, 0, 0) := (m2 _ (by decide)).trans (far 29 0 (by decide) (by omega))
  have e30 : M2.1 (30, 0, 0) = M.1 (30, 0, 0) := (m2 _ (by decide)).trans (far 30 0 (by decide) (by omega))
  have e0 : M2.1 (0, 0, 0) = M.1 (0, 0, 0) := (m2 _ (by decide)).trans (far 0 0 (by decide) (by omega))
  have p2 : M2.2 = M.2 := m3.trans p1
  obtain ⟨h1, h2, h3, h4, h5, h6⟩ := hI
  unfold zI
  rw [e28, e29]
  refine ⟨h2, h2, zS_cg s1 (fun x hx => m2 x (fun e => by rw [e] at hx; simp [zst] at hx)) (by rw [m3]), Or.inr (zS_cg hk (fun x hx => (m2 x (fun e => by rw [e] at hx; simp [zst] at hx)).trans (o1 x (by have := hx.2; omega) (fun z => by have := hx.1; have := z.1; omega))) (by rw [p2])), ?_, ?_⟩
  · have g : ∀ k i, k ≠ 18 → k ≠ 28 → 18 ≤ k ∨ k = 0 ∨ k = 8 ∨ k = 9 → M2.1 (k, 0, i) = M.1 (k, 0, i) := fun k i b1 b2 b3 => (m2 _ (by simp [b2])).trans (far k i b1 b3)
    unfold zo
    rw [e0, g 24 0 (by decide) (by decide) (by omega), g 31 0 (by decide) (by decide) (by omega), g 27 0 (by decide) (by decide) (by omega), g 8 0 (by decide) (by decide) (by omega), g 21 0 (by decide) (by decide) (by omega), g 36 0 (by decide) (by decide) (by omega), g 37 0 (by decide) (by decide) (by omega), g 38 0 (by decide) (by decide) (by omega), g 39 0 (by decide) (by decide) (by omega)]
    obtain ⟨c1, c2, c3, c4⟩ := h5
    refine ⟨c1, c2, c3, fun p hp => ?_⟩
    rw [g 9 p (by decide) (by decide) (by omega), g 23 p (by decide) (by decide) (by omega)]
    exact c4 p hp
  · refine ⟨by rw [p2]; exact h6.1, fun j hj2 => ?_⟩
    rw [e28, e29, e30]
    exact ⟨rfl, (h6.2 j hj2).2.trans (h6.2 j hj2).1.symm⟩

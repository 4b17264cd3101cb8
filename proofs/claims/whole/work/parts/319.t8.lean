/-! single calls, seven: tape and waiting; trace, tell, law, judge -/
theorem zN_up5 {N : Nat → Int32} {k : Nat} {v : Int32} (h : zN N) (hk : k = 5 ∧ zs v 51 ∨ k = 6 ∧ zs v 21 ∨ (105 ≤ k ∧ k < 155 ∧ zs v 256) ∨ 155 ≤ k) : zN (upd N k v) := by
  obtain ⟨⟨b1, b2, b3, b4, b5⟩, b6, b7, b8, b9⟩ := h
  have hL := (zs_cl b3 (by decide)).1
  refine ⟨⟨by rw [zu_ne (by omega)]; exact b1, by rw [zu_ne (by omega)]; exact b2, by rw [zu_ne (by omega)]; exact b3, ?_, ?_⟩, fun a ha => ?_, fun p hp => ?_, fun l hl => ?_, fun i hi => ?_⟩
  · by_cases q : 5 = k
    · subst q
      rw [zu_eq]
      rcases hk with q | q | q | q
      · exact q.2
      · omega
      · omega
      · omega
    · rw [zu_ne q]; exact b4
  · by_cases q : 6 = k
    · subst q
      rw [zu_eq]
      rcases hk with q | q | q | q
      · omega
      · exact q.2
      · omega
      · omega
    · rw [zu_ne q]; exact b5
  · rw [zu_ne (by omega), zu_ne (by omega), zu_ne (by omega), zu_ne (by omega)]
    exact b6 a ha
  · refine ⟨by rw [zu_ne (by omega)]; exact (b7 p hp).1, by rw [zu_ne (by omega)]; exact (b7 p hp).2.1, fun a ha => ?_⟩
    rw [zu_ne (show 29 + 7 * p + a ≠ k by omega), zu_ne (show 1 ≠ k by omega)]
    exact (b7 p hp).2.2 a ha
  · rw [zu_ne (show 3 ≠ k by omega)] at hl
    rw [zu_ne (show 55 + 5 * l ≠ k by omega), zu_ne (show 56 + 5 * l ≠ k by omega), zu_ne (show 57 + 5 * l ≠ k by omega), zu_ne (show 58 + 5 * l ≠ k by omega), zu_ne (show 1 ≠ k by omega), zu_ne (show 2 ≠ k by omega)]
    exact b8 l hl
  · by_cases q : 105 + i = k
    · subst q
      rw [zu_eq]
      rcases hk with q | q | q | q
      · omega
      · omega
      · exact q.2.2
      · omega
    · rw [zu_ne q]; exact b9 i hi
/-- tape and waiting have changed -/
theorem zI_tp {M M2 : za_M} {N' : Nat → Int32} (h : zI M) (n : zN N') (e28 : M2.1 (28, 0, 0) = N') (k1 : ∀ k, k < 105 ∨ 175 ≤ k → k ≠ 5 → k ≠ 6 → N' k = M.1 (28, 0, 0) k) (r4 : M2.1 (1, 0, 0) 4 = N' 5 ∧ ∀ i, i < (N' 5).toNatClampNeg → M2.1 (15, 0, 0) i = N' (105 + i)) (r5 : M2.1 (1, 0, 0) 5 = N' 6 ∧ ∀ i, i < (N' 6).toNatClampNeg → M2.1 (16, 0, 0) i = N' (155 + i)) (r6 : M2.1 (1, 0, 0) 6 = M.1 (1, 0, 0) 6) (e : ∀ x : za_L, x ≠ (28, 0, 0) → x ≠ (1, 0, 0) → x ≠ (15, 0, 0) → x ≠ (16, 0, 0) → M2.1 x = M.1 x) (p : M2.2 = M.2) : zI M2 := by
  have s := h.2.2.1
  have hT : zT N' := zT_cg h.1.2 (fun j hj => k1 j (by omega) (by omega) (by omega))
  refine zI_now h (by rw [e28]; exact n) (by rw [e28]; exact hT) ?_ (fun x hx => ?_) (by rw [e _ (by simp) (by simp) (by simp) (by simp)]) (by rw [e _ (by simp) (by simp) (by simp) (by simp)]) (by rw [e _ (by simp) (by simp) (by simp) (by simp)]) (by rw [p]) ⟨fun c hc => ?_, fun j hj => ?_⟩
  · rw [e28]
    obtain ⟨s1, s2, s3, s4, s5⟩ := s
    refine ⟨zc_row h.1.1 (zc_cg s1 (fun x _ hx => e x (fun q => by rw [q] at hx; simp at hx) (fun q => by rw [q] at hx; simp at hx) (fun q => by rw [q] at hx; simp at hx) (fun q => by rw [q] at hx; simp at hx)) (by rw [p])) (fun k hk _ h5 h6 => k1 k (by omega) h5 h6), fun u hu => ?_, r4, r5, ?_⟩
    · have f1 : zTn N' u = zTn (M.1 (28, 0, 0)) u := by unfold zTn; rw [k1 _ (by omega) (by omega) (by omega)]
      have f2 : zTf N' u = zTf (M.1 (28, 0, 0)) u := by funext i; unfold zTf; rw [k1 _ (by omega) (by omega) (by omega)]
      rw [f1, f2]
      exact zlw_cg (s2 u hu) (e _ (by simp) (by simp) (by simp) (by simp)) (e _ (by simp) (by simp) (by simp) (by simp))
    · rw [r6, s5, k1 4 (by omega) (by omega) (by omega)]
  · refine e x ?_ ?_ ?_ ?_ <;> (rintro rfl; simp [zot, zst] at hx)
  · rw [p]
    exact h.2.2.2.2.2.1 c hc
  · rw [e28, e (29, 0, 0) (by simp) (by simp) (by simp) (by simp), e (30, 0, 0) (by simp) (by simp) (by simp) (by simp), k1 j (by omega) (by omega) (by omega)]
    exact h.2.2.2.2.2.2 j hj
theorem zT_trace (x1 : Int32) : zV (f_X9_trace x1) (f_X10_trace x1) := by
  intro M K hI hK
  obtain ⟨t1, t2, t3⟩ := hI.2.2.2.2.1.2.2.1
  have tc := zs_cl t1 (by decide)
  simp only [f_X9_trace, zf_X9_within]
  rw [tc.2]
  generalize hn : (M.1 (8, 0, 0) 1).toNatClampNeg = n at *
  have e15 : M.1 (27, 0, 0) 15 = nI n := by rw [← t2]; exact tc.2
  rcases (zw_cs x1 (n := n) (by omega)).symm with q1 | ⟨i, hi, rfl, q1⟩
  · rw [q1, if_pos rfl]
    exact zV_ff (R := f_X10_trace x1) (y := -1000000002) 2 rfl (by decide) (by decide) rfl hI hK (fun M1 K' h => by simp only [f_X10_trace, zf_X10_within, h (27, 0, 0) (by decide), e15, q1, if_true])
  · rw [q1, if_neg (by decide), zx_in (by omega) (by decide), nI_clamp (by omega), t3 i hi]
    simp only [f_X10_trace, zf_X10_within, e15, q1, zl_10, if_false]
    rw [zx_in (by omega) (by decide), nI_clamp (by omega)]
    exact hK _ _ hI
theorem zT_tell (x1 : Int32) : zV (f_X9_tell x1) (f_X10_tell x1) := by
  intro M K hI hK
  obtain ⟨w, hw, ew⟩ := hI.1.1.1.2.2.2.2
  have s := hI.2.2.1
  have s4 := s.2.2.2.1
  have c5 : M.1 (1, 0, 0) 5 = nI w := by rw [s4.1, ew]
  have v6 : vp_in 6 279 := vp_in_nI (n := 6) (by decide) (by decide)
  have f28 : ∀ (M1 : za_M), (∀ x : za_L, x.1 ≠ 24 → M1.1 x = M.1 x) → M1.1 (28, 0, 0) = M.1 (28, 0, 0) := fun M1 h => h (28, 0, 0) (by decide)
  simp only [f_X9_tell, za_let, c5]
  by_cases q : w < 20
  · rw [if_pos (show nI w < 20 from nI_lt (b := 20) q (by omega)), zx_in q (by decide), nI_clamp (by omega), za_up_oth _ _ _ (by decide), c5, nI_1]
    have r5 : (za_up (za_up M (16, 0, 0) w x1) (1, 0, 0) 5 (nI (w + 1))).1 (1, 0, 0) 5 = nI (w + 1) := by simp [zl_up]
    rw [r5]
    generalize hM1 : za_up (za_up M (16, 0, 0) w x1) (1, 0, 0) 5 (nI (w + 1)) = M1
    have o : M1.1 (28, 0, 0) = M.1 (28, 0, 0) := by rw [← hM1, za_up_oth _ _ _ (by decide), za_up_oth _ _ _ (by decide)]
    simp only [f_X10_tell, za_let]
    refine ⟨v6, ?_⟩
    rw [show Int32.toNatClampNeg 6 = 6 by decide, o, ew, if_neg (show ¬ nI w = 20 from fun z => by have := (nI_eq (a := w) (b := 20) (by omega) (by omega)).mp z; omega)]
    refine ⟨v6, ?_⟩
    rw [zl_lit 155, nI_add]
    refine ⟨vp_in_nI (by omega) (by decide), v6, v6, v6, ?_⟩
    have r7 : (za_up M1 (28, 0, 0) (155 + w) x1).1 (28, 0, 0) 6 = nI w := by
      rw [za_up_row, o, zu_ne (show 6 ≠ 155 + w by omega)]; exact ew
    rw [nI_clamp (by omega), r7, nI_1]
    have r6 : (za_up (za_up M1 (28, 0, 0) (155 + w) x1) (28, 0, 0) 6 (nI (w + 1))).1 (28, 0, 0) 6 = nI (w + 1) := by simp [zl_up]
    rw [r6]
    refine hK _ _ (zI_tp (N' := upd (upd (M.1 (28, 0, 0)) (155 + w) x1) 6 (nI (w + 1))) hI (zN_up5 (zN_far hI.1.1 (by omega)) (Or.inr (Or.inl ⟨rfl, zs_nI (by omega)⟩))) (by rw [za_up_row, za_up_row, o]) (fun k hk h5 h6 => by rw [zu_ne h6, zu_ne (by omega)]) ?_ ?_ ?_ (fun x a b c d => ?_) (by rw [← hM1]; rfl))
    · rw [zu_ne (show 5 ≠ 6 by decide), zu_ne (show 5 ≠ 155 + w by omega), ← hM1]
      refine ⟨by simp [zl_up, s.2.2.1.1], fun i hi => ?_⟩
      have hb := (zs_cl hI.1.1.1.2.2.2.1 (by decide)).1
      rw [zu_ne (show 105 + i ≠ 6 by omega), zu_ne (show 105 + i ≠ 155 + w by omega), za_up_oth _ _ _ (by decide), za_up_oth _ _ _ (by decide), za_up_oth _ _ _ (by decide), za_up_oth _ _ _ (by decide)]
      exact s.2.2.1.2 i hi
    · rw [zu_eq, ← hM1]
      refine ⟨by simp [zl_up], fun i hi => ?_⟩
      rw [nI_clamp (by omega)] at hi
      rw [zu_ne (show 155 + i ≠ 6 by omega), za_up_oth _ _ _ (by decide), za_up_oth _ _ _ (by decide), za_up_oth _ _ _ (by decide), za_up_row]
      by_cases z : i = w
      · rw [z, zu_eq, zu_eq]
      · rw [zu_ne z, zu_ne (by omega)]
        exact s4.2 i (by rw [ew, nI_clamp (by omega)]; omega)
    · rw [← hM1]; simp [zl_up]
    · rw [za_up_oth _ _ _ a, za_up_oth _ _ _ a, ← hM1, za_up_oth _ _ _ b, za_up_oth _ _ _ d]
  · rw [if_neg (show ¬ nI w < 20 from fun z => q ((nI_ltI (a := w) (b := 20) (by omega) (by omega)).mp z))]
    have e20 : w = 20 := by omega
    exact zV_ff (R := f_X10_tell x1) (y := -1000000004) 4 rfl (by decide) (by decide) rfl hI hK (fun M1 K' h => by simp only [f_X10_tell, za_let, eq_true v6, true_and, show Int32.toNatClampNeg 6 = 6 by decide, f28 M1 h, ew, e20, show (nI 20 = 20) = True from eq_true rfl, if_true])
/-- what laws give, and the row's -/
theorem zI_scr {M M2 : za_M} (h : zI M) (e : ∀ x : za_L, x.1 ≠ 18 → x.1 ≠ 34 → x.1 ≠ 35 → x.1 ≠ 25 → x.1 ≠ 26 → M2.1 x = M.1 x) (p : M2.2 = M.2) : zI M2 := by
  refine zI_cg h (fun x hx => e x ?_ ?_ ?_ ?_ ?_) (by rw [e (8, 0, 0) (by simp) (by simp) (by simp) (by simp) (by simp)]) (by rw [e (27, 0, 0) (by simp) (by simp) (by simp) (by simp) (by simp)]) (by rw [e (27, 0, 0) (by simp) (by simp) (by simp) (by simp) (by simp)]) (by rw [p]) (by rw [p]) ⟨by rw [p]; exact h.2.2.2.2.2.1, fun j hj => by rw [e (28, 0, 0) (by simp) (by simp) (by simp) (by simp) (by simp), e (29, 0, 0) (by simp) (by simp) (by simp) (by simp) (by simp), e (30, 0, 0) (by simp) (by simp) (by simp) (by simp) (by simp)]; exact h.2.2.2.2.2.2 j hj⟩ <;>
  (rcases hx with hx | hx | hx | hx
   · unfold zot at hx; omega
   · rw [hx]; decide
   · unfold zst at hx; omega
   · unfold zst at hx; omega)
theorem zT_law (x1 x2 x3 x4 : Int32) : zV (f_X9_law x1 x2 x3 x4) (f_X10_law x1 x2 x3 x4) := by
  intro M K hI hK
  simp only [f_X9_law, f_X9_isUse, zf_X9_within, eq_true (zw_B _ _ _), true_and]
  rcases (zw_cs x1 (n := 2) (by omega)).symm with q1 | ⟨u, hu, rfl, q1⟩
  · have q1 : zw x1 0 1 = 0 := q1
    rw [q1, if_pos rfl]
    exact zV_ff (R := f_X10_law x1 x2 x3 x4) (y := -1000000001) 1 rfl (by decide) (by decide) rfl hI hK (fun M1 K' h => by simp only [f_X10_law, zf_X10_within, q1, if_true])
  · have q1 : zw (nI u) 0 1 = 1 := q1
    rw [q1, if_neg (by decide), zx_in hu (by decide), nI_clamp (by omega)]
    refine zc_gives hu (hI.2.2.1.2.1 u hu) (fun M1 k1 => ?_)
    have o : M1.1 (28, 0, 0) = M.1 (28, 0, 0) := k1.1 _ (by decide)
    simp only [f_X10_law, zf_X10_within, q1, zl_10, if_false]
    refine zr_given hu (by rw [o]; exact hI.1.2 u hu) (fun M2 k2 => ?_)
    exact hK _ _ (zI_scr hI (fun x a b c _ _ => (k2.1 x (by simp [b, c])).trans (k1.1 x (by simp [a]))) (by rw [k2.2, k1.2]))
theorem zT_judge (x1 : Int32) : zV (f_X9_judge x1) (f_X10_judge x1) := by
  intro M K hI hK
  obtain ⟨nA, nP, nL, bA, bP, bL, rA, rP, rL, cA, cP, cL⟩ := zI_cnt hI
  simp only [f_X9_judge, f_X9_isSheet, zf_X9_within, eq_true (zw_B _ _ _), true_and, za_let]
  rcases (zw_cs x1 (n := 4) (by omega)).symm with q1 | ⟨q, hq, rfl, q1⟩
  · have q1 : zw x1 0 3 = 0 := q1
    rw [q1, if_pos rfl]
    exact zV_ff (R := f_X10_judge x1) (y := -1000000001) 1 rfl (by decide) (by decide) rfl hI hK (fun M1 K' h => by simp only [f_X10_judge, f_X10_isSheet, zf_X10_within, q1, za_B0, true_and, if_true])
  have q1 : zw (nI q) 0 3 = 1 := q1
  obtain ⟨h1, h2, h3, h4⟩ := hI.2.2.2.2.1.2.2.2 q hq
  have hz := zs_cl h3 (by decide)
  generalize hn : (M.1 (9, 0, q) 2).toNatClampNeg = n at *
  have e38 : M.1 (38, 0, 0) q = nI n := by rw [← h2]; exact hz.2
  have vq : vp_in (nI q) 4 := vp_in_nI hq (by decide)
  rw [q1, if_neg (by decide), zx_in hq (by decide), nI_clamp (by omega)]
  simp only [f_X6_isMissing]
  by_cases m : M.1 (9, 0, q) 1 = 0
  · rw [if_pos m, if_neg (by decide)]
    have m' : M.1 (37, 0, 0) q = 0 := by rw [← h1]; exact m
    exact zV_ff (R := f_X10_judge (nI q)) (y := -1000000002) 2 rfl (by decide) (by decide) rfl hI hK (fun M1 K' h => by simp only [f_X10_judge, f_X10_isSheet, zf_X10_within, q1, za_B1, true_and, zl_10, if_false, eq_true vq, nI_clamp (show q < 2 ^ 31 by omega), h (37, 0, 0) (by decide), m', if_true])
  rw [if_neg m, if_pos trivial, hz.2, cL, zmn (by omega) (by omega)]
  have m' : ¬ M.1 (37, 0, 0) q = 0 := by rw [← h1]; exact m
  have v3 : vp_in 3 279 := vp_in_nI (n := 3) (by decide) (by decide)
  have eix : ∀ i, 40 * nI q + nI i = nI (40 * q + i) := fun i => by rw [zl_lit 40, pk_mul, nI_add]
  -- the reference's loop stops at the same place
  have ref : ∀ (K' : Int32 → za_M → Prop) (t : Nat) (v : Int32), t ≤ n → t ≤ nL → (∀ i, i < t → M.1 (39, 0, 0) (40 * q + i) = M.1 (28, 0, 0) (58 + 5 * i)) → (t < n → t < nL → M.1 (39, 0, 0) (40 * q + t) ≠ M.1 (28, 0, 0) (58 + 5 * t)) → v = (if n = nL ∧ t = n then (-1) else nI t) → K' v M → f_X10_judge (nI q) M K' := by
    intro K' t v ht1 ht2 hall hstop hv hk
    simp only [f_X10_judge, f_X10_isSheet, zf_X10_within, q1, za_B1, true_and, zl_10, if_false]
    refine ⟨vq, ?_⟩
    rw [nI_clamp (by omega), if_neg m']
    have fin : f_X10_judge_b76 K' (nI q) (nI t) M := by
      simp only [f_X10_judge_b76, f_X10_judge_b100]
      refine ⟨vq, ?_⟩
      rw [nI_clamp (by omega), e38]
      by_cases z : t = n
      · rw [if_pos (by rw [z])]
        refine ⟨v3, ?_⟩
        rw [show Int32.toNatClampNeg 3 = 3 by decide, rL]
        by_cases y : t = nL
        · rw [if_pos (by rw [y])]
          rw [if_pos ⟨by omega, z⟩] at hv
          rw [← hv]; exact hk
        · rw [if_neg (by rw [nI_eq (by omega) (by omega)]; exact y)]
          rw [if_neg (by omega)] at hv
          rw [← hv]; exact hk
      · rw [if_neg (by rw [nI_eq (by omega) (by omega)]; exact z)]
        rw [if_neg (by omega)] at hv
        rw [← hv]; exact hk
    refine za_lp1_ind (fun s x M' => ∃ i, x = nI i ∧ i + s = t ∧ M' = M) ?_ ?_ t 0 M ⟨0, rfl, by omega, rfl⟩
    · intro x M' ⟨i, a1, a2, a3⟩ L
      subst a1; subst a3
      have ei : i = t := by omega
      subst ei
      unfold f_X10_judge_b32
      refine ⟨vq, ?_⟩
      rw [nI_clamp (by omega), e38]
      by_cases z : n ≤ i
      · rw [if_pos (nI_le z (by omega))]
        exact fin
      · rw [if_neg (by rw [nI_leI (by omega) (by omega)]; exact z), zq_rLoan, rL]
        by_cases y : i < nL
        · rw [zw_1 y (by omega), if_neg (by decide), eix]
          refine ⟨vp_in_nI (by omega) (by decide), ?_⟩
          rw [zq_loanIs (y := 3) i 3 rfl rfl (by omega), nI_clamp (by omega), show 55 + 5 * i + 3 = 58 + 5 * i by omega, if_neg (hstop (by omega) y)]
          exact fin
        · rw [zw_0 (by omega) (by omega), if_pos rfl]
          exact fin
    · intro s x M' ⟨i, a1, a2, a3⟩ L hL
      subst a1; subst a3
      unfold f_X10_judge_b32
      refine ⟨vq, ?_⟩
      rw [nI_clamp (by omega), e38, if_neg (by rw [nI_leI (by omega) (by omega)]; omega), zq_rLoan, rL, zw_1 (by omega) (by omega), if_neg (by decide), eix]
      refine ⟨vp_in_nI (by omega) (by decide), ?_⟩
      rw [zq_loanIs (y := 3) i 3 rfl rfl (by omega), nI_clamp (by omega), show 55 + 5 * i + 3 = 58 + 5 * i by omega, if_pos (hall i (by omega)), nI_1]
      exact hL _ _ ⟨i + 1, rfl, by omega, rfl⟩
  have key : ∀ (s : Nat) (x : Int32) (M' : za_M), (∃ i, x = nI i ∧ i + s = min n nL ∧ M' = M ∧ ∀ j, j < i → M.1 (39, 0, 0) (40 * q + j) = M.1 (28, 0, 0) (58 + 5 * j)) → ∃ r, za_lp1 (f_X9_judge_b54 (fun r1 M1 => f_X10_judge (nI q) M1 (fun r2 M2 => K r1 r2 M2)) q (nI (min n nL))) r x M' := by
    refine za_lp1_ind (fun s x M' => ∃ i, x = nI i ∧ i + s = min n nL ∧ M' = M ∧ ∀ j, j < i → M.1 (39, 0, 0) (40 * q + j) = M.1 (28, 0, 0) (58 + 5 * j)) ?_ ?_
    · intro x M' ⟨i, a1, a2, a3, a4⟩ L
      subst a1; subst a3
      unfold f_X9_judge_b54
      rw [if_pos (nI_le (by omega) (by omega)), hz.2, cL]
      by_cases z : n = nL
      · rw [if_pos (by rw [z])]
        exact ref _ i _ (by omega) (by omega) a4 (fun _ _ => by omega) (by rw [if_pos ⟨z, by omega⟩]) (hK _ _ hI)
      · rw [if_neg (by rw [nI_eq (by omega) (by omega)]; exact z)]
        exact ref _ i _ (by omega) (by omega) a4 (fun _ _ => by omega) (by rw [if_neg (by omega)]; congr 1; omega) (hK _ _ hI)
    · intro s x M' ⟨i, a1, a2, a3, a4⟩ L hL
      subst a1; subst a3
      unfold f_X9_judge_b54
      rw [if_neg (by rw [nI_leI (by omega) (by omega)]; omega), zx_in (by omega) (by decide), zx_in (by omega) (by decide), nI_clamp (by omega), h4 i (by omega), (hI.2.2.1.1.2.2.2.1 i (by rw [rL, nI_clamp (by omega)]; omega)).2.2.2.1]
      by_cases z : M'.1 (39, 0, 0) (40 * q + i) = M'.1 (28, 0, 0) (58 + 5 * i)
      · rw [if_pos z, nI_1]
        refine hL _ _ ⟨i + 1, rfl, by omega, rfl, fun j hj => ?_⟩
        by_cases y : j = i
        · rw [y]; exact z
        · exact a4 j (by omega)
      · rw [if_neg z]
        exact ref _ i _ (by omega) (by omega) a4 (fun _ _ => z) (by rw [if_neg (by omega)]) (hK _ _ hI)
  exact key _ _ _ ⟨0, rfl, Nat.zero_add _, rfl, fun j hj => by omega⟩

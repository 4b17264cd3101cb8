/-! single calls, five: count, ofPotter, ofLoan, ash, potter -/
theorem zq_cSum {c nP f : Nat} {N : Nat → Int32} {M : za_M} (h : zc c N M) (hP : N 2 = nI nP) (bP : nP < 5) (hf : f = 1 ∨ f = 2) : ∀ p, p < nP → M.1 (4, c, p) f = N (26 + f + 7 * p) := by
  intro p hp
  have q := h.2.2.1 p (by rw [hP, nI_clamp (by omega)]; exact hp)
  rcases hf with rfl | rfl
  · exact q.1
  · exact q.2.1
theorem zq_cPots {c nP : Nat} {N : Nat → Int32} {M : za_M} (h : zc c N M) (hP : N 2 = nI nP) (bP : nP < 5) {K : Int32 → za_M → Prop} (k : K (zsm (fun p => N (27 + 7 * p)) nP) M) : f_X1_potsOfAll c M K := by
  have e2 : M.1 (2, c, 0) 4 = nI nP := by rw [h.1.2.1, hP]
  refine zl_sum (n := nP) (f := fun p => N (27 + 7 * p)) (fun L => ?_) (fun i L hi hL => ?_)
  · unfold f_X1_potsOfAll_b4
    rw [e2, if_pos (nI_le (by omega) (by omega))]
    exact k
  · simp only [f_X1_potsOfAll_b4, za_let]
    rw [e2, if_neg (by rw [nI_leI (by omega) (by omega)]; omega), zx_in (by omega) (by decide), nI_clamp (by omega), zq_cSum (f := 1) h hP bP (Or.inl rfl) i hi, nI_1]
    exact hL
theorem zq_cBrk {c nP : Nat} {N : Nat → Int32} {M : za_M} (h : zc c N M) (hP : N 2 = nI nP) (bP : nP < 5) {K : Int32 → za_M → Prop} (k : K (zsm (fun p => N (28 + 7 * p)) nP) M) : f_X1_brokenOfAll c M K := by
  have e2 : M.1 (2, c, 0) 4 = nI nP := by rw [h.1.2.1, hP]
  refine zl_sum (n := nP) (f := fun p => N (28 + 7 * p)) (fun L => ?_) (fun i L hi hL => ?_)
  · unfold f_X1_brokenOfAll_b4
    rw [e2, if_pos (nI_le (by omega) (by omega))]
    exact k
  · simp only [f_X1_brokenOfAll_b4, za_let]
    rw [e2, if_neg (by rw [nI_leI (by omega) (by omega)]; omega), zx_in (by omega) (by decide), nI_clamp (by omega), zq_cSum (f := 2) h hP bP (Or.inr rfl) i hi, nI_1]
    exact hL
theorem zq_rPots {nP : Nat} {M : za_M} (hP : M.1 (28, 0, 0) 2 = nI nP) (bP : nP < 5) {K : Int32 → za_M → Prop} (k : K (zsm (fun p => M.1 (28, 0, 0) (27 + 7 * p)) nP) M) : f_X10_potsAll M K := by
  refine zl_sum (n := nP) (f := fun p => M.1 (28, 0, 0) (27 + 7 * p)) (fun L => ?_) (fun i L hi hL => ?_)
  · unfold f_X10_potsAll_b4
    refine ⟨vp_in_nI (n := 2) (by decide) (by decide), ?_⟩
    rw [show Int32.toNatClampNeg 2 = 2 by decide, hP, if_pos (nI_le (by omega) (by omega))]
    exact k
  · simp only [f_X10_potsAll_b4, za_let]
    refine ⟨vp_in_nI (n := 2) (by decide) (by decide), ?_⟩
    rw [show Int32.toNatClampNeg 2 = 2 by decide, hP, if_neg (by rw [nI_leI (by omega) (by omega)]; omega), zq_potterAt (y := 0) i 0 rfl rfl, zx_in (by omega) (by decide), nI_clamp (by omega), nI_1, Nat.add_zero]
    exact hL
theorem zq_rBrk {nP : Nat} {M : za_M} (hP : M.1 (28, 0, 0) 2 = nI nP) (bP : nP < 5) {K : Int32 → za_M → Prop} (k : K (zsm (fun p => M.1 (28, 0, 0) (28 + 7 * p)) nP) M) : f_X10_brokenAll M K := by
  refine zl_sum (n := nP) (f := fun p => M.1 (28, 0, 0) (28 + 7 * p)) (fun L => ?_) (fun i L hi hL => ?_)
  · unfold f_X10_brokenAll_b4
    refine ⟨vp_in_nI (n := 2) (by decide) (by decide), ?_⟩
    rw [show Int32.toNatClampNeg 2 = 2 by decide, hP, if_pos (nI_le (by omega) (by omega))]
    exact k
  · simp only [f_X10_brokenAll_b4, za_let]
    refine ⟨vp_in_nI (n := 2) (by decide) (by decide), ?_⟩
    rw [show Int32.toNatClampNeg 2 = 2 by decide, hP, if_neg (by rw [nI_leI (by omega) (by omega)]; omega), zq_potterAt (y := 1) i 1 rfl rfl, zx_in (by omega) (by decide), nI_clamp (by omega), nI_1, show 27 + 7 * i + 1 = 28 + 7 * i by omega]
    exact hL
theorem zT_count (x1 : Int32) : zV (f_X9_count x1) (f_X10_count x1) := by
  intro M K hI hK
  obtain ⟨nA, nP, nL, bA, bP, bL, rA, rP, rL, cA, cP, cL⟩ := zI_cnt hI
  have s := hI.2.2.1
  have v : ∀ n, n < 279 → vp_in (nI n) 279 := fun n h => vp_in_nI h (by decide)
  simp only [f_X9_count]
  by_cases w0 : x1 = 0
  · subst w0
    simp only [if_true, f_X10_count]
    exact ⟨v 1 (by decide), by rw [s.1.1.1]; exact hK _ _ hI⟩
  rw [if_neg w0]
  by_cases w1 : x1 = 1
  · subst w1
    simp only [if_true, f_X10_count, w0, if_false]
    exact ⟨v 2 (by decide), by rw [s.1.1.2.1]; exact hK _ _ hI⟩
  rw [if_neg w1]
  by_cases w2 : x1 = 2
  · subst w2
    simp only [if_true, f_X10_count, w0, w1, if_false]
    exact ⟨v 3 (by decide), by rw [s.1.1.2.2.1]; exact hK _ _ hI⟩
  rw [if_neg w2]
  by_cases w3 : x1 = 3
  · subst w3
    simp only [if_true, f_X10_count, w0, w1, w2, if_false]
    exact ⟨v 0 (by decide), by rw [s.1.1.2.2.2]; exact hK _ _ hI⟩
  rw [if_neg w3]
  by_cases w4 : x1 = 4
  · subst w4
    simp only [if_true, f_X10_count, w0, w1, w2, w3, if_false]
    exact zq_cPots s.1 rP bP (zq_rPots rP bP (hK _ _ hI))
  rw [if_neg w4]
  by_cases w5 : x1 = 5
  · subst w5
    simp only [if_true, f_X10_count, w0, w1, w2, w3, w4, if_false]
    exact zq_cBrk s.1 rP bP (zq_rBrk rP bP (hK _ _ hI))
  rw [if_neg w5]
  by_cases w6 : x1 = 6
  · subst w6
    simp only [if_true, f_X10_count, w0, w1, w2, w3, w4, w5, if_false]
    exact ⟨v 5 (by decide), by rw [s.2.2.1.1]; exact hK _ _ hI⟩
  rw [if_neg w6]
  by_cases w7 : x1 = 7
  · subst w7
    simp only [if_true, f_X10_count, w0, w1, w2, w3, w4, w5, w6, if_false]
    exact ⟨v 6 (by decide), by rw [s.2.2.2.1.1]; exact hK _ _ hI⟩
  rw [if_neg w7]
  by_cases w8 : x1 = 8
  · subst w8
    simp only [if_true, f_X10_count, w0, w1, w2, w3, w4, w5, w6, w7, if_false]
    rw [hI.2.2.2.2.1.2.2.1.2.1]
    exact hK _ _ hI
  rw [if_neg w8]
  by_cases w9 : x1 = 9
  · subst w9
    simp only [if_true, f_X10_count, w0, w1, w2, w3, w4, w5, w6, w7, w8, if_false]
    exact ⟨v 4 (by decide), by rw [s.2.2.2.2]; exact hK _ _ hI⟩
  rw [if_neg w9]
  exact zV_ff (R := f_X10_count x1) (y := -1000000001) 1 rfl (by decide) (by decide) rfl hI hK (fun M1 K' h => by simp only [f_X10_count, w0, w1, w2, w3, w4, w5, w6, w7, w8, w9, if_false])
theorem zT_ofLoan (x1 x2 : Int32) : zV (f_X9_ofLoan x1 x2) (f_X10_ofLoan x1 x2) := by
  intro M K hI hK
  obtain ⟨nA, nP, nL, bA, bP, bL, rA, rP, rL, cA, cP, cL⟩ := zI_cnt hI
  simp only [f_X9_ofLoan, zq_cLoan, cL]
  have f28 : ∀ (M1 : za_M), (∀ x : za_L, x.1 ≠ 24 → M1.1 x = M.1 x) → M1.1 (28, 0, 0) = M.1 (28, 0, 0) := fun M1 h => h (28, 0, 0) (by decide)
  rcases (zw_cs x1 (n := nL) (by omega)).symm with q1 | ⟨l, hl, rfl, q1⟩
  · rw [q1, if_pos rfl]
    exact zV_ff (R := f_X10_ofLoan x1 x2) (y := -1000000001) 1 rfl (by decide) (by decide) rfl hI hK (fun M1 K' h => by simp only [f_X10_ofLoan, f_X10_ofLoan_b26, zq_rLoan, f28 M1 h, rL, q1, if_true])
  rw [q1, if_neg (by decide), zx_in (by omega) (by decide), nI_clamp (by omega)]
  have hh := hI.2.2.1.1.2.2.2.1 l (by rw [rL, nI_clamp (by omega)]; exact hl)
  rcases (zw_cs x2 (n := 5) (by omega)).symm with q2 | ⟨f, hf, rfl, q2⟩
  · have w : ∀ k, k < 5 → ¬ x2 = nI k := fun k hk e => by
      rw [e, zw_1 hk (by decide)] at q2
      exact absurd q2 (by decide)
    have q2 : zw x2 0 4 = 0 := q2
    rw [if_neg (show ¬ x2 = 0 from w 0 (by decide)), if_neg (show ¬ x2 = 1 from w 1 (by decide)), if_neg (show ¬ x2 = 2 from w 2 (by decide)), if_neg (show ¬ x2 = 3 from w 3 (by decide)), if_neg (show ¬ x2 = 4 from w 4 (by decide))]
    exact zV_ff (R := f_X10_ofLoan (nI l) x2) (y := -1000000001) 1 rfl (by decide) (by decide) rfl hI hK (fun M1 K' h => by simp only [f_X10_ofLoan, f_X10_ofLoan_b26, zq_rLoan, zf_X10_within, f28 M1 h, rL, q1, q2, zl_10, if_true, if_false])
  · have q2 : zw (nI f) 0 4 = 1 := q2
    have ref : ∀ v, v = M.1 (28, 0, 0) (55 + 5 * l + f) → f_X10_ofLoan (nI l) (nI f) M (fun r2 M2 => K v r2 M2) := fun v hv => by
      simp only [f_X10_ofLoan, zq_rLoan, zf_X10_within, rL, q1, q2, zl_10, if_false]
      rw [zq_loanIs l f rfl rfl (by omega), hv]
      exact hK _ _ hI
    have hc : f = 0 ∨ f = 1 ∨ f = 2 ∨ f = 3 ∨ f = 4 := by omega
    rcases hc with rfl | rfl | rfl | rfl | rfl
    · rw [if_pos (show nI 0 = 0 from rfl)]
      exact ref _ hh.1
    · rw [if_neg (show ¬ nI 1 = 0 by decide), if_pos (show nI 1 = 1 from rfl)]
      exact ref _ (by rw [hh.2.1, show 55 + 5 * l + 1 = 56 + 5 * l by omega])
    · rw [if_neg (show ¬ nI 2 = 0 by decide), if_neg (show ¬ nI 2 = 1 by decide), if_pos (show nI 2 = 2 from rfl)]
      exact ref _ (by rw [hh.2.2.1, show 55 + 5 * l + 2 = 57 + 5 * l by omega])
    · rw [if_neg (show ¬ nI 3 = 0 by decide), if_neg (show ¬ nI 3 = 1 by decide), if_neg (show ¬ nI 3 = 2 by decide), if_pos (show nI 3 = 3 from rfl)]
      exact ref _ (by rw [hh.2.2.2.1, show 55 + 5 * l + 3 = 58 + 5 * l by omega])
    · rw [if_neg (show ¬ nI 4 = 0 by decide), if_neg (show ¬ nI 4 = 1 by decide), if_neg (show ¬ nI 4 = 2 by decide), if_neg (show ¬ nI 4 = 3 by decide), if_pos (show nI 4 = 4 from rfl)]
      exact ref _ (by rw [hh.2.2.2.2, show 55 + 5 * l + 4 = 59 + 5 * l by omega])
def zlo (N : Nat → Int32) (p : Nat) (l : Nat) : Int32 := if N (56 + 5 * l) = nI p then 1 else 0
def zow (N : Nat → Int32) (p : Nat) (l : Nat) : Int32 := if N (55 + 5 * l) = nI p then N (58 + 5 * l) else 0
theorem zT_ofPotter (x1 x2 : Int32) : zV (f_X9_ofPotter x1 x2) (f_X10_ofPotter x1 x2) := by
  intro M K hI hK
  obtain ⟨nA, nP, nL, bA, bP, bL, rA, rP, rL, cA, cP, cL⟩ := zI_cnt hI
  simp only [f_X9_ofPotter, zq_cPot, cP]
  have f28 : ∀ (M1 : za_M), (∀ x : za_L, x.1 ≠ 24 → M1.1 x = M.1 x) → M1.1 (28, 0, 0) = M.1 (28, 0, 0) := fun M1 h => h (28, 0, 0) (by decide)
  rcases (zw_cs x1 (n := nP) (by omega)).symm with q1 | ⟨p, hp, rfl, q1⟩
  · rw [q1, if_pos rfl]
    exact zV_ff (R := f_X10_ofPotter x1 x2) (y := -1000000001) 1 rfl (by decide) (by decide) rfl hI hK (fun M1 K' h => by simp only [f_X10_ofPotter, zq_rPot, f28 M1 h, rP, q1, if_true])
  rw [q1, if_neg (by decide)]
  have pP : p < (M.1 (28, 0, 0) 2).toNatClampNeg := by rw [rP, nI_clamp (by omega)]; exact hp
  have hh := hI.2.2.1.1.2.2.1 p pP
  have hl := hI.2.2.1.1.2.2.2.1
  have v3 : vp_in 3 279 := vp_in_nI (n := 3) (by decide) (by decide)
  have z3 : Int32.toNatClampNeg 3 = 3 := by decide
  rcases (zw_cs x2 (n := 4) (by omega)).symm with q2 | ⟨f, hf, rfl, q2⟩
  · have w : ∀ k, k < 4 → ¬ x2 = nI k := fun k hk e => by
      rw [e, zw_1 hk (by decide)] at q2
      exact absurd q2 (by decide)
    have q2 : zw x2 0 3 = 0 := q2
    rw [if_neg (show ¬ x2 = 0 from w 0 (by decide)), if_neg (show ¬ x2 = 1 from w 1 (by decide)), if_neg (show ¬ x2 = 2 from w 2 (by decide)), if_neg (show ¬ x2 = 3 from w 3 (by decide))]
    exact zV_ff (R := f_X10_ofPotter (nI p) x2) (y := -1000000001) 1 rfl (by decide) (by decide) rfl hI hK (fun M1 K' h => by simp only [f_X10_ofPotter, zq_rPot, zf_X10_within, f28 M1 h, rP, q1, q2, zl_10, if_true, if_false])
  · have q2 : zw (nI f) 0 3 = 1 := q2
    have hc : f = 0 ∨ f = 1 ∨ f = 2 ∨ f = 3 := by omega
    rcases hc with rfl | rfl | rfl | rfl
    · rw [if_pos (show nI 0 = 0 from rfl), zx_in (by omega) (by decide), nI_clamp (by omega), hh.1]
      simp only [f_X10_ofPotter, zq_rPot, zf_X10_within, rP, q1, q2, zl_10, if_false]
      rw [if_neg (show ¬ (2 : Int32) ≤ nI 0 by decide), zq_potterAt p 0 rfl rfl, zx_in (by omega) (by decide), nI_clamp (by omega)]
      exact hK _ _ hI
    · rw [if_neg (show ¬ nI 1 = 0 by decide), if_pos (show nI 1 = 1 from rfl), zx_in (by omega) (by decide), nI_clamp (by omega), hh.2.1]
      simp only [f_X10_ofPotter, zq_rPot, zf_X10_within, rP, q1, q2, zl_10, if_false]
      rw [if_neg (show ¬ (2 : Int32) ≤ nI 1 by decide), zq_potterAt p 1 rfl rfl, zx_in (by omega) (by decide), nI_clamp (by omega), show 27 + 7 * p + 1 = 28 + 7 * p by omega]
      exact hK _ _ hI
    · rw [if_neg (show ¬ nI 2 = 0 by decide), if_neg (show ¬ nI 2 = 1 by decide), if_pos (show nI 2 = 2 from rfl)]
      refine zl_sum (n := nL) (f := zlo (M.1 (28, 0, 0)) p) (fun L => ?_) (fun i L hi hL => ?_)
      · unfold f_X1_loansHeldBy_b4
        rw [cL, if_pos (nI_le (by omega) (by omega))]
        simp only [f_X10_ofPotter, f_X10_ofPotter_b54, zq_rPot, zf_X10_within, rP, q1, q2, zl_10, if_false]
        rw [if_pos (show (2 : Int32) ≤ nI 2 by decide), if_pos (show nI 2 = 2 from rfl)]
        refine zl_sum (n := nL) (f := zlo (M.1 (28, 0, 0)) p) (fun L => ?_) (fun i L hi hL => ?_)
        · unfold f_X10_loansOf_b5
          refine ⟨v3, ?_⟩
          rw [z3, rL, if_pos (nI_le (by omega) (by omega))]
          exact hK _ _ hI
        · simp only [f_X10_loansOf_b5, f_X10_loansOf_b48, za_let]
          refine ⟨v3, ?_⟩
          rw [z3, rL, if_neg (by rw [nI_leI (by omega) (by omega)]; omega), zq_loanIs (y := 1) i 1 rfl rfl (by omega), show 55 + 5 * i + 1 = 56 + 5 * i by omega, nI_1]
          have ez : zlo (M.1 (28, 0, 0)) p i = if M.1 (28, 0, 0) (56 + 5 * i) = nI p then 1 else 0 := rfl
          rw [ez] at hL
          by_cases z : M.1 (28, 0, 0) (56 + 5 * i) = nI p
          · rw [if_pos z]
            rw [if_pos z] at hL
            rw [if_pos trivial]
            exact hL
          · rw [if_neg z]
            rw [if_neg z] at hL
            exact hL
      · simp only [f_X1_loansHeldBy_b4, f_X1_loansHeldBy_b31, za_let]
        rw [cL, if_neg (by rw [nI_leI (by omega) (by omega)]; omega), zx_in (by omega) (by decide), nI_clamp (by omega), (hl i (by rw [rL, nI_clamp (by omega)]; exact hi)).2.1, nI_1]
        have ez : zlo (M.1 (28, 0, 0)) p i = if M.1 (28, 0, 0) (56 + 5 * i) = nI p then 1 else 0 := rfl
        rw [ez] at hL
        by_cases z : M.1 (28, 0, 0) (56 + 5 * i) = nI p
        · rw [if_pos z]
          rw [if_pos z] at hL
          exact hL
        · rw [if_neg z]
          rw [if_neg z] at hL
          exact hL
    · rw [if_neg (show ¬ nI 3 = 0 by decide), if_neg (show ¬ nI 3 = 1 by decide), if_neg (show ¬ nI 3 = 2 by decide), if_pos (show nI 3 = 3 from rfl)]
      refine zl_sum (n := nL) (f := zow (M.1 (28, 0, 0)) p) (fun L => ?_) (fun i L hi hL => ?_)
      · unfold f_X1_owedTo_b4
        rw [cL, if_pos (nI_le (by omega) (by omega))]
        simp only [f_X10_ofPotter, f_X10_ofPotter_b54, zq_rPot, zf_X10_within, rP, q1, q2, zl_10, if_false]
        rw [if_pos (show (2 : Int32) ≤ nI 3 by decide), if_neg (show ¬ nI 3 = 2 by decide)]
        refine zl_sum (n := nL) (f := zow (M.1 (28, 0, 0)) p) (fun L => ?_) (fun i L hi hL => ?_)
        · unfold f_X10_loansOf_b5
          refine ⟨v3, ?_⟩
          rw [z3, rL, if_pos (nI_le (by omega) (by omega))]
          exact hK _ _ hI
        · simp only [f_X10_loansOf_b5, f_X10_loansOf_b48, za_let]
          refine ⟨v3, ?_⟩
          rw [z3, rL, if_neg (by rw [nI_leI (by omega) (by omega)]; omega), zq_loanIs (y := 0) i 0 rfl rfl (by omega), Nat.add_zero, nI_1]
          have ez : zow (M.1 (28, 0, 0)) p i = if M.1 (28, 0, 0) (55 + 5 * i) = nI p then M.1 (28, 0, 0) (58 + 5 * i) else 0 := rfl
          rw [ez] at hL
          by_cases z : M.1 (28, 0, 0) (55 + 5 * i) = nI p
          · rw [if_pos z, if_neg (by decide), zq_loanIs (y := 3) i 3 rfl rfl (by omega), show 55 + 5 * i + 3 = 58 + 5 * i by omega]
            rw [if_pos z] at hL
            exact hL
          · rw [if_neg z]
            rw [if_neg z] at hL
            exact hL
      · simp only [f_X1_owedTo_b4, f_X1_owedTo_b39, za_let]
        have hi' := hl i (by rw [rL, nI_clamp (by omega)]; exact hi)
        rw [cL, if_neg (by rw [nI_leI (by omega) (by omega)]; omega), zx_in (by omega) (by decide), nI_clamp (by omega), hi'.1, hi'.2.2.2.1, nI_1]
        have ez : zow (M.1 (28, 0, 0)) p i = if M.1 (28, 0, 0) (55 + 5 * i) = nI p then M.1 (28, 0, 0) (58 + 5 * i) else 0 := rfl
        rw [ez] at hL
        by_cases z : M.1 (28, 0, 0) (55 + 5 * i) = nI p
        · rw [if_pos z]
          rw [if_pos z] at hL
          exact ⟨vp_in_nI (by omega) (by decide), hL⟩
        · rw [if_neg z]
          rw [if_neg z] at hL
          exact hL

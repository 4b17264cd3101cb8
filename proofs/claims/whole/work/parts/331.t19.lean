/-! single calls, eighteen: round -/
theorem zl_acc {body : (Int32 → Int32 → za_M → Prop) → Int32 → Int32 → za_M → Prop} {lo n : Nat} {f : Nat → Int32} {a0 : Int32} {M : za_M} (hx : ∀ L : Int32 → Int32 → za_M → Prop, body L (a0 + zsm f n) (nI (lo + n)) M) (hs : ∀ (i : Nat) (L : Int32 → Int32 → za_M → Prop), i < n → L (a0 + zsm f i + f i) (nI (lo + i) + 1) M → body L (a0 + zsm f i) (nI (lo + i)) M) : ∃ q, za_lp2 body q a0 (nI lo) M := by
  refine za_lp2_ind (fun k x2 x3 M' => ∃ i, i + k = n ∧ x2 = a0 + zsm f i ∧ x3 = nI (lo + i) ∧ M' = M) ?_ ?_ n a0 (nI lo) M ⟨0, by omega, by rw [zsm, Int32.add_zero], rfl, rfl⟩
  · intro x2 x3 M' ⟨i, e1, e2, e3, e4⟩ L
    subst e2; subst e3; subst e4
    rw [show i = n by omega]
    exact hx L
  · intro k x2 x3 M' ⟨i, e1, e2, e3, e4⟩ L hL
    subst e2; subst e3; subst e4
    exact hs i L (by omega) (hL _ _ _ ⟨i + 1, by omega, by rw [zsm, Int32.add_assoc], by rw [nI_1, show lo + i + 1 = lo + (i + 1) by omega], rfl⟩)
def zlbt (N : Nat → Int32) (f t s : Int32) (l : Nat) : Int32 := if N (55 + 5 * l) = f ∧ N (56 + 5 * l) = t ∧ N (57 + 5 * l) = s then N (58 + 5 * l) else 0
theorem zc_lb {c nL : Nat} {N : Nat → Int32} {M : za_M} {f t s : Int32} {K : Int32 → za_M → Prop} (h : zc c N M) (hL : N 3 = nI nL) (bL : nL < 11) (k : K (zsm (zlbt N f t s) nL) M) : f_X1_lentBetween c f t s M K := by
  unfold f_X1_lentBetween
  have cL : M.1 (2, c, 0) 5 = nI nL := by rw [h.1.2.2.1, hL]
  refine zl_sum (n := nL) (f := zlbt N f t s) (fun L => ?_) (fun i L hi hL' => ?_)
  · unfold f_X1_lentBetween_b6
    rw [cL, if_pos (nI_le (by omega) (by omega))]
    exact k
  · have hh := h.2.2.2.1 i (by rw [hL, nI_clamp (by omega)]; exact hi)
    have w : zlbt N f t s i = if N (55 + 5 * i) = f ∧ N (56 + 5 * i) = t ∧ N (57 + 5 * i) = s then N (58 + 5 * i) else 0 := by rw [zlbt]
    unfold f_X1_lentBetween_b6 f_X1_lentBetween_b61 f_X1_lentBetween_b62
    rw [cL, if_neg (by rw [nI_leI (by omega) (by omega)]; omega), zx_in (by omega) (by decide), nI_clamp (by omega), hh.1, hh.2.1, hh.2.2.1, hh.2.2.2.1, za_letE, za_letE, nI_1]
    by_cases a : N (55 + 5 * i) = f
    · rw [if_pos a]
      by_cases b : N (56 + 5 * i) = t
      · rw [if_pos b]
        by_cases d : N (57 + 5 * i) = s
        · rw [if_pos d]
          rw [w, if_pos ⟨a, b, d⟩] at hL'
          exact hL'
        · rw [if_neg d]
          rw [w, if_neg (fun q => d q.2.2)] at hL'
          exact hL'
      · rw [if_neg b]
        rw [w, if_neg (fun q => b q.2.1)] at hL'
        exact hL'
    · rw [if_neg a]
      rw [w, if_neg (fun q => a q.1)] at hL'
      exact hL'
theorem zr_lb {nL : Nat} {N : Nat → Int32} {M : za_M} {f t s : Int32} {K : Int32 → za_M → Prop} (e28 : M.1 (28, 0, 0) = N) (hL : N 3 = nI nL) (bL : nL < 11) (k : K (zsm (zlbt N f t s) nL) M) : f_X10_has t f s M K := by
  have v3 : vp_in 3 279 := vp_in_nI (n := 3) (by decide) (by decide)
  have z3 : Int32.toNatClampNeg 3 = 3 := by decide
  unfold f_X10_has
  refine zl_sum (n := nL) (f := zlbt N f t s) (fun L => ?_) (fun i L hi hL' => ?_)
  · unfold f_X10_has_b6
    rw [z3, e28, hL, if_pos (nI_le (by omega) (by omega))]
    exact ⟨v3, k⟩
  · have w : zlbt N f t s i = if N (55 + 5 * i) = f ∧ N (56 + 5 * i) = t ∧ N (57 + 5 * i) = s then N (58 + 5 * i) else 0 := by rw [zlbt]
    unfold f_X10_has_b6 f_X10_has_b62 f_X10_has_b63
    rw [z3, e28, hL, if_neg (by rw [nI_leI (by omega) (by omega)]; omega), zq_loanIs (y := 1) i 1 rfl rfl (by omega), e28, za_letE, nI_1, show 55 + 5 * i + 1 = 56 + 5 * i by omega]
    refine ⟨v3, ?_⟩
    by_cases b : N (56 + 5 * i) = t
    · rw [if_pos b, zq_loanIs (y := 0) i 0 rfl rfl (by omega), e28, Nat.add_zero]
      by_cases a : N (55 + 5 * i) = f
      · rw [if_pos a, zq_loanIs (y := 2) i 2 rfl rfl (by omega), e28, show 55 + 5 * i + 2 = 57 + 5 * i by omega]
        by_cases d : N (57 + 5 * i) = s
        · rw [if_pos d, zq_loanIs (y := 3) i 3 rfl rfl (by omega), e28, show 55 + 5 * i + 3 = 58 + 5 * i by omega, za_letE]
          rw [w, if_pos ⟨a, b, d⟩] at hL'
          exact hL'
        · rw [if_neg d]
          rw [w, if_neg (fun q => d q.2.2)] at hL'
          exact hL'
      · rw [if_neg a]
        rw [w, if_neg (fun q => a q.1)] at hL'
        exact hL'
    · rw [if_neg b]
      rw [w, if_neg (fun q => b q.2.1)] at hL'
      exact hL'
def zrT (N : Nat → Int32) (nL a b s : Nat) : Int32 := za_min (zsm (zlbt N (nI a) (nI b) (nI s)) nL) (zsm (zlbt N (nI b) (nI a) (nI s)) nL)
theorem zmin_c (x y : Int32) : za_min x y = za_min y x := by
  unfold za_min
  by_cases a : y < x
  · rw [if_pos a, if_neg (fun q => absurd a (Int32.not_lt.mpr (Int32.le_of_lt q)))]
  · rw [if_neg a]
    by_cases b : x < y
    · rw [if_pos b]
    · rw [if_neg b]
      exact Int32.le_antisymm (Int32.not_lt.mp a) (Int32.not_lt.mp b)
theorem zsm_add (f g : Nat → Int32) : ∀ n, zsm (fun i => f i + g i) n = zsm f n + zsm g n := by
  intro n
  induction n with
  | zero => simp only [zsm, Int32.add_zero]
  | succ n ih =>
    simp only [zsm, ih]
    ac_rfl
theorem zsm_0 : ∀ n, zsm (fun _ => 0) n = 0 := by
  intro n
  induction n with
  | zero => rfl
  | succ n ih => rw [zsm, ih, Int32.add_zero]
def zrc_c (N : Nat → Int32) (nL nP nA : Nat) : Int32 := zsm (fun s => zsm (fun j => zsm (fun a => zrT N nL a (1 + j) s) (1 + j)) (nP - 1)) nA
def zrc_r (N : Nat → Int32) (nL nP nA : Nat) : Int32 := zsm (fun a => zsm (fun j => zsm (fun s => zrT N nL a (a + 1 + j) s) nA) (nP - (a + 1))) nP
theorem zrc_e (N : Nat → Int32) (nL nA : Nat) {nP : Nat} (h : nP < 5) : zrc_c N nL nP nA = zrc_r N nL nP nA := by
  have hc : nP = 0 ∨ nP = 1 ∨ nP = 2 ∨ nP = 3 ∨ nP = 4 := by omega
  unfold zrc_c zrc_r
  rcases hc with rfl | rfl | rfl | rfl | rfl
  · simp only [zsm, zsm_0, Nat.zero_sub]
  · simp only [zsm, zsm_0, Int32.add_zero, Int32.zero_add, Nat.reduceSub, Nat.reduceAdd]
  · simp only [zsm, zsm_0, Int32.add_zero, Int32.zero_add, Nat.reduceSub, Nat.reduceAdd]
  · simp only [zsm, zsm_0, zsm_add, Int32.add_zero, Int32.zero_add, Nat.reduceSub, Nat.reduceAdd]
    ac_rfl
  · simp only [zsm, zsm_0, zsm_add, Int32.add_zero, Int32.zero_add, Nat.reduceSub, Nat.reduceAdd]
    ac_rfl
theorem zT_round : zV f_X9_round f_X10_round := by
  intro M K hI hK
  obtain ⟨nA, nP, nL, bA, bP, bL, rA, rP, rL, cA, cP, cL⟩ := zI_cnt hI
  have c := hI.2.2.1.1
  have v1 : vp_in 1 279 := vp_in_nI (n := 1) (by decide) (by decide)
  have v2 : vp_in 2 279 := vp_in_nI (n := 2) (by decide) (by decide)
  have z2 : Int32.toNatClampNeg 2 = 2 := by decide
  have ref : f_X10_round M (fun r2 M2 => K (zrc_c (M.1 (28, 0, 0)) nL nP nA) r2 M2) := by
    unfold f_X10_round
    refine zl_acc (lo := 0) (n := nP) (a0 := 0) (f := fun a => zsm (fun j => zsm (fun s => zrT (M.1 (28, 0, 0)) nL a (a + 1 + j) s) nA) (nP - (a + 1))) (fun L => ?_) (fun a L ha hL => ?_)
    · unfold f_X10_round_b4
      rw [z2, rP, Nat.zero_add, if_pos (nI_le (by omega) (by omega)), Int32.zero_add]
      refine ⟨v2, ?_⟩
      have := zrc_e (M.1 (28, 0, 0)) nL nA bP
      rw [show zsm (fun a => zsm (fun j => zsm (fun s => zrT (M.1 (28, 0, 0)) nL a (a + 1 + j) s) nA) (nP - (a + 1))) nP = zrc_r (M.1 (28, 0, 0)) nL nP nA by rw [zrc_r], ← this]
      exact hK _ _ hI
    · unfold f_X10_round_b4
      rw [z2, rP, Nat.zero_add, if_neg (by rw [nI_leI (by omega) (by omega)]; omega), za_letE, nI_1]
      rw [Nat.zero_add, nI_1] at hL
      refine ⟨v2, zl_acc (lo := a + 1) (n := nP - (a + 1)) (f := fun j => zsm (fun s => zrT (M.1 (28, 0, 0)) nL a (a + 1 + j) s) nA) (fun L2 => ?_) (fun j L2 hj hL2 => ?_)⟩
      · unfold f_X10_round_b18
        rw [z2, rP, if_pos (nI_le (by omega) (by omega)), nI_1]
        exact ⟨v2, hL⟩
      · unfold f_X10_round_b18
        rw [z2, rP, if_neg (by rw [nI_leI (by omega) (by omega)]; omega)]
        refine ⟨v2, zl_acc (lo := 0) (n := nA) (f := fun s => zrT (M.1 (28, 0, 0)) nL a (a + 1 + j) s) (fun L3 => ?_) (fun s L3 hs hL3 => ?_)⟩
        · unfold f_X10_round_b31
          rw [zZ1, rA, Nat.zero_add, if_pos (nI_le (by omega) (by omega))]
          exact ⟨v1, hL2⟩
        · unfold f_X10_round_b31
          rw [zZ1, rA, Nat.zero_add, if_neg (by rw [nI_leI (by omega) (by omega)]; omega)]
          refine ⟨v1, zr_lb rfl rL bL (zr_lb rfl rL bL ?_)⟩
          rw [za_letE, zmin_c]
          rw [Nat.zero_add] at hL3
          exact hL3
  unfold f_X9_round
  refine zl_acc (lo := 0) (n := nA) (a0 := 0) (f := fun s => zsm (fun j => zsm (fun a => zrT (M.1 (28, 0, 0)) nL a (1 + j) s) (1 + j)) (nP - 1)) (fun L => ?_) (fun s L hs hL => ?_)
  · unfold f_X9_round_b12
    rw [cA, Nat.zero_add, if_pos (nI_le (by omega) (by omega)), Int32.zero_add]
    rw [show zsm (fun s => zsm (fun j => zsm (fun a => zrT (M.1 (28, 0, 0)) nL a (1 + j) s) (1 + j)) (nP - 1)) nA = zrc_c (M.1 (28, 0, 0)) nL nP nA by rw [zrc_c]]
    exact ref
  · unfold f_X9_round_b12
    rw [cA, Nat.zero_add, if_neg (by rw [nI_leI (by omega) (by omega)]; omega)]
    rw [Nat.zero_add] at hL
    refine zl_acc (lo := 1) (n := nP - 1) (f := fun j => zsm (fun a => zrT (M.1 (28, 0, 0)) nL a (1 + j) s) (1 + j)) (fun L2 => ?_) (fun j L2 hj hL2 => ?_)
    · unfold f_X9_round_b23
      rw [cP, if_pos (nI_le (by omega) (by omega))]
      exact hL
    · unfold f_X9_round_b23
      rw [cP, if_neg (by rw [nI_leI (by omega) (by omega)]; omega)]
      refine zl_acc (lo := 0) (n := 1 + j) (f := fun a => zrT (M.1 (28, 0, 0)) nL a (1 + j) s) (fun L3 => ?_) (fun a L3 ha hL3 => ?_)
      · unfold f_X9_round_b35
        rw [Nat.zero_add, if_pos (nI_le (by omega) (by omega))]
        exact hL2
      · unfold f_X9_round_b35
        rw [Nat.zero_add, if_neg (by rw [nI_leI (by omega) (by omega)]; omega)]
        rw [Nat.zero_add] at hL3
        refine zc_lb c rL bL (zc_lb c rL bL ?_)
        rw [za_letE]
        exact hL3

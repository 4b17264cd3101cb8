/-! single calls, two: sums, kinds under kinds, reads -/
def zsm (f : Nat → Int32) : Nat → Int32
  | 0 => 0
  | n+1 => zsm f n + f n
theorem zl_sum {body : (Int32 → Int32 → za_M → Prop) → Int32 → Int32 → za_M → Prop} {n : Nat} {f : Nat → Int32} {M : za_M} (hx : ∀ L : Int32 → Int32 → za_M → Prop, body L (zsm f n) (nI n) M) (hs : ∀ (i : Nat) (L : Int32 → Int32 → za_M → Prop), i < n → L (zsm f i + f i) (nI (i + 1)) M → body L (zsm f i) (nI i) M) : ∃ q, za_lp2 body q 0 0 M := by
  refine za_lp2_ind (fun k x2 x3 M' => ∃ i, i + k = n ∧ x2 = zsm f i ∧ x3 = nI i ∧ M' = M) ?_ ?_ n 0 0 M ⟨0, by omega, rfl, rfl, rfl⟩
  · intro x2 x3 M' ⟨i, e1, e2, e3, e4⟩ L
    subst e2; subst e3; subst e4
    rw [show i = n by omega]
    exact hx L
  · intro k x2 x3 M' ⟨i, e1, e2, e3, e4⟩ L hL
    subst e2; subst e3; subst e4
    exact hs i L (by omega) (hL _ _ _ ⟨i + 1, by omega, rfl, rfl, rfl⟩)
theorem zq_bush {c a nP : Nat} {N : Nat → Int32} {M : za_M} (h : zc c N M) (hP : N 2 = nI nP) (bP : nP < 5) (ha : a < 5) {K : Int32 → za_M → Prop} (k : K (zsm (fun p => N (29 + 7 * p + a)) nP) M) : f_X1_bushelsOfAll c (nI a) M K := by
  unfold f_X1_bushelsOfAll
  have e2 : M.1 (2, c, 0) 4 = nI nP := by rw [h.1.2.1, hP]
  refine zl_sum (n := nP) (f := fun p => N (29 + 7 * p + a)) (fun L => ?_) (fun i L hi hL => ?_)
  · unfold f_X1_bushelsOfAll_b4
    rw [e2, if_pos (nI_le (by omega) (by omega))]
    exact k
  · simp only [f_X1_bushelsOfAll_b4, za_let]
    rw [e2, if_neg (by rw [nI_leI (by omega) (by omega)]; omega), zx_in (by omega) (by decide), zx_in (by omega) (by decide), nI_clamp (by omega), nI_clamp (by omega), (h.2.2.1 i (by rw [hP, nI_clamp (by omega)]; exact hi)).2.2 a ha, nI_1]
    exact hL
theorem zq_allOf {a nP : Nat} {M : za_M} (hP : M.1 (28, 0, 0) 2 = nI nP) (bP : nP < 5) (ha : a < 5) {K : Int32 → za_M → Prop} (k : K (zsm (fun p => M.1 (28, 0, 0) (29 + 7 * p + a)) nP) M) : f_X10_allOf (nI a) M K := by
  unfold f_X10_allOf
  refine zl_sum (n := nP) (f := fun p => M.1 (28, 0, 0) (29 + 7 * p + a)) (fun L => ?_) (fun i L hi hL => ?_)
  · unfold f_X10_allOf_b4
    refine ⟨vp_in_nI (n := 2) (by decide) (by decide), ?_⟩
    rw [show Int32.toNatClampNeg 2 = 2 by decide, hP, if_pos (nI_le (by omega) (by omega))]
    exact k
  · simp only [f_X10_allOf_b4, za_let]
    refine ⟨vp_in_nI (n := 2) (by decide) (by decide), ?_⟩
    rw [show Int32.toNatClampNeg 2 = 2 by decide, hP, if_neg (by rw [nI_leI (by omega) (by omega)]; omega), zq_storeAt i a rfl rfl, zx_in (by omega) (by decide), nI_clamp (by omega), nI_1]
    exact hL
/-- kinds -/
def zab (k : Nat) : Nat := if k = 4 then 1 else if k = 5 then 2 else if k = 6 then 3 else 0
def zun (k t : Nat) : Int32 := if k = t ∨ zab k = t ∨ zab (zab k) = t then 1 else 0
theorem za_t0_k {k : Nat} (h : k < 7) : za_t0 k = if k = 0 then (-1) else nI (zab k) := by
  have hc : k = 0 ∨ k = 1 ∨ k = 2 ∨ k = 3 ∨ k = 4 ∨ k = 5 ∨ k = 6 := by omega
  rcases hc with rfl | rfl | rfl | rfl | rfl | rfl | rfl <;> decide
theorem zq_un1 {k t s : Nat} (hk : k < 7) (ht : t < 7) (hs : s < 7) {M : za_M} {K : Int32 → za_M → Prop} {L : Int32 → Int32 → za_M → Prop} (h1 : k = t → K 1 M) (h2 : k ≠ t → L (if k = 0 then (-1) else nI (zab k)) (nI (s + 1)) M) : f_X9_isUnder_b4 K (nI t) L (nI k) (nI s) M := by
  simp only [f_X9_isUnder_b4, za_let, zf_X9_within]
  have hw : zw (nI k) 0 6 = 1 := zw_1 (n := 7) hk (by decide)
  rw [zl_lit 7, if_neg (by rw [nI_leI (by omega) (by omega)]; omega), hw, if_neg (by decide)]
  by_cases q : k = t
  · rw [if_pos (by rw [q])]
    exact h1 q
  · rw [if_neg (by rw [nI_eq (by omega) (by omega)]; exact q), zx_in hk (by decide), nI_clamp (by omega), za_t0_k hk, nI_1]
    exact h2 q
theorem zq_un2 {t s : Nat} (hs : s < 7) {M : za_M} {K : Int32 → za_M → Prop} {L : Int32 → Int32 → za_M → Prop} (h1 : K 0 M) : f_X9_isUnder_b4 K (nI t) L (-1) (nI s) M := by
  simp only [f_X9_isUnder_b4, za_let, zf_X9_within]
  have hw : zw (-1) 0 6 = 0 := by decide
  rw [zl_lit 7, if_neg (by rw [nI_leI (by omega) (by omega)]; omega), hw, if_pos rfl]
  exact h1
theorem zab_lt {k : Nat} (h : k < 7) : zab k < 4 := by
  unfold zab
  split
  · omega
  · split
    · omega
    · split <;> omega
theorem zab_2 {k : Nat} (h : k < 4) : zab k = 0 := by
  unfold zab
  rw [if_neg (by omega), if_neg (by omega), if_neg (by omega)]
theorem zq_cUnder {k t : Nat} (hk : k < 7) (ht : t < 7) {M : za_M} {K : Int32 → za_M → Prop} (h : K (zun k t) M) : f_X9_isUnder (nI k) (nI t) M K := by
  unfold zun at h
  refine ⟨4, ?_⟩
  refine zq_un1 (s := 0) hk ht (by decide) (fun q => by rw [if_pos (Or.inl q)] at h; exact h) (fun q => ?_)
  by_cases z : k = 0
  · rw [if_pos z]
    have hz : zab k = 0 := zab_2 (by omega)
    rw [hz, show zab 0 = 0 from rfl, if_neg (by omega)] at h
    exact zq_un2 (s := 1) (by decide) h
  · rw [if_neg z]
    have hk2 := zab_lt hk
    refine zq_un1 (s := 1) (by omega) ht (by decide) (fun q2 => by rw [if_pos (Or.inr (Or.inl q2))] at h; exact h) (fun q2 => ?_)
    have hz2 := zab_2 hk2
    rw [hz2] at h ⊢
    by_cases z2 : zab k = 0
    · rw [if_pos z2]
      rw [if_neg (by omega)] at h
      exact zq_un2 (s := 2) (by decide) h
    · rw [if_neg z2]
      refine zq_un1 (k := 0) (s := 2) (by decide) ht (by decide) (fun q3 => by rw [if_pos (Or.inr (Or.inr q3))] at h; exact h) (fun q3 => ?_)
      rw [if_pos rfl]
      rw [if_neg (by omega)] at h
      exact zq_un2 (s := 3) (by decide) h
theorem zq_above {k : Nat} (hk : k < 7) (M : za_M) (K : Int32 → za_M → Prop) : f_X10_above (nI k) M K = K (if k = 0 then (-1) else nI (zab k)) M := by
  unfold f_X10_above
  have hc : k = 0 ∨ k = 1 ∨ k = 2 ∨ k = 3 ∨ k = 4 ∨ k = 5 ∨ k = 6 := by omega
  rcases hc with rfl | rfl | rfl | rfl | rfl | rfl | rfl <;> simp (config := { decide := true }) only [if_true, if_false] <;> rfl
theorem zq_un3 {k t : Nat} (hk : k < 7) (ht : t < 7) {M : za_M} {K : Int32 → za_M → Prop} {L : Int32 → za_M → Prop} (h1 : k = t → K 1 M) (h2 : k ≠ t → L (if k = 0 then (-1) else nI (zab k)) M) : f_X10_isUnder_b2 K (nI t) L (nI k) M := by
  simp only [f_X10_isUnder_b2, f_X10_isUnder_b19]
  rw [if_neg (nI_pos (by omega))]
  by_cases q : k = t
  · rw [if_pos (by rw [q]), if_neg (nI_pos (by omega))]
    exact h1 q
  · rw [if_neg (by rw [nI_eq (by omega) (by omega)]; exact q), zq_above hk]
    exact h2 q
theorem zq_un4 {t : Nat} {M : za_M} {K : Int32 → za_M → Prop} {L : Int32 → za_M → Prop} (h1 : K 0 M) : f_X10_isUnder_b2 K (nI t) L (-1) M := by
  simp only [f_X10_isUnder_b2, f_X10_isUnder_b19]
  rw [if_pos (by decide), if_pos (by decide)]
  exact h1
theorem zq_rUnder {k t : Nat} (hk : k < 7) (ht : t < 7) {M : za_M} {K : Int32 → za_M → Prop} (h : K (zun k t) M) : f_X10_isUnder (nI k) (nI t) M K := by
  unfold zun at h
  refine ⟨4, ?_⟩
  refine zq_un3 hk ht (fun q => by rw [if_pos (Or.inl q)] at h; exact h) (fun q => ?_)
  by_cases z : k = 0
  · rw [if_pos z]
    have hz : zab k = 0 := zab_2 (by omega)
    rw [hz, show zab 0 = 0 from rfl, if_neg (by omega)] at h
    exact zq_un4 h
  · rw [if_neg z]
    have hk2 := zab_lt hk
    refine zq_un3 (by omega) ht (fun q2 => by rw [if_pos (Or.inr (Or.inl q2))] at h; exact h) (fun q2 => ?_)
    have hz2 := zab_2 hk2
    rw [hz2] at h ⊢
    by_cases z2 : zab k = 0
    · rw [if_pos z2]
      rw [if_neg (by omega)] at h
      exact zq_un4 h
    · rw [if_neg z2]
      refine zq_un3 (k := 0) (by decide) ht (fun q3 => by rw [if_pos (Or.inr (Or.inr q3))] at h; exact h) (fun q3 => ?_)
      rw [if_pos rfl]
      rw [if_neg (by omega)] at h
      exact zq_un4 h

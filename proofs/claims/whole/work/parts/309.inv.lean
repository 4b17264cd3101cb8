/-! the invariant of class and reference, and what keeps it -/
def zS (c : Nat) (N : Nat → Int32) (M : za_M) : Prop :=
  zc c N M ∧ (∀ u, u < 2 → zlw c u (zTn N u) (zTf N u) M) ∧
  (M.1 (1, c, 0) 4 = N 5 ∧ ∀ i, i < (N 5).toNatClampNeg → M.1 (15, c, 0) i = N (105 + i)) ∧
  (M.1 (1, c, 0) 5 = N 6 ∧ ∀ i, i < (N 6).toNatClampNeg → M.1 (16, c, 0) i = N (155 + i)) ∧ M.1 (1, c, 0) 6 = N 4
/-- no row of loans stands at two places -/
def zj (M : za_M) : Prop := (∀ c, c < 3 → ∀ i j, i < 10 → j < 10 → M.2 c i % 10 = M.2 c j % 10 → i = j) ∧ ∀ j, 279 ≤ j → M.1 (29, 0, 0) j = M.1 (28, 0, 0) j ∧ M.1 (30, 0, 0) j = M.1 (28, 0, 0) j
def zI (M : za_M) : Prop := (zN (M.1 (28, 0, 0)) ∧ zT (M.1 (28, 0, 0))) ∧ (zN (M.1 (29, 0, 0)) ∧ zT (M.1 (29, 0, 0))) ∧ zS 0 (M.1 (28, 0, 0)) M ∧ ((M.1 (0, 0, 0) 9 = 0 ∧ ∀ u, u < 2 → M.1 (6, 1, u) 0 = nI u) ∨ zS 1 (M.1 (29, 0, 0)) M) ∧ zo M ∧ zj M
/-- the rows of a state of the class -/
def zst (c : Nat) (x : za_L) : Prop := x.2.1 = c ∧ (x.1 = 1 ∨ x.1 = 2 ∨ x.1 = 3 ∨ x.1 = 4 ∨ x.1 = 5 ∨ x.1 = 6 ∨ x.1 = 13 ∨ x.1 = 15 ∨ x.1 = 16 ∨ x.1 = 17)
/-- the rows beside the states and now -/
def zot (x : za_L) : Prop := x.1 = 0 ∨ x.1 = 9 ∨ x.1 = 21 ∨ x.1 = 23 ∨ x.1 = 24 ∨ x.1 = 29 ∨ x.1 = 31 ∨ x.1 = 36 ∨ x.1 = 37 ∨ x.1 = 38 ∨ x.1 = 39
theorem zlw_cg {c u n : Nat} {f : Nat → Nat} {M M' : za_M} (h : zlw c u n f M) (e6 : M'.1 (6, c, u) = M.1 (6, c, u)) (e17 : M'.1 (17, c, u) = M.1 (17, c, u)) : zlw c u n f M' := by
  unfold zlw
  rw [e6, e17]
  exact h
theorem zS_cg {c : Nat} {N : Nat → Int32} {M M' : za_M} (h : zS c N M) (e : ∀ x, zst c x → M'.1 x = M.1 x) (p : M'.2 c = M.2 c) : zS c N M' := by
  obtain ⟨h1, h2, h3, h4, h5⟩ := h
  refine ⟨zc_cg h1 (fun x hc hx => e x ⟨hc, by omega⟩) p, fun u hu => zlw_cg (h2 u hu) (e _ ⟨rfl, by simp⟩) (e _ ⟨rfl, by simp⟩), ?_, ?_, ?_⟩
  · rw [e (1, c, 0) ⟨rfl, by simp⟩, e (15, c, 0) ⟨rfl, by simp⟩]
    exact h3
  · rw [e (1, c, 0) ⟨rfl, by simp⟩, e (16, c, 0) ⟨rfl, by simp⟩]
    exact h4
  · rw [e (1, c, 0) ⟨rfl, by simp⟩]
    exact h5
theorem zo_cg {M M' : za_M} (h : zo M) (e : ∀ x, zot x → M'.1 x = M.1 x) (e8 : M'.1 (8, 0, 0) 1 = M.1 (8, 0, 0) 1) (e3 : M'.1 (27, 0, 0) 3 = M.1 (27, 0, 0) 3) (e15 : M'.1 (27, 0, 0) 15 = M.1 (27, 0, 0) 15) : zo M' := by
  unfold zo
  rw [e (24, 0, 0) (by simp [zot]), e (31, 0, 0) (by simp [zot]), e (0, 0, 0) (by simp [zot]), e (21, 0, 0) (by simp [zot]), e (36, 0, 0) (by simp [zot]), e (37, 0, 0) (by simp [zot]), e (38, 0, 0) (by simp [zot]), e (39, 0, 0) (by simp [zot]), e8, e3, e15]
  obtain ⟨h1, h2, h3, h4⟩ := h
  refine ⟨h1, h2, h3, fun q hq => ?_⟩
  rw [e (9, 0, q) (by simp [zot]), e (23, 0, q) (by simp [zot])]
  exact h4 q hq
/-- nothing that the invariant speaks of has changed -/
theorem zI_cg {M M' : za_M} (h : zI M) (e : ∀ x, zot x ∨ x = (28, 0, 0) ∨ zst 0 x ∨ zst 1 x → M'.1 x = M.1 x) (e8 : M'.1 (8, 0, 0) 1 = M.1 (8, 0, 0) 1) (e3 : M'.1 (27, 0, 0) 3 = M.1 (27, 0, 0) 3) (e15 : M'.1 (27, 0, 0) 15 = M.1 (27, 0, 0) 15) (p0 : M'.2 0 = M.2 0) (p1 : M'.2 1 = M.2 1) (pj : zj M') : zI M' := by
  obtain ⟨h1, h2, h3, h4, h5, h6⟩ := h
  have e28 := e (28, 0, 0) (by simp)
  have e29 := e (29, 0, 0) (by simp [zot])
  have e0 := e (0, 0, 0) (by simp [zot])
  unfold zI
  rw [e28, e29, e0]
  exact ⟨h1, h2, zS_cg h3 (fun x hx => e x (Or.inr (Or.inr (Or.inl hx)))) p0, h4.imp (fun q => ⟨q.1, fun u hu => by rw [e (6, 1, u) (Or.inr (Or.inr (Or.inr ⟨rfl, by simp⟩)))]; exact q.2 u hu⟩) (fun q => zS_cg q (fun x hx => e x (Or.inr (Or.inr (Or.inr hx)))) p1), zo_cg h5 (fun x hx => e x (Or.inl hx)) e8 e3 e15, pj⟩
/-- now and the class's state have changed, nothing else -/
theorem zI_now {M M' : za_M} (h : zI M) (n : zN (M'.1 (28, 0, 0))) (t : zT (M'.1 (28, 0, 0))) (s : zS 0 (M'.1 (28, 0, 0)) M') (e : ∀ x, zot x ∨ zst 1 x → M'.1 x = M.1 x) (e8 : M'.1 (8, 0, 0) 1 = M.1 (8, 0, 0) 1) (e3 : M'.1 (27, 0, 0) 3 = M.1 (27, 0, 0) 3) (e15 : M'.1 (27, 0, 0) 15 = M.1 (27, 0, 0) 15) (p1 : M'.2 1 = M.2 1) (pj : zj M') : zI M' := by
  obtain ⟨h1, h2, h3, h4, h5, h6⟩ := h
  have e29 := e (29, 0, 0) (by simp [zot])
  have e0 := e (0, 0, 0) (by simp [zot])
  unfold zI
  rw [e29, e0]
  exact ⟨⟨n, t⟩, h2, s, h4.imp (fun q => ⟨q.1, fun u hu => by rw [e (6, 1, u) (Or.inr ⟨rfl, by simp⟩)]; exact q.2 u hu⟩) (fun q => zS_cg q (fun x hx => e x (Or.inr hx)) p1), zo_cg h5 (fun x hx => e x (Or.inl hx)) e8 e3 e15, pj⟩
/-- class and reference, one behind the other -/
def zV (f r : za_M → (Int32 → za_M → Prop) → Prop) : Prop := ∀ (M : za_M) (K : Int32 → Int32 → za_M → Prop), zI M → (∀ v M', zI M' → K v v M') → f M (fun r1 M1 => r M1 (fun r2 M2 => K r1 r2 M2))
theorem zf_fail {x : Int32} (k : Nat) (hx : x = nI k) (h1 : 1 ≤ k) (h5 : k ≤ 5) (M : za_M) (K : Int32 → za_M → Prop) : f_X9_fail x M K = K ((-1000000000) - nI k) (za_up M (24, 0, 0) k (M.1 (24, 0, 0) k + 1)) := by
  subst hx
  unfold f_X9_fail za_let
  rw [zf_X9_within]
  try dsimp only
  have hw : zw (nI k) 1 5 = 1 := by
    have hc : k = 1 ∨ k = 2 ∨ k = 3 ∨ k = 4 ∨ k = 5 := by omega
    rcases hc with rfl | rfl | rfl | rfl | rfl <;> decide
  rw [hw, if_neg (by decide), zx_in (by omega) (by decide), zx_in (by omega) (by decide), nI_clamp (by omega)]
theorem zf_find {x : Int32} (k : Nat) (hx : x = (-1000000000) - nI k) (h1 : 1 ≤ k) (h5 : k ≤ 5) (M : za_M) (K : Int32 → za_M → Prop) : f_X10_finding x M K = K x (za_up M (31, 0, 0) k (M.1 (31, 0, 0) k + 1)) := by
  unfold f_X10_finding za_let
  have hw : (-1000000000) - x = nI k := by
    have hc : k = 1 ∨ k = 2 ∨ k = 3 ∨ k = 4 ∨ k = 5 := by omega
    subst hx
    rcases hc with rfl | rfl | rfl | rfl | rfl <;> decide
  rw [hw, zx_in (by omega) (by decide)]
  dsimp only
  rw [zx_in (by omega) (by decide), nI_clamp (by omega)]
theorem zI_err {M : za_M} {k : Nat} (h : zI M) (hk : k ≤ 5) : zI (za_up (za_up M (24, 0, 0) k (M.1 (24, 0, 0) k + 1)) (31, 0, 0) k ((za_up M (24, 0, 0) k (M.1 (24, 0, 0) k + 1)).1 (31, 0, 0) k + 1)) := by
  obtain ⟨h1, h2, h3, h4, h5, h6⟩ := h
  generalize hv : M.1 (24, 0, 0) k + 1 = v
  have ev : (za_up M (24, 0, 0) k v).1 (31, 0, 0) k + 1 = v := by
    rw [za_up_oth _ _ _ (by decide), ← hv, h5.1 k (by omega)]
  rw [ev]
  have o : ∀ x : za_L, x.1 ≠ 24 → x.1 ≠ 31 → (za_up (za_up M (24, 0, 0) k v) (31, 0, 0) k v).1 x = M.1 x := fun x a b => by rw [za_up_oth _ _ _ (fun e => b (by rw [e])), za_up_oth _ _ _ (fun e => a (by rw [e]))]
  have e31 : (za_up (za_up M (24, 0, 0) k v) (31, 0, 0) k v).1 (31, 0, 0) = upd (M.1 (31, 0, 0)) k v := by rw [za_up_row, za_up_oth _ _ _ (by decide)]
  have e24 : (za_up (za_up M (24, 0, 0) k v) (31, 0, 0) k v).1 (24, 0, 0) = upd (M.1 (24, 0, 0)) k v := by rw [za_up_oth _ _ _ (by decide), za_up_row]
  have p : (za_up (za_up M (24, 0, 0) k v) (31, 0, 0) k v).2 = M.2 := rfl
  generalize za_up (za_up M (24, 0, 0) k v) (31, 0, 0) k v = M' at o e31 e24 p ⊢
  have os : ∀ c x, zst c x → M'.1 x = M.1 x := fun c x hx => o x (by have := hx.2; omega) (by have := hx.2; omega)
  unfold zI
  rw [o (28, 0, 0) (by decide) (by decide), o (29, 0, 0) (by decide) (by decide), o (0, 0, 0) (by decide) (by decide)]
  refine ⟨h1, h2, zS_cg h3 (os 0) (by rw [p]), h4.imp (fun q => ⟨q.1, fun u hu => by rw [os 1 (6, 1, u) ⟨rfl, by simp⟩]; exact q.2 u hu⟩) (fun q => zS_cg q (os 1) (by rw [p])), ?_, by unfold zj; rw [p, o (28, 0, 0) (by decide) (by decide), o (29, 0, 0) (by decide) (by decide), o (30, 0, 0) (by decide) (by decide)]; exact h6⟩
  unfold zo
  obtain ⟨a1, a2, a3, a4⟩ := h5
  rw [e24, e31, o (0, 0, 0) (by decide) (by decide), o (27, 0, 0) (by decide) (by decide), o (8, 0, 0) (by decide) (by decide), o (21, 0, 0) (by decide) (by decide), o (36, 0, 0) (by decide) (by decide), o (37, 0, 0) (by decide) (by decide), o (38, 0, 0) (by decide) (by decide), o (39, 0, 0) (by decide) (by decide)]
  refine ⟨fun j hj => ?_, a2, a3, fun q hq => ?_⟩
  · unfold upd
    rw [a1 j hj]
  · rw [o (9, 0, q) (by simp) (by simp), o (23, 0, q) (by simp) (by simp)]
    exact a4 q hq
/-- both fail alike -/
theorem zV_fail {x y : Int32} (k : Nat) (hx : x = nI k) (hy : y = (-1000000000) - nI k) (h1 : 1 ≤ k) (h5 : k ≤ 5) {M : za_M} {K : Int32 → Int32 → za_M → Prop} (h : zI M) (hK : ∀ v M', zI M' → K v v M') : f_X9_fail x M (fun r1 M1 => f_X10_finding y M1 (fun r2 M2 => K r1 r2 M2)) := by
  rw [zf_fail k hx h1 h5, zf_find k hy h1 h5, hy]
  exact hK _ _ (zI_err h h5)
/-- is x a number below n, as both sides ask -/
theorem zw_cs (x : Int32) {n : Nat} (hn : n < 2 ^ 31) : (∃ k, k < n ∧ x = nI k ∧ zw x 0 (nI n - 1) = 1) ∨ zw x 0 (nI n - 1) = 0 := zw_of hn
theorem zq_cAsh (c : Nat) (x : Int32) (M : za_M) (K : Int32 → za_M → Prop) : f_X1_hasAsh c x M K = K (zw x 0 (M.1 (2, c, 0) 3 - 1)) M := by
  unfold f_X1_hasAsh
  rw [zf_X9_within, eq_true (zw_B _ _ _), true_and]
theorem zq_cPot (c : Nat) (x : Int32) (M : za_M) (K : Int32 → za_M → Prop) : f_X1_hasPotter c x M K = K (zw x 0 (M.1 (2, c, 0) 4 - 1)) M := by
  unfold f_X1_hasPotter
  rw [zf_X9_within, eq_true (zw_B _ _ _), true_and]
theorem zq_cLoan (c : Nat) (x : Int32) (M : za_M) (K : Int32 → za_M → Prop) : f_X1_hasLoan c x M K = K (zw x 0 (M.1 (2, c, 0) 5 - 1)) M := by
  unfold f_X1_hasLoan
  rw [zf_X9_within, eq_true (zw_B _ _ _), true_and]
theorem zq_rAsh (x : Int32) (M : za_M) (K : Int32 → za_M → Prop) : f_X10_isAsh x M K = K (zw x 0 (M.1 (28, 0, 0) 1 - 1)) M := by
  unfold f_X10_isAsh
  rw [show vp_in 1 279 = True from eq_true (vp_in_nI (n := 1) (by decide) (by decide)), true_and, show Int32.toNatClampNeg 1 = 1 by decide, zf_X10_within, eq_true (zw_B _ _ _), true_and]
theorem zq_rPot (x : Int32) (M : za_M) (K : Int32 → za_M → Prop) : f_X10_isPotter x M K = K (zw x 0 (M.1 (28, 0, 0) 2 - 1)) M := by
  unfold f_X10_isPotter
  rw [show vp_in 2 279 = True from eq_true (vp_in_nI (n := 2) (by decide) (by decide)), true_and, show Int32.toNatClampNeg 2 = 2 by decide, zf_X10_within, eq_true (zw_B _ _ _), true_and]
theorem zq_rLoan (x : Int32) (M : za_M) (K : Int32 → za_M → Prop) : f_X10_isLoan x M K = K (zw x 0 (M.1 (28, 0, 0) 3 - 1)) M := by
  unfold f_X10_isLoan
  rw [show vp_in 3 279 = True from eq_true (vp_in_nI (n := 3) (by decide) (by decide)), true_and, show Int32.toNatClampNeg 3 = 3 by decide, zf_X10_within, eq_true (zw_B _ _ _), true_and]

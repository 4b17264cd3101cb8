/-! L3: what class and reference hold, in numbers; rows of numbers read and put -/
theorem zl_lit (n : Nat) : (OfNat.ofNat n : Int32) = nI n := rfl
theorem zl_up (M : za_M) (x : za_L) (k : Nat) (v : Int32) (y : za_L) (j : Nat) : (za_up M x k v).1 y j = if y = x ∧ j = k then v else M.1 y j := rfl
theorem zl_up2 (M : za_M) (x : za_L) (k : Nat) (v : Int32) : (za_up M x k v).2 = M.2 := rfl
theorem zl_uf (M : za_M) (x : za_L) (f : Nat → Int32) (y : za_L) (j : Nat) : (za_uf M x f).1 y j = if y = x then f j else M.1 y j := rfl
theorem zl_uf2 (M : za_M) (x : za_L) (f : Nat → Int32) : (za_uf M x f).2 = M.2 := rfl
theorem zl_uq1 (M : za_M) (c k v : Nat) : (za_uq M c k v).1 = M.1 := rfl
theorem zl_uq (M : za_M) (c k v d j : Nat) : (za_uq M c k v).2 d j = if d = c ∧ j = k then v else M.2 d j := rfl
/-- a number below b -/
def zs (x : Int32) (b : Nat) : Prop := ∃ n, n < b ∧ x = nI n
theorem zs_cl {x : Int32} {b : Nat} (h : zs x b) (hb : b ≤ 2 ^ 31) : x.toNatClampNeg < b ∧ x = nI x.toNatClampNeg := by
  obtain ⟨n, h1, rfl⟩ := h
  rw [nI_clamp (by omega)]
  exact ⟨h1, rfl⟩
theorem zs_nI {n b : Nat} (h : n < b) : zs (nI n) b := ⟨n, h, rfl⟩
theorem zs_le {x : Int32} {a b : Nat} (h : zs x a) (hab : a ≤ b) : zs x b := by
  obtain ⟨n, h1, h2⟩ := h
  exact ⟨n, by omega, h2⟩
/-- what the reference's row of numbers keeps to -/
def zN (N : Nat → Int32) : Prop :=
  (zs (N 1) 6 ∧ zs (N 2) 5 ∧ zs (N 3) 11 ∧ zs (N 5) 51 ∧ zs (N 6) 21) ∧
  (∀ a, a < 5 → zs (N (7 + 4 * a)) 7 ∧ zs (N (8 + 4 * a)) 10 ∧ zs (N (9 + 4 * a)) 10 ∧ zs (N (10 + 4 * a)) 4) ∧
  (∀ p, p < 4 → zs (N (27 + 7 * p)) 10000 ∧ zs (N (28 + 7 * p)) 100 ∧ ∀ a, a < 5 → zs (N (29 + 7 * p + a)) 1000 ∧ ((N 1).toNatClampNeg ≤ a → N (29 + 7 * p + a) = nI 0)) ∧
  (∀ l, l < (N 3).toNatClampNeg → zs (N (55 + 5 * l)) (N 2).toNatClampNeg ∧ zs (N (56 + 5 * l)) (N 2).toNatClampNeg ∧ zs (N (57 + 5 * l)) (N 1).toNatClampNeg ∧ zs (N (58 + 5 * l)) 100 ∧ N (55 + 5 * l) ≠ N (56 + 5 * l)) ∧
  (∀ i, i < 50 → zs (N (105 + i)) 256)
/-- county c of the class is as the row N tells -/
def zc (c : Nat) (N : Nat → Int32) (M : za_M) : Prop :=
  (M.1 (2, c, 0) 3 = N 1 ∧ M.1 (2, c, 0) 4 = N 2 ∧ M.1 (2, c, 0) 5 = N 3 ∧ M.1 (2, c, 0) 6 = N 0) ∧
  (∀ a, a < (N 1).toNatClampNeg → M.1 (3, c, a) 0 = N (7 + 4 * a) ∧ M.1 (3, c, a) 1 = N (8 + 4 * a) ∧ M.1 (3, c, a) 2 = N (9 + 4 * a) ∧ M.1 (3, c, a) 3 = N (10 + 4 * a)) ∧
  (∀ p, p < (N 2).toNatClampNeg → M.1 (4, c, p) 1 = N (27 + 7 * p) ∧ M.1 (4, c, p) 2 = N (28 + 7 * p) ∧ ∀ a, a < 5 → M.1 (13, c, p) a = N (29 + 7 * p + a)) ∧
  (∀ l, l < (N 3).toNatClampNeg → M.1 (5, c, M.2 c l % 10) 0 = N (55 + 5 * l) ∧ M.1 (5, c, M.2 c l % 10) 1 = N (56 + 5 * l) ∧ M.1 (5, c, M.2 c l % 10) 2 = N (57 + 5 * l) ∧ M.1 (5, c, M.2 c l % 10) 3 = N (58 + 5 * l) ∧ M.1 (5, c, M.2 c l % 10) 4 = N (59 + 5 * l)) ∧
  (∀ i j, i < 10 → j < 10 → M.2 c i % 10 = M.2 c j % 10 → i = j)
/-- of the class's cells and the reference's, what stands beside counties, laws, tape: errors, images, trace, sheets -/
def zo (M : za_M) : Prop :=
  (∀ k, k < 6 → M.1 (24, 0, 0) k = M.1 (31, 0, 0) k) ∧ M.1 (0, 0, 0) 9 = M.1 (27, 0, 0) 3 ∧
  (zs (M.1 (8, 0, 0) 1) 41 ∧ M.1 (8, 0, 0) 1 = M.1 (27, 0, 0) 15 ∧ ∀ i, i < (M.1 (8, 0, 0) 1).toNatClampNeg → M.1 (21, 0, 0) i = M.1 (36, 0, 0) i) ∧
  (∀ q, q < 4 → M.1 (9, 0, q) 1 = M.1 (37, 0, 0) q ∧ M.1 (9, 0, q) 2 = M.1 (38, 0, 0) q ∧ zs (M.1 (9, 0, q) 2) 41 ∧ ∀ i, i < (M.1 (9, 0, q) 2).toNatClampNeg → M.1 (23, 0, q) i = M.1 (39, 0, 0) (40 * q + i))
/-! pure helpers -/
def zw (x a b : Int32) : Int32 := if x < a then 0 else if b < x then 0 else 1
theorem za_B0 : za_B 0 = True := eq_true (Or.inl rfl)
theorem za_B1 : za_B 1 = True := eq_true (Or.inr rfl)
theorem zw_B (x a b : Int32) : za_B (zw x a b) := by
  unfold zw
  split
  · exact Or.inl rfl
  · split
    · exact Or.inl rfl
    · exact Or.inr rfl
theorem zf_X9_within (x a b : Int32) (M : za_M) (K : Int32 → za_M → Prop) : f_X9_within x a b M K = K (zw x a b) M := by
  unfold f_X9_within f_X9_within_b14 zw
  split <;> (try split) <;> rfl
theorem zf_X10_within (x a b : Int32) (M : za_M) (K : Int32 → za_M → Prop) : f_X10_within x a b M K = K (zw x a b) M := by
  unfold f_X10_within f_X10_within_b14 zw
  split <;> (try split) <;> rfl
theorem zw_of {x : Int32} {n : Nat} (hn : n < 2 ^ 31) : (∃ k, k < n ∧ x = nI k ∧ zw x 0 (nI n - 1) = 1) ∨ zw x 0 (nI n - 1) = 0 := by
  unfold zw
  by_cases h : x < 0
  · rw [if_pos h]
    exact Or.inr rfl
  · rw [if_neg h]
    by_cases h2 : nI n - 1 < x
    · rw [if_pos h2]
      exact Or.inr rfl
    · rw [if_neg h2]
      obtain ⟨k, hk, rfl⟩ := nI_of h
      refine Or.inl ⟨k, ?_, rfl, rfl⟩
      cases n with
      | zero => exact absurd (show nI 0 - 1 < nI k by rw [Int32.lt_iff_toInt_lt, nI_toInt hk]; have : (nI 0 - 1).toInt = -1 := by decide
                                                      omega) h2
      | succ n =>
        rw [nI_pred, nI_ltI (by omega) hk] at h2
        omega

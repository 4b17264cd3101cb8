/-! colours: what both sides work out -/
theorem zrem_i (x : Int32) : (x - x / 10 * 10).toInt = x.toInt.tmod 10 := by
  have r1 := Int32.le_toInt x
  have r2 := Int32.toInt_lt x
  have e10 : (10 : Int32).toInt = 10 := by decide
  have t := Int.mul_tdiv_add_tmod x.toInt 10
  have m1 := Int.tmod_lt_of_pos x.toInt (show (0 : Int) < 10 by decide)
  have m2 := Int.lt_tmod_of_pos x.toInt (show (0 : Int) < 10 by decide)
  have d : (x / 10).toInt = x.toInt.tdiv 10 := by rw [Int32.toInt_div_of_ne_right _ _ (by decide), e10]
  have b : -2 ^ 31 ≤ x.toInt.tdiv 10 * 10 ∧ x.toInt.tdiv 10 * 10 < 2 ^ 31 := by
    by_cases z : 0 ≤ x.toInt
    · have := Int.tmod_nonneg 10 z
      omega
    · have h1 := Int.tmod_nonneg 10 (show 0 ≤ -x.toInt by omega)
      rw [Int.neg_tmod] at h1
      omega
  rw [Int32.toInt_sub, Int32.toInt_mul, d, e10, Int.bmod_eq_of_le (n := x.toInt.tdiv 10 * 10) (by omega) (by omega), Int.bmod_eq_of_le (by omega) (by omega)]
  omega
def zrest (x : Int32) : Int32 := if 0 ≤ x - x / 10 * 10 then x - x / 10 * 10 else x - x / 10 * 10 + 10
theorem zrest_zs (x : Int32) : zs (zrest x) 10 := by
  have e := zrem_i x
  have m1 := Int.tmod_lt_of_pos x.toInt (show (0 : Int) < 10 by decide)
  have m2 := Int.lt_tmod_of_pos x.toInt (show (0 : Int) < 10 by decide)
  unfold zrest
  by_cases z : 0 ≤ x - x / 10 * 10
  · rw [if_pos z]
    obtain ⟨j, hj, ej⟩ := nI_of (Int32.not_lt.mpr z)
    refine ⟨j, ?_, ej⟩
    rw [ej, nI_toInt hj] at e
    omega
  · rw [if_neg z]
    have z' : (x - x / 10 * 10).toInt < 0 := by
      have := Int32.lt_iff_toInt_lt.mp (Int32.not_le.mp z)
      simpa using this
    have e2 : (x - x / 10 * 10 + 10).toInt = x.toInt.tmod 10 + 10 := by
      rw [Int32.toInt_add, e, show (10 : Int32).toInt = 10 by decide, Int.bmod_eq_of_le (by omega) (by omega)]
    have hn : ¬ x - x / 10 * 10 + 10 < 0 := by
      intro q
      have := Int32.lt_iff_toInt_lt.mp q
      rw [e2, show (0 : Int32).toInt = 0 by decide] at this
      omega
    obtain ⟨j, hj, ej⟩ := nI_of hn
    refine ⟨j, ?_, ej⟩
    rw [ej, nI_toInt hj] at e2
    omega
theorem zq_cRest (x : Int32) (M : za_M) (K : Int32 → za_M → Prop) : f_X9_restByTen x M K = K (zrest x) M := by
  unfold f_X9_restByTen zrest
  rw [za_letE]
  by_cases z : 0 ≤ x - x / 10 * 10
  · rw [if_pos z, if_pos z]
  · rw [if_neg z, if_neg z]
theorem zq_rRest (x : Int32) (M : za_M) (K : Int32 → za_M → Prop) : f_X10_rest x M K = K (zrest x) M := by
  unfold f_X10_rest zrest
  by_cases z : 0 ≤ x - x / 10 * 10
  · rw [if_pos z, if_pos z]
  · rw [if_neg z, if_neg z]
/-- the colour of ash a at heat h -/
def zco (kind v m straw h : Int32) : Int32 := if kind = 1 then v + 1 else if kind = 2 then v * 2 else if kind = 3 then straw else if kind = 4 then (v + 1) + h else if kind = 5 then v * 2 - m else if kind = 6 then 9 - straw else v
def zcol (N : Nat → Int32) (a h : Nat) : Int32 := zco (N (7 + 4 * a)) (zgN N 0 (N (8 + 4 * a)) (N (7 + 4 * a)) (nI h)) (N (8 + 4 * a)) (if 5 ≤ nI h then N (8 + 4 * a) else zgN N 0 (N (8 + 4 * a)) (N (7 + 4 * a)) (nI h)) (nI h)
theorem zcol_cg {N N' : Nat → Int32} (e : ∀ k, (7 ≤ k ∧ k < 27) ∨ 175 ≤ k → N' k = N k) {a : Nat} (ha : a < 5) (h : Nat) : zcol N' a h = zcol N a h := by
  have t := zTu_cg (fun k hk => e k (Or.inr hk)) 0
  unfold zcol zgN
  rw [t.1, t.2, e (7 + 4 * a) (by omega), e (8 + 4 * a) (by omega)]
theorem zq_cCol35 {a h : Nat} {v s : Int32} {M : za_M} {kd m : Int32} (hk : M.1 (3, 0, a) 0 = kd) (hm : M.1 (3, 0, a) 1 = m) (K : Int32 → za_M → Prop) : f_X9_colourOfAsh_b35 K 0 a (nI h) v s M = K (zco kd v m s (nI h)) M := by
  unfold f_X9_colourOfAsh_b35 zco
  rw [hk, hm]
  by_cases h1 : kd = 1
  · rw [if_pos h1, if_pos h1]
  rw [if_neg h1, if_neg h1]
  by_cases h2 : kd = 2
  · rw [if_pos h2, if_pos h2]
  rw [if_neg h2, if_neg h2]
  by_cases h3 : kd = 3
  · rw [if_pos h3, if_pos h3]
  rw [if_neg h3, if_neg h3]
  by_cases h4 : kd = 4
  · rw [if_pos h4, if_pos h4]
  rw [if_neg h4, if_neg h4]
  by_cases h5 : kd = 5
  · rw [if_pos h5, if_pos h5]
  rw [if_neg h5, if_neg h5]
  by_cases h6 : kd = 6
  · rw [if_pos h6, if_pos h6]
  rw [if_neg h6, if_neg h6]
theorem zq_cCol {N : Nat → Int32} {M : za_M} {a h : Nat} {K : Int32 → za_M → Prop} (hc : zc 0 N M) (hl : zlw 0 0 (zTn N 0) (zTf N 0) M) (ha : a < (N 1).toNatClampNeg) (k : ∀ M', zk [18] M M' → K (zcol N a h) M') : f_X9_colourOfAsh 0 a (nI h) M K := by
  have hh := hc.2.1 a ha
  unfold f_X9_colourOfAsh
  refine ⟨vp_in_nI (n := 0) (by decide) (by decide), ?_⟩
  rw [show Int32.toNatClampNeg 0 = 0 by decide, hh.1, hh.2.1]
  refine zc_gives (by decide) hl (fun M1 k1 => ?_)
  have e : M1.1 (3, 0, a) = M.1 (3, 0, a) := k1.1 _ (by simp)
  have := k M1 k1
  unfold zcol zgN at this
  by_cases z : 5 ≤ nI h
  · rw [if_pos z] at this ⊢
    rw [e, hh.2.1, zq_cCol35 (kd := N (7 + 4 * a)) (m := N (8 + 4 * a)) (by rw [e]; exact hh.1) (by rw [e]; exact hh.2.1)]
    exact this
  · rw [if_neg z] at this ⊢
    rw [zq_cCol35 (kd := N (7 + 4 * a)) (m := N (8 + 4 * a)) (by rw [e]; exact hh.1) (by rw [e]; exact hh.2.1)]
    exact this
theorem zq_rCol33 {a h : Nat} {v m s : Int32} {M : za_M} (ha : a < 5) (K : Int32 → za_M → Prop) : f_X10_colourOf_b33 K (nI a) (nI h) m v s M = K (zco (M.1 (28, 0, 0) (7 + 4 * a)) v m s (nI h)) M := by
  unfold f_X10_colourOf_b33 zco
  rw [zq_ashIs (y := 0) a 0 rfl rfl (by omega), Nat.add_zero, Int32.mul_comm 2 v]
  generalize M.1 (28, 0, 0) (7 + 4 * a) = kd
  by_cases h1 : kd = 1
  · rw [if_pos h1, if_pos h1]
  rw [if_neg h1, if_neg h1]
  by_cases h2 : kd = 2
  · rw [if_pos h2, if_pos h2]
  rw [if_neg h2, if_neg h2]
  by_cases h3 : kd = 3
  · rw [if_pos h3, if_pos h3]
  rw [if_neg h3, if_neg h3]
  by_cases h4 : kd = 4
  · rw [if_pos h4, if_pos h4]
  rw [if_neg h4, if_neg h4]
  by_cases h5 : kd = 5
  · rw [if_pos h5, if_pos h5]
  rw [if_neg h5, if_neg h5]
  by_cases h6 : kd = 6
  · rw [if_pos h6, if_pos h6]
  rw [if_neg h6, if_neg h6]
theorem zq_rCol {N : Nat → Int32} {M : za_M} {a h : Nat} {K : Int32 → za_M → Prop} (e28 : M.1 (28, 0, 0) = N) (hT : zT N) (ha : a < 5) (k : ∀ M', zk [34, 35] M M' → K (zcol N a h) M') : f_X10_colourOf (nI a) (nI h) M K := by
  unfold f_X10_colourOf
  rw [zq_ashIs (y := 1) a 1 rfl rfl (by omega), zq_ashIs (y := 0) a 0 rfl rfl (by omega), e28, Nat.add_zero, show 7 + 4 * a + 1 = 8 + 4 * a by omega]
  refine zr_given (u := 0) (by decide) (by rw [e28]; exact hT 0 (by decide)) (fun M1 k1 => ?_)
  have e : M1.1 (28, 0, 0) = N := (k1.1 _ (by decide)).trans e28
  have := k M1 k1
  unfold zcol zgN at this
  rw [Nat.add_zero]
  by_cases z : 5 ≤ nI h
  · rw [if_pos z] at this ⊢
    rw [zq_rCol33 ha, e]
    exact this
  · rw [if_neg z] at this ⊢
    rw [zq_rCol33 ha, e]
    exact this
/-- is ash a forbidden at heat h -/
def zfo (N : Nat → Int32) (a h : Nat) : Int32 := if N (7 + 4 * a) = 4 ∧ 8 ≤ h then 1 else if N (7 + 4 * a) = 6 ∧ N (8 + 4 * a) = 0 then 1 else 0
theorem zfo_B (N : Nat → Int32) (a h : Nat) : zfo N a h = 0 ∨ zfo N a h = 1 := by
  unfold zfo
  split
  · exact Or.inr rfl
  · split
    · exact Or.inr rfl
    · exact Or.inl rfl
theorem zq_cFor {N : Nat → Int32} {M : za_M} {a h : Nat} (hc : zc 0 N M) (ha : a < (N 1).toNatClampNeg) (hh : h < 10) (K : Int32 → za_M → Prop) : f_X0_isForbiddenAt 0 a (nI h) M K = K (zfo N a h) M := by
  have r := hc.2.1 a ha
  unfold f_X0_isForbiddenAt f_X0_isForbiddenAt_b14 f_X0_isForbiddenAt_b30 f_X0_isForbiddenAt_b34 zfo
  rw [r.1, r.2.1]
  have tail : (if N (7 + 4 * a) = 6 then (if N (8 + 4 * a) = 0 then K 1 M else K 0 M) else K 0 M) = K (if N (7 + 4 * a) = 6 ∧ N (8 + 4 * a) = 0 then 1 else 0) M := by
    by_cases x : N (7 + 4 * a) = 6
    · by_cases y : N (8 + 4 * a) = 0
      · rw [if_pos x, if_pos y, if_pos ⟨x, y⟩]
      · rw [if_pos x, if_neg y, if_neg (fun q => y q.2)]
    · rw [if_neg x, if_neg (fun q => x q.1)]
  by_cases x : N (7 + 4 * a) = 4
  · rw [if_pos x]
    by_cases y : 8 ≤ h
    · rw [if_pos (show 8 ≤ nI h from nI_le (a := 8) y (by omega)), if_pos ⟨x, y⟩]
    · rw [if_neg (show ¬ 8 ≤ nI h from fun q => y ((nI_leI (a := 8) (b := h) (by omega) (by omega)).mp q)), if_neg (show ¬ (N (7 + 4 * a) = 4 ∧ 8 ≤ h) from fun q => y q.2)]
      exact tail
  · rw [if_neg x, if_neg (show ¬ (N (7 + 4 * a) = 4 ∧ 8 ≤ h) from fun q => x q.1)]
    exact tail
/-- is a mix forbidden; its sum -/
def zmF (N : Nat → Int32) (m h : Nat) : Nat → Int32
  | 0 => 0
  | k+1 => if zmF N m h k = 0 then (if zfo N k h = 0 then 0 else if m / 10 ^ k % 10 = 0 then 0 else 1) else 1
def zmS (N : Nat → Int32) (m h n : Nat) : Int32 := zsm (fun i => nI (m / 10 ^ i % 10) * zcol N i h) n
def zcm (N : Nat → Int32) (m h n : Nat) : Int32 := if zmF N m h n = 0 then zrest (zmS N m h n) else -1
theorem zmF_B (N : Nat → Int32) (m h n : Nat) : zmF N m h n = 0 ∨ zmF N m h n = 1 := by
  cases n with
  | zero => exact Or.inl rfl
  | succ n =>
    unfold zmF
    split
    · split
      · exact Or.inl rfl
      · split
        · exact Or.inl rfl
        · exact Or.inr rfl
    · exact Or.inr rfl
theorem zmF_up {N : Nat → Int32} {m h i : Nat} (q : ¬ zmF N m h i = 0) : ∀ n, i ≤ n → ¬ zmF N m h n = 0 := by
  intro n
  induction n with
  | zero => intro hn; rw [show i = 0 by omega] at q; exact q
  | succ n ih =>
    intro hn
    by_cases z : i = n + 1
    · rw [← z]; exact q
    · unfold zmF
      rw [if_neg (ih (by omega))]
      decide
theorem zcm_p {N : Nat → Int32} {m h n : Nat} (q : zmF N m h n = 0) : zs (zcm N m h n) 10 ∧ zcm N m h n = zrest (zmS N m h n) := by
  unfold zcm
  rw [if_pos q]
  exact ⟨zrest_zs _, rfl⟩
theorem zcm_n {N : Nat → Int32} {m h n : Nat} : zcm N m h n = -1 ↔ ¬ zmF N m h n = 0 := by
  by_cases q : zmF N m h n = 0
  · obtain ⟨⟨j, hj, e⟩, _⟩ := zcm_p q
    rw [e]
    exact ⟨fun z => absurd z (by
      have hc : j = 0 ∨ j = 1 ∨ j = 2 ∨ j = 3 ∨ j = 4 ∨ j = 5 ∨ j = 6 ∨ j = 7 ∨ j = 8 ∨ j = 9 := by omega
      rcases hc with rfl | rfl | rfl | rfl | rfl | rfl | rfl | rfl | rfl | rfl <;> decide), fun z => absurd q z⟩
  · unfold zcm
    rw [if_neg q]
    exact ⟨fun _ => q, fun _ => rfl⟩
theorem zdg_div {m : Nat} (i : Nat) : m / 10 ^ i / 10 = m / 10 ^ (i + 1) := by rw [Nat.div_div_eq_div_mul, Nat.pow_succ]
theorem zdg_lt {m : Nat} (hm : m < 2 ^ 31) (i : Nat) : m / 10 ^ i < 2 ^ 31 := Nat.lt_of_le_of_lt (Nat.div_le_self _ _) hm
theorem zdg_d {m : Nat} (hm : m < 2 ^ 31) (i : Nat) : nI (m / 10 ^ i) / 10 = nI (m / 10 ^ (i + 1)) := by
  rw [zl_lit 10, pk_div (zdg_lt hm i) (by decide) (by decide), zdg_div]
theorem zdg_r {m : Nat} (hm : m < 2 ^ 31) (i : Nat) : nI (m / 10 ^ i) - nI (m / 10 ^ i) / 10 * 10 = nI (m / 10 ^ i % 10) := by
  rw [zl_lit 10, pk_rem (zdg_lt hm i) (by decide) (by decide)]
theorem zq_dig {m a : Nat} (hm : m < 2 ^ 31) (ha : a < 100) {M : za_M} {K : Int32 → za_M → Prop} (k : K (nI (m / 10 ^ a % 10)) M) : f_X10_digit (nI m) (nI a) M K := by
  unfold f_X10_digit
  refine za_lp2_ind (fun s x2 x3 M' => ∃ i, x2 = nI (m / 10 ^ i) ∧ x3 = nI i ∧ i + s = a ∧ M' = M) ?_ ?_ a (nI m) 0 M ⟨0, by rw [Nat.pow_zero, Nat.div_one], rfl, by omega, rfl⟩
  · intro x2 x3 M' ⟨i, a1, a2, a3, a4⟩ L
    subst a1; subst a2; subst a4
    unfold f_X10_digit_b4
    rw [if_pos (nI_le (by omega) (by omega)), zdg_r hm, show i = a by omega]
    exact k
  · intro s x2 x3 M' ⟨i, a1, a2, a3, a4⟩ L hL
    subst a1; subst a2; subst a4
    unfold f_X10_digit_b4
    rw [if_neg (by rw [nI_leI (by omega) (by omega)]; omega), za_letE, zdg_d hm, nI_1]
    exact hL _ _ _ ⟨i + 1, rfl, rfl, by omega, rfl⟩
theorem zc_cmix {N : Nat → Int32} {M : za_M} {m h nA : Nat} {K : Int32 → za_M → Prop} (hc : zc 0 N M) (hl : zlw 0 0 (zTn N 0) (zTf N 0) M) (eA : N 1 = nI nA) (bA : nA < 6) (hm : m < 2 ^ 31) (hh : h < 10) (k : ∀ M', zk [18] M M' → K (zcm N m h nA) M') : f_X9_colourOfMix (nI m) (nI h) M K := by
  have cA : (N 1).toNatClampNeg = nA := by rw [eA, nI_clamp (by omega)]
  unfold f_X9_colourOfMix
  refine za_lp3_ind (fun s x3 x4 x5 M' => ∃ i, x5 = nI i ∧ i + s = nA ∧ x3 = zmS N m h i ∧ x4 = nI (m / 10 ^ i) ∧ zmF N m h i = 0 ∧ zk [18] M M') ?_ ?_ nA 0 (nI m) 0 M ⟨0, rfl, by omega, rfl, by rw [Nat.pow_zero, Nat.div_one], rfl, zk_rf _ _⟩
  · intro x3 x4 x5 M' ⟨i, a1, a2, a3, a4, a5, a6⟩ L
    subst a1; subst a3; subst a4
    have ei : i = nA := by omega
    subst ei
    unfold f_X9_colourOfMix_b8
    rw [(zc_k hc a6).1.1, eA, if_pos (nI_le (by omega) (by omega)), zq_cRest]
    rw [← (zcm_p a5).2]
    exact k M' a6
  · intro s x3 x4 x5 M' ⟨i, a1, a2, a3, a4, a5, a6⟩ L hL
    subst a1; subst a3; subst a4
    have hc' := zc_k hc a6
    have hl' : zlw 0 0 (zTn N 0) (zTf N 0) M' := zlw_cg hl (a6.1 _ (by simp)) (a6.1 _ (by simp))
    unfold f_X9_colourOfMix_b8
    rw [hc'.1.1, eA, if_neg (by rw [nI_leI (by omega) (by omega)]; omega), za_letE, za_letE, zx_in (by omega) (by decide), zdg_r hm, zdg_d hm, nI_clamp (by omega)]
    have go : zmF N m h (i + 1) = 0 → ∀ M1, zk [18] M M1 → f_X9_colourOfMix_b68 K L (nI h) (zmS N m h i) (nI (m / 10 ^ (i + 1))) (nI i) (nI (m / 10 ^ i % 10)) i M1 := by
      intro e M1 k1
      unfold f_X9_colourOfMix_b68
      refine zq_cCol (zc_k hc k1) (zlw_cg hl (k1.1 _ (by simp)) (k1.1 _ (by simp))) (by omega) (fun M2 k2 => ?_)
      rw [za_letE, nI_1]
      exact hL _ _ _ _ ⟨i + 1, rfl, by omega, rfl, rfl, e, zk_tr k1 k2⟩
    by_cases z : m / 10 ^ i % 10 = 0
    · rw [if_pos (by rw [z]; decide)]
      refine go ?_ M' a6
      unfold zmF
      rw [if_pos a5, if_pos z]
      split <;> rfl
    · have d10 := Nat.mod_lt (m / 10 ^ i) (show 0 < 10 by decide)
      rw [if_neg (nI_nle (by omega) (by omega)), zq_cFor hc' (by omega) hh]
      by_cases y : zfo N i h = 0
      · rw [if_pos y]
        refine go ?_ M' a6
        unfold zmF
        rw [if_pos a5, if_pos y]
      · rw [if_neg y]
        have : zcm N m h nA = -1 := by
          refine zcm_n.mpr (zmF_up (i := i + 1) ?_ nA (by omega))
          unfold zmF
          rw [if_pos a5, if_neg y, if_neg z]
          decide
        rw [← this]
        exact k M' a6
theorem zr_for {N : Nat → Int32} {M : za_M} {m h nA : Nat} {K : Int32 → za_M → Prop} (e28 : M.1 (28, 0, 0) = N) (eA : N 1 = nI nA) (bA : nA < 6) (hm : m < 2 ^ 31) (hh : h < 10) (k : K (zmF N m h nA) M) : f_X10_isForbidden (nI m) (nI h) M K := by
  have v1 : vp_in 1 279 := vp_in_nI (n := 1) (by decide) (by decide)
  unfold f_X10_isForbidden
  refine za_lp2_ind (fun s x3 x4 M' => ∃ i, x4 = nI i ∧ i + s = nA ∧ x3 = zmF N m h i ∧ M' = M) ?_ ?_ nA 0 0 M ⟨0, rfl, by omega, rfl, rfl⟩
  · intro x3 x4 M' ⟨i, a1, a2, a3, a4⟩ L
    subst a1; subst a3; subst a4
    have ei : i = nA := by omega
    subst ei
    unfold f_X10_isForbidden_b5
    rw [zZ1, e28, eA, if_pos (nI_le (by omega) (by omega))]
    refine ⟨v1, zmF_B _ _ _ _, k⟩
  · intro s x3 x4 M' ⟨i, a1, a2, a3, a4⟩ L hL
    subst a1; subst a3; subst a4
    have nx : ∀ v : Int32, v = zmF N m h (i + 1) → L v (nI i + 1) M' := fun v e => by rw [nI_1, e]; exact hL _ _ _ ⟨i + 1, rfl, by omega, rfl, rfl⟩
    have go : ∀ f : Int32, f = zfo N i h → f_X10_isForbidden_b60 K L (nI m) (nI h) (zmF N m h i) (nI i) f M' := by
      intro f ef
      unfold f_X10_isForbidden_b60 f_X10_isForbidden_b84 f_X10_isForbidden_b80 f_X10_isForbidden_b85
      by_cases z : zmF N m h i = 0
      · rw [if_pos z]
        by_cases y : f = 0
        · rw [if_pos y]
          exact nx 0 (by unfold zmF; rw [if_pos z, if_pos (by rw [← ef]; exact y)])
        · rw [if_neg y]
          refine zq_dig hm (by omega) ?_
          have d10 := Nat.mod_lt (m / 10 ^ i) (show 0 < 10 by decide)
          by_cases w : m / 10 ^ i % 10 = 0
          · rw [if_pos (by rw [w]; decide)]
            exact nx 0 (by unfold zmF; rw [if_pos z, if_neg (by rw [← ef]; exact y), if_pos w])
          · rw [if_neg (nI_nle (by omega) (by omega))]
            exact nx 1 (by unfold zmF; rw [if_pos z, if_neg (by rw [← ef]; exact y), if_neg w])
      · rw [if_neg z]
        exact nx 1 (by unfold zmF; rw [if_neg z])
    unfold f_X10_isForbidden_b5
    rw [zZ1, e28, eA, if_neg (by rw [nI_leI (by omega) (by omega)]; omega), zq_ashIs (y := 0) i 0 rfl rfl (by omega), e28, Nat.add_zero]
    refine ⟨v1, ?_⟩
    unfold f_X10_isForbidden_b55 f_X10_isForbidden_b33
    have tail : ¬ (N (7 + 4 * i) = 4 ∧ 8 ≤ h) → f_X10_ashIs (nI i) 0 M' (fun r7 M6 => if r7 = 6 then (f_X10_ashIs (nI i) 1 M6 (fun r10 M9 => if r10 = 0 then (f_X10_isForbidden_b60 K L (nI m) (nI h) (zmF N m h i) (nI i) 1 M9) else (f_X10_isForbidden_b59 K L (nI m) (nI h) (zmF N m h i) (nI i) M9))) else (f_X10_isForbidden_b59 K L (nI m) (nI h) (zmF N m h i) (nI i) M6)) := by
      intro nq
      unfold f_X10_isForbidden_b59
      rw [zq_ashIs (y := 0) i 0 rfl rfl (by omega), e28, Nat.add_zero]
      by_cases x : N (7 + 4 * i) = 6
      · rw [if_pos x, zq_ashIs (y := 1) i 1 rfl rfl (by omega), e28, show 7 + 4 * i + 1 = 8 + 4 * i by omega]
        by_cases y : N (8 + 4 * i) = 0
        · rw [if_pos y]
          exact go 1 (by unfold zfo; rw [if_neg nq, if_pos ⟨x, y⟩])
        · rw [if_neg y]
          exact go 0 (by unfold zfo; rw [if_neg nq, if_neg (fun q => y q.2)])
      · rw [if_neg x]
        exact go 0 (by unfold zfo; rw [if_neg nq, if_neg (fun q => x q.1)])
    by_cases x : N (7 + 4 * i) = 4
    · rw [if_pos x]
      by_cases y : 8 ≤ h
      · rw [if_pos (show 7 < nI h from nI_lt (a := 7) y (by omega))]
        exact go 1 (by unfold zfo; rw [if_pos ⟨x, y⟩])
      · rw [if_neg (show ¬ 7 < nI h from fun q => y ((nI_ltI (a := 7) (b := h) (by omega) (by omega)).mp q))]
        exact tail (fun q => y q.2)
    · rw [if_neg x]
      exact tail (fun q => x q.1)
theorem zr_mcol {N : Nat → Int32} {M : za_M} {m h nA : Nat} {K : Int32 → za_M → Prop} (e28 : M.1 (28, 0, 0) = N) (hT : zT N) (eA : N 1 = nI nA) (bA : nA < 6) (hm : m < 2 ^ 31) (k : ∀ M', zk [34, 35] M M' → K (zrest (zmS N m h nA)) M') : f_X10_mixColour (nI m) (nI h) M K := by
  have v1 : vp_in 1 279 := vp_in_nI (n := 1) (by decide) (by decide)
  unfold f_X10_mixColour
  refine za_lp2_ind (fun s x3 x4 M' => ∃ i, x4 = nI i ∧ i + s = nA ∧ x3 = zmS N m h i ∧ zk [34, 35] M M') ?_ ?_ nA 0 0 M ⟨0, rfl, by omega, rfl, zk_rf _ _⟩
  · intro x3 x4 M' ⟨i, a1, a2, a3, a4⟩ L
    subst a1; subst a3
    unfold f_X10_mixColour_b5
    rw [zZ1, a4.1 (28, 0, 0) (by decide), e28, eA, if_pos (nI_le (by omega) (by omega)), zq_rRest, show i = nA by omega]
    exact ⟨v1, k M' a4⟩
  · intro s x3 x4 M' ⟨i, a1, a2, a3, a4⟩ L hL
    subst a1; subst a3
    unfold f_X10_mixColour_b5
    rw [zZ1, a4.1 (28, 0, 0) (by decide), e28, eA, if_neg (by rw [nI_leI (by omega) (by omega)]; omega)]
    refine ⟨v1, zq_dig hm (by omega) (zq_rCol ((a4.1 (28, 0, 0) (by decide)).trans e28) hT (by omega) (fun M2 k2 => ?_))⟩
    rw [za_letE, nI_1]
    exact hL _ _ _ ⟨i + 1, rfl, by omega, rfl, zk_tr a4 k2⟩

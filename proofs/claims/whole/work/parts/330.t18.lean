/-! single calls, seventeen: recipe -/
def zmxp (c : Nat) : Nat → Nat
  | 0 => 0
  | n+1 => zmxp c n + c / 4 ^ n % 4 * 10 ^ n
def zmx (c : Nat) : Nat := zmxp c 5
def zds (m : Nat) : Nat → Nat
  | 0 => 0
  | n+1 => zds m n + m / 10 ^ n % 10
theorem zmx_d : ∀ c, c < 1024 → ∀ i, i < 5 → zmx c / 10 ^ i % 10 = c / 4 ^ i % 4 := by decide +kernel
theorem zmx_b : ∀ c, c < 1024 → zmx c < 100000 ∧ (c ≠ 0 → zmx c ≠ 0 ∧ zds (zmx c) 5 ≠ 0) ∧ zds (zmx c) 5 ≤ 15 := by decide +kernel
theorem zsh_d : ∀ i, i < 5 → ∀ c, c < 1024 → ((nI c >>> ((2 * nI i) &&& 31)) &&& 3) = nI (c / 4 ^ i % 4) := by decide +kernel
theorem zsh_4 : ∀ n, n < 6 → ((1 : Int32) <<< ((2 * nI n) &&& 31)) = nI (4 ^ n) := by decide +kernel
theorem zp4 {n : Nat} (h : n < 6) : 4 ^ n ≤ 1024 ∧ 0 < 4 ^ n := by
  have hc : n = 0 ∨ n = 1 ∨ n = 2 ∨ n = 3 ∨ n = 4 ∨ n = 5 := by omega
  rcases hc with rfl | rfl | rfl | rfl | rfl | rfl <;> decide
theorem z4_0 {c n j : Nat} (hc : c < 4 ^ n) (h : n ≤ j) : c / 4 ^ j % 4 = 0 := by
  rw [Nat.div_eq_of_lt (Nat.lt_of_lt_of_le hc (Nat.pow_le_pow_right (by decide) h))]
theorem zmxp_5 {c n : Nat} (hc : c < 4 ^ n) : ∀ k, n ≤ k → zmxp c k = zmxp c n := by
  intro k
  induction k with
  | zero => intro h; rw [show n = 0 by omega]
  | succ k ih =>
    intro h
    by_cases z : n = k + 1
    · rw [z]
    · rw [zmxp, ih (by omega), z4_0 hc (by omega), Nat.zero_mul, Nat.add_zero]
theorem zds_5 {m n : Nat} (hd : ∀ j, n ≤ j → j < 5 → m / 10 ^ j % 10 = 0) : ∀ k, n ≤ k → k ≤ 5 → zds m k = zds m n := by
  intro k
  induction k with
  | zero => intro h _; rw [show n = 0 by omega]
  | succ k ih =>
    intro h h5
    by_cases z : n = k + 1
    · rw [z]
    · rw [zds, ih (by omega) (by omega), hd k (by omega) (by omega), Nat.add_zero]
def zlim (N : Nat → Int32) (p h i : Nat) : Int32 := if zfo N i h = 0 then za_min 3 (N (29 + 7 * p + i)) else 0
theorem zlim_ok {N : Nat → Int32} {p h i m v : Nat} (hv : v < 2 ^ 30) (ev : N (29 + 7 * p + i) = nI v) (hd : m / 10 ^ i % 10 < 4) (h1 : zhs N p m i = 1) (h0 : zmF N m h i = 0) : nI (m / 10 ^ i % 10) ≤ zlim N p h i ↔ zhs N p m (i + 1) = 1 ∧ zmF N m h (i + 1) = 0 := by
  rw [zhs, zmF, if_neg (by rw [h1]; decide), if_pos h0, ev]
  unfold zlim
  rw [ev, zl_lit 3, zmn (by omega) hv]
  have lt := nI_ltI (a := v) (b := m / 10 ^ i % 10) (by omega) (by omega)
  by_cases f : zfo N i h = 0
  · rw [if_pos f, if_pos f, nI_leI (by omega) (by omega)]
    by_cases y : v < m / 10 ^ i % 10
    · rw [if_pos (lt.mpr y)]
      exact ⟨fun z => by omega, fun z => absurd z.1 (by decide)⟩
    · rw [if_neg (fun q => y (lt.mp q))]
      exact ⟨fun _ => ⟨rfl, rfl⟩, fun _ => by omega⟩
  · rw [if_neg f, if_neg f]
    by_cases y : m / 10 ^ i % 10 = 0
    · rw [y, if_pos rfl, if_neg (show ¬ nI v < nI 0 from nI_pos (by omega))]
      exact ⟨fun _ => ⟨rfl, rfl⟩, fun _ => by decide⟩
    · rw [if_neg y]
      exact ⟨fun z => absurd z (nI_nle (by omega) (by omega)), fun z => absurd z.2 (by decide)⟩
def zbu (N : Nat → Int32) (p m h nA : Nat) : Int32 := if zhs N p m nA = 1 ∧ zmF N m h nA = 0 then nI (zds m nA) else 0
theorem zds_b (m : Nat) : ∀ n, zds m n ≤ 9 * n := by
  intro n
  induction n with
  | zero => exact Nat.le_refl _
  | succ n ih => rw [zds]; have := Nat.mod_lt (m / 10 ^ n) (show 0 < 10 by decide); omega
theorem zc_prep {N : Nat → Int32} {M : za_M} {p h nA : Nat} {K : za_M → Prop} (hc : zc 0 N M) (hl : zlw 0 0 (zTn N 0) (zTf N 0) M) (eA : N 1 = nI nA) (bA : nA < 6) (hp : p < (N 2).toNatClampNeg) (hh : h < 10) (k : ∀ M', zk [18, 25, 26] M M' → (∀ i, i < nA → M'.1 (25, 0, 0) i = zcol N i h ∧ M'.1 (26, 0, 0) i = zlim N p h i) → K M') : f_X9_prepareRecipes 0 p (nI h) M K := by
  unfold f_X9_prepareRecipes
  refine za_lp1_ind (fun s x M' => ∃ i, x = nI i ∧ i + s = nA ∧ zk [18, 25, 26] M M' ∧ ∀ j, j < i → M'.1 (25, 0, 0) j = zcol N j h ∧ M'.1 (26, 0, 0) j = zlim N p h j) ?_ ?_ nA 0 M ⟨0, rfl, by omega, zk_rf _ _, fun j hj => by omega⟩
  · intro x M' ⟨i, a1, a2, a3, a4⟩ L
    subst a1
    unfold f_X9_prepareRecipes_b2
    rw [a3.1 (2, 0, 0) (by simp), hc.1.1, eA, if_pos (nI_le (by omega) (by omega))]
    exact k M' a3 (fun j hj => a4 j (by omega))
  · intro s x M' ⟨i, a1, a2, a3, a4⟩ L hL
    subst a1
    have hc' : zc 0 N M' := zc_cg hc (fun x _ hx => a3.1 x (by simp; omega)) (by rw [a3.2])
    unfold f_X9_prepareRecipes_b2 f_X9_prepareRecipes_b71
    rw [hc'.1.1, eA, if_neg (by rw [nI_leI (by omega) (by omega)]; omega), zx_in (by omega) (by decide), nI_clamp (by omega)]
    refine zq_cCol hc' (zlw_cg hl (a3.1 _ (by simp)) (a3.1 _ (by simp))) (by rw [eA, nI_clamp (by omega)]; omega) (fun M1 k1 => ?_)
    rw [zx_in (by omega) (by decide), za_letE]
    generalize hM2 : za_up M1 (25, 0, 0) i (zcol N i h) = M2
    have k2 : zk [18, 25, 26] M M2 := by rw [← hM2]; exact zk_tr a3 (zk_tr (zk_mo k1 (by decide)) (zk_up (by decide)))
    have hc2 : zc 0 N M2 := zc_cg hc (fun x _ hx => k2.1 x (by simp; omega)) (by rw [k2.2])
    have o25 : ∀ j, M2.1 (25, 0, 0) j = if j = i then zcol N i h else M'.1 (25, 0, 0) j := fun j => by
      rw [← hM2, za_up_row, k1.1 (25, 0, 0) (by simp)]
      by_cases z : j = i
      · rw [z, zu_eq, if_pos rfl]
      · rw [zu_ne z, if_neg z]
    have o26 : M2.1 (26, 0, 0) = M'.1 (26, 0, 0) := by rw [← hM2, za_up_oth _ _ _ (by decide), k1.1 (26, 0, 0) (by simp)]
    rw [zq_cFor hc2 (by rw [eA, nI_clamp (by omega)]; omega) hh, nI_1]
    have fin : ∀ v, v = zlim N p h i → L (nI (i + 1)) (za_up M2 (26, 0, 0) i v) := by
      intro v hv
      refine hL _ _ ⟨i + 1, rfl, by omega, zk_tr k2 (zk_up (by decide)), fun j hj => ?_⟩
      rw [za_up_oth _ _ _ (by decide), za_up_row, o25, o26]
      by_cases z : j = i
      · rw [z, zu_eq, if_pos rfl, hv]
        exact ⟨rfl, rfl⟩
      · rw [zu_ne z, if_neg z]
        exact a4 j (by omega)
    by_cases z : zfo N i h = 0
    · rw [if_pos z, zx_in (by omega) (by decide), zx_in (by omega) (by decide), za_letE, (hc2.2.2.1 p hp).2.2 i (by omega)]
      exact fin _ (by unfold zlim; rw [if_pos z])
    · rw [if_neg z, zx_in (by omega) (by decide), za_letE]
      exact fin _ (by unfold zlim; rw [if_neg z])
theorem zc_buch {N : Nat → Int32} {M : za_M} {p h nA c : Nat} {K : Int32 → za_M → Prop} (hN : zN N) (e2 : M.1 (2, 0, 0) 3 = nI nA) (eA : N 1 = nI nA) (bA : nA < 6) (hp : p < 4) (hl : ∀ i, i < nA → M.1 (26, 0, 0) i = zlim N p h i) (hc : c < 1024) (k : K (zbu N p (zmx c) h nA) M) : f_X9_bushelsOfChoice (nI c) M K := by
  have md := zmx_d c hc
  unfold f_X9_bushelsOfChoice
  refine za_lp2_ind (fun s x2 x3 M' => ∃ i, x3 = nI i ∧ i + s = nA ∧ x2 = nI (zds (zmx c) i) ∧ zhs N p (zmx c) i = 1 ∧ zmF N (zmx c) h i = 0 ∧ M' = M) ?_ ?_ nA 0 0 M ⟨0, rfl, by omega, rfl, rfl, rfl, rfl⟩
  · intro x2 x3 M' ⟨i, a1, a2, a3, a4, a5, a6⟩ L
    subst a1; subst a3; subst a6
    have ei : i = nA := by omega
    subst ei
    unfold f_X9_bushelsOfChoice_b4
    rw [e2, if_pos (nI_le (by omega) (by omega))]
    unfold zbu at k
    rw [if_pos ⟨a4, a5⟩] at k
    exact k
  · intro s x2 x3 M' ⟨i, a1, a2, a3, a4, a5, a6⟩ L hL
    subst a1; subst a3; subst a6
    obtain ⟨v, hv, ev⟩ := ((hN.2.2.1 p hp).2.2 i (by omega)).1
    have m4 := Nat.mod_lt (c / 4 ^ i) (show 0 < 4 by decide)
    have ok := zlim_ok (N := N) (p := p) (h := h) (i := i) (m := zmx c) (by omega) ev (by rw [md i (by omega)]; omega) a4 a5
    unfold f_X9_bushelsOfChoice_b4
    rw [e2, if_neg (by rw [nI_leI (by omega) (by omega)]; omega), za_letE, zsh_d i (by omega) c hc, ← md i (by omega), zx_in (by omega) (by decide), nI_clamp (by omega), hl i (by omega)]
    by_cases z : nI (zmx c / 10 ^ i % 10) ≤ zlim N p h i
    · rw [if_pos z, za_letE, nI_add, nI_1]
      exact hL _ _ _ ⟨i + 1, rfl, by omega, rfl, (ok.mp z).1, (ok.mp z).2, rfl⟩
    · rw [if_neg z]
      have : zbu N p (zmx c) h nA = 0 := by
        unfold zbu
        refine if_neg (fun q => z (ok.mpr ⟨?_, ?_⟩))
        · rcases zhs_B N p (zmx c) (i + 1) with w | w
          · have := zhs_dn w nA (by omega)
            rw [q.1] at this
            exact absurd this (by decide)
          · exact w
        · rcases zmF_B N (zmx c) h (i + 1) with w | w
          · exact w
          · exact absurd q.2 (zmF_up (by rw [w]; decide) nA (by omega))
      rw [← this]
      exact k
theorem zc_coch {N : Nat → Int32} {M : za_M} {h nA c : Nat} {K : Int32 → za_M → Prop} (e2 : M.1 (2, 0, 0) 3 = nI nA) (bA : nA < 6) (hl : ∀ i, i < nA → M.1 (25, 0, 0) i = zcol N i h) (hc : c < 1024) (k : K (zrest (zmS N (zmx c) h nA)) M) : f_X9_colourOfChoice (nI c) M K := by
  have md := zmx_d c hc
  unfold f_X9_colourOfChoice
  refine za_lp2_ind (fun s x2 x3 M' => ∃ i, x3 = nI i ∧ i + s = nA ∧ x2 = zmS N (zmx c) h i ∧ M' = M) ?_ ?_ nA 0 0 M ⟨0, rfl, by omega, by rw [zmS, zsm], rfl⟩
  · intro x2 x3 M' ⟨i, a1, a2, a3, a6⟩ L
    subst a1; subst a3; subst a6
    have ei : i = nA := by omega
    subst ei
    unfold f_X9_colourOfChoice_b4
    rw [e2, if_pos (nI_le (by omega) (by omega)), zq_cRest]
    exact k
  · intro s x2 x3 M' ⟨i, a1, a2, a3, a6⟩ L hL
    subst a1; subst a3; subst a6
    unfold f_X9_colourOfChoice_b4
    rw [e2, if_neg (by rw [nI_leI (by omega) (by omega)]; omega), zx_in (by omega) (by decide), za_letE, zsh_d i (by omega) c hc, ← md i (by omega), nI_clamp (by omega), hl i (by omega), nI_1]
    refine hL _ _ _ ⟨i + 1, rfl, by omega, ?_, rfl⟩
    rw [zmS, zmS, zsm]
theorem zc_mich {M : za_M} {nA c : Nat} {K : Int32 → za_M → Prop} (e2 : M.1 (2, 0, 0) 3 = nI nA) (bA : nA < 6) (hc : c < 4 ^ nA) (k : K (nI (zmx c)) M) : f_X9_mixOfChoice (nI c) M K := by
  have p4 := zp4 bA
  unfold f_X9_mixOfChoice
  refine za_lp2_ind (fun s x2 x3 M' => ∃ i, x3 = nI i ∧ i + s = nA ∧ x2 = nI (zmxp c i) ∧ M' = M) ?_ ?_ nA 0 0 M ⟨0, rfl, by omega, rfl, rfl⟩
  · intro x2 x3 M' ⟨i, a1, a2, a3, a6⟩ L
    subst a1; subst a3; subst a6
    have ei : i = nA := by omega
    subst ei
    unfold f_X9_mixOfChoice_b4
    rw [e2, if_pos (nI_le (by omega) (by omega)), ← zmxp_5 hc 5 (by omega)]
    exact k
  · intro s x2 x3 M' ⟨i, a1, a2, a3, a6⟩ L hL
    subst a1; subst a3; subst a6
    unfold f_X9_mixOfChoice_b4
    rw [e2, if_neg (by rw [nI_leI (by omega) (by omega)]; omega), zx_in (by omega) (by decide), za_letE, zsh_d i (by omega) c (by omega), nI_clamp (by omega), zt2_p (by omega), pk_mul, nI_add, nI_1]
    exact hL _ _ _ ⟨i + 1, rfl, by omega, by rw [zmxp], rfl⟩
/-- the best mix among the codes 1 to k -/
def zrc (N : Nat → Int32) (p h : Nat) (col : Int32) (nA : Nat) : Nat → Nat
  | 0 => 0
  | k+1 => if (zrc N p h col nA k = 0 ∨ zds (zmx (k + 1)) 5 < zds (zrc N p h col nA k) 5) ∧ (zhs N p (zmx (k + 1)) nA = 1 ∧ zmF N (zmx (k + 1)) h nA = 0) ∧ zrest (zmS N (zmx (k + 1)) h nA) = col then zmx (k + 1) else zrc N p h col nA k
theorem zrc_b (N : Nat → Int32) (p h : Nat) (col : Int32) (nA : Nat) : ∀ k, k < 1024 → zrc N p h col nA k < 100000 ∧ zds (zrc N p h col nA k) 5 ≤ 45 := by
  intro k
  induction k with
  | zero => intro _; exact ⟨by rw [zrc]; decide, zds_b _ 5⟩
  | succ k ih =>
    intro hk
    rw [zrc]
    split
    · have := zmx_b (k + 1) hk
      exact ⟨this.1, by omega⟩
    · exact ih (by omega)
theorem zc_rec {N : Nat → Int32} {M : za_M} {p h nA : Nat} {col : Int32} {K : Int32 → za_M → Prop} (hN : zN N) (e2 : M.1 (2, 0, 0) 3 = nI nA) (eA : N 1 = nI nA) (bA : nA < 6) (hp : p < 4) (hl : ∀ i, i < nA → M.1 (25, 0, 0) i = zcol N i h ∧ M.1 (26, 0, 0) i = zlim N p h i) (k : K (nI (zrc N p h col nA (4 ^ nA - 1))) M) : f_X9_fewestFor col M K := by
  have p4 := zp4 bA
  unfold f_X9_fewestFor
  rw [za_letE, za_letE, e2, zsh_4 nA bA]
  refine za_lp3_ind (fun s x4 x5 x6 M' => ∃ c, x6 = nI (c + 1) ∧ c + 1 + s = 4 ^ nA ∧ x4 = nI (zrc N p h col nA c) ∧ (zrc N p h col nA c ≠ 0 → x5 = nI (zds (zrc N p h col nA c) 5)) ∧ M' = M) ?_ ?_ (4 ^ nA - 1) 0 0 1 M ⟨0, rfl, by omega, rfl, fun z => absurd rfl z, rfl⟩
  · intro x4 x5 x6 M' ⟨c, a1, a2, a3, a4, a5⟩ L
    subst a1; subst a3; subst a5
    unfold f_X9_fewestFor_b26
    rw [if_pos (nI_le (by omega) (by omega)), show c = 4 ^ nA - 1 by omega]
    exact k
  · intro s x4 x5 x6 M' ⟨c, a1, a2, a3, a4, a5⟩ L hL
    subst a1; subst a3; subst a5
    have zb := zrc_b N p h col nA c (by omega)
    have mb := zmx_b (c + 1) (by omega)
    have dd : zds (zmx (c + 1)) nA = zds (zmx (c + 1)) 5 := (zds_5 (fun j h1 h2 => by rw [zmx_d _ (by omega) j h2, z4_0 (by omega) h1]) 5 (by omega) (by omega)).symm
    unfold f_X9_fewestFor_b26 f_X9_fewestFor_b57 f_X9_fewestFor_b79
    rw [if_neg (by rw [nI_leI (by omega) (by omega)]; omega)]
    refine zc_buch hN e2 eA bA hp (fun i hi => (hl i hi).2) (by omega) ?_
    rw [nI_1]
    have stay : ¬ ((zrc N p h col nA c = 0 ∨ zds (zmx (c + 1)) 5 < zds (zrc N p h col nA c) 5) ∧ (zhs N p (zmx (c + 1)) nA = 1 ∧ zmF N (zmx (c + 1)) h nA = 0) ∧ zrest (zmS N (zmx (c + 1)) h nA) = col) → L (nI (zrc N p h col nA c)) x5 (nI (c + 1 + 1)) M' := fun q => hL _ _ _ _ ⟨c + 1, rfl, by omega, by rw [zrc, if_neg q], by rw [zrc, if_neg q]; exact a4, rfl⟩
    by_cases ok : zhs N p (zmx (c + 1)) nA = 1 ∧ zmF N (zmx (c + 1)) h nA = 0
    · rw [zbu, if_pos ok, dd, if_neg (nI_nle (by omega) (by omega))]
      have try_ : (zrc N p h col nA c = 0 ∨ zds (zmx (c + 1)) 5 < zds (zrc N p h col nA c) 5) → f_X9_colourOfChoice (nI (c + 1)) M' (fun r2 M1 => if r2 = col then f_X9_mixOfChoice (nI (c + 1)) M1 (fun r5 M4 => L r5 (nI (zds (zmx (c + 1)) 5)) (nI (c + 1 + 1)) M4) else L (nI (zrc N p h col nA c)) x5 (nI (c + 1 + 1)) M1) := by
        intro better
        refine zc_coch e2 bA (fun i hi => (hl i hi).1) (by omega) ?_
        by_cases y : zrest (zmS N (zmx (c + 1)) h nA) = col
        · rw [if_pos y]
          refine zc_mich e2 bA (by omega) ?_
          exact hL _ _ _ _ ⟨c + 1, rfl, by omega, by rw [zrc, if_pos ⟨better, ok, y⟩], fun _ => by rw [zrc, if_pos ⟨better, ok, y⟩], rfl⟩
        · rw [if_neg y]
          exact stay (fun q => y q.2.2)
      by_cases z : zrc N p h col nA c = 0
      · rw [if_pos (by rw [z]; rfl)]
        exact try_ (Or.inl z)
      · rw [if_neg (nI_ne0 (by omega) (by omega)), a4 z]
        by_cases w : zds (zrc N p h col nA c) 5 ≤ zds (zmx (c + 1)) 5
        · rw [if_pos (nI_le w (by omega)), ← a4 z]
          exact stay (fun q => by rcases q.1 with q1 | q1 <;> omega)
        · rw [if_neg (nI_ge (by omega) (by omega)), ← a4 z]
          exact try_ (Or.inr (by omega))
    · rw [zbu, if_neg ok, if_pos (by decide)]
      exact stay (fun q => ok q.2.1)
theorem zr_mixOf {c : Nat} (hc : c < 1024) {M : za_M} {K : Int32 → za_M → Prop} (k : K (nI (zmx c)) M) : f_X10_mixOf (nI c) M K := by
  unfold f_X10_mixOf
  refine za_lp3_ind (fun s x1 x2 x3 M' => ∃ i, x1 = nI (zmxp c i) ∧ x2 = nI (c / 4 ^ i) ∧ x3 = nI (10 ^ i) ∧ i + s = 5 ∧ M' = M) ?_ ?_ 5 0 (nI c) 1 M ⟨0, rfl, by rw [Nat.pow_zero, Nat.div_one], rfl, by omega, rfl⟩
  · intro x1 x2 x3 M' ⟨i, a1, a2, a3, a4, a5⟩ L
    subst a1; subst a2; subst a3; subst a5
    have ei : i = 5 := by omega
    subst ei
    unfold f_X10_mixOf_b6
    rw [if_pos (show (100000 : Int32) ≤ nI (10 ^ 5) by decide)]
    exact k
  · intro s x1 x2 x3 M' ⟨i, a1, a2, a3, a4, a5⟩ L hL
    subst a1; subst a2; subst a3; subst a5
    have h5 : 10 ^ i ≤ 10000 := by
      have hc : i = 0 ∨ i = 1 ∨ i = 2 ∨ i = 3 ∨ i = 4 := by omega
      rcases hc with rfl | rfl | rfl | rfl | rfl <;> decide
    have dl : c / 4 ^ i < 1024 := Nat.lt_of_le_of_lt (Nat.div_le_self _ _) hc
    unfold f_X10_mixOf_b6
    rw [if_neg (show ¬ (100000 : Int32) ≤ nI (10 ^ i) from fun z => by have := (nI_leI (a := 100000) (b := 10 ^ i) (by omega) (by omega)).mp z; omega), za_letE, za_letE, za_letE, zl_lit 4, pk_rem (by omega) (by decide) (by decide), pk_div (by omega) (by decide) (by decide), pk_mul, nI_add, zl_lit 10, pk_mul]
    exact hL _ _ _ _ ⟨i + 1, by rw [zmxp], by rw [Nat.div_div_eq_div_mul, Nat.pow_succ], by rw [Nat.pow_succ], by omega, rfl⟩
theorem zr_bus {m : Nat} (hm : m < 100000) {M : za_M} {K : Int32 → za_M → Prop} (k : K (nI (zds m 5)) M) : f_X10_bushels (nI m) M K := by
  unfold f_X10_bushels
  refine za_lp2_ind (fun s x1 x2 M' => ∃ i, x1 = nI (zds m i) ∧ x2 = nI i ∧ i + s = 5 ∧ M' = M) ?_ ?_ 5 0 0 M ⟨0, rfl, rfl, by omega, rfl⟩
  · intro x1 x2 M' ⟨i, a1, a2, a4, a5⟩ L
    subst a1; subst a2; subst a5
    have ei : i = 5 := by omega
    subst ei
    unfold f_X10_bushels_b4
    rw [if_pos (show (5 : Int32) ≤ nI 5 by decide)]
    exact k
  · intro s x1 x2 M' ⟨i, a1, a2, a4, a5⟩ L hL
    subst a1; subst a2; subst a5
    unfold f_X10_bushels_b4
    rw [if_neg (show ¬ (5 : Int32) ≤ nI i from fun z => by have := (nI_leI (a := 5) (b := i) (by omega) (by omega)).mp z; omega)]
    refine zq_dig (by omega) (by omega) ?_
    rw [za_letE, nI_add, nI_1]
    exact hL _ _ _ ⟨i + 1, by rw [zds], rfl, by omega, rfl⟩
theorem zr_rec {N : Nat → Int32} {M : za_M} {p h nA : Nat} {col : Int32} {K : Int32 → za_M → Prop} (e28 : M.1 (28, 0, 0) = N) (hT : zT N) (eA : N 1 = nI nA) (bA : nA < 6) (hp : p < 4) (hh : h < 10) (k : ∀ M', zk [34, 35] M M' → (if zrc N p h col nA (4 ^ nA - 1) = 0 then f_X10_finding (-1000000002) M' (fun r15 M14 => K r15 M14) else K (nI (zrc N p h col nA (4 ^ nA - 1))) M')) : ∃ q, za_lp2 (f_X10_recipe_b35 K (nI p) col (nI h)) q (-1) 1 M := by
  have p4 := zp4 bA
  have v1 : vp_in 1 279 := vp_in_nI (n := 1) (by decide) (by decide)
  refine za_lp2_ind (fun s x4 x5 M' => ∃ c, x5 = nI (c + 1) ∧ c + 1 + s = 4 ^ nA ∧ x4 = (if zrc N p h col nA c = 0 then -1 else nI (zrc N p h col nA c)) ∧ zk [34, 35] M M') ?_ ?_ (4 ^ nA - 1) (-1) 1 M ⟨0, rfl, by omega, by rw [zrc, if_pos rfl], zk_rf _ _⟩
  · intro x4 x5 M' ⟨c, a1, a2, a3, a4⟩ L
    subst a1
    have zb := zrc_b N p h col nA c (by omega)
    have := k M' a4
    rw [show 4 ^ nA - 1 = c by omega] at this
    unfold f_X10_recipe_b35
    rw [zZ1, a4.1 (28, 0, 0) (by decide), e28, eA, zsh_4 nA bA, if_pos (nI_le (by omega) (by omega)), a3]
    refine ⟨v1, ?_⟩
    by_cases z : zrc N p h col nA c = 0
    · rw [if_pos z] at this
      rw [if_pos z, if_neg (by decide)]
      exact this
    · rw [if_neg z] at this
      rw [if_neg z, if_pos (nI_pos' (by omega))]
      exact this
  · intro s x4 x5 M' ⟨c, a1, a2, a3, a4⟩ L hL
    subst a1
    have zb := zrc_b N p h col nA c (by omega)
    have mb := zmx_b (c + 1) (by omega)
    have e' := (a4.1 (28, 0, 0) (by decide)).trans e28
    unfold f_X10_recipe_b35 f_X10_recipe_b99 f_X10_recipe_b100 f_X10_recipe_b123 f_X10_recipe_b125
    rw [zZ1, e', eA, zsh_4 nA bA, if_neg (by rw [nI_leI (by omega) (by omega)]; omega), nI_1]
    refine ⟨v1, zr_mixOf (by omega) ?_⟩
    have stay : ¬ ((zrc N p h col nA c = 0 ∨ zds (zmx (c + 1)) 5 < zds (zrc N p h col nA c) 5) ∧ (zhs N p (zmx (c + 1)) nA = 1 ∧ zmF N (zmx (c + 1)) h nA = 0) ∧ zrest (zmS N (zmx (c + 1)) h nA) = col) → ∀ M2, zk [34, 35] M M2 → L x4 (nI (c + 1 + 1)) M2 := fun q M2 k2 => hL _ _ _ ⟨c + 1, rfl, by omega, by rw [zrc, if_neg q]; exact a3, k2⟩
    have try_ : (zrc N p h col nA c = 0 ∨ zds (zmx (c + 1)) 5 < zds (zrc N p h col nA c) 5) → f_X10_recipe_b75 K L (nI p) col (nI h) x4 (nI (c + 1)) (nI (zmx (c + 1))) M' := by
      intro better
      unfold f_X10_recipe_b75 f_X10_recipe_b99 f_X10_recipe_b100 f_X10_recipe_b123 f_X10_recipe_b125
      refine zr_has e' eA bA hp (by omega) ?_
      rw [nI_1]
      rcases zhs_B N p (zmx (c + 1)) nA with w | w
      · rw [if_pos w]
        exact stay (fun q => by rw [w] at q; exact absurd q.2.1.1 (by decide)) M' a4
      · rw [if_neg (by rw [w]; decide)]
        refine zr_for e' eA bA (by omega) hh ?_
        by_cases y : zmF N (zmx (c + 1)) h nA = 0
        · rw [if_pos y, if_neg (show ¬ (1 : Int32) = 0 by decide)]
          refine zr_mcol e' hT eA bA (by omega) (fun M2 k2 => ?_)
          by_cases x : zrest (zmS N (zmx (c + 1)) h nA) = col
          · rw [if_pos x]
            have ez : zrc N p h col nA (c + 1) = zmx (c + 1) := by rw [zrc, if_pos ⟨better, ⟨w, y⟩, x⟩]
            exact hL _ _ _ ⟨c + 1, rfl, by omega, by rw [ez, if_neg (mb.2.1 (by omega)).1], zk_tr a4 k2⟩
          · rw [if_neg x]
            exact stay (fun q => x q.2.2) M2 (zk_tr a4 k2)
        · rw [if_neg y, if_pos (rfl : (0 : Int32) = 0)]
          exact stay (fun q => y q.2.1.2) M' a4
    by_cases z : zrc N p h col nA c = 0
    · rw [if_pos (by rw [a3, if_pos z]; decide)]
      exact try_ (Or.inl z)
    · have ex : x4 = nI (zrc N p h col nA c) := by rw [a3, if_neg z]
      rw [if_neg (by rw [ex]; exact nI_pos (by omega))]
      refine zr_bus (by omega) ?_
      rw [ex]
      refine zr_bus (by omega) ?_
      rw [← ex]
      by_cases w : zds (zrc N p h col nA c) 5 ≤ zds (zmx (c + 1)) 5
      · rw [if_pos (nI_le w (by omega)), if_pos (rfl : (0 : Int32) = 0)]
        exact stay (fun q => by rcases q.1 with q1 | q1 <;> omega) M' a4
      · rw [if_neg (nI_ge (by omega) (by omega))]
        exact try_ (Or.inr (by omega))
theorem zI_1825 {M M1 M2 : za_M} (h : zI M) (k1 : zk [18, 25, 26] M M1) (k2 : zk [34, 35] M1 M2) : zI M2 := zI_scr h (fun x a b c d e => (k2.1 x (by simp [b, c])).trans (k1.1 x (by simp [a, d, e]))) (by rw [k2.2, k1.2])
theorem zT_recipe (x1 x2 x3 : Int32) : zV (f_X9_recipe x1 x2 x3) (f_X10_recipe x1 x2 x3) := by
  intro M K hI hK
  obtain ⟨nA, nP, nL, bA, bP, bL, rA, rP, rL, cA, cP, cL⟩ := zI_cnt hI
  unfold f_X9_recipe
  rw [zq_cPot, cP]
  rcases (zw_cs x1 (n := nP) (by omega)).symm with q0 | ⟨p, hpp, rfl, q0⟩
  · rw [if_pos q0]
    refine zV_fg (R := f_X10_recipe x1 x2 x3) (y := -1000000001) 1 rfl (by decide) (by decide) rfl hI hK (fun M1 K' h hh => ?_)
    unfold f_X10_recipe
    rw [zq_rPot, h (28, 0, 0) (by decide), rP, if_pos q0]; exact hh
  have q0' : ¬ zw (nI p) 0 (nI nP - 1) = 0 := by rw [q0]; decide
  rw [if_neg q0', zq_cCo]
  rcases (zw_cs x2 (n := 10) (by omega)).symm with q1 | ⟨c, hc, rfl, q1⟩
  · have q1 : zw x2 0 9 = 0 := q1
    rw [if_pos q1]
    refine zV_fg (R := f_X10_recipe (nI p) x2 x3) (y := -1000000001) 1 rfl (by decide) (by decide) rfl hI hK (fun M1 K' h hh => ?_)
    unfold f_X10_recipe
    rw [zq_rPot, h (28, 0, 0) (by decide), rP, if_neg q0', zq_rDig, if_pos q1]; exact hh
  have q1 : zw (nI c) 0 9 = 1 := q1
  have q1' : ¬ zw (nI c) 0 9 = 0 := by rw [q1]; decide
  rw [if_neg q1', zq_cHeat]
  rcases (zw_cs x3 (n := 10) (by omega)).symm with q2 | ⟨h, hh, rfl, q2⟩
  · have q2 : zw x3 0 9 = 0 := q2
    rw [if_pos q2]
    refine zV_fg (R := f_X10_recipe (nI p) (nI c) x3) (y := -1000000001) 1 rfl (by decide) (by decide) rfl hI hK (fun M1 K' h hh => ?_)
    unfold f_X10_recipe
    rw [zq_rPot, h (28, 0, 0) (by decide), rP, if_neg q0', zq_rDig, if_neg q1', zq_rDig, if_pos q2]; exact hh
  have q2 : zw (nI h) 0 9 = 1 := q2
  have q2' : ¬ zw (nI h) 0 9 = 0 := by rw [q2]; decide
  have p4 := zp4 bA
  rw [if_neg q2', zx_in (by omega) (by decide), nI_clamp (by omega)]
  have pP : p < (M.1 (28, 0, 0) 2).toNatClampNeg := by rw [rP, nI_clamp (by omega)]; exact hpp
  refine zc_prep hI.2.2.1.1 (hI.2.2.1.2.1 0 (by decide)) rA bA pP hh (fun M1 k1 l1 => ?_)
  refine zc_rec hI.1.1 (by rw [k1.1 (2, 0, 0) (by simp)]; exact cA) rA bA (by omega) l1 ?_
  have zb := zrc_b (M.1 (28, 0, 0)) p h (nI c) nA (4 ^ nA - 1) (by omega)
  have ref : ∀ (M2 : za_M) (K' : Int32 → za_M → Prop), M2.1 (28, 0, 0) = M.1 (28, 0, 0) → (∀ M', zk [34, 35] M2 M' → (if zrc (M.1 (28, 0, 0)) p h (nI c) nA (4 ^ nA - 1) = 0 then f_X10_finding (-1000000002) M' (fun r15 M14 => K' r15 M14) else K' (nI (zrc (M.1 (28, 0, 0)) p h (nI c) nA (4 ^ nA - 1))) M')) → f_X10_recipe (nI p) (nI c) (nI h) M2 K' := by
    intro M2 K' o hh2
    unfold f_X10_recipe
    rw [zq_rPot, o, rP, if_neg q0', zq_rDig, if_neg q1', zq_rDig, if_neg q2']
    exact zr_rec o hI.1.2 rA bA (by omega) hh hh2
  by_cases z : zrc (M.1 (28, 0, 0)) p h (nI c) nA (4 ^ nA - 1) = 0
  · rw [if_pos (by rw [z]; rfl)]
    refine zV_fh (R := f_X10_recipe (nI p) (nI c) (nI h)) (y := -1000000002) 2 rfl (by decide) (by decide) rfl (zI_1825 hI k1 (zk_rf _ _)) hK (fun M2 K' h' p' hh' => ?_)
    refine ref M2 K' ((h' (28, 0, 0) (by decide)).trans (k1.1 _ (by simp))) (fun M3 k3 => ?_)
    rw [if_pos z]
    exact hh' M3 (k3.1 _ (by simp)) (fun x a b c d => k3.1 x (by simp [c, d])) (fun j hj => by rw [k3.1 (30, 0, 0) (by simp), h' (30, 0, 0) (by decide), k1.1 (30, 0, 0) (by simp), k1.1 (28, 0, 0) (by simp)]; exact (hI.2.2.2.2.2.2 j hj).2) k3.2
  · rw [if_neg (nI_ne0 (by omega) (by omega))]
    refine ref M1 _ (k1.1 _ (by simp)) (fun M2 k2 => ?_)
    rw [if_neg z]
    exact hK _ _ (zI_1825 hI k1 k2)

/-! single calls, fifteen: burnt, odds -/
def zbg (N : Nat → Int32) (f : Nat → Int32) (a : Nat) : Nat → Int32
  | 0 => 1
  | h+1 => if zbg N f a h = 0 then 0 else if f h < 0 then 1 else if f h = zrest (zcol N a h) then 1 else 0
def zbt (N : Nat → Int32) (f : Nat → Int32) (n : Nat) : Nat → Int32
  | 0 => 0
  | a+1 => zbt N f n a ||| (if zbg N f a n = 0 then 0 else (1 : Int32) <<< (nI a &&& 31))
theorem zbg_dn {N f : Nat → Int32} {a i : Nat} (q : zbg N f a i = 0) : ∀ n, i ≤ n → zbg N f a n = 0 := by
  intro n
  induction n with
  | zero => intro hn; rw [show i = 0 by omega] at q; exact q
  | succ n ih =>
    intro hn
    by_cases z : i = n + 1
    · rw [← z]; exact q
    · rw [zbg, if_pos (ih (by omega))]
theorem zc_chg {N f : Nat → Int32} {M : za_M} {a q n : Nat} {K : Int32 → za_M → Prop} (hc : zc 0 N M) (hl : zlw 0 0 (zTn N 0) (zTf N 0) M) (ha : a < (N 1).toNatClampNeg) (hs : M.1 (9, 0, q) 2 = nI n) (hf : M.1 (23, 0, q) = f) (hn : n ≤ 10) (k : ∀ M', zk [18] M M' → K (zbg N f a n) M') : f_X9_canHaveGiven 0 a q M K := by
  unfold f_X9_canHaveGiven
  refine za_lp1_ind (fun s x M' => ∃ i, x = nI i ∧ i + s = n ∧ zbg N f a i = 1 ∧ zk [18] M M') ?_ ?_ n 0 M ⟨0, rfl, by omega, rfl, zk_rf _ _⟩
  · intro x M' ⟨i, a1, a2, a3, a4⟩ L
    subst a1
    unfold f_X9_canHaveGiven_b2
    rw [a4.1 (9, 0, q) (by simp), hs, if_pos (nI_le (by omega) (by omega)), ← a3, show i = n by omega]
    exact k M' a4
  · intro s x M' ⟨i, a1, a2, a3, a4⟩ L hL
    subst a1
    have n0 : ¬ zbg N f a i = 0 := by rw [a3]; decide
    unfold f_X9_canHaveGiven_b2 f_X9_canHaveGiven_b39
    rw [a4.1 (9, 0, q) (by simp), hs, if_neg (by rw [nI_leI (by omega) (by omega)]; omega), zx_in (by omega) (by decide), za_letE, a4.1 (23, 0, q) (by simp), hf, nI_clamp (by omega), nI_1]
    by_cases z : f i < 0
    · rw [if_pos z]
      exact hL _ _ ⟨i + 1, rfl, by omega, by rw [zbg, if_neg n0, if_pos z], a4⟩
    · rw [if_neg z]
      refine zq_cCol (zc_k hc a4) (zlw_cg hl (a4.1 _ (by simp)) (a4.1 _ (by simp))) ha (fun M1 k1 => ?_)
      rw [zq_cRest]
      by_cases y : f i = zrest (zcol N a i)
      · rw [if_pos y]
        exact hL _ _ ⟨i + 1, rfl, by omega, by rw [zbg, if_neg n0, if_neg z, if_pos y], zk_tr a4 k1⟩
      · rw [if_neg y, ← zbg_dn (N := N) (f := f) (a := a) (i := i + 1) (n := n) (by rw [zbg, if_neg n0, if_neg z, if_neg y]) (by omega)]
        exact k M1 (zk_tr a4 k1)
theorem zbg_B (N f : Nat → Int32) (a n : Nat) : zbg N f a n = 0 ∨ zbg N f a n = 1 := by
  cases n with
  | zero => exact Or.inr rfl
  | succ n =>
    rw [zbg]
    split
    · exact Or.inl rfl
    · split
      · exact Or.inr rfl
      · split
        · exact Or.inr rfl
        · exact Or.inl rfl
theorem zc_bnt {N f : Nat → Int32} {M : za_M} {q n nA : Nat} {K : Int32 → za_M → Prop} (hc : zc 0 N M) (hl : zlw 0 0 (zTn N 0) (zTf N 0) M) (eA : N 1 = nI nA) (bA : nA < 6) (hq : q < 4) (hs : M.1 (9, 0, q) 2 = nI n) (hf : M.1 (23, 0, q) = f) (hn : n ≤ 10) (k : ∀ M', zk [18] M M' → K (zbt N f n nA) M') : ∃ d, za_lp2 (f_X9_burnt_b49 K (nI q)) d 0 0 M := by
  refine za_lp2_ind (fun s x2 x3 M' => ∃ i, x3 = nI i ∧ i + s = nA ∧ x2 = zbt N f n i ∧ zk [18] M M') ?_ ?_ nA 0 0 M ⟨0, rfl, by omega, rfl, zk_rf _ _⟩
  · intro x2 x3 M' ⟨i, a1, a2, a3, a4⟩ L
    subst a1; subst a3
    unfold f_X9_burnt_b49
    rw [(zc_k hc a4).1.1, eA, if_pos (nI_le (by omega) (by omega)), show i = nA by omega]
    exact k M' a4
  · intro s x2 x3 M' ⟨i, a1, a2, a3, a4⟩ L hL
    subst a1; subst a3
    unfold f_X9_burnt_b49 f_X9_burnt_b94
    rw [(zc_k hc a4).1.1, eA, if_neg (by rw [nI_leI (by omega) (by omega)]; omega), zx_in (by omega) (by decide), zx_in hq (by decide), nI_clamp (by omega), nI_clamp (by omega)]
    refine zc_chg (f := f) (n := n) (zc_k hc a4) (zlw_cg hl (a4.1 _ (by simp)) (a4.1 _ (by simp))) (by rw [eA, nI_clamp (by omega)]; omega) (by rw [a4.1 (9, 0, q) (by simp)]; exact hs) (by rw [a4.1 (23, 0, q) (by simp)]; exact hf) hn (fun M1 k1 => ?_)
    rw [nI_1]
    by_cases z : zbg N f i n = 0
    · rw [if_pos z]
      exact hL _ _ _ ⟨i + 1, rfl, by omega, by rw [zbt, if_pos z, Int32.or_zero], zk_tr a4 k1⟩
    · rw [if_neg z, za_letE]
      exact hL _ _ _ ⟨i + 1, rfl, by omega, by rw [zbt, if_neg z], zk_tr a4 k1⟩
theorem zr_bnt {N f : Nat → Int32} {M : za_M} {q n nA : Nat} {K : Int32 → za_M → Prop} (e28 : M.1 (28, 0, 0) = N) (hT : zT N) (eA : N 1 = nI nA) (bA : nA < 6) (hq : q < 4) (hs : M.1 (38, 0, 0) q = nI n) (hf : ∀ i, i < n → M.1 (39, 0, 0) (40 * q + i) = f i) (hn : n ≤ 10) (k : ∀ M', zk [34, 35] M M' → K (zbt N f n nA) M') : ∃ d, za_lp2 (f_X10_burnt_b45 K (nI q)) d 0 0 M := by
  have v1 : vp_in 1 279 := vp_in_nI (n := 1) (by decide) (by decide)
  have eix : ∀ i, 40 * nI q + nI i = nI (40 * q + i) := fun i => by rw [zl_lit 40, pk_mul, nI_add]
  refine za_lp2_ind (fun s x2 x3 M' => ∃ i, x3 = nI i ∧ i + s = nA ∧ x2 = zbt N f n i ∧ zk [34, 35] M M') ?_ ?_ nA 0 0 M ⟨0, rfl, by omega, rfl, zk_rf _ _⟩
  · intro x2 x3 M' ⟨i, a1, a2, a3, a4⟩ L
    subst a1; subst a3
    unfold f_X10_burnt_b45
    rw [zZ1, a4.1 (28, 0, 0) (by decide), e28, eA, if_pos (nI_le (by omega) (by omega)), show i = nA by omega]
    exact ⟨v1, k M' a4⟩
  · intro s x2 x3 M' ⟨i, a1, a2, a3, a4⟩ L hL
    subst a1; subst a3
    unfold f_X10_burnt_b45
    rw [zZ1, a4.1 (28, 0, 0) (by decide), e28, eA, if_neg (by rw [nI_leI (by omega) (by omega)]; omega)]
    refine ⟨v1, ?_⟩
    refine za_lp2_ind (fun s x4 x5 M2 => ∃ h, x5 = nI h ∧ h + s = n ∧ x4 = zbg N f i h ∧ zk [34, 35] M M2) ?_ ?_ n 1 0 M' ⟨0, rfl, by omega, rfl, a4⟩
    · intro x4 x5 M2 ⟨h, b1, b2, b3, b4⟩ L2
      subst b1; subst b3
      unfold f_X10_burnt_b61 f_X10_burnt_b137
      rw [zx_in hq (by decide), nI_clamp (by omega), b4.1 (38, 0, 0) (by decide), hs, if_pos (nI_le (by omega) (by omega)), za_letE, za_letE, nI_1, show h = n by omega]
      by_cases z : zbg N f i n = 0
      · rw [if_pos z]
        exact hL _ _ _ ⟨i + 1, rfl, by omega, by rw [zbt, if_pos z], b4⟩
      · rw [if_neg z]
        exact hL _ _ _ ⟨i + 1, rfl, by omega, by rw [zbt, if_neg z], b4⟩
    · intro s2 x4 x5 M2 ⟨h, b1, b2, b3, b4⟩ L2 hL2
      subst b1; subst b3
      unfold f_X10_burnt_b61 f_X10_burnt_b115 f_X10_burnt_b111 f_X10_burnt_b116
      rw [zx_in hq (by decide), nI_clamp (by omega), b4.1 (38, 0, 0) (by decide), hs, if_neg (by rw [nI_leI (by omega) (by omega)]; omega), eix, zx_in (by omega) (by decide), za_letE, nI_clamp (by omega), b4.1 (39, 0, 0) (by decide), hf h (by omega), nI_1]
      by_cases z : zbg N f i h = 0
      · rw [if_pos z]
        exact hL2 _ _ _ ⟨h + 1, rfl, by omega, by rw [zbg, if_pos z], b4⟩
      rw [if_neg z]
      by_cases y : f h < 0
      · rw [if_pos y]
        exact hL2 _ _ _ ⟨h + 1, rfl, by omega, by rw [zbg, if_neg z, if_pos y], b4⟩
      rw [if_neg y]
      refine zq_rCol ((b4.1 (28, 0, 0) (by decide)).trans e28) hT (by omega) (fun M3 k3 => ?_)
      rw [zq_rRest]
      by_cases w : f h = zrest (zcol N i h)
      · rw [if_pos w]
        exact hL2 _ _ _ ⟨h + 1, rfl, by omega, by rw [zbg, if_neg z, if_neg y, if_pos w], zk_tr b4 k3⟩
      · rw [if_neg w]
        exact hL2 _ _ _ ⟨h + 1, rfl, by omega, by rw [zbg, if_neg z, if_neg y, if_neg w], zk_tr b4 k3⟩
theorem zT_burnt (x1 : Int32) : zV (f_X9_burnt x1) (f_X10_burnt x1) := by
  intro M K hI hK
  obtain ⟨nA, nP, nL, bA, bP, bL, rA, rP, rL, cA, cP, cL⟩ := zI_cnt hI
  unfold f_X9_burnt
  rw [zq_cSh]
  rcases (zw_cs x1 (n := 4) (by omega)).symm with q1 | ⟨q, hq, rfl, q1⟩
  · have q1 : zw x1 0 3 = 0 := q1
    rw [if_pos q1]
    exact zV_fg (R := f_X10_burnt x1) (y := -1000000001) 1 rfl (by decide) (by decide) rfl hI hK (fun M1 K' h hh => by unfold f_X10_burnt; rw [zq_rSh, if_pos q1]; exact hh)
  have q1 : zw (nI q) 0 3 = 1 := q1
  have q1' : ¬ zw (nI q) 0 3 = 0 := by rw [q1]; decide
  obtain ⟨s1, s2, s3, s4⟩ := hI.2.2.2.2.1.2.2.2 q hq
  have hz := zs_cl s3 (by decide)
  generalize hn : (M.1 (9, 0, q) 2).toNatClampNeg = n at *
  have r2 : M.1 (38, 0, 0) q = nI n := by rw [← s2]; exact hz.2
  have vq : vp_in (nI q) 4 := vp_in_nI hq (by decide)
  rw [if_neg q1', zx_in hq (by decide), nI_clamp (by omega), zq_cMis, zx_in hq (by decide)]
  by_cases m : M.1 (9, 0, q) 1 = 0
  · rw [if_pos m, if_neg (by decide)]
    refine zV_fg (R := f_X10_burnt (nI q)) (y := -1000000002) 2 rfl (by decide) (by decide) rfl hI hK (fun M1 K' h hh => ?_)
    unfold f_X10_burnt
    rw [zq_rSh, if_neg q1', zx_in hq (by decide), nI_clamp (by omega), h (37, 0, 0) (by decide), ← s1, if_pos m]
    exact hh
  rw [if_neg m, if_pos rfl, hz.2]
  by_cases q2 : n ≤ 10
  · have q2' : nI n ≤ 10 := nI_le (b := 10) q2 (by omega)
    rw [if_pos q2']
    refine zc_bnt hI.2.2.1.1 (hI.2.2.1.2.1 0 (by decide)) rA bA hq hz.2 rfl q2 (fun M1 k1 => ?_)
    unfold f_X10_burnt
    rw [zq_rSh, if_neg q1', zx_in hq (by decide), nI_clamp (by omega), k1.1 (37, 0, 0) (by simp), ← s1, if_neg m, zx_in hq (by decide), k1.1 (38, 0, 0) (by simp), r2, if_pos q2']
    exact zr_bnt (k1.1 (28, 0, 0) (by simp)) hI.1.2 rA bA hq (by rw [k1.1 (38, 0, 0) (by simp)]; exact r2) (fun i hi => by rw [k1.1 (39, 0, 0) (by simp)]; exact (s4 i hi).symm) q2 (fun M2 k2 => hK _ _ (zI_183 hI k1 k2))
  · have q2' : ¬ nI n ≤ 10 := fun z => q2 ((nI_leI (a := n) (b := 10) (by omega) (by omega)).mp z)
    rw [if_neg q2']
    refine zV_fg (R := f_X10_burnt (nI q)) (y := -1000000002) 2 rfl (by decide) (by decide) rfl hI hK (fun M1 K' h hh => ?_)
    unfold f_X10_burnt
    rw [zq_rSh, if_neg q1', zx_in hq (by decide), nI_clamp (by omega), h (37, 0, 0) (by decide), ← s1, if_neg m, zx_in hq (by decide), h (38, 0, 0) (by decide), r2, if_neg q2']
    exact hh
/-! odds -/
theorem zor_b : ∀ h, h < 10 → ∀ s, s < 2 ^ h → nI s ||| ((1 : Int32) <<< (nI h &&& 31)) = nI (s + 2 ^ h) := by decide +kernel
theorem zhe_b (N : Nat → Int32) (m : Nat) (c : Int32) (nA : Nat) : ∀ h, h ≤ 10 → ∃ s, s < 2 ^ h ∧ zhe N m c nA h = nI s := by
  intro h
  induction h with
  | zero => intro _; exact ⟨0, by decide, rfl⟩
  | succ h ih =>
    intro hh
    obtain ⟨s, hs, e⟩ := ih (by omega)
    rw [zhe, e]
    by_cases z : zcm N m h nA = c
    · rw [if_pos z]
      exact ⟨s + 2 ^ h, by rw [Nat.pow_succ]; omega, zor_b h (by omega) s hs⟩
    · rw [if_neg z, Int32.or_zero]
      exact ⟨s, by rw [Nat.pow_succ]; omega, rfl⟩
def zpc (s : Nat) : Nat := s % 2 + s / 2 % 2 + s / 4 % 2 + s / 8 % 2 + s / 16 % 2 + s / 32 % 2 + s / 64 % 2 + s / 128 % 2 + s / 256 % 2 + s / 512 % 2
theorem zpc_le (s : Nat) : zpc s ≤ 10 := by unfold zpc; omega
def zbcE (x0 : Int32) : Int32 :=
  let y1 := x0 - (((x0.toUInt32 >>> ((1 : Int32).toUInt32 &&& Int32.toUInt32 31)).toInt32) &&& 1431655765)
  let y3 := (y1 &&& 858993459) + (((y1.toUInt32 >>> ((2 : Int32).toUInt32 &&& Int32.toUInt32 31)).toInt32) &&& 858993459)
  let y5 := (y3 + ((y3.toUInt32 >>> ((4 : Int32).toUInt32 &&& Int32.toUInt32 31)).toInt32)) &&& 252645135
  let y7 := y5 + ((y5.toUInt32 >>> ((8 : Int32).toUInt32 &&& Int32.toUInt32 31)).toInt32)
  let y9 := y7 + ((y7.toUInt32 >>> ((16 : Int32).toUInt32 &&& Int32.toUInt32 31)).toInt32)
  y9 &&& 63
theorem zbc_all : ∀ s, s < 1024 → zbcE (nI s) = nI (zpc s) := by decide +kernel
theorem zlo_all : ∀ s, s < 1024 → s ≠ 0 → nI s &&& (nI s - 1) = nI (s &&& (s - 1)) ∧ zpc (s &&& (s - 1)) + 1 = zpc s ∧ s &&& (s - 1) < 1024 := by decide +kernel
theorem zpc_0 : ∀ s, s < 1024 → zpc s = 0 → s = 0 := by decide +kernel
theorem zq_bc {s : Nat} (hs : s < 1024) (M : za_M) (K : Int32 → za_M → Prop) (k : K (nI (zpc s)) M) : f_J6_bitCount_0f7a4 (nI s) M K := by
  unfold f_J6_bitCount_0f7a4
  rw [za_letE, za_letE, za_letE, za_letE, za_letE]
  have := zbc_all s hs
  unfold zbcE at this
  rw [← this] at k
  exact k
theorem zgcd_all : ∀ a, a < 11 → ∀ d, d < 11 → 2 ≤ d → Nat.gcd a 10 ≤ d → (a % d = 0 ∧ 10 % d = 0 ↔ Nat.gcd a 10 = d) := by decide +kernel
theorem zgcd_b : ∀ a, a < 11 → 1 ≤ Nat.gcd a 10 ∧ Nat.gcd a 10 ≤ 10 := by decide +kernel
theorem zq_cd {a : Nat} (ha : a < 11) (M : za_M) (K : Int32 → za_M → Prop) (k : K (nI (Nat.gcd a 10)) M) : f_X9_commonDivisor (nI a) 10 M K := by
  have gb := zgcd_b a ha
  unfold f_X9_commonDivisor
  refine za_lp1_ind (fun s x2 M' => ∃ d, x2 = nI d ∧ d = s + 1 ∧ d < 11 ∧ Nat.gcd a 10 ≤ d ∧ M' = M) ?_ ?_ 9 10 M ⟨10, rfl, rfl, by omega, gb.2, rfl⟩
  · intro x2 M' ⟨d, a1, a2, a3, a4, a5⟩ L
    subst a1; subst a5
    unfold f_X9_commonDivisor_b2
    rw [show d = 1 by omega, if_pos (show nI 1 ≤ 1 by decide)]
    rw [show Nat.gcd a 10 = 1 by omega] at k
    exact k
  · intro s x2 M' ⟨d, a1, a2, a3, a4, a5⟩ L hL
    subst a1; subst a5
    have al := zgcd_all a ha d a3 (by omega) a4
    unfold f_X9_commonDivisor_b2 f_X9_commonDivisor_b21
    rw [if_neg (show ¬ nI d ≤ 1 from fun z => by have := (nI_leI (a := d) (b := 1) (by omega) (by omega)).mp z; omega), zl_m1 (by omega), pk_rem (by omega) (by omega) (by omega), zl_lit 10, pk_rem (by omega) (by omega) (by omega)]
    have nz : ¬ nI d = 0 := nI_ne0 (by omega) (by omega)
    have m1 := Nat.mod_lt a (show 0 < d by omega)
    have m2 := Nat.mod_lt 10 (show 0 < d by omega)
    have nx : ¬ Nat.gcd a 10 = d → L (nI (d - 1)) M' := fun q => hL _ _ ⟨d - 1, rfl, by omega, by omega, by omega, rfl⟩
    refine ⟨nz, ?_⟩
    by_cases z : a % d = 0
    · rw [if_pos (show nI (a % d) = 0 by rw [z]; rfl)]
      refine ⟨nz, ?_⟩
      by_cases y : 10 % d = 0
      · rw [if_pos (show nI (10 % d) = 0 by rw [y]; rfl)]
        rw [al.mp ⟨z, y⟩] at k
        exact k
      · rw [if_neg (nI_ne0 (by omega) (by omega))]
        exact nx (fun q => y (al.mpr q).2)
    · rw [if_neg (nI_ne0 (by omega) (by omega))]
      exact nx (fun q => z (al.mpr q).1)
theorem zr_gcd {a : Nat} (ha : a < 11) {x3 : Int32} {M : za_M} {K : Int32 → za_M → Prop} (k : if x3 = 0 then K (nI a / nI (Nat.gcd a 10)) M else K (10 / nI (Nat.gcd a 10)) M) : ∃ n, za_lp2 (f_X10_odds_b70 K x3 (nI a)) n 10 (nI a) M := by
  refine za_lp2_ind (fun s x5 x6 M' => ∃ u v, x5 = nI u ∧ x6 = nI v ∧ v ≤ s ∧ v < 11 ∧ 0 < u ∧ u < 11 ∧ Nat.gcd v u = Nat.gcd a 10 ∧ M' = M) ?_ ?_ a 10 (nI a) M ⟨10, a, rfl, rfl, by omega, ha, by omega, by omega, rfl, rfl⟩
  · intro x5 x6 M' ⟨u, v, a1, a2, a3, a4, a5, a6, a7, a8⟩ L
    subst a1; subst a2; subst a8
    have v0 : v = 0 := by omega
    subst v0
    rw [Nat.gcd_zero_left] at a7
    unfold f_X10_odds_b70
    rw [if_pos (show nI 0 = 0 from rfl), a7]
    have nz : ¬ nI (Nat.gcd a 10) = 0 := by rw [← a7]; exact nI_ne0 a5 (by omega)
    by_cases z : x3 = 0
    · rw [if_pos z] at k ⊢
      exact ⟨nz, k⟩
    · rw [if_neg z] at k ⊢
      exact ⟨nz, k⟩
  · intro s x5 x6 M' ⟨u, v, a1, a2, a3, a4, a5, a6, a7, a8⟩ L hL
    subst a1; subst a2; subst a8
    unfold f_X10_odds_b70
    by_cases z : v = 0
    · subst z
      rw [Nat.gcd_zero_left] at a7
      rw [if_pos (show nI 0 = 0 from rfl), a7]
      have nz : ¬ nI (Nat.gcd a 10) = 0 := by rw [← a7]; exact nI_ne0 a5 (by omega)
      by_cases z : x3 = 0
      · rw [if_pos z] at k ⊢
        exact ⟨nz, k⟩
      · rw [if_neg z] at k ⊢
        exact ⟨nz, k⟩
    · have nz : ¬ nI v = 0 := nI_ne0 (by omega) (by omega)
      have ml := Nat.mod_lt u (show 0 < v by omega)
      rw [if_neg nz, za_letE, pk_rem (by omega) (by omega) (by omega)]
      exact ⟨nz, hL _ _ _ ⟨v, u % v, rfl, rfl, by omega, by omega, by omega, a4, by rw [← Nat.gcd_rec]; exact a7, rfl⟩⟩
theorem zT_odds (x1 x2 x3 : Int32) : zV (f_X9_odds x1 x2 x3) (f_X10_odds x1 x2 x3) := by
  intro M K hI hK
  obtain ⟨nA, nP, nL, bA, bP, bL, rA, rP, rL, cA, cP, cL⟩ := zI_cnt hI
  have hp := zpw bA
  unfold f_X9_odds
  rw [zq_cMix bA cA]
  rcases (zw_cs x1 (n := 10 ^ nA) (by omega)).symm with q1 | ⟨m, hm, rfl, q1⟩
  · rw [if_pos q1]
    refine zV_fg (R := f_X10_odds x1 x2 x3) (y := -1000000001) 1 rfl (by decide) (by decide) rfl hI hK (fun M1 K' h hh => ?_)
    unfold f_X10_odds
    refine zq_rMix bA (by rw [h (28, 0, 0) (by decide)]; exact rA) ?_
    rw [if_pos q1]; exact hh
  have q1' : ¬ zw (nI m) 0 (nI (10 ^ nA) - 1) = 0 := by rw [q1]; decide
  rw [if_neg q1', zq_cCo]
  rcases (zw_cs x2 (n := 10) (by omega)).symm with q2 | ⟨c, hc, rfl, q2⟩
  · have q2 : zw x2 0 9 = 0 := q2
    rw [if_pos q2]
    refine zV_fg (R := f_X10_odds (nI m) x2 x3) (y := -1000000001) 1 rfl (by decide) (by decide) rfl hI hK (fun M1 K' h hh => ?_)
    unfold f_X10_odds
    refine zq_rMix bA (by rw [h (28, 0, 0) (by decide)]; exact rA) ?_
    rw [if_neg q1', zq_rDig, if_pos q2]; exact hh
  have q2 : zw (nI c) 0 9 = 1 := q2
  have q2' : ¬ zw (nI c) 0 9 = 0 := by rw [q2]; decide
  rw [if_neg q2', zf_X9_within]
  by_cases q3 : zw x3 0 1 = 0
  · rw [if_pos q3]
    refine zV_fg (R := f_X10_odds (nI m) (nI c) x3) (y := -1000000001) 1 rfl (by decide) (by decide) rfl hI hK (fun M1 K' h hh => ?_)
    unfold f_X10_odds
    refine zq_rMix bA (by rw [h (28, 0, 0) (by decide)]; exact rA) ?_
    rw [if_neg q1', zq_rDig, if_neg q2', zf_X10_within, if_pos q3]; exact hh
  rw [if_neg q3]
  obtain ⟨s, hs, es⟩ := zhe_b (M.1 (28, 0, 0)) m (nI c) nA 10 (by omega)
  have hs : s < 1024 := hs
  have hpc := zpc_le s
  have gb := zgcd_b (zpc s) (by omega)
  have nz : ¬ nI (Nat.gcd (zpc s) 10) = 0 := nI_ne0 (by omega) (by omega)
  refine zc_heats hI.2.2.1.1 (hI.2.2.1.2.1 0 (by decide)) rA bA (by omega) (fun M1 k1 => ?_)
  rw [es]
  refine zq_bc hs _ _ (zq_cd (by omega) _ _ ?_)
  have ref : ∀ v : Int32, v = (if x3 = 0 then nI (zpc s) / nI (Nat.gcd (zpc s) 10) else 10 / nI (Nat.gcd (zpc s) 10)) → f_X10_odds (nI m) (nI c) x3 M1 (fun r2 M2 => K v r2 M2) := by
    intro v hv
    have o := k1.1 (28, 0, 0) (by decide)
    unfold f_X10_odds
    refine zq_rMix bA (by rw [o]; exact rA) ?_
    rw [if_neg q1', zq_rDig, if_neg q2', zf_X10_within, if_neg q3]
    refine zr_heats o hI.1.2 rA bA (by omega) (zm1 hc) (fun M2 k2 => ?_)
    rw [es]
    refine za_lp2_ind (fun f x4 x5 M' => ∃ i t, x4 = nI i ∧ x5 = nI t ∧ t < 1024 ∧ zpc t = f ∧ i + f = zpc s ∧ M' = M2) ?_ ?_ (zpc s) 0 (nI s) M2 ⟨0, s, rfl, rfl, hs, rfl, by omega, rfl⟩
    · intro x4 x5 M' ⟨i, t, a1, a2, a3, a4, a5, a6⟩ L
      subst a1; subst a2; subst a6
      have t0 := zpc_0 t a3 a4
      unfold f_X10_odds_b42
      rw [t0, if_pos (show nI 0 = 0 from rfl), show i = zpc s by omega]
      refine zr_gcd (by omega) ?_
      by_cases z : x3 = 0
      · rw [if_pos z] at hv ⊢
        rw [← hv]
        exact hK _ _ (zI_183 hI k1 k2)
      · rw [if_neg z] at hv ⊢
        rw [← hv]
        exact hK _ _ (zI_183 hI k1 k2)
    · intro f x4 x5 M' ⟨i, t, a1, a2, a3, a4, a5, a6⟩ L hL
      subst a1; subst a2; subst a6
      have t0 : t ≠ 0 := fun z => by rw [z] at a4; exact absurd a4 (by unfold zpc; omega)
      obtain ⟨w1, w2, w3⟩ := zlo_all t a3 t0
      unfold f_X10_odds_b42
      rw [if_neg (nI_ne0 (by omega) (by omega)), za_letE, w1, nI_1]
      exact hL _ _ _ ⟨i + 1, t &&& (t - 1), rfl, rfl, w3, by omega, by omega, rfl⟩
  by_cases z : x3 = 0
  · rw [if_pos z]
    exact ⟨nz, ref _ (by rw [if_pos z])⟩
  · rw [if_neg z]
    exact ⟨nz, ref _ (by rw [if_neg z])⟩

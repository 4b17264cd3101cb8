/-! single calls, sixteen: fire -/
def zhs (N : Nat → Int32) (p m : Nat) : Nat → Int32
  | 0 => 1
  | k+1 => if zhs N p m k = 0 then 0 else if N (29 + 7 * p + k) < nI (m / 10 ^ k % 10) then 0 else 1
theorem zhs_B (N : Nat → Int32) (p m n : Nat) : zhs N p m n = 0 ∨ zhs N p m n = 1 := by
  cases n with
  | zero => exact Or.inr rfl
  | succ n =>
    rw [zhs]
    split
    · exact Or.inl rfl
    · split
      · exact Or.inl rfl
      · exact Or.inr rfl
theorem zhs_dn {N : Nat → Int32} {p m i : Nat} (q : zhs N p m i = 0) : ∀ n, i ≤ n → zhs N p m n = 0 := by
  intro n
  induction n with
  | zero => intro hn; rw [show i = 0 by omega] at q; exact q
  | succ n ih =>
    intro hn
    by_cases z : i = n + 1
    · rw [← z]; exact q
    · rw [zhs, if_pos (ih (by omega))]
theorem zhs_5 {N : Nat → Int32} {p m nA : Nat} (h : zN N) (hp : p < 4) (eA : N 1 = nI nA) (bA : nA < 6) (hm : m < 10 ^ nA) : ∀ n, nA ≤ n → n ≤ 5 → zhs N p m n = zhs N p m nA := by
  intro n
  induction n with
  | zero => intro hn _; rw [show nA = 0 by omega]
  | succ n ih =>
    intro hn h5
    by_cases z : nA = n + 1
    · rw [z]
    · have e := ih (by omega) (by omega)
      rw [zhs, e, zdg_0 hm (by omega), ((h.2.2.1 p hp).2.2 n (by omega)).2 (by rw [eA, nI_clamp (by omega)]; omega)]
      rcases zhs_B N p m nA with q | q
      · rw [if_pos q, q]
      · rw [if_neg (by rw [q]; decide), if_neg (by decide), q]
theorem zhs_1 {N : Nat → Int32} {p m n : Nat} (q : zhs N p m n = 1) {k : Nat} (hk : k < n) : ¬ N (29 + 7 * p + k) < nI (m / 10 ^ k % 10) := by
  intro z
  have : zhs N p m (k + 1) = 0 := by
    rw [zhs]
    by_cases y : zhs N p m k = 0
    · rw [if_pos y]
    · rw [if_neg y, if_pos z]
  rw [zhs_dn this n (by omega)] at q
  exact absurd q (by decide)
/-- what has been burnt -/
def zbn (N : Nat → Int32) (p m : Nat) : Nat → Nat → Int32
  | 0 => N
  | k+1 => upd (zbn N p m k) (29 + 7 * p + k) (N (29 + 7 * p + k) - nI (m / 10 ^ k % 10))
theorem zbn_o (N : Nat → Int32) (p m : Nat) : ∀ n k : Nat, k < 29 + 7 * p ∨ 29 + 7 * p + n ≤ k → zbn N p m n k = N k := by
  intro n
  induction n with
  | zero => intro k _; rfl
  | succ n ih =>
    intro k hk
    rw [zbn, zu_ne (by omega)]
    exact ih k (by omega)
theorem zbn_5 {N : Nat → Int32} {p m nA : Nat} (h : zN N) (hp : p < 4) (eA : N 1 = nI nA) (bA : nA < 6) (hm : m < 10 ^ nA) : ∀ n, nA ≤ n → n ≤ 5 → zbn N p m n = zbn N p m nA := by
  intro n
  induction n with
  | zero => intro hn _; rw [show nA = 0 by omega]
  | succ n ih =>
    intro hn h5
    by_cases z : nA = n + 1
    · rw [z]
    · rw [zbn, ih (by omega) (by omega)]
      refine zu_id ?_
      rw [zbn_o _ _ _ _ _ (by omega), zdg_0 hm (by omega), ((h.2.2.1 p hp).2.2 n (by omega)).2 (by rw [eA, nI_clamp (by omega)]; omega)]
      rfl
theorem zbn_N {N : Nat → Int32} {p m nA : Nat} (h : zN N) (hp : p < 4) (eA : N 1 = nI nA) (hb : nA < 6) (hs : zhs N p m nA = 1) : ∀ n, n ≤ nA → zN (zbn N p m n) := by
  intro n
  induction n with
  | zero => intro _; exact h
  | succ n ih =>
    intro hn
    have hA := (zs_cl h.1.1 (by decide)).1
    obtain ⟨v, hv, ev⟩ := ((h.2.2.1 p hp).2.2 n (by rw [eA, nI_clamp (by omega)] at hA; omega)).1
    have nl := zhs_1 hs (k := n) (by omega)
    have d10 := Nat.mod_lt (m / 10 ^ n) (show 0 < 10 by decide)
    rw [ev, nI_ltI (by omega) (by omega)] at nl
    rw [zbn]
    refine zN_has (ih (by omega)) hp (by rw [zbn_o _ _ _ _ _ (by omega), eA, nI_clamp (by omega)]; omega) ?_
    rw [ev, pk_sub (by omega)]
    exact zs_nI (by omega)
def zfi (N : Nat → Int32) (p m n : Nat) : Nat → Int32 := upd (zbn N p m n) (27 + 7 * p) (za_min 9999 (N (27 + 7 * p) + 1))
theorem zc_has5 {N : Nat → Int32} {M : za_M} {p m : Nat} {K : Int32 → za_M → Prop} (hc : zc 0 N M) (hp : p < (N 2).toNatClampNeg) (hm : m < 2 ^ 31) (k : K (zhs N p m 5) M) : f_X4_has 0 p (nI m) M K := by
  unfold f_X4_has
  refine za_lp2_ind (fun s x2 x3 M' => ∃ i, x2 = nI (m / 10 ^ i) ∧ x3 = nI i ∧ i + s = 5 ∧ zhs N p m i = 1 ∧ M' = M) ?_ ?_ 5 (nI m) 0 M ⟨0, by rw [Nat.pow_zero, Nat.div_one], rfl, by omega, rfl, rfl⟩
  · intro x2 x3 M' ⟨i, a1, a2, a3, a4, a5⟩ L
    subst a1; subst a2; subst a5
    have ei : i = 5 := by omega
    subst ei
    unfold f_X4_has_b4
    rw [if_pos (show (5 : Int32) ≤ nI 5 by decide), ← a4]
    exact k
  · intro s x2 x3 M' ⟨i, a1, a2, a3, a4, a5⟩ L hL
    subst a1; subst a2; subst a5
    unfold f_X4_has_b4
    rw [if_neg (show ¬ (5 : Int32) ≤ nI i from fun z => by have := (nI_leI (a := 5) (b := i) (by omega) (by omega)).mp z; omega), zx_in (by omega) (by decide), zdg_r hm, nI_clamp (by omega), (hc.2.2.1 p hp).2.2 i (by omega)]
    by_cases z : nI (m / 10 ^ i % 10) ≤ N (29 + 7 * p + i)
    · rw [if_pos z, za_letE, zdg_d hm, nI_1]
      exact hL _ _ _ ⟨i + 1, rfl, rfl, by omega, by rw [zhs, if_neg (by rw [a4]; decide), if_neg (Int32.not_lt.mpr z)], rfl⟩
    · rw [if_neg z, ← zhs_dn (N := N) (p := p) (m := m) (i := i + 1) (n := 5) (by rw [zhs, if_neg (by rw [a4]; decide), if_pos (Int32.not_le.mp z)]) (by omega)]
      exact k
theorem zr_has {N : Nat → Int32} {M : za_M} {p m nA : Nat} {K : Int32 → za_M → Prop} (e28 : M.1 (28, 0, 0) = N) (eA : N 1 = nI nA) (bA : nA < 6) (hp : p < 4) (hm : m < 2 ^ 31) (k : K (zhs N p m nA) M) : f_X10_hasAll (nI p) (nI m) M K := by
  have v1 : vp_in 1 279 := vp_in_nI (n := 1) (by decide) (by decide)
  unfold f_X10_hasAll
  refine za_lp2_ind (fun s x3 x4 M' => ∃ i, x4 = nI i ∧ i + s = nA ∧ x3 = zhs N p m i ∧ M' = M) ?_ ?_ nA 1 0 M ⟨0, rfl, by omega, rfl, rfl⟩
  · intro x3 x4 M' ⟨i, a1, a2, a3, a5⟩ L
    subst a1; subst a3; subst a5
    have ei : i = nA := by omega
    subst ei
    unfold f_X10_hasAll_b5
    rw [zZ1, e28, eA, if_pos (nI_le (by omega) (by omega))]
    exact ⟨v1, zhs_B _ _ _ _, k⟩
  · intro s x3 x4 M' ⟨i, a1, a2, a3, a5⟩ L hL
    subst a1; subst a3; subst a5
    unfold f_X10_hasAll_b5 f_X10_hasAll_b44 f_X10_hasAll_b45
    rw [zZ1, e28, eA, if_neg (by rw [nI_leI (by omega) (by omega)]; omega), nI_1]
    refine ⟨v1, ?_⟩
    by_cases z : zhs N p m i = 0
    · rw [if_pos z]
      exact hL _ _ _ ⟨i + 1, rfl, by omega, by rw [zhs, if_pos z], rfl⟩
    · rw [if_neg z, zq_storeAt p i rfl rfl, zx_in (by omega) (by decide)]
      refine zq_dig hm (by omega) ?_
      rw [e28, nI_clamp (by omega)]
      by_cases y : N (29 + 7 * p + i) < nI (m / 10 ^ i % 10)
      · rw [if_pos y]
        exact hL _ _ _ ⟨i + 1, rfl, by omega, by rw [zhs, if_neg z, if_pos y], rfl⟩
      · rw [if_neg y]
        exact hL _ _ _ ⟨i + 1, rfl, by omega, by rw [zhs, if_neg z, if_neg y], rfl⟩
theorem zc_burn {N : Nat → Int32} {M : za_M} {p m : Nat} {K : za_M → Prop} (hN : ∀ n, n ≤ 5 → zN (zbn N p m n)) (hc : zc 0 N M) (hp : p < (N 2).toNatClampNeg) (hm : m < 2 ^ 31) (k : ∀ M', zc 0 (zfi N p m 5) M' → zg 0 M M' → K M') : f_X4_burn 0 p (nI m) M K := by
  have hP := (zs_cl (hN 0 (by omega)).1.2.1 (by decide)).1
  have hP' : (N 2).toNatClampNeg < 5 := hP
  obtain ⟨x, hx, ex⟩ := ((hN 0 (by omega)).2.2.1 p (by omega)).1
  have ex : N (27 + 7 * p) = nI x := ex
  unfold f_X4_burn
  refine za_lp2_ind (fun s x2 x3 M' => ∃ i, x2 = nI (m / 10 ^ i) ∧ x3 = nI i ∧ i + s = 5 ∧ zc 0 (zbn N p m i) M' ∧ zg 0 M M') ?_ ?_ 5 (nI m) 0 M ⟨0, by rw [Nat.pow_zero, Nat.div_one], rfl, by omega, hc, zg_rf _ _⟩
  · intro x2 x3 M' ⟨i, a1, a2, a3, a4, a5⟩ L
    subst a1; subst a2
    have ei : i = 5 := by omega
    subst ei
    have h1 := (a4.2.2.1 p (by rw [zbn_o _ _ _ _ _ (by omega)]; exact hp)).1
    rw [zbn_o _ _ _ _ _ (by omega), ex] at h1
    unfold f_X4_burn_b4
    rw [if_pos (show (5 : Int32) ≤ nI 5 by decide), zf_X9_held, h1, nI_1, zl_lit 9999, zhd_nI (by omega) (by omega), za_letE]
    refine k _ ?_ (zg_tr a5 (zg_up (by omega)))
    have := zc_pot (f := 1) (v := nI (min 9999 (x + 1))) (hN 5 (by omega)) a4 (by rw [zbn_o _ _ _ _ _ (by omega)]; exact hp) (Or.inl rfl)
    unfold zfi
    rw [ex, nI_1, zl_lit 9999, zmn (by omega) (by omega)]
    exact this
  · intro s x2 x3 M' ⟨i, a1, a2, a3, a4, a5⟩ L hL
    subst a1; subst a2
    have h1 := (a4.2.2.1 p (by rw [zbn_o _ _ _ _ _ (by omega)]; exact hp)).2.2 i (by omega)
    rw [zbn_o _ _ _ _ _ (by omega)] at h1
    unfold f_X4_burn_b4
    rw [if_neg (show ¬ (5 : Int32) ≤ nI i from fun z => by have := (nI_leI (a := 5) (b := i) (by omega) (by omega)).mp z; omega), zx_in (by omega) (by decide), zdg_r hm, nI_clamp (by omega), h1, za_letE, zx_in (by omega) (by decide), za_letE, za_letE, zdg_d hm, nI_1]
    refine hL _ _ _ ⟨i + 1, rfl, rfl, by omega, ?_, zg_tr a5 (zg_up (by omega))⟩
    rw [zbn]
    exact zc_has (hN i (by omega)) a4 (by rw [zbn_o _ _ _ _ _ (by omega)]; exact hp) (by omega)
theorem zr_fires {N : Nat → Int32} {M : za_M} {p m h nA : Nat} {K : Int32 → za_M → Prop} (e28 : M.1 (28, 0, 0) = N) (hT : zT N) (eA : N 1 = nI nA) (bA : nA < 6) (hp : p < 4) (hm : m < 2 ^ 31) (k : ∀ M', M'.1 (28, 0, 0) = zfi N p m nA → zk [28, 34, 35] M M' → K (zrest (zmS N m h nA)) M') : f_X10_firesNow (nI p) (nI m) (nI h) M K := by
  have v1 : vp_in 1 279 := vp_in_nI (n := 1) (by decide) (by decide)
  unfold f_X10_firesNow
  refine za_lp1_ind (fun s x4 M' => ∃ i, x4 = nI i ∧ i + s = nA ∧ M'.1 (28, 0, 0) = zbn N p m i ∧ zk [28, 34, 35] M M') ?_ ?_ nA 0 M ⟨0, rfl, by omega, e28, zk_rf _ _⟩
  · intro x4 M' ⟨i, a1, a2, a3, a4⟩ L
    subst a1
    have ei : i = nA := by omega
    subst ei
    unfold f_X10_firesNow_b3
    rw [zZ1, a3, zbn_o _ _ _ _ _ (by omega), eA, if_pos (nI_le (by omega) (by omega)), zq_potterAt (y := 0) p 0 rfl rfl, zq_potterAt (y := 0) p 0 rfl rfl, zx_in (by omega) (by decide), za_letE, zx_in (by omega) (by decide), za_letE, nI_clamp (by omega), a3, Nat.add_zero, zbn_o _ _ _ _ _ (by omega)]
    refine ⟨v1, ?_⟩
    have e' : (za_up M' (28, 0, 0) (27 + 7 * p) (za_min 9999 (N (27 + 7 * p) + 1))).1 (28, 0, 0) = zfi N p m i := by rw [za_up_row, a3, zfi]
    have lo : ∀ k, k < 27 ∨ 55 ≤ k → zfi N p m i k = N k := fun k hk => by unfold zfi; rw [zu_ne (by omega), zbn_o _ _ _ _ _ (by omega)]
    refine zr_mcol e' (zT_cg hT (fun k hk => lo k (by omega))) (by rw [lo 1 (by omega)]; exact eA) bA hm (fun M2 k2 => ?_)
    have es : zmS (zfi N p m i) m h i = zmS N m h i := by
      have : ∀ n, n ≤ i → zmS (zfi N p m i) m h n = zmS N m h n := by
        intro n
        induction n with
        | zero => intro _; rw [zmS, zmS, zsm, zsm]
        | succ n ih =>
          intro hn
          have := ih (by omega)
          unfold zmS at this ⊢
          rw [zsm, zsm, this, zcol_cg (fun k hk => lo k (by omega)) (by omega)]
      exact this i (by omega)
    rw [es]
    exact k M2 (by rw [k2.1 (28, 0, 0) (by decide), e']) (zk_tr a4 (zk_tr (zk_up (by decide)) (zk_mo k2 (by decide))))
  · intro s x4 M' ⟨i, a1, a2, a3, a4⟩ L hL
    subst a1
    unfold f_X10_firesNow_b3
    rw [zZ1, a3, zbn_o _ _ _ _ 1 (by omega), eA, if_neg (by rw [nI_leI (by omega) (by omega)]; omega), zq_storeAt p i rfl rfl, zx_in (by omega) (by decide)]
    refine ⟨v1, zq_dig hm (by omega) ?_⟩
    rw [za_letE, zx_in (by omega) (by decide), za_letE, nI_clamp (by omega), a3, zbn_o _ _ _ _ _ (by omega), nI_1]
    exact hL _ _ ⟨i + 1, rfl, by omega, by rw [za_up_row, a3, zbn], zk_tr a4 (zk_up (by decide))⟩
theorem zT_fire (x1 x2 x3 : Int32) : zV (f_X9_fire x1 x2 x3) (f_X10_fire x1 x2 x3) := by
  intro M K hI hK
  obtain ⟨nA, nP, nL, bA, bP, bL, rA, rP, rL, cA, cP, cL⟩ := zI_cnt hI
  have hp := zpw bA
  have hN := hI.1.1
  unfold f_X9_fire
  rw [zq_cPot, cP]
  rcases (zw_cs x1 (n := nP) (by omega)).symm with q0 | ⟨p, hpp, rfl, q0⟩
  · rw [if_pos q0]
    refine zV_fg (R := f_X10_fire x1 x2 x3) (y := -1000000001) 1 rfl (by decide) (by decide) rfl hI hK (fun M1 K' h hh => ?_)
    unfold f_X10_fire
    rw [zq_rPot, h (28, 0, 0) (by decide), rP, if_pos q0]; exact hh
  have q0' : ¬ zw (nI p) 0 (nI nP - 1) = 0 := by rw [q0]; decide
  rw [if_neg q0', zq_cMix bA cA]
  rcases (zw_cs x2 (n := 10 ^ nA) (by omega)).symm with q1 | ⟨m, hm, rfl, q1⟩
  · rw [if_pos q1]
    refine zV_fg (R := f_X10_fire (nI p) x2 x3) (y := -1000000001) 1 rfl (by decide) (by decide) rfl hI hK (fun M1 K' h hh => ?_)
    unfold f_X10_fire
    rw [zq_rPot, h (28, 0, 0) (by decide), rP, if_neg q0']
    refine zq_rMix bA (by rw [h (28, 0, 0) (by decide)]; exact rA) ?_
    rw [if_pos q1]; exact hh
  have q1' : ¬ zw (nI m) 0 (nI (10 ^ nA) - 1) = 0 := by rw [q1]; decide
  rw [if_neg q1', zq_cHeat]
  have pre : ∀ (M1 : za_M) (K' : Int32 → za_M → Prop), M1.1 (28, 0, 0) = M.1 (28, 0, 0) → (if zw x3 0 9 = 0 then (f_X10_finding (-1000000001) M1 (fun r30 M29 => K' r30 M29)) else (if nI m = 0 then (f_X10_finding (-1000000002) M1 (fun r28 M27 => K' r28 M27)) else (f_X10_hasAll (nI p) (nI m) M1 (fun r16 M15 => if r16 = 0 then (f_X10_finding (-1000000003) M15 (fun r26 M25 => K' r26 M25)) else (f_X10_isForbidden (nI m) x3 M15 (fun r19 M18 => if r19 = 0 then (f_X10_firesNow (nI p) (nI m) x3 M18 (fun r22 M21 => K' r22 M21)) else (f_X10_finding (-1000000005) M18 (fun r24 M23 => K' r24 M23)))))))) → f_X10_fire (nI p) (nI m) x3 M1 K' := by
    intro M1 K' o hh
    unfold f_X10_fire
    rw [zq_rPot, o, rP, if_neg q0']
    refine zq_rMix bA (by rw [o]; exact rA) ?_
    rw [if_neg q1', zq_rDig]
    exact hh
  rcases (zw_cs x3 (n := 10) (by omega)).symm with q2 | ⟨h, hh, rfl, q2⟩
  · have q2 : zw x3 0 9 = 0 := q2
    rw [if_pos q2]
    refine zV_fg (R := f_X10_fire (nI p) (nI m) x3) (y := -1000000001) 1 rfl (by decide) (by decide) rfl hI hK (fun M1 K' h hh => pre M1 K' (h (28, 0, 0) (by decide)) ?_)
    rw [if_pos q2]; exact hh
  have q2 : zw (nI h) 0 9 = 1 := q2
  have q2' : ¬ zw (nI h) 0 9 = 0 := by rw [q2]; decide
  rw [if_neg q2']
  by_cases q3 : nI m = 0
  · rw [if_pos q3]
    refine zV_fg (R := f_X10_fire (nI p) (nI m) (nI h)) (y := -1000000002) 2 rfl (by decide) (by decide) rfl hI hK (fun M1 K' h hh => pre M1 K' (h (28, 0, 0) (by decide)) ?_)
    rw [if_neg q2', if_pos q3]; exact hh
  have pP : p < (M.1 (28, 0, 0) 2).toNatClampNeg := by rw [rP, nI_clamp (by omega)]; exact hpp
  rw [if_neg q3, zx_in (by omega) (by decide), nI_clamp (by omega)]
  refine zc_has5 hI.2.2.1.1 pP (by omega) ?_
  rw [zhs_5 hN (by omega) rA bA hm 5 (by omega) (by omega)]
  rcases zhs_B (M.1 (28, 0, 0)) p m nA with q4 | q4
  · rw [if_pos q4]
    refine zV_fg (R := f_X10_fire (nI p) (nI m) (nI h)) (y := -1000000003) 3 rfl (by decide) (by decide) rfl hI hK (fun M1 K' h hh => pre M1 K' (h (28, 0, 0) (by decide)) ?_)
    rw [if_neg q2', if_neg q3]
    refine zr_has (h (28, 0, 0) (by decide)) rA bA (by omega) (by omega) ?_
    rw [if_pos q4]; exact hh
  have q4' : ¬ zhs (M.1 (28, 0, 0)) p m nA = 0 := by rw [q4]; decide
  rw [if_neg q4']
  refine zc_cmix hI.2.2.1.1 (hI.2.2.1.2.1 0 (by decide)) rA bA (by omega) hh (fun M1 k1 => ?_)
  by_cases z : zmF (M.1 (28, 0, 0)) m h nA = 0
  · rw [if_neg (fun q => zcm_n.mp q z)]
    have nb := zbn_N (p := p) (m := m) hN (by omega) rA bA q4
    have b5 := zbn_5 (p := p) hN (by omega) rA bA hm
    have nb5 : ∀ n, n ≤ 5 → zN (zbn (M.1 (28, 0, 0)) p m n) := fun n hn => by
      by_cases y : n ≤ nA
      · exact nb n y
      · rw [b5 n (by omega) hn]; exact nb nA (by omega)
    refine zc_burn nb5 (zc_k hI.2.2.1.1 k1) pP (by omega) (fun M2 c2 g2 => ?_)
    have o : M2.1 (28, 0, 0) = M.1 (28, 0, 0) := (g2.1 _ (by simp)).trans (k1.1 _ (by simp))
    refine pre M2 _ o ?_
    rw [if_neg q2', if_neg q3]
    refine zr_has o rA bA (by omega) (by omega) ?_
    rw [if_neg q4']
    refine zr_for o rA bA (by omega) hh ?_
    rw [if_pos z]
    refine zr_fires o hI.1.2 rA bA (by omega) (by omega) (fun M3 e3 k3 => ?_)
    rw [← (zcm_p z).2]
    have e5 : zfi (M.1 (28, 0, 0)) p m 5 = zfi (M.1 (28, 0, 0)) p m nA := by unfold zfi; rw [b5 5 (by omega) (by omega)]
    rw [e5] at c2
    have lo : ∀ k, k < 27 ∨ 55 ≤ k → zfi (M.1 (28, 0, 0)) p m nA k = M.1 (28, 0, 0) k := fun k hk => by unfold zfi; rw [zu_ne (by omega), zbn_o _ _ _ _ _ (by omega)]
    obtain ⟨x, hx, ex⟩ := (hN.2.2.1 p (by omega)).1
    have nF : zN (zfi (M.1 (28, 0, 0)) p m nA) := by
      unfold zfi
      rw [ex, nI_1, zl_lit 9999, zmn (by omega) (by omega)]
      exact zN_pots (nb nA (by omega)) (by omega) (zs_nI (by omega))
    exact hK _ _ (zI_cty hI (zg_tr (zg_k k1) g2) k3 nF e3 (fun k hk => lo k (by omega)) c2)
  · rw [if_pos (zcm_n.mpr z)]
    refine zV_fg (R := f_X10_fire (nI p) (nI m) (nI h)) (y := -1000000005) 5 rfl (by decide) (by decide) rfl (zI_18 hI k1) hK (fun M2 K' h' hh' => ?_)
    have o : M2.1 (28, 0, 0) = M.1 (28, 0, 0) := (h' (28, 0, 0) (by decide)).trans (k1.1 _ (by simp))
    refine pre M2 K' o ?_
    rw [if_neg q2', if_neg q3]
    refine zr_has o rA bA (by omega) (by omega) ?_
    rw [if_neg q4']
    refine zr_for o rA bA (by omega) hh ?_
    rw [if_neg z]; exact hh'

/-! single calls, fourteen: colour, heats, fire -/
theorem zpw {n : Nat} (h : n < 6) : 10 ^ n ≤ 100000 ∧ 0 < 10 ^ n := by
  have hc : n = 0 ∨ n = 1 ∨ n = 2 ∨ n = 3 ∨ n = 4 ∨ n = 5 := by omega
  rcases hc with rfl | rfl | rfl | rfl | rfl | rfl <;> decide
theorem zt2_p {n : Nat} (h : n < 6) : za_t2 n = nI (10 ^ n) := by
  have hc : n = 0 ∨ n = 1 ∨ n = 2 ∨ n = 3 ∨ n = 4 ∨ n = 5 := by omega
  rcases hc with rfl | rfl | rfl | rfl | rfl | rfl <;> decide
theorem zq_cMix {nA : Nat} (bA : nA < 6) {M : za_M} (e : M.1 (2, 0, 0) 3 = nI nA) (x : Int32) (K : Int32 → za_M → Prop) : f_X9_isMix x M K = K (zw x 0 (nI (10 ^ nA) - 1)) M := by
  unfold f_X9_isMix
  rw [e, zf_X9_held, zl_lit 5, zhd_nI (by omega) (by decide), Nat.min_eq_right (by omega), zx_in bA (by decide), nI_clamp (by omega), zt2_p bA, zf_X9_within, eq_true (zw_B _ _ _), true_and]
theorem zq_cHeat (x : Int32) (M : za_M) (K : Int32 → za_M → Prop) : f_X9_isHeat x M K = K (zw x 0 9) M := by
  unfold f_X9_isHeat
  rw [zf_X9_within, eq_true (zw_B _ _ _), true_and]
theorem zq_cCo (x : Int32) (M : za_M) (K : Int32 → za_M → Prop) : f_X9_isColour x M K = K (zw x 0 9) M := by
  unfold f_X9_isColour
  rw [zf_X9_within, eq_true (zw_B _ _ _), true_and]
theorem zdg_top {m n : Nat} (hn : n < 6) (hm : m < 100000) (h : ∀ j, n ≤ j → j < 5 → m / 10 ^ j % 10 = 0) : m < 10 ^ n := by
  have hc : n = 0 ∨ n = 1 ∨ n = 2 ∨ n = 3 ∨ n = 4 ∨ n = 5 := by omega
  have g : ∀ j, n ≤ j → j < 5 → m / 10 ^ j % 10 = 0 := h
  have g0 : n ≤ 0 → m / 1 % 10 = 0 := fun q => g 0 q (by decide)
  have g1 : n ≤ 1 → m / 10 % 10 = 0 := fun q => g 1 q (by decide)
  have g2 : n ≤ 2 → m / 100 % 10 = 0 := fun q => g 2 q (by decide)
  have g3 : n ≤ 3 → m / 1000 % 10 = 0 := fun q => g 3 q (by decide)
  have g4 : n ≤ 4 → m / 10000 % 10 = 0 := fun q => g 4 q (by decide)
  rcases hc with rfl | rfl | rfl | rfl | rfl | rfl
  · show m < 1; omega
  · show m < 10; omega
  · show m < 100; omega
  · show m < 1000; omega
  · show m < 10000; omega
  · show m < 100000; omega
theorem zdg_0 {m n : Nat} (hm : m < 10 ^ n) {j : Nat} (h : n ≤ j) : m / 10 ^ j % 10 = 0 := by
  rw [Nat.div_eq_of_lt (Nat.lt_of_lt_of_le hm (Nat.pow_le_pow_right (by decide) h))]
theorem zq_rMix {nA : Nat} (bA : nA < 6) {M : za_M} (e : M.1 (28, 0, 0) 1 = nI nA) {x : Int32} {K : Int32 → za_M → Prop} (k : K (zw x 0 (nI (10 ^ nA) - 1)) M) : f_X10_isMix x M K := by
  have v1 : vp_in 1 279 := vp_in_nI (n := 1) (by decide) (by decide)
  have hp := zpw bA
  unfold f_X10_isMix
  rw [zf_X10_within, zZ1, za_letE, e]
  refine ⟨v1, ?_⟩
  rcases (zw_cs x (n := 100000) (by omega)).symm with q | ⟨m, hm, rfl, q⟩
  · have q : zw x 0 99999 = 0 := q
    have q2 : zw x 0 (nI (10 ^ nA) - 1) = 0 := by
      rcases zw_cs x (n := 10 ^ nA) (by omega) with ⟨m, hm, ex, _⟩ | z
      · have := zw_1 (k := m) (n := 100000) (by omega) (by omega)
        rw [← ex] at this
        have q' : zw x 0 (nI 100000 - 1) = 0 := q
        rw [q'] at this
        exact absurd this (by decide)
      · exact z
    rw [q2] at k
    rw [q]
    refine za_lp2_ind (fun s x2 x3 M' => ∃ i, x2 = 0 ∧ x3 = nI i ∧ i + s = 5 ∧ M' = M) ?_ ?_ (5 - nA) 0 (nI nA) M ⟨nA, rfl, rfl, by omega, rfl⟩
    · intro x2 x3 M' ⟨i, a1, a2, a3, a4⟩ L
      subst a1; subst a2; subst a4
      unfold f_X10_isMix_b15
      rw [show i = 5 by omega, if_pos (show (5 : Int32) ≤ nI 5 by decide)]
      exact ⟨Or.inl rfl, k⟩
    · intro s x2 x3 M' ⟨i, a1, a2, a3, a4⟩ L hL
      subst a1; subst a2; subst a4
      unfold f_X10_isMix_b15 f_X10_isMix_b36 f_X10_isMix_b37
      rw [if_neg (show ¬ (5 : Int32) ≤ nI i from fun z => by have := (nI_leI (a := 5) (b := i) (by omega) (by omega)).mp z; omega), if_pos rfl, nI_1]
      exact hL _ _ _ ⟨i + 1, rfl, rfl, by omega, rfl⟩
  · have q : zw (nI m) 0 99999 = 1 := q
    rw [q]
    have ans : ∀ x2 : Int32, (x2 = 1 ∧ (∀ j, nA ≤ j → j < 5 → m / 10 ^ j % 10 = 0) ∨ x2 = 0 ∧ ∃ j, nA ≤ j ∧ j < 5 ∧ m / 10 ^ j % 10 ≠ 0) → zw (nI m) 0 (nI (10 ^ nA) - 1) = x2 := by
      intro x2 h
      rcases h with ⟨h1, h2⟩ | ⟨h1, j, h2, h3, h4⟩
      · rw [h1, zw_1 (zdg_top bA hm h2) (by omega)]
      · rw [h1]
        by_cases z : m < 10 ^ nA
        · exact absurd (zdg_0 z h2) h4
        · exact zw_0 (by omega) (by omega)
    refine za_lp2_ind (fun s x2 x3 M' => ∃ i, x3 = nI i ∧ i + s = 5 ∧ nA ≤ i ∧ M' = M ∧ (x2 = 1 ∧ (∀ j, nA ≤ j → j < i → m / 10 ^ j % 10 = 0) ∨ x2 = 0 ∧ ∃ j, nA ≤ j ∧ j < i ∧ m / 10 ^ j % 10 ≠ 0)) ?_ ?_ (5 - nA) 1 (nI nA) M ⟨nA, rfl, by omega, by omega, rfl, Or.inl ⟨rfl, fun j h1 h2 => by omega⟩⟩
    · intro x2 x3 M' ⟨i, a2, a3, a5, a4, a6⟩ L
      subst a2; subst a4
      have ei : i = 5 := by omega
      subst ei
      unfold f_X10_isMix_b15
      rw [if_pos (show (5 : Int32) ≤ nI 5 by decide)]
      have := ans x2 a6
      rw [this] at k
      exact ⟨by rw [← this]; exact zw_B _ _ _, k⟩
    · intro s x2 x3 M' ⟨i, a2, a3, a5, a4, a6⟩ L hL
      subst a2; subst a4
      unfold f_X10_isMix_b15 f_X10_isMix_b36 f_X10_isMix_b37
      rw [if_neg (show ¬ (5 : Int32) ≤ nI i from fun z => by have := (nI_leI (a := 5) (b := i) (by omega) (by omega)).mp z; omega), nI_1]
      rcases a6 with ⟨h1, h2⟩ | ⟨h1, j, h2, h3, h4⟩
      · rw [h1, if_neg (by decide)]
        refine zq_dig (by omega) (by omega) ?_
        have d10 := Nat.mod_lt (m / 10 ^ i) (show 0 < 10 by decide)
        by_cases z : m / 10 ^ i % 10 = 0
        · rw [if_pos (by rw [z]; rfl)]
          refine hL _ _ _ ⟨i + 1, rfl, by omega, by omega, rfl, Or.inl ⟨rfl, fun j g1 g2 => ?_⟩⟩
          by_cases y : j = i
          · rw [y]; exact z
          · exact h2 j g1 (by omega)
        · rw [if_neg (nI_ne0 (by omega) (by omega))]
          exact hL _ _ _ ⟨i + 1, rfl, by omega, by omega, rfl, Or.inr ⟨rfl, i, a5, by omega, z⟩⟩
      · rw [h1, if_pos rfl]
        exact hL _ _ _ ⟨i + 1, rfl, by omega, by omega, rfl, Or.inr ⟨rfl, j, h2, by omega, h4⟩⟩
theorem zI_18 {M M1 : za_M} (h : zI M) (k : zk [18] M M1) : zI M1 := zI_scr h (fun x a _ _ _ _ => k.1 x (by simp [a])) k.2
theorem zI_183 {M M1 M2 : za_M} (h : zI M) (k1 : zk [18] M M1) (k2 : zk [34, 35] M1 M2) : zI M2 := zI_scr h (fun x a b c _ _ => (k2.1 x (by simp [b, c])).trans (k1.1 x (by simp [a]))) (by rw [k2.2, k1.2])
theorem zT_colour (x1 x2 : Int32) : zV (f_X9_colour x1 x2) (f_X10_colour x1 x2) := by
  intro M K hI hK
  obtain ⟨nA, nP, nL, bA, bP, bL, rA, rP, rL, cA, cP, cL⟩ := zI_cnt hI
  have hp := zpw bA
  unfold f_X9_colour
  rw [zq_cMix bA cA]
  rcases (zw_cs x1 (n := 10 ^ nA) (by omega)).symm with q1 | ⟨m, hm, rfl, q1⟩
  · rw [if_pos q1]
    refine zV_fg (R := f_X10_colour x1 x2) (y := -1000000001) 1 rfl (by decide) (by decide) rfl hI hK (fun M1 K' h hh => ?_)
    unfold f_X10_colour
    refine zq_rMix bA (by rw [h (28, 0, 0) (by decide)]; exact rA) ?_
    rw [if_pos q1]; exact hh
  have q1' : ¬ zw (nI m) 0 (nI (10 ^ nA) - 1) = 0 := by rw [q1]; decide
  rw [if_neg q1', zq_cHeat]
  rcases (zw_cs x2 (n := 10) (by omega)).symm with q2 | ⟨h, hh, rfl, q2⟩
  · have q2 : zw x2 0 9 = 0 := q2
    rw [if_pos q2]
    refine zV_fg (R := f_X10_colour (nI m) x2) (y := -1000000001) 1 rfl (by decide) (by decide) rfl hI hK (fun M1 K' h hh => ?_)
    unfold f_X10_colour
    refine zq_rMix bA (by rw [h (28, 0, 0) (by decide)]; exact rA) ?_
    rw [if_neg q1', zq_rDig, if_pos q2]; exact hh
  have q2 : zw (nI h) 0 9 = 1 := q2
  have q2' : ¬ zw (nI h) 0 9 = 0 := by rw [q2]; decide
  rw [if_neg q2']
  have ok : ∀ (M1 : za_M) (K' : Int32 → za_M → Prop), M1.1 (28, 0, 0) = M.1 (28, 0, 0) → (zmF (M.1 (28, 0, 0)) m h nA = 0 → ∀ M2, zk [34, 35] M1 M2 → K' (zcm (M.1 (28, 0, 0)) m h nA) M2) → (¬ zmF (M.1 (28, 0, 0)) m h nA = 0 → f_X10_finding (-1000000005) M1 (fun r15 M14 => K' r15 M14)) → f_X10_colour (nI m) (nI h) M1 K' := by
    intro M1 K' o ha hb
    unfold f_X10_colour
    refine zq_rMix bA (by rw [o]; exact rA) ?_
    rw [if_neg q1', zq_rDig, if_neg q2']
    refine zr_for o rA bA (by omega) hh ?_
    by_cases z : zmF (M.1 (28, 0, 0)) m h nA = 0
    · rw [if_pos z]
      refine zr_mcol o hI.1.2 rA bA (by omega) (fun M2 k2 => ?_)
      rw [← (zcm_p z).2]
      exact ha z M2 k2
    · rw [if_neg z]
      exact hb z
  refine zc_cmix hI.2.2.1.1 (hI.2.2.1.2.1 0 (by decide)) rA bA (by omega) hh (fun M1 k1 => ?_)
  by_cases z : zmF (M.1 (28, 0, 0)) m h nA = 0
  · rw [if_neg (fun q => zcm_n.mp q z)]
    exact ok _ _ (k1.1 _ (by decide)) (fun _ M2 k2 => hK _ _ (zI_183 hI k1 k2)) (fun q => absurd z q)
  · rw [if_pos (zcm_n.mpr z)]
    exact zV_fg (R := f_X10_colour (nI m) (nI h)) (y := -1000000005) 5 rfl (by decide) (by decide) rfl (zI_18 hI k1) hK (fun M2 K' h hh => ok M2 K' ((h (28, 0, 0) (by decide)).trans (k1.1 _ (by decide))) (fun q => absurd q z) (fun _ => hh))
/-- the heats by which a mix gives a colour -/
def zhe (N : Nat → Int32) (m : Nat) (c : Int32) (nA : Nat) : Nat → Int32
  | 0 => 0
  | h+1 => zhe N m c nA h ||| (if zcm N m h nA = c then (1 : Int32) <<< (nI h &&& 31) else 0)
theorem zc_heats {N : Nat → Int32} {M : za_M} {m nA : Nat} {c : Int32} {K : Int32 → za_M → Prop} (hc : zc 0 N M) (hl : zlw 0 0 (zTn N 0) (zTf N 0) M) (eA : N 1 = nI nA) (bA : nA < 6) (hm : m < 2 ^ 31) (k : ∀ M', zk [18] M M' → K (zhe N m c nA 10) M') : f_X9_heatsGiving (nI m) c M K := by
  unfold f_X9_heatsGiving
  refine za_lp2_ind (fun s x3 x4 M' => ∃ i, x4 = nI i ∧ i + s = 10 ∧ x3 = zhe N m c nA i ∧ zk [18] M M') ?_ ?_ 10 0 0 M ⟨0, rfl, by omega, rfl, zk_rf _ _⟩
  · intro x3 x4 M' ⟨i, a1, a2, a3, a4⟩ L
    subst a1; subst a3
    unfold f_X9_heatsGiving_b5
    rw [show i = 10 by omega, if_pos (show (10 : Int32) ≤ nI 10 by decide)]
    exact k M' a4
  · intro s x3 x4 M' ⟨i, a1, a2, a3, a4⟩ L hL
    subst a1; subst a3
    unfold f_X9_heatsGiving_b5 f_X9_heatsGiving_b30
    rw [if_neg (show ¬ (10 : Int32) ≤ nI i from fun z => by have := (nI_leI (a := 10) (b := i) (by omega) (by omega)).mp z; omega)]
    refine zc_cmix (zc_k hc a4) (zlw_cg hl (a4.1 _ (by simp)) (a4.1 _ (by simp))) eA bA hm (by omega) (fun M1 k1 => ?_)
    rw [nI_1]
    by_cases z : zcm N m i nA = c
    · rw [if_pos z, za_letE]
      exact hL _ _ _ ⟨i + 1, rfl, by omega, by rw [zhe, if_pos z], zk_tr a4 k1⟩
    · rw [if_neg z]
      exact hL _ _ _ ⟨i + 1, rfl, by omega, by rw [zhe, if_neg z, Int32.or_zero], zk_tr a4 k1⟩
theorem zr_heats {N : Nat → Int32} {M : za_M} {m nA : Nat} {c : Int32} {K : Int32 → za_M → Prop} (e28 : M.1 (28, 0, 0) = N) (hT : zT N) (eA : N 1 = nI nA) (bA : nA < 6) (hm : m < 2 ^ 31) (hc : ¬ c = -1) (k : ∀ M', zk [34, 35] M M' → K (zhe N m c nA 10) M') : f_X10_heatsOf (nI m) c M K := by
  unfold f_X10_heatsOf
  refine za_lp2_ind (fun s x3 x4 M' => ∃ i, x4 = nI i ∧ i + s = 10 ∧ x3 = zhe N m c nA i ∧ zk [34, 35] M M') ?_ ?_ 10 0 0 M ⟨0, rfl, by omega, rfl, zk_rf _ _⟩
  · intro x3 x4 M' ⟨i, a1, a2, a3, a4⟩ L
    subst a1; subst a3
    unfold f_X10_heatsOf_b5
    rw [show i = 10 by omega, if_pos (show (10 : Int32) ≤ nI 10 by decide)]
    exact k M' a4
  · intro s x3 x4 M' ⟨i, a1, a2, a3, a4⟩ L hL
    subst a1; subst a3
    unfold f_X10_heatsOf_b5 f_X10_heatsOf_b41 f_X10_heatsOf_b42
    rw [if_neg (show ¬ (10 : Int32) ≤ nI i from fun z => by have := (nI_leI (a := 10) (b := i) (by omega) (by omega)).mp z; omega)]
    have e' := (a4.1 (28, 0, 0) (by decide)).trans e28
    refine zr_for e' eA bA hm (by omega) ?_
    by_cases y : zmF N m i nA = 0
    · rw [if_pos y]
      refine zr_mcol e' hT eA bA hm (fun M1 k1 => ?_)
      rw [← (zcm_p y).2, za_letE, za_letE, nI_1]
      by_cases z : zcm N m i nA = c
      · rw [if_pos z]
        exact hL _ _ _ ⟨i + 1, rfl, by omega, by rw [zhe, if_pos z], zk_tr a4 k1⟩
      · rw [if_neg z]
        exact hL _ _ _ ⟨i + 1, rfl, by omega, by rw [zhe, if_neg z], zk_tr a4 k1⟩
    · rw [if_neg y, za_letE, nI_1]
      exact hL _ _ _ ⟨i + 1, rfl, by omega, by rw [zhe, zcm_n.mpr y, if_neg (fun q => hc q.symm)], a4⟩
theorem zm1 {c : Nat} (h : c < 10) : ¬ nI c = -1 := by
  have hc : c = 0 ∨ c = 1 ∨ c = 2 ∨ c = 3 ∨ c = 4 ∨ c = 5 ∨ c = 6 ∨ c = 7 ∨ c = 8 ∨ c = 9 := by omega
  rcases hc with rfl | rfl | rfl | rfl | rfl | rfl | rfl | rfl | rfl | rfl <;> decide
theorem zT_heats (x1 x2 : Int32) : zV (f_X9_heats x1 x2) (f_X10_heats x1 x2) := by
  intro M K hI hK
  obtain ⟨nA, nP, nL, bA, bP, bL, rA, rP, rL, cA, cP, cL⟩ := zI_cnt hI
  have hp := zpw bA
  unfold f_X9_heats
  rw [zq_cMix bA cA]
  rcases (zw_cs x1 (n := 10 ^ nA) (by omega)).symm with q1 | ⟨m, hm, rfl, q1⟩
  · rw [if_pos q1]
    refine zV_fg (R := f_X10_heats x1 x2) (y := -1000000001) 1 rfl (by decide) (by decide) rfl hI hK (fun M1 K' h hh => ?_)
    unfold f_X10_heats f_X10_heats_b24
    refine zq_rMix bA (by rw [h (28, 0, 0) (by decide)]; exact rA) ?_
    rw [if_pos q1]; exact hh
  have q1' : ¬ zw (nI m) 0 (nI (10 ^ nA) - 1) = 0 := by rw [q1]; decide
  rw [if_neg q1', zq_cCo]
  rcases (zw_cs x2 (n := 10) (by omega)).symm with q2 | ⟨c, hc, rfl, q2⟩
  · have q2 : zw x2 0 9 = 0 := q2
    rw [if_pos q2]
    refine zV_fg (R := f_X10_heats (nI m) x2) (y := -1000000001) 1 rfl (by decide) (by decide) rfl hI hK (fun M1 K' h hh => ?_)
    unfold f_X10_heats f_X10_heats_b24
    refine zq_rMix bA (by rw [h (28, 0, 0) (by decide)]; exact rA) ?_
    rw [if_neg q1', zq_rDig, if_pos q2]; exact hh
  have q2 : zw (nI c) 0 9 = 1 := q2
  have q2' : ¬ zw (nI c) 0 9 = 0 := by rw [q2]; decide
  rw [if_neg q2']
  refine zc_heats hI.2.2.1.1 (hI.2.2.1.2.1 0 (by decide)) rA bA (by omega) (fun M1 k1 => ?_)
  have o := k1.1 (28, 0, 0) (by decide)
  unfold f_X10_heats
  refine zq_rMix bA (by rw [o]; exact rA) ?_
  rw [if_neg q1', zq_rDig, if_neg q2']
  exact zr_heats o hI.1.2 rA bA (by omega) (zm1 hc) (fun M2 k2 => hK _ _ (zI_183 hI k1 k2))

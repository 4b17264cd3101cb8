/-! the reference's day, its two loops -/
theorem zi_t {A B : Prop} (h : A) : (if (1 : Int32) = 0 then B else A) := by rw [if_neg (by decide)]; exact h
theorem zr_day {M : za_M} {K : za_M → Prop} (hN : zN (M.1 zR)) (hT : zT (M.1 zR)) (h : ∀ M', M'.1 zR = zday (M.1 zR) → zk [28, 34, 35] M M' → K M') : f_X10_day M K := by
  have hA := zs_cl hN.1.1 (by decide)
  have hP := zs_cl hN.1.2.1 (by decide)
  have hk1 := zday1_K hN
  generalize hG : M.1 zR = N at *
  have hG' : M.1 (28, 0, 0) = N := hG
  unfold f_X10_day za_let
  refine ⟨vp_in_nI (n := 0) (by decide) (by decide), vp_in_nI (n := 0) (by decide) (by decide), ?_⟩
  rw [show Int32.toNatClampNeg 0 = 0 by decide, hG']
  have settle : ∀ (k : Nat) (x : Int32) (M' : za_M), (∃ l, x = nI l ∧ l + k = (M'.1 zR 3).toNatClampNeg ∧ zN (M'.1 zR) ∧ zT (M'.1 zR) ∧ zset k l (M'.1 zR) = zday N ∧ zk [28, 34, 35] M M') → ∃ q, za_lp1 (f_X10_day_b78 K) q x M' := by
    refine za_lp1_ind (fun k x M' => ∃ l, x = nI l ∧ l + k = (M'.1 zR 3).toNatClampNeg ∧ zN (M'.1 zR) ∧ zT (M'.1 zR) ∧ zset k l (M'.1 zR) = zday N ∧ zk [28, 34, 35] M M') ?_ ?_
    · intro x M' ⟨l, e1, e2, i1, i2, i3, i4⟩ L
      subst e1
      have h3 := zs_cl i1.1.2.2.1 (by decide)
      unfold f_X10_day_b78
      refine ⟨vp_in_nI (n := 3) (by decide) (by decide), ?_⟩
      rw [show Int32.toNatClampNeg 3 = 3 by decide, show M'.1 (28, 0, 0) 3 = nI (M'.1 zR 3).toNatClampNeg from h3.2, if_pos (nI_le (by omega) (by omega))]
      exact h M' i3 i4
    · intro k x M' ⟨l, e1, e2, i1, i2, i3, i4⟩ L hL
      subst e1
      have h3 := zs_cl i1.1.2.2.1 (by decide)
      have hl : l < (M'.1 zR 3).toNatClampNeg := by omega
      unfold f_X10_day_b78
      refine ⟨vp_in_nI (n := 3) (by decide) (by decide), ?_⟩
      rw [show Int32.toNatClampNeg 3 = 3 by decide, show M'.1 (28, 0, 0) 3 = nI (M'.1 zR 3).toNatClampNeg from h3.2, if_neg (by rw [nI_leI (by omega) (by omega)]; omega), zq_loanIs (y := 4) l 4 rfl rfl (by omega)]
      try dsimp only
      refine ⟨vp_in_nI (n := 0) (by decide) (by decide), ?_⟩
      rw [show Int32.toNatClampNeg 0 = 0 by decide, show 55 + 5 * l + 4 = 59 + 5 * l by omega]
      unfold zset at i3
      by_cases q : M'.1 zR (59 + 5 * l) = M'.1 zR 0
      · rw [if_pos q] at i3
        rw [if_pos q]
        refine zr_can i1 hl ?_
        by_cases r : M'.1 zR (zto (M'.1 zR) l) < M'.1 zR (58 + 5 * l)
        · rw [if_pos r] at i3 ⊢
          rw [if_pos rfl]
          have kb := zbrk_K i1 hl
          refine zr_breaks i1 hl (fun M2 q1 q2 => ?_)
          exact hL _ _ ⟨l, rfl, by rw [q1]; omega, by rw [q1]; exact kb.1.1, by rw [q1]; exact zK_T kb.1 i2, by rw [q1]; exact i3, zk_tr i4 q2⟩
        · rw [if_neg r] at i3 ⊢
          rw [if_neg (by decide)]
          have kb := zgiv_K i1 hl r
          refine zr_gives i1 i2 hl r (fun M2 q1 q2 => ?_)
          exact hL _ _ ⟨l, rfl, by rw [q1]; omega, by rw [q1]; exact kb.1.1, by rw [q1]; exact zK_T kb.1 i2, by rw [q1]; exact i3, zk_tr i4 q2⟩
      · rw [if_neg q] at i3
        rw [if_neg q, nI_1]
        exact hL _ _ ⟨l + 1, rfl, by omega, i1, i2, i3, i4⟩
  have grow : ∀ (k : Nat) (x : Int32) (M' : za_M), (∃ a, x = nI a ∧ a + k = (N 1).toNatClampNeg ∧ zK N (M'.1 zR) ∧ zgrow k a (M'.1 zR) = zday1 N ∧ zk [28, 34, 35] M M') → ∃ q, za_lp1 (f_X10_day_b12 K) q x M' := by
    refine za_lp1_ind (fun k x M' => ∃ a, x = nI a ∧ a + k = (N 1).toNatClampNeg ∧ zK N (M'.1 zR) ∧ zgrow k a (M'.1 zR) = zday1 N ∧ zk [28, 34, 35] M M') ?_ ?_
    · intro x M' ⟨a, e1, e2, i1, i3, i4⟩ L
      subst e1
      have h1 : M'.1 (28, 0, 0) 1 = nI (N 1).toNatClampNeg := by rw [show M'.1 (28, 0, 0) 1 = N 1 from i1.2 1 (by omega) (by omega) (by omega)]; exact hA.2
      have i3 : M'.1 zR = zday1 N := i3
      unfold f_X10_day_b12
      refine ⟨vp_in_nI (n := 1) (by decide) (by decide), ?_⟩
      rw [show Int32.toNatClampNeg 1 = 1 by decide, h1, if_pos (nI_le (by omega) (by omega))]
      exact settle _ _ _ ⟨0, rfl, Nat.zero_add _, i1.1, zK_T i1 hT, by rw [i3]; rfl, i4⟩
    · intro k x M' ⟨a, e1, e2, i1, i3, i4⟩ L hL
      subst e1
      have h1 : M'.1 (28, 0, 0) 1 = nI (N 1).toNatClampNeg := by rw [show M'.1 (28, 0, 0) 1 = N 1 from i1.2 1 (by omega) (by omega) (by omega)]; exact hA.2
      have h2 : M'.1 (28, 0, 0) 2 = nI (N 2).toNatClampNeg := by rw [show M'.1 (28, 0, 0) 2 = N 2 from i1.2 2 (by omega) (by omega) (by omega)]; exact hP.2
      have ha : a < (N 1).toNatClampNeg := by omega
      obtain ⟨t, ht, et⟩ := (i1.1.2.1 a (by omega)).2.2.2
      have et' : M'.1 (28, 0, 0) (10 + 4 * a) = nI t := et
      have kg := zgr_K i1.1 (a := a) (by rw [i1.2 1 (by omega) (by omega) (by omega)]; exact ha)
      have eg : zgr (M'.1 zR) a = if t < (N 2).toNatClampNeg then upd (M'.1 zR) (29 + 7 * t + a) (za_min 999 (M'.1 zR (29 + 7 * t + a) + M'.1 zR (9 + 4 * a))) else M'.1 zR := by
        unfold zgr
        rw [et, nI_clamp (by omega), i1.2 2 (by omega) (by omega) (by omega)]
      unfold f_X10_day_b12
      refine ⟨vp_in_nI (n := 1) (by decide) (by decide), ?_⟩
      rw [show Int32.toNatClampNeg 1 = 1 by decide, h1, if_neg (by rw [nI_leI (by omega) (by omega)]; omega), zq_ashIs (y := 3) a 3 rfl rfl (by omega)]
      try dsimp only
      rw [show 7 + 4 * a + 3 = 10 + 4 * a by omega, et', zq_isPotter t _ rfl (by omega) (by omega) h2]
      try dsimp only
      by_cases q : t < (N 2).toNatClampNeg
      · rw [if_pos q] at eg ⊢
        rw [if_neg (by decide), zq_storeAt t a rfl rfl]
        try dsimp only
        rw [zq_storeAt t a rfl rfl]
        try dsimp only
        refine ⟨vp_in_nI (by omega) (by decide), ?_⟩
        rw [zq_ashIs (y := 2) a 2 rfl rfl (by omega)]
        try dsimp only
        unfold za_let f_X10_day_b70
        refine ⟨vp_in_nI (by omega) (by decide), ?_⟩
        rw [nI_clamp (by omega), nI_1, show 7 + 4 * a + 2 = 9 + 4 * a by omega]
        have e9 : (za_up M' (28, 0, 0) (29 + 7 * t + a) (za_min 999 (M'.1 (28, 0, 0) (29 + 7 * t + a) + M'.1 (28, 0, 0) (9 + 4 * a)))).1 zR = zgr (M'.1 zR) a := by rw [za_up_row, eg]
        exact hL _ _ ⟨a + 1, rfl, by omega, by rw [e9]; exact zK_tr i1 kg, by rw [e9]; exact i3, zk_tr i4 (zk_up (by decide))⟩
      · rw [if_neg q] at eg ⊢
        rw [if_pos rfl]
        unfold f_X10_day_b70
        rw [nI_1]
        exact hL _ _ ⟨a + 1, rfl, by omega, i1, by rw [← eg]; exact i3, i4⟩
  have e0 : (za_up M (28, 0, 0) 0 (N 0 + 1)).1 zR = upd N 0 (N 0 + 1) := by rw [za_up_row, hG']
  exact grow _ _ _ ⟨0, rfl, Nat.zero_add _, by rw [e0]; exact ⟨zN_day hN, fun k h1 _ _ => zu_ne h1⟩, by rw [e0]; rfl, zk_up (by decide)⟩
theorem zr_days {n : Nat} (hn : n < 1000) {M : za_M} {K : za_M → Prop} (hN : zN (M.1 zR)) (hT : zT (M.1 zR)) (h : ∀ M', M'.1 zR = zdays n (M.1 zR) → zk [28, 34, 35] M M' → K M') : f_X10_daysGo (nI n) M K := by
  unfold f_X10_daysGo
  have key : ∀ (k : Nat) (x : Int32) (M' : za_M), (∃ j, x = nI j ∧ j + k = n ∧ zN (M'.1 zR) ∧ zT (M'.1 zR) ∧ zdays k (M'.1 zR) = zdays n (M.1 zR) ∧ zk [28, 34, 35] M M') → ∃ q, za_lp1 (f_X10_daysGo_b2 K (nI n)) q x M' := by
    refine za_lp1_ind (fun k x M' => ∃ j, x = nI j ∧ j + k = n ∧ zN (M'.1 zR) ∧ zT (M'.1 zR) ∧ zdays k (M'.1 zR) = zdays n (M.1 zR) ∧ zk [28, 34, 35] M M') ?_ ?_
    · intro x M' ⟨j, e1, e2, i1, i2, i3, i4⟩ L
      subst e1
      unfold f_X10_daysGo_b2
      rw [if_pos (nI_le (by omega) (by omega))]
      exact h M' i3 i4
    · intro k x M' ⟨j, e1, e2, i1, i2, i3, i4⟩ L hL
      subst e1
      unfold f_X10_daysGo_b2
      rw [if_neg (by rw [nI_leI (by omega) (by omega)]; omega)]
      refine zr_day i1 i2 (fun M2 q1 q2 => ?_)
      rw [nI_1]
      exact hL _ _ ⟨j + 1, rfl, by omega, by rw [q1]; exact (zday_K i1).1, by rw [q1]; exact zK_T (zday_K i1) i2, by rw [q1]; exact i3, zk_tr i4 q2⟩
  exact key n _ _ ⟨0, rfl, by omega, hN, hT, rfl, zk_rf _ _⟩

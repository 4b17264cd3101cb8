/-! the class's days -/
theorem zhd_nI {a m : Nat} (ha : a < 2 ^ 31) (hm : m < 2 ^ 31) : zhd (nI a) (nI m) = nI (min m a) := by
  unfold zhd
  rw [if_pos (nI_pos' ha)]
  by_cases q : a ≤ m
  · rw [if_pos (nI_le q hm), Nat.min_eq_right q]
  · rw [if_neg (by rw [nI_leI ha hm]; exact q), Nat.min_eq_left (by omega)]
theorem zq_change {x by_ : Int32} (c p a : Nat) (hx : x = nI a) (ha : a < 5) (M : za_M) (K : za_M → Prop) : f_X4_change c p x by_ M K = K (za_up M (13, c, p) a (zhd (M.1 (13, c, p) a + by_) 999)) := by
  subst hx
  unfold f_X4_change za_let
  rw [zx_in ha (by decide), zf_X9_held, zx_in ha (by decide), nI_clamp (by omega)]
theorem zq_cPotter {x : Int32} (c k n : Nat) (hx : x = nI k) (hk : k < 2 ^ 31) (hn : n < 2 ^ 31) {M : za_M} (h : M.1 (2, c, 0) 4 = nI n) (K : Int32 → za_M → Prop) : f_X1_hasPotter c x M K = K (if k < n then 1 else 0) M := by
  subst hx
  unfold f_X1_hasPotter
  rw [h, zf_X9_within, eq_true (zw_B _ _ _), true_and]
  by_cases q : k < n
  · rw [if_pos q, zw_1 q hn]
  · rw [if_neg q, zw_0 (by omega) hk]
/-- what is read of a loan's row -/
theorem zc_loan {c l : Nat} {N : Nat → Int32} {M : za_M} (h : zc c N M) (hl : l < (N 3).toNatClampNeg) (M' : za_M) (e : ∀ i, M'.1 (5, c, i) = M.1 (5, c, i)) : M'.1 (5, c, M.2 c l % 10) 0 = N (55 + 5 * l) ∧ M'.1 (5, c, M.2 c l % 10) 1 = N (56 + 5 * l) ∧ M'.1 (5, c, M.2 c l % 10) 2 = N (57 + 5 * l) ∧ M'.1 (5, c, M.2 c l % 10) 3 = N (58 + 5 * l) ∧ M'.1 (5, c, M.2 c l % 10) 4 = N (59 + 5 * l) := by
  rw [e]
  exact h.2.2.2.1 l hl
theorem zc_can {c l : Nat} {N : Nat → Int32} {M : za_M} {K : Int32 → za_M → Prop} (hN : zN N) (h : zc c N M) (hl : l < (N 3).toNatClampNeg) (k : K (if N (zto N l) < N (58 + 5 * l) then 0 else 1) M) : f_X1_canGiveBack c c (M.2 c l % 10) M K := by
  obtain ⟨fr, to, ash, many, e1, e2, e3, e4, b1, b2, b3, b4, b5, b6, b7, b8⟩ := zN_loan hN hl
  obtain ⟨r0, r1, r2, r3, r4⟩ := zc_loan h hl M (fun _ => rfl)
  have et : zto N l = 29 + 7 * to + ash := by unfold zto; rw [e2, e3, nI_clamp (by omega), nI_clamp (by omega)]
  unfold f_X1_canGiveBack
  rw [r1, r2, r3, e2, e3]
  refine ⟨vp_in_nI (by omega) (by decide), vp_in_nI (by omega) (by decide), ?_⟩
  rw [nI_clamp (by omega), nI_clamp (by omega), (h.2.2.1 to b2).2.2 ash (by omega), ← et]
  by_cases q : N (zto N l) < N (58 + 5 * l)
  · rw [if_pos q] at k ⊢
    exact k
  · rw [if_neg q] at k ⊢
    exact k
theorem zc_giveBack {c l d u : Nat} {N : Nat → Int32} {M : za_M} {K : Int32 → za_M → Prop} (hu : u = 1) (hN : zN N) (h : zc c N M) (hT : zlw d u (zTn N 1) (zTf N 1) M) (hl : l < (N 3).toNatClampNeg) (hcan : ¬ N (zto N l) < N (58 + 5 * l)) (k : ∀ M', zc c (zgiv N l) M' → zg c M M' → K (zbk N l) M') : f_X1_giveBack c (nI l) d u M K := by
  subst hu
  obtain ⟨fr, to, ash, many, e1, e2, e3, e4, b1, b2, b3, b4, b5, b6, b7, b8⟩ := zN_loan hN hl
  have hg := zgiv0_K hN hl hcan
  have et : zto N l = 29 + 7 * to + ash := by unfold zto; rw [e2, e3, nI_clamp (by omega), nI_clamp (by omega)]
  have ef : zfr N l = 29 + 7 * fr + ash := by unfold zfr; rw [e1, e3, nI_clamp (by omega), nI_clamp (by omega)]
  have eb : zbk N l = zgN N 1 (nI many) (N (8 + 4 * ash)) (N 0) := by unfold zbk; rw [e3, e4, nI_clamp (by omega)]
  obtain ⟨x, hx, ex⟩ := ((hN.2.2.1 to (by omega)).2.2 ash (by omega)).1
  obtain ⟨y, hy, ey⟩ := ((hN.2.2.1 fr (by omega)).2.2 ash (by omega)).1
  obtain ⟨z, hz, ez⟩ := zgN_zs N 1 (nI many) (N (8 + 4 * ash)) (N 0)
  have hm : many ≤ x := by
    rw [et, ex, e4, nI_ltI (by omega) (by omega)] at hcan
    omega
  obtain ⟨r0, r1, r2, r3, r4⟩ := zc_loan h hl M (fun _ => rfl)
  unfold f_X1_giveBack
  refine ⟨vp_in_nI (by omega) (by decide), ?_⟩
  rw [nI_clamp (by omega), r2, r3, e3]
  refine ⟨vp_in_nI (by omega) (by decide), ?_⟩
  rw [nI_clamp (by omega), (h.2.1 ash b3).2.1, h.1.2.2.2, e4]
  refine zc_gives (u := 1) (by decide) hT (fun M1 hk1 => ?_)
  rw [show zhd (zgv 1 (zTn N 1) (zTf N 1) (nI many) (N (8 + 4 * ash)) (N 0)) 99 = zbk N l from eb.symm]
  have c1 := zc_k h hk1
  have p1 : M1.2 = M.2 := hk1.2
  obtain ⟨s0, s1, s2, s3, s4⟩ := zc_loan h hl M1 (fun i => hk1.1 (5, c, i) (show (5 : Nat) ∉ [18] by decide))
  rw [s1, s2, s3, e2, e3, e4]
  refine ⟨vp_in_nI (by omega) (by decide), ?_⟩
  rw [nI_clamp (by omega), zq_change c to ash rfl (by omega)]
  have c2 := zc_has (v := zhd (M1.1 (13, c, to) ash + -nI many) 999) hN c1 b2 (a := ash) (by omega)
  generalize hM2 : za_up M1 (13, c, to) ash (zhd (M1.1 (13, c, to) ash + -nI many) 999) = M2 at c2 ⊢
  have v2 : zhd (M1.1 (13, c, to) ash + -nI many) 999 = N (29 + 7 * to + ash) - nI many := by
    rw [(c1.2.2.1 to b2).2.2 ash (by omega), ex, ← Int32.sub_eq_add_neg, pk_sub hm, zl_lit 999, zhd_nI (by omega) (by omega), Nat.min_eq_right (by omega)]
  rw [v2] at c2
  have g2 : zg c M M2 := by
    rw [← hM2]
    exact zg_tr (zg_k hk1) (zg_up (by omega))
  obtain ⟨t0, t1, t2, t3, t4⟩ := zc_loan h hl M2 (fun i => by rw [← hM2, za_up_oth _ _ _ (by simp)]; exact hk1.1 (5, c, i) (show (5 : Nat) ∉ [18] by decide))
  rw [t0, t2, e1, e3]
  refine ⟨vp_in_nI (by omega) (by decide), ?_⟩
  rw [nI_clamp (by omega), zq_change c fr ash rfl (by omega)]
  have n2 : zN (upd N (29 + 7 * to + ash) (N (29 + 7 * to + ash) - nI many)) := zN_has hN (by omega) b3 (by rw [ex, pk_sub hm]; exact zs_nI (by omega))
  have c3 := zc_has (v := zhd (M2.1 (13, c, fr) ash + zbk N l) 999) n2 c2 (p := fr) (a := ash) (by rw [zu_ne (by omega)]; exact b1) (by omega)
  generalize hM3 : za_up M2 (13, c, fr) ash (zhd (M2.1 (13, c, fr) ash + zbk N l) 999) = M3 at c3 ⊢
  have v3 : zhd (M2.1 (13, c, fr) ash + zbk N l) 999 = za_min 999 (N (29 + 7 * fr + ash) + zbk N l) := by
    rw [(c2.2.2.1 fr (by rw [zu_ne (by omega)]; exact b1)).2.2 ash (by omega), zu_ne (by omega), ey, eb, ez, nI_add, zl_lit 999, zhd_nI (by omega) (by omega), zmn (by omega) (by omega)]
  rw [v3] at c3
  have e9 : upd (upd N (29 + 7 * to + ash) (N (29 + 7 * to + ash) - nI many)) (29 + 7 * fr + ash) (za_min 999 (N (29 + 7 * fr + ash) + zbk N l)) = zgiv0 N l := by
    unfold zgiv0
    rw [et, ef, e4]
  rw [e9] at c3
  refine zc_drop hg.1.1 c3 (by rw [hg.2.1 3 (by omega)]; exact hl) (fun M4 q1 q2 _ => ?_)
  exact k M4 q1 (zg_tr g2 (zg_tr (by rw [← hM3]; exact zg_up (by omega)) q2))
theorem zc_breakOff {c l : Nat} {N : Nat → Int32} {M : za_M} {K : za_M → Prop} (hN : zN N) (h : zc c N M) (hl : l < (N 3).toNatClampNeg) (k : ∀ M', zc c (zbrk N l) M' → zg c M M' → K M') : f_X1_breakOff c (nI l) M K := by
  obtain ⟨fr, to, ash, many, e1, e2, e3, e4, b1, b2, b3, b4, b5, b6, b7, b8⟩ := zN_loan hN hl
  have hg := zbr0_K hN hl
  obtain ⟨x, hx, ex⟩ := (hN.2.2.1 to (by omega)).2.1
  obtain ⟨r0, r1, r2, r3, r4⟩ := zc_loan h hl M (fun _ => rfl)
  unfold f_X1_breakOff
  refine ⟨vp_in_nI (by omega) (by decide), ?_⟩
  rw [nI_clamp (by omega), r1, e2]
  refine ⟨vp_in_nI (by omega) (by decide), ?_⟩
  rw [nI_clamp (by omega), zf_X9_held, (h.2.2.1 to b2).2.1]
  unfold za_let
  try dsimp only
  have v2 : zhd (N (28 + 7 * to) + 1) 99 = za_min 99 (N (28 + 7 * to) + 1) := by
    rw [ex, nI_1, zl_lit 99, zhd_nI (by omega) (by omega), zmn (by omega) (by omega)]
  rw [v2]
  have c2 := zc_pot (f := 2) (v := za_min 99 (N (28 + 7 * to) + 1)) hN h b2 (Or.inr rfl)
  have e9 : upd N (26 + 2 + 7 * to) (za_min 99 (N (28 + 7 * to) + 1)) = zbr0 N l := by
    unfold zbr0
    rw [e2, nI_clamp (by omega)]
  rw [e9] at c2
  refine zc_drop hg.1.1 c2 (by rw [hg.2.1 3 (by omega)]; exact hl) (fun M4 q1 q2 _ => ?_)
  exact k M4 q1 (zg_tr (zg_up (by omega)) q2)
theorem zlw_g {c d u n : Nat} {f : Nat → Nat} {M M' : za_M} (h : zlw d u n f M) (g : zg c M M') : zlw d u n f M' := by
  have e6 := g.1 (6, d, u) (by simp)
  have e17 := g.1 (17, d, u) (by simp)
  unfold zlw
  rw [e6, e17]
  exact h
theorem zlw_K {d u : Nat} {N N' : Nat → Int32} {M : za_M} (h : zlw d u (zTn N 1) (zTf N 1) M) (k : zK N N') : zlw d u (zTn N' 1) (zTf N' 1) M := by
  have e1 : zTn N' 1 = zTn N 1 := by unfold zTn; rw [k.2 _ (by omega) (by omega) (by omega)]
  have e2 : zTf N' 1 = zTf N 1 := by funext i; unfold zTf; rw [k.2 _ (by omega) (by omega) (by omega)]
  rw [e1, e2]
  exact h
theorem zc_grow {c : Nat} {N : Nat → Int32} {M : za_M} {K : za_M → Prop} (hN : zN N) (h : zc c N M) (k : ∀ M', zc c (zgrow (N 1).toNatClampNeg 0 N) M' → zg c M M' → K M') : f_X1_growHedges c M K := by
  have hA := zs_cl hN.1.1 (by decide)
  have hP := zs_cl hN.1.2.1 (by decide)
  unfold f_X1_growHedges
  have key : ∀ (s : Nat) (x : Int32) (M' : za_M), (∃ a N', x = nI a ∧ a + s = (N 1).toNatClampNeg ∧ zK N N' ∧ zc c N' M' ∧ zgrow s a N' = zgrow (N 1).toNatClampNeg 0 N ∧ zg c M M') → ∃ q, za_lp1 (f_X1_growHedges_b2 K c) q x M' := by
    refine za_lp1_ind (fun s x M' => ∃ a N', x = nI a ∧ a + s = (N 1).toNatClampNeg ∧ zK N N' ∧ zc c N' M' ∧ zgrow s a N' = zgrow (N 1).toNatClampNeg 0 N ∧ zg c M M') ?_ ?_
    · intro x M' ⟨a, N', e1, e2, i1, i2, i3, i4⟩ L
      subst e1
      have i3 : N' = _ := i3
      unfold f_X1_growHedges_b2
      rw [i2.1.1, i1.2 1 (by omega) (by omega) (by omega), hA.2, if_pos (nI_le (by omega) (by omega))]
      exact k M' (by rw [← i3]; exact i2) i4
    · intro s x M' ⟨a, N', e1, e2, i1, i2, i3, i4⟩ L hL
      subst e1
      have n1 : N' 1 = N 1 := i1.2 1 (by omega) (by omega) (by omega)
      have n2 : N' 2 = N 2 := i1.2 2 (by omega) (by omega) (by omega)
      have ha : a < (N' 1).toNatClampNeg := by rw [n1]; omega
      obtain ⟨t, ht, et⟩ := (i1.1.2.1 a (by omega)).2.2.2
      obtain ⟨w, hw, ew⟩ := (i1.1.2.1 a (by omega)).2.2.1
      have kg := zgr_K i1.1 ha
      have eg : zgr N' a = if t < (N 2).toNatClampNeg then upd N' (29 + 7 * t + a) (za_min 999 (N' (29 + 7 * t + a) + N' (9 + 4 * a))) else N' := by
        unfold zgr
        rw [et, nI_clamp (by omega), n2]
      have ra := i2.2.1 a ha
      unfold f_X1_growHedges_b2
      rw [i2.1.1, n1, hA.2, if_neg (by rw [nI_leI (by omega) (by omega)]; omega)]
      refine ⟨vp_in_nI (by omega) (by decide), ?_⟩
      rw [nI_clamp (by omega), ra.2.2.2, zq_cPotter c t (N 2).toNatClampNeg et (by omega) (by omega) (by rw [i2.1.2.1, n2]; exact hP.2)]
      try dsimp only
      by_cases q : t < (N 2).toNatClampNeg
      · rw [if_pos q] at eg ⊢
        rw [if_neg (by decide), ra.2.2.2, ra.2.2.1, et]
        refine ⟨vp_in_nI (by omega) (by decide), ?_⟩
        rw [nI_clamp (by omega), zq_change c t a rfl (by omega)]
        unfold f_X1_growHedges_b45
        rw [nI_1]
        obtain ⟨y, hy, ey⟩ := ((i1.1.2.2.1 t (by omega)).2.2 a (by omega)).1
        have v : zhd (M'.1 (13, c, t) a + N' (9 + 4 * a)) 999 = za_min 999 (N' (29 + 7 * t + a) + N' (9 + 4 * a)) := by
          rw [(i2.2.2.1 t (by rw [n2]; exact q)).2.2 a (by omega), ey, ew, nI_add, zl_lit 999, zhd_nI (by omega) (by omega), zmn (by omega) (by omega)]
        rw [v]
        refine hL _ _ ⟨a + 1, zgr N' a, rfl, by omega, zK_tr i1 kg, ?_, i3, zg_tr i4 (zg_up (by omega))⟩
        rw [eg]
        exact zc_has i1.1 i2 (by rw [n2]; exact q) (by omega)
      · rw [if_neg q] at eg ⊢
        rw [if_pos rfl]
        unfold f_X1_growHedges_b45
        rw [nI_1]
        exact hL _ _ ⟨a + 1, N', rfl, by omega, i1, i2, by rw [← eg]; exact i3, i4⟩
  exact key _ _ _ ⟨0, N, rfl, Nat.zero_add _, zK_rf hN, h, rfl, zg_rf _ _⟩
theorem zq_cLoan0 (c k n : Nat) (hk : k < n) (hn : n < 2 ^ 31) {M : za_M} (h : M.1 (2, c, 0) 5 = nI n) (K : Int32 → za_M → Prop) : f_X1_hasLoan c (nI k) M K = K 1 M := by
  unfold f_X1_hasLoan
  rw [h, zf_X9_within, eq_true (zw_B _ _ _), true_and, zw_1 hk hn]
theorem zc_settle {c d u : Nat} {N : Nat → Int32} {M : za_M} {K : za_M → Prop} (hu : u = 1) (hN : zN N) (h : zc c N M) (hT : zlw d u (zTn N 1) (zTf N 1) M) (k : ∀ M', zc c (zset (N 3).toNatClampNeg 0 N) M' → zg c M M' → K M') : f_X1_settleLoans c d u M K := by
  have h3 := zs_cl hN.1.2.2.1 (by decide)
  unfold f_X1_settleLoans za_let
  rw [h.1.2.2.1, h3.2]
  generalize hn : (N 3).toNatClampNeg = n at *
  generalize hZ : zset n 0 N = Z at k
  have key : ∀ (s : Nat) (x y : Int32) (M' : za_M), (∃ l q N', x = nI l ∧ y = nI q ∧ q + s = n ∧ l + s = (N' 3).toNatClampNeg ∧ zK N N' ∧ zc c N' M' ∧ zset s l N' = Z ∧ zg c M M') → ∃ r, za_lp2 (f_X1_settleLoans_b10 K c d u (nI n)) r x y M' := by
    refine za_lp2_ind (fun s x y M' => ∃ l q N', x = nI l ∧ y = nI q ∧ q + s = n ∧ l + s = (N' 3).toNatClampNeg ∧ zK N N' ∧ zc c N' M' ∧ zset s l N' = Z ∧ zg c M M') ?_ ?_
    · intro x y M' ⟨l, q, N', e1, e2, e3, e4, i1, i2, i3, i4⟩ L
      subst e1; subst e2
      have i3 : N' = _ := i3
      unfold f_X1_settleLoans_b10
      rw [if_pos (nI_le (by omega) (by omega))]
      exact k M' (by rw [← i3]; exact i2) i4
    · intro s x y M' ⟨l, q, N', e1, e2, e3, e4, i1, i2, i3, i4⟩ L hL
      subst e1; subst e2
      have hl : l < (N' 3).toNatClampNeg := by omega
      have hb := (zs_cl i1.1.1.2.2.1 (by decide)).1
      have hT' := zlw_K (zlw_g hT i4) i1
      have e5 : M'.1 (2, c, 0) 5 = nI (N' 3).toNatClampNeg := i2.1.2.2.1.trans (zs_cl i1.1.1.2.2.1 (by decide)).2
      unfold f_X1_settleLoans_b10
      rw [if_neg (by rw [nI_leI (by omega) (by omega)]; omega), zq_cLoan0 c l _ hl (by omega) e5, if_neg (by decide)]
      refine ⟨vp_in_nI (by omega) (by decide), ?_⟩
      rw [nI_clamp (by omega), (i2.2.2.2.1 l hl).2.2.2.2, i2.1.2.2.2]
      unfold zset at i3
      by_cases r : N' (59 + 5 * l) = N' 0
      · rw [if_pos r] at i3 ⊢
        refine ⟨vp_in_nI (by omega) (by decide), ?_⟩
        refine zc_can i1.1 i2 hl ?_
        by_cases t : N' (zto N' l) < N' (58 + 5 * l)
        · rw [if_pos t] at i3 ⊢
          rw [if_pos rfl]
          have kb := zbrk_K i1.1 hl
          refine zc_breakOff i1.1 i2 hl (fun M2 q1 q2 => ?_)
          unfold f_X1_settleLoans_b74
          rw [nI_1]
          exact hL _ _ _ ⟨l, q + 1, _, rfl, rfl, by omega, by omega, zK_tr i1 kb.1, q1, i3, zg_tr i4 q2⟩
        · rw [if_neg t] at i3 ⊢
          rw [if_neg (by decide)]
          have kb := zgiv_K i1.1 hl t
          refine zc_giveBack hu i1.1 i2 hT' hl t (fun M2 q1 q2 => ?_)
          unfold f_X1_settleLoans_b74
          rw [nI_1]
          exact hL _ _ _ ⟨l, q + 1, _, rfl, rfl, by omega, by omega, zK_tr i1 kb.1, q1, i3, zg_tr i4 q2⟩
      · rw [if_neg r] at i3 ⊢
        unfold f_X1_settleLoans_b74
        rw [nI_1, nI_1]
        exact hL _ _ _ ⟨l + 1, q + 1, N', rfl, rfl, by omega, by omega, i1, i2, i3, i4⟩
  exact key n _ _ _ ⟨0, 0, N, rfl, rfl, by omega, by omega, zK_rf hN, h, hZ, zg_rf _ _⟩
theorem zc_days {c d u n : Nat} {N : Nat → Int32} {M : za_M} {K : za_M → Prop} (hu : u = 1) (hn : n < 1000) (hN : zN N) (h : zc c N M) (hT : zlw d u (zTn N 1) (zTf N 1) M) (k : ∀ M', zc c (zdays n N) M' → zg c M M' → K M') : f_X1_passDays c (nI n) d u M K := by
  unfold f_X1_passDays
  have key : ∀ (s : Nat) (x : Int32) (M' : za_M), (∃ j N', x = nI j ∧ j + s = n ∧ zK N N' ∧ zc c N' M' ∧ zdays s N' = zdays n N ∧ zg c M M') → ∃ q, za_lp1 (f_X1_passDays_b2 K c (nI n) d u) q x M' := by
    refine za_lp1_ind (fun s x M' => ∃ j N', x = nI j ∧ j + s = n ∧ zK N N' ∧ zc c N' M' ∧ zdays s N' = zdays n N ∧ zg c M M') ?_ ?_
    · intro x M' ⟨j, N', e1, e2, i1, i2, i3, i4⟩ L
      subst e1
      have i3 : N' = _ := i3
      unfold f_X1_passDays_b2
      rw [if_pos (nI_le (by omega) (by omega))]
      exact k M' (by rw [← i3]; exact i2) i4
    · intro s x M' ⟨j, N', e1, e2, i1, i2, i3, i4⟩ L hL
      subst e1
      unfold f_X1_passDays_b2 za_let
      rw [if_neg (by rw [nI_leI (by omega) (by omega)]; omega)]
      try dsimp only
      rw [i2.1.2.2.2]
      have k0 : zK N' (upd N' 0 (N' 0 + 1)) := ⟨zN_day i1.1, fun k h1 _ _ => zu_ne h1⟩
      have c0 := zc_day (v := N' 0 + 1) i2
      have e1 : (upd N' 0 (N' 0 + 1)) 1 = N' 1 := zu_ne (by omega)
      have kd := zday1_K i1.1
      refine zc_grow k0.1 c0 (fun M2 q1 q2 => ?_)
      rw [e1] at q1
      have q1 : zc c (zday1 N') M2 := q1
      refine zc_settle hu kd.1 q1 (zlw_K (zlw_g (zlw_g (zlw_g hT i4) (zg_up (Or.inl rfl))) q2) (zK_tr i1 kd)) (fun M3 q3 q4 => ?_)
      rw [nI_1]
      exact hL _ _ ⟨j + 1, zday N', rfl, by omega, zK_tr i1 (zday_K i1.1), q3, i3, zg_tr i4 (zg_tr (zg_up (Or.inl rfl)) (zg_tr q2 q4))⟩
  exact key n _ _ ⟨0, N, rfl, by omega, zK_rf hN, h, rfl, zg_rf _ _⟩

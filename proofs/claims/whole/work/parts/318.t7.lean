/-! single calls, six: ash, potter -/
theorem zN_cA {N : Nat → Int32} {n : Nat} (h : zN N) (e : N 1 = nI n) (hn : n < 5) : zN (upd N 1 (nI (n + 1))) := by
  obtain ⟨⟨b1, b2, b3, b4, b5⟩, b6, b7, b8, b9⟩ := h
  have hL := (zs_cl b3 (by decide)).1
  refine ⟨⟨by rw [zu_eq]; exact zs_nI (by omega), by rw [zu_ne (by omega)]; exact b2, by rw [zu_ne (by omega)]; exact b3, by rw [zu_ne (by omega)]; exact b4, by rw [zu_ne (by omega)]; exact b5⟩, fun a ha => ?_, fun p hp => ?_, fun l hl => ?_, fun i hi => ?_⟩
  · rw [zu_ne (by omega), zu_ne (by omega), zu_ne (by omega), zu_ne (by omega)]
    exact b6 a ha
  · refine ⟨by rw [zu_ne (by omega)]; exact (b7 p hp).1, by rw [zu_ne (by omega)]; exact (b7 p hp).2.1, fun a ha => ?_⟩
    rw [zu_ne (show 29 + 7 * p + a ≠ 1 by omega), zu_eq, nI_clamp (by omega)]
    have := (b7 p hp).2.2 a ha
    rw [e, nI_clamp (by omega)] at this
    exact ⟨this.1, fun q => this.2 (by omega)⟩
  · rw [zu_ne (show 3 ≠ 1 by omega)] at hl
    rw [zu_ne (show 55 + 5 * l ≠ 1 by omega), zu_ne (show 56 + 5 * l ≠ 1 by omega), zu_ne (show 57 + 5 * l ≠ 1 by omega), zu_ne (show 58 + 5 * l ≠ 1 by omega), zu_ne (show 2 ≠ 1 by omega), zu_eq, nI_clamp (by omega)]
    have := b8 l hl
    rw [e, nI_clamp (by omega)] at this
    exact ⟨this.1, this.2.1, zs_le this.2.2.1 (by omega), this.2.2.2⟩
  · rw [zu_ne (by omega)]
    exact b9 i hi
theorem zN_cP {N : Nat → Int32} {n : Nat} (h : zN N) (e : N 2 = nI n) (hn : n < 4) : zN (upd N 2 (nI (n + 1))) := by
  obtain ⟨⟨b1, b2, b3, b4, b5⟩, b6, b7, b8, b9⟩ := h
  have hL := (zs_cl b3 (by decide)).1
  refine ⟨⟨by rw [zu_ne (by omega)]; exact b1, by rw [zu_eq]; exact zs_nI (by omega), by rw [zu_ne (by omega)]; exact b3, by rw [zu_ne (by omega)]; exact b4, by rw [zu_ne (by omega)]; exact b5⟩, fun a ha => ?_, fun p hp => ?_, fun l hl => ?_, fun i hi => ?_⟩
  · rw [zu_ne (by omega), zu_ne (by omega), zu_ne (by omega), zu_ne (by omega)]
    exact b6 a ha
  · refine ⟨by rw [zu_ne (by omega)]; exact (b7 p hp).1, by rw [zu_ne (by omega)]; exact (b7 p hp).2.1, fun a ha => ?_⟩
    rw [zu_ne (show 29 + 7 * p + a ≠ 2 by omega), zu_ne (show 1 ≠ 2 by omega)]
    exact (b7 p hp).2.2 a ha
  · rw [zu_ne (show 3 ≠ 2 by omega)] at hl
    rw [zu_ne (show 55 + 5 * l ≠ 2 by omega), zu_ne (show 56 + 5 * l ≠ 2 by omega), zu_ne (show 57 + 5 * l ≠ 2 by omega), zu_ne (show 58 + 5 * l ≠ 2 by omega), zu_ne (show 1 ≠ 2 by omega), zu_eq, nI_clamp (by omega)]
    have := b8 l hl
    rw [e, nI_clamp (by omega)] at this
    exact ⟨zs_le this.1 (by omega), zs_le this.2.1 (by omega), this.2.2⟩
  · rw [zu_ne (by omega)]
    exact b9 i hi
theorem zc_cA {c n : Nat} {N : Nat → Int32} {M : za_M} (hN : zN N) (h : zc c N M) (e : N 1 = nI n) (hn : n < 5) (h0 : M.1 (3, c, n) 0 = N (7 + 4 * n) ∧ M.1 (3, c, n) 1 = N (8 + 4 * n) ∧ M.1 (3, c, n) 2 = N (9 + 4 * n) ∧ M.1 (3, c, n) 3 = N (10 + 4 * n)) : zc c (upd N 1 (nI (n + 1))) (za_up M (2, c, 0) 3 (nI (n + 1))) := by
  have hP := (zs_cl hN.1.2.1 (by decide)).1
  have hL := (zs_cl hN.1.2.2.1 (by decide)).1
  obtain ⟨h1, h2, h3, h4, h5⟩ := h
  have o : ∀ (k i : Nat), k ≠ 2 → (za_up M (2, c, 0) 3 (nI (n + 1))).1 (k, c, i) = M.1 (k, c, i) := fun k i hk => za_up_oth _ _ _ (by simp [hk])
  refine ⟨?_, fun b hb => ?_, fun q hq => ?_, fun l hl => ?_, h5⟩
  · rw [zu_eq, zu_ne (by omega), zu_ne (by omega), zu_ne (by omega)]
    exact ⟨by simp [zl_up], by simp [zl_up, h1.2.1], by simp [zl_up, h1.2.2.1], by simp [zl_up, h1.2.2.2]⟩
  · rw [zu_eq, nI_clamp (by omega)] at hb
    rw [o 3 b (by decide), zu_ne (by omega), zu_ne (by omega), zu_ne (by omega), zu_ne (by omega)]
    by_cases z : b = n
    · rw [z]; exact h0
    · exact h2 b (by rw [e, nI_clamp (by omega)]; omega)
  · rw [zu_ne (show 2 ≠ 1 by omega)] at hq
    refine ⟨by rw [o 4 q (by decide), zu_ne (by omega)]; exact (h3 q hq).1, by rw [o 4 q (by decide), zu_ne (by omega)]; exact (h3 q hq).2.1, fun b hb => ?_⟩
    rw [o 13 q (by decide), zu_ne (by omega)]
    exact (h3 q hq).2.2 b hb
  · rw [zu_ne (show 3 ≠ 1 by omega)] at hl
    rw [show (za_up M (2, c, 0) 3 (nI (n + 1))).2 = M.2 from rfl, o 5 _ (by decide), zu_ne (by omega), zu_ne (by omega), zu_ne (by omega), zu_ne (by omega), zu_ne (by omega)]
    exact h4 l hl
theorem zc_cP {c n : Nat} {N : Nat → Int32} {M : za_M} (hN : zN N) (h : zc c N M) (e : N 2 = nI n) (hn : n < 4) (h0 : M.1 (4, c, n) 1 = N (27 + 7 * n) ∧ M.1 (4, c, n) 2 = N (28 + 7 * n) ∧ ∀ a, a < 5 → M.1 (13, c, n) a = N (29 + 7 * n + a)) : zc c (upd N 2 (nI (n + 1))) (za_up M (2, c, 0) 4 (nI (n + 1))) := by
  have hA := (zs_cl hN.1.1 (by decide)).1
  have hL := (zs_cl hN.1.2.2.1 (by decide)).1
  obtain ⟨h1, h2, h3, h4, h5⟩ := h
  have o : ∀ (k i : Nat), k ≠ 2 → (za_up M (2, c, 0) 4 (nI (n + 1))).1 (k, c, i) = M.1 (k, c, i) := fun k i hk => za_up_oth _ _ _ (by simp [hk])
  refine ⟨?_, fun b hb => ?_, fun q hq => ?_, fun l hl => ?_, h5⟩
  · rw [zu_eq, zu_ne (by omega), zu_ne (by omega), zu_ne (by omega)]
    exact ⟨by simp [zl_up, h1.1], by simp [zl_up], by simp [zl_up, h1.2.2.1], by simp [zl_up, h1.2.2.2]⟩
  · rw [zu_ne (show 1 ≠ 2 by omega)] at hb
    rw [o 3 b (by decide), zu_ne (by omega), zu_ne (by omega), zu_ne (by omega), zu_ne (by omega)]
    exact h2 b hb
  · rw [zu_eq, nI_clamp (by omega)] at hq
    rw [o 4 q (by decide), o 13 q (by decide), zu_ne (show 27 + 7 * q ≠ 2 by omega), zu_ne (show 28 + 7 * q ≠ 2 by omega)]
    by_cases z : q = n
    · subst z
      exact ⟨h0.1, h0.2.1, fun a ha => by rw [zu_ne (by omega)]; exact h0.2.2 a ha⟩
    · have := h3 q (by rw [e, nI_clamp (by omega)]; omega)
      exact ⟨this.1, this.2.1, fun a ha => by rw [zu_ne (by omega)]; exact this.2.2 a ha⟩
  · rw [zu_ne (show 3 ≠ 2 by omega)] at hl
    rw [show (za_up M (2, c, 0) 4 (nI (n + 1))).2 = M.2 from rfl, o 5 _ (by decide), zu_ne (by omega), zu_ne (by omega), zu_ne (by omega), zu_ne (by omega), zu_ne (by omega)]
    exact h4 l hl
theorem zT_ash (x1 : Int32) : zV (f_X9_ash x1) (f_X10_ash x1) := by
  intro M K hI hK
  obtain ⟨nA, nP, nL, bA, bP, bL, rA, rP, rL, cA, cP, cL⟩ := zI_cnt hI
  have f28 : ∀ (M1 : za_M), (∀ x : za_L, x.1 ≠ 24 → M1.1 x = M.1 x) → M1.1 (28, 0, 0) = M.1 (28, 0, 0) := fun M1 h => h (28, 0, 0) (by decide)
  have v1 : vp_in 1 279 := vp_in_nI (n := 1) (by decide) (by decide)
  simp only [f_X9_ash, f_X9_isKindAndNumber, zf_X9_within, eq_true (zw_B _ _ _), true_and]
  rcases (zw_cs x1 (n := 70) (by omega)).symm with q1 | ⟨w, hw, rfl, q1⟩
  · have q1 : zw x1 0 69 = 0 := q1
    rw [q1, if_pos rfl]
    exact zV_ff (R := f_X10_ash x1) (y := -1000000001) 1 rfl (by decide) (by decide) rfl hI hK (fun M1 K' h => by simp only [f_X10_ash, f_X10_isKindM, zf_X10_within, q1, za_B0, true_and, if_true])
  have q1 : zw (nI w) 0 69 = 1 := q1
  rw [q1, if_neg (by decide), cA]
  by_cases q2 : nA < 5
  · have hd : nI w / 10 = nI (w / 10) := pk_div (by omega) (by decide) (by decide)
    have hr : nI w - nI w / 10 * 10 = nI (w % 10) := pk_rem (by omega) (by decide) (by decide)
    rw [if_pos (show nI nA < 5 from nI_lt (b := 5) q2 (by omega)), zx_in q2 (by decide), nI_clamp (by omega)]
    simp only [f_X0_begin, za_let]
    rw [hr, hd]
    have hN := hI.1.1
    have n1 := zN_a0 (v := nI (w / 10)) hN q2 (zs_nI (by omega))
    have c1 := zc_ash (f := 0) (v := nI (w / 10)) hN hI.2.2.1.1 q2 (by omega)
    have n2 := zN_a1 (v := nI (w % 10)) n1 q2 (zs_nI (by omega))
    have c2 := zc_ash (f := 1) (v := nI (w % 10)) n1 c1 q2 (by omega)
    have n3 := zN_a2 (v := 0) n2 q2 (zs_nI (n := 0) (by omega))
    have c3 := zc_ash (f := 2) (v := 0) n2 c2 q2 (by omega)
    have n4 := zN_a3 (v := 0) n3 q2 (zs_nI (n := 0) (by omega))
    have c4 := zc_ash (f := 3) (v := 0) n3 c3 q2 (by omega)
    generalize hM4 : za_up (za_up (za_up (za_up M (3, 0, nA) 0 (nI (w / 10))) (3, 0, nA) 1 (nI (w % 10))) (3, 0, nA) 2 0) (3, 0, nA) 3 0 = M4 at c4 ⊢
    have g4 : zg 0 M M4 := by
      rw [← hM4]
      exact zg_tr (zg_up (by omega)) (zg_tr (zg_up (by omega)) (zg_tr (zg_up (by omega)) (zg_up (by omega))))
    generalize hN4 : upd (upd (upd (upd (M.1 (28, 0, 0)) (7 + 4 * nA) (nI (w / 10))) (8 + 4 * nA) (nI (w % 10))) (9 + 4 * nA) 0) (10 + 4 * nA) 0 = N4 at n4
    have c4 : zc 0 N4 M4 := by rw [← hN4]; exact c4
    have e1 : N4 1 = nI nA := by rw [← hN4, zu_ne (by omega), zu_ne (by omega), zu_ne (by omega), zu_ne (by omega)]; exact rA
    have lo : ∀ k, (k < 7 ∨ 27 ≤ k) → N4 k = M.1 (28, 0, 0) k := fun k hk => by rw [← hN4, zu_ne (by omega), zu_ne (by omega), zu_ne (by omega), zu_ne (by omega)]
    have r2 : M4.1 (2, 0, 0) 3 = nI nA := by rw [c4.1.1, e1]
    have row : M4.1 (3, 0, nA) 0 = N4 (7 + 4 * nA) ∧ M4.1 (3, 0, nA) 1 = N4 (8 + 4 * nA) ∧ M4.1 (3, 0, nA) 2 = N4 (9 + 4 * nA) ∧ M4.1 (3, 0, nA) 3 = N4 (10 + 4 * nA) := by
      rw [← hM4, ← hN4]
      refine ⟨?_, ?_, ?_, ?_⟩
      · rw [zu_ne (by omega), zu_ne (by omega), zu_ne (by omega), zu_eq]; simp [zl_up]
      · rw [zu_ne (by omega), zu_ne (by omega), zu_eq]; simp [zl_up]
      · rw [zu_ne (by omega), zu_eq]; simp [zl_up]
      · rw [zu_eq]; simp [zl_up]
    have c5 := zc_cA n4 c4 e1 q2 row
    have n5 := zN_cA n4 e1 q2
    rw [r2, nI_1]
    have r3 : (za_up M4 (2, 0, 0) 3 (nI (nA + 1))).1 (2, 0, 0) 3 = nI (nA + 1) := by simp [zl_up]
    rw [r3, nI_pred]
    generalize hM5 : za_up M4 (2, 0, 0) 3 (nI (nA + 1)) = M5 at c5 ⊢
    have g5 : zg 0 M M5 := by rw [← hM5]; exact zg_tr g4 (zg_up (by omega))
    have o : M5.1 (28, 0, 0) = M.1 (28, 0, 0) := g5.1 _ (by simp)
    simp only [f_X10_ash, f_X10_isKindM, zf_X10_within, q1, za_B1, true_and, zl_10, if_false, f_X10_ashComes, za_let]
    refine ⟨v1, ?_⟩
    rw [show Int32.toNatClampNeg 1 = 1 by decide, o, rA, if_neg (show ¬ nI nA = 5 from fun q => by have := (nI_eq (a := nA) (b := 5) (by omega) (by omega)).mp q; omega)]
    refine ⟨v1, ?_⟩
    rw [hr, hd, zq_ashAt (y := 0) nA 0 rfl rfl, zx_in (by omega) (by decide), zq_ashAt (y := 1) nA 1 rfl rfl, zx_in (by omega) (by decide), zq_ashAt (y := 2) nA 2 rfl rfl, zx_in (by omega) (by decide), zq_ashAt (y := 3) nA 3 rfl rfl, zx_in (by omega) (by decide), nI_clamp (by omega), nI_clamp (by omega), nI_clamp (by omega), nI_clamp (by omega), Nat.add_zero, show 7 + 4 * nA + 1 = 8 + 4 * nA by omega, show 7 + 4 * nA + 2 = 9 + 4 * nA by omega, show 7 + 4 * nA + 3 = 10 + 4 * nA by omega]
    generalize hM6 : za_up (za_up (za_up (za_up M5 (28, 0, 0) (7 + 4 * nA) (nI (w / 10))) (28, 0, 0) (8 + 4 * nA) (nI (w % 10))) (28, 0, 0) (9 + 4 * nA) 0) (28, 0, 0) (10 + 4 * nA) 0 = M6
    have e6 : M6.1 (28, 0, 0) = N4 := by rw [← hM6, za_up_row, za_up_row, za_up_row, za_up_row, o, hN4]
    have k6 : zk [28, 34, 35] M5 M6 := by rw [← hM6]; exact zk_tr (zk_up (by decide)) (zk_tr (zk_up (by decide)) (zk_tr (zk_up (by decide)) (zk_up (by decide))))
    have key : ∀ (s : Nat) (x : Int32) (M' : za_M), (∃ i, x = nI i ∧ i + s = 4 ∧ M'.1 (28, 0, 0) = N4 ∧ zk [28, 34, 35] M5 M') → ∃ q, za_lp1 (f_X10_ashComes_b59 (fun r7 M6 => K (nI nA) r7 M6) (nI nA)) q x M' := by
      refine za_lp1_ind (fun s x M' => ∃ i, x = nI i ∧ i + s = 4 ∧ M'.1 (28, 0, 0) = N4 ∧ zk [28, 34, 35] M5 M') ?_ ?_
      · intro x M' ⟨i, a1, a2, a3, a4⟩ L
        subst a1
        simp only [f_X10_ashComes_b59, za_let]
        rw [show i = 4 by omega, if_pos (show (4 : Int32) ≤ nI 4 by decide)]
        refine ⟨v1, v1, ?_⟩
        rw [show Int32.toNatClampNeg 1 = 1 by decide, a3, e1, nI_1]
        refine hK _ _ (zI_cty (N' := upd N4 1 (nI (nA + 1))) hI g5 (zk_tr a4 (zk_up (by decide))) n5 (by rw [za_up_row, a3]) (fun k hk => by rw [zu_ne (by omega)]; exact lo k (by omega)) c5)
      · intro s x M' ⟨i, a1, a2, a3, a4⟩ L hL
        subst a1
        simp only [f_X10_ashComes_b59, za_let]
        rw [if_neg (show ¬ (4 : Int32) ≤ nI i from fun q => by have := (nI_leI (a := 4) (b := i) (by omega) (by omega)).mp q; omega), zq_storeAt i nA rfl rfl, zx_in (by omega) (by decide), nI_clamp (by omega), nI_1]
        refine hL _ _ ⟨i + 1, rfl, by omega, ?_, zk_tr a4 (zk_up (by decide))⟩
        rw [za_up_row, a3]
        refine zu_id ?_
        rw [lo _ (by omega)]
        exact ((hN.2.2.1 i (by omega)).2.2 nA q2).2 (by rw [rA, nI_clamp (by omega)]; exact Nat.le_refl _)
    exact key 4 _ _ ⟨0, rfl, by omega, e6, k6⟩
  · rw [if_neg (show ¬ nI nA < 5 from fun q => q2 ((nI_ltI (a := nA) (b := 5) (by omega) (by omega)).mp q))]
    have e5 : nA = 5 := by omega
    exact zV_ff (R := f_X10_ash (nI w)) (y := -1000000004) 4 rfl (by decide) (by decide) rfl hI hK (fun M1 K' h => by simp only [f_X10_ash, f_X10_isKindM, zf_X10_within, q1, za_B1, true_and, zl_10, if_false, eq_true v1, show Int32.toNatClampNeg 1 = 1 by decide, f28 M1 h, rA, e5, show (nI 5 = 5) = True from eq_true rfl, if_true])
/-- a new potter's numbers -/
def zpz (N : Nat → Int32) (p h : Nat) : Nat → Int32 := fun k => if 27 + 7 * p ≤ k ∧ k < 27 + 7 * p + h then 0 else N k
theorem zpz_s (N : Nat → Int32) (p h : Nat) : upd (zpz N p h) (27 + 7 * p + h) 0 = zpz N p (h + 1) := by
  funext k
  unfold upd zpz
  by_cases q : k = 27 + 7 * p + h
  · rw [if_pos q, if_pos (by omega)]
  · rw [if_neg q]
    by_cases r : 27 + 7 * p ≤ k ∧ k < 27 + 7 * p + h
    · rw [if_pos r, if_pos (by omega)]
    · rw [if_neg r, if_neg (by omega)]
theorem zpz_o (N : Nat → Int32) {p h k : Nat} (q : k < 27 + 7 * p ∨ 27 + 7 * p + h ≤ k) : zpz N p h k = N k := by
  unfold zpz
  rw [if_neg (by omega)]
theorem zpz_N {N : Nat → Int32} {p : Nat} (h : zN N) (hp : p < 4) : zN (zpz N p 7) := by
  obtain ⟨⟨b1, b2, b3, b4, b5⟩, b6, b7, b8, b9⟩ := h
  have hL := (zs_cl b3 (by decide)).1
  have z0 : ∀ n, 0 < n → zs (0 : Int32) n := fun n hn => zs_nI (n := 0) hn
  refine ⟨⟨by rw [zpz_o N (by omega)]; exact b1, by rw [zpz_o N (by omega)]; exact b2, by rw [zpz_o N (by omega)]; exact b3, by rw [zpz_o N (by omega)]; exact b4, by rw [zpz_o N (by omega)]; exact b5⟩, fun a ha => ?_, fun q hq => ?_, fun l hl => ?_, fun i hi => ?_⟩
  · rw [zpz_o N (by omega), zpz_o N (by omega), zpz_o N (by omega), zpz_o N (by omega)]
    exact b6 a ha
  · rw [zpz_o N (k := 1) (by omega)]
    by_cases z : q = p
    · subst z
      have zz : ∀ k, 27 + 7 * q ≤ k → k < 27 + 7 * q + 7 → zpz N q 7 k = 0 := fun k h1 h2 => by unfold zpz; rw [if_pos ⟨h1, h2⟩]
      rw [zz _ (by omega) (by omega), zz _ (by omega) (by omega)]
      exact ⟨z0 _ (by omega), z0 _ (by omega), fun a ha => by rw [zz _ (by omega) (by omega)]; exact ⟨z0 _ (by omega), fun _ => rfl⟩⟩
    · refine ⟨by rw [zpz_o N (by omega)]; exact (b7 q hq).1, by rw [zpz_o N (by omega)]; exact (b7 q hq).2.1, fun a ha => ?_⟩
      rw [zpz_o N (by omega)]
      exact (b7 q hq).2.2 a ha
  · rw [zpz_o N (k := 3) (by omega)] at hl
    rw [zpz_o N (k := 1) (by omega), zpz_o N (k := 2) (by omega), zpz_o N (k := 55 + 5 * l) (by omega), zpz_o N (k := 56 + 5 * l) (by omega), zpz_o N (k := 57 + 5 * l) (by omega), zpz_o N (k := 58 + 5 * l) (by omega)]
    exact b8 l hl
  · rw [zpz_o N (by omega)]
    exact b9 i hi
theorem zc_begin {c p : Nat} {M : za_M} {K : za_M → Prop} (k : ∀ M' : za_M, (∀ a, a < 5 → M'.1 (13, c, p) a = 0) → M'.1 (4, c, p) 1 = 0 → M'.1 (4, c, p) 2 = 0 → (∀ x, x ≠ (13, c, p) → x ≠ (4, c, p) → M'.1 x = M.1 x) → M'.2 = M.2 → K M') : f_X4_begin c p M K := by
  unfold f_X4_begin
  have key : ∀ (s : Nat) (x : Int32) (M' : za_M), (∃ i, x = nI i ∧ i + s = 5 ∧ (∀ a, a < i → M'.1 (13, c, p) a = 0) ∧ (∀ x, x ≠ (13, c, p) → M'.1 x = M.1 x) ∧ M'.2 = M.2) → ∃ q, za_lp1 (f_X4_begin_b2 K c p) q x M' := by
    refine za_lp1_ind (fun s x M' => ∃ i, x = nI i ∧ i + s = 5 ∧ (∀ a, a < i → M'.1 (13, c, p) a = 0) ∧ (∀ x, x ≠ (13, c, p) → M'.1 x = M.1 x) ∧ M'.2 = M.2) ?_ ?_
    · intro x M' ⟨i, a1, a2, a3, a4, a5⟩ L
      subst a1
      simp only [f_X4_begin_b2, za_let]
      rw [show i = 5 by omega, if_pos (show (5 : Int32) ≤ nI 5 by decide)]
      refine k _ (fun a ha => ?_) (by simp [zl_up]) (by simp [zl_up]) (fun x h1 h2 => ?_) a5
      · rw [za_up_oth _ _ _ (by simp), za_up_oth _ _ _ (by simp)]
        exact a3 a (by omega)
      · rw [za_up_oth _ _ _ h2, za_up_oth _ _ _ h2]
        exact a4 x h1
    · intro s x M' ⟨i, a1, a2, a3, a4, a5⟩ L hL
      subst a1
      simp only [f_X4_begin_b2, za_let]
      rw [if_neg (show ¬ (5 : Int32) ≤ nI i from fun q => by have := (nI_leI (a := 5) (b := i) (by omega) (by omega)).mp q; omega), zx_in (by omega) (by decide), nI_clamp (by omega), nI_1]
      refine hL _ _ ⟨i + 1, rfl, by omega, fun a ha => ?_, fun x hx => by rw [za_up_oth _ _ _ hx]; exact a4 x hx, a5⟩
      rw [za_up_row]
      by_cases z : a = i
      · rw [z, zu_eq]
      · rw [zu_ne z]
        exact a3 a (by omega)
  exact key 5 _ _ ⟨0, rfl, by omega, fun a ha => by omega, fun _ _ => rfl, rfl⟩
theorem zT_potter : zV f_X9_potter f_X10_potter := by
  intro M K hI hK
  obtain ⟨nA, nP, nL, bA, bP, bL, rA, rP, rL, cA, cP, cL⟩ := zI_cnt hI
  have f28 : ∀ (M1 : za_M), (∀ x : za_L, x.1 ≠ 24 → M1.1 x = M.1 x) → M1.1 (28, 0, 0) = M.1 (28, 0, 0) := fun M1 h => h (28, 0, 0) (by decide)
  have v2 : vp_in 2 279 := vp_in_nI (n := 2) (by decide) (by decide)
  simp only [f_X9_potter, cP, za_let]
  by_cases q2 : nP < 4
  · rw [if_pos (show nI nP < 4 from nI_lt (b := 4) q2 (by omega)), zx_in q2 (by decide), nI_clamp (by omega)]
    refine zc_begin (fun M1 b13 b41 b42 bo bp => ?_)
    have hN := hI.1.1
    have g1 : zg 0 M M1 := ⟨fun x hx => bo x (fun e => hx (by rw [e]; simp)) (fun e => hx (by rw [e]; simp)), fun d _ => by rw [bp]⟩
    have n1 := zpz_N hN q2
    have hA := hI.1.1.1.1
    have c1 : zc 0 (zpz (M.1 (28, 0, 0)) nP 7) M1 := by
      have c0 := hI.2.2.1.1
      have e2 : zpz (M.1 (28, 0, 0)) nP 7 2 = M.1 (28, 0, 0) 2 := zpz_o _ (by omega)
      have e1 : zpz (M.1 (28, 0, 0)) nP 7 1 = M.1 (28, 0, 0) 1 := zpz_o _ (by omega)
      have e3 : zpz (M.1 (28, 0, 0)) nP 7 3 = M.1 (28, 0, 0) 3 := zpz_o _ (by omega)
      refine ⟨?_, fun a ha => ?_, fun p hp => ?_, fun l hl => ?_, by rw [bp]; exact c0.2.2.2.2⟩
      · rw [bo (2, 0, 0) (by simp) (by simp), e1, e2, e3, zpz_o _ (by omega)]
        exact c0.1
      · rw [e1] at ha
        have := c0.2.1 a ha
        rw [rA, nI_clamp (by omega)] at ha
        rw [bo (3, 0, a) (by simp) (by simp), zpz_o _ (by omega), zpz_o _ (by omega), zpz_o _ (by omega), zpz_o _ (by omega)]
        exact this
      · rw [e2] at hp
        have := c0.2.2.1 p hp
        rw [rP, nI_clamp (by omega)] at hp
        rw [bo (4, 0, p) (by simp) (by simp; omega), bo (13, 0, p) (by simp; omega) (by simp), zpz_o _ (by omega), zpz_o _ (by omega)]
        exact ⟨this.1, this.2.1, fun a ha => by rw [zpz_o _ (by omega)]; exact this.2.2 a ha⟩
      · rw [e3] at hl
        rw [bp, bo (5, 0, _) (by simp) (by simp), zpz_o _ (by omega), zpz_o _ (by omega), zpz_o _ (by omega), zpz_o _ (by omega), zpz_o _ (by omega)]
        exact c0.2.2.2.1 l hl
    have e2 : zpz (M.1 (28, 0, 0)) nP 7 2 = nI nP := by rw [zpz_o _ (by omega)]; exact rP
    have zz : ∀ k, 27 + 7 * nP ≤ k → k < 27 + 7 * nP + 7 → zpz (M.1 (28, 0, 0)) nP 7 k = 0 := fun k h1 h2 => by unfold zpz; rw [if_pos ⟨h1, h2⟩]
    have c5 := zc_cP n1 c1 e2 q2 ⟨by rw [b41, zz _ (by omega) (by omega)], by rw [b42, zz _ (by omega) (by omega)], fun a ha => by rw [b13 a ha, zz _ (by omega) (by omega)]⟩
    have n5 := zN_cP n1 e2 q2
    have r2 : M1.1 (2, 0, 0) 4 = nI nP := by rw [c1.1.2.1, e2]
    rw [r2, nI_1]
    have r3 : (za_up M1 (2, 0, 0) 4 (nI (nP + 1))).1 (2, 0, 0) 4 = nI (nP + 1) := by simp [zl_up]
    rw [r3, nI_pred]
    generalize hM5 : za_up M1 (2, 0, 0) 4 (nI (nP + 1)) = M5 at c5 ⊢
    have g5 : zg 0 M M5 := by rw [← hM5]; exact zg_tr g1 (zg_up (by omega))
    have o : M5.1 (28, 0, 0) = M.1 (28, 0, 0) := g5.1 _ (by simp)
    simp only [f_X10_potter, za_let]
    refine ⟨v2, ?_⟩
    rw [show Int32.toNatClampNeg 2 = 2 by decide, o, rP, if_neg (show ¬ nI nP = 4 from fun q => by have := (nI_eq (a := nP) (b := 4) (by omega) (by omega)).mp q; omega)]
    have key : ∀ (s : Nat) (x : Int32) (M' : za_M), (∃ i, x = nI i ∧ i + s = 7 ∧ M'.1 (28, 0, 0) = zpz (M.1 (28, 0, 0)) nP i ∧ zk [28, 34, 35] M5 M') → ∃ q, za_lp1 (f_X10_potter_b21 (fun r2 M2 => K (nI nP) r2 M2) (nI nP)) q x M' := by
      refine za_lp1_ind (fun s x M' => ∃ i, x = nI i ∧ i + s = 7 ∧ M'.1 (28, 0, 0) = zpz (M.1 (28, 0, 0)) nP i ∧ zk [28, 34, 35] M5 M') ?_ ?_
      · intro x M' ⟨i, a1, a2, a3, a4⟩ L
        subst a1
        have ei : i = 7 := by omega
        subst ei
        simp only [f_X10_potter_b21, za_let]
        rw [if_pos (show (7 : Int32) ≤ nI 7 by decide)]
        refine ⟨v2, v2, ?_⟩
        rw [show Int32.toNatClampNeg 2 = 2 by decide, a3, e2, nI_1]
        refine hK _ _ (zI_cty (N' := upd (zpz (M.1 (28, 0, 0)) nP 7) 2 (nI (nP + 1))) hI g5 (zk_tr a4 (zk_up (by decide))) n5 (by rw [za_up_row, a3]) (fun k hk => by rw [zu_ne (by omega)]; exact zpz_o _ (by omega)) c5)
      · intro s x M' ⟨i, a1, a2, a3, a4⟩ L hL
        subst a1
        simp only [f_X10_potter_b21, za_let]
        rw [if_neg (show ¬ (7 : Int32) ≤ nI i from fun q => by have := (nI_leI (a := 7) (b := i) (by omega) (by omega)).mp q; omega), zq_potterAt nP i rfl rfl, zx_in (by omega) (by decide), nI_clamp (by omega), nI_1]
        refine hL _ _ ⟨i + 1, rfl, by omega, ?_, zk_tr a4 (zk_up (by decide))⟩
        rw [za_up_row, a3]
        exact zpz_s _ nP i
    exact key 7 _ _ ⟨0, rfl, by omega, by rw [o]; funext k; unfold zpz; rw [if_neg (by omega)], zk_rf _ _⟩
  · rw [if_neg (show ¬ nI nP < 4 from fun q => q2 ((nI_ltI (a := nP) (b := 4) (by omega) (by omega)).mp q))]
    have e5 : nP = 4 := by omega
    exact zV_ff (R := f_X10_potter) (y := -1000000004) 4 rfl (by decide) (by decide) rfl hI hK (fun M1 K' h => by simp only [f_X10_potter, za_let, eq_true v2, true_and, show Int32.toNatClampNeg 2 = 2 by decide, f28 M1 h, rP, e5, show (nI 4 = 4) = True from eq_true rfl, if_true])

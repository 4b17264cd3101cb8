/-! single calls, four: days, back, a loan more -/
theorem zu_id {N : Nat → Int32} {k : Nat} {v : Int32} (h : N k = v) : upd N k v = N := by
  funext j
  unfold upd
  by_cases q : j = k
  · rw [if_pos q, q, h]
  · rw [if_neg q]
theorem zZ1 : Int32.toNatClampNeg 1 = 1 := by decide
theorem zw_1n {x : Int32} {m : Nat} (hm : m < 1000) (h : ¬ zw x 1 (nI m) = 0) : ∃ n, n ≤ m ∧ 1 ≤ n ∧ x = nI n := by
  unfold zw at h
  by_cases a : x < 1
  · rw [if_pos a] at h; exact absurd rfl h
  · rw [if_neg a] at h
    by_cases b : nI m < x
    · rw [if_pos b] at h; exact absurd rfl h
    · obtain ⟨k, hk, rfl⟩ := nI_of (x := x) (fun hh => a (Int32.lt_trans hh (by decide)))
      rw [nI_ltI (by omega) hk] at b
      refine ⟨k, by omega, ?_, rfl⟩
      have : ¬ nI k < nI 1 := a
      rw [nI_ltI hk (by omega)] at this
      omega
theorem zT_days (x1 : Int32) : zV (f_X9_days x1) (f_X10_days x1) := by
  intro M K hI hK
  obtain ⟨nA, nP, nL, bA, bP, bL, rA, rP, rL, cA, cP, cL⟩ := zI_cnt hI
  have cD := hI.2.2.1.1.1.2.2.2
  simp only [f_X9_days, zf_X9_within]
  have f28 : ∀ (M1 : za_M), (∀ x : za_L, x.1 ≠ 24 → M1.1 x = M.1 x) → M1.1 (28, 0, 0) = M.1 (28, 0, 0) := fun M1 h => h (28, 0, 0) (by decide)
  by_cases q1 : zw x1 1 60 = 0
  · rw [if_pos q1]
    exact zV_ff (R := f_X10_days x1) (y := -1000000001) 1 rfl (by decide) (by decide) rfl hI hK (fun M1 K' h => by simp only [f_X10_days, zf_X10_within, q1, if_true])
  · rw [if_neg q1, cD]
    have v0 : vp_in 0 279 := vp_in_nI (n := 0) (by decide) (by decide)
    by_cases q2 : M.1 (28, 0, 0) 0 + x1 ≤ 9999
    · rw [if_pos q2, zZ1]
      refine ⟨vp_in_nI (n := 1) (by decide) (by decide), ?_⟩
      obtain ⟨n, hn, hn1, rfl⟩ := zw_1n (m := 60) (by decide) q1
      have kd := zdays_K n _ hI.1.1
      refine zc_days rfl (by omega) hI.1.1 hI.2.2.1.1 (hI.2.2.1.2.1 1 (by decide)) (fun M1 c1 g1 => ?_)
      have o : M1.1 (28, 0, 0) = M.1 (28, 0, 0) := g1.1 _ (by simp)
      simp only [f_X10_days, zf_X10_within]
      rw [if_neg q1]
      refine ⟨v0, ?_⟩
      rw [show Int32.toNatClampNeg 0 = 0 by decide, o, if_pos q2]
      refine zr_days (by omega) (by rw [o]; exact hI.1.1) (by rw [o]; exact hI.1.2) (fun M2 e2 k2 => ?_)
      rw [o] at e2
      refine ⟨vp_in_nI (n := 3) (by decide) (by decide), ?_⟩
      rw [show Int32.toNatClampNeg 3 = 3 by decide, c1.1.2.2.1, show M2.1 (28, 0, 0) = _ from e2]
      exact hK _ _ (zI_cty hI g1 k2 kd.1 e2 (fun k hk => kd.2 k (by omega) (by omega) (by omega)) c1)
    · rw [if_neg q2]
      refine zV_ff (R := f_X10_days x1) (y := -1000000003) 3 rfl (by decide) (by decide) rfl hI hK (fun M1 K' h => ?_)
      simp only [f_X10_days, zf_X10_within]
      rw [if_neg q1, eq_true v0, true_and, show Int32.toNatClampNeg 0 = 0 by decide, f28 M1 h, if_neg q2]
theorem zT_back (x1 : Int32) : zV (f_X9_back x1) (f_X10_back x1) := by
  intro M K hI hK
  obtain ⟨nA, nP, nL, bA, bP, bL, rA, rP, rL, cA, cP, cL⟩ := zI_cnt hI
  simp only [f_X9_back, zq_cLoan, cL]
  have f28 : ∀ (M1 : za_M), (∀ x : za_L, x.1 ≠ 24 → M1.1 x = M.1 x) → M1.1 (28, 0, 0) = M.1 (28, 0, 0) := fun M1 h => h (28, 0, 0) (by decide)
  rcases zw_cs x1 (n := nL) (by omega) with ⟨l, hl, rfl, q1⟩ | q1
  · rw [q1, if_neg (by decide), zx_in (by omega) (by decide), nI_clamp (by omega)]
    have hl' : l < (M.1 (28, 0, 0) 3).toNatClampNeg := by rw [rL, nI_clamp (by omega)]; exact hl
    refine zc_can hI.1.1 hI.2.2.1.1 hl' ?_
    by_cases t : M.1 (28, 0, 0) (zto (M.1 (28, 0, 0)) l) < M.1 (28, 0, 0) (58 + 5 * l)
    · rw [if_pos t, if_pos rfl]
      refine zV_fg (R := f_X10_back (nI l)) (y := -1000000003) 3 rfl (by decide) (by decide) rfl hI hK (fun M1 K' h hh => ?_)
      simp only [f_X10_back, zq_rLoan, f28 M1 h, rL, q1, zl_10, if_false]
      have o : M1.1 zR = M.1 (28, 0, 0) := f28 M1 h
      refine zr_can (by rw [o]; exact hI.1.1) (by rw [o]; exact hl') ?_
      rw [o, if_pos t, if_pos rfl]
      exact hh
    · rw [if_neg t, if_neg (by decide), zZ1]
      refine ⟨vp_in_nI (n := 1) (by decide) (by decide), ?_⟩
      have kg := zgiv_K hI.1.1 hl' t
      refine zc_giveBack rfl hI.1.1 hI.2.2.1.1 (hI.2.2.1.2.1 1 (by decide)) hl' t (fun M1 c1 g1 => ?_)
      have o : M1.1 (28, 0, 0) = M.1 (28, 0, 0) := g1.1 _ (by simp)
      have o' : M1.1 zR = M.1 (28, 0, 0) := o
      simp only [f_X10_back, zq_rLoan, o, rL, q1, zl_10, if_false]
      refine zr_can (by rw [o']; exact hI.1.1) (by rw [o']; exact hl') ?_
      rw [o', if_neg t, if_neg (by decide)]
      refine zr_gives (by rw [o']; exact hI.1.1) (by rw [o']; exact hI.1.2) (by rw [o']; exact hl') (by rw [o']; exact t) (fun M2 e2 k2 => ?_)
      rw [o'] at e2 ⊢
      exact hK _ _ (zI_cty hI g1 k2 kg.1.1 e2 (fun k hk => kg.1.2 k (by omega) (by omega) (by omega)) c1)
  · rw [q1, if_pos rfl]
    exact zV_ff (R := f_X10_back x1) (y := -1000000001) 1 rfl (by decide) (by decide) rfl hI hK (fun M1 K' h => by simp only [f_X10_back, zq_rLoan, f28 M1 h, rL, q1, if_true])
/-- a loan more -/
def zadd (N : Nat → Int32) (l : Nat) (fr to ash n due : Int32) : Nat → Int32 := fun k => if k = 3 then nI (l + 1) else if k = 55 + 5 * l then fr else if k = 56 + 5 * l then to else if k = 57 + 5 * l then ash else if k = 58 + 5 * l then n else if k = 59 + 5 * l then due else N k
theorem zadd_o (N : Nat → Int32) {l k : Nat} {fr to ash n due : Int32} (h3 : k ≠ 3) (h : k < 55 + 5 * l ∨ 60 + 5 * l ≤ k) : zadd N l fr to ash n due k = N k := by
  unfold zadd
  rw [if_neg h3, if_neg (by omega), if_neg (by omega), if_neg (by omega), if_neg (by omega), if_neg (by omega)]
theorem zadd_f (N : Nat → Int32) {l : Nat} {fr to ash n due : Int32} : zadd N l fr to ash n due 3 = nI (l + 1) ∧ zadd N l fr to ash n due (55 + 5 * l) = fr ∧ zadd N l fr to ash n due (56 + 5 * l) = to ∧ zadd N l fr to ash n due (57 + 5 * l) = ash ∧ zadd N l fr to ash n due (58 + 5 * l) = n ∧ zadd N l fr to ash n due (59 + 5 * l) = due := by
  unfold zadd
  refine ⟨if_pos rfl, ?_, ?_, ?_, ?_, ?_⟩
  · rw [if_neg (by omega), if_pos rfl]
  · rw [if_neg (by omega), if_neg (by omega), if_pos rfl]
  · rw [if_neg (by omega), if_neg (by omega), if_neg (by omega), if_pos rfl]
  · rw [if_neg (by omega), if_neg (by omega), if_neg (by omega), if_neg (by omega), if_pos rfl]
  · rw [if_neg (by omega), if_neg (by omega), if_neg (by omega), if_neg (by omega), if_neg (by omega), if_pos rfl]
theorem zN_add {N : Nat → Int32} {l fr to ash n : Nat} {due : Int32} (h : zN N) (e3 : N 3 = nI l) (hl : l < 10) (h1 : fr < (N 2).toNatClampNeg) (h2 : to < (N 2).toNatClampNeg) (h4 : ash < (N 1).toNatClampNeg) (h5 : n < 100) (h6 : fr ≠ to) : zN (zadd N l (nI fr) (nI to) (nI ash) (nI n) due) := by
  obtain ⟨f3, f55, f56, f57, f58, f59⟩ := zadd_f N (l := l) (fr := nI fr) (to := nI to) (ash := nI ash) (n := nI n) (due := due)
  have lo : ∀ k, k < 55 → k ≠ 3 → zadd N l (nI fr) (nI to) (nI ash) (nI n) due k = N k := fun k a b => zadd_o N b (by omega)
  obtain ⟨⟨b1, b2, b3, b4, b5⟩, b6, b7, b8, b9⟩ := h
  have hA := (zs_cl b1 (by decide)).1
  have hP := (zs_cl b2 (by decide)).1
  refine ⟨⟨by rw [lo _ (by omega) (by omega)]; exact b1, by rw [lo _ (by omega) (by omega)]; exact b2, by rw [f3]; exact zs_nI (by omega), by rw [lo _ (by omega) (by omega)]; exact b4, by rw [lo _ (by omega) (by omega)]; exact b5⟩, fun a ha => ?_, fun p hp => ?_, fun j hj => ?_, fun i hi => ?_⟩
  · rw [lo _ (by omega) (by omega), lo _ (by omega) (by omega), lo _ (by omega) (by omega), lo _ (by omega) (by omega)]
    exact b6 a ha
  · refine ⟨by rw [lo _ (by omega) (by omega)]; exact (b7 p hp).1, by rw [lo _ (by omega) (by omega)]; exact (b7 p hp).2.1, fun a ha => ?_⟩
    rw [lo _ (by omega) (by omega), lo 1 (by omega) (by omega)]
    exact (b7 p hp).2.2 a ha
  · rw [f3, nI_clamp (by omega)] at hj
    rw [lo 1 (by omega) (by omega), lo 2 (by omega) (by omega)]
    by_cases q : j = l
    · subst q
      rw [f55, f56, f57, f58]
      exact ⟨zs_nI h1, zs_nI h2, zs_nI h4, zs_nI h5, fun e => h6 ((nI_eq (by omega) (by omega)).mp e)⟩
    · rw [zadd_o N (k := 55 + 5 * j) (by omega) (by omega), zadd_o N (k := 56 + 5 * j) (by omega) (by omega), zadd_o N (k := 57 + 5 * j) (by omega) (by omega), zadd_o N (k := 58 + 5 * j) (by omega) (by omega)]
      exact b8 j (by rw [e3, nI_clamp (by omega)]; omega)
  · rw [zadd_o N (by omega) (by omega)]
    exact b9 i hi
/-- the row of the new loan, in the class -/
def zrow (M : za_M) (c r : Nat) (fr to ash n due : Int32) (cnt : Int32) : za_M := za_up (za_up (za_up (za_up (za_up (za_up M (5, c, r) 0 fr) (5, c, r) 1 to) (5, c, r) 2 ash) (5, c, r) 3 n) (5, c, r) 4 due) (2, c, 0) 5 cnt
theorem zc_add {c l : Nat} {N : Nat → Int32} {M : za_M} {fr to ash n due : Int32} (hN : zN N) (h : zc c N M) (e3 : N 3 = nI l) (hl : l < 10) : zc c (zadd N l fr to ash n due) (zrow M c (M.2 c l % 10) fr to ash n due (nI (l + 1))) := by
  obtain ⟨f3, f55, f56, f57, f58, f59⟩ := zadd_f N (l := l) (fr := fr) (to := to) (ash := ash) (n := n) (due := due)
  have lo : ∀ k, k < 55 → k ≠ 3 → zadd N l fr to ash n due k = N k := fun k a b => zadd_o N b (by omega)
  have hA := (zs_cl hN.1.1 (by decide)).1
  have hP := (zs_cl hN.1.2.1 (by decide)).1
  obtain ⟨h1, h2, h4, h5, h6⟩ := h
  generalize hr : M.2 c l % 10 = r
  generalize hM : zrow M c r fr to ash n due (nI (l + 1)) = M'
  have o : ∀ (k i : Nat), k ≠ 2 → k ≠ 5 → M'.1 (k, c, i) = M.1 (k, c, i) := by
    intro k i a b
    rw [← hM]
    unfold zrow
    rw [za_up_oth _ _ _ (by simp [a]), za_up_oth _ _ _ (by simp [b]), za_up_oth _ _ _ (by simp [b]), za_up_oth _ _ _ (by simp [b]), za_up_oth _ _ _ (by simp [b]), za_up_oth _ _ _ (by simp [b])]
  have p : M'.2 = M.2 := by rw [← hM]; rfl
  have o2 : ∀ j, j ≠ 5 → M'.1 (2, c, 0) j = M.1 (2, c, 0) j := by
    intro j hj
    rw [← hM]
    simp [zrow, zl_up, hj]
  have o25 : M'.1 (2, c, 0) 5 = nI (l + 1) := by rw [← hM]; simp [zrow, zl_up]
  have o5 : ∀ i, i ≠ r → M'.1 (5, c, i) = M.1 (5, c, i) := by
    intro i hi
    rw [← hM]
    unfold zrow
    rw [za_up_oth _ _ _ (by simp), za_up_oth _ _ _ (by simp [hi]), za_up_oth _ _ _ (by simp [hi]), za_up_oth _ _ _ (by simp [hi]), za_up_oth _ _ _ (by simp [hi]), za_up_oth _ _ _ (by simp [hi])]
  have n5 : M'.1 (5, c, r) 0 = fr ∧ M'.1 (5, c, r) 1 = to ∧ M'.1 (5, c, r) 2 = ash ∧ M'.1 (5, c, r) 3 = n ∧ M'.1 (5, c, r) 4 = due := by
    rw [← hM]
    simp [zrow, zl_up]
  refine ⟨?_, fun a ha => ?_, fun q hq => ?_, fun j hj => ?_, by rw [p]; exact h6⟩
  · rw [o2 3 (by decide), o2 4 (by decide), o25, o2 6 (by decide), lo 1 (by omega) (by omega), lo 2 (by omega) (by omega), lo 0 (by omega) (by omega), f3]
    exact ⟨h1.1, h1.2.1, rfl, h1.2.2.2⟩
  · rw [lo 1 (by omega) (by omega)] at ha
    rw [o 3 a (by decide) (by decide), lo _ (by omega) (by omega), lo _ (by omega) (by omega), lo _ (by omega) (by omega), lo _ (by omega) (by omega)]
    exact h2 a ha
  · rw [lo 2 (by omega) (by omega)] at hq
    refine ⟨by rw [o 4 q (by decide) (by decide), lo _ (by omega) (by omega)]; exact (h4 q hq).1, by rw [o 4 q (by decide) (by decide), lo _ (by omega) (by omega)]; exact (h4 q hq).2.1, fun a ha => ?_⟩
    rw [o 13 q (by decide) (by decide), lo _ (by omega) (by omega)]
    exact (h4 q hq).2.2 a ha
  · rw [f3, nI_clamp (by omega)] at hj
    rw [p]
    by_cases q : j = l
    · subst q
      rw [hr, f55, f56, f57, f58, f59]
      exact n5
    · have hne : M.2 c j % 10 ≠ r := by
        intro e
        rw [← hr] at e
        exact q (h6 j l (by omega) hl e)
      rw [o5 _ hne, zadd_o N (k := 55 + 5 * j) (by omega) (by omega), zadd_o N (k := 56 + 5 * j) (by omega) (by omega), zadd_o N (k := 57 + 5 * j) (by omega) (by omega), zadd_o N (k := 58 + 5 * j) (by omega) (by omega), zadd_o N (k := 59 + 5 * j) (by omega) (by omega)]
      exact h5 j (by rw [e3, nI_clamp (by omega)]; omega)
/-- lending: the row afterwards -/
def zlend (N : Nat → Int32) (l fr to ash n : Nat) (d : Int32) : Nat → Int32 := upd (upd (zadd N l (nI fr) (nI to) (nI ash) (nI n) (N 0 + d)) (29 + 7 * fr + ash) (N (29 + 7 * fr + ash) - nI n)) (29 + 7 * to + ash) (N (29 + 7 * to + ash) + nI n)
/-- when a loan can be -/
def zcl (N : Nat → Int32) (fr to ash n : Nat) : Prop := ¬ N (29 + 7 * fr + ash) < nI n ∧ ¬ 999 < N (29 + 7 * to + ash) + nI n
theorem zlend_N {N : Nat → Int32} {l fr to ash n : Nat} {d : Int32} (h : zN N) (e3 : N 3 = nI l) (hl : l < 10) (h1 : fr < (N 2).toNatClampNeg) (h2 : to < (N 2).toNatClampNeg) (h4 : ash < (N 1).toNatClampNeg) (h5 : n < 100) (h6 : fr ≠ to) (hc : zcl N fr to ash n) : zN (zlend N l fr to ash n d) ∧ ∀ k, 105 ≤ k ∨ k = 4 ∨ k = 5 ∨ k = 6 → zlend N l fr to ash n d k = N k := by
  have hA := (zs_cl h.1.1 (by decide)).1
  have hP := (zs_cl h.1.2.1 (by decide)).1
  obtain ⟨x, hx, ex⟩ := ((h.2.2.1 fr (by omega)).2.2 ash (by omega)).1
  obtain ⟨y, hy, ey⟩ := ((h.2.2.1 to (by omega)).2.2 ash (by omega)).1
  obtain ⟨c1, c2⟩ := hc
  rw [ex, nI_ltI (by omega) (by omega)] at c1
  rw [ey, nI_add, zl_lit 999, nI_ltI (by omega) (by omega)] at c2
  have n1 := zN_add (due := N 0 + d) h e3 hl h1 h2 h4 h5 h6
  have e1 : zadd N l (nI fr) (nI to) (nI ash) (nI n) (N 0 + d) 1 = N 1 := zadd_o N (by omega) (by omega)
  unfold zlend
  refine ⟨zN_has (zN_has n1 (by omega) (by rw [e1]; exact h4) (by rw [ex, pk_sub (by omega)]; exact zs_nI (by omega))) (by omega) (by rw [zu_ne (by omega), e1]; exact h4) (by rw [ey, nI_add]; exact zs_nI (by omega)), fun k hk => ?_⟩
  rw [zu_ne (by omega), zu_ne (by omega)]
  exact zadd_o N (by omega) (by omega)
theorem zc_lend {c l fr to ash n : Nat} {d : Int32} {N : Nat → Int32} {M : za_M} {K : za_M → Prop} (hN : zN N) (h : zc c N M) (e3 : N 3 = nI l) (hl : l < 10) (h1 : fr < (N 2).toNatClampNeg) (h2 : to < (N 2).toNatClampNeg) (h4 : ash < (N 1).toNatClampNeg) (h5 : n < 100) (h6 : fr ≠ to) (hc : zcl N fr to ash n) (k : ∀ M', zc c (zlend N l fr to ash n d) M' → zg c M M' → K M') : f_X1_addLoan c (nI fr) (nI to) (nI ash) (nI n) d M K := by
  have hA := (zs_cl hN.1.1 (by decide)).1
  have hP := (zs_cl hN.1.2.1 (by decide)).1
  obtain ⟨x, hx, ex⟩ := ((hN.2.2.1 fr (by omega)).2.2 ash (by omega)).1
  obtain ⟨y, hy, ey⟩ := ((hN.2.2.1 to (by omega)).2.2 ash (by omega)).1
  have n1 := zN_add (due := N 0 + d) hN e3 hl h1 h2 h4 h5 h6
  have a1 := zc_add (fr := nI fr) (to := nI to) (ash := nI ash) (n := nI n) (due := N 0 + d) hN h e3 hl
  have hc' := hc
  obtain ⟨c1, c2⟩ := hc
  rw [ex, nI_ltI (by omega) (by omega)] at c1
  rw [ey, nI_add, zl_lit 999, nI_ltI (by omega) (by omega)] at c2
  have e1 : zadd N l (nI fr) (nI to) (nI ash) (nI n) (N 0 + d) 1 = N 1 := zadd_o N (by omega) (by omega)
  have e2 : zadd N l (nI fr) (nI to) (nI ash) (nI n) (N 0 + d) 2 = N 2 := zadd_o N (by omega) (by omega)
  simp only [f_X1_addLoan, za_let]
  rw [h.1.2.2.1, e3, if_pos (show nI l < 10 from nI_lt (b := 10) hl (by omega)), zx_in hl (by decide), nI_clamp (n := l) (by omega)]
  generalize hr : M.2 c l % 10 = r at a1 ⊢
  have r6 : (za_up (za_up (za_up (za_up M (5, c, r) 0 (nI fr)) (5, c, r) 1 (nI to)) (5, c, r) 2 (nI ash)) (5, c, r) 3 (nI n)).1 (2, c, 0) 6 = N 0 := by
    rw [za_up_oth _ _ _ (by simp), za_up_oth _ _ _ (by simp), za_up_oth _ _ _ (by simp), za_up_oth _ _ _ (by simp)]
    exact h.1.2.2.2
  rw [r6]
  have r5 : (za_up (za_up (za_up (za_up (za_up M (5, c, r) 0 (nI fr)) (5, c, r) 1 (nI to)) (5, c, r) 2 (nI ash)) (5, c, r) 3 (nI n)) (5, c, r) 4 (N 0 + d)).1 (2, c, 0) 5 = nI l := by
    rw [za_up_oth _ _ _ (by simp), za_up_oth _ _ _ (by simp), za_up_oth _ _ _ (by simp), za_up_oth _ _ _ (by simp), za_up_oth _ _ _ (by simp), h.1.2.2.1, e3]
  rw [r5, nI_1]
  have g0 : zg c M (zrow M c r (nI fr) (nI to) (nI ash) (nI n) (N 0 + d) (nI (l + 1))) := by
    unfold zrow
    exact zg_tr (zg_up (by omega)) (zg_tr (zg_up (by omega)) (zg_tr (zg_up (by omega)) (zg_tr (zg_up (by omega)) (zg_tr (zg_up (by omega)) (zg_up (by omega))))))
  rw [show za_up (za_up (za_up (za_up (za_up (za_up M (5, c, r) 0 (nI fr)) (5, c, r) 1 (nI to)) (5, c, r) 2 (nI ash)) (5, c, r) 3 (nI n)) (5, c, r) 4 (N 0 + d)) (2, c, 0) 5 (nI (l + 1)) = zrow M c r (nI fr) (nI to) (nI ash) (nI n) (N 0 + d) (nI (l + 1)) from rfl]
  generalize zrow M c r (nI fr) (nI to) (nI ash) (nI n) (N 0 + d) (nI (l + 1)) = M1 at a1 g0 ⊢
  refine ⟨vp_in_nI (by omega) (by decide), ?_⟩
  rw [nI_clamp (by omega), zq_change c fr ash rfl (by omega)]
  have b1 := (a1.2.2.1 fr (by rw [e2]; exact h1)).2.2 ash (by omega)
  have v1 : zhd (M1.1 (13, c, fr) ash + -nI n) 999 = N (29 + 7 * fr + ash) - nI n := by
    rw [b1, zadd_o N (by omega) (by omega), ex, ← Int32.sub_eq_add_neg, pk_sub (by omega), zl_lit 999, zhd_nI (by omega) (by omega), Nat.min_eq_right (by omega)]
  rw [v1]
  have a2 := zc_has (v := N (29 + 7 * fr + ash) - nI n) n1 a1 (p := fr) (a := ash) (by rw [e2]; exact h1) (by omega)
  have n2 : zN (upd (zadd N l (nI fr) (nI to) (nI ash) (nI n) (N 0 + d)) (29 + 7 * fr + ash) (N (29 + 7 * fr + ash) - nI n)) := zN_has n1 (by omega) (by rw [e1]; exact h4) (by rw [ex, pk_sub (by omega)]; exact zs_nI (by omega))
  have g1 : zg c M (za_up M1 (13, c, fr) ash (N (29 + 7 * fr + ash) - nI n)) := zg_tr g0 (zg_up (by omega))
  generalize za_up M1 (13, c, fr) ash (N (29 + 7 * fr + ash) - nI n) = M2 at a2 g1 ⊢
  refine ⟨vp_in_nI (by omega) (by decide), ?_⟩
  rw [nI_clamp (by omega), zq_change c to ash rfl (by omega)]
  have b2 := (a2.2.2.1 to (by rw [zu_ne (by omega), e2]; exact h2)).2.2 ash (by omega)
  have v2 : zhd (M2.1 (13, c, to) ash + nI n) 999 = N (29 + 7 * to + ash) + nI n := by
    rw [b2, zu_ne (by omega), zadd_o N (by omega) (by omega), ey, nI_add, zl_lit 999, zhd_nI (by omega) (by omega), Nat.min_eq_right (by omega)]
  rw [v2]
  refine k _ (zc_has n2 a2 (by rw [zu_ne (by omega), e2]; exact h2) (by omega)) (zg_tr g1 (zg_up (by omega)))
theorem zr_lend {l fr to ash n : Nat} {d : Int32} {M : za_M} {K : Int32 → za_M → Prop} (hA : ash < 5) (h1 : fr < 4) (h2 : to < 4) (h6 : fr ≠ to) (e3 : M.1 zR 3 = nI l) (hl : l < 10) (k : ∀ M', M'.1 zR = zlend (M.1 zR) l fr to ash n d → zk [28] M M' → K (nI l) M') : f_X10_lendNow (nI fr) (nI to) (nI ash) (nI n) d M K := by
  have e3' : M.1 (28, 0, 0) 3 = nI l := e3
  simp only [f_X10_lendNow, za_let]
  rw [show vp_in 3 279 = True from eq_true (vp_in_nI (n := 3) (by decide) (by decide)), true_and, show Int32.toNatClampNeg 3 = 3 by decide, e3', zq_storeAt fr ash rfl rfl, zx_in (by omega) (by decide), zx_in (by omega) (by decide), nI_clamp (by omega), zq_storeAt to ash rfl rfl, zx_in (by omega) (by decide), zx_in (by omega) (by decide), nI_clamp (by omega), zq_loanAt (y := 0) l 0 rfl rfl, zx_in (by omega) (by decide), nI_clamp (by omega), zq_loanAt (y := 1) l 1 rfl rfl, zx_in (by omega) (by decide), nI_clamp (by omega), zq_loanAt (y := 2) l 2 rfl rfl, zx_in (by omega) (by decide), nI_clamp (by omega), zq_loanAt (y := 3) l 3 rfl rfl, zx_in (by omega) (by decide), nI_clamp (by omega), zq_loanAt (y := 4) l 4 rfl rfl, show vp_in 0 279 = True from eq_true (vp_in_nI (n := 0) (by decide) (by decide)), true_and, zx_in (by omega) (by decide), nI_clamp (by omega), true_and, true_and, show Int32.toNatClampNeg 0 = 0 by decide]
  generalize hN : M.1 zR = N at k e3
  have hN' : M.1 (28, 0, 0) = N := hN
  refine k _ ?_ ?_
  · obtain ⟨f3, f55, f56, f57, f58, f59⟩ := zadd_f N (l := l) (fr := nI fr) (to := nI to) (ash := nI ash) (n := nI n) (due := N 0 + d)
    simp only [za_up_row, hN']
    rw [zu_ne (N := N) (k := 29 + 7 * fr + ash) (j := 29 + 7 * to + ash) (by omega)]
    have r0 : ∀ (a b c0 d0 e0 f0 : Int32), upd (upd (upd (upd (upd (upd N (29 + 7 * fr + ash) a) (29 + 7 * to + ash) b) (55 + 5 * l + 0) c0) (55 + 5 * l + 1) d0) (55 + 5 * l + 2) e0) (55 + 5 * l + 3) f0 0 = N 0 := fun a b c0 d0 e0 f0 => by rw [zu_ne (by omega), zu_ne (by omega), zu_ne (by omega), zu_ne (by omega), zu_ne (by omega), zu_ne (by omega)]
    rw [r0]
    have r3 : ∀ (a b c0 d0 e0 f0 g0 : Int32), upd (upd (upd (upd (upd (upd (upd N (29 + 7 * fr + ash) a) (29 + 7 * to + ash) b) (55 + 5 * l + 0) c0) (55 + 5 * l + 1) d0) (55 + 5 * l + 2) e0) (55 + 5 * l + 3) f0) (55 + 5 * l + 4) g0 3 = N 3 := fun a b c0 d0 e0 f0 g0 => by rw [zu_ne (by omega), zu_ne (by omega), zu_ne (by omega), zu_ne (by omega), zu_ne (by omega), zu_ne (by omega), zu_ne (by omega)]
    rw [r3, e3, nI_1]
    funext j
    unfold zlend
    by_cases j3 : j = 3
    · subst j3
      rw [zu_eq, zu_ne (by omega), zu_ne (by omega), f3]
    rw [zu_ne j3]
    by_cases j4 : j = 55 + 5 * l + 4
    · subst j4
      rw [zu_eq, zu_ne (by omega), zu_ne (by omega), show 55 + 5 * l + 4 = 59 + 5 * l by omega, f59]
    rw [zu_ne j4]
    by_cases j5 : j = 55 + 5 * l + 3
    · subst j5
      rw [zu_eq, zu_ne (by omega), zu_ne (by omega), show 55 + 5 * l + 3 = 58 + 5 * l by omega, f58]
    rw [zu_ne j5]
    by_cases j6 : j = 55 + 5 * l + 2
    · subst j6
      rw [zu_eq, zu_ne (by omega), zu_ne (by omega), show 55 + 5 * l + 2 = 57 + 5 * l by omega, f57]
    rw [zu_ne j6]
    by_cases j7 : j = 55 + 5 * l + 1
    · subst j7
      rw [zu_eq, zu_ne (by omega), zu_ne (by omega), show 55 + 5 * l + 1 = 56 + 5 * l by omega, f56]
    rw [zu_ne j7]
    by_cases j8 : j = 55 + 5 * l + 0
    · subst j8
      rw [zu_eq, zu_ne (by omega), zu_ne (by omega), show 55 + 5 * l + 0 = 55 + 5 * l by omega, f55]
    rw [zu_ne j8]
    by_cases j9 : j = 29 + 7 * to + ash
    · subst j9
      rw [zu_eq, zu_eq]
    rw [zu_ne j9, zu_ne j9]
    by_cases ja : j = 29 + 7 * fr + ash
    · subst ja
      rw [zu_eq, zu_eq]
    rw [zu_ne ja, zu_ne ja, zadd_o N j3 (by omega)]
  · exact zk_tr (zk_up (by decide)) (zk_tr (zk_up (by decide)) (zk_tr (zk_up (by decide)) (zk_tr (zk_up (by decide)) (zk_tr (zk_up (by decide)) (zk_tr (zk_up (by decide)) (zk_tr (zk_up (by decide)) (zk_up (by decide))))))))

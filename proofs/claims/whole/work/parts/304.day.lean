/-! the reference's small calls, and its day -/
theorem zx_in {n N : Nat} (h : n < N) (hN : N < 2 ^ 31) {A : Prop} : (vp_in (nI n) N ∧ A) = A := by
  rw [eq_true (vp_in_nI h hN), true_and]
theorem zq_ashAt {x y : Int32} (a f : Nat) (hx : x = nI a) (hy : y = nI f) (M : za_M) (K : Int32 → za_M → Prop) : f_X10_ashAt x y M K = K (nI (7 + 4 * a + f)) M := by
  subst hx; subst hy
  unfold f_X10_ashAt
  rw [zl_lit 4, pk_mul, zl_lit 7, nI_add, nI_add]
theorem zq_potterAt {x y : Int32} (p f : Nat) (hx : x = nI p) (hy : y = nI f) (M : za_M) (K : Int32 → za_M → Prop) : f_X10_potterAt x y M K = K (nI (27 + 7 * p + f)) M := by
  subst hx; subst hy
  unfold f_X10_potterAt
  rw [zl_lit 7, pk_mul, zl_lit 27, nI_add, nI_add]
theorem zq_storeAt {x y : Int32} (p a : Nat) (hx : x = nI p) (hy : y = nI a) (M : za_M) (K : Int32 → za_M → Prop) : f_X10_storeAt x y M K = K (nI (29 + 7 * p + a)) M := by
  subst hx; subst hy
  unfold f_X10_storeAt
  rw [zl_lit 7, pk_mul, zl_lit 27, nI_add, zl_lit 2, nI_add, nI_add, show 27 + 7 * p + 2 + a = 29 + 7 * p + a by omega]
theorem zq_loanAt {x y : Int32} (l f : Nat) (hx : x = nI l) (hy : y = nI f) (M : za_M) (K : Int32 → za_M → Prop) : f_X10_loanAt x y M K = K (nI (55 + 5 * l + f)) M := by
  subst hx; subst hy
  unfold f_X10_loanAt
  rw [zl_lit 5, pk_mul, zl_lit 55, nI_add, nI_add]
theorem zq_ashIs {x y : Int32} (a f : Nat) (hx : x = nI a) (hy : y = nI f) (h : 7 + 4 * a + f < 279) (M : za_M) (K : Int32 → za_M → Prop) : f_X10_ashIs x y M K = K (M.1 (28, 0, 0) (7 + 4 * a + f)) M := by
  unfold f_X10_ashIs
  rw [zq_ashAt a f hx hy, zx_in h (by decide), nI_clamp (by omega)]
theorem zq_loanIs {x y : Int32} (l f : Nat) (hx : x = nI l) (hy : y = nI f) (h : 55 + 5 * l + f < 279) (M : za_M) (K : Int32 → za_M → Prop) : f_X10_loanIs x y M K = K (M.1 (28, 0, 0) (55 + 5 * l + f)) M := by
  unfold f_X10_loanIs
  rw [zq_loanAt l f hx hy, zx_in h (by decide), nI_clamp (by omega)]
theorem zw_1 {k n : Nat} (h : k < n) (hn : n < 2 ^ 31) : zw (nI k) 0 (nI n - 1) = 1 := by
  obtain ⟨m, rfl⟩ : ∃ m, n = m + 1 := ⟨n - 1, by omega⟩
  unfold zw
  rw [if_neg (nI_pos (by omega)), nI_pred, if_neg (by rw [nI_ltI (by omega) (by omega)]; omega)]
theorem zw_0 {k n : Nat} (h : n ≤ k) (hn : k < 2 ^ 31) : zw (nI k) 0 (nI n - 1) = 0 := by
  unfold zw
  rw [if_neg (nI_pos (by omega))]
  have : nI n - 1 < nI k := by
    cases n with
    | zero =>
      rw [Int32.lt_iff_toInt_lt, nI_toInt hn]
      have : (nI 0 - 1).toInt = -1 := by decide
      omega
    | succ n => rw [nI_pred, nI_ltI (by omega) (by omega)]; omega
  rw [if_pos this]
def zis (c : Prop) (_ : Decidable c) : Int32 := if c then 1 else 0
theorem zq_isPotter {x : Int32} (k n : Nat) (hx : x = nI k) (hk : k < 2 ^ 31) (hn : n < 2 ^ 31) {M : za_M} (h : M.1 (28, 0, 0) 2 = nI n) (K : Int32 → za_M → Prop) : f_X10_isPotter x M K = K (if k < n then 1 else 0) M := by
  subst hx
  unfold f_X10_isPotter
  rw [show vp_in 2 279 = True from eq_true (vp_in_nI (n := 2) (by decide) (by decide)), true_and, show Int32.toNatClampNeg 2 = 2 by decide, h, zf_X10_within, eq_true (zw_B _ _ _), true_and]
  by_cases q : k < n
  · rw [if_pos q, zw_1 q hn]
  · rw [if_neg q, zw_0 (by omega) hk]
/-- the day -/
def zgN (N : Nat → Int32) (u : Nat) (a b c : Int32) : Int32 := zhd (zgv u (zTn N u) (zTf N u) a b c) 99
def zgr (N : Nat → Int32) (a : Nat) : Nat → Int32 := if (N (10 + 4 * a)).toNatClampNeg < (N 2).toNatClampNeg then upd N (29 + 7 * (N (10 + 4 * a)).toNatClampNeg + a) (za_min 999 (N (29 + 7 * (N (10 + 4 * a)).toNatClampNeg + a) + N (9 + 4 * a))) else N
def zgrow : Nat → Nat → (Nat → Int32) → Nat → Int32
  | 0, _, N => N
  | k+1, a, N => zgrow k (a + 1) (zgr N a)
/-- where the store stands that loan l's bushels come from, or go back to -/
def zto (N : Nat → Int32) (l : Nat) : Nat := 29 + 7 * (N (56 + 5 * l)).toNatClampNeg + (N (57 + 5 * l)).toNatClampNeg
def zfr (N : Nat → Int32) (l : Nat) : Nat := 29 + 7 * (N (55 + 5 * l)).toNatClampNeg + (N (57 + 5 * l)).toNatClampNeg
def zbk (N : Nat → Int32) (l : Nat) : Int32 := zgN N 1 (N (58 + 5 * l)) (N (8 + 4 * (N (57 + 5 * l)).toNatClampNeg)) (N 0)
def zgiv0 (N : Nat → Int32) (l : Nat) : Nat → Int32 := upd (upd N (zto N l) (N (zto N l) - N (58 + 5 * l))) (zfr N l) (za_min 999 (N (zfr N l) + zbk N l))
def zgiv (N : Nat → Int32) (l : Nat) : Nat → Int32 := zgo (zgiv0 N l) l
def zbr0 (N : Nat → Int32) (l : Nat) : Nat → Int32 := upd N (28 + 7 * (N (56 + 5 * l)).toNatClampNeg) (za_min 99 (N (28 + 7 * (N (56 + 5 * l)).toNatClampNeg) + 1))
def zbrk (N : Nat → Int32) (l : Nat) : Nat → Int32 := zgo (zbr0 N l) l
def zset : Nat → Nat → (Nat → Int32) → Nat → Int32
  | 0, _, N => N
  | k+1, l, N => if N (59 + 5 * l) = N 0 then (if N (zto N l) < N (58 + 5 * l) then zset k l (zbrk N l) else zset k l (zgiv N l)) else zset k (l + 1) N
def zday1 (N : Nat → Int32) : Nat → Int32 := zgrow (N 1).toNatClampNeg 0 (upd N 0 (N 0 + 1))
def zday (N : Nat → Int32) : Nat → Int32 := zset ((zday1 N) 3).toNatClampNeg 0 (zday1 N)
def zdays : Nat → (Nat → Int32) → Nat → Int32
  | 0, N => N
  | k+1, N => zdays k (zday N)
/-- bounds on the way -/
theorem zmn {a m : Nat} (hm : m < 2 ^ 30) (ha : a < 2 ^ 30) : za_min (nI m) (nI a) = nI (min m a) := by
  unfold za_min
  by_cases h : a < m
  · rw [if_pos (nI_lt h (by omega)), Nat.min_eq_right (by omega)]
  · rw [if_neg (by rw [nI_ltI (by omega) (by omega)]; exact h), Nat.min_eq_left (by omega)]
theorem zhd_zs (x : Int32) {m : Nat} (hm : m < 2 ^ 31) : zs (zhd x (nI m)) (m + 1) := by
  unfold zhd
  by_cases h : 0 ≤ x
  · rw [if_pos h]
    obtain ⟨k, hk, rfl⟩ := nI_of (Int32.not_lt.mpr h)
    by_cases q : nI k ≤ nI m
    · rw [if_pos q]
      rw [nI_leI hk hm] at q
      exact ⟨k, by omega, rfl⟩
    · rw [if_neg q]
      exact ⟨m, by omega, rfl⟩
  · rw [if_neg h]
    exact ⟨0, by omega, rfl⟩
theorem zgN_zs (N : Nat → Int32) (u : Nat) (a b c : Int32) : zs (zgN N u a b c) 100 := zhd_zs _ (m := 99) (by decide)
/-- what all of a day's steps keep -/
def zK (N N' : Nat → Int32) : Prop := zN N' ∧ (∀ k, k ≠ 0 → k ≠ 3 → ¬ (27 ≤ k ∧ k < 105) → N' k = N k)
theorem zK_rf {N : Nat → Int32} (h : zN N) : zK N N := ⟨h, fun _ _ _ _ => rfl⟩
theorem zK_tr {N N1 N2 : Nat → Int32} (a : zK N N1) (b : zK N1 N2) : zK N N2 := ⟨b.1, fun k h1 h2 h3 => (b.2 k h1 h2 h3).trans (a.2 k h1 h2 h3)⟩
theorem zK_T {N N' : Nat → Int32} (a : zK N N') (h : zT N) : zT N' := zT_cg h (fun k hk => a.2 k (by omega) (by omega) (by omega))
theorem zgr_K {N : Nat → Int32} {a : Nat} (h : zN N) (ha : a < (N 1).toNatClampNeg) : zK N (zgr N a) := by
  have hA := (zs_cl h.1.1 (by decide)).1
  have hP := (zs_cl h.1.2.1 (by decide)).1
  unfold zgr
  by_cases q : (N (10 + 4 * a)).toNatClampNeg < (N 2).toNatClampNeg
  · rw [if_pos q]
    generalize (N (10 + 4 * a)).toNatClampNeg = t at q
    refine ⟨zN_has h (by omega) ha ?_, fun k h1 h2 h3 => zu_ne (by omega)⟩
    obtain ⟨x, hx, ex⟩ := ((h.2.2.1 t (by omega)).2.2 a (by omega)).1
    obtain ⟨y, hy, ey⟩ := (h.2.1 a (by omega)).2.2.1
    rw [ex, ey, nI_add, zl_lit 999, zmn (by omega) (by omega)]
    exact zs_nI (by omega)
  · rw [if_neg q]
    exact zK_rf h
theorem zgrow_K {N : Nat → Int32} (h : zN N) : ∀ (k a : Nat) (N' : Nat → Int32), a + k = (N 1).toNatClampNeg → zK N N' → zK N (zgrow k a N') := by
  intro k
  induction k with
  | zero => intro a N' _ h2; exact h2
  | succ k ih =>
    intro a N' h1 h2
    have e1 : N' 1 = N 1 := h2.2 1 (by omega) (by omega) (by omega)
    exact ih (a + 1) _ (by omega) (zK_tr h2 (zgr_K h2.1 (by rw [e1]; omega)))
/-- what is known of loan l -/
theorem zN_loan {N : Nat → Int32} {l : Nat} (h : zN N) (hl : l < (N 3).toNatClampNeg) : ∃ fr to ash many : Nat, N (55 + 5 * l) = nI fr ∧ N (56 + 5 * l) = nI to ∧ N (57 + 5 * l) = nI ash ∧ N (58 + 5 * l) = nI many ∧ fr < (N 2).toNatClampNeg ∧ to < (N 2).toNatClampNeg ∧ ash < (N 1).toNatClampNeg ∧ many < 100 ∧ fr ≠ to ∧ (N 1).toNatClampNeg < 6 ∧ (N 2).toNatClampNeg < 5 ∧ (N 3).toNatClampNeg < 11 := by
  obtain ⟨h1, h2, h3, h4, h5⟩ := h.2.2.2.1 l hl
  obtain ⟨fr, a1, b1⟩ := h1
  obtain ⟨to, a2, b2⟩ := h2
  obtain ⟨ash, a3, b3⟩ := h3
  obtain ⟨many, a4, b4⟩ := h4
  exact ⟨fr, to, ash, many, b1, b2, b3, b4, a1, a2, a3, a4, fun e => h5 (by rw [b1, b2, e]), (zs_cl h.1.1 (by decide)).1, (zs_cl h.1.2.1 (by decide)).1, (zs_cl h.1.2.2.1 (by decide)).1⟩
theorem zgiv0_K {N : Nat → Int32} {l : Nat} (h : zN N) (hl : l < (N 3).toNatClampNeg) (hc : ¬ N (zto N l) < N (58 + 5 * l)) : zK N (zgiv0 N l) ∧ (∀ k, k < 27 → zgiv0 N l k = N k) ∧ ∀ k, 55 ≤ k → zgiv0 N l k = N k := by
  obtain ⟨fr, to, ash, many, e1, e2, e3, e4, b1, b2, b3, b4, b5, b6, b7, b8⟩ := zN_loan h hl
  have et : zto N l = 29 + 7 * to + ash := by unfold zto; rw [e2, e3, nI_clamp (by omega), nI_clamp (by omega)]
  have ef : zfr N l = 29 + 7 * fr + ash := by unfold zfr; rw [e1, e3, nI_clamp (by omega), nI_clamp (by omega)]
  obtain ⟨x, hx, ex⟩ := ((h.2.2.1 to (by omega)).2.2 ash (by omega)).1
  obtain ⟨y, hy, ey⟩ := ((h.2.2.1 fr (by omega)).2.2 ash (by omega)).1
  obtain ⟨z, hz, ez⟩ := zgN_zs N 1 (N (58 + 5 * l)) (N (8 + 4 * (N (57 + 5 * l)).toNatClampNeg)) (N 0)
  have hm : many ≤ x := by
    rw [et, ex, e4, nI_ltI (by omega) (by omega)] at hc
    omega
  unfold zgiv0
  rw [et, ef]
  refine ⟨⟨?_, fun k h1 h2 h3 => by rw [zu_ne (by omega), zu_ne (by omega)]⟩, fun k hk => by rw [zu_ne (by omega), zu_ne (by omega)], fun k hk => by rw [zu_ne (by omega), zu_ne (by omega)]⟩
  refine zN_has (zN_has h (by omega) b3 (by rw [ex, e4, pk_sub hm]; exact zs_nI (by omega))) (by omega) (by rw [zu_ne (by omega)]; exact b3) ?_
  show zs (za_min 999 (N (29 + 7 * fr + ash) + zgN N 1 (N (58 + 5 * l)) (N (8 + 4 * (N (57 + 5 * l)).toNatClampNeg)) (N 0))) 1000
  rw [ey, ez, nI_add, zl_lit 999, zmn (by omega) (by omega)]
  exact zs_nI (by omega)
theorem zbr0_K {N : Nat → Int32} {l : Nat} (h : zN N) (hl : l < (N 3).toNatClampNeg) : zK N (zbr0 N l) ∧ (∀ k, k < 27 → zbr0 N l k = N k) ∧ ∀ k, 55 ≤ k → zbr0 N l k = N k := by
  obtain ⟨fr, to, ash, many, e1, e2, e3, e4, b1, b2, b3, b4, b5, b6, b7, b8⟩ := zN_loan h hl
  obtain ⟨x, hx, ex⟩ := (h.2.2.1 to (by omega)).2.1
  unfold zbr0
  rw [e2, nI_clamp (by omega)]
  refine ⟨⟨zN_broken h (by omega) ?_, fun k h1 h2 h3 => zu_ne (by omega)⟩, fun k hk => zu_ne (by omega), fun k hk => zu_ne (by omega)⟩
  rw [ex, nI_1, zl_lit 99, zmn (by omega) (by omega)]
  exact zs_nI (by omega)
theorem zgo_K {N : Nat → Int32} {l : Nat} (h : zN N) (hl : l < (N 3).toNatClampNeg) : zK N (zgo N l) ∧ ∃ n, N 3 = nI (n + 1) ∧ zgo N l 3 = nI n ∧ n < 10 := by
  have h3 := zs_cl h.1.2.2.1 (by decide)
  refine ⟨⟨zN_go h hl, fun k h1 h2 h3 => ?_⟩, (N 3).toNatClampNeg - 1, ?_, ?_, by omega⟩
  · by_cases q : k < 55
    · exact zgo_lo N q h2
    · exact zgo_hi h (by omega)
  · rw [show (N 3).toNatClampNeg - 1 + 1 = (N 3).toNatClampNeg by omega]
    exact h3.2
  · exact zgo_3 (by rw [show (N 3).toNatClampNeg - 1 + 1 = (N 3).toNatClampNeg by omega]; exact h3.2)
theorem zgiv_K {N : Nat → Int32} {l : Nat} (h : zN N) (hl : l < (N 3).toNatClampNeg) (hc : ¬ N (zto N l) < N (58 + 5 * l)) : zK N (zgiv N l) ∧ (zgiv N l 3).toNatClampNeg + 1 = (N 3).toNatClampNeg := by
  obtain ⟨k1, k2, k3⟩ := zgiv0_K h hl hc
  have e3 := k2 3 (by omega)
  obtain ⟨g1, n, g2, g3, g4⟩ := zgo_K k1.1 (l := l) (by rw [e3]; exact hl)
  refine ⟨zK_tr k1 g1, ?_⟩
  show (zgo (zgiv0 N l) l 3).toNatClampNeg + 1 = _
  rw [g3, ← e3, g2, nI_clamp (by omega), nI_clamp (by omega)]
theorem zbrk_K {N : Nat → Int32} {l : Nat} (h : zN N) (hl : l < (N 3).toNatClampNeg) : zK N (zbrk N l) ∧ (zbrk N l 3).toNatClampNeg + 1 = (N 3).toNatClampNeg := by
  obtain ⟨k1, k2, k3⟩ := zbr0_K h hl
  have e3 := k2 3 (by omega)
  obtain ⟨g1, n, g2, g3, g4⟩ := zgo_K k1.1 (l := l) (by rw [e3]; exact hl)
  refine ⟨zK_tr k1 g1, ?_⟩
  show (zgo (zbr0 N l) l 3).toNatClampNeg + 1 = _
  rw [g3, ← e3, g2, nI_clamp (by omega), nI_clamp (by omega)]
theorem zset_K : ∀ (k l : Nat) (N : Nat → Int32), zN N → l + k = (N 3).toNatClampNeg → zK N (zset k l N) := by
  intro k
  induction k with
  | zero => intro l N h _; exact zK_rf h
  | succ k ih =>
    intro l N h hl
    unfold zset
    by_cases q : N (59 + 5 * l) = N 0
    · rw [if_pos q]
      by_cases r : N (zto N l) < N (58 + 5 * l)
      · rw [if_pos r]
        obtain ⟨a, b⟩ := zbrk_K h (l := l) (by omega)
        exact zK_tr a (ih l _ a.1 (by omega))
      · rw [if_neg r]
        obtain ⟨a, b⟩ := zgiv_K h (l := l) (by omega) r
        exact zK_tr a (ih l _ a.1 (by omega))
    · rw [if_neg q]
      exact ih (l + 1) N h (by omega)
theorem zday1_K {N : Nat → Int32} (h : zN N) : zK N (zday1 N) := by
  have h0 : zK N (upd N 0 (N 0 + 1)) := ⟨zN_day h, fun k h1 _ _ => zu_ne h1⟩
  exact zgrow_K h _ 0 _ (by omega) h0
theorem zday_K {N : Nat → Int32} (h : zN N) : zK N (zday N) := zK_tr (zday1_K h) (zset_K _ 0 _ (zday1_K h).1 (by omega))
theorem zdays_K : ∀ (k : Nat) (N : Nat → Int32), zN N → zK N (zdays k N) := by
  intro k
  induction k with
  | zero => intro N h; exact zK_rf h
  | succ k ih => intro N h; exact zK_tr (zday_K h) (ih _ (zday_K h).1)

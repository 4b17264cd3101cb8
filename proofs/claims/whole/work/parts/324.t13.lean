/-! single calls, twelve: move, hedges -/
theorem zq_rDig (x : Int32) (M : za_M) (K : Int32 → za_M → Prop) : f_X10_isDigit x M K = K (zw x 0 9) M := by
  unfold f_X10_isDigit
  rw [zf_X10_within, eq_true (zw_B _ _ _), true_and]
theorem zq_holds {q n i m : Nat} {M : za_M} {K : Int32 → za_M → Prop} (hs : M.1 (9, 0, q) 2 = nI n) (hn : n < 41) (hi : i < 2 ^ 31) (hm : m < 2 ^ 31) : f_X6_holds q (nI i) (nI m) M K = K (if i + m ≤ n then 1 else 0) M := by
  unfold f_X6_holds f_X6_holds_b30
  rw [if_neg (nI_pos hi), if_neg (nI_pos hm), hs]
  by_cases a : n < m
  · rw [if_pos (nI_lt a hm), if_neg (by omega)]
  · rw [if_neg (nI_nlt (by omega) (by omega)), pk_sub (by omega)]
    by_cases b : n - m < i
    · rw [if_pos (nI_lt b hi), if_neg (by omega)]
    · rw [if_neg (nI_nlt (by omega) (by omega)), if_pos (by omega)]
theorem zq_holds0 {q : Nat} {x y : Int32} {M : za_M} {K : Int32 → za_M → Prop} (h : x < 0 ∨ y < 0) : f_X6_holds q x y M K = K 0 M := by
  unfold f_X6_holds f_X6_holds_b30
  by_cases a : x < 0
  · rw [if_pos a]
  · rw [if_neg a, if_pos (by rcases h with z | z
                             · exact absurd z a
                             · exact z)]
/-- the reference's two ways of the numbers -/
theorem zr_move {s i o j n : Nat} {M : za_M} {K : Int32 → za_M → Prop} (hs : s < 4) (ho : o < 4) (h1 : i + n ≤ 40) (h2 : j + n ≤ 40) (k : ∀ M' : za_M, (∀ x : za_L, x.1 ≠ 39 → x.1 ≠ 40 → M'.1 x = M.1 x) → (∀ t, M'.1 (39, 0, 0) t = if 40 * o + j ≤ t ∧ t < 40 * o + j + n then M.1 (39, 0, 0) (40 * s + i + (t - (40 * o + j))) else M.1 (39, 0, 0) t) → M'.2 = M.2 → K (nI n) M') : ∃ q, za_lp1 (f_X10_move_b127 K (nI s) (nI i) (nI o) (nI j) (nI n)) q 0 M := by
  have e1 : ∀ p k t : Nat, 40 * nI p + nI k + nI t = nI (40 * p + k + t) := fun p k t => by rw [zl_lit 40, pk_mul, nI_add, nI_add]
  refine za_lp1_ind (fun f x M' => ∃ t, x = nI t ∧ t + f = n ∧ (∀ x : za_L, x.1 ≠ 40 → M'.1 x = M.1 x) ∧ (∀ u, u < t → M'.1 (40, 0, 0) u = M.1 (39, 0, 0) (40 * s + i + u)) ∧ M'.2 = M.2) ?_ ?_ n 0 M ⟨0, rfl, by omega, fun _ _ => rfl, fun u hu => by omega, rfl⟩
  · intro x M' ⟨t, a1, a2, a3, a4, a5⟩ L
    subst a1
    unfold f_X10_move_b127
    rw [if_pos (nI_le (by omega) (by omega))]
    refine za_lp1_ind (fun f x M2 => ∃ t, x = nI t ∧ t + f = n ∧ (∀ x : za_L, x.1 ≠ 39 → M2.1 x = M'.1 x) ∧ (∀ u, M2.1 (39, 0, 0) u = if 40 * o + j ≤ u ∧ u < 40 * o + j + t then M.1 (39, 0, 0) (40 * s + i + (u - (40 * o + j))) else M.1 (39, 0, 0) u) ∧ M2.2 = M.2) ?_ ?_ n 0 M' ⟨0, rfl, by omega, fun _ _ => rfl, fun u => by rw [if_neg (by omega), a3 _ (by simp)], a5⟩
    · intro x M2 ⟨t2, b1, b2, b3, b4, b5⟩ L2
      subst b1
      unfold f_X10_move_b164
      rw [if_pos (nI_le (by omega) (by omega))]
      refine k M2 (fun x h39 h40 => (b3 x h39).trans (a3 x h40)) (fun u => ?_) b5
      rw [b4, show t2 = n by omega]
    · intro f x M2 ⟨t2, b1, b2, b3, b4, b5⟩ L2 hL2
      subst b1
      unfold f_X10_move_b164
      rw [if_neg (by rw [nI_leI (by omega) (by omega)]; omega), zx_in (by omega) (by decide), za_letE, e1, zx_in (by omega) (by decide), za_letE, nI_clamp (by omega), nI_clamp (by omega), nI_1, b3 (40, 0, 0) (by simp), a4 t2 (by omega)]
      refine hL2 _ _ ⟨t2 + 1, rfl, by omega, fun x hx => by rw [za_up_oth _ _ _ (fun e => hx (by rw [e]))]; exact b3 x hx, fun u => ?_, b5⟩
      rw [za_up_row]
      by_cases z : u = 40 * o + j + t2
      · rw [z, zu_eq, if_pos (by omega), show 40 * o + j + t2 - (40 * o + j) = t2 by omega]
      · rw [zu_ne z, b4]
        by_cases y : 40 * o + j ≤ u ∧ u < 40 * o + j + t2
        · rw [if_pos y, if_pos (by omega)]
        · rw [if_neg y, if_neg (by omega)]
  · intro f x M' ⟨t, a1, a2, a3, a4, a5⟩ L hL
    subst a1
    unfold f_X10_move_b127
    rw [if_neg (by rw [nI_leI (by omega) (by omega)]; omega), e1, zx_in (by omega) (by decide), za_letE, zx_in (by omega) (by decide), za_letE, nI_clamp (by omega), nI_clamp (by omega), nI_1, a3 (39, 0, 0) (by simp)]
    refine hL _ _ ⟨t + 1, rfl, by omega, fun x hx => by rw [za_up_oth _ _ _ (fun e => hx (by rw [e]))]; exact a3 x hx, fun u hu => ?_, a5⟩
    rw [za_up_row]
    by_cases z : u = t
    · rw [z, zu_eq]
    · rw [zu_ne z]; exact a4 u (by omega)
theorem zT_move (x1 x2 x3 x4 x5 : Int32) : zV (f_X9_move x1 x2 x3 x4 x5) (f_X10_move x1 x2 x3 x4 x5) := by
  intro M K hI hK
  unfold f_X9_move
  rw [zq_cSh]
  rcases (zw_cs x1 (n := 4) (by omega)).symm with q1 | ⟨s, hs, rfl, q1⟩
  · have q1 : zw x1 0 3 = 0 := q1
    rw [if_pos q1]
    exact zV_fg (R := f_X10_move x1 x2 x3 x4 x5) (y := -1000000001) 1 rfl (by decide) (by decide) rfl hI hK (fun M1 K' h hh => by unfold f_X10_move; rw [zq_rSh, if_pos q1]; exact hh)
  have q1 : zw (nI s) 0 3 = 1 := q1
  have q1' : ¬ zw (nI s) 0 3 = 0 := by rw [q1]; decide
  rw [if_neg q1', zq_cSh]
  rcases (zw_cs x3 (n := 4) (by omega)).symm with q2 | ⟨o, ho, rfl, q2⟩
  · have q2 : zw x3 0 3 = 0 := q2
    rw [if_pos q2]
    exact zV_fg (R := f_X10_move (nI s) x2 x3 x4 x5) (y := -1000000001) 1 rfl (by decide) (by decide) rfl hI hK (fun M1 K' h hh => by unfold f_X10_move; rw [zq_rSh, if_neg q1', zq_rSh, if_pos q2]; exact hh)
  have q2 : zw (nI o) 0 3 = 1 := q2
  have q2' : ¬ zw (nI o) 0 3 = 0 := by rw [q2]; decide
  obtain ⟨s1, s2, s3, s4⟩ := hI.2.2.2.2.1.2.2.2 s hs
  obtain ⟨t1, t2, t3, t4⟩ := hI.2.2.2.2.1.2.2.2 o ho
  have hzs := zs_cl s3 (by decide)
  have hzo := zs_cl t3 (by decide)
  have vs : vp_in (nI s) 4 := vp_in_nI hs (by decide)
  have vo : vp_in (nI o) 4 := vp_in_nI ho (by decide)
  generalize hn1 : (M.1 (9, 0, s) 2).toNatClampNeg = ns at *
  generalize hn2 : (M.1 (9, 0, o) 2).toNatClampNeg = no at *
  have r1 : M.1 (38, 0, 0) s = nI ns := by rw [← s2]; exact hzs.2
  have r2 : M.1 (38, 0, 0) o = nI no := by rw [← t2]; exact hzo.2
  rw [if_neg q2', zx_in hs (by decide), zx_in ho (by decide), zq_cMis, nI_clamp (by omega), nI_clamp (by omega)]
  by_cases m1 : M.1 (9, 0, s) 1 = 0
  · rw [if_pos m1, if_neg (by decide)]
    refine zV_fg (R := f_X10_move (nI s) x2 (nI o) x4 x5) (y := -1000000002) 2 rfl (by decide) (by decide) rfl hI hK (fun M1 K' h hh => ?_)
    unfold f_X10_move
    rw [zq_rSh, if_neg q1', zq_rSh, if_neg q2', zx_in hs (by decide), nI_clamp (by omega), h (37, 0, 0) (by decide), ← s1, if_pos m1]
    exact hh
  rw [if_neg m1, if_pos rfl, zq_cMis]
  by_cases m2 : M.1 (9, 0, o) 1 = 0
  · rw [if_pos m2, if_neg (by decide)]
    refine zV_fg (R := f_X10_move (nI s) x2 (nI o) x4 x5) (y := -1000000002) 2 rfl (by decide) (by decide) rfl hI hK (fun M1 K' h hh => ?_)
    unfold f_X10_move
    rw [zq_rSh, if_neg q1', zq_rSh, if_neg q2', zx_in hs (by decide), nI_clamp (by omega), h (37, 0, 0) (by decide), ← s1, if_neg m1, zx_in ho (by decide), nI_clamp (by omega), ← t1, if_pos m2]
    exact hh
  rw [if_neg m2, if_pos rfl]
  -- the reference beyond that
  have ok : ∀ (M1 : za_M) (K' : Int32 → za_M → Prop), (∀ x : za_L, x.1 ≠ 24 → x.1 ≠ 23 → M1.1 x = M.1 x) → (if M.1 (9, 0, s) 1 = M.1 (9, 0, o) 1 then (if x5 < 0 then (f_X10_finding (-1000000001) M1 (fun r34 M33 => K' r34 M33)) else (if x2 < 0 then (f_X10_finding (-1000000001) M1 (fun r37 M36 => K' r37 M36)) else (if x4 < 0 then (f_X10_finding (-1000000001) M1 (fun r40 M39 => K' r40 M39)) else (if 0 < (lg_cmp (x2.toInt64 + x5.toInt64) ((nI ns).toInt64)) then (f_X10_finding (-1000000001) M1 (fun r44 M43 => K' r44 M43)) else (if (lg_cmp (x4.toInt64 + x5.toInt64) ((nI no).toInt64)) ≤ 0 then (∃ n, za_lp1 (f_X10_move_b127 K' (nI s) x2 (nI o) x4 x5) n 0 M1) else (f_X10_finding (-1000000001) M1 (fun r48 M47 => K' r48 M47))))))) else (f_X10_finding (-1000000005) M1 (fun r50 M49 => K' r50 M49))) → f_X10_move (nI s) x2 (nI o) x4 x5 M1 K' := by
    intro M1 K' h hh
    unfold f_X10_move
    rw [zq_rSh, if_neg q1', zq_rSh, if_neg q2', zx_in hs (by decide), nI_clamp (by omega), nI_clamp (by omega), h (37, 0, 0) (by decide) (by decide), ← s1, if_neg m1, zx_in ho (by decide), ← t1, if_neg m2, zx_in hs (by decide), zx_in ho (by decide), zx_in hs (by decide), zx_in ho (by decide), h (38, 0, 0) (by decide) (by decide), r1, r2]
    exact hh
  by_cases kd : M.1 (9, 0, s) 1 = M.1 (9, 0, o) 1
  · rw [if_pos kd]
    have bad : (x5 < 0 ∨ x2 < 0 ∨ x4 < 0 ∨ ∃ i j n, x2 = nI i ∧ x4 = nI j ∧ x5 = nI n ∧ i < 2 ^ 31 ∧ j < 2 ^ 31 ∧ n < 2 ^ 31 ∧ ¬ (i + n ≤ ns ∧ j + n ≤ no)) → f_X9_fail 1 M (fun r1 M1 => f_X10_move (nI s) x2 (nI o) x4 x5 M1 (fun r2 M2 => K r1 r2 M2)) := by
      intro hb
      refine zV_fg (R := f_X10_move (nI s) x2 (nI o) x4 x5) (y := -1000000001) 1 rfl (by decide) (by decide) rfl hI hK (fun M1 K' h hh => ok M1 K' (fun x hx _ => h x hx) ?_)
      rw [if_pos kd]
      by_cases a : x5 < 0
      · rw [if_pos a]; exact hh
      rw [if_neg a]
      by_cases b : x2 < 0
      · rw [if_pos b]; exact hh
      rw [if_neg b]
      by_cases c : x4 < 0
      · rw [if_pos c]; exact hh
      rw [if_neg c]
      rcases hb with z | z | z | ⟨i, j, n, rfl, rfl, rfl, b1, b2, b3, hz⟩
      · exact absurd z a
      · exact absurd z b
      · exact absurd z c
      rw [nI_l b1, nI_l b2, nI_l b3, nI_l (by omega), nI_l (by omega), lN_add, lN_add]
      by_cases d : i + n ≤ ns
      · rw [if_neg (by rw [lg_cmp_gt, pk_lLT (by omega) (by omega)]; omega), if_neg (by rw [lg_cmp_le, pk_lLE (by omega) (by omega)]; omega)]
        exact hh
      · rw [if_pos (by rw [lg_cmp_gt, pk_lLT (by omega) (by omega)]; omega)]
        exact hh
    by_cases a : x2 < 0
    · rw [zq_holds0 (Or.inl a), if_pos rfl]
      exact bad (Or.inr (Or.inl a))
    by_cases b : x5 < 0
    · rw [zq_holds0 (Or.inr b), if_pos rfl]
      exact bad (Or.inl b)
    obtain ⟨i, hi, rfl⟩ := nI_of a
    obtain ⟨n, hn, rfl⟩ := nI_of b
    rw [zq_holds hzs.2 (by omega) hi hn]
    by_cases c : x4 < 0
    · by_cases d : i + n ≤ ns
      · rw [if_pos d, if_neg (by decide), zq_holds0 (Or.inl c), if_pos rfl]
        exact bad (Or.inr (Or.inr (Or.inl c)))
      · rw [if_neg d, if_pos rfl]
        exact bad (Or.inr (Or.inr (Or.inl c)))
    obtain ⟨j, hj, rfl⟩ := nI_of c
    by_cases d : i + n ≤ ns
    · rw [if_pos d, if_neg (by decide), zq_holds hzo.2 (by omega) hj hn]
      by_cases e : j + n ≤ no
      · rw [if_pos e, if_neg (by decide)]
        refine ⟨⟨nI_pos hi, nI_pos hj, nI_pos hn, by rw [nI_clamp hi, nI_clamp hn]; omega, by rw [nI_clamp hj, nI_clamp hn]; omega⟩, ?_⟩
        rw [za_letE, nI_clamp hi, nI_clamp hj, nI_clamp hn]
        generalize hf : va_cpy (M.1 (23, 0, s)) (M.1 (23, 0, o)) i j n = f
        have o1 : ∀ x : za_L, x ≠ (23, 0, o) → (za_uf M (23, 0, o) f).1 x = M.1 x := fun x hx => za_uf_oth _ _ hx
        refine ok _ _ (fun x _ hx => o1 x (fun e => hx (by rw [e]))) ?_
        rw [if_pos kd, if_neg (nI_pos hn), if_neg (nI_pos hi), if_neg (nI_pos hj), nI_l hi, nI_l hj, nI_l hn, nI_l (by omega), nI_l (by omega), lN_add, lN_add, if_neg (by rw [lg_cmp_gt, pk_lLT (by omega) (by omega)]; omega), if_pos (by rw [lg_cmp_le, pk_lLE (by omega) (by omega)]; omega)]
        refine zr_move hs ho (by omega) (by omega) (fun M2 w1 w2 w3 => hK _ _ (zI_sh hI (fun x _ h23 _ _ h39 h40 => (w1 x h39 h40).trans (o1 x (fun e => h23 (by rw [e])))) w3 (fun p hp => ?_)))
        obtain ⟨u1, u2, u3, u4⟩ := hI.2.2.2.2.1.2.2.2 p hp
        have hu := (zs_cl u3 (by decide)).1
        unfold zsq
        rw [w1 (9, 0, p) (by simp) (by simp), w1 (37, 0, 0) (by simp) (by simp), w1 (38, 0, 0) (by simp) (by simp), w1 (23, 0, p) (by simp) (by simp), o1 (9, 0, p) (by simp), o1 (37, 0, 0) (by simp), o1 (38, 0, 0) (by simp)]
        refine ⟨u1, u2, u3, fun t ht => ?_⟩
        rw [w2, o1 (39, 0, 0) (by simp)]
        by_cases z : p = o
        · subst z
          rw [za_uf_row, ← hf]
          unfold va_cpy
          by_cases y : j ≤ t ∧ t < j + n
          · rw [if_pos y, if_pos (by omega), s4 _ (by omega), show 40 * s + i + (40 * p + t - (40 * p + j)) = 40 * s + (i + (t - j)) by omega]
          · rw [if_neg y, if_neg (by omega)]
            exact u4 t ht
        · rw [o1 (23, 0, p) (by simp [z]), if_neg (by omega)]
          exact u4 t ht
      · rw [if_neg e, if_pos rfl]
        exact bad (Or.inr (Or.inr (Or.inr ⟨i, j, n, rfl, rfl, rfl, hi, hj, hn, fun q => e q.2⟩)))
    · rw [if_neg d, if_pos rfl]
      exact bad (Or.inr (Or.inr (Or.inr ⟨i, j, n, rfl, rfl, rfl, hi, hj, hn, fun q => d q.1⟩)))
  · rw [if_neg kd]
    refine zV_fg (R := f_X10_move (nI s) x2 (nI o) x4 x5) (y := -1000000005) 5 rfl (by decide) (by decide) rfl hI hK (fun M1 K' h hh => ok M1 K' (fun x hx _ => h x hx) ?_)
    rw [if_neg kd]
    exact hh
/-- growths put from a sheet -/
def zhg (N : Nat → Int32) (f : Nat → Int32) : Nat → Nat → Int32
  | 0 => N
  | t+1 => upd (zhg N f t) (9 + 4 * t) (f t)
theorem zhg_N {N : Nat → Int32} {f : Nat → Int32} (h : zN N) : ∀ t, t ≤ 5 → (∀ i, i < t → zs (f i) 10) → zN (zhg N f t) ∧ ∀ k, k < 7 ∨ 27 ≤ k → zhg N f t k = N k := by
  intro t
  induction t with
  | zero => intro _ _; exact ⟨h, fun _ _ => rfl⟩
  | succ t ih =>
    intro ht hf
    obtain ⟨a, b⟩ := ih (by omega) (fun i hi => hf i (by omega))
    refine ⟨zN_a2 a (by omega) (hf t (by omega)), fun k hk => ?_⟩
    unfold zhg
    rw [zu_ne (by omega)]
    exact b k hk
theorem zT_hedges (x1 : Int32) : zV (f_X9_hedges x1) (f_X10_hedges x1) := by
  intro M K hI hK
  obtain ⟨nA, nP, nL, bA, bP, bL, rA, rP, rL, cA, cP, cL⟩ := zI_cnt hI
  unfold f_X9_hedges
  rw [zq_cSh]
  rcases (zw_cs x1 (n := 4) (by omega)).symm with q1 | ⟨q, hq, rfl, q1⟩
  · have q1 : zw x1 0 3 = 0 := q1
    rw [if_pos q1]
    exact zV_fg (R := f_X10_hedges x1) (y := -1000000001) 1 rfl (by decide) (by decide) rfl hI hK (fun M1 K' h hh => by unfold f_X10_hedges; rw [zq_rSh, if_pos q1]; exact hh)
  have q1 : zw (nI q) 0 3 = 1 := q1
  have q1' : ¬ zw (nI q) 0 3 = 0 := by rw [q1]; decide
  obtain ⟨s1, s2, s3, s4⟩ := hI.2.2.2.2.1.2.2.2 q hq
  have hz := zs_cl s3 (by decide)
  generalize hn : (M.1 (9, 0, q) 2).toNatClampNeg = n at *
  have r2 : M.1 (38, 0, 0) q = nI n := by rw [← s2]; exact hz.2
  have vq : vp_in (nI q) 4 := vp_in_nI hq (by decide)
  rw [if_neg q1', zx_in hq (by decide), nI_clamp (by omega), zq_cMis]
  by_cases m : M.1 (9, 0, q) 1 = 0
  · rw [if_pos m, if_neg (by decide)]
    refine zV_fg (R := f_X10_hedges (nI q)) (y := -1000000002) 2 rfl (by decide) (by decide) rfl hI hK (fun M1 K' h hh => ?_)
    unfold f_X10_hedges
    rw [zq_rSh, if_neg q1', zx_in hq (by decide), nI_clamp (by omega), h (37, 0, 0) (by decide), ← s1, if_pos m]
    exact hh
  rw [if_neg m, if_pos rfl, hz.2, cA, zmn (by omega) (by omega), za_letE]
  have eix : ∀ i, 40 * nI q + nI i = nI (40 * q + i) := fun i => by rw [zl_lit 40, pk_mul, nI_add]
  generalize hf : M.1 (23, 0, q) = f at *
  have hN := hI.1.1
  -- the reference from there
  have ref : ∀ (t : Nat) (M1 : za_M), t ≤ n → t ≤ nA → zg 0 M M1 → zc 0 (zhg (M.1 (28, 0, 0)) f t) M1 → (∀ i, i < t → zw (f i) 0 9 = 1) → (t < n → t < nA → zw (f t) 0 9 = 0) → f_X10_hedges (nI q) M1 (fun r2 M2 => K (nI t) r2 M2) := by
    intro t M1 ht1 ht2 g c ha hb
    have dg : ∀ i, i < t → zs (f i) 10 := fun i hi => by
      rcases zw_cs (f i) (n := 10) (by omega) with ⟨k, hk, e, _⟩ | e
      · exact ⟨k, hk, e⟩
      · have e : zw (f i) 0 9 = 0 := e
        rw [ha i hi] at e
        exact absurd e (by decide)
    have o : ∀ k c i, k ≠ 18 → k ≠ 2 → k ≠ 3 → k ≠ 4 → k ≠ 5 → k ≠ 13 → M1.1 (k, c, i) = M.1 (k, c, i) := fun k c i a1 a2 a3 a4 a5 a6 => g.1 _ (by simp [a1, a2, a3, a4, a5, a6])
    unfold f_X10_hedges
    rw [zq_rSh, if_neg q1', zx_in hq (by decide), nI_clamp (by omega), o 37 0 0 (by decide) (by decide) (by decide) (by decide) (by decide) (by decide), ← s1, if_neg m]
    have sub : ∀ i, i ≤ t → zN (zhg (M.1 (28, 0, 0)) f i) ∧ ∀ k, k < 7 ∨ 27 ≤ k → zhg (M.1 (28, 0, 0)) f i k = M.1 (28, 0, 0) k := fun i hi => zhg_N hN i (by omega) (fun j hj => dg j (by omega))
    have fin : ∀ M2 : za_M, M2.1 (28, 0, 0) = zhg (M.1 (28, 0, 0)) f t → zk [28, 34, 35] M1 M2 → K (nI t) (nI t) M2 := fun M2 e k2 => hK _ _ (zI_cty hI g k2 (sub t (by omega)).1 e (fun k hk => (sub t (by omega)).2 k (by omega)) c)
    refine za_lp1_ind (fun s x M2 => ∃ i, x = nI i ∧ i + s = t ∧ M2.1 (28, 0, 0) = zhg (M.1 (28, 0, 0)) f i ∧ zk [28, 34, 35] M1 M2) ?_ ?_ t 0 M1 ⟨0, rfl, by omega, o 28 0 0 (by decide) (by decide) (by decide) (by decide) (by decide) (by decide), zk_rf _ _⟩
    · intro x M2 ⟨i, e1, e2, e3, e4⟩ L
      subst e1
      have ei : i = t := by omega
      subst ei
      unfold f_X10_hedges_b32
      rw [zx_in hq (by decide), nI_clamp (by omega), e4.1 (38, 0, 0) (by decide), o 38 0 0 (by decide) (by decide) (by decide) (by decide) (by decide) (by decide), r2]
      by_cases z : n ≤ i
      · rw [if_pos (nI_le z (by omega))]
        exact fin M2 e3 e4
      · rw [if_neg (by rw [nI_leI (by omega) (by omega)]; exact z), zq_rAsh, e3, (sub i (by omega)).2 1 (by omega), rA]
        by_cases y : nA ≤ i
        · rw [zw_0 y (by omega), if_pos rfl]
          exact fin M2 e3 e4
        · rw [zw_1 (by omega) (by omega), if_neg (by decide), eix, zx_in (by omega) (by decide), nI_clamp (by omega)]
          have e39 : M2.1 (39, 0, 0) (40 * q + i) = f i := by rw [e4.1 (39, 0, 0) (by decide), o 39 0 0 (by decide) (by decide) (by decide) (by decide) (by decide) (by decide)]; exact (s4 i (by omega)).symm
          rw [zq_rDig, e39, hb (by omega) (by omega), if_pos rfl]
          exact fin M2 e3 e4
    · intro s x M2 ⟨i, e1, e2, e3, e4⟩ L hL
      subst e1
      unfold f_X10_hedges_b32
      have e39 : M2.1 (39, 0, 0) (40 * q + i) = f i := by rw [e4.1 (39, 0, 0) (by decide), o 39 0 0 (by decide) (by decide) (by decide) (by decide) (by decide) (by decide)]; exact (s4 i (by omega)).symm
      rw [zx_in hq (by decide), nI_clamp (by omega), e4.1 (38, 0, 0) (by decide), o 38 0 0 (by decide) (by decide) (by decide) (by decide) (by decide) (by decide), r2, if_neg (by rw [nI_leI (by omega) (by omega)]; omega), zq_rAsh, e3, (sub i (by omega)).2 1 (by omega), rA, zw_1 (by omega) (by omega), if_neg (by decide), eix, zx_in (by omega) (by decide), nI_clamp (by omega)]
      rw [zq_rDig, e39, ha i (by omega), if_neg (by decide), zq_ashAt (y := 2) i 2 rfl rfl, zx_in (by omega) (by decide), za_letE, zx_in (by omega) (by decide), za_letE, nI_clamp (by omega), nI_1, show 7 + 4 * i + 2 = 9 + 4 * i by omega]
      exact hL _ _ ⟨i + 1, rfl, by omega, by rw [za_up_row, e3, e39]; rfl, zk_tr e4 (zk_up (by decide))⟩
  have f9 : ∀ M1, zg 0 M M1 → M1.1 (23, 0, q) = f := fun M1 g => (g.1 _ (by simp)).trans hf
  refine za_lp1_ind (fun s x M1 => ∃ i, x = nI i ∧ i + s = min n nA ∧ zg 0 M M1 ∧ zc 0 (zhg (M.1 (28, 0, 0)) f i) M1 ∧ (∀ j, j < i → zw (f j) 0 9 = 1) ∧ ∀ j, j < i → zs (f j) 10) ?_ ?_ (min n nA) 0 M ⟨0, rfl, by omega, zg_rf _ _, hI.2.2.1.1, fun j hj => by omega, fun j hj => by omega⟩
  · intro x M1 ⟨i, e1, e2, g, c, ha, hd⟩ L
    subst e1
    unfold f_X9_hedges_b54
    rw [if_pos (nI_le (by omega) (by omega)), show min n nA = i by omega]
    exact ref i M1 (by omega) (by omega) g c ha (fun _ _ => by omega)
  · intro s x M1 ⟨i, e1, e2, g, c, ha, hd⟩ L hL
    subst e1
    unfold f_X9_hedges_b54
    rw [if_neg (by rw [nI_leI (by omega) (by omega)]; omega), zx_in (by omega) (by decide), zf_X9_within, f9 M1 g, nI_clamp (by omega)]
    rcases (zw_cs (f i) (n := 10) (by omega)).symm with q2 | ⟨v, hv, ev, q2⟩
    · have q2 : zw (f i) 0 9 = 0 := q2
      rw [if_pos q2]
      exact ref i M1 (by omega) (by omega) g c ha (fun _ _ => q2)
    · have q2 : zw (f i) 0 9 = 1 := q2
      rw [q2, if_neg (by decide), zx_in (by omega) (by decide), zx_in (by omega) (by decide), za_letE, za_letE, nI_1]
      have n1 := (zhg_N (f := f) hN i (by omega) hd).1
      refine hL _ _ ⟨i + 1, rfl, by omega, zg_tr g (zg_up (by omega)), ?_, fun j hj => ?_, fun j hj => ?_⟩
      · exact zc_ash (f := 2) (v := f i) n1 c (a := i) (by omega) (by decide)
      · by_cases z : j = i
        · rw [z]; exact q2
        · exact ha j (by omega)
      · by_cases z : j = i
        · rw [z]; exact ⟨v, hv, ev⟩
        · exact hd j (by omega)

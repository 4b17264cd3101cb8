/-! what would be: breaks -/
def zbm (N N' : Nat → Int32) : Prop := ∀ p, p < 4 → (N (28 + 7 * p)).toNatClampNeg ≤ (N' (28 + 7 * p)).toNatClampNeg
theorem zbm_rf (N : Nat → Int32) : zbm N N := fun _ _ => Nat.le_refl _
theorem zbm_tr {N N1 N2 : Nat → Int32} (a : zbm N N1) (b : zbm N1 N2) : zbm N N2 := fun p hp => Nat.le_trans (a p hp) (b p hp)
theorem zbm_eq {N N' : Nat → Int32} (h : ∀ p, p < 4 → N' (28 + 7 * p) = N (28 + 7 * p)) : zbm N N' := fun p hp => by rw [h p hp]; exact Nat.le_refl _
theorem zgr_bm {N : Nat → Int32} {a : Nat} (ha : a < 5) : zbm N (zgr N a) := by
  refine zbm_eq (fun p hp => ?_)
  unfold zgr
  split
  · exact zu_ne (by omega)
  · rfl
theorem zgrow_bm : ∀ (k a : Nat) (N : Nat → Int32), a + k ≤ 5 → zbm N (zgrow k a N) := by
  intro k
  induction k with
  | zero => intro a N _; exact zbm_rf N
  | succ k ih => intro a N h; exact zbm_tr (zgr_bm (by omega)) (ih (a + 1) _ (by omega))
theorem zset_bm : ∀ (k l : Nat) (N : Nat → Int32), zN N → l + k = (N 3).toNatClampNeg → zbm N (zset k l N) := by
  intro k
  induction k with
  | zero => intro l N h _; exact zbm_rf N
  | succ k ih =>
    intro l N h hl
    have hl' : l < (N 3).toNatClampNeg := by omega
    unfold zset
    by_cases q : N (59 + 5 * l) = N 0
    · rw [if_pos q]
      by_cases r : N (zto N l) < N (58 + 5 * l)
      · rw [if_pos r]
        obtain ⟨a, b⟩ := zbrk_K h hl'
        refine zbm_tr ?_ (ih l _ a.1 (by omega))
        obtain ⟨fr, to, ash, many, e1, e2, e3, e4, b1, b2, b3, b4, b5, b6, b7, b8⟩ := zN_loan h hl'
        intro p hp
        unfold zbrk
        rw [zgo_lo _ (by omega) (by omega)]
        unfold zbr0
        rw [e2, nI_clamp (by omega)]
        by_cases z : p = to
        · subst z
          rw [zu_eq]
          obtain ⟨x, hx, ex⟩ := (h.2.2.1 p hp).2.1
          rw [ex, nI_1, zl_lit 99, zmn (by omega) (by omega), nI_clamp (by omega), nI_clamp (by omega)]
          omega
        · rw [zu_ne (by omega)]
          exact Nat.le_refl _
      · rw [if_neg r]
        obtain ⟨a, b⟩ := zgiv_K h hl' r
        refine zbm_tr (zbm_eq (fun p hp => ?_)) (ih l _ a.1 (by omega))
        obtain ⟨fr, to, ash, many, e1, e2, e3, e4, b1, b2, b3, b4, b5, b6, b7, b8⟩ := zN_loan h hl'
        unfold zgiv
        rw [zgo_lo _ (by omega) (by omega)]
        unfold zgiv0 zto zfr
        rw [e1, e2, e3, nI_clamp (by omega), nI_clamp (by omega), nI_clamp (by omega), zu_ne (by omega), zu_ne (by omega)]
    · rw [if_neg q]
      exact ih (l + 1) N h (by omega)
theorem zday_bm {N : Nat → Int32} (h : zN N) : zbm N (zday N) := by
  have hA := (zs_cl h.1.1 (by decide)).1
  have k1 := zday1_K h
  have a0 : zbm N (upd N 0 (N 0 + 1)) := zbm_eq (fun p _ => zu_ne (by omega))
  have a1 : zbm (upd N 0 (N 0 + 1)) (zday1 N) := zgrow_bm (N 1).toNatClampNeg 0 _ (by omega)
  exact zbm_tr a0 (zbm_tr a1 (zset_bm ((zday1 N) 3).toNatClampNeg 0 (zday1 N) k1.1 (by omega)))
/-- day by day -/
theorem zdays_s : ∀ (k : Nat) (N : Nat → Int32), zdays (k + 1) N = zday (zdays k N) := by
  intro k
  induction k with
  | zero => intro N; rfl
  | succ k ih => intro N; exact ih (zday N)
theorem zdays_bm {N : Nat → Int32} (h : zN N) : ∀ k : Nat, zbm N (zdays k N) := by
  intro k
  induction k with
  | zero => exact zbm_rf N
  | succ k ih => rw [zdays_s]; exact zbm_tr ih (zday_bm (zdays_K k N h).1)
def zBk (N : Nat → Int32) (p k : Nat) : Int32 := zdays k N (28 + 7 * p)
theorem zBk_s {N : Nat → Int32} (h : zN N) {p : Nat} (hp : p < 4) (k : Nat) : zs (zBk N p k) 100 := ((zdays_K k N h).1.2.2.1 p hp).2.1
/-- no more broken means as many broken -/
theorem zBk_le {N : Nat → Int32} (h : zN N) {p : Nat} (hp : p < 4) (k : Nat) : zBk N p k ≤ N (28 + 7 * p) ↔ zBk N p k = N (28 + 7 * p) := by
  obtain ⟨x, hx, ex⟩ := zBk_s h hp k
  obtain ⟨y, hy, ey⟩ := (h.2.2.1 p hp).2.1
  have m := zdays_bm h k p hp
  rw [show zdays k N (28 + 7 * p) = nI x from ex, ey, nI_clamp (by omega), nI_clamp (by omega)] at m
  rw [ex, ey, nI_leI (by omega) (by omega), nI_eq (by omega) (by omega)]
  omega
/-- the reference's run of it -/
theorem zr_breaks_run {p : Nat} (hp : p < 4) {M : za_M} {N : Nat → Int32} (hN : zN N) (hT : zT N) {R : Nat → Bool → za_M → Prop} (e28 : M.1 (28, 0, 0) = N) (e30 : M.1 (30, 0, 0) = N) {K : Int32 → za_M → Prop}
    (k1 : ∀ (k : Nat) (M' : za_M), 1 ≤ k → k ≤ 60 → ¬ zBk N p k ≤ N (28 + 7 * p) → (∀ j, j < k → zBk N p j ≤ N (28 + 7 * p)) → M'.1 (28, 0, 0) = zdays k N → zk [28, 34, 35] M M' → f_X10_copy (30, 0, 0) (28, 0, 0) M' (fun M1 => K (nI k) M1))
    (k0 : ∀ (M' : za_M), (∀ j, j ≤ 60 → zBk N p j ≤ N (28 + 7 * p)) → M'.1 (28, 0, 0) = zdays 60 N → zk [28, 34, 35] M M' → f_X10_copy (30, 0, 0) (28, 0, 0) M' (fun M1 => f_X10_finding (-1000000002) M1 (fun r5 M4 => K r5 M4))) : ∃ n, za_lp1 (f_X10_breaks_b34 K (nI (28 + 7 * p))) n 0 M := by
  have v : vp_in (nI (28 + 7 * p)) 279 := vp_in_nI (by omega) (by decide)
  have key : ∀ (s : Nat) (x : Int32) (M' : za_M), (∃ d, x = nI d ∧ d + s = 60 ∧ M'.1 (28, 0, 0) = zdays d N ∧ zk [28, 34, 35] M M' ∧ ∀ j, j < d → zBk N p j ≤ N (28 + 7 * p)) → ∃ q, za_lp1 (f_X10_breaks_b34 K (nI (28 + 7 * p))) q x M' := by
    refine za_lp1_ind (fun s x M' => ∃ d, x = nI d ∧ d + s = 60 ∧ M'.1 (28, 0, 0) = zdays d N ∧ zk [28, 34, 35] M M' ∧ ∀ j, j < d → zBk N p j ≤ N (28 + 7 * p)) ?_ ?_
    · intro x M' ⟨d, e1, e2, i1, i2, i3⟩ L
      subst e1
      have ed : d = 60 := by omega
      subst ed
      have f30 : M'.1 (30, 0, 0) = N := (i2.1 _ (by decide)).trans e30
      simp only [f_X10_breaks_b34, f_X10_breaks_b65, f_X10_breaks_b85]
      rw [if_pos (show (60 : Int32) ≤ nI 60 by decide), f30, i1, nI_clamp (by omega)]
      refine ⟨v, v, ?_⟩
      by_cases q : zBk N p 60 ≤ N (28 + 7 * p)
      · rw [if_pos (show zdays 60 N (28 + 7 * p) ≤ N (28 + 7 * p) from q)]
        have := k0 M' (fun j hj => by
          by_cases z : j = 60
          · rw [z]; exact q
          · exact i3 j (by omega)) i1 i2
        simpa only [if_true] using this
      · rw [if_neg (show ¬ zdays 60 N (28 + 7 * p) ≤ N (28 + 7 * p) from q)]
        have := k1 60 M' (by omega) (by omega) q (fun j hj => i3 j hj) i1 i2
        simpa only [zl_10, if_false] using this
    · intro s x M' ⟨d, e1, e2, i1, i2, i3⟩ L hL
      subst e1
      have f30 : M'.1 (30, 0, 0) = N := (i2.1 _ (by decide)).trans e30
      simp only [f_X10_breaks_b34, f_X10_breaks_b65, f_X10_breaks_b85]
      rw [if_neg (show ¬ (60 : Int32) ≤ nI d from fun q => by have := (nI_leI (a := 60) (b := d) (by omega) (by omega)).mp q; omega), f30, i1, nI_clamp (by omega)]
      refine ⟨v, v, ?_⟩
      by_cases q : zBk N p d = N (28 + 7 * p)
      · rw [if_pos (show zdays d N (28 + 7 * p) = N (28 + 7 * p) from q)]
        have e28' : M'.1 zR = zdays d N := i1
        refine zr_day (by rw [e28']; exact (zdays_K d N hN).1) (by rw [e28']; exact zK_T (zdays_K d N hN) hT) (fun M2 n1 n2 => ?_)
        rw [nI_1]
        refine hL _ _ ⟨d + 1, rfl, by omega, by rw [zdays_s, show M2.1 (28, 0, 0) = _ from n1, e28'], zk_tr i2 n2, fun j hj => ?_⟩
        by_cases z : j = d
        · rw [z]; exact (zBk_le hN hp d).mpr q
        · exact i3 j (by omega)
      · rw [if_neg (show ¬ zdays d N (28 + 7 * p) = N (28 + 7 * p) from q)]
        have hle : ¬ zBk N p d ≤ N (28 + 7 * p) := fun r => q ((zBk_le hN hp d).mp r)
        have d1 : 1 ≤ d := by
          rcases Nat.eq_zero_or_pos d with z | z
          · subst z; exact absurd rfl q
          · exact z
        refine ⟨v, v, ?_⟩
        rw [if_neg (show ¬ zdays d N (28 + 7 * p) ≤ N (28 + 7 * p) from hle)]
        have := k1 d M' d1 (by omega) hle (fun j hj => i3 j hj) i1 i2
        simpa only [zl_10, if_false] using this
  exact key 60 _ _ ⟨0, rfl, by omega, e28, zk_rf _ _, fun j hj => by omega⟩
theorem zI_sc {M M2 : za_M} (h : zI M) (e28 : M2.1 (28, 0, 0) = M.1 (28, 0, 0)) (e : ∀ x : za_L, x.1 ≠ 28 → x.1 ≠ 30 → x.1 ≠ 34 → x.1 ≠ 35 → M2.1 x = M.1 x) (r30 : ∀ j, 279 ≤ j → M2.1 (30, 0, 0) j = M.1 (28, 0, 0) j) (p : M2.2 = M.2) : zI M2 :=
  zI_th h (zg_rf 2 M) e28 r30 e p (h.2.2.2.2.2.1 2 (by decide))
/-- the class fails; the reference tries on its row and fails then -/
theorem zV_fh {x : Int32} (k : Nat) (hx : x = nI k) (h1 : 1 ≤ k) (h5 : k ≤ 5) {y : Int32} (hy : y = (-1000000000) - nI k) {M : za_M} {R : za_M → (Int32 → za_M → Prop) → Prop} {K : Int32 → Int32 → za_M → Prop} (h : zI M) (hK : ∀ v M', zI M' → K v v M') (hR : ∀ (M1 : za_M) (K' : Int32 → za_M → Prop), (∀ x : za_L, x.1 ≠ 24 → M1.1 x = M.1 x) → M1.2 = M.2 → (∀ M2 : za_M, M2.1 (28, 0, 0) = M1.1 (28, 0, 0) → (∀ x : za_L, x.1 ≠ 28 → x.1 ≠ 30 → x.1 ≠ 34 → x.1 ≠ 35 → M2.1 x = M1.1 x) → (∀ j, 279 ≤ j → M2.1 (30, 0, 0) j = M.1 (28, 0, 0) j) → M2.2 = M1.2 → f_X10_finding y M2 K') → R M1 K') : f_X9_fail x M (fun r1 M1 => R M1 (fun r2 M2 => K r1 r2 M2)) := by
  rw [zf_fail k hx h1 h5]
  refine hR _ _ (fun x hx => za_up_oth _ _ _ (fun e => hx (by rw [e]))) rfl (fun M2 a0 a b c => ?_)
  rw [zf_find k hy h1 h5, hy]
  have hE := zI_err h h5
  have e31 : M2.1 (31, 0, 0) = (za_up M (24, 0, 0) k (M.1 (24, 0, 0) k + 1)).1 (31, 0, 0) := a _ (by simp) (by simp) (by simp) (by simp)
  rw [e31]
  refine hK _ _ (zI_sc hE (by rw [za_up_oth _ _ _ (by decide), za_up_oth _ _ _ (by decide)]; exact a0) (fun x p0 p q r => ?_) (fun j hj => ?_) c)
  · by_cases z : x = (31, 0, 0)
    · rw [z, za_up_row, za_up_row, e31]
    · rw [za_up_oth _ _ _ z, za_up_oth _ _ _ z]
      exact a x p0 p q r
  · rw [za_up_oth _ _ _ (by decide), za_up_oth _ _ _ (by decide), za_up_oth _ _ _ (by decide)]
    exact b j hj
theorem zT_breaks (x1 : Int32) : zV (f_X9_breaks x1) (f_X10_breaks x1) := by
  intro M K hI hK
  obtain ⟨nA, nP, nL, bA, bP, bL, rA, rP, rL, cA, cP, cL⟩ := zI_cnt hI
  simp only [f_X9_breaks, zq_cPot, cP]
  have f28 : ∀ (M1 : za_M), (∀ x : za_L, x.1 ≠ 24 → M1.1 x = M.1 x) → M1.1 (28, 0, 0) = M.1 (28, 0, 0) := fun M1 h => h (28, 0, 0) (by decide)
  rcases (zw_cs x1 (n := nP) (by omega)).symm with q1 | ⟨p, hp, rfl, q1⟩
  · rw [q1, if_pos rfl]
    exact zV_ff (R := f_X10_breaks x1) (y := -1000000001) 1 rfl (by decide) (by decide) rfl hI hK (fun M1 K' h => by simp only [f_X10_breaks, zq_rPot, f28 M1 h, rP, q1, if_true])
  rw [q1, if_neg (by decide)]
  have hN := hI.1.1
  have pP : p < (M.1 (28, 0, 0) 2).toNatClampNeg := by rw [rP, nI_clamp (by omega)]; exact hp
  -- the reference's run from a memory that differs in county 2 (and errors)
  have run : ∀ (M1 : za_M) (K' : Int32 → za_M → Prop), M1.1 (28, 0, 0) = M.1 (28, 0, 0) → M1.1 (30, 0, 0) = M.1 (30, 0, 0) →
      (∀ (k : Nat) (M' : za_M), 1 ≤ k → k ≤ 60 → ¬ zBk (M.1 (28, 0, 0)) p k ≤ M.1 (28, 0, 0) (28 + 7 * p) → (∀ j, j < k → zBk (M.1 (28, 0, 0)) p j ≤ M.1 (28, 0, 0) (28 + 7 * p)) → M'.1 (28, 0, 0) = M.1 (28, 0, 0) → M'.1 (30, 0, 0) = M.1 (28, 0, 0) → (∀ x : za_L, x.1 ≠ 28 → x.1 ≠ 30 → x.1 ≠ 34 → x.1 ≠ 35 → M'.1 x = M1.1 x) → M'.2 = M1.2 → K' (nI k) M') →
      (∀ (M' : za_M), (∀ j, j ≤ 60 → zBk (M.1 (28, 0, 0)) p j ≤ M.1 (28, 0, 0) (28 + 7 * p)) → M'.1 (28, 0, 0) = M.1 (28, 0, 0) → M'.1 (30, 0, 0) = M.1 (28, 0, 0) → (∀ x : za_L, x.1 ≠ 28 → x.1 ≠ 30 → x.1 ≠ 34 → x.1 ≠ 35 → M'.1 x = M1.1 x) → M'.2 = M1.2 → f_X10_finding (-1000000002) M' (fun r5 M4 => K' r5 M4)) → f_X10_breaks (nI p) M1 K' := by
    intro M1 K' o o30 k1 k0
    simp only [f_X10_breaks, zq_rPot, o, rP, q1, zl_10, if_false]
    refine zr_copy (by decide) (fun M5 m1 m2 m3 => ?_)
    have e30 : M5.1 (30, 0, 0) = M.1 (28, 0, 0) := by
      rw [m1, o, o30]
      funext j
      by_cases z : j < 279
      · rw [if_pos z]
      · rw [if_neg z]
        exact (hI.2.2.2.2.2.2 j (by omega)).2
    have e28 : M5.1 (28, 0, 0) = M.1 (28, 0, 0) := (m2 _ (by decide)).trans o
    rw [zq_potterAt (y := 1) p 1 rfl rfl, show 27 + 7 * p + 1 = 28 + 7 * p by omega]
    have back : ∀ (k : Nat) (M6 : za_M), M6.1 (28, 0, 0) = zdays k (M.1 (28, 0, 0)) → zk [28, 34, 35] M5 M6 → ∀ (Q : za_M → Prop), (∀ M7 : za_M, M7.1 (28, 0, 0) = M.1 (28, 0, 0) → M7.1 (30, 0, 0) = M.1 (28, 0, 0) → (∀ x : za_L, x.1 ≠ 28 → x.1 ≠ 30 → x.1 ≠ 34 → x.1 ≠ 35 → M7.1 x = M1.1 x) → M7.2 = M1.2 → Q M7) → f_X10_copy (30, 0, 0) (28, 0, 0) M6 Q := by
      intro k M6 n1 n2 Q hQ
      have n30 : M6.1 (30, 0, 0) = M.1 (28, 0, 0) := (n2.1 _ (by decide)).trans e30
      refine zr_copy (by decide) (fun M7 w1 w2 w3 => hQ M7 ?_ ((w2 _ (by decide)).trans n30) (fun x a b c d => ?_) (by rw [w3, n2.2, m3]))
      · rw [w1, n30, n1]
        funext j
        by_cases z : j < 279
        · rw [if_pos z]
        · rw [if_neg z]
          exact zdays_hi hN (by omega)
      · rw [w2 x (fun q => a (by rw [q])), n2.1 x (by simp [a, c, d]), m2 x (fun q => b (by rw [q]))]
    refine zr_breaks_run (R := fun _ _ _ => True) (by omega) hN hI.1.2 e28 e30 (fun k M' a b c d e f => back k M' e f _ (fun M7 w1 w2 w3 w4 => k1 k M7 a b c d w1 w2 w3 w4)) (fun M' a b c => back 60 M' b c _ (fun M7 w1 w2 w3 w4 => k0 M7 a w1 w2 w3 w4))
  refine zc_copy (by decide) hN hI.2.2.1.1 (hI.2.2.2.2.2.1 2 (by decide)) (fun M1 c1 g1 p1 => ?_)
  have key : ∀ (s : Nat) (x : Int32) (M' : za_M), (∃ d, x = nI (d + 1) ∧ d + s = 60 ∧ zc 2 (zdays d (M.1 (28, 0, 0))) M' ∧ zg 2 M M' ∧ ∀ j, j ≤ d → zBk (M.1 (28, 0, 0)) p j ≤ M.1 (28, 0, 0) (28 + 7 * p)) → ∃ q, za_lp1 (f_X9_breaks_b36 (fun r1 M1 => f_X10_breaks (nI p) M1 (fun r2 M2 => K r1 r2 M2)) (nI p)) q x M' := by
    refine za_lp1_ind (fun s x M' => ∃ d, x = nI (d + 1) ∧ d + s = 60 ∧ zc 2 (zdays d (M.1 (28, 0, 0))) M' ∧ zg 2 M M' ∧ ∀ j, j ≤ d → zBk (M.1 (28, 0, 0)) p j ≤ M.1 (28, 0, 0) (28 + 7 * p)) ?_ ?_
    · intro x M' ⟨d, e1, e2, i1, i2, i3⟩ L
      subst e1
      unfold f_X9_breaks_b36
      rw [if_pos (show (60 : Int32) < nI (d + 1) from nI_lt (a := 60) (by omega) (by omega))]
      have n28 : M'.1 (28, 0, 0) = M.1 (28, 0, 0) := i2.1 _ (by simp)
      have n30 : M'.1 (30, 0, 0) = M.1 (30, 0, 0) := i2.1 _ (by simp)
      have hI' : zI M' := zI_th hI i2 n28 (fun j hj => by rw [n30]; exact (hI.2.2.2.2.2.2 j hj).2) (fun _ _ _ _ _ => rfl) rfl i1.2.2.2.2
      refine zV_fh (R := f_X10_breaks (nI p)) (y := -1000000002) 2 rfl (by decide) (by decide) rfl hI' hK (fun M1 K' h hp2 hh => ?_)
      refine run M1 K' ((h (28, 0, 0) (by decide)).trans n28) ((h (30, 0, 0) (by decide)).trans n30) (fun k M2 a b c _ _ _ _ _ => absurd (i3 k (by omega)) c) (fun M2 _ w1 w2 w3 w4 => ?_)
      exact hh M2 (by rw [w1, h (28, 0, 0) (by decide), n28]) w3 (fun j _ => by rw [w2, n28]) w4
    · intro s x M' ⟨d, e1, e2, i1, i2, i3⟩ L hL
      subst e1
      unfold f_X9_breaks_b36
      rw [if_neg (show ¬ (60 : Int32) < nI (d + 1) from fun q => by have := (nI_ltI (a := 60) (b := d + 1) (by omega) (by omega)).mp q; omega), zZ1]
      refine ⟨vp_in_nI (n := 1) (by decide) (by decide), ?_⟩
      have kd := zdays_K d _ hN
      refine zc_days (n := 1) rfl (by decide) kd.1 i1 (zlw_K (zlw_g (hI.2.2.1.2.1 1 (by decide)) i2) kd) (fun M5 c5 g5 => ?_)
      have c5 : zc 2 (zdays (d + 1) (M.1 (28, 0, 0))) M5 := by rw [zdays_s]; exact c5
      have g := zg_tr i2 g5
      have r0 : M5.1 (4, 0, p) 2 = M.1 (28, 0, 0) (28 + 7 * p) := by rw [g.1 (4, 0, p) (by simp)]; exact (hI.2.2.1.1.2.2.1 p pP).2.1
      have r2 : M5.1 (4, 2, p) 2 = zBk (M.1 (28, 0, 0)) p (d + 1) := (c5.2.2.1 p (by rw [(zdays_K (d + 1) _ hN).2 2 (by omega) (by omega) (by omega)]; exact pP)).2.1
      rw [nI_clamp (by omega), r0, r2]
      refine ⟨vp_in_nI (by omega) (by decide), vp_in_nI (by omega) (by decide), ?_⟩
      by_cases q : zBk (M.1 (28, 0, 0)) p (d + 1) ≤ M.1 (28, 0, 0) (28 + 7 * p)
      · rw [if_pos q, nI_1]
        refine hL _ _ ⟨d + 1, rfl, by omega, c5, g, fun j hj => ?_⟩
        by_cases z : j = d + 1
        · rw [z]; exact q
        · exact i3 j (by omega)
      · rw [if_neg q]
        have o : M5.1 (28, 0, 0) = M.1 (28, 0, 0) := g.1 _ (by simp)
        have o30 : M5.1 (30, 0, 0) = M.1 (30, 0, 0) := g.1 _ (by simp)
        refine run M5 _ o o30 (fun k M2 a b c e w1 w2 w3 w4 => ?_) (fun M2 a _ _ _ _ => absurd (a (d + 1) (by omega)) q)
        have ek : k = d + 1 := by
          rcases Nat.lt_trichotomy k (d + 1) with z | z | z
          · exact absurd (i3 k (by omega)) c
          · exact z
          · exact absurd (e (d + 1) z) q
        rw [ek]
        exact hK _ _ (zI_th hI g w1 (fun j _ => by rw [w2]) w3 w4 c5.2.2.2.2)
  exact key 60 _ _ ⟨0, rfl, by omega, c1, g1, fun j hj => by rw [show j = 0 by omega]; exact Int32.le_refl _⟩

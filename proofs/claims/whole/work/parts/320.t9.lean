/-! single calls, eight: lender -/
def zas (N : Nat → Int32) (M M' : za_M) : Prop := M'.1 (28, 0, 0) = N ∧ M'.1 (30, 0, 0) = N ∧ (∀ x : za_L, x.1 ≠ 28 → x.1 ≠ 30 → x.1 ≠ 34 → x.1 ≠ 35 → M'.1 x = M.1 x) ∧ M'.2 = M.2
def zat (N : Nat → Int32) (M M' : za_M) : Prop := M'.1 (28, 0, 0) = N ∧ (∀ j, 279 ≤ j → M'.1 (30, 0, 0) j = N j) ∧ (∀ x : za_L, x.1 ≠ 28 → x.1 ≠ 30 → x.1 ≠ 34 → x.1 ≠ 35 → M'.1 x = M.1 x) ∧ M'.2 = M.2
theorem zas_t {N : Nat → Int32} {M M' : za_M} (h : zas N M M') : zat N M M' := ⟨h.1, fun j _ => by rw [h.2.1], h.2.2.1, h.2.2.2⟩
theorem zr_asd {N : Nat → Int32} {M0 M : za_M} (t : zat N M0 M) {K : za_M → Prop} (k : ∀ M', zas N M0 M' → K M') : f_X10_copy (28, 0, 0) (30, 0, 0) M K := by
  refine zr_copy (by decide) (fun M5 m1 m2 m3 => k M5 ⟨(m2 _ (by decide)).trans t.1, ?_, fun x a b c d => (m2 x (fun q => b (by rw [q]))).trans (t.2.2.1 x a b c d), m3.trans t.2.2.2⟩)
  rw [m1, t.1]
  funext j
  by_cases z : j < 279
  · rw [if_pos z]
  · rw [if_neg z]
    exact t.2.1 j (by omega)
theorem zr_pb {N N' : Nat → Int32} {M0 M5 M6 : za_M} (a : zas N M0 M5) (hi : ∀ j, 279 ≤ j → N' j = N j) (n1 : M6.1 (28, 0, 0) = N') (n2 : zk [28, 34, 35] M5 M6) {K : za_M → Prop} (k : ∀ M', zas N M0 M' → K M') : f_X10_copy (30, 0, 0) (28, 0, 0) M6 K := by
  have n30 : M6.1 (30, 0, 0) = N := (n2.1 _ (by decide)).trans a.2.1
  refine zr_copy (by decide) (fun M7 w1 w2 w3 => k M7 ⟨?_, (w2 _ (by decide)).trans n30, fun x p q r s => ?_, by rw [w3, n2.2, a.2.2.2]⟩)
  · rw [w1, n30, n1]
    funext j
    by_cases z : j < 279
    · rw [if_pos z]
    · rw [if_neg z]
      exact hi j (by omega)
  · rw [w2 x (fun e => p (by rw [e])), n2.1 x (by simp [p, r, s]), a.2.2.1 x p q r s]
theorem zTu_cg {N N' : Nat → Int32} (e : ∀ k, 175 ≤ k → N' k = N k) (u : Nat) : zTn N' u = zTn N u ∧ zTf N' u = zTf N u :=
  ⟨by unfold zTn; rw [e _ (by omega)], by funext i; unfold zTf; rw [e _ (by omega)]⟩
theorem zsm_zs {f : Nat → Int32} : ∀ n : Nat, n < 5 → (∀ i, i < n → zs (f i) 100) → ∃ b, b ≤ 99 * n ∧ zsm f n = nI b := by
  intro n
  induction n with
  | zero => intro _ _; exact ⟨0, by omega, rfl⟩
  | succ n ih =>
    intro hn h
    obtain ⟨b, hb, e⟩ := ih (by omega) (fun i hi => h i (by omega))
    obtain ⟨c, hc, e2⟩ := h n (by omega)
    exact ⟨b + c, by omega, by unfold zsm; rw [e, e2, nI_add]⟩
/-- how many are broken, if fr lends -/
def zlB (N : Nat → Int32) (nL nP to ash n : Nat) (d : Int32) (fr : Nat) : Int32 := zsm (fun p => zdays 60 (zlend N nL fr to ash n d) (28 + 7 * p)) nP
def zld (N : Nat → Int32) (nL nP to ash n : Nat) (d : Int32) : Nat → Int32 × Int32
  | 0 => (-1, 397)
  | k+1 => if k ≠ to ∧ (¬ N (29 + 7 * k + ash) < nI n ∧ ¬ 999 < N (29 + 7 * to + ash) + nI n) ∧ zlB N nL nP to ash n d k < (zld N nL nP to ash n d k).2 then (nI k, zlB N nL nP to ash n d k) else zld N nL nP to ash n d k
def zlr (q : Int32 × Int32) (x7 x8 : Int32) : Prop := (q = (-1, 397) ∧ x7 = -1 ∧ x8 = 0) ∨ ∃ j l : Nat, j < 4 ∧ l < 397 ∧ q = (nI j, nI l) ∧ x7 = nI j ∧ x8 = nI l
theorem zlend_hi {N : Nat → Int32} {l fr to ash n : Nat} {d : Int32} (h1 : fr < 4) (h2 : to < 4) (h4 : ash < 5) (hl : l < 10) : ∀ k, 105 ≤ k ∨ k = 1 ∨ k = 2 ∨ k = 0 → zlend N l fr to ash n d k = N k := by
  intro k hk
  unfold zlend
  rw [zu_ne (by omega), zu_ne (by omega), zadd_o _ (by omega) (by omega)]
theorem zlB_b {N : Nat → Int32} {nL nP to ash n fr : Nat} {d : Int32} (hN : zN N) (eP : N 2 = nI nP) (bP : nP < 5) (eL : N 3 = nI nL) (hl : nL < 10) (h1 : fr < nP) (h2 : to < nP) (h4 : ash < (N 1).toNatClampNeg) (h5 : n < 100) (h6 : fr ≠ to) (hc : zcl N fr to ash n) : ∃ b, b < 397 ∧ zlB N nL nP to ash n d fr = nI b := by
  have cP : (N 2).toNatClampNeg = nP := by rw [eP, nI_clamp (by omega)]
  have kl := (zlend_N (d := d) hN eL hl (by omega) (by omega) h4 h5 h6 hc).1
  obtain ⟨b, hb, e⟩ := zsm_zs (f := fun p => zdays 60 (zlend N nL fr to ash n d) (28 + 7 * p)) nP bP (fun i hi => ((zdays_K 60 _ kl).1.2.2.1 i (by omega)).2.1)
  exact ⟨b, by omega, e⟩
theorem zc_lender {N : Nat → Int32} {M : za_M} {nP nL to ash n : Nat} {d : Int32} {K : Int32 → za_M → Prop} (hN : zN N) (hT : zlw 0 1 (zTn N 1) (zTf N 1) M) (h : zc 0 N M) (hj : ∀ i j, i < 10 → j < 10 → M.2 2 i % 10 = M.2 2 j % 10 → i = j) (eP : N 2 = nI nP) (bP : nP < 5) (eL : N 3 = nI nL) (bL : nL < 10) (hto : to < nP) (ha : ash < (N 1).toNatClampNeg) (hn : n < 100)
    (k : ∀ M', zg 2 M M' → (∀ i j, i < 10 → j < 10 → M'.2 2 i % 10 = M'.2 2 j % 10 → i = j) → (if 0 ≤ (zld N nL nP to ash n d nP).1 then K (zld N nL nP to ash n d nP).1 M' else f_X9_fail 2 M' (fun r4 M3 => K r4 M3))) : ∃ q, za_lp3 (f_X9_lender_b91 K (nI to) (nI ash) (nI n) d) q (-1) 0 0 M := by
  have hA := (zs_cl hN.1.1 (by decide)).1
  have cP : (N 2).toNatClampNeg = nP := by rw [eP, nI_clamp (by omega)]
  refine za_lp3_ind (fun s x7 x8 x9 M' => ∃ i, x9 = nI i ∧ i + s = nP ∧ zlr (zld N nL nP to ash n d i) x7 x8 ∧ zg 2 M M' ∧ ∀ i j, i < 10 → j < 10 → M'.2 2 i % 10 = M'.2 2 j % 10 → i = j) ?_ ?_ nP (-1) 0 0 M ⟨0, rfl, by omega, Or.inl ⟨rfl, rfl, rfl⟩, zg_rf _ _, hj⟩
  · intro x7 x8 x9 M' ⟨i, e1, e2, r, g, j⟩ L
    subst e1
    have ei : i = nP := by omega
    subst ei
    have c2 : M'.1 (2, 0, 0) 4 = nI i := by rw [g.1 (2, 0, 0) (by simp), h.1.2.1, eP]
    have e7 : (zld N nL i to ash n d i).1 = x7 := by
      rcases r with ⟨r1, r2, r3⟩ | ⟨j1, l1, b1, b2, r1, r2, r3⟩
      · rw [r1, r2]
      · rw [r1, r2]
    simp only [f_X9_lender_b91]
    rw [c2, if_pos (nI_le (by omega) (by omega)), ← e7]
    exact k M' g j
  · intro s x7 x8 x9 M' ⟨i, e1, e2, r, g, j⟩ L hL
    subst e1
    have c2 : M'.1 (2, 0, 0) 4 = nI nP := by rw [g.1 (2, 0, 0) (by simp), h.1.2.1, eP]
    have h' := zc_g h g (by decide)
    simp only [f_X9_lender_b91, f_X9_lender_b190, f_X9_lender_b182]
    rw [c2, if_neg (by rw [nI_leI (by omega) (by omega)]; omega), nI_1]
    have stay : zld N nL nP to ash n d (i + 1) = zld N nL nP to ash n d i → ∀ M2, zg 2 M M2 → (∀ i j, i < 10 → j < 10 → M2.2 2 i % 10 = M2.2 2 j % 10 → i = j) → L x7 x8 (nI (i + 1)) M2 := fun e M2 g2 j2 => hL _ _ _ _ ⟨i + 1, rfl, by omega, by rw [e]; exact r, g2, j2⟩
    by_cases z : i = to
    · rw [if_pos (by rw [z])]
      exact stay (by rw [zld, if_neg (fun q => q.1 z)]) M' g j
    · rw [if_neg (by rw [nI_eq (by omega) (by omega)]; exact z)]
      refine zc_cl h' (by omega) (by omega) (by omega) (by omega) (fun hc => ?_) (fun hc => ?_)
      · rw [if_neg (by decide)]
        obtain ⟨b, hb, eb⟩ := zlB_b (d := d) hN eP bP eL bL (by omega) hto ha hn z hc
        have kl := (zlend_N (d := d) hN eL bL (by omega) (by omega) ha hn z hc).1
        have eh := zlend_hi (N := N) (l := nL) (fr := i) (to := to) (ash := ash) (n := n) (d := d) (by omega) (by omega) (by omega) bL
        refine zc_copy (by decide) hN h' j (fun M1 c1 g1 p1 => ?_)
        refine zc_lend hN c1 eL bL (by omega) (by omega) ha hn z hc (fun M2 c2' g2 => ?_)
        rw [zZ1]
        refine ⟨vp_in_nI (n := 1) (by decide) (by decide), ?_⟩
        have tu := zTu_cg (fun k hk => eh k (by omega)) 1
        refine zc_days (n := 60) rfl (by decide) kl c2' (by rw [tu.1, tu.2]; exact zlw_g (zlw_g (zlw_g hT g) g1) g2) (fun M3 c3 g3 => ?_)
        have g' := zg_tr g (zg_tr g1 (zg_tr g2 g3))
        have kd := zdays_K 60 _ kl
        refine zq_cBrk c3 (nP := nP) (by rw [kd.2 2 (by omega) (by omega) (by omega), eh 2 (by omega), eP]) bP ?_
        have eb' : zsm (fun p => zdays 60 (zlend N nL i to ash n d) (28 + 7 * p)) nP = nI b := eb
        rw [eb']
        have go : zld N nL nP to ash n d (i + 1) = (if nI b < (zld N nL nP to ash n d i).2 then (nI i, nI b) else zld N nL nP to ash n d i) := by
          rw [zld, eb]
          by_cases q : nI b < (zld N nL nP to ash n d i).2
          · rw [if_pos q, if_pos ⟨z, hc, q⟩]
          · rw [if_neg q, if_neg (fun w => q w.2.2)]
        have take : zld N nL nP to ash n d (i + 1) = (nI i, nI b) → L (nI i) (nI b) (nI (i + 1)) M3 := fun e => hL _ _ _ _ ⟨i + 1, rfl, by omega, by rw [e]; exact Or.inr ⟨i, b, by omega, hb, rfl, rfl, rfl⟩, g', c3.2.2.2.2⟩
        rcases r with ⟨r1, r2, r3⟩ | ⟨j1, l1, b1, b2, r1, r2, r3⟩
        · rw [r2, if_pos (by decide)]
          rw [r1] at go
          dsimp only at go
          exact take (by rw [go, if_pos (show nI b < 397 from nI_lt (b := 397) hb (by omega))])
        · rw [r2, r3, if_neg (nI_pos (by omega))]
          rw [r1] at go
          dsimp only at go
          by_cases q : l1 ≤ b
          · rw [if_pos (nI_le q (by omega))]
            rw [if_neg (nI_nlt q (by omega))] at go
            have := stay (by rw [go, r1]) M3 g' c3.2.2.2.2
            rw [r2, r3] at this
            exact this
          · rw [if_neg (nI_ge (by omega) (by omega))]
            exact take (by rw [go, if_pos (nI_lt (by omega) (by omega))])
      · rw [if_pos rfl]
        exact stay (by rw [zld, if_neg (fun q => hc q.2.1)]) M' g j
theorem zr_lender {N : Nat → Int32} {M0 M : za_M} {nP nL to ash n : Nat} {d : Int32} {K : Int32 → za_M → Prop} (hN : zN N) (hT : zT N) (t : zat N M0 M) (eP : N 2 = nI nP) (bP : nP < 5) (eL : N 3 = nI nL) (bL : nL < 10) (hto : to < nP) (ha : ash < (N 1).toNatClampNeg) (hn : n < 100)
    (k : ∀ M', zat N M0 M' → (if 0 ≤ (zld N nL nP to ash n d nP).1 then K (zld N nL nP to ash n d nP).1 M' else f_X10_finding (-1000000002) M' (fun r4 M3 => K r4 M3))) : ∃ q, za_lp3 (f_X10_lender_b73 K (nI to) (nI ash) (nI n) d) q (-1) 397 0 M := by
  have hA := (zs_cl hN.1.1 (by decide)).1
  have cP : (N 2).toNatClampNeg = nP := by rw [eP, nI_clamp (by omega)]
  have v2 : vp_in 2 279 := vp_in_nI (n := 2) (by decide) (by decide)
  refine za_lp3_ind (fun s x5 x6 x7 M' => ∃ i, x7 = nI i ∧ i + s = nP ∧ x5 = (zld N nL nP to ash n d i).1 ∧ x6 = (zld N nL nP to ash n d i).2 ∧ zat N M0 M') ?_ ?_ nP (-1) 397 0 M ⟨0, rfl, by omega, rfl, rfl, t⟩
  · intro x5 x6 x7 M' ⟨i, e1, e2, r1, r2, g⟩ L
    subst e1
    have ei : i = nP := by omega
    subst ei
    simp only [f_X10_lender_b73]
    refine ⟨v2, ?_⟩
    rw [show Int32.toNatClampNeg 2 = 2 by decide, g.1, eP, if_pos (nI_le (by omega) (by omega)), r1]
    exact k M' g
  · intro s x5 x6 x7 M' ⟨i, e1, e2, r1, r2, g⟩ L hL
    subst e1
    simp only [f_X10_lender_b73, f_X10_lender_b116, f_X10_lender_b118, f_X10_lender_b134, za_let]
    refine ⟨v2, ?_⟩
    rw [show Int32.toNatClampNeg 2 = 2 by decide, g.1, eP, if_neg (by rw [nI_leI (by omega) (by omega)]; omega), nI_1]
    have mm : za_min x6 x6 = x6 := by unfold za_min; rw [if_neg (fun q => absurd q (Int32.not_lt.mpr (Int32.le_refl _)))]
    have stay : zld N nL nP to ash n d (i + 1) = zld N nL nP to ash n d i → ∀ M2, zat N M0 M2 → L x5 x6 (nI (i + 1)) M2 := fun e M2 g2 => hL _ _ _ _ ⟨i + 1, rfl, by omega, by rw [e]; exact r1, by rw [e]; exact r2, g2⟩
    by_cases z : i = to
    · rw [if_pos (by rw [z]), if_pos (Int32.le_refl _), mm]
      exact stay (by rw [zld, if_neg (fun q => q.1 z)]) M' g
    · rw [if_neg (by rw [nI_eq (by omega) (by omega)]; exact z)]
      refine zr_cl (by omega) (by omega) (by omega) (fun hc => ?_) (fun hc => ?_)
      · rw [g.1] at hc
        rw [if_neg (by decide)]
        obtain ⟨b, hb, eb⟩ := zlB_b (d := d) hN eP bP eL bL (by omega) hto ha hn z hc
        have kl := zlend_N (d := d) hN eL bL (by omega) (by omega) ha hn z hc
        have eh := zlend_hi (N := N) (l := nL) (fr := i) (to := to) (ash := ash) (n := n) (d := d) (by omega) (by omega) (by omega) bL
        simp only [f_X10_brokenIfLent]
        refine zr_asd g (fun M1 a1 => ?_)
        have e1' : M1.1 zR = N := a1.1
        refine zr_lend (by omega) (by omega) (by omega) z (by rw [e1']; exact eL) bL (fun M2 e2' k2 => ?_)
        rw [e1'] at e2'
        refine zr_days (n := 60) (by omega) (by rw [e2']; exact kl.1) (by rw [e2']; exact zT_cg hT (fun k hk => kl.2 k (by omega))) (fun M3 e3 k3 => ?_)
        rw [e2'] at e3
        have kd := zdays_K 60 _ kl.1
        rw [if_pos (nI_pos' (by omega))]
        have e3' : M3.1 (28, 0, 0) = zdays 60 (zlend N nL i to ash n d) := e3
        refine zq_rBrk (nP := nP) (by rw [e3', kd.2 2 (by omega) (by omega) (by omega), eh 2 (by omega), eP]) bP ?_
        simp only [f_X10_putBack]
        rw [e3']
        have eb' : zsm (fun p => zdays 60 (zlend N nL i to ash n d) (28 + 7 * p)) nP = nI b := eb
        rw [eb']
        refine zr_pb a1 (fun j hj => by rw [kd.2 j (by omega) (by omega) (by omega), kl.2 j (by omega)]) e3' (zk_tr (zk_mo k2 (by decide)) k3) (fun M4 a4 => ?_)
        have go : zld N nL nP to ash n d (i + 1) = (if nI b < x6 then (nI i, nI b) else zld N nL nP to ash n d i) := by
          rw [zld, eb, r2]
          by_cases q : nI b < (zld N nL nP to ash n d i).2
          · rw [if_pos q, if_pos ⟨z, hc, q⟩]
          · rw [if_neg q, if_neg (fun w => q w.2.2)]
        unfold za_min
        by_cases q : nI b < x6
        · rw [if_neg (fun w => absurd q (Int32.not_lt.mpr w)), if_pos q]
          rw [if_pos q] at go
          exact hL _ _ _ _ ⟨i + 1, rfl, by omega, by rw [go], by rw [go], zas_t a4⟩
        · rw [if_pos (Int32.not_lt.mp q), if_neg q]
          rw [if_neg q] at go
          exact stay go M4 (zas_t a4)
      · rw [g.1] at hc
        rw [if_pos rfl, if_pos (Int32.le_refl _), mm]
        exact stay (by rw [zld, if_neg (fun q => hc q.2.1)]) M' g
theorem zT_lender (x1 x2 x3 x4 : Int32) : zV (f_X9_lender x1 x2 x3 x4) (f_X10_lender x1 x2 x3 x4) := by
  intro M K hI hK
  obtain ⟨nA, nP, nL, bA, bP, bL, rA, rP, rL, cA, cP, cL⟩ := zI_cnt hI
  have v3 : vp_in 3 279 := vp_in_nI (n := 3) (by decide) (by decide)
  have z3 : Int32.toNatClampNeg 3 = 3 := by decide
  have bad : ∀ (M1 : za_M) (K' : Int32 → za_M → Prop), (∀ x : za_L, x.1 ≠ 24 → M1.1 x = M.1 x) → (zw x1 0 (nI nP - 1) = 0 ∨ zw x2 0 (nI nA - 1) = 0 ∨ zw x3 1 99 = 0 ∨ zw x4 1 20 = 0) → f_X10_finding (-1000000001) M1 K' → f_X10_lender x1 x2 x3 x4 M1 K' := by
    intro M1 K' h hb hh
    simp only [f_X10_lender, zq_rPot, zq_rAsh, zf_X10_within, h (28, 0, 0) (by decide), rP, rA]
    by_cases a : zw x1 0 (nI nP - 1) = 0
    · rw [if_pos a]; exact hh
    rw [if_neg a]
    by_cases b : zw x2 0 (nI nA - 1) = 0
    · rw [if_pos b]; exact hh
    rw [if_neg b]
    by_cases c : zw x3 1 99 = 0
    · rw [if_pos c]; exact hh
    rw [if_neg c]
    by_cases d : zw x4 1 20 = 0
    · rw [if_pos d]; exact hh
    · rcases hb with q | q | q | q
      · exact absurd q a
      · exact absurd q b
      · exact absurd q c
      · exact absurd q d
  have ok : ∀ (M1 : za_M) (K' : Int32 → za_M → Prop), M1.1 (28, 0, 0) = M.1 (28, 0, 0) → ¬ zw x1 0 (nI nP - 1) = 0 → ¬ zw x2 0 (nI nA - 1) = 0 → ¬ zw x3 1 99 = 0 → ¬ zw x4 1 20 = 0 → (if nI nL = 10 then f_X10_finding (-1000000004) M1 (fun r2 M2 => K' r2 M2) else ∃ n, za_lp3 (f_X10_lender_b73 K' x1 x2 x3 x4) n (-1) 397 0 M1) → f_X10_lender x1 x2 x3 x4 M1 K' := by
    intro M1 K' h a b c d hh
    simp only [f_X10_lender, zq_rPot, zq_rAsh, zf_X10_within, h, rP, rA]
    rw [if_neg a, if_neg b, if_neg c, if_neg d, z3, rL]
    exact ⟨v3, hh⟩
  simp only [f_X9_lender, f_X9_lender_b31, f_X9_lender_b32, zq_cPot, zq_cAsh, zf_X9_within, cA, cP, cL, if_true, zl_10, if_false]
  rcases (zw_cs x1 (n := nP) (by omega)).symm with q1 | ⟨to, hto, rfl, q1⟩
  · rw [if_pos q1]
    exact zV_fg (R := f_X10_lender x1 x2 x3 x4) (y := -1000000001) 1 rfl (by decide) (by decide) rfl hI hK (fun M1 K' h hh => bad M1 K' h (Or.inl q1) hh)
  have q1' : ¬ zw (nI to) 0 (nI nP - 1) = 0 := by rw [q1]; decide
  rw [if_neg q1']
  rcases (zw_cs x2 (n := nA) (by omega)).symm with q2 | ⟨ash, ha, rfl, q2⟩
  · rw [if_pos q2]
    exact zV_fg (R := f_X10_lender (nI to) x2 x3 x4) (y := -1000000001) 1 rfl (by decide) (by decide) rfl hI hK (fun M1 K' h hh => bad M1 K' h (Or.inr (Or.inl q2)) hh)
  have q2' : ¬ zw (nI ash) 0 (nI nA - 1) = 0 := by rw [q2]; decide
  rw [if_neg q2']
  by_cases q3 : zw x3 1 99 = 0
  · rw [if_pos q3]
    exact zV_fg (R := f_X10_lender (nI to) (nI ash) x3 x4) (y := -1000000001) 1 rfl (by decide) (by decide) rfl hI hK (fun M1 K' h hh => bad M1 K' h (Or.inr (Or.inr (Or.inl q3))) hh)
  rw [if_neg q3]
  by_cases q4 : zw x4 1 20 = 0
  · rw [if_pos q4]
    exact zV_fg (R := f_X10_lender (nI to) (nI ash) x3 x4) (y := -1000000001) 1 rfl (by decide) (by decide) rfl hI hK (fun M1 K' h hh => bad M1 K' h (Or.inr (Or.inr (Or.inr q4))) hh)
  rw [if_neg q4]
  by_cases q5 : nL < 10
  · rw [if_pos (show nI nL < 10 from nI_lt (b := 10) q5 (by omega))]
    have q5' : ¬ nI nL = 10 := fun z => by have := (nI_eq (a := nL) (b := 10) (by omega) (by omega)).mp z; omega
    obtain ⟨n, hn, hn1, rfl⟩ := zw_1n (m := 99) (by decide) q3
    have ha' : ash < (M.1 (28, 0, 0) 1).toNatClampNeg := by rw [rA, nI_clamp (by omega)]; exact ha
    refine zc_lender hI.1.1 (hI.2.2.1.2.1 1 (by decide)) hI.2.2.1.1 (hI.2.2.2.2.2.1 2 (by decide)) rP bP rL q5 hto ha' (by omega) (fun M1 g1 j1 => ?_)
    have o : M1.1 (28, 0, 0) = M.1 (28, 0, 0) := g1.1 _ (by simp)
    have o30 : M1.1 (30, 0, 0) = M.1 (30, 0, 0) := g1.1 _ (by simp)
    by_cases q6 : 0 ≤ (zld (M.1 (28, 0, 0)) nL nP to ash n x4 nP).1
    · rw [if_pos q6]
      refine ok M1 _ o q1' q2' q3 q4 ?_
      rw [if_neg q5']
      refine zr_lender hI.1.1 hI.1.2 ⟨o, fun j hj => by rw [o30]; exact (hI.2.2.2.2.2.2 j hj).2, fun _ _ _ _ _ => rfl, rfl⟩ rP bP rL q5 hto ha' (by omega) (fun M2 a2 => ?_)
      rw [if_pos q6]
      exact hK _ _ (zI_th hI g1 a2.1 a2.2.1 a2.2.2.1 a2.2.2.2 j1)
    · rw [if_neg q6]
      have hI1 : zI M1 := zI_th hI g1 o (fun j hj => by rw [o30]; exact (hI.2.2.2.2.2.2 j hj).2) (fun _ _ _ _ _ => rfl) rfl j1
      refine zV_fh (R := f_X10_lender (nI to) (nI ash) (nI n) x4) (y := -1000000002) 2 rfl (by decide) (by decide) rfl hI1 hK (fun M2 K' h hp hh => ?_)
      refine ok M2 K' ((h (28, 0, 0) (by decide)).trans o) q1' q2' q3 q4 ?_
      rw [if_neg q5']
      refine zr_lender hI.1.1 hI.1.2 ⟨(h (28, 0, 0) (by decide)).trans o, fun j hj => by rw [h (30, 0, 0) (by decide), o30]; exact (hI.2.2.2.2.2.2 j hj).2, fun _ _ _ _ _ => rfl, rfl⟩ rP bP rL q5 hto ha' (by omega) (fun M3 a3 => ?_)
      rw [if_neg q6]
      exact hh M3 (by rw [a3.1, h (28, 0, 0) (by decide), o]) a3.2.2.1 (fun j hj => by rw [a3.2.1 j hj, o]) a3.2.2.2
  · rw [if_neg (show ¬ nI nL < 10 from fun z => q5 ((nI_ltI (a := nL) (b := 10) (by omega) (by omega)).mp z))]
    refine zV_fg (R := f_X10_lender (nI to) (nI ash) x3 x4) (y := -1000000004) 4 rfl (by decide) (by decide) rfl hI hK (fun M1 K' h hh => ?_)
    refine ok M1 K' (h (28, 0, 0) (by decide)) q1' q2' q3 q4 ?_
    rw [if_pos (show nI nL = 10 by rw [show nL = 10 by omega]; rfl)]
    exact hh

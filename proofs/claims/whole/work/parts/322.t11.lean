/-! single calls, ten: check -/
theorem za_letE {α : Type} (v : α) (k : α → Prop) : za_let v k = k v := propext Iff.rfl
theorem zf_check (M : za_M) (K : Int32 → za_M → Prop) : f_X9_check M K = f_X1_copy 2 0 (za_up M (1, 0, 0) 5 0) (fun M11 => ∃ n, za_lp1 (f_X9_check_b32 K (M.1 (1, 0, 0) 5)) n 0 M11) := by
  unfold f_X9_check
  rw [za_letE, za_letE]
theorem zT_check : zV f_X9_check f_X10_check := by
  intro M K hI hK
  obtain ⟨w, hw, ew⟩ := hI.1.1.1.2.2.2.2
  have s := hI.2.2.1
  have s5 := s.2.2.2.1
  have hN := hI.1.1
  have hT := hI.1.2
  have hj := hI.2.2.2.2.2
  have v6 : vp_in 6 279 := vp_in_nI (n := 6) (by decide) (by decide)
  have v3 : vp_in 3 279 := vp_in_nI (n := 3) (by decide) (by decide)
  have z6 : Int32.toNatClampNeg 6 = 6 := by decide
  have z3 : Int32.toNatClampNeg 3 = 3 := by decide
  have ew' : (M.1 (28, 0, 0) 6).toNatClampNeg = w := by rw [ew, nI_clamp (by omega)]
  -- the state with none waiting
  have a1 : (za_up (za_up M (1, 0, 0) 5 0) (28, 0, 0) 6 0).1 (1, 0, 0) = upd (M.1 (1, 0, 0)) 5 0 := by rw [za_up_oth _ _ _ (by decide), za_up_row]
  have a15 : (za_up (za_up M (1, 0, 0) 5 0) (28, 0, 0) 6 0).1 (15, 0, 0) = M.1 (15, 0, 0) := by rw [za_up_oth _ _ _ (by decide), za_up_oth _ _ _ (by decide)]
  have hw0 : zI (za_up (za_up M (1, 0, 0) 5 0) (28, 0, 0) 6 0) := by
    refine zI_tp (N' := upd (M.1 (28, 0, 0)) 6 0) hI (zN_up5 hN (Or.inr (Or.inl ⟨rfl, zs_nI (n := 0) (by omega)⟩))) (by rw [za_up_row, za_up_oth _ _ _ (by decide)]) (fun k hk h5 h6 => zu_ne h6) ?_ ?_ ?_ (fun x a b c d => by rw [za_up_oth _ _ _ a, za_up_oth _ _ _ b]) rfl
    · rw [zu_ne (show 5 ≠ 6 by decide), a1, a15, zu_ne (by decide)]
      exact ⟨s.2.2.1.1, fun i hi => by
        have hb := (zs_cl hN.1.2.2.2.1 (by decide)).1
        rw [zu_ne (by omega)]; exact s.2.2.1.2 i hi⟩
    · rw [zu_eq, a1, zu_eq]
      exact ⟨rfl, fun i hi => absurd hi (by rw [show (0 : Int32).toNatClampNeg = 0 by decide]; omega)⟩
    · rw [a1, zu_ne (by decide)]
  generalize hN1 : upd (M.1 (28, 0, 0)) 6 0 = N
  have hNn : zN N := by rw [← hN1]; exact zN_up5 hN (Or.inr (Or.inl ⟨rfl, zs_nI (n := 0) (by omega)⟩))
  have hTn : zT N := by rw [← hN1]; exact zT_cg hT (fun k hk => zu_ne (by omega))
  have eN : ∀ k, k ≠ 6 → N k = M.1 (28, 0, 0) k := fun k hk => by rw [← hN1, zu_ne hk]
  rw [zf_check]
  rw [s5.1, ew]
  -- the reference stops at the same place
  have ref : ∀ (t : Nat) (M1 : za_M) (v : Int32), t ≤ w → zg 2 (za_up M (1, 0, 0) 5 0) M1 → (∀ i j, i < 10 → j < 10 → M1.2 2 i % 10 = M1.2 2 j % 10 → i = j) → (∀ i, i < t → zdays (i + 1) N 3 = N (155 + i)) → (t < w → ¬ zdays (t + 1) N 3 = N (155 + t)) → v = (if t = w then 0 else nI (1 + t)) → f_X10_check M1 (fun r2 M2 => K v r2 M2) := by
    intro t M1 v ht g j1 h1 h2 hv
    have o : M1.1 (28, 0, 0) = M.1 (28, 0, 0) := (g.1 _ (by simp)).trans (za_up_oth _ _ _ (by decide))
    have o30 : M1.1 (30, 0, 0) = M.1 (30, 0, 0) := (g.1 _ (by simp)).trans (za_up_oth _ _ _ (by decide))
    simp only [f_X10_check, za_let]
    rw [z6, o, ew]
    refine ⟨v6, v6, ?_⟩
    generalize hM2 : za_up M1 (28, 0, 0) 6 0 = M2
    have e2 : M2.1 (28, 0, 0) = N := by rw [← hM2, za_up_row, o, hN1]
    have e30 : M2.1 (30, 0, 0) = M.1 (30, 0, 0) := by rw [← hM2, za_up_oth _ _ _ (by decide)]; exact o30
    refine zr_asd (N := N) (M0 := M2) ⟨e2, fun j hj2 => by rw [e30, eN j (by omega)]; exact (hj.2 j hj2).2, fun _ _ _ _ _ => rfl, rfl⟩ (fun M3 a3 => ?_)
    have fin : ∀ (M4 : za_M) (d : Nat), M4.1 (28, 0, 0) = zdays d N → zk [28, 34, 35] M3 M4 → f_X10_putBack v M4 (fun r3 M2 => K v r3 M2) := by
      intro M4 d e4 k4
      simp only [f_X10_putBack]
      refine zr_pb a3 (fun j hj2 => zdays_hi hNn (by omega)) e4 k4 (fun M5 a5 => hK _ _ ?_)
      have g' : zg 2 (za_up (za_up M (1, 0, 0) 5 0) (28, 0, 0) 6 0) M2 := by
        rw [← hM2]
        refine ⟨fun x hx => ?_, g.2⟩
        by_cases a : x = (28, 0, 0)
        · rw [a, za_up_row, za_up_row, o, za_up_oth _ _ _ (by decide)]
        · rw [za_up_oth _ _ _ a, za_up_oth _ _ _ a]
          exact g.1 x hx
      refine zI_th hw0 g' ?_ (fun j _ => ?_) a5.2.2.1 a5.2.2.2 (by rw [← hM2]; exact j1)
      · rw [a5.1, za_up_row, za_up_oth _ _ _ (by decide), hN1]
      · rw [a5.2.1, za_up_row, za_up_oth _ _ _ (by decide), hN1]
    refine za_lp2_ind (fun s x2 x3 M4 => ∃ d, M4.1 (28, 0, 0) = zdays d N ∧ zk [28, 34, 35] M3 M4 ∧ ((x2 = 0 ∧ x3 = nI d ∧ d ≤ t ∧ d + s = t + 1 ∧ 1 ≤ s) ∨ (s = 0 ∧ x2 = v ∧ x3 = nI (t + 1) ∧ d = t + 1 ∧ t < w) ∨ (s = 0 ∧ d = t ∧ t = w ∧ x2 = 0 ∧ x3 = nI t))) ?_ ?_ (t + 1) 0 0 M3 ⟨0, a3.1, zk_rf _ _, Or.inl ⟨rfl, rfl, by omega, by omega, by omega⟩⟩
    · intro x2 x3 M4 ⟨d, e4, k4, hc⟩ L
      simp only [f_X10_check_b31]
      rcases hc with ⟨_, _, _, _, q⟩ | ⟨_, r1, r2, r3, r4⟩ | ⟨_, r1, r2, r3, r4⟩
      · omega
      · rw [r1, r2]
        have hv0 : ¬ v = 0 := by
          rw [hv, if_neg (by omega)]
          exact nI_ne0 (by omega) (by omega)
        by_cases q : w ≤ t + 1
        · rw [if_pos (nI_le q (by omega))]
          exact fin M4 d e4 k4
        · rw [if_neg (by rw [nI_leI (by omega) (by omega)]; exact q), if_neg hv0]
          exact fin M4 d e4 k4
      · rw [r3, r4, if_pos (nI_le (by omega) (by omega))]
        have : (0 : Int32) = v := by rw [hv, if_pos r2]
        rw [this]
        exact fin M4 d e4 k4
    · intro s x2 x3 M4 ⟨d, e4, k4, hc⟩ L hL
      rcases hc with ⟨r1, r2, r3, r4, r5⟩ | ⟨q, _⟩ | ⟨q, _⟩
      · subst r1; subst r2
        simp only [f_X10_check_b31, f_X10_check_b70]
        by_cases q : w ≤ d
        · rw [if_pos (nI_le q (by omega))]
          have : (0 : Int32) = v := by rw [hv, if_pos (by omega)]
          rw [this]
          exact fin M4 d e4 k4
        · rw [if_neg (by rw [nI_leI (by omega) (by omega)]; exact q), if_pos trivial]
          have e4' : M4.1 zR = zdays d N := e4
          have kd := zdays_K d N hNn
          refine zr_day (by rw [e4']; exact kd.1) (by rw [e4']; exact zK_T kd hTn) (fun M5 n1 n2 => ?_)
          rw [e4', ← zdays_s] at n1
          have n1 : M5.1 (28, 0, 0) = zdays (d + 1) N := n1
          rw [zl_lit 155, nI_add, n1, nI_clamp (by omega), z3, nI_1, zdays_hi hNn (by omega)]
          refine ⟨vp_in_nI (by omega) (by decide), v3, ?_⟩
          by_cases z : zdays (d + 1) N 3 = N (155 + d)
          · rw [if_pos z.symm]
            have hd : d < t := by
              rcases Nat.lt_or_ge d t with q2 | q2
              · exact q2
              · have : d = t := by omega
                subst this
                exact absurd z (h2 (by omega))
            by_cases y : s = 0
            · omega
            · exact hL _ _ _ ⟨d + 1, n1, zk_tr k4 n2, Or.inl ⟨rfl, rfl, by omega, by omega, by omega⟩⟩
          · rw [if_neg (fun q => z q.symm)]
            have hd : d = t := by
              rcases Nat.lt_or_ge d t with q2 | q2
              · exact absurd (h1 d q2) z
              · omega
            subst hd
            refine hL _ _ _ ⟨d + 1, n1, zk_tr k4 n2, Or.inr (Or.inl ⟨by omega, ?_, rfl, rfl, by omega⟩)⟩
            rw [hv, if_neg (by omega), zl_lit 1, nI_add]
      · omega
      · omega
  refine zc_copy (by decide) hN (zc_cg s.1 (fun x _ hx => za_up_oth _ _ _ (fun q => by rw [q] at hx; simp at hx)) rfl) (hj.1 2 (by decide)) (fun M1 c1 g1 p1 => ?_)
  have c1 : zc 2 N M1 := zc_row hN c1 (fun k _ _ _ h6 => eN k h6)
  have hLw : ∀ M', zg 2 (za_up M (1, 0, 0) 5 0) M' → zlw 0 1 (zTn N 1) (zTf N 1) M' := by
    intro M' g
    have tu := zTu_cg (N := M.1 (28, 0, 0)) (N' := N) (fun k hk => eN k (by omega)) 1
    rw [tu.1, tu.2]
    exact zlw_cg (s.2.1 1 (by decide)) ((g.1 _ (by simp)).trans (za_up_oth _ _ _ (by simp))) ((g.1 _ (by simp)).trans (za_up_oth _ _ _ (by simp)))
  refine za_lp1_ind (fun s x M' => ∃ d, x = nI d ∧ d + s = w ∧ zc 2 (zdays d N) M' ∧ zg 2 (za_up M (1, 0, 0) 5 0) M' ∧ ∀ i, i < d → zdays (i + 1) N 3 = N (155 + i)) ?_ ?_ w 0 M1 ⟨0, rfl, by omega, c1, g1, fun i hi => by omega⟩
  · intro x M' ⟨d, e1, e2, c, g, ha⟩ L
    subst e1
    simp only [f_X9_check_b32]
    rw [if_pos (nI_le (by omega) (by omega))]
    exact ref d M' _ (by omega) g c.2.2.2.2 ha (fun q => by omega) (by rw [if_pos (by omega)])
  · intro s' x M' ⟨d, e1, e2, c, g, ha⟩ L hL
    subst e1
    simp only [f_X9_check_b32]
    rw [if_neg (by rw [nI_leI (by omega) (by omega)]; omega), zZ1]
    refine ⟨vp_in_nI (n := 1) (by decide) (by decide), ?_⟩
    have kd := zdays_K d N hNn
    refine zc_days (n := 1) rfl (by decide) kd.1 c (zlw_K (hLw M' g) kd) (fun M5 c5 g5 => ?_)
    have c5 : zc 2 (zdays (d + 1) N) M5 := by rw [zdays_s]; exact c5
    have gg := zg_tr g g5
    refine ⟨vp_in_nI (by omega) (by decide), ?_⟩
    have e16 : M5.1 (16, 0, 0) d = N (155 + d) := by
      rw [gg.1 (16, 0, 0) (by simp), za_up_oth _ _ _ (by decide), s5.2 d (by omega), eN _ (by omega)]
    rw [nI_clamp (by omega), e16, c5.1.2.2.1, nI_1]
    by_cases z : zdays (d + 1) N 3 = N (155 + d)
    · rw [if_pos z]
      refine hL _ _ ⟨d + 1, rfl, by omega, c5, gg, fun i hi => ?_⟩
      by_cases y : i = d
      · rw [y]; exact z
      · exact ha i (by omega)
    · rw [if_neg z]
      exact ref d M5 _ (by omega) gg c5.2.2.2.2 ha (fun _ => z) (by rw [if_neg (by omega), zl_lit 1, nI_add])

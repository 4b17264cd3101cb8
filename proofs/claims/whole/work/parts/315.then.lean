/-! what would be: then -/
theorem zI_th {M M1 M2 : za_M} (h : zI M) (g : zg 2 M M1) (r28 : M2.1 (28, 0, 0) = M.1 (28, 0, 0)) (r30 : ∀ j, 279 ≤ j → M2.1 (30, 0, 0) j = M.1 (28, 0, 0) j) (e : ∀ x : za_L, x.1 ≠ 28 → x.1 ≠ 30 → x.1 ≠ 34 → x.1 ≠ 35 → M2.1 x = M1.1 x) (p : M2.2 = M1.2) (hj : ∀ i j, i < 10 → j < 10 → M1.2 2 i % 10 = M1.2 2 j % 10 → i = j) : zI M2 := by
  have o : ∀ x : za_L, x.1 ≠ 28 → x.1 ≠ 30 → x.1 ≠ 34 → x.1 ≠ 35 → x.1 ≠ 18 → x.2.1 ≠ 2 → M2.1 x = M.1 x := fun x a b c d e2 f => (e x a b c d).trans (g.1 x (by omega))
  refine zI_cg h (fun x hx => ?_) (by rw [o (8, 0, 0) (by simp) (by simp) (by simp) (by simp) (by simp) (by simp)]) (by rw [o (27, 0, 0) (by simp) (by simp) (by simp) (by simp) (by simp) (by simp)]) (by rw [o (27, 0, 0) (by simp) (by simp) (by simp) (by simp) (by simp) (by simp)]) (by rw [p]; exact g.2 0 (by decide)) (by rw [p]; exact g.2 1 (by decide)) ⟨fun c hc => ?_, fun j hj => ?_⟩
  · rcases hx with hx | hx | hx | hx
    · unfold zot at hx
      exact (e x (by omega) (by omega) (by omega) (by omega)).trans (g.1 x (by omega))
    · rw [hx]; exact r28
    · unfold zst at hx
      exact o x (by omega) (by omega) (by omega) (by omega) (by omega) (by omega)
    · unfold zst at hx
      exact o x (by omega) (by omega) (by omega) (by omega) (by omega) (by omega)
  · rw [p]
    by_cases q : c = 2
    · rw [q]; exact hj
    · rw [g.2 c q]
      exact h.2.2.2.2.2.1 c hc
  · rw [r28, r30 j hj, o (29, 0, 0) (by simp) (by simp) (by simp) (by simp) (by simp) (by simp)]
    exact ⟨(h.2.2.2.2.2.2 j hj).1, rfl⟩
theorem zw_m1 {x : Int32} {n : Nat} (hn : n < 6) (hx : ¬ x = -1) : zw x (-1) (nI n - 1) = zw x 0 (nI n - 1) := by
  have e : x < -1 ↔ x < 0 := by
    rw [Int32.lt_iff_toInt_lt, Int32.lt_iff_toInt_lt, show (-1 : Int32).toInt = -1 by decide, show (0 : Int32).toInt = 0 by decide]
    have : x.toInt ≠ -1 := fun q => hx (Int32.toInt_inj.mp (by rw [q]; decide))
    omega
  unfold zw
  by_cases q : x < 0
  · rw [if_pos q, if_pos (e.mpr q)]
  · rw [if_neg q, if_neg (fun r => q (e.mp r))]
theorem zw_m2 {n : Nat} (hn : n < 6) : zw (-1) (-1) (nI n - 1) = 1 := by
  have hc : n = 0 ∨ n = 1 ∨ n = 2 ∨ n = 3 ∨ n = 4 ∨ n = 5 := by omega
  rcases hc with rfl | rfl | rfl | rfl | rfl | rfl <;> decide
theorem zdays_hi {k : Nat} {N : Nat → Int32} (h : zN N) {j : Nat} (hj : 105 ≤ j) : zdays k N j = N j := (zdays_K k N h).2 j (by omega) (by omega) (by omega)
theorem zT_then (x1 x2 x3 : Int32) : zV (f_X9_then x1 x2 x3) (f_X10_then x1 x2 x3) := by
  intro M K hI hK
  obtain ⟨nA, nP, nL, bA, bP, bL, rA, rP, rL, cA, cP, cL⟩ := zI_cnt hI
  simp only [f_X9_then, zq_cPot, zq_cAsh, zf_X9_within, cA, cP]
  have f28 : ∀ (M1 : za_M), (∀ x : za_L, x.1 ≠ 24 → M1.1 x = M.1 x) → M1.1 (28, 0, 0) = M.1 (28, 0, 0) := fun M1 h => h (28, 0, 0) (by decide)
  have v1 : vp_in 1 279 := vp_in_nI (n := 1) (by decide) (by decide)
  have z1 : Int32.toNatClampNeg 1 = 1 := by decide
  have bad : ∀ (M1 : za_M) (K' : Int32 → za_M → Prop), (∀ x : za_L, x.1 ≠ 24 → M1.1 x = M.1 x) → (zw x1 0 60 = 0 ∨ zw x2 0 (nI nP - 1) = 0 ∨ zw x3 (-1) (nI nA - 1) = 0) → f_X10_finding (-1000000001) M1 K' → f_X10_then x1 x2 x3 M1 K' := by
    intro M1 K' h hb hh
    simp only [f_X10_then, zq_rPot, zf_X10_within, f28 M1 h, z1, rP, rA]
    by_cases a : zw x1 0 60 = 0
    · rw [if_pos a]; exact hh
    · rw [if_neg a]
      by_cases b : zw x2 0 (nI nP - 1) = 0
      · rw [if_pos b]; exact hh
      · rw [if_neg b]
        have c : zw x3 (-1) (nI nA - 1) = 0 := by
          rcases hb with q | q | q
          · exact absurd q a
          · exact absurd q b
          · exact q
        rw [if_pos c]
        exact ⟨v1, hh⟩
  by_cases q1 : zw x1 0 60 = 0
  · rw [if_pos q1]
    exact zV_fg (R := f_X10_then x1 x2 x3) (y := -1000000001) 1 rfl (by decide) (by decide) rfl hI hK (fun M1 K' h hh => bad M1 K' h (Or.inl q1) hh)
  rw [if_neg q1]
  rcases (zw_cs x2 (n := nP) (by omega)).symm with q2 | ⟨p, hp, rfl, q2⟩
  · rw [q2, if_pos rfl]
    exact zV_fg (R := f_X10_then x1 x2 x3) (y := -1000000001) 1 rfl (by decide) (by decide) rfl hI hK (fun M1 K' h hh => bad M1 K' h (Or.inr (Or.inl q2)) hh)
  rw [q2, if_neg (by decide)]
  obtain ⟨n, hn, rfl⟩ : ∃ n, n < 61 ∧ x1 = nI n := by
    rcases zw_cs x1 (n := 61) (by omega) with ⟨k, hk, e, _⟩ | e
    · exact ⟨k, hk, e⟩
    · exact absurd e q1
  have kd := zdays_K n _ hI.1.1
  have pP : p < (M.1 (28, 0, 0) 2).toNatClampNeg := by rw [rP, nI_clamp (by omega)]; exact hp
  have pP' : p < (zdays n (M.1 (28, 0, 0)) 2).toNatClampNeg := by rw [kd.2 2 (by omega) (by omega) (by omega)]; exact pP
  -- the whole, for an answer at the place t of the row
  have go : ∀ (t : Nat), t < 55 → (∀ (M4 : za_M), zc 2 (zdays n (M.1 (28, 0, 0))) M4 → ∀ (R : Int32 → za_M → Prop), R (zdays n (M.1 (28, 0, 0)) t) M4 → (vp_in (nI p) 4 ∧ if x3 = -1 then R (M4.1 (4, 2, (nI p).toNatClampNeg) 2) M4 else vp_in x3 5 ∧ R (M4.1 (13, 2, (nI p).toNatClampNeg) x3.toNatClampNeg) M4)) → (∀ (M1 : za_M) (K' : Int32 → za_M → Prop), M1.1 (28, 0, 0) = M.1 (28, 0, 0) → f_X10_copy (28, 0, 0) (30, 0, 0) M1 (fun M15 => f_X10_daysGo (nI n) M15 (fun M17 => f_X10_copy (30, 0, 0) (28, 0, 0) M17 (fun M1 => K' (M17.1 (28, 0, 0) t) M1))) → f_X10_then (nI n) (nI p) x3 M1 K') → f_X9_then_b55 (fun r1 M1 => f_X10_then (nI n) (nI p) x3 M1 (fun r2 M2 => K r1 r2 M2)) (nI n) (nI p) x3 M := by
    intro t ht hcl hrf
    unfold f_X9_then_b55
    refine zc_copy (by decide) hI.1.1 hI.2.2.1.1 (hI.2.2.2.2.2.1 2 (by decide)) (fun M1 c1 g1 p1 => ?_)
    rw [z1]
    refine ⟨vp_in_nI (n := 1) (by decide) (by decide), ?_⟩
    refine zc_days rfl (by omega) hI.1.1 c1 (zlw_g (hI.2.2.1.2.1 1 (by decide)) g1) (fun M4 c4 g4 => ?_)
    have g := zg_tr g1 g4
    have o : M4.1 (28, 0, 0) = M.1 (28, 0, 0) := g.1 _ (by simp)
    have o30 : M4.1 (30, 0, 0) = M.1 (30, 0, 0) := g.1 _ (by simp)
    refine hcl M4 c4 (fun r1 M1 => f_X10_then (nI n) (nI p) x3 M1 (fun r2 M2 => K r1 r2 M2)) (hrf M4 _ o ?_)
    refine zr_copy (by decide) (fun M5 m1 m2 m3 => ?_)
    have e30 : M5.1 (30, 0, 0) = M.1 (28, 0, 0) := by
      rw [m1, o, o30]
      funext j
      by_cases z : j < 279
      · rw [if_pos z]
      · rw [if_neg z]
        exact (hI.2.2.2.2.2.2 j (by omega)).2
    have e28 : M5.1 zR = M.1 (28, 0, 0) := (m2 _ (by decide)).trans o
    refine zr_days (by omega) (by rw [e28]; exact hI.1.1) (by rw [e28]; exact hI.1.2) (fun M6 n1 n2 => ?_)
    rw [e28] at n1
    have n1 : M6.1 (28, 0, 0) = zdays n (M.1 (28, 0, 0)) := n1
    have n30 : M6.1 (30, 0, 0) = M.1 (28, 0, 0) := (n2.1 _ (by decide)).trans e30
    refine zr_copy (by decide) (fun M7 w1 w2 w3 => ?_)
    rw [n1]
    have e7 : M7.1 (28, 0, 0) = M.1 (28, 0, 0) := by
      rw [w1, n30, n1]
      funext j
      by_cases z : j < 279
      · rw [if_pos z]
      · rw [if_neg z]
        exact zdays_hi hI.1.1 (by omega)
    refine hK _ _ (zI_th hI g e7 (fun j _ => by rw [w2 _ (by decide), n30]) (fun x a b c d => ?_) (by rw [w3, n2.2, m3]) c4.2.2.2.2)
    rw [w2 x (fun q => a (by rw [q])), n2.1 x (by simp [a, c, d]), m2 x (fun q => b (by rw [q]))]
  by_cases q3 : x3 = -1
  · subst q3
    rw [if_pos rfl]
    refine go (28 + 7 * p) (by omega) (fun M4 c4 R hR => ?_) (fun M1 K' o hh => ?_)
    · rw [if_pos rfl, nI_clamp (by omega), (c4.2.2.1 p pP').2.1]
      exact ⟨vp_in_nI (by omega) (by decide), hR⟩
    · simp only [f_X10_then, zq_rPot, zf_X10_within, o, z1, rP, rA, q2, zw_m2 bA, zl_10, if_false, f_X10_putBack]
      rw [if_neg q1]
      refine ⟨v1, ?_⟩
      have v : vp_in (nI (28 + 7 * p)) 279 := vp_in_nI (by omega) (by decide)
      simp only [show ((0 : Int32) ≤ -1) = False by decide, if_false, zq_potterAt (x := nI p) (y := 1) p 1 rfl rfl, eq_true v, true_and, nI_clamp (show 28 + 7 * p < 2 ^ 31 by omega), show 27 + 7 * p + 1 = 28 + 7 * p by omega]
      exact hh
  · rw [if_neg q3]
    have e3 := zw_m1 (n := nA) bA q3
    rcases (zw_cs x3 (n := nA) (by omega)).symm with q4 | ⟨a, ha, rfl, q4⟩
    · rw [q4, if_pos rfl]
      exact zV_fg (R := f_X10_then (nI n) (nI p) x3) (y := -1000000001) 1 rfl (by decide) (by decide) rfl hI hK (fun M1 K' h hh => bad M1 K' h (Or.inr (Or.inr (by rw [e3]; exact q4))) hh)
    · rw [q4, if_neg (by decide)]
      refine go (29 + 7 * p + a) (by omega) (fun M4 c4 R hR => ?_) (fun M1 K' o hh => ?_)
      · rw [if_neg q3, nI_clamp (by omega), nI_clamp (by omega), (c4.2.2.1 p pP').2.2 a (by omega)]
        exact ⟨vp_in_nI (by omega) (by decide), vp_in_nI (by omega) (by decide), hR⟩
      · simp only [f_X10_then, zq_rPot, zf_X10_within, o, z1, rP, rA, q2, e3, q4, zl_10, if_false, f_X10_putBack]
        rw [if_neg q1]
        refine ⟨v1, ?_⟩
        have v : vp_in (nI (29 + 7 * p + a)) 279 := vp_in_nI (by omega) (by decide)
        simp only [eq_true (show (0 : Int32) ≤ nI a from nI_pos' (by omega)), if_true, zq_storeAt (x := nI p) (y := nI a) p a rfl rfl, eq_true v, true_and, nI_clamp (show 29 + 7 * p + a < 2 ^ 31 by omega)]
        exact hh

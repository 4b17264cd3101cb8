/-! single calls, one: reads and puts of one number -/
theorem zl_10 : ((1 : Int32) = 0) = False := by decide
/-- the county and the row have changed alike -/
theorem zI_cty {M M1 M2 : za_M} {N' : Nat → Int32} (h : zI M) (g : zg 0 M M1) (k : zk [28, 34, 35] M1 M2) (n : zN N') (e28 : M2.1 (28, 0, 0) = N') (kk : ∀ k, 105 ≤ k ∨ k = 4 ∨ k = 5 ∨ k = 6 → N' k = M.1 (28, 0, 0) k) (hc : zc 0 N' M1) : zI M2 := by
  have e : ∀ x : za_L, x.1 ≠ 28 → x.1 ≠ 18 → x.1 ≠ 34 → x.1 ≠ 35 → ¬ (x.2.1 = 0 ∧ (x.1 = 2 ∨ x.1 = 3 ∨ x.1 = 4 ∨ x.1 = 5 ∨ x.1 = 13)) → M2.1 x = M.1 x := fun x a b c d q => (k.1 x (by simp; omega)).trans (g.1 x (by omega))
  have hT : zT N' := zT_cg h.1.2 (fun j hj => kk j (by omega))
  have s := h.2.2.1
  refine zI_now h (by rw [e28]; exact n) (by rw [e28]; exact hT) ?_ (fun x hx => ?_) (by rw [e (8, 0, 0) (by simp) (by simp) (by simp) (by simp) (by simp)]) (by rw [e (27, 0, 0) (by simp) (by simp) (by simp) (by simp) (by simp)]) (by rw [e (27, 0, 0) (by simp) (by simp) (by simp) (by simp) (by simp)]) (by rw [k.2]; exact g.2 1 (by decide)) ⟨fun c hcc => ?_, fun j hj => ?_⟩
  · rw [e28]
    obtain ⟨s1, s2, s3, s4, s5⟩ := s
    refine ⟨zc_cg hc (fun x _ hx => k.1 x (by simp; omega)) (by rw [k.2]), fun u hu => ?_, ?_, ?_, ?_⟩
    · have e1 : zTn N' u = zTn (M.1 (28, 0, 0)) u := by unfold zTn; rw [kk _ (by omega)]
      have e2 : zTf N' u = zTf (M.1 (28, 0, 0)) u := by funext i; unfold zTf; rw [kk _ (by omega)]
      rw [e1, e2]
      exact zlw_cg (s2 u hu) (e _ (by simp) (by simp) (by simp) (by simp) (by simp)) (e _ (by simp) (by simp) (by simp) (by simp) (by simp))
    · rw [e (1, 0, 0) (by simp) (by simp) (by simp) (by simp) (by simp), e (15, 0, 0) (by simp) (by simp) (by simp) (by simp) (by simp), kk 5 (by omega)]
      exact ⟨s3.1, fun i hi => by rw [kk _ (by omega)]; exact s3.2 i hi⟩
    · rw [e (1, 0, 0) (by simp) (by simp) (by simp) (by simp) (by simp), e (16, 0, 0) (by simp) (by simp) (by simp) (by simp) (by simp), kk 6 (by omega)]
      exact ⟨s4.1, fun i hi => by rw [kk _ (by omega)]; exact s4.2 i hi⟩
    · rw [e (1, 0, 0) (by simp) (by simp) (by simp) (by simp) (by simp), kk 4 (by omega)]
      exact s5
  · refine e x ?_ ?_ ?_ ?_ ?_ <;> (rcases hx with hx | hx <;> simp only [zot, zst] at hx <;> omega)
  · rw [k.2]
    by_cases c0 : c = 0
    · subst c0; exact hc.2.2.2.2
    · rw [g.2 c c0]
      exact h.2.2.2.2.2.1 c hcc
  · rw [e28, e (29, 0, 0) (by simp) (by simp) (by simp) (by simp) (by simp), e (30, 0, 0) (by simp) (by simp) (by simp) (by simp) (by simp), kk j (by omega)]
    exact h.2.2.2.2.2.2 j hj
/-- what the counts are -/
theorem zI_cnt {M : za_M} (h : zI M) : ∃ nA nP nL : Nat, nA < 6 ∧ nP < 5 ∧ nL < 11 ∧ M.1 (28, 0, 0) 1 = nI nA ∧ M.1 (28, 0, 0) 2 = nI nP ∧ M.1 (28, 0, 0) 3 = nI nL ∧ M.1 (2, 0, 0) 3 = nI nA ∧ M.1 (2, 0, 0) 4 = nI nP ∧ M.1 (2, 0, 0) 5 = nI nL := by
  obtain ⟨a, ha, ea⟩ := h.1.1.1.1
  obtain ⟨p, hp, ep⟩ := h.1.1.1.2.1
  obtain ⟨l, hl, el⟩ := h.1.1.1.2.2.1
  have c := h.2.2.1.1.1
  exact ⟨a, p, l, ha, hp, hl, ea, ep, el, by rw [c.1, ea], by rw [c.2.1, ep], by rw [c.2.2.1, el]⟩
/-- the class fails; so does the reference -/
theorem zV_ff {x : Int32} (k : Nat) (hx : x = nI k) (h1 : 1 ≤ k) (h5 : k ≤ 5) {y : Int32} (hy : y = (-1000000000) - nI k) {M : za_M} {R : za_M → (Int32 → za_M → Prop) → Prop} {K : Int32 → Int32 → za_M → Prop} (h : zI M) (hK : ∀ v M', zI M' → K v v M') (hR : ∀ (M1 : za_M) (K' : Int32 → za_M → Prop), (∀ x : za_L, x.1 ≠ 24 → M1.1 x = M.1 x) → R M1 K' = f_X10_finding y M1 K') : f_X9_fail x M (fun r1 M1 => R M1 (fun r2 M2 => K r1 r2 M2)) := by
  rw [zf_fail k hx h1 h5, hR _ _ (fun x hx => za_up_oth _ _ _ (fun e => hx (by rw [e]))), zf_find k hy h1 h5, hy]
  exact hK _ _ (zI_err h h5)
theorem zT_told (x1 : Int32) : zV (f_X9_told x1) (f_X10_told x1) := by
  intro M K hI hK
  simp only [f_X9_told, zf_X9_within]
  by_cases q : zw x1 1 5 = 0
  · rw [if_pos q]
    exact zV_ff (R := f_X10_told x1) (y := -1000000001) 1 rfl (by decide) (by decide) rfl hI hK (fun M1 K' _ => by simp only [f_X10_told, zf_X10_within, q, if_true])
  · rw [if_neg q]
    have hx : ∃ k, k < 6 ∧ x1 = nI k := by
      unfold zw at q
      by_cases a : x1 < 1
      · rw [if_pos a] at q; exact absurd rfl q
      · rw [if_neg a] at q
        by_cases b : 5 < x1
        · rw [if_pos b] at q; exact absurd rfl q
        · obtain ⟨k, hk, e⟩ := nI_of2 (M := 5) (n := 5) (by decide) (x := x1) (fun h => a (Int32.lt_trans h (by decide))) (Int32.not_lt.mp b)
          exact ⟨k, by omega, e⟩
    obtain ⟨k, hk, rfl⟩ := hx
    rw [zx_in hk (by decide)]
    simp only [f_X10_told, zf_X10_within]
    rw [if_neg q, zx_in hk (by decide), nI_clamp (by omega), hI.2.2.2.2.1.1 k hk]
    exact hK _ _ hI
theorem zq_turn {x : Int32} (k : Nat) (hx : x = nI k) (hk : k < 279) (v : Int32) (M : za_M) (K : Int32 → za_M → Prop) : f_X10_turn x v M K = K (M.1 (28, 0, 0) k) (za_up M (28, 0, 0) k v) := by
  subst hx
  simp only [f_X10_turn, za_let]
  rw [zx_in hk (by decide), zx_in hk (by decide), nI_clamp (by omega)]
theorem zT_seed (x1 : Int32) : zV (f_X9_seed x1) (f_X10_seed x1) := by
  intro M K hI hK
  simp only [f_X9_seed, f_X10_seed, za_let]
  rw [zq_turn (x := 4) 4 rfl (by decide), za_up_oth _ _ _ (by decide), hI.2.2.1.2.2.2.2]
  refine hK _ _ ?_
  have s := hI.2.2.1
  generalize hM2 : za_up (za_up M (1, 0, 0) 6 x1) (28, 0, 0) 4 x1 = M2
  have e28 : M2.1 (28, 0, 0) = upd (M.1 (28, 0, 0)) 4 x1 := by rw [← hM2, za_up_row, za_up_oth _ _ _ (by decide)]
  have e1 : M2.1 (1, 0, 0) = upd (M.1 (1, 0, 0)) 6 x1 := by rw [← hM2, za_up_oth _ _ _ (by decide), za_up_row]
  have e : ∀ x : za_L, x ≠ (28, 0, 0) → x ≠ (1, 0, 0) → M2.1 x = M.1 x := fun x a b => by rw [← hM2, za_up_oth _ _ _ a, za_up_oth _ _ _ b]
  have p : M2.2 = M.2 := by rw [← hM2]; rfl
  refine zI_now hI (by rw [e28]; exact zN_draw hI.1.1) (by rw [e28]; exact zT_cg hI.1.2 (fun k hk => zu_ne (by omega))) ?_ (fun x hx => e x ?_ ?_) (by rw [e _ (by simp) (by simp)]) (by rw [e _ (by simp) (by simp)]) (by rw [e _ (by simp) (by simp)]) (by rw [p]) (by unfold zj; rw [p, e28, e (29, 0, 0) (by simp) (by simp), e (30, 0, 0) (by simp) (by simp)]; exact ⟨hI.2.2.2.2.2.1, fun j hj => by rw [zu_ne (by omega)]; exact hI.2.2.2.2.2.2 j hj⟩)
  · rw [e28]
    obtain ⟨s1, s2, s3, s4, s5⟩ := s
    have f1 : zTn (upd (M.1 (28, 0, 0)) 4 x1) = zTn (M.1 (28, 0, 0)) := by funext u; unfold zTn; rw [zu_ne (by omega)]
    have f2 : zTf (upd (M.1 (28, 0, 0)) 4 x1) = zTf (M.1 (28, 0, 0)) := by funext u i; unfold zTf; rw [zu_ne (by omega)]
    refine ⟨zc_row hI.1.1 (zc_cg s1 (fun x _ hx => e x (fun q => by rw [q] at hx; simp at hx) (fun q => by rw [q] at hx; simp at hx)) (by rw [p])) (fun k _ h4 _ _ => zu_ne h4), fun u hu => ?_, ?_, ?_, ?_⟩
    · rw [f1, f2]
      exact zlw_cg (s2 u hu) (e _ (by simp) (by simp)) (e _ (by simp) (by simp))
    · rw [e1, zu_ne (show 4 ≠ 6 by decide), zu_ne (show 5 ≠ 4 by decide), e (15, 0, 0) (by simp) (by simp)]
      exact ⟨s3.1, fun i hi => by rw [zu_ne (by omega)]; exact s3.2 i hi⟩
    · rw [e1, zu_ne (show 5 ≠ 6 by decide), zu_ne (show 6 ≠ 4 by decide), e (16, 0, 0) (by simp) (by simp)]
      exact ⟨s4.1, fun i hi => by rw [zu_ne (by omega)]; exact s4.2 i hi⟩
    · rw [e1, zu_eq, zu_eq]
  · rintro rfl
    simp [zot, zst] at hx
  · rintro rfl
    simp [zot, zst] at hx
theorem zT_store (x1 x2 x3 : Int32) : zV (f_X9_store x1 x2 x3) (f_X10_store x1 x2 x3) := by
  intro M K hI hK
  obtain ⟨nA, nP, nL, bA, bP, bL, rA, rP, rL, cA, cP, cL⟩ := zI_cnt hI
  simp only [f_X9_store, zq_cPot, zq_cAsh, zf_X9_within, cA, cP]
  have ff : ∀ (M1 : za_M), (∀ x : za_L, x.1 ≠ 24 → M1.1 x = M.1 x) → M1.1 (28, 0, 0) 1 = nI nA ∧ M1.1 (28, 0, 0) 2 = nI nP := fun M1 h => by rw [h (28, 0, 0) (by decide)]; exact ⟨rA, rP⟩
  rcases zw_cs x1 (n := nP) (by omega) with ⟨p, hp, rfl, q1⟩ | q1
  · rw [q1, if_neg (by decide)]
    rcases zw_cs x2 (n := nA) (by omega) with ⟨a, ha, rfl, q2⟩ | q2
    · rw [q2, if_neg (by decide)]
      by_cases q3 : zw x3 0 999 = 0
      · rw [if_pos q3]
        exact zV_ff (R := f_X10_store (nI p) (nI a) x3) (y := -1000000001) 1 rfl (by decide) (by decide) rfl hI hK (fun M1 K' h => by simp only [f_X10_store, zq_rPot, zq_rAsh, zf_X10_within, (ff M1 h).1, (ff M1 h).2, q1, q2, q3, zl_10, if_true, if_false])
      · rw [if_neg q3, zx_in (by omega) (by decide), zx_in (by omega) (by decide), nI_clamp (by omega), nI_clamp (by omega)]
        have hv : zs x3 1000 := by
          rcases zw_cs x3 (n := 1000) (by omega) with ⟨k, hk, e, _⟩ | e
          · exact ⟨k, hk, e⟩
          · exact absurd e q3
        simp only [za_let]
        rw [zx_in (by omega) (by decide)]
        have o : (za_up M (13, 0, p) a x3).1 (28, 0, 0) = M.1 (28, 0, 0) := za_up_oth _ _ _ (by simp)
        simp only [f_X10_store, zq_rPot, zq_rAsh, zf_X10_within, o, rA, rP, q1, q2, zl_10, if_false]
        rw [if_neg q3, zq_storeAt p a rfl rfl, zq_turn (29 + 7 * p + a) rfl (by omega), o]
        have hp' : p < (M.1 (28, 0, 0) 2).toNatClampNeg := by rw [rP, nI_clamp (by omega)]; exact hp
        have ha' : a < (M.1 (28, 0, 0) 1).toNatClampNeg := by rw [rA, nI_clamp (by omega)]; exact ha
        rw [(hI.2.2.1.1.2.2.1 p hp').2.2 a (by omega)]
        refine hK _ _ (zI_cty (N' := upd (M.1 (28, 0, 0)) (29 + 7 * p + a) x3) hI (zg_up (by omega)) (zk_up (by decide)) (zN_has hI.1.1 (by omega) ha' hv) (by rw [za_up_row, o]) (fun k hk => zu_ne (by omega)) (zc_has hI.1.1 hI.2.2.1.1 hp' (by omega)))
    · rw [q2, if_pos rfl]
      exact zV_ff (R := f_X10_store (nI p) x2 x3) (y := -1000000001) 1 rfl (by decide) (by decide) rfl hI hK (fun M1 K' h => by simp only [f_X10_store, zq_rPot, zq_rAsh, zf_X10_within, (ff M1 h).1, (ff M1 h).2, q1, q2, zl_10, if_true, if_false])
  · rw [q1, if_pos rfl]
    exact zV_ff (R := f_X10_store x1 x2 x3) (y := -1000000001) 1 rfl (by decide) (by decide) rfl hI hK (fun M1 K' h => by simp only [f_X10_store, zq_rPot, zq_rAsh, zf_X10_within, (ff M1 h).1, (ff M1 h).2, q1, zl_10, if_true, if_false])

/-! the reference's day does what 304 says -/
/-- numbers lo .. hi-1 have come five nearer -/
def zgp (N : Nat → Int32) (lo hi : Nat) : Nat → Int32 := fun k => if lo ≤ k ∧ k < hi then N (k + 5) else N k
theorem zgp_0 (N : Nat → Int32) {lo hi : Nat} (h : hi ≤ lo) : zgp N lo hi = N := by
  funext k
  unfold zgp
  rw [if_neg (by omega)]
theorem zgp_s (N : Nat → Int32) {lo hi : Nat} (h : lo ≤ hi) : upd (zgp N lo hi) hi (N (hi + 5)) = zgp N lo (hi + 1) := by
  funext k
  unfold upd zgp
  by_cases q : k = hi
  · subst q
    rw [if_pos rfl, if_pos (by omega)]
  · rw [if_neg q]
    by_cases r : lo ≤ k ∧ k < hi
    · rw [if_pos r, if_pos (by omega)]
    · rw [if_neg r, if_neg (by omega)]
theorem zgp_n (N : Nat → Int32) {lo hi k : Nat} (h : k < lo ∨ hi ≤ k) : zgp N lo hi k = N k := by
  unfold zgp
  rw [if_neg (by omega)]
theorem zgo_gp {N : Nat → Int32} {l n : Nat} (h : N 3 = nI (n + 1)) (hn : n < 10) : upd (zgp N (55 + 5 * l) (55 + 5 * n)) 3 (nI (n + 1) - 1) = zgo N l := by
  funext k
  unfold upd zgp zgo
  rw [h, nI_clamp (by omega)]
  by_cases q : k = 3
  · rw [if_pos q, if_pos q]
  · rw [if_neg q, if_neg q]
    by_cases r : 55 + 5 * l ≤ k ∧ k < 55 + 5 * n
    · rw [if_pos r, if_pos (by omega)]
    · rw [if_neg r, if_neg (by omega)]
abbrev zR : za_L := (28, 0, 0)
theorem zr_goes {l : Nat} {M : za_M} {K : za_M → Prop} (hN : zN (M.1 zR)) (hl : l < (M.1 zR 3).toNatClampNeg) (h : ∀ M', M'.1 zR = zgo (M.1 zR) l → zk [28] M M' → K M') : f_X10_goes (nI l) M K := by
  have h3 := zs_cl hN.1.2.2.1 (by decide)
  generalize hG : M.1 zR = N at hN hl h h3
  obtain ⟨n, hn⟩ : ∃ n, (N 3).toNatClampNeg = n + 1 := ⟨(N 3).toNatClampNeg - 1, by omega⟩
  have e3 : N 3 = nI (n + 1) := by rw [h3.2, hn]
  have hb : n < 10 := by omega
  unfold f_X10_goes
  have key : ∀ (k : Nat) (x : Int32) (M' : za_M), (∃ j, l ≤ j ∧ j + k = n ∧ x = nI j ∧ M'.1 zR = zgp N (55 + 5 * l) (55 + 5 * j) ∧ zk [28] M M') → ∃ q, za_lp1 (f_X10_goes_b2 K) q x M' := by
    refine za_lp1_ind (fun k x M' => ∃ j, l ≤ j ∧ j + k = n ∧ x = nI j ∧ M'.1 zR = zgp N (55 + 5 * l) (55 + 5 * j) ∧ zk [28] M M') ?_ ?_
    · intro x M' ⟨j, j1, j2, e1, e2, e4⟩ L
      subst e1
      have hr : M'.1 (28, 0, 0) 3 = nI (n + 1) := by rw [show M'.1 (28, 0, 0) = zgp N (55 + 5 * l) (55 + 5 * j) from e2, zgp_n N (by omega), e3]
      unfold f_X10_goes_b2
      refine ⟨vp_in_nI (n := 3) (by decide) (by decide), ?_⟩
      rw [show Int32.toNatClampNeg 3 = 3 by decide, hr, nI_1, if_pos (nI_le (by omega) (by omega))]
      refine ⟨vp_in_nI (n := 3) (by decide) (by decide), ?_⟩
      unfold za_let
      refine ⟨vp_in_nI (n := 3) (by decide) (by decide), ?_⟩
      refine h _ ?_ (zk_tr e4 (zk_up (by decide)))
      rw [za_up_row, show M'.1 (28, 0, 0) = _ from e2, show j = n by omega]
      exact zgo_gp e3 hb
    · intro k x M' ⟨j, j1, j2, e1, e2, e4⟩ L hL
      subst e1
      have hr : M'.1 (28, 0, 0) 3 = nI (n + 1) := by rw [show M'.1 (28, 0, 0) = zgp N (55 + 5 * l) (55 + 5 * j) from e2, zgp_n N (by omega), e3]
      unfold f_X10_goes_b2
      refine ⟨vp_in_nI (n := 3) (by decide) (by decide), ?_⟩
      rw [show Int32.toNatClampNeg 3 = 3 by decide, hr, nI_1, if_neg (by rw [nI_leI (by omega) (by omega)]; omega)]
      have key2 : ∀ (k2 : Nat) (x3 : Int32) (M2 : za_M), (∃ f, f + k2 = 5 ∧ x3 = nI f ∧ M2.1 zR = zgp N (55 + 5 * l) (55 + 5 * j + f) ∧ zk [28] M M2) → ∃ q, za_lp1 (f_X10_goes_b16 K L (nI j)) q x3 M2 := by
        refine za_lp1_ind (fun k2 x3 M2 => ∃ f, f + k2 = 5 ∧ x3 = nI f ∧ M2.1 zR = zgp N (55 + 5 * l) (55 + 5 * j + f) ∧ zk [28] M M2) ?_ ?_
        · intro x3 M2 ⟨f, f1, f2, f3, f4⟩ L2
          subst f2
          unfold f_X10_goes_b16
          rw [show f = 5 by omega, if_pos (by decide), nI_1]
          refine hL _ _ ⟨j + 1, by omega, by omega, rfl, ?_, f4⟩
          rw [f3, show 55 + 5 * j + f = 55 + 5 * (j + 1) by omega]
        · intro k2 x3 M2 ⟨f, f1, f2, f3, f4⟩ L2 hL2
          subst f2
          unfold f_X10_goes_b16
          rw [zl_lit 5, if_neg (by rw [nI_leI (by omega) (by omega)]; omega), zq_loanAt j f rfl rfl]
          try dsimp only
          rw [nI_1, zq_loanIs (j + 1) f rfl rfl (by omega)]
          try dsimp only
          refine ⟨vp_in_nI (by omega) (by decide), ?_⟩
          unfold za_let
          rw [nI_clamp (by omega), nI_1]
          refine hL2 _ _ ⟨f + 1, by omega, rfl, ?_, zk_tr f4 (zk_up (by decide))⟩
          rw [za_up_row, show M2.1 (28, 0, 0) = _ from f3, zgp_n N (k := 55 + 5 * (j + 1) + f) (by omega), show 55 + 5 * (j + 1) + f = 55 + 5 * j + f + 5 by omega]
          exact zgp_s N (by omega)
      exact key2 5 _ _ ⟨0, by omega, rfl, e2, e4⟩
  exact key (n - l) _ _ ⟨l, by omega, by omega, rfl, by rw [hG, zgp_0 N (by omega)], zk_rf _ _⟩
theorem zr_can {l : Nat} {M : za_M} {K : Int32 → za_M → Prop} (hN : zN (M.1 zR)) (hl : l < (M.1 zR 3).toNatClampNeg) (h : K (if M.1 zR (zto (M.1 zR) l) < M.1 zR (58 + 5 * l) then 0 else 1) M) : f_X10_canGiveBack (nI l) M K := by
  obtain ⟨fr, to, ash, many, e1, e2, e3, e4, b1, b2, b3, b4, b5, b6, b7, b8⟩ := zN_loan hN hl
  unfold f_X10_canGiveBack
  rw [zq_loanIs (y := 1) l 1 rfl rfl (by omega)]
  try dsimp only
  rw [zq_loanIs (y := 2) l 2 rfl rfl (by omega)]
  try dsimp only
  rw [show 55 + 5 * l + 1 = 56 + 5 * l by omega, show 55 + 5 * l + 2 = 57 + 5 * l by omega, zq_storeAt to ash e2 e3]
  try dsimp only
  refine ⟨vp_in_nI (by omega) (by decide), ?_⟩
  rw [zq_loanIs (y := 3) l 3 rfl rfl (by omega)]
  try dsimp only
  rw [nI_clamp (by omega), show 55 + 5 * l + 3 = 58 + 5 * l by omega]
  have et : zto (M.1 zR) l = 29 + 7 * to + ash := by unfold zto; rw [e2, e3, nI_clamp (by omega), nI_clamp (by omega)]
  rw [et] at h
  by_cases q : M.1 (28, 0, 0) (29 + 7 * to + ash) < M.1 (28, 0, 0) (58 + 5 * l)
  · rw [if_pos q] at h ⊢
    exact h
  · rw [if_neg q] at h ⊢
    exact h
theorem zr_gives {l : Nat} {M : za_M} {K : Int32 → za_M → Prop} (hN : zN (M.1 zR)) (hT : zT (M.1 zR)) (hl : l < (M.1 zR 3).toNatClampNeg) (hc : ¬ M.1 zR (zto (M.1 zR) l) < M.1 zR (58 + 5 * l)) (h : ∀ M', M'.1 zR = zgiv (M.1 zR) l → zk [28, 34, 35] M M' → K (zbk (M.1 zR) l) M') : f_X10_givesBack (nI l) M K := by
  obtain ⟨fr, to, ash, many, e1, e2, e3, e4, b1, b2, b3, b4, b5, b6, b7, b8⟩ := zN_loan hN hl
  have hg := zgiv0_K hN hl hc
  have et : zto (M.1 zR) l = 29 + 7 * to + ash := by unfold zto; rw [e2, e3, nI_clamp (by omega), nI_clamp (by omega)]
  have ef : zfr (M.1 zR) l = 29 + 7 * fr + ash := by unfold zfr; rw [e1, e3, nI_clamp (by omega), nI_clamp (by omega)]
  have eb : zbk (M.1 zR) l = zgN (M.1 zR) 1 (nI many) (M.1 zR (8 + 4 * ash)) (M.1 zR 0) := by unfold zbk; rw [e3, e4, nI_clamp (by omega)]
  generalize hG : M.1 zR = N at *
  have hG' : M.1 (28, 0, 0) = N := hG
  unfold f_X10_givesBack
  rw [zq_loanIs (y := 2) l 2 rfl rfl (by omega)]
  try dsimp only
  rw [zq_loanIs (y := 3) l 3 rfl rfl (by omega)]
  try dsimp only
  rw [hG', show 55 + 5 * l + 2 = 57 + 5 * l by omega, show 55 + 5 * l + 3 = 58 + 5 * l by omega, zq_ashIs (y := 1) ash 1 e3 rfl (by omega)]
  try dsimp only
  refine ⟨vp_in_nI (n := 0) (by decide) (by decide), ?_⟩
  rw [show Int32.toNatClampNeg 0 = 0 by decide, hG', show 7 + 4 * ash + 1 = 8 + 4 * ash by omega, e4, e3]
  refine zr_given (u := 1) (by decide) (by rw [hG']; exact hT 1 (by decide)) (fun M1 hk1 => ?_)
  have hb : zhd (zgv 1 (zTn N 1) (zTf N 1) (nI many) (N (8 + 4 * ash)) (N 0)) 99 = zbk N l := eb.symm
  rw [hb]
  have h1 : M1.1 (28, 0, 0) = N := (hk1.1 _ (by decide)).trans hG'
  rw [zq_loanIs (y := 0) l 0 rfl rfl (by omega)]
  try dsimp only
  rw [h1, show 55 + 5 * l + 0 = 55 + 5 * l by omega, zq_storeAt fr ash e1 rfl]
  try dsimp only
  rw [zq_loanIs (y := 1) l 1 rfl rfl (by omega)]
  try dsimp only
  rw [h1, show 55 + 5 * l + 1 = 56 + 5 * l by omega, zq_storeAt to ash e2 rfl]
  try dsimp only
  refine ⟨vp_in_nI (by omega) (by decide), ?_⟩
  unfold za_let
  refine ⟨vp_in_nI (by omega) (by decide), vp_in_nI (by omega) (by decide), vp_in_nI (by omega) (by decide), ?_⟩
  rw [nI_clamp (by omega), nI_clamp (by omega), h1]
  generalize hM2 : za_up (za_up M1 (28, 0, 0) (29 + 7 * to + ash) (N (29 + 7 * to + ash) - nI many)) (28, 0, 0) (29 + 7 * fr + ash) (za_min 999 ((za_up M1 (28, 0, 0) (29 + 7 * to + ash) (N (29 + 7 * to + ash) - nI many)).1 (28, 0, 0) (29 + 7 * fr + ash) + zbk N l)) = M2
  have e9 : M2.1 zR = zgiv0 N l := by
    rw [← hM2, za_up_row, za_up_row, h1, zu_ne (show 29 + 7 * fr + ash ≠ 29 + 7 * to + ash by omega)]
    unfold zgiv0
    rw [et, ef, e4]
  have hk2 : zk [28, 34, 35] M M2 := by
    rw [← hM2]
    exact zk_tr (zk_mo hk1 (by decide)) (zk_tr (zk_up (by decide)) (zk_up (by decide)))
  refine zr_goes (by rw [e9]; exact hg.1.1) (by rw [e9, hg.2.1 3 (by omega)]; exact hl) (fun M3 q1 q2 => ?_)
  exact h M3 (by rw [q1, e9]; rfl) (zk_tr hk2 (zk_mo q2 (by decide)))
theorem zr_breaks {l : Nat} {M : za_M} {K : za_M → Prop} (hN : zN (M.1 zR)) (hl : l < (M.1 zR 3).toNatClampNeg) (h : ∀ M', M'.1 zR = zbrk (M.1 zR) l → zk [28, 34, 35] M M' → K M') : f_X10_breaksOne (nI l) M K := by
  obtain ⟨fr, to, ash, many, e1, e2, e3, e4, b1, b2, b3, b4, b5, b6, b7, b8⟩ := zN_loan hN hl
  have hg := zbr0_K hN hl
  generalize hG : M.1 zR = N at *
  have hG' : M.1 (28, 0, 0) = N := hG
  unfold f_X10_breaksOne
  rw [zq_loanIs (y := 1) l 1 rfl rfl (by omega)]
  try dsimp only
  rw [hG', show 55 + 5 * l + 1 = 56 + 5 * l by omega, zq_potterAt (y := 1) to 1 e2 rfl]
  try dsimp only
  refine ⟨vp_in_nI (by omega) (by decide), ?_⟩
  unfold za_let
  refine ⟨vp_in_nI (by omega) (by decide), ?_⟩
  rw [nI_clamp (by omega), hG', show 27 + 7 * to + 1 = 28 + 7 * to by omega]
  have e9 : (za_up M (28, 0, 0) (28 + 7 * to) (za_min 99 (N (28 + 7 * to) + 1))).1 zR = zbr0 N l := by
    rw [za_up_row, hG']
    unfold zbr0
    rw [e2, nI_clamp (by omega)]
  refine zr_goes (by rw [e9]; exact hg.1.1) (by rw [e9, hg.2.1 3 (by omega)]; exact hl) (fun M3 q1 q2 => ?_)
  exact h M3 (by rw [q1, e9]; rfl) (zk_tr (zk_up (by decide)) (zk_mo q2 (by decide)))

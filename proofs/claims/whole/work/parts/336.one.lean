/-! the reference's reader: one, and the whole text -/
section ZX3
variable {T : Nat → Nat} {n u : Nat} {M0 : za_M}
theorem za_t1_ne : ∀ u, u < 2 → za_t1 (3 * u) ≠ za_t1 (3 * u + 1) ∧ za_t1 (3 * u) ≠ za_t1 (3 * u + 2) ∧ za_t1 (3 * u + 1) ≠ za_t1 (3 * u + 2) := by decide
theorem za_nmo_e {u : Nat} (hu : u < 2) (c : Int32) : za_nmo u c = if znam u c < 3 then nI (znam u c) else -1 := by
  obtain ⟨n1, n2, n3⟩ := za_t1_ne u hu
  by_cases q0 : za_t1 (3 * u) = c
  · have e : znam u c = 0 := if_pos q0
    rw [e, if_pos (by decide)]
    unfold za_nmo
    rw [if_neg (fun z => n2 (q0.trans z.symm)), if_neg (fun z => n1 (q0.trans z.symm)), if_pos q0]
    rfl
  · by_cases q1 : za_t1 (3 * u + 1) = c
    · have e : znam u c = 1 := by unfold znam; rw [if_neg q0, if_pos q1]
      rw [e, if_pos (by decide)]
      unfold za_nmo
      rw [if_neg (fun z => n3 (q1.trans z.symm)), if_pos q1]
      rfl
    · by_cases q2 : za_t1 (3 * u + 2) = c
      · have e : znam u c = 2 := by unfold znam; rw [if_neg q0, if_neg q1, if_pos q2]
        rw [e, if_pos (by decide)]
        unfold za_nmo
        rw [if_pos q2]
        rfl
      · have e : znam u c = 3 := by unfold znam; rw [if_neg q0, if_neg q1, if_neg q2]
        rw [e, if_neg (by decide)]
        unfold za_nmo
        rw [if_neg q2, if_neg q1, if_neg q0]
theorem zx_oneD {w : Nat} : zxD M0 (f_X10_one (w + 1)) := by
  intro a M K hX hK
  show fb_X10_one (f_X10_either w) (f_X10_both w) (f_X10_compared w) (f_X10_sum w) (f_X10_product w) (f_X10_one w) M K
  unfold fb_X10_one
  rw [zx_hereX hX, if_neg (by decide), if_neg (by decide), zf_X10_within, show zw (-1) 48 57 = 0 by decide, if_pos rfl, if_neg (by decide)]
  unfold f_X10_one_b200 f_X10_one_b213 f_X10_one_b218
  rw [if_neg (by rw [hX.2.1]; decide)]
  simp only [za_let, za_B1, true_and]
  have h1 := zxX_w1 hX.1 hX.2.2
  rw [if_neg (by rw [h1.2.1]; decide)]
  exact hK _ h1
theorem zx_num (h0 : zx0 T n u M0) {o : Nat} {s : zSt} {M : za_M} {K : za_M → Prop} {r1 r2 r3 r4 r5 r6 : za_M → (za_M → Prop) → Prop} (hs : s.1 ≤ n) (hl : s.2.length < 60) (h : zxC M0 o s M) (k : ∀ M', zxC M0 o ((zdgs T n 4 0 s.1).2, s.2 ++ [(zdgs T n 4 0 s.1).1]) M' → K M') : ∃ q, za_lp2 (f_X10_one_b131 r1 r2 r3 r4 r5 r6 K) q 0 0 M := by
  have hT : ∀ i, i < n → T i < 256 := fun i hi => (h0.2.2.2.2 i hi).1
  have h50 := h0.2.2.1
  refine za_lp2_ind (fun j x1 x2 M => ∃ v a, j ≤ 4 ∧ x2 = nI (4 - j) ∧ x1 = nI v ∧ v < 10 ^ (4 - j) ∧ a ≤ n ∧ zxC M0 o (a, s.2) M ∧ ∀ M', zxC M0 o ((zdgs T n j v a).2, s.2 ++ [(zdgs T n j v a).1]) M' → K M') ?_ ?_ 4 0 0 M ⟨0, s.1, by omega, rfl, rfl, by decide, hs, h, k⟩
  · intro x1 x2 M1 ⟨v, a, e1, e2, e3, e4, e5, e6, e7⟩ L
    subst e2; subst e3
    unfold f_X10_one_b131 f_X10_one_b179
    rw [if_pos (by decide)]
    exact zx_cod (c := v) e6 hl rfl e7
  · intro j x1 x2 M1 ⟨v, a, e1, e2, e3, e4, e5, e6, e7⟩ L hL
    subst e2; subst e3
    unfold f_X10_one_b131 f_X10_one_b179
    rw [zl_lit 4, if_neg (by rw [nI_leI (by omega) (by omega)]; omega), zx_here h0 e6 e5, zf_X10_within]
    unfold zdgs at e7
    by_cases q : zw (zny T n a) 48 57 = 1
    · rw [if_pos q] at e7
      rw [q, if_neg (by decide), zx_here h0 e6 e5]
      obtain ⟨q1, q2, q3⟩ := zw_dig hT q
      have hp : 10 ^ (4 - j) = 10 * 10 ^ (4 - (j + 1)) := by rw [show 4 - j = (4 - (j + 1)) + 1 by omega, Nat.pow_succ, Nat.mul_comm]
      have ev : zny T n a = nI (T a) := if_pos q1
      simp only [za_let]
      rw [ev, zl_lit 10, pk_mul, nI_add, zl_lit 48, pk_sub (by omega), nI_1, show 4 - (j + 1) + 1 = 4 - j by omega, e6.2.2.1, nI_1]
      exact hL _ _ _ ⟨10 * v + T a - 48, a + 1, by omega, rfl, rfl, by rw [hp]; omega, by omega, zxC_st (s := (a, s.2)) e6 rfl, e7⟩
    · have q0 : zw (zny T n a) 48 57 = 0 := by
        rcases zw_B (zny T n a) 48 57 with z | z
        · exact z
        · exact absurd z q
      rw [if_neg q] at e7
      rw [q0, if_pos rfl]
      exact zx_cod (c := v) e6 hl rfl e7
theorem zx_base (h0 : zx0 T n u M0) {o : Nat} {r1 r2 r3 r4 r5 r6 : za_M → (za_M → Prop) → Prop} {s : zSt} {M : za_M} {K : za_M → Prop} (s1 : s.1 ≤ n) (s2 : s.2.length ≤ s.1) (hC : zxC M0 o s M) (hK : zxK M0 o (zpb T n u s) K) (h33 : zny T n s.1 = 33 → o = 5) (h40 : zny T n s.1 = 40 → o = 5) : fb_X10_one r1 r2 r3 r4 r5 r6 M K := by
  have hT : ∀ i, i < n → T i < 256 := fun i hi => (h0.2.2.2.2 i hi).1
  have h50 := h0.2.2.1
  have hu := h0.2.2.2.1
  have n33 : znam u 33 = 3 := by
    have hc : u = 0 ∨ u = 1 := by omega
    rcases hc with rfl | rfl <;> decide
  have n40 : znam u 40 = 3 := by
    have hc : u = 0 ∨ u = 1 := by omega
    rcases hc with rfl | rfl <;> decide
  unfold fb_X10_one
  rw [zx_here h0 hC s1]
  have wr : ∀ c, o = 5 → (∀ M', zxX M0 s.1 M' → K M') → f_X10_one_b17 r1 r2 r3 r4 r5 r6 K c M := by
    intro c ho hk
    unfold f_X10_one_b17 f_X10_one_b31
    rw [if_pos (by rw [hC.2.2.2.1, ho]; rfl)]
    simp only [za_let, za_B1, true_and]
    have h1 := zxX_w1 hC.1 hC.2.2.1
    rw [if_neg (by rw [h1.2.1]; decide)]
    exact hk _ h1
  by_cases q33 : zny T n s.1 = 33
  · rw [if_pos q33]
    refine wr _ (h33 q33) ?_
    unfold zpb at hK
    rw [q33, if_neg (by decide), n33, if_neg (by decide)] at hK
    exact hK.2 rfl
  rw [if_neg q33]
  by_cases q40 : zny T n s.1 = 40
  · rw [if_pos q40]
    refine wr _ (h40 q40) ?_
    unfold zpb at hK
    rw [q40, if_neg (by decide), n40, if_neg (by decide)] at hK
    exact hK.2 rfl
  rw [if_neg q40, zf_X10_within]
  unfold zpb at hK
  by_cases q : zw (zny T n s.1) 48 57 = 1
  · rw [if_pos q] at hK
    obtain ⟨q1, q2, q3⟩ := zw_dig hT q
    rw [q, if_neg (by decide)]
    exact zx_num h0 s1 (by omega) hC (hK.1 rfl)
  · have q0 : zw (zny T n s.1) 48 57 = 0 := by
      rcases zw_B (zny T n s.1) 48 57 with z | z
      · exact z
      · exact absurd z q
    rw [if_neg q] at hK
    rw [q0, if_pos rfl]
    have fail : ∀ v, ¬ (0 : Int32) ≤ v → (∀ M', zxX M0 s.1 M' → K M') → f_X10_one_b200 r1 r2 r3 r4 r5 r6 K v M := by
      intro v hv hk
      unfold f_X10_one_b200 f_X10_one_b213 f_X10_one_b218
      rw [if_pos hC.2.1, if_neg hv]
      simp only [za_let, za_B1, true_and]
      have h1 := zxX_w1 hC.1 hC.2.2.1
      rw [if_neg (by rw [h1.2.1]; decide)]
      exact hk _ h1
    by_cases ha : s.1 < n
    · have ev : zny T n s.1 = nI (T s.1) := if_pos ha
      have hb := hT _ ha
      rw [if_pos (by rw [ev]; exact nI_pos' (by omega))]
      refine ⟨by rw [hC.1.2.1 8 (by decide) (by decide) (by decide) (by decide), h0.2.1]; exact vp_in_nI hu (by decide), ?_⟩
      rw [hC.1.2.1 8 (by decide) (by decide) (by decide) (by decide), h0.2.1, nI_clamp (by omega), za_nmo_e hu]
      by_cases z : znam u (zny T n s.1) < 3
      · rw [if_pos z] at hK ⊢
        unfold f_X10_one_b200 f_X10_one_b213 f_X10_one_b218
        rw [if_pos hC.2.1, if_pos (nI_pos' (by omega))]
        simp only [za_let, za_B0, true_and]
        have h1 := zxC_w0 hC
        rw [if_pos h1.2.1]
        refine zx_cod (c := 10000 + znam u (zny T n s.1)) h1 (by omega) (by rw [zl_lit 10000, nI_add]) (fun M2 h2 => ?_)
        exact hK.1 rfl _ (zxC_st (s := (s.1, s.2 ++ [10000 + znam u (zny T n s.1)])) h2 (by rw [h2.2.2.1, nI_1]))
      · rw [if_neg z] at hK ⊢
        exact fail _ (by decide) (hK.2 rfl)
    · have ev : zny T n s.1 = -1 := if_neg ha
      rw [ev] at hK ⊢
      rw [if_neg (by decide)]
      rw [znam_m1 hu, if_neg (by decide)] at hK
      exact fail _ (by decide) (hK.2 rfl)
theorem zx_one (h0 : zx0 T n u M0) : ∀ (e : Nat), e ≤ 5 → ∀ d : Nat, zxS n M0 (5 - e) (zpt T n u e) (f_X10_one (d + 1 + 6 * e)) := by
  have hT : ∀ i, i < n → T i < 256 := fun i hi => (h0.2.2.2.2 i hi).1
  have h50 := h0.2.2.1
  have hu := h0.2.2.2.1
  intro e
  induction e with
  | zero =>
    intro _ d s M K s1 s2 hC hK
    exact zx_base h0 s1 s2 hC hK (fun _ => rfl) (fun _ => rfl)
  | succ e ih =>
    intro he d s M K s1 s2 hC hK
    have hgP := zgF_pt (T := T) (n := n) hu hT e
    unfold zpt at hK
    obtain ⟨w0, hw0⟩ : ∃ w0, w0 = d + 6 * (e + 1) := ⟨_, rfl⟩
    rw [show d + 1 + 6 * (e + 1) = w0 + 1 by omega]
    show fb_X10_one (f_X10_either w0) (f_X10_both w0) (f_X10_compared w0) (f_X10_sum w0) (f_X10_product w0) (f_X10_one w0) M K
    by_cases q : zny T n s.1 = 33
    · rw [if_pos q] at hK
      have ha : s.1 < n := zny_ne (fun z => by rw [z] at q; exact absurd q (by decide))
      unfold fb_X10_one f_X10_one_b17 f_X10_one_b31 f_X10_one_b103
      rw [zx_here h0 hC s1, q, if_pos rfl, if_neg (by rw [hC.2.2.2.1]; exact fun z => by have := (nI_eq (a := 5 - (e + 1)) (b := 5) (by omega) (by omega)).mp z; omega)]
      simp only [za_let, za_B0, true_and]
      have c1 := zxC_w0 hC
      have c2 := zxC_op (q := 5 - e) c1 (v := (za_up M (27, 0, 0) 9 0).1 (27, 0, 0) 7 + 1) (by rw [c1.2.2.2.1, nI_1, show 5 - (e + 1) + 1 = 5 - e by omega])
      have c3 := zxC_st c2 (a := s.1 + 1) (v := (za_up (za_up M (27, 0, 0) 9 0) (27, 0, 0) 7 ((za_up M (27, 0, 0) 9 0).1 (27, 0, 0) 7 + 1)).1 (27, 0, 0) 6 + 1) (by rw [c2.2.2.1, nI_1])
      rw [if_pos c1.2.1, if_pos trivial]
      obtain ⟨g1, g2, g3⟩ := hgP (s.1 + 1, s.2) ha
      have r2 := ih (by omega) (d + 5)
      rw [show d + 5 + 1 + 6 * e = w0 by omega] at r2
      refine r2 (s.1 + 1, s.2) _ _ ha (Nat.le_succ_of_le s2) c3 ⟨fun z M1 hM => ?_, fun z M1 hM => ?_⟩
      · rw [if_pos z] at hK
        obtain ⟨g4, g, g5, g6, _⟩ := g3 z
        have g5 : (zpt T n u e (s.1 + 1, s.2)).2.2 = s.2 ++ g := g5
        have g6 : g.length + (s.1 + 1) ≤ (zpt T n u e (s.1 + 1, s.2)).2.1 := g6
        have gl : (zpt T n u e (s.1 + 1, s.2)).2.2.length = s.2.length + g.length := by rw [g5, List.length_append]
        refine zx_cod (c := 20010) hM (by omega) rfl (fun M2 hM2 => ?_)
        exact hK.1 rfl _ (zxC_op hM2 (by rw [hM2.2.2.2.1, zl_s1 (by omega), show 5 - e - 1 = 5 - (e + 1) by omega]))
      · rw [if_neg (by rw [z]; decide)] at hK
        exact zx_codX hM (hK.2 rfl _ (zxX_up hM (Or.inl rfl)))
    · rw [if_neg q] at hK
      by_cases q2 : zny T n s.1 = 40
      · rw [if_pos q2] at hK
        have ha : s.1 < n := zny_ne (fun z => by rw [z] at q2; exact absurd q2 (by decide))
        unfold fb_X10_one f_X10_one_b17 f_X10_one_b31 f_X10_one_b100 f_X10_one_b103
        rw [zx_here h0 hC s1, q2, if_neg (by decide), if_pos rfl, if_neg (by rw [hC.2.2.2.1]; exact fun z => by have := (nI_eq (a := 5 - (e + 1)) (b := 5) (by omega) (by omega)).mp z; omega)]
        simp only [za_let, za_B0, za_B1, true_and]
        have c1 := zxC_w0 hC
        have c2 := zxC_op (q := 5 - e) c1 (v := (za_up M (27, 0, 0) 9 0).1 (27, 0, 0) 7 + 1) (by rw [c1.2.2.2.1, nI_1, show 5 - (e + 1) + 1 = 5 - e by omega])
        have c3 := zxC_st c2 (a := s.1 + 1) (v := (za_up (za_up M (27, 0, 0) 9 0) (27, 0, 0) 7 ((za_up M (27, 0, 0) 9 0).1 (27, 0, 0) 7 + 1)).1 (27, 0, 0) 6 + 1) (by rw [c2.2.2.1, nI_1])
        rw [if_pos c1.2.1, if_neg (by decide)]
        obtain ⟨g1, g2, g3⟩ := zgF_lv (T := T) hgP 5 (s.1 + 1, s.2) ha
        have zd : zxD M0 (f_X10_one (d + 1 + 6 * e)) := by
          rw [show d + 1 + 6 * e = (d + 6 * e) + 1 by omega]
          exact zx_oneD
        have lv := (zx_levs h0 hgP (ih (by omega) d) zd).1
        rw [show d + 1 + 6 * e + 5 = w0 by omega] at lv
        refine lv (s.1 + 1, s.2) _ _ ha (Nat.le_succ_of_le s2) c3 ⟨fun z M1 hM => ?_, fun z M1 hM => ?_⟩
        · by_cases w : zny T n (zlv T n (zpt T n u e) 5 (s.1 + 1, s.2)).2.1 = 41
          · rw [if_pos ⟨z, w⟩] at hK
            refine zx_takY h0 hM g1 w (fun M2 hM2 => ?_)
            rw [if_neg (by decide)]
            have c4 := zxC_w0 hM2
            exact hK.1 rfl _ (zxC_op c4 (by rw [c4.2.2.2.1, zl_s1 (by omega), show 5 - e - 1 = 5 - (e + 1) by omega]))
          · rw [if_neg (fun y => w y.2)] at hK
            refine zx_takN h0 hM g1 w (fun M2 hM2 => ?_)
            rw [if_pos rfl]
            have c4 := zxX_w1 hM2.1 hM2.2.2.1
            exact hK.2 rfl _ (zxX_up c4 (Or.inl rfl))
        · rw [if_neg (fun y => by rw [z] at y; exact absurd y.1 (by decide))] at hK
          refine zx_takX hM (by decide) (fun M2 hM2 => ?_)
          rw [if_pos rfl]
          have c4 := zxX_w1 hM2.1 hM2.2.2
          exact hK.2 rfl _ (zxX_up c4 (Or.inl rfl))
      · rw [if_neg q2] at hK
        exact zx_base h0 s1 s2 hC hK (fun z => absurd z q) (fun z => absurd z q2)
theorem zx_all (h0 : zx0 T n u M0) {M : za_M} {K : za_M → Prop} (hC : zxC M0 0 (0, []) M) (hK : zxK M0 0 (zlv T n (zpt T n u 5) 5 (0, [])) K) : f_X10_either 100 M K := by
  have hT : ∀ i, i < n → T i < 256 := fun i hi => (h0.2.2.2.2 i hi).1
  have lv := (zx_levs h0 (zgF_pt h0.2.2.2.1 hT 5) (zx_one h0 5 (by decide) 64) (zx_oneD (w := 94))).1
  exact lv (0, []) M K (Nat.zero_le _) (Nat.zero_le _) hC hK
end ZX3

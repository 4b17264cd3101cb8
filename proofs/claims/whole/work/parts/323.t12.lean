/-! single calls, eleven: sheets -/
def zsq (M : za_M) (q : Nat) : Prop := M.1 (9, 0, q) 1 = M.1 (37, 0, 0) q ∧ M.1 (9, 0, q) 2 = M.1 (38, 0, 0) q ∧ zs (M.1 (9, 0, q) 2) 41 ∧ ∀ i, i < (M.1 (9, 0, q) 2).toNatClampNeg → M.1 (23, 0, q) i = M.1 (39, 0, 0) (40 * q + i)
theorem zI_sh {M M' : za_M} (h : zI M) (e : ∀ x : za_L, x.1 ≠ 9 → x.1 ≠ 23 → x.1 ≠ 37 → x.1 ≠ 38 → x.1 ≠ 39 → x.1 ≠ 40 → M'.1 x = M.1 x) (p : M'.2 = M.2) (s : ∀ q, q < 4 → zsq M' q) : zI M' := by
  obtain ⟨h1, h2, h3, h4, h5, h6⟩ := h
  have o : ∀ k c i, k ≠ 9 → k ≠ 23 → k ≠ 37 → k ≠ 38 → k ≠ 39 → k ≠ 40 → M'.1 (k, c, i) = M.1 (k, c, i) := fun k c i => e (k, c, i)
  have os : ∀ c x, zst c x → M'.1 x = M.1 x := fun c x hx => e x (by have := hx.2; omega) (by have := hx.2; omega) (by have := hx.2; omega) (by have := hx.2; omega) (by have := hx.2; omega) (by have := hx.2; omega)
  unfold zI
  rw [o 28 0 0 (by decide) (by decide) (by decide) (by decide) (by decide) (by decide), o 29 0 0 (by decide) (by decide) (by decide) (by decide) (by decide) (by decide), o 0 0 0 (by decide) (by decide) (by decide) (by decide) (by decide) (by decide)]
  refine ⟨h1, h2, zS_cg h3 (os 0) (by rw [p]), h4.imp (fun q => ⟨q.1, fun u hu => by rw [os 1 (6, 1, u) ⟨rfl, by simp⟩]; exact q.2 u hu⟩) (fun q => zS_cg q (os 1) (by rw [p])), ?_, by unfold zj; rw [p, o 28 0 0 (by decide) (by decide) (by decide) (by decide) (by decide) (by decide), o 29 0 0 (by decide) (by decide) (by decide) (by decide) (by decide) (by decide), o 30 0 0 (by decide) (by decide) (by decide) (by decide) (by decide) (by decide)]; exact h6⟩
  obtain ⟨a1, a2, a3, a4⟩ := h5
  refine ⟨?_, ?_, ?_, s⟩
  · rw [o 24 0 0 (by decide) (by decide) (by decide) (by decide) (by decide) (by decide), o 31 0 0 (by decide) (by decide) (by decide) (by decide) (by decide) (by decide)]
    exact a1
  · rw [o 0 0 0 (by decide) (by decide) (by decide) (by decide) (by decide) (by decide), o 27 0 0 (by decide) (by decide) (by decide) (by decide) (by decide) (by decide)]
    exact a2
  · rw [o 8 0 0 (by decide) (by decide) (by decide) (by decide) (by decide) (by decide), o 27 0 0 (by decide) (by decide) (by decide) (by decide) (by decide) (by decide), o 21 0 0 (by decide) (by decide) (by decide) (by decide) (by decide) (by decide), o 36 0 0 (by decide) (by decide) (by decide) (by decide) (by decide) (by decide)]
    exact a3
theorem zq_cSh (x : Int32) (M : za_M) (K : Int32 → za_M → Prop) : f_X9_isSheet x M K = K (zw x 0 3) M := by
  unfold f_X9_isSheet
  rw [zf_X9_within, eq_true (zw_B _ _ _), true_and]
theorem zq_rSh (x : Int32) (M : za_M) (K : Int32 → za_M → Prop) : f_X10_isSheet x M K = K (zw x 0 3) M := by
  unfold f_X10_isSheet
  rw [zf_X10_within, eq_true (zw_B _ _ _), true_and]
theorem zq_cMis (q : Nat) (M : za_M) (K : Int32 → za_M → Prop) : f_X6_isMissing q M K = K (if M.1 (9, 0, q) 1 = 0 then 1 else 0) M := by
  unfold f_X6_isMissing
  by_cases z : M.1 (9, 0, q) 1 = 0
  · rw [if_pos z, if_pos z]
  · rw [if_neg z, if_neg z]
def zwd (x : Int32) : Int32 := if x = 0 ∨ x = 8 ∨ x = 16 ∨ x = 32 then 1 else 0
theorem zq_cSheet (x1 x2 x3 : Int32) (M : za_M) (K : Int32 → za_M → Prop) : f_X9_sheet x1 x2 x3 M K = f_X9_sheet_b27 K x1 x2 x3 (zwd x2) M := by
  unfold f_X9_sheet f_X9_sheet_b22 zwd
  by_cases a : x2 = 0
  · rw [if_pos a, if_pos (Or.inl a)]
  rw [if_neg a]
  by_cases b : x2 = 8
  · rw [if_pos b, if_pos (Or.inr (Or.inl b))]
  rw [if_neg b]
  by_cases c : x2 = 16
  · rw [if_pos c, if_pos (Or.inr (Or.inr (Or.inl c)))]
  rw [if_neg c]
  by_cases d : x2 = 32
  · rw [if_pos d, if_pos (Or.inr (Or.inr (Or.inr d)))]
  · rw [if_neg d, if_neg (show ¬ (x2 = 0 ∨ x2 = 8 ∨ x2 = 16 ∨ x2 = 32) from fun q => by rcases q with q | q | q | q
                                                                                        · exact a q
                                                                                        · exact b q
                                                                                        · exact c q
                                                                                        · exact d q)]
theorem zq_rSheet (x1 x2 x3 : Int32) (M : za_M) (K : Int32 → za_M → Prop) : f_X10_sheet x1 x2 x3 M K = (if zw x1 0 3 = 0 then f_X10_finding (-1000000001) M (fun r24 M23 => K r24 M23) else if zwd x2 = 0 then f_X10_finding (-1000000001) M (fun r24 M23 => K r24 M23) else f_X10_sheet_b36 K x1 x2 x3 M) := by
  unfold f_X10_sheet zwd
  rw [zq_rSh]
  by_cases z : zw x1 0 3 = 0
  · rw [if_pos z, if_pos z]
  rw [if_neg z, if_neg z]
  by_cases a : x2 = 0
  · rw [if_pos a, if_pos (Or.inl a), if_neg (by decide)]
  rw [if_neg a]
  by_cases b : x2 = 8
  · rw [if_pos b, if_pos (Or.inr (Or.inl b)), if_neg (by decide)]
  rw [if_neg b]
  by_cases c : x2 = 16
  · rw [if_pos c, if_pos (Or.inr (Or.inr (Or.inl c))), if_neg (by decide)]
  rw [if_neg c]
  by_cases d : x2 = 32
  · rw [if_pos d, if_pos (Or.inr (Or.inr (Or.inr d))), if_neg (by decide)]
  · rw [if_neg d, if_neg (show ¬ (x2 = 0 ∨ x2 = 8 ∨ x2 = 16 ∨ x2 = 32) from fun q => by rcases q with q | q | q | q
                                                                                        · exact a q
                                                                                        · exact b q
                                                                                        · exact c q
                                                                                        · exact d q), if_pos rfl]
theorem zc_begS {q n : Nat} {w : Int32} (hn : n ≤ 40) {M : za_M} {K : za_M → Prop} (k : ∀ M' : za_M, M'.1 (9, 0, q) 1 = w → M'.1 (9, 0, q) 2 = nI n → (∀ j, j < n → M'.1 (23, 0, q) j = 0) → (∀ x, x ≠ (9, 0, q) → x ≠ (23, 0, q) → M'.1 x = M.1 x) → M'.2 = M.2 → K M') : f_X6_begin q w (nI n) M K := by
  unfold f_X6_begin
  rw [za_letE, zf_X9_held, zl_lit 40, zhd_nI (by omega) (by omega), za_letE, Nat.min_eq_right hn]
  generalize hM0 : za_up (za_up M (9, 0, q) 1 w) (9, 0, q) 2 (nI n) = M0
  have r1 : M0.1 (9, 0, q) 1 = w := by rw [← hM0, za_up_row, zu_ne (by decide), za_up_row, zu_eq]
  have r2 : M0.1 (9, 0, q) 2 = nI n := by rw [← hM0, za_up_row, zu_eq]
  have ro : ∀ x, x ≠ (9, 0, q) → M0.1 x = M.1 x := fun x hx => by rw [← hM0, za_up_oth _ _ _ hx, za_up_oth _ _ _ hx]
  refine za_lp1_ind (fun s x M' => ∃ i, x = nI i ∧ i + s = n ∧ (∀ j, j < i → M'.1 (23, 0, q) j = 0) ∧ (∀ x, x ≠ (23, 0, q) → M'.1 x = M0.1 x) ∧ M'.2 = M.2) ?_ ?_ n 0 M0 ⟨0, rfl, by omega, fun j hj => by omega, fun _ _ => rfl, by rw [← hM0]; rfl⟩
  · intro x M' ⟨i, a1, a2, a3, a4, a5⟩ L
    subst a1
    unfold f_X6_begin_b17
    rw [a4 (9, 0, q) (by simp), r2, if_pos (nI_le (by omega) (by omega))]
    exact k M' (by rw [a4 (9, 0, q) (by simp), r1]) (by rw [a4 (9, 0, q) (by simp), r2]) (fun j hj => a3 j (by omega)) (fun x h1 h2 => (a4 x h2).trans (ro x h1)) a5
  · intro s x M' ⟨i, a1, a2, a3, a4, a5⟩ L hL
    subst a1
    unfold f_X6_begin_b17
    rw [a4 (9, 0, q) (by simp), r2, if_neg (by rw [nI_leI (by omega) (by omega)]; omega), zx_in (by omega) (by decide), za_letE, nI_clamp (by omega), nI_1]
    refine hL _ _ ⟨i + 1, rfl, by omega, fun j hj => ?_, fun x hx => by rw [za_up_oth _ _ _ hx]; exact a4 x hx, a5⟩
    rw [za_up_row]
    by_cases z : j = i
    · rw [z, zu_eq]
    · rw [zu_ne z]; exact a3 j (by omega)
theorem zr_begS {q n : Nat} {w : Int32} (hq : q < 4) {M : za_M} {K : Int32 → za_M → Prop} (k : ∀ M' : za_M, M'.1 (37, 0, 0) = upd (M.1 (37, 0, 0)) q w → M'.1 (38, 0, 0) = upd (M.1 (38, 0, 0)) q (nI n) → (∀ j, j < 40 → M'.1 (39, 0, 0) (40 * q + j) = 0) → (∀ p, p < 4 → p ≠ q → ∀ j, j < 40 → M'.1 (39, 0, 0) (40 * p + j) = M.1 (39, 0, 0) (40 * p + j)) → (∀ x : za_L, x.1 ≠ 37 → x.1 ≠ 38 → x.1 ≠ 39 → M'.1 x = M.1 x) → M'.2 = M.2 → K 1 M') : f_X10_sheet_b89 K (nI q) (nI q) (nI n) (za_up M (37, 0, 0) q w) := by
  unfold f_X10_sheet_b89
  rw [zx_in hq (by decide), za_letE, nI_clamp (by omega)]
  generalize hM0 : za_up (za_up M (37, 0, 0) q w) (38, 0, 0) q (nI n) = M0
  have r1 : M0.1 (37, 0, 0) = upd (M.1 (37, 0, 0)) q w := by rw [← hM0, za_up_oth _ _ _ (by decide), za_up_row]
  have r2 : M0.1 (38, 0, 0) = upd (M.1 (38, 0, 0)) q (nI n) := by rw [← hM0, za_up_row, za_up_oth _ _ _ (by decide)]
  have ro : ∀ x : za_L, x ≠ (37, 0, 0) → x ≠ (38, 0, 0) → M0.1 x = M.1 x := fun x h1 h2 => by rw [← hM0, za_up_oth _ _ _ h2, za_up_oth _ _ _ h1]
  refine za_lp1_ind (fun s x M' => ∃ i, x = nI i ∧ i + s = 40 ∧ (∀ j, j < i → M'.1 (39, 0, 0) (40 * q + j) = 0) ∧ (∀ p, p < 4 → p ≠ q → ∀ j, j < 40 → M'.1 (39, 0, 0) (40 * p + j) = M.1 (39, 0, 0) (40 * p + j)) ∧ (∀ x, x ≠ (39, 0, 0) → M'.1 x = M0.1 x) ∧ M'.2 = M.2) ?_ ?_ 40 0 M0 ⟨0, rfl, by omega, fun j hj => by omega, fun p _ _ j _ => by rw [ro _ (by decide) (by decide)], fun _ _ => rfl, by rw [← hM0]; rfl⟩
  · intro x M' ⟨i, a1, a2, a3, a4, a5, a6⟩ L
    subst a1
    unfold f_X10_sheet_b93
    rw [show i = 40 by omega, if_pos (show (40 : Int32) ≤ nI 40 by decide)]
    exact k M' (by rw [a5 _ (by decide), r1]) (by rw [a5 _ (by decide), r2]) (fun j hj => a3 j (by omega)) a4 (fun x h1 h2 h3 => (a5 x (fun e => h3 (by rw [e]))).trans (ro x (fun e => h1 (by rw [e])) (fun e => h2 (by rw [e])))) a6
  · intro s x M' ⟨i, a1, a2, a3, a4, a5, a6⟩ L hL
    subst a1
    unfold f_X10_sheet_b93
    rw [if_neg (show ¬ (40 : Int32) ≤ nI i from fun z => by have := (nI_leI (a := 40) (b := i) (by omega) (by omega)).mp z; omega), zl_lit 40, pk_mul, nI_add, zx_in (by omega) (by decide), za_letE, nI_clamp (by omega), nI_1]
    refine hL _ _ ⟨i + 1, rfl, by omega, fun j hj => ?_, fun p hp hpq j hj => ?_, fun x hx => by rw [za_up_oth _ _ _ hx]; exact a5 x hx, a6⟩
    · rw [za_up_row]
      by_cases z : j = i
      · rw [z, zu_eq]
      · rw [zu_ne (by omega)]; exact a3 j (by omega)
    · rw [za_up_row, zu_ne (by omega)]
      exact a4 p hp hpq j hj
theorem zT_sheet (x1 x2 x3 : Int32) : zV (f_X9_sheet x1 x2 x3) (f_X10_sheet x1 x2 x3) := by
  intro M K hI hK
  rw [zq_cSheet]
  unfold f_X9_sheet_b27
  rw [zq_cSh]
  rcases (zw_cs x1 (n := 4) (by omega)).symm with q1 | ⟨q, hq, rfl, q1⟩
  · have q1 : zw x1 0 3 = 0 := q1
    rw [if_pos q1]
    exact zV_fg (R := f_X10_sheet x1 x2 x3) (y := -1000000001) 1 rfl (by decide) (by decide) rfl hI hK (fun M1 K' h hh => by rw [zq_rSheet, if_pos q1]; exact hh)
  have q1 : zw (nI q) 0 3 = 1 := q1
  have q1' : ¬ zw (nI q) 0 3 = 0 := by rw [q1]; decide
  rw [if_neg q1']
  by_cases q2 : zwd x2 = 0
  · rw [if_pos q2]
    exact zV_fg (R := f_X10_sheet (nI q) x2 x3) (y := -1000000001) 1 rfl (by decide) (by decide) rfl hI hK (fun M1 K' h hh => by rw [zq_rSheet, if_neg q1', if_pos q2]; exact hh)
  rw [if_neg q2]
  have fin : ∀ n : Nat, n ≤ 40 → (∀ (M1 : za_M) (K' : Int32 → za_M → Prop), f_X10_sheet_b89 K' (nI q) (nI q) (nI n) (za_up M1 (37, 0, 0) q x2) → f_X10_sheet (nI q) x2 x3 M1 K') → f_X6_begin q x2 (nI n) M (fun M5 => f_X10_sheet (nI q) x2 x3 M5 (fun r2 M2 => K 1 r2 M2)) := by
    intro n hn hr
    refine zc_begS hn (fun M1 a1 a2 a3 a4 a5 => hr _ _ (zr_begS hq (fun M2 b1 b2 b3 b4 b5 b6 => hK _ _ ?_)))
    have o9 : ∀ p, p ≠ q → M2.1 (9, 0, p) = M.1 (9, 0, p) := fun p hp => by rw [b5 _ (by simp) (by simp) (by simp), a4 _ (by simp [hp]) (by simp)]
    have o23 : ∀ p, p ≠ q → M2.1 (23, 0, p) = M.1 (23, 0, p) := fun p hp => by rw [b5 _ (by simp) (by simp) (by simp), a4 _ (by simp) (by simp [hp])]
    refine zI_sh hI (fun x h9 h23 h37 h38 h39 _ => (b5 x h37 h38 h39).trans (a4 x (fun e => h9 (by rw [e])) (fun e => h23 (by rw [e])))) (by rw [b6, a5]) (fun p hp => ?_)
    unfold zsq
    rw [b1, b2, a4 (37, 0, 0) (by simp) (by simp), a4 (38, 0, 0) (by simp) (by simp)]
    by_cases z : p = q
    · subst z
      rw [zu_eq, zu_eq, b5 (9, 0, p) (by simp) (by simp) (by simp), b5 (23, 0, p) (by simp) (by simp) (by simp), a1, a2]
      refine ⟨rfl, rfl, zs_nI (by omega), fun i hi => ?_⟩
      rw [nI_clamp (by omega)] at hi
      rw [a3 i hi, b3 i (by omega)]
    · obtain ⟨s1, s2, s3, s4⟩ := hI.2.2.2.2.1.2.2.2 p hp
      have hz := (zs_cl s3 (by decide)).1
      rw [zu_ne z, zu_ne z, o9 p z, o23 p z]
      exact ⟨s1, s2, s3, fun i hi => by rw [b4 p hp z i (by omega), a4 (39, 0, 0) (by simp) (by simp)]; exact s4 i hi⟩
  unfold f_X9_sheet_b61 f_X9_sheet_b77
  by_cases z0 : x2 = 0
  · rw [if_pos z0, if_pos z0, if_pos z0, zx_in hq (by decide), nI_clamp (by omega)]
    refine fin 0 (by omega) (fun M1 K' hh => ?_)
    rw [zq_rSheet, if_neg q1', if_neg q2]
    unfold f_X10_sheet_b36 f_X10_sheet_b51 f_X10_sheet_b68
    rw [if_pos z0, if_pos z0, zx_in hq (by decide), za_letE, nI_clamp (by omega), if_pos z0]
    exact hh
  rw [if_neg z0, if_neg z0, if_neg z0]
  by_cases z1 : 0 ≤ x3
  · rw [if_pos z1]
    by_cases z2 : x3 ≤ 40
    · rw [if_pos z2, zx_in hq (by decide), nI_clamp (by omega)]
      obtain ⟨n, hn, rfl⟩ := nI_of2 (M := 40) (n := 40) (by decide) (x := x3) (Int32.not_lt.mpr z1) z2
      refine fin n hn (fun M1 K' hh => ?_)
      rw [zq_rSheet, if_neg q1', if_neg q2]
      unfold f_X10_sheet_b36 f_X10_sheet_b51 f_X10_sheet_b68
      rw [if_neg z0, if_neg z0, if_pos z1, if_pos z2, zx_in hq (by decide), za_letE, nI_clamp (by omega), if_neg z0]
      exact hh
    · rw [if_neg z2]
      refine zV_fg (R := f_X10_sheet (nI q) x2 x3) (y := -1000000001) 1 rfl (by decide) (by decide) rfl hI hK (fun M1 K' h hh => ?_)
      rw [zq_rSheet, if_neg q1', if_neg q2]
      unfold f_X10_sheet_b36 f_X10_sheet_b51
      rw [if_neg z0, if_neg z0, if_pos z1, if_neg z2]
      exact hh
  · rw [if_neg z1]
    refine zV_fg (R := f_X10_sheet (nI q) x2 x3) (y := -1000000003) 3 rfl (by decide) (by decide) rfl hI hK (fun M1 K' h hh => ?_)
    rw [zq_rSheet, if_neg q1', if_neg q2]
    unfold f_X10_sheet_b36
    rw [if_neg z0, if_neg z1]
    exact hh
theorem zT_put (x1 x2 x3 : Int32) : zV (f_X9_put x1 x2 x3) (f_X10_put x1 x2 x3) := by
  intro M K hI hK
  unfold f_X9_put
  rw [zq_cSh]
  rcases (zw_cs x1 (n := 4) (by omega)).symm with q1 | ⟨q, hq, rfl, q1⟩
  · have q1 : zw x1 0 3 = 0 := q1
    rw [if_pos q1]
    exact zV_fg (R := f_X10_put x1 x2 x3) (y := -1000000001) 1 rfl (by decide) (by decide) rfl hI hK (fun M1 K' h hh => by unfold f_X10_put; rw [zq_rSh, if_pos q1]; exact hh)
  have q1 : zw (nI q) 0 3 = 1 := q1
  have q1' : ¬ zw (nI q) 0 3 = 0 := by rw [q1]; decide
  obtain ⟨s1, s2, s3, s4⟩ := hI.2.2.2.2.1.2.2.2 q hq
  have hz := zs_cl s3 (by decide)
  generalize hn : (M.1 (9, 0, q) 2).toNatClampNeg = n at *
  have r2 : M.1 (38, 0, 0) q = nI n := by rw [← s2]; exact hz.2
  have vq : vp_in (nI q) 4 := vp_in_nI hq (by decide)
  have eix : ∀ i, 40 * nI q + nI i = nI (40 * q + i) := fun i => by rw [zl_lit 40, pk_mul, nI_add]
  rw [if_neg q1', zx_in hq (by decide), zq_cMis, nI_clamp (by omega), zx_in hq (by decide), zf_X9_within, hz.2]
  by_cases m : M.1 (9, 0, q) 1 = 0
  · rw [if_pos m, if_neg (by decide)]
    have m' : M.1 (37, 0, 0) q = 0 := by rw [← s1]; exact m
    refine zV_fg (R := f_X10_put (nI q) x2 x3) (y := -1000000002) 2 rfl (by decide) (by decide) rfl hI hK (fun M1 K' h hh => ?_)
    unfold f_X10_put
    rw [zq_rSh, if_neg q1', zx_in hq (by decide), nI_clamp (by omega), h (37, 0, 0) (by decide), if_pos m']
    exact hh
  have m' : ¬ M.1 (37, 0, 0) q = 0 := by rw [← s1]; exact m
  rw [if_neg m, if_pos rfl]
  rcases (zw_cs x2 (n := n) (by omega)).symm with q2 | ⟨i, hi, rfl, q2⟩
  · rw [if_pos q2]
    refine zV_fg (R := f_X10_put (nI q) x2 x3) (y := -1000000001) 1 rfl (by decide) (by decide) rfl hI hK (fun M1 K' h hh => ?_)
    unfold f_X10_put
    rw [zq_rSh, if_neg q1', zx_in hq (by decide), nI_clamp (by omega), h (37, 0, 0) (by decide), if_neg m', zx_in hq (by decide), zf_X10_within, h (38, 0, 0) (by decide), r2, if_pos q2]
    exact hh
  have q2' : ¬ zw (nI i) 0 (nI n - 1) = 0 := by rw [q2]; decide
  rw [if_neg q2', zx_in hq (by decide)]
  have fin : ∀ v : Int32, (∀ (M1 : za_M) (K' : Int32 → za_M → Prop), M1.1 (37, 0, 0) = M.1 (37, 0, 0) → K' 1 (za_up M1 (39, 0, 0) (40 * q + i) v) → (vp_in (nI q) 4 ∧ (if M1.1 (37, 0, 0) q = 8 then za_let (x3.toInt8.toInt32) fun y22 => vp_in (40 * nI q + nI i) 160 ∧ za_let (za_up M1 (39, 0, 0) (40 * nI q + nI i).toNatClampNeg y22) fun M25 => K' 1 M25 else vp_in (nI q) 4 ∧ (if M1.1 (37, 0, 0) q = 16 then za_let (x3.toInt16.toInt32) fun y17 => vp_in (40 * nI q + nI i) 160 ∧ za_let (za_up M1 (39, 0, 0) (40 * nI q + nI i).toNatClampNeg y17) fun M20 => K' 1 M20 else vp_in (40 * nI q + nI i) 160 ∧ za_let (za_up M1 (39, 0, 0) (40 * nI q + nI i).toNatClampNeg x3) fun M15 => K' 1 M15)))) → f_X10_put (nI q) (nI i) x3 (za_up M (23, 0, q) i v) (fun r2 M2 => K 1 r2 M2) := by
    intro v hv
    have o : ∀ x : za_L, x.1 ≠ 23 → (za_up M (23, 0, q) i v).1 x = M.1 x := fun x hx => za_up_oth _ _ _ (fun e => hx (by rw [e]))
    unfold f_X10_put
    rw [zq_rSh, if_neg q1', zx_in hq (by decide), nI_clamp (by omega), o (37, 0, 0) (by decide), if_neg m', zx_in hq (by decide), zf_X10_within, o (38, 0, 0) (by decide), r2, if_neg q2']
    refine hv _ _ (o (37, 0, 0) (by decide)) (hK _ _ (zI_sh hI (fun x h9 h23 h37 h38 h39 _ => by rw [za_up_oth _ _ _ (fun e => h39 (by rw [e])), o x h23]) rfl (fun p hp => ?_)))
    have o2 : ∀ x : za_L, x.1 ≠ 23 → x.1 ≠ 39 → (za_up (za_up M (23, 0, q) i v) (39, 0, 0) (40 * q + i) v).1 x = M.1 x := fun x h1 h2 => by rw [za_up_oth _ _ _ (fun e => h2 (by rw [e])), o x h1]
    obtain ⟨t1, t2, t3, t4⟩ := hI.2.2.2.2.1.2.2.2 p hp
    have ht := (zs_cl t3 (by decide)).1
    unfold zsq
    rw [o2 (9, 0, p) (by simp) (by simp), o2 (37, 0, 0) (by simp) (by simp), o2 (38, 0, 0) (by simp) (by simp), za_up_row, o (39, 0, 0) (by simp)]
    refine ⟨t1, t2, t3, fun j hj => ?_⟩
    rw [za_up_oth _ _ _ (by simp), zl_up]
    by_cases z : p = q ∧ j = i
    · rw [if_pos ⟨by rw [z.1], z.2⟩, z.1, z.2, zu_eq]
    · rw [if_neg (fun e => z ⟨by simpa using e.1, e.2⟩), zu_ne (by omega)]
      exact t4 j hj
  unfold f_X6_write
  have vi : vp_in (nI i) 40 := vp_in_nI (by omega) (by decide)
  have vj : vp_in (nI (40 * q + i)) 160 := vp_in_nI (by omega) (by decide)
  by_cases w8 : M.1 (9, 0, q) 1 = 8
  · rw [if_pos w8, za_letE, nI_clamp (by omega), za_letE]
    refine ⟨vi, fin _ (fun M1 K' h hk => ⟨vq, ?_⟩)⟩
    rw [h, if_pos (by rw [← s1]; exact w8), za_letE, eix, nI_clamp (by omega), za_letE]
    exact ⟨vj, hk⟩
  rw [if_neg w8]
  by_cases w16 : M.1 (9, 0, q) 1 = 16
  · rw [if_pos w16, za_letE, nI_clamp (by omega), za_letE]
    refine ⟨vi, fin _ (fun M1 K' h hk => ⟨vq, ?_⟩)⟩
    rw [h, if_neg (by rw [← s1]; exact w8), if_pos (by rw [← s1]; exact w16), za_letE, eix, nI_clamp (by omega), za_letE]
    exact ⟨vq, vj, hk⟩
  · rw [if_neg w16, nI_clamp (by omega), za_letE]
    refine ⟨vi, fin _ (fun M1 K' h hk => ⟨vq, ?_⟩)⟩
    rw [h, if_neg (by rw [← s1]; exact w8), if_neg (by rw [← s1]; exact w16), eix, nI_clamp (by omega), za_letE]
    exact ⟨vq, vj, hk⟩

/-! text: class and reference alike -/
theorem zwf_cg (f f' : Nat → Nat) : ∀ (n s d : Nat), (∀ i, i < n → f' (s + i) = f (s + i)) → zwf f n s d → zwf f' n s d := by
  intro n
  induction n with
  | zero => intro s d _ h; exact h
  | succ n ih =>
    intro s d e h
    have e0 : f' s = f s := e 0 (by omega)
    have e1 : ∀ i, i < n → f' (s + 1 + i) = f (s + 1 + i) := fun i hi => by rw [show s + 1 + i = s + (i + 1) by omega]; exact e (i + 1) (by omega)
    unfold zwf at h ⊢
    rw [e0]
    rcases h with ⟨h1, h2⟩ | ⟨h1, h2, h3⟩ | ⟨h1, h2, h3, h4⟩
    · exact Or.inl ⟨h1, ih _ _ e1 h2⟩
    · exact Or.inr (Or.inl ⟨h1, h2, ih _ _ e1 h3⟩)
    · exact Or.inr (Or.inr ⟨h1, h2, h3, ih _ _ e1 h4⟩)
theorem zlw_f {c u n : Nat} {f f' : Nat → Nat} {M : za_M} (h : zlw c u n f M) (e : ∀ i, i < n → f' i = f i) : zlw c u n f' M := by
  obtain ⟨h1, h2, h3, h4, h5⟩ := h
  refine ⟨h1, h2, h3, fun i hi => by rw [e i hi]; exact h4 i hi, h5.imp id (fun q => zwf_cg f f' n 0 0 (fun i hi => by rw [Nat.zero_add]; exact e i hi) q)⟩
theorem zdp_lt : ∀ (L : List Nat) (d d' : Nat), zdp L d = some d' → ∀ i, i < L.length → L.getD i 0 < 20011 := by
  intro L
  induction L with
  | nil => intro d d' _ i hi; simp at hi
  | cons x xs ih =>
    intro d d' h i hi
    rw [zdp_cons] at h
    have key : x < 20011 ∧ ∃ e, zdp xs e = some d' := by
      by_cases h1 : x < 10003
      · rw [if_pos h1] at h
        exact ⟨by omega, _, h⟩
      · rw [if_neg h1] at h
        by_cases h2 : x = 20010
        · rw [if_pos h2] at h
          by_cases h3 : 1 ≤ d
          · rw [if_pos h3] at h
            exact ⟨by omega, _, h⟩
          · rw [if_neg h3] at h
            cases h
        · rw [if_neg h2] at h
          by_cases h4 : 20000 ≤ x ∧ x < 20010
          · rw [if_pos h4] at h
            by_cases h3 : 2 ≤ d
            · rw [if_pos h3] at h
              exact ⟨by omega, _, h⟩
            · rw [if_neg h3] at h
              cases h
          · rw [if_neg h4] at h
            cases h
    obtain ⟨k1, e, k2⟩ := key
    cases i with
    | zero => exact k1
    | succ i =>
      have := ih e d' k2 i (by simp at hi; omega)
      simpa using this
theorem zI_tx {M M2 : za_M} {N' : Nat → Int32} (h : zI M) (hn : zN N') (ht : zT N') (e28 : M2.1 (28, 0, 0) = N') (k1 : ∀ k, k < 175 → k ≠ 5 → N' k = M.1 (28, 0, 0) k) (k5 : N' 5 = 0) (kf : ∀ j, 279 ≤ j → N' j = M.1 (28, 0, 0) j) (r4 : M2.1 (1, 0, 0) 4 = 0) (r1 : ∀ j, j ≠ 4 → M2.1 (1, 0, 0) j = M.1 (1, 0, 0) j) (lw : ∀ u, u < 2 → zlw 0 u (zTn N' u) (zTf N' u) M2) (e : ∀ x : za_L, ¬ (x.1 = 6 ∧ x.2.1 = 0) → ¬ (x.1 = 17 ∧ x.2.1 = 0) → x.1 ≠ 7 → x.1 ≠ 19 → x.1 ≠ 20 → x.1 ≠ 33 → x ≠ (28, 0, 0) → x ≠ (1, 0, 0) → x ≠ (27, 0, 0) → M2.1 x = M.1 x) (e3 : M2.1 (27, 0, 0) 3 = M.1 (27, 0, 0) 3) (e15 : M2.1 (27, 0, 0) 15 = M.1 (27, 0, 0) 15) (p : M2.2 = M.2) : zI M2 := by
  have s := h.2.2.1
  have g : ∀ x : za_L, x.1 ≠ 6 → x.1 ≠ 17 → x.1 ≠ 7 → x.1 ≠ 19 → x.1 ≠ 20 → x.1 ≠ 33 → x ≠ (28, 0, 0) → x ≠ (1, 0, 0) → x ≠ (27, 0, 0) → M2.1 x = M.1 x := fun x a b => e x (fun q => a q.1) (fun q => b q.1)
  refine zI_now h (by rw [e28]; exact hn) (by rw [e28]; exact ht) ?_ (fun x hx => ?_) (by rw [g (8, 0, 0) (by simp) (by simp) (by simp) (by simp) (by simp) (by simp) (by simp) (by simp) (by simp)]) e3 e15 (by rw [p]) ⟨fun c hc => ?_, fun j hj => ?_⟩
  · rw [e28]
    obtain ⟨s1, s2, s3, s4, s5⟩ := s
    refine ⟨zc_row h.1.1 (zc_cg s1 (fun x _ hx => ?_) (by rw [p])) (fun k hk _ h5 _ => k1 k (by omega) h5), lw, ?_, ?_, ?_⟩
    · refine g x ?_ ?_ ?_ ?_ ?_ ?_ ?_ ?_ ?_ <;> first | omega | (rintro rfl; simp at hx)
    · rw [r4, k5]
      exact ⟨rfl, fun i hi => absurd hi (by rw [show Int32.toNatClampNeg 0 = 0 by decide]; exact Nat.not_lt_zero _)⟩
    · rw [r1 5 (by decide), k1 6 (by decide) (by decide), g (16, 0, 0) (by simp) (by simp) (by simp) (by simp) (by simp) (by simp) (by simp) (by simp) (by simp)]
      refine ⟨s4.1, fun i hi => ?_⟩
      have b6 := (zs_cl h.1.1.1.2.2.2.2 (by decide)).1
      rw [k1 (155 + i) (by omega) (by omega)]
      exact s4.2 i hi
    · rw [r1 6 (by decide), k1 4 (by decide) (by decide)]
      exact s5
  · refine e x ?_ ?_ ?_ ?_ ?_ ?_ ?_ ?_ ?_ <;> first | (rcases hx with hx | hx <;> simp only [zot, zst] at hx <;> omega) | (rintro rfl; simp [zot, zst] at hx)
  · rw [p]
    exact h.2.2.2.2.2.1 c hc
  · rw [e28, g (29, 0, 0) (by simp) (by simp) (by simp) (by simp) (by simp) (by simp) (by simp) (by simp) (by simp), g (30, 0, 0) (by simp) (by simp) (by simp) (by simp) (by simp) (by simp) (by simp) (by simp) (by simp), kf j hj]
    exact h.2.2.2.2.2.2 j hj
/-- the row with a text taken -/
def ztx (N : Nat → Int32) (u : Nat) (L : List Nat) : Nat → Int32 := fun k => if k = 5 then 0 else if k = 175 + 52 * u then nI L.length else if 176 + 52 * u ≤ k ∧ k < 176 + 52 * u + L.length then nI (L.getD (k - (176 + 52 * u)) 0) else N k
/-- what a text's class part leaves -/
def zxq (u : Nat) (r : Bool × zSt) (t : Nat) (M Mc : za_M) : Prop :=
  (∀ x : za_L, x.1 ≠ 7 → x.1 ≠ 19 → x.1 ≠ 20 → x ≠ (1, 0, 0) → ((r.1 = true ∧ r.2.1 = t) → x ≠ (6, 0, u) ∧ x ≠ (17, 0, u)) → Mc.1 x = M.1 x) ∧ Mc.2 = M.2 ∧ Mc.1 (1, 0, 0) 4 = 0 ∧ (∀ j, j ≠ 4 → Mc.1 (1, 0, 0) j = M.1 (1, 0, 0) j) ∧
  ((r.1 = true ∧ r.2.1 = t) → (∀ j, j ≠ 3 → Mc.1 (6, 0, u) j = M.1 (6, 0, u) j) ∧ Mc.1 (6, 0, u) 3 = nI r.2.2.length ∧ ∀ i, i < r.2.2.length → Mc.1 (17, 0, u) i = zdec (r.2.2.getD i 0))
theorem zhd_n {n m : Nat} (h : n ≤ m) (hm : m < 2 ^ 31) : zhd (nI n) (nI m) = nI n := by
  unfold zhd
  rw [if_pos (nI_pos' (by omega)), if_pos (nI_le h hm)]
theorem za_cok_n {n m : Nat} (h : n ≤ m) (hm : m < 2 ^ 31) : za_cok 0 0 (nI n) m m := ⟨by decide, by decide, nI_pos (by omega), by rw [nI_clamp (by omega), show Int32.toNatClampNeg 0 = 0 by decide]; omega, by rw [nI_clamp (by omega), show Int32.toNatClampNeg 0 = 0 by decide]; omega⟩
theorem zq_text {M : za_M} (hI : zI M) {u t : Nat} {T : Nat → Nat} (hu : u < 2) (ht : t ≤ 50) (e5 : M.1 (28, 0, 0) 5 = nI t) (hT : ∀ i, i < t → T i < 256 ∧ M.1 (28, 0, 0) (105 + i) = nI (T i)) {r : Bool × zSt} (hr : zlv T t (zpt T t u 5) 5 (0, []) = r) {K : Int32 → za_M → Prop} (h1 : (r.1 = true ∧ r.2.1 = t) → ∀ Mc, zxq u r t M Mc → K 1 Mc) (h2 : ¬ (r.1 = true ∧ r.2.1 = t) → ∀ Mc, zxq u r t M Mc → K ((-10) - nI r.2.1) Mc) : f_X9_text (nI u) M K := by
  have s := hI.2.2.1
  have s3 := s.2.2.1
  have c4 : M.1 (1, 0, 0) 4 = nI t := by rw [s3.1, e5]
  have w1 : zw (nI u) 0 1 = 1 := zw_1 (n := 2) hu (by decide)
  simp only [f_X9_text, f_X9_isUse, zf_X9_within, za_let]
  rw [w1, if_neg (by decide), c4]
  refine ⟨za_B1.mpr trivial, ?_⟩
  simp only [f_X5_reads, zf_X9_held, za_let]
  rw [show zhd (nI t) 50 = nI t from zhd_n (m := 50) ht (by decide), za_up_row, zu_eq]
  refine ⟨za_cok_n ht (by decide), ?_⟩
  rw [nI_clamp (by omega), show Int32.toNatClampNeg 0 = 0 by decide]
  generalize hMa : za_up (za_up (za_up (za_uf (za_up M (7, 0, 0) 2 (nI t)) (19, 0, 0) (va_cpy ((za_up M (7, 0, 0) 2 (nI t)).1 (15, 0, 0)) ((za_up M (7, 0, 0) 2 (nI t)).1 (19, 0, 0)) 0 0 t)) (7, 0, 0) 4 (nI u)) (7, 0, 0) 5 0) (7, 0, 0) 3 0 = Ma
  have oM : ∀ x : za_L, x ≠ (7, 0, 0) → x ≠ (19, 0, 0) → Ma.1 x = M.1 x := fun x a b => by rw [← hMa, za_up_oth _ _ _ a, za_up_oth _ _ _ a, za_up_oth _ _ _ a, za_uf_oth _ _ b, za_up_oth _ _ _ a]
  have pM : Ma.2 = M.2 := by rw [← hMa]; rfl
  have y0 : zy0 T t u Ma := by
    rw [← hMa]
    refine ⟨by simp [zl_up, zl_uf], by simp [zl_up], ht, hu, fun i hi => ⟨(hT i hi).1, ?_⟩⟩
    rw [za_up_oth _ _ _ (by decide), za_up_oth _ _ _ (by decide), za_up_oth _ _ _ (by decide), za_uf_row]
    unfold va_cpy
    rw [if_pos (by omega), za_up_oth _ _ _ (by decide), Nat.zero_add, Nat.sub_zero, s3.2 i (by rw [e5, nI_clamp (by omega)]; exact hi)]
    exact (hT i hi).2
  have c0 : zyC Ma (0, []) Ma := by
    refine ⟨⟨fun _ _ _ => rfl, fun _ _ _ => rfl, rfl⟩, ?_, ?_, fun i hi => by simp at hi⟩
    · rw [← hMa]; simp [zl_up, zl_lit 0]
    · rw [← hMa]; simp [zl_up, zl_lit 0]
  have hg := zgF_lv (T := T) (zgF_pt (T := T) (n := t) hu (fun i hi => (hT i hi).1) 5) 5 (0, []) (Nat.zero_le _)
  rw [hr] at hg
  obtain ⟨g1, _, g3⟩ := hg
  have fl : ∀ M14, zyF Ma M14 → M14.1 (7, 0, 0) 5 = nI r.2.1 → ¬ (r.1 = true ∧ r.2.1 = t) → f_X5_reads_b63 (fun r5 M4 => if r5 = 0 then (K ((-10) - ((za_up M4 (1, 0, 0) 4 0).1 (7, 0, 0) 5)) (za_up M4 (1, 0, 0) 4 0)) else (vp_in (nI u) 2 ∧ (f_X2_take 0 (nI u).toNatClampNeg (20, 0, 0) ((za_up M4 (1, 0, 0) 4 0).1 (7, 0, 0) 3) (za_up M4 (1, 0, 0) 4 0) (fun M10 => K 1 M10)))) M14 := by
    intro M14 hF hp hb
    unfold f_X5_reads_b63
    dsimp only
    rw [if_pos rfl, za_up_oth _ _ _ (by decide), hp]
    refine h2 hb _ ⟨fun x a b c d _ => ?_, by show M14.2 = M.2; rw [hF.2.2, pM], by rw [za_up_row, zu_eq], fun j hj => ?_, fun q => absurd q hb⟩
    · rw [za_up_oth _ _ _ d, hF.1 x (fun q => a (by rw [q])) (fun q => c (by rw [q])), oM x (fun q => a (by rw [q])) (fun q => b (by rw [q]))]
    · rw [za_up_row, zu_ne hj, hF.1 _ (by decide) (by decide), oM _ (by decide) (by decide)]
  refine zy_all y0 c0 ?_
  rw [hr]
  refine ⟨fun e M14 hM => ?_, fun e M14 hM => ?_⟩
  · dsimp only
    rw [if_neg (by decide), hM.2.1, hM.1.2.1 2 (by decide) (by decide), y0.1]
    by_cases q : r.2.1 = t
    · rw [if_pos (by rw [q]), if_neg (by decide), zx_in hu (by decide), nI_clamp (by omega)]
      obtain ⟨_, g, g5, g6, _⟩ := g3 e
      have gl : r.2.2.length = g.length := by rw [g5]; rfl
      have l50 : r.2.2.length ≤ 50 := by
        have g6 : g.length + 0 ≤ r.2.1 := g6
        omega
      simp only [f_X2_take, zf_X9_held, za_let]
      rw [za_up_oth _ _ _ (show ((7, 0, 0) : za_L) ≠ (1, 0, 0) by decide), hM.2.2.1, show zhd (nI r.2.2.length) 50 = nI r.2.2.length from zhd_n (m := 50) l50 (by decide), za_up_row, zu_eq]
      refine ⟨za_cok_n l50 (by decide), ?_⟩
      rw [nI_clamp (by omega), show Int32.toNatClampNeg 0 = 0 by decide]
      refine h1 ⟨e, q⟩ _ ⟨fun x a b c d z => ?_, by show M14.2 = M.2; rw [hM.1.2.2, pM], ?_, fun j hj => ?_, fun _ => ⟨fun j hj => ?_, ?_, fun i hi => ?_⟩⟩
      · rw [za_uf_oth _ _ (z ⟨e, q⟩).2, za_up_oth _ _ _ (z ⟨e, q⟩).1, za_up_oth _ _ _ d, hM.1.1 x (fun q => a (by rw [q])) (fun q => c (by rw [q])), oM x (fun q => a (by rw [q])) (fun q => b (by rw [q]))]
      · rw [za_uf_oth _ _ (by simp), za_up_oth _ _ _ (by simp), za_up_row, zu_eq]
      · rw [za_uf_oth _ _ (by simp), za_up_oth _ _ _ (by simp), za_up_row, zu_ne hj, hM.1.1 _ (by decide) (by decide), oM _ (by decide) (by decide)]
      · rw [za_uf_oth _ _ (by simp), za_up_row, zu_ne hj, za_up_oth _ _ _ (by simp), hM.1.1 _ (by simp) (by simp), oM _ (by simp) (by simp)]
      · rw [za_uf_oth _ _ (by simp), za_up_row, zu_eq]
      · rw [za_uf_row]
        unfold va_cpy
        rw [if_pos (by omega), za_up_oth _ _ _ (by simp), za_up_oth _ _ _ (by decide), Nat.zero_add, Nat.sub_zero]
        exact hM.2.2.2 i hi
    · rw [if_neg (fun z => q ((nI_eq (by omega) (by omega)).mp z))]
      exact fl M14 hM.1 hM.2.1 (fun z => q z.2)
  · dsimp only
    rw [if_pos rfl]
    exact fl M14 hM.1 hM.2.1 (fun z => by rw [e] at z; exact absurd z.1 (by decide))
/-- what the reference's part leaves -/
def zxr (u : Nat) (r : Bool × zSt) (t : Nat) (M Mr : za_M) : Prop :=
  (∀ x : za_L, x ≠ (27, 0, 0) → x.1 ≠ 33 → x ≠ (28, 0, 0) → Mr.1 x = M.1 x) ∧ Mr.2 = M.2 ∧ Mr.1 (27, 0, 0) 3 = M.1 (27, 0, 0) 3 ∧ Mr.1 (27, 0, 0) 15 = M.1 (27, 0, 0) 15 ∧
  ((r.1 = true ∧ r.2.1 = t) → Mr.1 (28, 0, 0) = ztx (M.1 (28, 0, 0)) u r.2.2) ∧ (¬ (r.1 = true ∧ r.2.1 = t) → Mr.1 (28, 0, 0) = upd (M.1 (28, 0, 0)) 5 0)
theorem zv_text {M : za_M} {u t : Nat} {T : Nat → Nat} (hu : u < 2) (ht : t ≤ 50) (e5 : M.1 (28, 0, 0) 5 = nI t) (hT : ∀ i, i < t → T i < 256 ∧ M.1 (28, 0, 0) (105 + i) = nI (T i)) {r : Bool × zSt} (hr : zlv T t (zpt T t u 5) 5 (0, []) = r) {K : Int32 → za_M → Prop} (h1 : (r.1 = true ∧ r.2.1 = t) → ∀ Mc, zxr u r t M Mc → K 1 Mc) (h2 : ¬ (r.1 = true ∧ r.2.1 = t) → ∀ Mc, zxr u r t M Mc → K ((-10) - nI r.2.1) Mc) : f_X10_text (nI u) M K := by
  have w1 : zw (nI u) 0 1 = 1 := zw_1 (n := 2) hu (by decide)
  have v5 : vp_in 5 279 := vp_in_nI (n := 5) (by decide) (by decide)
  have z5 : Int32.toNatClampNeg 5 = 5 := by decide
  simp only [f_X10_text, zf_X10_within, za_let]
  rw [w1, if_neg (by decide)]
  generalize hMa : za_up (za_up (za_up (za_up (za_up M (27, 0, 0) 8 (nI u)) (27, 0, 0) 6 0) (27, 0, 0) 7 0) (27, 0, 0) 9 0) (27, 0, 0) 11 0 = Ma
  have oM : ∀ x : za_L, x ≠ (27, 0, 0) → Ma.1 x = M.1 x := fun x a => by rw [← hMa, za_up_oth _ _ _ a, za_up_oth _ _ _ a, za_up_oth _ _ _ a, za_up_oth _ _ _ a, za_up_oth _ _ _ a]
  have pM : Ma.2 = M.2 := by rw [← hMa]; rfl
  have a3 : Ma.1 (27, 0, 0) 3 = M.1 (27, 0, 0) 3 := by rw [← hMa]; simp [zl_up]
  have a15 : Ma.1 (27, 0, 0) 15 = M.1 (27, 0, 0) 15 := by rw [← hMa]; simp [zl_up]
  have a8 : Ma.1 (27, 0, 0) 8 = nI u := by rw [← hMa]; simp [zl_up]
  have x0 : zx0 T t u Ma := ⟨by rw [oM _ (by decide)]; exact e5, a8, ht, hu, fun i hi => ⟨(hT i hi).1, by rw [oM _ (by decide)]; exact (hT i hi).2⟩⟩
  have c0 : zxC Ma 0 (0, []) Ma := by
    refine ⟨⟨fun _ _ _ => rfl, fun _ _ _ _ _ => rfl, rfl⟩, ?_, ?_, ?_, ?_, fun i hi => by simp at hi⟩ <;> (rw [← hMa]; simp [zl_up, zl_lit 0])
  have hg := zgF_lv (T := T) (zgF_pt (T := T) (n := t) hu (fun i hi => (hT i hi).1) 5) 5 (0, []) (Nat.zero_le _)
  rw [hr] at hg
  obtain ⟨g1, _, g3⟩ := hg
  have fl : ∀ M33, zxF Ma M33 → M33.1 (27, 0, 0) 6 = nI r.2.1 → ¬ (r.1 = true ∧ r.2.1 = t) → f_X10_text_b66 K M33 := by
    intro M33 hF hp hb
    simp only [f_X10_text_b66, f_X10_text_b71, za_let, za_B1, true_and, z5]
    refine ⟨v5, ?_⟩
    rw [za_up_oth _ _ _ (show ((27, 0, 0) : za_L) ≠ (28, 0, 0) by decide), za_up_row, zu_eq, if_neg (by decide), zu_ne (by decide), hp]
    refine h2 hb _ ⟨fun x a b c => ?_, by show M33.2 = M.2; rw [hF.2.2, pM], ?_, ?_, fun q => absurd q hb, fun _ => ?_⟩
    · rw [za_up_oth _ _ _ c, za_up_oth _ _ _ a, hF.1 x a (fun q => b (by rw [q])), oM x a]
    · rw [za_up_oth _ _ _ (by decide), za_up_row, zu_ne (by decide), hF.2.1 3 (by decide) (by decide) (by decide) (by decide), a3]
    · rw [za_up_oth _ _ _ (by decide), za_up_row, zu_ne (by decide), hF.2.1 15 (by decide) (by decide) (by decide) (by decide), a15]
    · rw [za_up_row, za_up_oth _ _ _ (by decide), hF.1 _ (by decide) (by decide), oM _ (by decide)]
  refine zx_all x0 c0 ?_
  rw [hr]
  refine ⟨fun e M33 hM => ?_, fun e M33 hM => ?_⟩
  · obtain ⟨hF, m9, m6, m7, m11, m33⟩ := hM
    have m28 : M33.1 (28, 0, 0) = M.1 (28, 0, 0) := by rw [hF.1 _ (by decide) (by decide), oM _ (by decide)]
    have m8 : M33.1 (27, 0, 0) 8 = nI u := by rw [hF.2.1 8 (by decide) (by decide) (by decide) (by decide), a8]
    rw [if_pos m9, z5, m28, e5, m6]
    refine ⟨v5, ?_⟩
    by_cases q : r.2.1 = t
    · rw [if_pos (by rw [q]; exact nI_le (Nat.le_refl _) (by omega))]
      obtain ⟨_, g, g5, g6, _⟩ := g3 e
      have gl : r.2.2.length = g.length := by rw [g5]; rfl
      have l50 : r.2.2.length ≤ 50 := by
        have g6 : g.length + 0 ≤ r.2.1 := g6
        omega
      simp only [f_X10_text_b71, za_let, za_B0, true_and, z5]
      refine ⟨v5, ?_⟩
      rw [za_up_oth _ _ _ (show ((27, 0, 0) : za_L) ≠ (28, 0, 0) by decide), za_up_row, zu_eq, if_pos rfl, zu_ne (by decide), zu_ne (by decide), m8, m11, zl_lit 52, pk_mul, zl_lit 175, nI_add, zx_in (by omega) (by decide), nI_clamp (by omega)]
      generalize hMb : za_up (za_up (za_up M33 (27, 0, 0) 9 0) (28, 0, 0) 5 0) (28, 0, 0) (175 + 52 * u) (nI r.2.2.length) = Mb
      have b27 : ∀ j, j ≠ 9 → Mb.1 (27, 0, 0) j = M33.1 (27, 0, 0) j := fun j hj => by rw [← hMb, za_up_oth _ _ _ (by decide), za_up_oth _ _ _ (by decide), za_up_row, zu_ne hj]
      have bo : ∀ x : za_L, x ≠ (27, 0, 0) → x ≠ (28, 0, 0) → Mb.1 x = M33.1 x := fun x a b => by rw [← hMb, za_up_oth _ _ _ b, za_up_oth _ _ _ b, za_up_oth _ _ _ a]
      have b28 : ∀ k, Mb.1 (28, 0, 0) k = if k = 5 then 0 else if k = 175 + 52 * u then nI r.2.2.length else M.1 (28, 0, 0) k := by
        intro k
        rw [← hMb, za_up_row, za_up_row, za_up_oth _ _ _ (by decide), m28]
        by_cases z1 : k = 175 + 52 * u
        · rw [z1, zu_eq, if_neg (by omega), if_pos rfl]
        · rw [zu_ne z1]
          by_cases z2 : k = 5
          · rw [z2, zu_eq, if_pos rfl]
          · rw [zu_ne z2, if_neg z2, if_neg z1]
      refine za_lp1_ind (fun f x M' => ∃ i, x = nI i ∧ i + f = r.2.2.length ∧ (∀ y : za_L, y ≠ (28, 0, 0) → M'.1 y = Mb.1 y) ∧ (∀ k, M'.1 (28, 0, 0) k = if 176 + 52 * u ≤ k ∧ k < 176 + 52 * u + i then nI (r.2.2.getD (k - (176 + 52 * u)) 0) else Mb.1 (28, 0, 0) k) ∧ M'.2 = Mb.2) ?_ ?_ r.2.2.length 0 Mb ⟨0, rfl, by omega, fun _ _ => rfl, fun k => by rw [if_neg (by omega)], rfl⟩
      · intro x M' ⟨i, e1, e2, e3, e4, e6⟩ L
        have ei : i = r.2.2.length := by omega
        subst e1
        unfold f_X10_text_b118
        rw [e3 _ (by decide), b27 11 (by decide), m11, if_pos (nI_le (by omega) (by omega))]
        refine h1 ⟨e, q⟩ _ ⟨fun x a b c => ?_, ?_, ?_, ?_, fun _ => ?_, fun z => absurd ⟨e, q⟩ z⟩
        · rw [e3 x c, bo x a c, hF.1 x a (fun q => b (by rw [q])), oM x a]
        · rw [e6, ← hMb]
          show M33.2 = M.2
          rw [hF.2.2, pM]
        · rw [e3 _ (by decide), b27 3 (by decide), hF.2.1 3 (by decide) (by decide) (by decide) (by decide), a3]
        · rw [e3 _ (by decide), b27 15 (by decide), hF.2.1 15 (by decide) (by decide) (by decide) (by decide), a15]
        · funext k
          rw [e4, b28, ei]
          unfold ztx
          by_cases z1 : 176 + 52 * u ≤ k ∧ k < 176 + 52 * u + r.2.2.length
          · rw [if_pos z1, if_neg (by omega), if_neg (by omega), if_pos z1]
          · rw [if_neg z1, if_neg z1]
      · intro f x M' ⟨i, e1, e2, e3, e4, e6⟩ L hL
        subst e1
        unfold f_X10_text_b118
        rw [e3 _ (by decide), b27 11 (by decide), m11, if_neg (by rw [nI_leI (by omega) (by omega)]; omega), zx_in (by omega) (by decide), nI_clamp (by omega), e3 _ (by decide), bo _ (by decide) (by decide), m33 i (by omega), b27 8 (by decide), m8]
        simp only [za_let]
        rw [zl_lit 52, pk_mul, zl_lit 175, nI_add, nI_1, nI_add, zx_in (by omega) (by decide), nI_clamp (by omega), nI_1]
        refine hL _ _ ⟨i + 1, rfl, by omega, fun y hy => by rw [za_up_oth _ _ _ hy]; exact e3 y hy, fun k => ?_, e6⟩
        rw [za_up_row]
        by_cases z : k = 175 + 52 * u + 1 + i
        · rw [z, zu_eq, if_pos (by omega), show 175 + 52 * u + 1 + i - (176 + 52 * u) = i by omega]
        · rw [zu_ne z, e4]
          by_cases y : 176 + 52 * u ≤ k ∧ k < 176 + 52 * u + i
          · rw [if_pos y, if_pos (by omega)]
          · rw [if_neg y, if_neg (by omega)]
    · rw [if_neg (by rw [nI_leI (by omega) (by omega)]; omega)]
      exact fl M33 hF m6 (fun z => q z.2)
  · dsimp only
    rw [if_neg (by rw [hM.2.1]; decide)]
    exact fl M33 hM.1 hM.2.2 (fun z => by rw [e] at z; exact absurd z.1 (by decide))

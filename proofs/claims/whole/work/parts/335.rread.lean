/-! the reference's reader does as the reader of numbers -/
section ZX2
variable {T : Nat → Nat} {n u : Nat} {M0 : za_M}
def zxF (M0 M : za_M) : Prop := (∀ x, x ≠ (27, 0, 0) → x ≠ (33, 0, 0) → M.1 x = M0.1 x) ∧ (∀ j, j ≠ 6 → j ≠ 7 → j ≠ 9 → j ≠ 11 → M.1 (27, 0, 0) j = M0.1 (27, 0, 0) j) ∧ M.2 = M0.2
def zxC (M0 : za_M) (o : Nat) (s : zSt) (M : za_M) : Prop := zxF M0 M ∧ M.1 (27, 0, 0) 9 = 0 ∧ M.1 (27, 0, 0) 6 = nI s.1 ∧ M.1 (27, 0, 0) 7 = nI o ∧ M.1 (27, 0, 0) 11 = nI s.2.length ∧ ∀ i, i < s.2.length → M.1 (33, 0, 0) i = nI (s.2.getD i 0)
def zxX (M0 : za_M) (a : Nat) (M : za_M) : Prop := zxF M0 M ∧ M.1 (27, 0, 0) 9 = 1 ∧ M.1 (27, 0, 0) 6 = nI a
def zx0 (T : Nat → Nat) (n u : Nat) (M0 : za_M) : Prop := M0.1 (28, 0, 0) 5 = nI n ∧ M0.1 (27, 0, 0) 8 = nI u ∧ n ≤ 50 ∧ u < 2 ∧ ∀ i, i < n → T i < 256 ∧ M0.1 (28, 0, 0) (105 + i) = nI (T i)
def zxK (M0 : za_M) (o : Nat) (r : Bool × zSt) (K : za_M → Prop) : Prop := (r.1 = true → ∀ M', zxC M0 o r.2 M' → K M') ∧ (r.1 = false → ∀ M', zxX M0 r.2.1 M' → K M')
def zxS (n : Nat) (M0 : za_M) (o : Nat) (F : zSt → Bool × zSt) (R : za_M → (za_M → Prop) → Prop) : Prop := ∀ (s : zSt) (M : za_M) (K : za_M → Prop), s.1 ≤ n → s.2.length ≤ s.1 → zxC M0 o s M → zxK M0 o (F s) K → R M K
def zxD (M0 : za_M) (R : za_M → (za_M → Prop) → Prop) : Prop := ∀ (a : Nat) (M : za_M) (K : za_M → Prop), zxX M0 a M → (∀ M', zxX M0 a M' → K M') → R M K
theorem zxF_up {M : za_M} {k : Nat} {v : Int32} (h : zxF M0 M) (hk : k = 6 ∨ k = 7 ∨ k = 9 ∨ k = 11) : zxF M0 (za_up M (27, 0, 0) k v) := by
  refine ⟨fun x a b => ?_, fun j a b c d => ?_, h.2.2⟩
  · rw [za_up_oth _ _ _ a]; exact h.1 x a b
  · rw [za_up_row, zu_ne (by omega)]; exact h.2.1 j a b c d
theorem zxF_u2 {M : za_M} {k : Nat} {v : Int32} (h : zxF M0 M) : zxF M0 (za_up M (33, 0, 0) k v) := by
  refine ⟨fun x a b => ?_, fun j a b c d => ?_, h.2.2⟩
  · rw [za_up_oth _ _ _ b]; exact h.1 x a b
  · rw [za_up_oth _ _ _ (by decide)]; exact h.2.1 j a b c d
theorem zxC_st {o : Nat} {s : zSt} {M : za_M} {a : Nat} {v : Int32} (h : zxC M0 o s M) (e : v = nI a) : zxC M0 o (a, s.2) (za_up M (27, 0, 0) 6 v) := by
  obtain ⟨h1, h2, h3, h4, h5, h6⟩ := h
  refine ⟨zxF_up h1 (by simp), ?_, ?_, ?_, ?_, fun i hi => ?_⟩
  · rw [za_up_row, zu_ne (by decide)]; exact h2
  · rw [za_up_row, zu_eq]; exact e
  · rw [za_up_row, zu_ne (by decide)]; exact h4
  · rw [za_up_row, zu_ne (by decide)]; exact h5
  · rw [za_up_oth _ _ _ (by decide)]; exact h6 i hi
theorem zxC_op {o q : Nat} {s : zSt} {M : za_M} {v : Int32} (h : zxC M0 o s M) (e : v = nI q) : zxC M0 q s (za_up M (27, 0, 0) 7 v) := by
  obtain ⟨h1, h2, h3, h4, h5, h6⟩ := h
  refine ⟨zxF_up h1 (by simp), ?_, ?_, ?_, ?_, fun i hi => ?_⟩
  · rw [za_up_row, zu_ne (by decide)]; exact h2
  · rw [za_up_row, zu_ne (by decide)]; exact h3
  · rw [za_up_row, zu_eq]; exact e
  · rw [za_up_row, zu_ne (by decide)]; exact h5
  · rw [za_up_oth _ _ _ (by decide)]; exact h6 i hi
theorem zxC_w0 {o : Nat} {s : zSt} {M : za_M} (h : zxC M0 o s M) : zxC M0 o s (za_up M (27, 0, 0) 9 0) := by
  obtain ⟨h1, h2, h3, h4, h5, h6⟩ := h
  refine ⟨zxF_up h1 (by simp), ?_, ?_, ?_, ?_, fun i hi => ?_⟩
  · rw [za_up_row, zu_eq]
  · rw [za_up_row, zu_ne (by decide)]; exact h3
  · rw [za_up_row, zu_ne (by decide)]; exact h4
  · rw [za_up_row, zu_ne (by decide)]; exact h5
  · rw [za_up_oth _ _ _ (by decide)]; exact h6 i hi
theorem zxX_w1 {a : Nat} {M : za_M} (h : zxF M0 M) (h6 : M.1 (27, 0, 0) 6 = nI a) : zxX M0 a (za_up M (27, 0, 0) 9 1) := by
  refine ⟨zxF_up h (by simp), ?_, ?_⟩
  · rw [za_up_row, zu_eq]
  · rw [za_up_row, zu_ne (by decide)]; exact h6
theorem zxX_up {a k : Nat} {v : Int32} {M : za_M} (h : zxX M0 a M) (hk : k = 7 ∨ k = 11) : zxX M0 a (za_up M (27, 0, 0) k v) := by
  refine ⟨zxF_up h.1 (by omega), ?_, ?_⟩
  · rw [za_up_row, zu_ne (by omega)]; exact h.2.1
  · rw [za_up_row, zu_ne (by omega)]; exact h.2.2
theorem zx_here (h0 : zx0 T n u M0) {o : Nat} {s : zSt} {M : za_M} {K : Int32 → za_M → Prop} (h : zxC M0 o s M) (hn : s.1 ≤ n) : f_X10_here M K = K (zny T n s.1) M := by
  obtain ⟨e1, e2, e3, e4, e5⟩ := h0
  obtain ⟨h1, h2, h3, h4, h5, h6⟩ := h
  unfold f_X10_here f_X10_here_b35 zny
  rw [if_pos h2, show vp_in 5 279 = True from eq_true (vp_in_nI (n := 5) (by decide) (by decide)), true_and, show Int32.toNatClampNeg 5 = 5 by decide, h1.1 _ (by decide) (by decide), e1, h3]
  by_cases q : s.1 < n
  · rw [if_pos q, if_neg (by rw [nI_leI (by omega) (by omega)]; omega), zl_lit 105, nI_add, zx_in (by omega) (by decide), nI_clamp (by omega), (e5 s.1 q).2]
  · rw [if_neg q, if_pos (nI_le (by omega) (by omega))]
theorem zx_hereX {a : Nat} {M : za_M} {K : Int32 → za_M → Prop} (h : zxX M0 a M) : f_X10_here M K = K (-1) M := by
  unfold f_X10_here f_X10_here_b35
  rw [if_neg (by rw [h.2.1]; decide)]
theorem zx_takY (h0 : zx0 T n u M0) {o : Nat} {s : zSt} {M : za_M} {K : Int32 → za_M → Prop} {c : Int32} (h : zxC M0 o s M) (hn : s.1 ≤ n) (hc : zny T n s.1 = c) (k : ∀ M', zxC M0 o (s.1 + 1, s.2) M' → K 1 M') : f_X10_takes c M K := by
  unfold f_X10_takes f_X10_takes_b13
  rw [zx_here h0 h hn, if_pos hc, if_neg (by decide)]
  simp only [za_let, za_B1, true_and]
  exact k _ (zxC_st h (by rw [h.2.2.1, nI_1]))
theorem zx_takN (h0 : zx0 T n u M0) {o : Nat} {s : zSt} {M : za_M} {K : Int32 → za_M → Prop} {c : Int32} (h : zxC M0 o s M) (hn : s.1 ≤ n) (hc : ¬ zny T n s.1 = c) (k : ∀ M', zxC M0 o s M' → K 0 M') : f_X10_takes c M K := by
  unfold f_X10_takes f_X10_takes_b13
  rw [zx_here h0 h hn, if_neg hc, if_pos rfl]
  simp only [za_let, za_B0, true_and]
  exact k _ (zxC_st (a := s.1) h (by rw [h.2.2.1, Int32.add_zero]))
theorem zx_takX {a : Nat} {M : za_M} {K : Int32 → za_M → Prop} {c : Int32} (h : zxX M0 a M) (hc : ¬ (-1) = c) (k : ∀ M', zxX M0 a M' → K 0 M') : f_X10_takes c M K := by
  unfold f_X10_takes f_X10_takes_b13
  rw [zx_hereX h, if_neg hc, if_pos rfl]
  simp only [za_let, za_B0, true_and]
  refine k _ ⟨zxF_up h.1 (by simp), ?_, ?_⟩
  · rw [za_up_row, zu_ne (by decide)]; exact h.2.1
  · rw [za_up_row, zu_eq, h.2.2, Int32.add_zero]
theorem zx_cod {o : Nat} {s : zSt} {M : za_M} {K : za_M → Prop} {x : Int32} {c : Nat} (h : zxC M0 o s M) (hl : s.2.length < 60) (hx : x = nI c) (k : ∀ M', zxC M0 o (s.1, s.2 ++ [c]) M' → K M') : f_X10_codes x M K := by
  obtain ⟨h1, h2, h3, h4, h5, h6⟩ := h
  simp only [f_X10_codes, za_let]
  rw [if_pos h2, h5, zx_in hl (by decide), nI_clamp (by omega), za_up_oth _ _ _ (by decide), h5, nI_1]
  refine k _ ⟨zxF_up (zxF_u2 h1) (by simp), ?_, ?_, ?_, ?_, fun i hi => ?_⟩
  · rw [za_up_row, zu_ne (by decide), za_up_oth _ _ _ (by decide)]; exact h2
  · rw [za_up_row, zu_ne (by decide), za_up_oth _ _ _ (by decide)]; exact h3
  · rw [za_up_row, zu_ne (by decide), za_up_oth _ _ _ (by decide)]; exact h4
  · rw [za_up_row, zu_eq, List.length_append]; rfl
  · rw [za_up_oth _ _ _ (by decide), za_up_row]
    rw [List.length_append, List.length_singleton] at hi
    by_cases q : i = s.2.length
    · rw [q, zu_eq, hx]
      congr 1
      simp
    · rw [zu_ne q, h6 i (by omega)]
      congr 1
      rw [List.getD_eq_getElem?_getD, List.getD_eq_getElem?_getD, List.getElem?_append_left (by omega)]
theorem zx_codX {a : Nat} {M : za_M} {K : za_M → Prop} {x : Int32} (h : zxX M0 a M) (k : K M) : f_X10_codes x M K := by
  unfold f_X10_codes
  rw [if_neg (by rw [h.2.1]; decide)]
  exact k
theorem zlvo_0 {c : Int32} : zlvo c = 0 ↔ c = 124 := by
  constructor
  · intro h
    unfold zlvo at h
    (repeat' split at h) <;> first | exact absurd h (by decide) | assumption
  · rintro rfl
    decide
theorem zlvo_1 {c : Int32} : zlvo c = 1 ↔ c = 38 := by
  constructor
  · intro h
    unfold zlvo at h
    (repeat' split at h) <;> first | exact absurd h (by decide) | assumption
  · rintro rfl
    decide
theorem zlvo_2 {c : Int32} : zlvo c = 2 ↔ c = 60 ∨ c = 61 ∨ c = 62 := by
  constructor
  · intro h
    unfold zlvo at h
    (repeat' split at h) <;> first | exact absurd h (by decide) | exact Or.inl (by assumption) | exact Or.inr (Or.inl (by assumption)) | exact Or.inr (Or.inr (by assumption))
  · rintro (rfl | rfl | rfl) <;> decide
theorem zlvo_3 {c : Int32} : zlvo c = 3 ↔ c = 43 ∨ c = 45 := by
  constructor
  · intro h
    unfold zlvo at h
    (repeat' split at h) <;> first | exact absurd h (by decide) | exact Or.inl (by assumption) | exact Or.inr (by assumption)
  · rintro (rfl | rfl) <;> decide
theorem zlvo_4 {c : Int32} : zlvo c = 4 ↔ c = 42 ∨ c = 47 ∨ c = 37 := by
  constructor
  · intro h
    unfold zlvo at h
    (repeat' split at h) <;> first | exact absurd h (by decide) | exact Or.inl (by assumption) | exact Or.inr (Or.inl (by assumption)) | exact Or.inr (Or.inr (by assumption))
  · rintro (rfl | rfl | rfl) <;> decide
/-- which sign of a level is taken -/
theorem zx_ch4 (h0 : zx0 T n u M0) {o : Nat} {s : zSt} {M : za_M} {G : Int32 → za_M → Prop} (h : zxC M0 o s M) (hn : s.1 ≤ n) (hy : zlvo (zny T n s.1) = 4 → ∀ M', zxC M0 o (s.1 + 1, s.2) M' → G (nI (zcd (zny T n s.1))) M') (hN : ¬ zlvo (zny T n s.1) = 4 → ∀ M', zxC M0 o s M' → G 0 M') : f_X10_takes 42 M (fun r1 M1 => if r1 = 0 then (f_X10_takes 47 M1 (fun r2 M2 => if r2 = 0 then (f_X10_takes 37 M2 (fun r3 M3 => if r3 = 0 then (G 0 M3) else (G 20009 M3))) else (G 20008 M2))) else (G 20007 M1)) := by
  by_cases q1 : zny T n s.1 = 42
  · refine zx_takY h0 h hn q1 (fun M1 h1 => ?_)
    rw [if_neg (by decide)]
    have := hy (by rw [q1]; decide) M1 h1
    rw [q1] at this
    exact this
  refine zx_takN h0 h hn q1 (fun M1 h1 => ?_)
  rw [if_pos rfl]
  by_cases q2 : zny T n s.1 = 47
  · refine zx_takY h0 h1 hn q2 (fun M2 h2 => ?_)
    rw [if_neg (by decide)]
    have := hy (by rw [q2]; decide) M2 h2
    rw [q2] at this
    exact this
  refine zx_takN h0 h1 hn q2 (fun M2 h2 => ?_)
  rw [if_pos rfl]
  by_cases q3 : zny T n s.1 = 37
  · refine zx_takY h0 h2 hn q3 (fun M3 h3 => ?_)
    rw [if_neg (by decide)]
    have := hy (by rw [q3]; decide) M3 h3
    rw [q3] at this
    exact this
  refine zx_takN h0 h2 hn q3 (fun M3 h3 => ?_)
  rw [if_pos rfl]
  exact hN (fun z => by rcases zlvo_4.mp z with z | z | z
                        · exact q1 z
                        · exact q2 z
                        · exact q3 z) M3 h3
theorem zx_ch4X {a : Nat} {M : za_M} {G : Int32 → za_M → Prop} (h : zxX M0 a M) (k : ∀ M', zxX M0 a M' → G 0 M') : f_X10_takes 42 M (fun r1 M1 => if r1 = 0 then (f_X10_takes 47 M1 (fun r2 M2 => if r2 = 0 then (f_X10_takes 37 M2 (fun r3 M3 => if r3 = 0 then (G 0 M3) else (G 20009 M3))) else (G 20008 M2))) else (G 20007 M1)) := by
  refine zx_takX h (by decide) (fun M1 h1 => ?_)
  rw [if_pos rfl]
  refine zx_takX h1 (by decide) (fun M2 h2 => ?_)
  rw [if_pos rfl]
  refine zx_takX h2 (by decide) (fun M3 h3 => ?_)
  rw [if_pos rfl]
  exact k M3 h3
theorem zx_ch3 (h0 : zx0 T n u M0) {o : Nat} {s : zSt} {M : za_M} {G : Int32 → za_M → Prop} (h : zxC M0 o s M) (hn : s.1 ≤ n) (hy : zlvo (zny T n s.1) = 3 → ∀ M', zxC M0 o (s.1 + 1, s.2) M' → G (nI (zcd (zny T n s.1))) M') (hN : ¬ zlvo (zny T n s.1) = 3 → ∀ M', zxC M0 o s M' → G 0 M') : f_X10_takes 43 M (fun r1 M1 => if r1 = 0 then (f_X10_takes 45 M1 (fun r2 M2 => if r2 = 0 then (G 0 M2) else (G 20006 M2))) else (G 20005 M1)) := by
  by_cases q1 : zny T n s.1 = 43
  · refine zx_takY h0 h hn q1 (fun M1 h1 => ?_)
    rw [if_neg (by decide)]
    have := hy (by rw [q1]; decide) M1 h1
    rw [q1] at this
    exact this
  refine zx_takN h0 h hn q1 (fun M1 h1 => ?_)
  rw [if_pos rfl]
  by_cases q2 : zny T n s.1 = 45
  · refine zx_takY h0 h1 hn q2 (fun M2 h2 => ?_)
    rw [if_neg (by decide)]
    have := hy (by rw [q2]; decide) M2 h2
    rw [q2] at this
    exact this
  refine zx_takN h0 h1 hn q2 (fun M2 h2 => ?_)
  rw [if_pos rfl]
  exact hN (fun z => by rcases zlvo_3.mp z with z | z
                        · exact q1 z
                        · exact q2 z) M2 h2
theorem zx_ch3X {a : Nat} {M : za_M} {G : Int32 → za_M → Prop} (h : zxX M0 a M) (k : ∀ M', zxX M0 a M' → G 0 M') : f_X10_takes 43 M (fun r1 M1 => if r1 = 0 then (f_X10_takes 45 M1 (fun r2 M2 => if r2 = 0 then (G 0 M2) else (G 20006 M2))) else (G 20005 M1)) := by
  refine zx_takX h (by decide) (fun M1 h1 => ?_)
  rw [if_pos rfl]
  refine zx_takX h1 (by decide) (fun M2 h2 => ?_)
  rw [if_pos rfl]
  exact k M2 h2
theorem zx_ch2 (h0 : zx0 T n u M0) {o : Nat} {s : zSt} {M : za_M} {G : Int32 → za_M → Prop} (h : zxC M0 o s M) (hn : s.1 ≤ n) (hy : zlvo (zny T n s.1) = 2 → ∀ M', zxC M0 o (s.1 + 1, s.2) M' → G (nI (zcd (zny T n s.1))) M') (hN : ¬ zlvo (zny T n s.1) = 2 → ∀ M', zxC M0 o s M' → G 0 M') : f_X10_takes 60 M (fun r1 M1 => if r1 = 0 then (f_X10_takes 61 M1 (fun r2 M2 => if r2 = 0 then (f_X10_takes 62 M2 (fun r3 M3 => if r3 = 0 then (G 0 M3) else (G 20004 M3))) else (G 20003 M2))) else (G 20002 M1)) := by
  by_cases q1 : zny T n s.1 = 60
  · refine zx_takY h0 h hn q1 (fun M1 h1 => ?_)
    rw [if_neg (by decide)]
    have := hy (by rw [q1]; decide) M1 h1
    rw [q1] at this
    exact this
  refine zx_takN h0 h hn q1 (fun M1 h1 => ?_)
  rw [if_pos rfl]
  by_cases q2 : zny T n s.1 = 61
  · refine zx_takY h0 h1 hn q2 (fun M2 h2 => ?_)
    rw [if_neg (by decide)]
    have := hy (by rw [q2]; decide) M2 h2
    rw [q2] at this
    exact this
  refine zx_takN h0 h1 hn q2 (fun M2 h2 => ?_)
  rw [if_pos rfl]
  by_cases q3 : zny T n s.1 = 62
  · refine zx_takY h0 h2 hn q3 (fun M3 h3 => ?_)
    rw [if_neg (by decide)]
    have := hy (by rw [q3]; decide) M3 h3
    rw [q3] at this
    exact this
  refine zx_takN h0 h2 hn q3 (fun M3 h3 => ?_)
  rw [if_pos rfl]
  exact hN (fun z => by rcases zlvo_2.mp z with z | z | z
                        · exact q1 z
                        · exact q2 z
                        · exact q3 z) M3 h3
theorem zx_ch2X {a : Nat} {M : za_M} {G : Int32 → za_M → Prop} (h : zxX M0 a M) (k : ∀ M', zxX M0 a M' → G 0 M') : f_X10_takes 60 M (fun r1 M1 => if r1 = 0 then (f_X10_takes 61 M1 (fun r2 M2 => if r2 = 0 then (f_X10_takes 62 M2 (fun r3 M3 => if r3 = 0 then (G 0 M3) else (G 20004 M3))) else (G 20003 M2))) else (G 20002 M1)) := by
  refine zx_takX h (by decide) (fun M1 h1 => ?_)
  rw [if_pos rfl]
  refine zx_takX h1 (by decide) (fun M2 h2 => ?_)
  rw [if_pos rfl]
  refine zx_takX h2 (by decide) (fun M3 h3 => ?_)
  rw [if_pos rfl]
  exact k M3 h3
theorem zcd_pos (c : Int32) : ¬ nI (zcd c) ≤ 0 := nI_nle (by have := zcd_op c; omega) (by have := zcd_op c; omega)
/-- a loop of a level that has read its sign already (sum, product) -/
theorem zx_lpA (h0 : zx0 T n u M0) {o lev : Nat} {F : zSt → Bool × zSt} {R : za_M → (za_M → Prop) → Prop} (hl : lev < 5) (hg : zgF n F) (h : zxS n M0 o F R) (hd : zxD M0 R) {ch : za_M → (Int32 → za_M → Prop) → Prop}
    (cY : ∀ (s : zSt) (M : za_M) (G : Int32 → za_M → Prop), zxC M0 o s M → s.1 ≤ n → (zlvo (zny T n s.1) = nI lev → ∀ M', zxC M0 o (s.1 + 1, s.2) M' → G (nI (zcd (zny T n s.1))) M') → (¬ zlvo (zny T n s.1) = nI lev → ∀ M', zxC M0 o s M' → G 0 M') → ch M G)
    (cX : ∀ (a : Nat) (M : za_M) (G : Int32 → za_M → Prop), zxX M0 a M → (∀ M', zxX M0 a M' → G 0 M') → ch M G)
    {K : za_M → Prop} {body : (Int32 → za_M → Prop) → Int32 → za_M → Prop} (hb : ∀ (L : Int32 → za_M → Prop) (x : Int32) (M : za_M), (x ≤ 0 → K M) → (¬ x ≤ 0 → R M (fun M2 => f_X10_codes x M2 (fun M4 => ch M4 L))) → body L x M)
    {s : zSt} {M : za_M} (hs : s.1 ≤ n) (hsl : s.2.length ≤ s.1) (hC : zxC M0 o s M) (hK : zxK M0 o (zlp T n F lev 50 s) K) : ch M (fun x M' => ∃ q, za_lp1 body q x M') := by
  have h50 := h0.2.2.1
  have key : ∀ (m : Nat) (x : Int32) (M : za_M), ((x = 0 ∧ K M) ∨ (∃ s : zSt, s.1 < n ∧ 50 ≤ m + s.1 ∧ zlvo (zny T n s.1) = nI lev ∧ x = nI (zcd (zny T n s.1)) ∧ zxC M0 o (s.1 + 1, s.2) M ∧ s.2.length ≤ s.1 ∧ zxK M0 o (zlp T n F lev m s) K)) → ∃ q, za_lp1 body q x M := by
    refine za_lp1_ind (fun m x M => (x = 0 ∧ K M) ∨ (∃ s : zSt, s.1 < n ∧ 50 ≤ m + s.1 ∧ zlvo (zny T n s.1) = nI lev ∧ x = nI (zcd (zny T n s.1)) ∧ zxC M0 o (s.1 + 1, s.2) M ∧ s.2.length ≤ s.1 ∧ zxK M0 o (zlp T n F lev m s) K)) ?_ ?_
    · intro x M1 hI L
      rcases hI with ⟨rfl, hk⟩ | ⟨s, e1, e2, _⟩
      · exact hb L _ _ (fun _ => hk) (fun z => absurd (by decide) z)
      · omega
    · intro m x M1 hI L hL
      rcases hI with ⟨rfl, hk⟩ | ⟨s, e1, e2, e3, e4, e5, e6, e7⟩
      · exact hb L _ _ (fun _ => hk) (fun z => absurd (by decide) z)
      · subst e4
        refine hb L _ _ (fun z => absurd z (zcd_pos _)) (fun _ => ?_)
        unfold zlp at e7
        rw [if_pos e3] at e7
        obtain ⟨g1, g2, g3⟩ := hg (s.1 + 1, s.2) e1
        refine h (s.1 + 1, s.2) _ _ e1 (Nat.le_succ_of_le e6) e5 ⟨fun z M2 hM => ?_, fun z M2 hM => ?_⟩
        · rw [if_pos z] at e7
          obtain ⟨g4, g, g5, g6, _⟩ := g3 z
          have g5 : (F (s.1 + 1, s.2)).2.2 = s.2 ++ g := g5
          have g6 : g.length + (s.1 + 1) ≤ (F (s.1 + 1, s.2)).2.1 := g6
          have gl : (F (s.1 + 1, s.2)).2.2.length = s.2.length + g.length := by rw [g5, List.length_append]
          refine zx_cod hM (by omega) rfl (fun M3 hM3 => ?_)
          have hl2 : ((F (s.1 + 1, s.2)).2.2 ++ [zcd (zny T n s.1)]).length ≤ (F (s.1 + 1, s.2)).2.1 := by
            rw [List.length_append, List.length_singleton]
            omega
          refine cY ((F (s.1 + 1, s.2)).2.1, (F (s.1 + 1, s.2)).2.2 ++ [zcd (zny T n s.1)]) _ _ hM3 g1 (fun w M4 hM4 => ?_) (fun w M4 hM4 => ?_)
          · exact hL _ _ (Or.inr ⟨_, zlvo_lt hl w, by show 50 ≤ m + (F (s.1 + 1, s.2)).2.1; omega, w, rfl, hM4, hl2, e7⟩)
          · refine hL _ _ (Or.inl ⟨rfl, ?_⟩)
            cases m with
            | zero => exact e7.1 rfl _ hM4
            | succ m =>
              unfold zlp at e7
              rw [if_neg w] at e7
              exact e7.1 rfl _ hM4
        · rw [if_neg (by rw [z]; decide)] at e7
          exact zx_codX hM (cX _ _ _ hM (fun M4 hM4 => hL _ _ (Or.inl ⟨rfl, e7.2 rfl _ hM4⟩)))
  refine cY s M _ hC hs (fun w M1 hM1 => ?_) (fun w M1 hM1 => ?_)
  · exact key 50 _ _ (Or.inr ⟨s, zlvo_lt hl w, by omega, w, rfl, hM1, hsl, hK⟩)
  · refine key 0 _ _ (Or.inl ⟨rfl, ?_⟩)
    unfold zlp at hK
    rw [if_neg w] at hK
    exact hK.1 rfl _ hM1
theorem zx_prod (h0 : zx0 T n u M0) {o d : Nat} {P : zSt → Bool × zSt} (hg : zgF n P) (h : zxS n M0 o P (f_X10_one d)) (hd : zxD M0 (f_X10_one d)) : zxS n M0 o (zlv T n P 1) (f_X10_product (d + 1)) := by
  intro s M K s1 s2 hC hK
  show fb_X10_product (f_X10_either d) (f_X10_both d) (f_X10_compared d) (f_X10_sum d) (f_X10_product d) (f_X10_one d) M K
  unfold fb_X10_product
  obtain ⟨g1, g2, g3⟩ := hg s s1
  unfold zlv zlv at hK
  refine h s M _ s1 s2 hC ⟨fun z M1 hM => ?_, fun z M1 hM => ?_⟩
  · rw [if_pos z] at hK
    obtain ⟨g4, g, g5, g6, _⟩ := g3 z
    have gl : (P s).2.2.length = s.2.length + g.length := by rw [g5, List.length_append]
    exact zx_lpA h0 (lev := 4) (o := o) (F := P) (R := f_X10_one d) (by decide) hg h hd (ch := fun M G => f_X10_takes 42 M (fun r1 M1 => if r1 = 0 then (f_X10_takes 47 M1 (fun r2 M2 => if r2 = 0 then (f_X10_takes 37 M2 (fun r3 M3 => if r3 = 0 then (G 0 M3) else (G 20009 M3))) else (G 20008 M2))) else (G 20007 M1)))
      (fun s M G a b c e => zx_ch4 h0 a b c e) (fun a M G b c => zx_ch4X b c) (K := K) (body := f_X10_product_b51 (f_X10_either d) (f_X10_both d) (f_X10_compared d) (f_X10_sum d) (f_X10_product d) (f_X10_one d) K)
      (fun L x M a b => by
        unfold f_X10_product_b51
        by_cases q : x ≤ 0
        · rw [if_pos q]; exact a q
        · rw [if_neg q]; exact b q) g1 (by omega) hM hK
  · rw [if_neg (by rw [z]; decide)] at hK
    refine zx_ch4X (G := fun v M => f_X10_product_b50 _ _ _ _ _ _ K v M) hM (fun M2 hM2 => ⟨1, ?_⟩)
    show f_X10_product_b51 _ _ _ _ _ _ K _ 0 M2
    unfold f_X10_product_b51
    rw [if_pos (by decide)]
    exact hK.2 rfl _ hM2
theorem zx_prodD {d : Nat} (hd : zxD M0 (f_X10_one d)) : zxD M0 (f_X10_product (d + 1)) := by
  intro a M K hX hK
  show fb_X10_product (f_X10_either d) (f_X10_both d) (f_X10_compared d) (f_X10_sum d) (f_X10_product d) (f_X10_one d) M K
  unfold fb_X10_product
  refine hd a M _ hX (fun M1 hM => ?_)
  refine zx_ch4X (G := fun v M => f_X10_product_b50 _ _ _ _ _ _ K v M) hM (fun M2 hM2 => ⟨1, ?_⟩)
  show f_X10_product_b51 _ _ _ _ _ _ K _ 0 M2
  unfold f_X10_product_b51
  rw [if_pos (by decide)]
  exact hK _ hM2
theorem zx_sum (h0 : zx0 T n u M0) {o d : Nat} {P : zSt → Bool × zSt} (hg : zgF n (zlv T n P 1)) (h : zxS n M0 o (zlv T n P 1) (f_X10_product d)) (hd : zxD M0 (f_X10_product d)) : zxS n M0 o (zlv T n P 2) (f_X10_sum (d + 1)) := by
  intro s M K s1 s2 hC hK
  show fb_X10_sum (f_X10_either d) (f_X10_both d) (f_X10_compared d) (f_X10_sum d) (f_X10_product d) (f_X10_one d) M K
  unfold fb_X10_sum
  obtain ⟨g1, g2, g3⟩ := hg s s1
  rw [show zlv T n P 2 s = if (zlv T n P 1 s).1 = true then zlp T n (zlv T n P 1) 3 50 (zlv T n P 1 s).2 else (false, (zlv T n P 1 s).2) from rfl] at hK
  generalize zlv T n P 1 = F at *
  refine h s M _ s1 s2 hC ⟨fun z M1 hM => ?_, fun z M1 hM => ?_⟩
  · rw [if_pos z] at hK
    obtain ⟨g4, g, g5, g6, _⟩ := g3 z
    have gl : (F s).2.2.length = s.2.length + g.length := by rw [g5, List.length_append]
    exact zx_lpA h0 (lev := 3) (o := o) (F := F) (R := f_X10_product d) (by decide) hg h hd (ch := fun M G => f_X10_takes 43 M (fun r1 M1 => if r1 = 0 then (f_X10_takes 45 M1 (fun r2 M2 => if r2 = 0 then (G 0 M2) else (G 20006 M2))) else (G 20005 M1)))
      (fun s M G a b c e => zx_ch3 h0 a b c e) (fun a M G b c => zx_ch3X b c) (K := K) (body := f_X10_sum_b36 (f_X10_either d) (f_X10_both d) (f_X10_compared d) (f_X10_sum d) (f_X10_product d) (f_X10_one d) K)
      (fun L x M a b => by
        unfold f_X10_sum_b36
        by_cases q : x ≤ 0
        · rw [if_pos q]; exact a q
        · rw [if_neg q]; exact b q) g1 (by omega) hM hK
  · rw [if_neg (by rw [z]; decide)] at hK
    refine zx_ch3X (G := fun v M => f_X10_sum_b35 _ _ _ _ _ _ K v M) hM (fun M2 hM2 => ⟨1, ?_⟩)
    show f_X10_sum_b36 _ _ _ _ _ _ K _ 0 M2
    unfold f_X10_sum_b36
    rw [if_pos (by decide)]
    exact hK.2 rfl _ hM2
theorem zx_sumD {d : Nat} (hd : zxD M0 (f_X10_product d)) : zxD M0 (f_X10_sum (d + 1)) := by
  intro a M K hX hK
  show fb_X10_sum (f_X10_either d) (f_X10_both d) (f_X10_compared d) (f_X10_sum d) (f_X10_product d) (f_X10_one d) M K
  unfold fb_X10_sum
  refine hd a M _ hX (fun M1 hM => ?_)
  refine zx_ch3X (G := fun v M => f_X10_sum_b35 _ _ _ _ _ _ K v M) hM (fun M2 hM2 => ⟨1, ?_⟩)
  show f_X10_sum_b36 _ _ _ _ _ _ K _ 0 M2
  unfold f_X10_sum_b36
  rw [if_pos (by decide)]
  exact hK _ hM2
theorem zx_comp (h0 : zx0 T n u M0) {o d : Nat} {P : zSt → Bool × zSt} (hg : zgF n (zlv T n P 2)) (h : zxS n M0 o (zlv T n P 2) (f_X10_sum d)) : zxS n M0 o (zlv T n P 3) (f_X10_compared (d + 1)) := by
  have h50 := h0.2.2.1
  intro s M K s1 s2 hC hK
  show fb_X10_compared (f_X10_either d) (f_X10_both d) (f_X10_compared d) (f_X10_sum d) (f_X10_product d) (f_X10_one d) M K
  unfold fb_X10_compared
  obtain ⟨g1, g2, g3⟩ := hg s s1
  rw [show zlv T n P 3 s = if (zlv T n P 2 s).1 = true then zlp T n (zlv T n P 2) 2 1 (zlv T n P 2 s).2 else (false, (zlv T n P 2 s).2) from rfl] at hK
  generalize zlv T n P 2 = F at *
  refine h s M _ s1 s2 hC ⟨fun z M1 hM => ?_, fun z M1 hM => ?_⟩
  · rw [if_pos z] at hK
    obtain ⟨g4, g, g5, g6, _⟩ := g3 z
    have gl : (F s).2.2.length = s.2.length + g.length := by rw [g5, List.length_append]
    generalize hs' : (F s).2 = s' at *
    unfold zlp at hK
    refine zx_ch2 h0 (s := s') (G := fun v M => f_X10_compared_b50 _ _ _ _ _ _ K v M) hM g1 (fun w M2 hM2 => ?_) (fun w M2 hM2 => ?_)
    · rw [if_pos (show zlvo (zny T n s'.1) = nI 2 from w)] at hK
      show f_X10_compared_b50 _ _ _ _ _ _ K _ M2
      unfold f_X10_compared_b50
      rw [if_neg (zcd_pos _)]
      have hlt : s'.1 < n := zlvo_lt (lev := 2) (by decide) w
      obtain ⟨i1, i2, i3⟩ := hg (s'.1 + 1, s'.2) hlt
      refine h (s'.1 + 1, s'.2) _ _ hlt (by show s'.2.length ≤ s'.1 + 1; omega) hM2 ⟨fun y M3 hM3 => ?_, fun y M3 hM3 => ?_⟩
      · rw [if_pos y] at hK
        obtain ⟨j4, g', j5, j6, _⟩ := i3 y
        have j5 : (F (s'.1 + 1, s'.2)).2.2 = s'.2 ++ g' := j5
        have j6 : g'.length + (s'.1 + 1) ≤ (F (s'.1 + 1, s'.2)).2.1 := j6
        have jl : (F (s'.1 + 1, s'.2)).2.2.length = s'.2.length + g'.length := by rw [j5, List.length_append]
        exact zx_cod hM3 (by omega) rfl (fun M4 hM4 => hK.1 rfl _ hM4)
      · rw [if_neg (by rw [y]; decide)] at hK
        exact zx_codX hM3 (hK.2 rfl _ hM3)
    · rw [if_neg (show ¬ zlvo (zny T n s'.1) = nI 2 from w)] at hK
      show f_X10_compared_b50 _ _ _ _ _ _ K 0 M2
      unfold f_X10_compared_b50
      rw [if_pos (by decide)]
      exact hK.1 rfl _ hM2
  · rw [if_neg (by rw [z]; decide)] at hK
    refine zx_ch2X (G := fun v M => f_X10_compared_b50 _ _ _ _ _ _ K v M) hM (fun M2 hM2 => ?_)
    show f_X10_compared_b50 _ _ _ _ _ _ K 0 M2
    unfold f_X10_compared_b50
    rw [if_pos (by decide)]
    exact hK.2 rfl _ hM2
theorem zx_compD {d : Nat} (hd : zxD M0 (f_X10_sum d)) : zxD M0 (f_X10_compared (d + 1)) := by
  intro a M K hX hK
  show fb_X10_compared (f_X10_either d) (f_X10_both d) (f_X10_compared d) (f_X10_sum d) (f_X10_product d) (f_X10_one d) M K
  unfold fb_X10_compared
  refine hd a M _ hX (fun M1 hM => ?_)
  refine zx_ch2X (G := fun v M => f_X10_compared_b50 _ _ _ _ _ _ K v M) hM (fun M2 hM2 => ?_)
  show f_X10_compared_b50 _ _ _ _ _ _ K 0 M2
  unfold f_X10_compared_b50
  rw [if_pos (by decide)]
  exact hK _ hM2
/-- a loop of a level with one sign (both, either) -/
theorem zx_lpB (h0 : zx0 T n u M0) {o lev : Nat} {sg cd : Int32} {F : zSt → Bool × zSt} {R : za_M → (za_M → Prop) → Prop} (hl : lev < 5) (hsg : ∀ c, zlvo c = nI lev ↔ c = sg) (hm1 : ¬ (-1) = sg) (hcd : cd = nI (zcd sg)) (hg : zgF n F) (h : zxS n M0 o F R) (hd : zxD M0 R)
    {K : za_M → Prop} {body : (za_M → Prop) → za_M → Prop} (hb : ∀ (L : za_M → Prop) (M : za_M), f_X10_takes sg M (fun r2 M1 => if r2 = 0 then (K M1) else (R M1 (fun M4 => f_X10_codes cd M4 (fun M6 => L M6)))) → body L M) :
    (∀ (s : zSt) (M : za_M), s.1 ≤ n → s.2.length ≤ s.1 → zxC M0 o s M → zxK M0 o (zlp T n F lev 50 s) K → ∃ q, za_lp0 body q M) ∧ (∀ (a : Nat) (M : za_M), zxX M0 a M → (∀ M', zxX M0 a M' → K M') → ∃ q, za_lp0 body q M) := by
  have h50 := h0.2.2.1
  have key : ∀ (m : Nat) (M : za_M), ((∃ a, zxX M0 a M ∧ (∀ M', zxX M0 a M' → K M')) ∨ (∃ s : zSt, s.1 ≤ n ∧ s.2.length ≤ s.1 ∧ 50 ≤ m + s.1 ∧ zxC M0 o s M ∧ zxK M0 o (zlp T n F lev m s) K)) → ∃ q, za_lp0 body q M := by
    have dead : ∀ (L : za_M → Prop) (M : za_M), (∃ a, zxX M0 a M ∧ (∀ M', zxX M0 a M' → K M')) → body L M := by
      intro L M ⟨a, hX, hK⟩
      refine hb L M (zx_takX hX hm1 (fun M1 h1 => ?_))
      rw [if_pos rfl]
      exact hK _ h1
    refine za_lp0_ind (fun m M => (∃ a, zxX M0 a M ∧ (∀ M', zxX M0 a M' → K M')) ∨ (∃ s : zSt, s.1 ≤ n ∧ s.2.length ≤ s.1 ∧ 50 ≤ m + s.1 ∧ zxC M0 o s M ∧ zxK M0 o (zlp T n F lev m s) K)) ?_ ?_
    · intro M1 hI L
      rcases hI with hI | ⟨s, e1, e2, e3, e4, e5⟩
      · exact dead L M1 hI
      · refine hb L M1 (zx_takN h0 e4 e1 (fun z => ?_) (fun M2 h2 => ?_))
        · have := zlvo_lt hl ((hsg _).mpr z)
          omega
        · rw [if_pos rfl]
          exact e5.1 rfl _ h2
    · intro m M1 hI L hL
      rcases hI with hI | ⟨s, e1, e2, e3, e4, e5⟩
      · exact dead L M1 hI
      · unfold zlp at e5
        by_cases q : zny T n s.1 = sg
        · rw [if_pos ((hsg _).mpr q)] at e5
          have hlt := zlvo_lt hl ((hsg _).mpr q)
          refine hb L M1 (zx_takY h0 e4 e1 q (fun M2 h2 => ?_))
          rw [if_neg (by decide)]
          obtain ⟨g1, g2, g3⟩ := hg (s.1 + 1, s.2) hlt
          refine h (s.1 + 1, s.2) _ _ hlt (Nat.le_succ_of_le e2) h2 ⟨fun z M3 hM => ?_, fun z M3 hM => ?_⟩
          · rw [if_pos z] at e5
            obtain ⟨g4, g, g5, g6, _⟩ := g3 z
            have g5 : (F (s.1 + 1, s.2)).2.2 = s.2 ++ g := g5
            have g6 : g.length + (s.1 + 1) ≤ (F (s.1 + 1, s.2)).2.1 := g6
            have gl : (F (s.1 + 1, s.2)).2.2.length = s.2.length + g.length := by rw [g5, List.length_append]
            refine zx_cod (c := zcd (zny T n s.1)) hM (by omega) (by rw [q]; exact hcd) (fun M4 hM4 => ?_)
            exact hL _ (Or.inr ⟨((F (s.1 + 1, s.2)).2.1, (F (s.1 + 1, s.2)).2.2 ++ [zcd (zny T n s.1)]), g1, by rw [List.length_append, List.length_singleton]; show _ ≤ (F (s.1 + 1, s.2)).2.1; omega, by show 50 ≤ m + (F (s.1 + 1, s.2)).2.1; omega, hM4, e5⟩)
          · rw [if_neg (by rw [z]; decide)] at e5
            exact zx_codX hM (hL _ (Or.inl ⟨_, hM, e5.2 rfl⟩))
        · rw [if_neg (fun z => q ((hsg _).mp z))] at e5
          refine hb L M1 (zx_takN h0 e4 e1 q (fun M2 h2 => ?_))
          rw [if_pos rfl]
          exact e5.1 rfl _ h2
  exact ⟨fun s M s1 s2 hC hK => key 50 M (Or.inr ⟨s, s1, s2, by omega, hC, hK⟩), fun a M hX hK => key 0 M (Or.inl ⟨a, hX, hK⟩)⟩
theorem zx_both (h0 : zx0 T n u M0) {o d : Nat} {P : zSt → Bool × zSt} (hg : zgF n (zlv T n P 3)) (h : zxS n M0 o (zlv T n P 3) (f_X10_compared d)) (hd : zxD M0 (f_X10_compared d)) : zxS n M0 o (zlv T n P 4) (f_X10_both (d + 1)) ∧ zxD M0 (f_X10_both (d + 1)) := by
  have lp := fun K => zx_lpB h0 (o := o) (lev := 1) (sg := 38) (cd := 20001) (F := zlv T n P 3) (R := f_X10_compared d) (by decide) (fun c => zlvo_1) (by decide) (by decide) hg h hd (K := K) (body := f_X10_both_b4 (f_X10_either d) (f_X10_both d) (f_X10_compared d) (f_X10_sum d) (f_X10_product d) (f_X10_one d) K) (fun L M w => w)
  refine ⟨fun s M K s1 s2 hC hK => ?_, fun a M K hX hK => ?_⟩
  · show fb_X10_both (f_X10_either d) (f_X10_both d) (f_X10_compared d) (f_X10_sum d) (f_X10_product d) (f_X10_one d) M K
    unfold fb_X10_both
    obtain ⟨g1, g2, g3⟩ := hg s s1
    rw [show zlv T n P 4 s = if (zlv T n P 3 s).1 = true then zlp T n (zlv T n P 3) 1 50 (zlv T n P 3 s).2 else (false, (zlv T n P 3 s).2) from rfl] at hK
    refine h s M _ s1 s2 hC ⟨fun z M1 hM => ?_, fun z M1 hM => ?_⟩
    · rw [if_pos z] at hK
      obtain ⟨g4, g, g5, g6, _⟩ := g3 z
      have gl : (zlv T n P 3 s).2.2.length = s.2.length + g.length := by rw [g5, List.length_append]
      exact (lp K).1 _ _ g1 (by omega) hM hK
    · rw [if_neg (by rw [z]; decide)] at hK
      exact (lp K).2 _ _ hM (hK.2 rfl)
  · show fb_X10_both (f_X10_either d) (f_X10_both d) (f_X10_compared d) (f_X10_sum d) (f_X10_product d) (f_X10_one d) M K
    unfold fb_X10_both
    exact hd a M _ hX (fun M1 hM => (lp K).2 _ _ hM hK)
theorem zx_either (h0 : zx0 T n u M0) {o d : Nat} {P : zSt → Bool × zSt} (hg : zgF n (zlv T n P 4)) (h : zxS n M0 o (zlv T n P 4) (f_X10_both d)) (hd : zxD M0 (f_X10_both d)) : zxS n M0 o (zlv T n P 5) (f_X10_either (d + 1)) ∧ zxD M0 (f_X10_either (d + 1)) := by
  have lp := fun K => zx_lpB h0 (o := o) (lev := 0) (sg := 124) (cd := 20000) (F := zlv T n P 4) (R := f_X10_both d) (by decide) (fun c => zlvo_0) (by decide) (by decide) hg h hd (K := K) (body := f_X10_either_b4 (f_X10_either d) (f_X10_both d) (f_X10_compared d) (f_X10_sum d) (f_X10_product d) (f_X10_one d) K) (fun L M w => w)
  refine ⟨fun s M K s1 s2 hC hK => ?_, fun a M K hX hK => ?_⟩
  · show fb_X10_either (f_X10_either d) (f_X10_both d) (f_X10_compared d) (f_X10_sum d) (f_X10_product d) (f_X10_one d) M K
    unfold fb_X10_either
    obtain ⟨g1, g2, g3⟩ := hg s s1
    rw [show zlv T n P 5 s = if (zlv T n P 4 s).1 = true then zlp T n (zlv T n P 4) 0 50 (zlv T n P 4 s).2 else (false, (zlv T n P 4 s).2) from rfl] at hK
    refine h s M _ s1 s2 hC ⟨fun z M1 hM => ?_, fun z M1 hM => ?_⟩
    · rw [if_pos z] at hK
      obtain ⟨g4, g, g5, g6, _⟩ := g3 z
      have gl : (zlv T n P 4 s).2.2.length = s.2.length + g.length := by rw [g5, List.length_append]
      exact (lp K).1 _ _ g1 (by omega) hM hK
    · rw [if_neg (by rw [z]; decide)] at hK
      exact (lp K).2 _ _ hM (hK.2 rfl)
  · show fb_X10_either (f_X10_either d) (f_X10_both d) (f_X10_compared d) (f_X10_sum d) (f_X10_product d) (f_X10_one d) M K
    unfold fb_X10_either
    exact hd a M _ hX (fun M1 hM => (lp K).2 _ _ hM hK)
/-- all levels above one -/
theorem zx_levs (h0 : zx0 T n u M0) {o d : Nat} {P : zSt → Bool × zSt} (hg : zgF n P) (h : zxS n M0 o P (f_X10_one d)) (hd : zxD M0 (f_X10_one d)) : zxS n M0 o (zlv T n P 5) (f_X10_either (d + 5)) ∧ zxD M0 (f_X10_either (d + 5)) := by
  have p := zx_prod h0 hg h hd
  have pD := zx_prodD hd
  have s := zx_sum h0 (zgF_lv (T := T) hg 1) p pD
  have sD := zx_sumD pD
  have c := zx_comp h0 (zgF_lv (T := T) hg 2) s
  have cD := zx_compD sD
  obtain ⟨b, bD⟩ := zx_both h0 (zgF_lv (T := T) hg 3) c cD
  exact zx_either h0 (zgF_lv (T := T) hg 4) b bD
end ZX2

/-! the class's county: what is put in it, and in the row -/
/-- only county c (and the laws' stacks) may have changed -/
def zg (c : Nat) (M M' : za_M) : Prop := (∀ x : za_L, ¬ (x.1 = 18 ∨ (x.2.1 = c ∧ (x.1 = 2 ∨ x.1 = 3 ∨ x.1 = 4 ∨ x.1 = 5 ∨ x.1 = 13))) → M'.1 x = M.1 x) ∧ ∀ d, d ≠ c → M'.2 d = M.2 d
theorem zg_rf (c : Nat) (M : za_M) : zg c M M := ⟨fun _ _ => rfl, fun _ _ => rfl⟩
theorem zg_tr {c : Nat} {M M1 M2 : za_M} (a : zg c M M1) (b : zg c M1 M2) : zg c M M2 := ⟨fun x h => (b.1 x h).trans (a.1 x h), fun d h => (b.2 d h).trans (a.2 d h)⟩
theorem zg_up {c k i j : Nat} {M : za_M} {v : Int32} (h : k = 2 ∨ k = 3 ∨ k = 4 ∨ k = 5 ∨ k = 13) : zg c M (za_up M (k, c, i) j v) := ⟨fun x hx => za_up_oth M j v (fun e => hx (by rw [e]; exact Or.inr ⟨rfl, h⟩)), fun _ _ => rfl⟩
theorem zg_uq {c k v : Nat} {M : za_M} : zg c M (za_uq M c k v) := ⟨fun _ _ => rfl, fun d h => za_uq_oth M k v h⟩
theorem zg_k {c : Nat} {M M' : za_M} (h : zk [18] M M') : zg c M M' := ⟨fun x hx => h.1 x (fun q => hx (Or.inl (List.mem_singleton.mp q))), fun d _ => by rw [h.2]⟩
theorem zc_cg {c : Nat} {N : Nat → Int32} {M M' : za_M} (h : zc c N M) (e : ∀ x : za_L, x.2.1 = c → (x.1 = 2 ∨ x.1 = 3 ∨ x.1 = 4 ∨ x.1 = 5 ∨ x.1 = 13) → M'.1 x = M.1 x) (e2 : M'.2 c = M.2 c) : zc c N M' := by
  obtain ⟨h1, h2, h3, h4, h5⟩ := h
  refine ⟨?_, fun a ha => ?_, fun p hp => ?_, fun l hl => ?_, ?_⟩
  · rw [e (2, c, 0) rfl (by simp)]
    exact h1
  · rw [e (3, c, a) rfl (by simp)]
    exact h2 a ha
  · rw [e (4, c, p) rfl (by simp), e (13, c, p) rfl (by simp)]
    exact h3 p hp
  · rw [e2, e (5, c, _) rfl (by simp)]
    exact h4 l hl
  · rw [e2]
    exact h5
theorem zc_k {c : Nat} {N : Nat → Int32} {M M' : za_M} (h : zc c N M) (k : zk [18] M M') : zc c N M' := zc_cg h (fun x _ hx => k.1 x (fun q => by have := List.mem_singleton.mp q; omega)) (by rw [k.2])
theorem zc_g {c d : Nat} {N : Nat → Int32} {M M' : za_M} (h : zc c N M) (k : zg d M M') (hd : c ≠ d) : zc c N M' := zc_cg h (fun x hc hx => k.1 x (fun q => by omega)) (k.2 c hd)
/-- the same county under another row that says the same of it -/
theorem zc_row {c : Nat} {N N' : Nat → Int32} {M : za_M} (hN : zN N) (h : zc c N M) (e : ∀ k, k < 105 → k ≠ 4 → k ≠ 5 → k ≠ 6 → N' k = N k) : zc c N' M := by
  have hA := (zs_cl hN.1.1 (by decide)).1
  have hP := (zs_cl hN.1.2.1 (by decide)).1
  have hL := (zs_cl hN.1.2.2.1 (by decide)).1
  obtain ⟨h1, h2, h3, h4, h5⟩ := h
  have e1 := e 1 (by omega) (by omega) (by omega) (by omega)
  have e2 := e 2 (by omega) (by omega) (by omega) (by omega)
  have e3 := e 3 (by omega) (by omega) (by omega) (by omega)
  refine ⟨by rw [e1, e2, e3, e 0 (by omega) (by omega) (by omega) (by omega)]; exact h1, fun a ha => ?_, fun p hp => ?_, fun l hl => ?_, h5⟩
  · rw [e1] at ha
    rw [e (7 + 4 * a) (by omega) (by omega) (by omega) (by omega), e (8 + 4 * a) (by omega) (by omega) (by omega) (by omega), e (9 + 4 * a) (by omega) (by omega) (by omega) (by omega), e (10 + 4 * a) (by omega) (by omega) (by omega) (by omega)]
    exact h2 a ha
  · rw [e2] at hp
    refine ⟨by rw [e (27 + 7 * p) (by omega) (by omega) (by omega) (by omega)]; exact (h3 p hp).1, by rw [e (28 + 7 * p) (by omega) (by omega) (by omega) (by omega)]; exact (h3 p hp).2.1, fun a ha => ?_⟩
    rw [e (29 + 7 * p + a) (by omega) (by omega) (by omega) (by omega)]
    exact (h3 p hp).2.2 a ha
  · rw [e3] at hl
    rw [e (55 + 5 * l) (by omega) (by omega) (by omega) (by omega), e (56 + 5 * l) (by omega) (by omega) (by omega) (by omega), e (57 + 5 * l) (by omega) (by omega) (by omega) (by omega), e (58 + 5 * l) (by omega) (by omega) (by omega) (by omega), e (59 + 5 * l) (by omega) (by omega) (by omega) (by omega)]
    exact h4 l hl
theorem zc_has {c p a : Nat} {N : Nat → Int32} {M : za_M} {v : Int32} (hN : zN N) (h : zc c N M) (hp : p < (N 2).toNatClampNeg) (ha : a < 5) : zc c (upd N (29 + 7 * p + a) v) (za_up M (13, c, p) a v) := by
  have hA := (zs_cl hN.1.1 (by decide)).1
  have hP := (zs_cl hN.1.2.1 (by decide)).1
  have hL := (zs_cl hN.1.2.2.1 (by decide)).1
  obtain ⟨h1, h2, h3, h4, h5⟩ := h
  have o : ∀ (k i : Nat), k ≠ 13 → (za_up M (13, c, p) a v).1 (k, c, i) = M.1 (k, c, i) := fun k i hk => za_up_oth M a v (by simp [hk])
  refine ⟨?_, fun b hb => ?_, fun q hq => ?_, fun l hl => ?_, h5⟩
  · rw [o 2 0 (by decide), zu_ne (by omega), zu_ne (by omega), zu_ne (by omega), zu_ne (by omega)]
    exact h1
  · rw [zu_ne (show 1 ≠ 29 + 7 * p + a by omega)] at hb
    rw [o 3 b (by decide), zu_ne (by omega), zu_ne (by omega), zu_ne (by omega), zu_ne (by omega)]
    exact h2 b hb
  · rw [zu_ne (show 2 ≠ 29 + 7 * p + a by omega)] at hq
    refine ⟨by rw [o 4 q (by decide), zu_ne (by omega)]; exact (h3 q hq).1, by rw [o 4 q (by decide), zu_ne (by omega)]; exact (h3 q hq).2.1, fun b hb => ?_⟩
    rw [zl_up]
    by_cases e : q = p ∧ b = a
    · rw [if_pos ⟨by rw [e.1], e.2⟩, e.1, e.2, zu_eq]
    · rw [if_neg (by simp only [Prod.mk.injEq]; omega), zu_ne (by omega)]
      exact (h3 q hq).2.2 b hb
  · rw [zu_ne (show 3 ≠ 29 + 7 * p + a by omega)] at hl
    rw [show (za_up M (13, c, p) a v).2 = M.2 from rfl, o 5 _ (by decide), zu_ne (by omega), zu_ne (by omega), zu_ne (by omega), zu_ne (by omega), zu_ne (by omega)]
    exact h4 l hl
theorem zc_pot {c p f : Nat} {N : Nat → Int32} {M : za_M} {v : Int32} (hN : zN N) (h : zc c N M) (hp : p < (N 2).toNatClampNeg) (hf : f = 1 ∨ f = 2) : zc c (upd N (26 + f + 7 * p) v) (za_up M (4, c, p) f v) := by
  have hA := (zs_cl hN.1.1 (by decide)).1
  have hP := (zs_cl hN.1.2.1 (by decide)).1
  have hL := (zs_cl hN.1.2.2.1 (by decide)).1
  obtain ⟨h1, h2, h3, h4, h5⟩ := h
  have o : ∀ (k i : Nat), k ≠ 4 → (za_up M (4, c, p) f v).1 (k, c, i) = M.1 (k, c, i) := fun k i hk => za_up_oth M f v (by simp [hk])
  refine ⟨?_, fun b hb => ?_, fun q hq => ?_, fun l hl => ?_, h5⟩
  · rw [o 2 0 (by decide), zu_ne (by omega), zu_ne (by omega), zu_ne (by omega), zu_ne (by omega)]
    exact h1
  · rw [zu_ne (show 1 ≠ 26 + f + 7 * p by omega)] at hb
    rw [o 3 b (by decide), zu_ne (by omega), zu_ne (by omega), zu_ne (by omega), zu_ne (by omega)]
    exact h2 b hb
  · rw [zu_ne (show 2 ≠ 26 + f + 7 * p by omega)] at hq
    refine ⟨?_, ?_, fun b hb => ?_⟩
    · rw [zl_up]
      by_cases e : q = p ∧ 1 = f
      · rw [if_pos ⟨by rw [e.1], e.2⟩, ← e.2, e.1, zu_eq]
      · rw [if_neg (by simp only [Prod.mk.injEq]; omega), zu_ne (by omega)]
        exact (h3 q hq).1
    · rw [zl_up]
      by_cases e : q = p ∧ 2 = f
      · rw [if_pos ⟨by rw [e.1], e.2⟩, ← e.2, e.1, zu_eq]
      · rw [if_neg (by simp only [Prod.mk.injEq]; omega), zu_ne (by omega)]
        exact (h3 q hq).2.1
    · rw [o 13 q (by decide), zu_ne (by omega)]
      exact (h3 q hq).2.2 b hb
  · rw [zu_ne (show 3 ≠ 26 + f + 7 * p by omega)] at hl
    rw [show (za_up M (4, c, p) f v).2 = M.2 from rfl, o 5 _ (by decide), zu_ne (by omega), zu_ne (by omega), zu_ne (by omega), zu_ne (by omega), zu_ne (by omega)]
    exact h4 l hl
theorem zc_ash {c a f : Nat} {N : Nat → Int32} {M : za_M} {v : Int32} (hN : zN N) (h : zc c N M) (ha : a < 5) (hf : f < 4) : zc c (upd N (7 + f + 4 * a) v) (za_up M (3, c, a) f v) := by
  have hA := (zs_cl hN.1.1 (by decide)).1
  have hP := (zs_cl hN.1.2.1 (by decide)).1
  have hL := (zs_cl hN.1.2.2.1 (by decide)).1
  obtain ⟨h1, h2, h3, h4, h5⟩ := h
  have o : ∀ (k i : Nat), k ≠ 3 → (za_up M (3, c, a) f v).1 (k, c, i) = M.1 (k, c, i) := fun k i hk => za_up_oth M f v (by simp [hk])
  refine ⟨?_, fun b hb => ?_, fun q hq => ?_, fun l hl => ?_, h5⟩
  · rw [o 2 0 (by decide), zu_ne (by omega), zu_ne (by omega), zu_ne (by omega), zu_ne (by omega)]
    exact h1
  · rw [zu_ne (show 1 ≠ 7 + f + 4 * a by omega)] at hb
    have hh := h2 b hb
    have g : ∀ j, j < 4 → M.1 (3, c, b) j = N (7 + j + 4 * b) → (za_up M (3, c, a) f v).1 (3, c, b) j = upd N (7 + f + 4 * a) v (7 + j + 4 * b) := by
      intro j hj e0
      rw [zl_up]
      by_cases e : b = a ∧ j = f
      · rw [if_pos ⟨by rw [e.1], e.2⟩, e.2, e.1, zu_eq]
      · rw [if_neg (by simp only [Prod.mk.injEq]; omega), zu_ne (by omega)]
        exact e0
    exact ⟨g 0 (by omega) hh.1, g 1 (by omega) hh.2.1, g 2 (by omega) hh.2.2.1, g 3 (by omega) hh.2.2.2⟩
  · rw [zu_ne (show 2 ≠ 7 + f + 4 * a by omega)] at hq
    refine ⟨by rw [o 4 q (by decide), zu_ne (by omega)]; exact (h3 q hq).1, by rw [o 4 q (by decide), zu_ne (by omega)]; exact (h3 q hq).2.1, fun b hb => ?_⟩
    rw [o 13 q (by decide), zu_ne (by omega)]
    exact (h3 q hq).2.2 b hb
  · rw [zu_ne (show 3 ≠ 7 + f + 4 * a by omega)] at hl
    rw [show (za_up M (3, c, a) f v).2 = M.2 from rfl, o 5 _ (by decide), zu_ne (by omega), zu_ne (by omega), zu_ne (by omega), zu_ne (by omega), zu_ne (by omega)]
    exact h4 l hl
theorem zc_day {c : Nat} {N : Nat → Int32} {M : za_M} {v : Int32} (h : zc c N M) : zc c (upd N 0 v) (za_up M (2, c, 0) 6 v) := by
  obtain ⟨h1, h2, h3, h4, h5⟩ := h
  have o : ∀ (k i : Nat), k ≠ 2 → (za_up M (2, c, 0) 6 v).1 (k, c, i) = M.1 (k, c, i) := fun k i hk => za_up_oth M 6 v (by simp [hk])
  refine ⟨?_, fun b hb => ?_, fun q hq => ?_, fun l hl => ?_, h5⟩
  · rw [zu_ne (by omega), zu_ne (by omega), zu_ne (by omega), zu_eq]
    exact ⟨by simp [zl_up, h1.1], by simp [zl_up, h1.2.1], by simp [zl_up, h1.2.2.1], by simp [zl_up]⟩
  · rw [zu_ne (show 1 ≠ 0 by omega)] at hb
    rw [o 3 b (by decide), zu_ne (by omega), zu_ne (by omega), zu_ne (by omega), zu_ne (by omega)]
    exact h2 b hb
  · rw [zu_ne (show 2 ≠ 0 by omega)] at hq
    refine ⟨by rw [o 4 q (by decide), zu_ne (by omega)]; exact (h3 q hq).1, by rw [o 4 q (by decide), zu_ne (by omega)]; exact (h3 q hq).2.1, fun b hb => ?_⟩
    rw [o 13 q (by decide), zu_ne (by omega)]
    exact (h3 q hq).2.2 b hb
  · rw [zu_ne (show 3 ≠ 0 by omega)] at hl
    rw [show (za_up M (2, c, 0) 6 v).2 = M.2 from rfl, o 5 _ (by decide), zu_ne (by omega), zu_ne (by omega), zu_ne (by omega), zu_ne (by omega), zu_ne (by omega)]
    exact h4 l hl
/-- the row of a loan that is gone goes behind the others -/
def zsh (P : Nat → Nat) (l h : Nat) : Nat → Nat := fun j => if l ≤ j ∧ j < h then P (j + 1) % 10 else P j
theorem zc_drop {c l : Nat} {N : Nat → Int32} {M : za_M} {K : za_M → Prop} (hN : zN N) (h : zc c N M) (hl : l < (N 3).toNatClampNeg) (k : ∀ M', zc c (zgo N l) M' → zg c M M' → M'.1 = (za_up M (2, c, 0) 5 (N 3 - 1)).1 → K M') : f_X1_drop c (nI l) M K := by
  have h3 := zs_cl hN.1.2.2.1 (by decide)
  obtain ⟨n, hn⟩ : ∃ n, (N 3).toNatClampNeg = n + 1 := ⟨(N 3).toNatClampNeg - 1, by omega⟩
  have e3 : N 3 = nI (n + 1) := by rw [h3.2, hn]
  have hb : n < 10 := by omega
  have h0 := h
  obtain ⟨h1, h2, h4, h5, h6⟩ := h
  unfold f_X1_drop
  refine ⟨vp_in_nI (by omega) (by decide), ?_⟩
  rw [nI_clamp (by omega)]
  unfold za_let
  rw [nI_1]
  have key : ∀ (s : Nat) (x : Int32) (M' : za_M), (∃ i, l ≤ i ∧ i + s = n ∧ x = nI (i + 1) ∧ M'.1 = M.1 ∧ M'.2 c = zsh (M.2 c) l i ∧ ∀ d, d ≠ c → M'.2 d = M.2 d) → ∃ q, za_lp1 (f_X1_drop_b11 K c (M.2 c l % 10)) q x M' := by
    refine za_lp1_ind (fun s x M' => ∃ i, l ≤ i ∧ i + s = n ∧ x = nI (i + 1) ∧ M'.1 = M.1 ∧ M'.2 c = zsh (M.2 c) l i ∧ ∀ d, d ≠ c → M'.2 d = M.2 d) ?_ ?_
    · intro x M' ⟨i, i1, i2, e1, e2, e4, e5⟩ L
      subst e1
      have ei : i = n := by omega
      subst ei
      unfold f_X1_drop_b11
      rw [e2, h1.2.2.1, e3, if_pos (nI_le (by omega) (by omega))]
      unfold za_let
      rw [nI_pred]
      have er : (za_up M' (2, c, 0) 5 (nI i)).1 (2, c, 0) 5 = nI i := by simp [zl_up]
      try dsimp only
      rw [er]
      refine ⟨vp_in_nI (by omega) (by decide), ?_⟩
      rw [nI_clamp (by omega)]
      generalize hM2 : za_uq (za_up M' (2, c, 0) 5 (nI i)) c i (M.2 c l % 10) = M2
      have f1 : M2.1 = (za_up M (2, c, 0) 5 (nI i)).1 := by
        rw [← hM2]
        show (za_up M' (2, c, 0) 5 (nI i)).1 = _
        unfold za_up
        rw [e2]
      have f2 : ∀ j, M2.2 c j = if j = i then M.2 c l % 10 else zsh (M.2 c) l i j := by
        intro j
        rw [← hM2, zl_uq, zl_up2, e4]
        by_cases q : j = i
        · rw [if_pos ⟨rfl, q⟩, if_pos q]
        · rw [if_neg (fun r => q r.2), if_neg q]
      have f3 : ∀ d, d ≠ c → M2.2 d = M.2 d := by
        intro d hd
        rw [← hM2]
        exact (za_uq_oth _ i _ hd).trans (e5 d hd)
      have fm : ∀ j, M2.2 c j % 10 = M.2 c (if j = i then l else if l ≤ j ∧ j < i then j + 1 else j) % 10 := by
        intro j
        rw [f2]
        unfold zsh
        by_cases q : j = i
        · rw [if_pos q, if_pos q, Nat.mod_mod]
        · rw [if_neg q, if_neg q]
          by_cases r : l ≤ j ∧ j < i
          · rw [if_pos r, if_pos r, Nat.mod_mod]
          · rw [if_neg r, if_neg r]
      have o : ∀ (k2 i2 : Nat), k2 ≠ 2 → M2.1 (k2, c, i2) = M.1 (k2, c, i2) := fun k2 i2 hk => by rw [f1]; exact za_up_oth M 5 _ (by simp [hk])
      refine k M2 ⟨?_, fun a ha => ?_, fun p hp => ?_, fun j hj => ?_, fun a b ha hb2 e => ?_⟩ ⟨fun x hx => ?_, f3⟩ (by rw [f1, e3, nI_pred])
      · rw [zgo_lo N (by omega) (by omega), zgo_lo N (k := 2) (by omega) (by omega), zgo_lo N (k := 0) (by omega) (by omega), zgo_3 e3, f1]
        exact ⟨by simp [zl_up, h1.1], by simp [zl_up, h1.2.1], by simp [zl_up], by simp [zl_up, h1.2.2.2]⟩
      · have hA := (zs_cl hN.1.1 (by decide)).1
        rw [zgo_lo N (by omega) (by omega)] at ha
        rw [o 3 a (by decide), zgo_lo N (by omega) (by omega), zgo_lo N (by omega) (by omega), zgo_lo N (by omega) (by omega), zgo_lo N (by omega) (by omega)]
        exact h2 a ha
      · have hP := (zs_cl hN.1.2.1 (by decide)).1
        rw [zgo_lo N (by omega) (by omega)] at hp
        refine ⟨by rw [o 4 p (by decide), zgo_lo N (by omega) (by omega)]; exact (h4 p hp).1, by rw [o 4 p (by decide), zgo_lo N (by omega) (by omega)]; exact (h4 p hp).2.1, fun a ha => ?_⟩
        rw [o 13 p (by decide), zgo_lo N (by omega) (by omega)]
        exact (h4 p hp).2.2 a ha
      · rw [zgo_3 e3, nI_clamp (by omega)] at hj
        have g := fun f hf => zgo_mid (l := l) (j := j) (f := f) e3 hb hj hf
        have g0 := g 0 (by omega)
        have g1 := g 1 (by omega)
        have g2 := g 2 (by omega)
        have g3 := g 3 (by omega)
        have g4 := g 4 (by omega)
        rw [o 5 _ (by decide), fm j, if_neg (show ¬ j = i by omega), show 55 + 5 * j = 55 + 5 * j + 0 by omega, show 56 + 5 * j = 55 + 5 * j + 1 by omega, show 57 + 5 * j = 55 + 5 * j + 2 by omega, show 58 + 5 * j = 55 + 5 * j + 3 by omega, show 59 + 5 * j = 55 + 5 * j + 4 by omega, g0, g1, g2, g3, g4]
        by_cases q : j < l
        · rw [if_pos q, if_pos q, if_pos q, if_pos q, if_pos q, if_neg (show ¬ (l ≤ j ∧ j < i) by omega)]
          have := h5 j (by omega)
          rw [show 55 + 5 * j = 55 + 5 * j + 0 by omega, show 56 + 5 * j = 55 + 5 * j + 1 by omega, show 57 + 5 * j = 55 + 5 * j + 2 by omega, show 58 + 5 * j = 55 + 5 * j + 3 by omega, show 59 + 5 * j = 55 + 5 * j + 4 by omega] at this
          exact this
        · rw [if_neg q, if_neg q, if_neg q, if_neg q, if_neg q, if_pos (show l ≤ j ∧ j < i by omega)]
          have := h5 (j + 1) (by omega)
          rw [show 55 + 5 * (j + 1) = 55 + 5 * (j + 1) + 0 by omega, show 56 + 5 * (j + 1) = 55 + 5 * (j + 1) + 1 by omega, show 57 + 5 * (j + 1) = 55 + 5 * (j + 1) + 2 by omega, show 58 + 5 * (j + 1) = 55 + 5 * (j + 1) + 3 by omega, show 59 + 5 * (j + 1) = 55 + 5 * (j + 1) + 4 by omega] at this
          exact this
      · rw [fm a, fm b] at e
        have hx : ∀ z, z < 10 → (if z = i then l else if l ≤ z ∧ z < i then z + 1 else z) < 10 := by
          intro z hz
          split
          · omega
          · split <;> omega
        have e9 := h6 _ _ (hx a ha) (hx b hb2) e
        revert e9
        split <;> split <;> (try split) <;> (try split) <;> omega
      · rw [f1]
        exact za_up_oth M 5 _ (fun e => hx (by rw [e]; exact Or.inr ⟨rfl, Or.inl rfl⟩))
    · intro s x M' ⟨i, i1, i2, e1, e2, e4, e5⟩ L hL
      subst e1
      unfold f_X1_drop_b11
      rw [e2, h1.2.2.1, e3, if_neg (by rw [nI_leI (by omega) (by omega)]; omega)]
      refine ⟨vp_in_nI (by omega) (by decide), ?_⟩
      rw [nI_pred]
      refine ⟨vp_in_nI (by omega) (by decide), ?_⟩
      unfold za_let
      rw [nI_clamp (by omega), nI_clamp (by omega), nI_1]
      refine hL _ _ ⟨i + 1, by omega, by omega, rfl, e2, ?_, fun d hd => (za_uq_oth _ _ _ hd).trans (e5 d hd)⟩
      funext j
      rw [zl_uq, e4]
      unfold zsh
      by_cases q : j = i
      · rw [if_pos ⟨rfl, q⟩, q, if_neg (show ¬ (l ≤ i + 1 ∧ i + 1 < i) by omega), if_pos (show l ≤ i ∧ i < i + 1 by omega)]
      · rw [if_neg (fun r => q r.2)]
        by_cases r : l ≤ j ∧ j < i
        · rw [if_pos r, if_pos (by omega)]
        · rw [if_neg r, if_neg (by omega)]
  exact key (n - l) _ _ ⟨l, by omega, by omega, rfl, rfl, by funext j; unfold zsh; rw [if_neg (by omega)], fun _ _ => rfl⟩

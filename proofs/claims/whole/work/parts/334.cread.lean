/-! the class's reader does as the reader of numbers -/
section ZY
variable {T : Nat → Nat} {n u : Nat} {M0 : za_M}
def zyF (M0 M : za_M) : Prop := (∀ x, x ≠ (7, 0, 0) → x ≠ (20, 0, 0) → M.1 x = M0.1 x) ∧ (∀ j, j ≠ 3 → j ≠ 5 → M.1 (7, 0, 0) j = M0.1 (7, 0, 0) j) ∧ M.2 = M0.2
def zyC (M0 : za_M) (s : zSt) (M : za_M) : Prop := zyF M0 M ∧ M.1 (7, 0, 0) 5 = nI s.1 ∧ M.1 (7, 0, 0) 3 = nI s.2.length ∧ ∀ i, i < s.2.length → M.1 (20, 0, 0) i = zdec (s.2.getD i 0)
def zyX (M0 : za_M) (a : Nat) (M : za_M) : Prop := zyF M0 M ∧ M.1 (7, 0, 0) 5 = nI a ∧ zs (M.1 (7, 0, 0) 3) 51
def zy0 (T : Nat → Nat) (n u : Nat) (M0 : za_M) : Prop := M0.1 (7, 0, 0) 2 = nI n ∧ M0.1 (7, 0, 0) 4 = nI u ∧ n ≤ 50 ∧ u < 2 ∧ ∀ i, i < n → T i < 256 ∧ M0.1 (19, 0, 0) i = nI (T i)
def zyK (M0 : za_M) (r : Bool × zSt) (K : Int32 → za_M → Prop) : Prop := (r.1 = true → ∀ M', zyC M0 r.2 M' → K 1 M') ∧ (r.1 = false → ∀ M', zyX M0 r.2.1 M' → K 0 M')
def zyS (n : Nat) (M0 : za_M) (F : zSt → Bool × zSt) (R : za_M → (Int32 → za_M → Prop) → Prop) : Prop := ∀ (s : zSt) (M : za_M) (K : Int32 → za_M → Prop), s.1 ≤ n → s.2.length ≤ s.1 → zyC M0 s M → zyK M0 (F s) K → R M K
theorem zyC_X {s : zSt} {M : za_M} (h : zyC M0 s M) (hl : s.2.length ≤ 50) : zyX M0 s.1 M := ⟨h.1, h.2.1, by rw [h.2.2.1]; exact zs_nI (by omega)⟩
theorem zyF_up {M : za_M} {k : Nat} {v : Int32} (h : zyF M0 M) (hk : k = 3 ∨ k = 5) : zyF M0 (za_up M (7, 0, 0) k v) := by
  refine ⟨fun x a b => ?_, fun j a b => ?_, h.2.2⟩
  · rw [za_up_oth _ _ _ a]; exact h.1 x a b
  · rw [za_up_row, zu_ne (by omega)]; exact h.2.1 j a b
theorem zyF_u2 {M : za_M} {k : Nat} {v : Int32} (h : zyF M0 M) : zyF M0 (za_up M (20, 0, 0) k v) := by
  refine ⟨fun x a b => ?_, fun j a b => ?_, h.2.2⟩
  · rw [za_up_oth _ _ _ b]; exact h.1 x a b
  · rw [za_up_oth _ _ _ (by decide)]; exact h.2.1 j a b
theorem zyC_st {s : zSt} {M : za_M} {a : Nat} {v : Int32} (h : zyC M0 s M) (e : v = nI a) : zyC M0 (a, s.2) (za_up M (7, 0, 0) 5 v) := by
  refine ⟨zyF_up h.1 (Or.inr rfl), ?_, ?_, fun i hi => ?_⟩
  · rw [za_up_row, zu_eq]; exact e
  · rw [za_up_row, zu_ne (by decide)]; exact h.2.2.1
  · rw [za_up_oth _ _ _ (by decide)]; exact h.2.2.2 i hi
theorem zyX_st {M : za_M} {b a : Nat} {v : Int32} (h : zyX M0 b M) (e : v = nI a) : zyX M0 a (za_up M (7, 0, 0) 5 v) := by
  refine ⟨zyF_up h.1 (Or.inr rfl), ?_, ?_⟩
  · rw [za_up_row, zu_eq]; exact e
  · rw [za_up_row, zu_ne (by decide)]; exact h.2.2
theorem zy_next (h0 : zy0 T n u M0) {a : Nat} {M : za_M} {K : Int32 → za_M → Prop} (hF : zyF M0 M) (ha : M.1 (7, 0, 0) 5 = nI a) (hn : a ≤ n) : f_X5_next M K = K (zny T n a) M := by
  obtain ⟨h1, h2, h3, h4, h5⟩ := h0
  unfold f_X5_next zny
  rw [ha, hF.2.1 2 (by decide) (by decide), h1]
  by_cases q : a < n
  · rw [if_pos q, if_neg (by rw [nI_leI (by omega) (by omega)]; omega), zx_in (by omega) (by decide), nI_clamp (by omega), hF.1 _ (by decide) (by decide), (h5 a q).2]
  · rw [if_neg q, if_pos (nI_le (by omega) (by omega))]
theorem zy_levelOf (c : Int32) (M : za_M) (K : Int32 → za_M → Prop) : f_X5_levelOf c M K = K (zlvo c) M := by
  unfold f_X5_levelOf zlvo
  (repeat' split) <;> rfl
theorem zy_isDigit (c : Int32) (M : za_M) (K : Int32 → za_M → Prop) : f_X5_isDigit c M K = K (zw c 48 57) M := by
  unfold f_X5_isDigit
  rw [zf_X9_within, eq_true (zw_B _ _ _), true_and]
theorem zy_addC {s : zSt} {M : za_M} {K : za_M → Prop} {x : Int32} {c : Nat} (h : zyC M0 s M) (hl : s.2.length < 50) (hx : x = zdec c) (k : ∀ M', zyC M0 (s.1, s.2 ++ [c]) M' → K M') : f_X5_add x M K := by
  obtain ⟨hF, h1, h2, h3⟩ := h
  simp only [f_X5_add, za_let]
  rw [h2, if_neg (show ¬ (50 : Int32) ≤ nI s.2.length by rw [zl_lit 50, nI_leI (by omega) (by omega)]; omega), zx_in hl (by decide), nI_clamp (by omega), za_up_oth _ _ _ (by decide), h2, nI_1]
  refine k _ ⟨zyF_up (zyF_u2 hF) (Or.inl rfl), ?_, ?_, fun i hi => ?_⟩
  · rw [za_up_row, zu_ne (by decide), za_up_oth _ _ _ (by decide)]; exact h1
  · rw [za_up_row, zu_eq, List.length_append]; rfl
  · rw [za_up_oth _ _ _ (by decide), za_up_row]
    rw [List.length_append, List.length_singleton] at hi
    by_cases q : i = s.2.length
    · rw [q, zu_eq, hx]
      congr 1
      simp
    · rw [zu_ne q, h3 i (by omega)]
      congr 1
      rw [List.getD_eq_getElem?_getD, List.getD_eq_getElem?_getD, List.getElem?_append_left (by omega)]
theorem zy_addX {a : Nat} {M : za_M} {K : za_M → Prop} {x : Int32} (h : zyX M0 a M) (k : ∀ M', zyX M0 a M' → K M') : f_X5_add x M K := by
  obtain ⟨hF, h1, ⟨w, hw, ew⟩⟩ := h
  simp only [f_X5_add, za_let]
  rw [ew]
  by_cases q : w < 50
  · rw [if_neg (show ¬ (50 : Int32) ≤ nI w by rw [zl_lit 50, nI_leI (by omega) (by omega)]; omega), zx_in q (by decide), nI_clamp (by omega), za_up_oth _ _ _ (by decide), ew, nI_1]
    refine k _ ⟨zyF_up (zyF_u2 hF) (Or.inl rfl), ?_, ?_⟩
    · rw [za_up_row, zu_ne (by decide), za_up_oth _ _ _ (by decide)]; exact h1
    · rw [za_up_row, zu_eq]; exact zs_nI (by omega)
  · rw [if_pos (show (50 : Int32) ≤ nI w by rw [zl_lit 50, nI_leI (by omega) (by omega)]; omega)]
    exact k _ ⟨hF, h1, ⟨w, hw, ew⟩⟩
theorem zy_num (h0 : zy0 T n u M0) {s : zSt} {M : za_M} {K : Int32 → za_M → Prop} (hs : s.1 ≤ n) (hl : s.2.length < 50) (h : zyC M0 s M) (k : ∀ M', zyC M0 ((zdgs T n 4 0 s.1).2, s.2 ++ [(zdgs T n 4 0 s.1).1]) M' → K 1 M') : f_X5_readNumber M K := by
  have hT : ∀ i, i < n → T i < 256 := fun i hi => (h0.2.2.2.2 i hi).1
  have h50 := h0.2.2.1
  unfold f_X5_readNumber
  refine za_lp2_ind (fun j x1 x2 M => ∃ v a, j ≤ 4 ∧ x2 = nI (4 - j) ∧ x1 = nI v ∧ v < 10 ^ (4 - j) ∧ a ≤ n ∧ zyC M0 (a, s.2) M ∧ ∀ M', zyC M0 ((zdgs T n j v a).2, s.2 ++ [(zdgs T n j v a).1]) M' → K 1 M') ?_ ?_ 4 0 0 M ⟨0, s.1, by omega, rfl, rfl, by decide, hs, h, k⟩
  · intro x1 x2 M1 ⟨v, a, e1, e2, e3, e4, e5, e6, e7⟩ L
    subst e2; subst e3
    unfold f_X5_readNumber_b4
    rw [if_pos (by decide)]
    have e4 : v < 10000 := e4
    exact zy_addC (c := v) e6 hl (by unfold zdec; rw [if_pos e4]) e7
  · intro j x1 x2 M1 ⟨v, a, e1, e2, e3, e4, e5, e6, e7⟩ L hL
    subst e2; subst e3
    have h4 : 10 ^ (4 - (j + 1)) ≤ 10 ^ 4 := Nat.pow_le_pow_right (by decide) (by omega)
    unfold f_X5_readNumber_b4
    rw [zl_lit 4, if_neg (by rw [nI_leI (by omega) (by omega)]; omega), zy_next h0 e6.1 e6.2.1 e5, zy_isDigit]
    unfold zdgs at e7
    by_cases q : zw (zny T n a) 48 57 = 1
    · rw [if_pos q] at e7
      rw [q, if_neg (by decide), zy_next h0 e6.1 e6.2.1 e5]
      obtain ⟨q1, q2, q3⟩ := zw_dig hT q
      have hp : 10 ^ (4 - j) = 10 * 10 ^ (4 - (j + 1)) := by rw [show 4 - j = (4 - (j + 1)) + 1 by omega, Nat.pow_succ, Nat.mul_comm]
      have ev : zny T n a = nI (T a) := if_pos q1
      simp only [za_let]
      rw [ev, zl_lit 10, pk_mul, nI_add, zl_lit 48, pk_sub (by omega), nI_1, show 4 - (j + 1) + 1 = 4 - j by omega, e6.2.1, nI_1, Nat.mul_comm v 10]
      exact hL _ _ _ ⟨10 * v + T a - 48, a + 1, by omega, rfl, rfl, by rw [hp]; omega, by omega, zyC_st (s := (a, s.2)) e6 rfl, e7⟩
    · have q0 : zw (zny T n a) 48 57 = 0 := by
        rcases zw_B (zny T n a) 48 57 with z | z
        · exact z
        · exact absurd z q
      rw [if_neg q] at e7
      rw [q0, if_pos rfl]
      exact zy_addC e6 hl (by unfold zdec; rw [if_pos (by omega)]) e7
theorem zy_nm1 (h0 : zy0 T n u M0) {i : Nat} (hi : i < 3) {M : za_M} (hF : zyF M0 M) {c : Int32} {K : Int32 → za_M → Prop} {L : Int32 → za_M → Prop} (h1 : za_t1 (3 * u + i) = c → f_X5_add ((-1) - nI i) (za_up M (7, 0, 0) 5 (M.1 (7, 0, 0) 5 + 1)) (fun M8 => K 1 M8)) (h2 : za_t1 (3 * u + i) ≠ c → L (nI (i + 1)) M) : f_X5_readName_b2 K c L (nI i) M := by
  obtain ⟨_, e4, _, hu, _⟩ := h0
  simp only [f_X5_readName_b2, za_let]
  rw [hF.2.1 4 (by decide) (by decide), e4, zl_lit 3, if_neg (by rw [nI_leI (by omega) (by omega)]; omega), pk_mul, nI_add, Nat.mul_comm u 3, zx_in (by omega) (by decide), nI_clamp (by omega), nI_1]
  by_cases q : za_t1 (3 * u + i) = c
  · rw [if_pos q]
    exact h1 q
  · rw [if_neg q]
    exact h2 q
theorem zy_name (h0 : zy0 T n u M0) {s : zSt} {M : za_M} {K : Int32 → za_M → Prop} {c : Int32} (hs : s.1 ≤ n) (hl : s.2.length < 50 ∨ ¬ znam u c < 3) (h : zyC M0 s M) (k1 : znam u c < 3 → ∀ M', zyC M0 (s.1 + 1, s.2 ++ [10000 + znam u c]) M' → K 1 M') (k2 : ¬ znam u c < 3 → K 0 M) : f_X5_readName c M K := by
  unfold f_X5_readName
  refine ⟨4, ?_⟩
  have go : ∀ i, i < 3 → znam u c = i → f_X5_add ((-1) - nI i) (za_up M (7, 0, 0) 5 (M.1 (7, 0, 0) 5 + 1)) (fun M8 => K 1 M8) := by
    intro i hi e
    have hl2 : s.2.length < 50 := by omega
    refine zy_addC (s := (s.1 + 1, s.2)) (c := 10000 + i) (zyC_st h (by rw [h.2.1, nI_1])) hl2 ?_ (fun M' hM => k1 (by omega) M' (by rw [e]; exact hM))
    have hc : i = 0 ∨ i = 1 ∨ i = 2 := by omega
    rcases hc with rfl | rfl | rfl <;> decide
  refine zy_nm1 h0 (i := 0) (by decide) h.1 (fun q => go 0 (by decide) (if_pos q)) (fun q0 => ?_)
  have q0 : ¬ za_t1 (3 * u) = c := q0
  refine zy_nm1 h0 (i := 1) (by decide) h.1 (fun q => go 1 (by decide) (by unfold znam; rw [if_neg q0, if_pos q])) (fun q1 => ?_)
  refine zy_nm1 h0 (i := 2) (by decide) h.1 (fun q => go 2 (by decide) (by unfold znam; rw [if_neg q0, if_neg q1, if_pos q])) (fun q2 => ?_)
  show f_X5_readName_b2 K c _ (nI 3) M
  unfold f_X5_readName_b2
  rw [if_pos (by decide)]
  refine k2 ?_
  unfold znam
  rw [if_neg q0, if_neg q1, if_neg q2]
  decide
theorem zy_loop (h0 : zy0 T n u M0) {lev d : Nat} {o : Int32} {F : zSt → Bool × zSt} (hl : lev < 5) (hg : zgF n F) (h : zyS n M0 F (fun M K => f_X5_readLevel d (nI (lev + 1)) o M K)) {m : Nat} (hm : m ≤ 50) {s : zSt} {M : za_M} {K : Int32 → za_M → Prop} (hs : s.1 ≤ n) (hsl : s.2.length ≤ s.1) (hC : zyC M0 s M) (hK : zyK M0 (zlp T n F lev m s) K) : ∃ q, za_lp1 (f_X5_readLevel_b39 (f_X5_readLevel d) (f_X5_readPart d) K (nI lev) o (nI m)) q 0 M := by
  have h50 := h0.2.2.1
  refine za_lp1_ind (fun j x M => ∃ s : zSt, j ≤ m ∧ x = nI (m - j) ∧ s.1 ≤ n ∧ s.2.length ≤ s.1 ∧ zyC M0 s M ∧ zyK M0 (zlp T n F lev j s) K) ?_ ?_ m 0 M ⟨s, Nat.le_refl _, by rw [Nat.sub_self]; rfl, hs, hsl, hC, hK⟩
  · intro x M1 ⟨s, e1, e2, e3, e4, e5, e6⟩ L
    subst e2
    unfold f_X5_readLevel_b39
    rw [if_pos (nI_le (by omega) (by omega))]
    exact e6.1 rfl M1 e5
  · intro j x M1 ⟨s, e1, e2, e3, e4, e5, e6⟩ L hL
    subst e2
    unfold f_X5_readLevel_b39
    rw [if_neg (by rw [nI_leI (by omega) (by omega)]; omega), zy_next h0 e5.1 e5.2.1 e3, zy_levelOf]
    unfold zlp at e6
    by_cases q : zlvo (zny T n s.1) = nI lev
    · rw [if_pos q] at e6 ⊢
      rw [zy_next h0 e5.1 e5.2.1 e3]
      simp only [za_let]
      have hlt := zlvo_lt hl q
      rw [e5.2.1, nI_1, nI_1]
      obtain ⟨g1, g2, g3⟩ := hg (s.1 + 1, s.2) hlt
      refine h (s.1 + 1, s.2) _ _ hlt (Nat.le_succ_of_le e4) (zyC_st e5 rfl) ⟨fun z M2 hM => ?_, fun z M2 hM => ?_⟩
      · rw [if_pos z] at e6
        rw [if_neg (by decide)]
        obtain ⟨g4, g, g5, g6, _⟩ := g3 z
        have g5 : (F (s.1 + 1, s.2)).2.2 = s.2 ++ g := g5
        have g6 : g.length + (s.1 + 1) ≤ (F (s.1 + 1, s.2)).2.1 := g6
        have gl : (F (s.1 + 1, s.2)).2.2.length = s.2.length + g.length := by rw [g5, List.length_append]
        refine zy_addC hM (by omega) (zcd_dec hl q).symm (fun M3 hM3 => ?_)
        rw [nI_1, show m - (j + 1) + 1 = m - j by omega]
        exact hL _ _ ⟨((F (s.1 + 1, s.2)).2.1, (F (s.1 + 1, s.2)).2.2 ++ [zcd (zny T n s.1)]), by omega, rfl, g1, by rw [List.length_append, List.length_singleton]; show _ ≤ (F (s.1 + 1, s.2)).2.1; omega, hM3, e6⟩
      · rw [if_neg (by rw [z]; decide)] at e6
        rw [if_pos rfl]
        exact e6.2 rfl M2 hM
    · rw [if_neg q] at e6 ⊢
      exact e6.1 rfl M1 e5
theorem zy_lev (h0 : zy0 T n u M0) {k d : Nat} {o : Int32} {P : zSt → Bool × zSt} (hk : k < 5) (hg : zgF n (zlv T n P k)) (h : zyS n M0 (zlv T n P k) (fun M K => f_X5_readLevel d (nI (5 - k)) o M K)) : zyS n M0 (zlv T n P (k + 1)) (fun M K => f_X5_readLevel (d + 1) (nI (4 - k)) o M K) := by
  intro s M K s1 s2 hC hK
  show fb_X5_readLevel (f_X5_readLevel d) (f_X5_readPart d) (nI (4 - k)) o M K
  unfold fb_X5_readLevel
  obtain ⟨g1, g2, g3⟩ := hg s s1
  unfold zlv at hK
  rw [if_pos (show nI (4 - k) < 5 from nI_lt (b := 5) (by omega) (by decide)), nI_1, show 4 - k + 1 = 5 - k by omega]
  refine h s M _ s1 s2 hC ⟨fun e M1 hM => ?_, fun e M1 hM => ?_⟩
  · rw [if_pos e] at hK
    rw [if_neg (by decide)]
    obtain ⟨g4, g, g5, g6, _⟩ := g3 e
    have gl : (zlv T n P k s).2.2.length = s.2.length + g.length := by rw [g5, List.length_append]
    have lp := zy_loop h0 (lev := 4 - k) (d := d) (o := o) (by omega) hg (by rw [show 4 - k + 1 = 5 - k by omega]; exact h) (m := zmo (4 - k)) (by unfold zmo; split <;> omega) g1 (by omega) hM hK
    by_cases z : k = 2
    · subst z
      rw [if_pos (by decide)]
      exact lp
    · rw [if_neg (fun w => z (by have := (nI_eq (a := 4 - k) (b := 2) (by omega) (by decide)).mp w; omega))]
      have e50 : zmo (4 - k) = 50 := if_neg (by omega)
      rw [e50] at lp
      exact lp
  · rw [if_neg (by rw [e]; decide)] at hK
    rw [if_pos rfl]
    exact hK.2 rfl M1 hM
theorem zy_lev0 {d : Nat} {o : Int32} {P : zSt → Bool × zSt} (h : zyS n M0 P (fun M K => f_X5_readPart d o M K)) : zyS n M0 (zlv T n P 0) (fun M K => f_X5_readLevel (d + 1) (nI 5) o M K) := by
  intro s M K s1 s2 hC hK
  show fb_X5_readLevel (f_X5_readLevel d) (f_X5_readPart d) (nI 5) o M K
  unfold fb_X5_readLevel
  rw [if_neg (by decide)]
  exact h s M _ s1 s2 hC ⟨fun e M1 hM => ⟨Or.inr rfl, hK.1 e M1 hM⟩, fun e M1 hM => ⟨Or.inl rfl, hK.2 e M1 hM⟩⟩
theorem zy_levs (h0 : zy0 T n u M0) {d : Nat} {o : Int32} {P : zSt → Bool × zSt} (hg : zgF n P) (h : zyS n M0 P (fun M K => f_X5_readPart d o M K)) : ∀ k, k ≤ 5 → zyS n M0 (zlv T n P k) (fun M K => f_X5_readLevel (d + 1 + k) (nI (5 - k)) o M K) := by
  intro k
  induction k with
  | zero => intro _; exact zy_lev0 h
  | succ k ih =>
    intro hk
    have := zy_lev h0 (o := o) (by omega) (zgF_lv (T := T) hg k) (ih (by omega))
    rw [show 5 - (k + 1) = 4 - k by omega]
    exact this
theorem zy_base (h0 : zy0 T n u M0) {d : Nat} {o : Nat} {R1 : Int32 → Int32 → za_M → (Int32 → za_M → Prop) → Prop} {R2 : Int32 → za_M → (Int32 → za_M → Prop) → Prop} (ho : o ≤ 5) {s : zSt} {M : za_M} {K : Int32 → za_M → Prop} (s1 : s.1 ≤ n) (s2 : s.2.length ≤ s.1) (hC : zyC M0 s M) (hK : zyK M0 (zpb T n u s) K) (h33 : zny T n s.1 = 33 → o = 5) (h40 : zny T n s.1 = 40 → o = 5) : fb_X5_readPart R1 R2 (nI o) M K := by
  have hT : ∀ i, i < n → T i < 256 := fun i hi => (h0.2.2.2.2 i hi).1
  have h50 := h0.2.2.1
  have hu := h0.2.2.2.1
  unfold fb_X5_readPart
  rw [zy_next h0 hC.1 hC.2.1 s1, zy_isDigit]
  unfold zpb at hK
  by_cases q : zw (zny T n s.1) 48 57 = 1
  · rw [if_pos q] at hK
    obtain ⟨q1, q2, q3⟩ := zw_dig hT q
    rw [q, if_neg (by decide)]
    exact zy_num h0 s1 (by omega) hC (fun M' hM => ⟨Or.inr rfl, hK.1 rfl M' hM⟩)
  · have q0 : zw (zny T n s.1) 48 57 = 0 := by
      rcases zw_B (zny T n s.1) 48 57 with z | z
      · exact z
      · exact absurd z q
    rw [if_neg q] at hK
    rw [q0, if_pos rfl]
    have nm : f_X5_readName (zny T n s.1) M (fun r7 M6 => za_B r7 ∧ (K r7 M6)) := by
      refine zy_name h0 s1 ?_ hC (fun z M' hM => ?_) (fun z => ?_)
      · by_cases z : znam u (zny T n s.1) < 3
        · have ha : s.1 < n := zny_ne (fun e => by rw [e, znam_m1 hu] at z; omega)
          exact Or.inl (by omega)
        · exact Or.inr z
      · rw [if_pos z] at hK
        exact ⟨Or.inr rfl, hK.1 rfl M' hM⟩
      · rw [if_neg z] at hK
        exact ⟨Or.inl rfl, hK.2 rfl M (zyC_X (s := s) hC (by omega))⟩
    have b54 : f_X5_readPart_b54 R1 R2 K (nI o) (zny T n s.1) M := by
      unfold f_X5_readPart_b54
      by_cases z : zny T n s.1 = 40
      · rw [if_pos z, if_pos (by rw [h40 z]; decide)]
        exact nm
      · rw [if_neg z]
        exact nm
    by_cases z : zny T n s.1 = 33
    · rw [if_pos z, if_pos (by rw [h33 z]; decide)]
      exact b54
    · rw [if_neg z]
      exact b54
theorem zy_part (h0 : zy0 T n u M0) : ∀ (e : Nat), e ≤ 5 → ∀ d : Nat, zyS n M0 (zpt T n u e) (fun M K => f_X5_readPart (d + 1 + 7 * e) (nI (5 - e)) M K) := by
  have hT : ∀ i, i < n → T i < 256 := fun i hi => (h0.2.2.2.2 i hi).1
  have h50 := h0.2.2.1
  have hu := h0.2.2.2.1
  intro e
  induction e with
  | zero =>
    intro _ d s M K s1 s2 hC hK
    exact zy_base h0 (d := d) (o := 5) (by decide) s1 s2 hC hK (fun _ => rfl) (fun _ => rfl)
  | succ e ih =>
    intro he d s M K s1 s2 hC hK
    have hgP := zgF_pt (T := T) (n := n) hu hT e
    unfold zpt at hK
    show f_X5_readPart (d + 1 + 7 * (e + 1)) (nI (5 - (e + 1))) M K
    obtain ⟨w0, hw0⟩ : ∃ w0, w0 = d + 7 * (e + 1) := ⟨_, rfl⟩
    rw [show d + 1 + 7 * (e + 1) = w0 + 1 by omega]
    show fb_X5_readPart (f_X5_readLevel w0) (f_X5_readPart w0) (nI (5 - (e + 1))) M K
    by_cases q : zny T n s.1 = 33
    · rw [if_pos q] at hK
      have ha : s.1 < n := zny_ne (fun z => by rw [z] at q; exact absurd q (by decide))
      unfold fb_X5_readPart
      rw [zy_next h0 hC.1 hC.2.1 s1, zy_isDigit, q, show zw 33 48 57 = 0 by decide, if_pos rfl, if_pos rfl, zl_lit 5, if_neg (by rw [nI_leI (by omega) (by omega)]; omega)]
      simp only [za_let]
      rw [hC.2.1, nI_1, nI_1, show 5 - (e + 1) + 1 = 5 - e by omega]
      obtain ⟨g1, g2, g3⟩ := hgP (s.1 + 1, s.2) ha
      have r2 := ih (by omega) (d + 6) (s.1 + 1, s.2) (za_up M (7, 0, 0) 5 (nI (s.1 + 1))) (fun r35 M34 => f_X5_add (-33) M34 (fun M36 => za_B r35 ∧ K r35 M36)) ha (Nat.le_succ_of_le s2) (zyC_st hC rfl) ⟨fun z M1 hM => ?_, fun z M1 hM => ?_⟩
      · rw [show d + 6 + 1 + 7 * e = w0 by omega] at r2
        exact r2
      · rw [if_pos z] at hK
        obtain ⟨g4, g, g5, g6, _⟩ := g3 z
        have g5 : (zpt T n u e (s.1 + 1, s.2)).2.2 = s.2 ++ g := g5
        have g6 : g.length + (s.1 + 1) ≤ (zpt T n u e (s.1 + 1, s.2)).2.1 := g6
        have gl : (zpt T n u e (s.1 + 1, s.2)).2.2.length = s.2.length + g.length := by rw [g5, List.length_append]
        exact zy_addC (c := 20010) hM (by omega) (by decide) (fun M2 hM2 => ⟨Or.inr rfl, hK.1 rfl M2 hM2⟩)
      · rw [if_neg (by rw [z]; decide)] at hK
        exact zy_addX hM (fun M2 hM2 => ⟨Or.inl rfl, hK.2 rfl M2 hM2⟩)
    · rw [if_neg q] at hK
      by_cases q2 : zny T n s.1 = 40
      · rw [if_pos q2] at hK
        have ha : s.1 < n := zny_ne (fun z => by rw [z] at q2; exact absurd q2 (by decide))
        unfold fb_X5_readPart f_X5_readPart_b54
        rw [zy_next h0 hC.1 hC.2.1 s1, zy_isDigit, q2, show zw 40 48 57 = 0 by decide, if_pos rfl, if_neg (by decide), if_pos rfl, zl_lit 5, if_neg (by rw [nI_leI (by omega) (by omega)]; omega)]
        simp only [za_let]
        rw [hC.2.1, nI_1, nI_1, show 5 - (e + 1) + 1 = 5 - e by omega]
        obtain ⟨g1, g2, g3⟩ := zgF_lv (T := T) hgP 5 (s.1 + 1, s.2) ha
        have lv := zy_levs h0 hgP (ih (by omega) d) 5 (by decide)
        rw [show d + 1 + 7 * e + 1 + 5 = w0 by omega] at lv
        refine lv (s.1 + 1, s.2) (za_up M (7, 0, 0) 5 (nI (s.1 + 1))) _ ha (Nat.le_succ_of_le s2) (zyC_st hC rfl) ⟨fun z M1 hM => ?_, fun z M1 hM => ?_⟩
        · obtain ⟨g4, g, g5, g6, _⟩ := g3 z
          have g5 : (zlv T n (zpt T n u e) 5 (s.1 + 1, s.2)).2.2 = s.2 ++ g := g5
          have g6 : g.length + (s.1 + 1) ≤ (zlv T n (zpt T n u e) 5 (s.1 + 1, s.2)).2.1 := g6
          have gl : (zlv T n (zpt T n u e) 5 (s.1 + 1, s.2)).2.2.length = s.2.length + g.length := by rw [g5, List.length_append]
          rw [if_neg (by decide), zy_next h0 hM.1 hM.2.1 g1]
          by_cases w : zny T n (zlv T n (zpt T n u e) 5 (s.1 + 1, s.2)).2.1 = 41
          · rw [if_pos ⟨z, w⟩] at hK
            rw [if_pos w, hM.2.1, nI_1]
            exact hK.1 rfl _ (zyC_st hM rfl)
          · rw [if_neg (fun y => w y.2)] at hK
            rw [if_neg w]
            have hl5 : (zlv T n (zpt T n u e) 5 (s.1 + 1, s.2)).2.2.length ≤ 50 := by omega
            exact hK.2 rfl _ (zyC_X hM hl5)
        · rw [if_neg (fun y => by rw [z] at y; exact absurd y.1 (by decide))] at hK
          rw [if_pos rfl]
          exact hK.2 rfl M1 hM
      · rw [if_neg q2] at hK
        exact zy_base h0 (d := d) (o := 5 - (e + 1)) (by omega) s1 s2 hC hK (fun z => absurd z q) (fun z => absurd z q2)
/-- the whole text -/
theorem zy_all (h0 : zy0 T n u M0) {M : za_M} {K : Int32 → za_M → Prop} (hC : zyC M0 (0, []) M) (hK : zyK M0 (zlv T n (zpt T n u 5) 5 (0, [])) K) : f_X5_readLevel 100 0 0 M K := by
  have hT : ∀ i, i < n → T i < 256 := fun i hi => (h0.2.2.2.2 i hi).1
  have lv := zy_levs h0 (zgF_pt h0.2.2.2.1 hT 5) (zy_part h0 5 (by decide) 58) 5 (by decide)
  exact lv (0, []) M K (Nat.zero_le _) (Nat.zero_le _) hC hK
end ZY

/-! texts read: the reader as numbers (T the bytes, n how many, u the use); a state: place and items -/
abbrev zSt : Type := Nat × List Nat
def zny (T : Nat → Nat) (n a : Nat) : Int32 := if a < n then nI (T a) else -1
def zlvo (x0 : Int32) : Int32 := if x0 = 37 then 4 else if x0 = 38 then 1 else if x0 = 42 then 4 else if x0 = 43 then 3 else if x0 = 45 then 3 else if x0 = 47 then 4 else if x0 = 60 then 2 else if x0 = 61 then 2 else if x0 = 62 then 2 else if x0 = 124 then 0 else -1
def zcd (c : Int32) : Nat := if c = 124 then 20000 else if c = 38 then 20001 else if c = 60 then 20002 else if c = 61 then 20003 else if c = 62 then 20004 else if c = 43 then 20005 else if c = 45 then 20006 else if c = 42 then 20007 else if c = 47 then 20008 else 20009
def znam (u : Nat) (c : Int32) : Nat := if za_t1 (3 * u) = c then 0 else if za_t1 (3 * u + 1) = c then 1 else if za_t1 (3 * u + 2) = c then 2 else 3
def zdgs (T : Nat → Nat) (n : Nat) : Nat → Nat → Nat → Nat × Nat
  | 0, v, a => (v, a)
  | k+1, v, a => if zw (zny T n a) 48 57 = 1 then zdgs T n k (10 * v + T a - 48) (a + 1) else (v, a)
def zlp (T : Nat → Nat) (n : Nat) (F : zSt → Bool × zSt) (lev : Nat) : Nat → zSt → Bool × zSt
  | 0, s => (true, s)
  | m+1, s => if zlvo (zny T n s.1) = nI lev then (if (F (s.1 + 1, s.2)).1 = true then zlp T n F lev m ((F (s.1 + 1, s.2)).2.1, (F (s.1 + 1, s.2)).2.2 ++ [zcd (zny T n s.1)]) else (false, (F (s.1 + 1, s.2)).2)) else (true, s)
def zmo (lev : Nat) : Nat := if lev = 2 then 1 else 50
def zlv (T : Nat → Nat) (n : Nat) (P : zSt → Bool × zSt) : Nat → zSt → Bool × zSt
  | 0, s => P s
  | k+1, s => if (zlv T n P k s).1 = true then zlp T n (zlv T n P k) (4 - k) (zmo (4 - k)) (zlv T n P k s).2 else (false, (zlv T n P k s).2)
def zpb (T : Nat → Nat) (n u : Nat) (s : zSt) : Bool × zSt := if zw (zny T n s.1) 48 57 = 1 then (true, ((zdgs T n 4 0 s.1).2, s.2 ++ [(zdgs T n 4 0 s.1).1])) else if znam u (zny T n s.1) < 3 then (true, (s.1 + 1, s.2 ++ [10000 + znam u (zny T n s.1)])) else (false, s)
def zpt (T : Nat → Nat) (n u : Nat) : Nat → zSt → Bool × zSt
  | 0 => fun s => zpb T n u s
  | e+1 => fun s => if zny T n s.1 = 33 then (if (zpt T n u e (s.1 + 1, s.2)).1 = true then (true, ((zpt T n u e (s.1 + 1, s.2)).2.1, (zpt T n u e (s.1 + 1, s.2)).2.2 ++ [20010])) else (false, (zpt T n u e (s.1 + 1, s.2)).2)) else if zny T n s.1 = 40 then (if (zlv T n (zpt T n u e) 5 (s.1 + 1, s.2)).1 = true ∧ zny T n (zlv T n (zpt T n u e) 5 (s.1 + 1, s.2)).2.1 = 41 then (true, ((zlv T n (zpt T n u e) 5 (s.1 + 1, s.2)).2.1 + 1, (zlv T n (zpt T n u e) 5 (s.1 + 1, s.2)).2.2)) else (false, (zlv T n (zpt T n u e) 5 (s.1 + 1, s.2)).2)) else zpb T n u s
/-- how deep a row of items leaves the pile -/
def zdp : List Nat → Nat → Option Nat
  | [], d => some d
  | x :: xs, d => if x < 10003 then zdp xs (d + 1) else if x = 20010 then (if 1 ≤ d then zdp xs d else none) else if 20000 ≤ x ∧ x < 20010 then (if 2 ≤ d then zdp xs (d - 1) else none) else none
theorem zdp_cons (x : Nat) (xs : List Nat) (d : Nat) : zdp (x :: xs) d = if x < 10003 then zdp xs (d + 1) else if x = 20010 then (if 1 ≤ d then zdp xs d else none) else if 20000 ≤ x ∧ x < 20010 then (if 2 ≤ d then zdp xs (d - 1) else none) else none := rfl
theorem zdp_app : ∀ (a b : List Nat) (d d' : Nat), zdp a d = some d' → zdp (a ++ b) d = zdp b d' := by
  intro a
  induction a with
  | nil =>
    intro b d d' h
    have h : some d = some d' := h
    cases h
    rfl
  | cons x xs ih =>
    intro b d d' h
    show zdp (x :: (xs ++ b)) d = zdp b d'
    rw [zdp_cons] at h ⊢
    by_cases h1 : x < 10003
    · rw [if_pos h1] at h ⊢
      exact ih b _ _ h
    · rw [if_neg h1] at h ⊢
      by_cases h2 : x = 20010
      · rw [if_pos h2] at h ⊢
        by_cases h3 : 1 ≤ d
        · rw [if_pos h3] at h ⊢
          exact ih b _ _ h
        · rw [if_neg h3] at h
          cases h
      · rw [if_neg h2] at h ⊢
        by_cases h4 : 20000 ≤ x ∧ x < 20010
        · rw [if_pos h4] at h ⊢
          by_cases h3 : 2 ≤ d
          · rw [if_pos h3] at h ⊢
            exact ih b _ _ h
          · rw [if_neg h3] at h
            cases h
        · rw [if_neg h4] at h
          cases h
theorem zdp_wf (f : Nat → Nat) : ∀ (L : List Nat) (s d : Nat), (∀ i, i < L.length → f (s + i) = L.getD i 0) → zdp L d = some 1 → zwf f L.length s d := by
  intro L
  induction L with
  | nil =>
    intro s d _ h
    have h : some d = some 1 := h
    cases h
    rfl
  | cons x xs ih =>
    intro s d e h
    have e0 : f s = x := e 0 (by simp)
    have e1 : ∀ i, i < xs.length → f (s + 1 + i) = xs.getD i 0 := fun i hi => by
      have := e (i + 1) (by simp; omega)
      rw [show s + 1 + i = s + (i + 1) by omega, this]
      simp
    show zwf f (xs.length + 1) s d
    unfold zwf
    rw [zdp_cons] at h
    rw [e0]
    by_cases h1 : x < 10003
    · rw [if_pos h1] at h
      exact Or.inl ⟨h1, ih _ _ e1 h⟩
    · rw [if_neg h1] at h
      by_cases h2 : x = 20010
      · rw [if_pos h2] at h
        by_cases h3 : 1 ≤ d
        · rw [if_pos h3] at h
          exact Or.inr (Or.inl ⟨h2, h3, ih _ _ e1 h⟩)
        · rw [if_neg h3] at h
          cases h
      · rw [if_neg h2] at h
        by_cases h4 : 20000 ≤ x ∧ x < 20010
        · rw [if_pos h4] at h
          by_cases h3 : 2 ≤ d
          · rw [if_pos h3] at h
            exact Or.inr (Or.inr ⟨h4.1, h4.2, h3, ih _ _ e1 h⟩)
          · rw [if_neg h3] at h
            cases h
        · rw [if_neg h4] at h
          cases h
theorem zny_ne {T : Nat → Nat} {n a : Nat} (h : ¬ zny T n a = -1) : a < n := by
  by_cases q : a < n
  · exact q
  · exact absurd (if_neg q) h
theorem zlvo_lt {T : Nat → Nat} {n a lev : Nat} (hl : lev < 5) (h : zlvo (zny T n a) = nI lev) : a < n := by
  refine zny_ne (T := T) (fun q => ?_)
  rw [q] at h
  have hc : lev = 0 ∨ lev = 1 ∨ lev = 2 ∨ lev = 3 ∨ lev = 4 := by omega
  rcases hc with rfl | rfl | rfl | rfl | rfl <;> exact absurd h (by decide)
theorem zcd_op (c : Int32) : 20000 ≤ zcd c ∧ zcd c < 20010 := by
  unfold zcd
  (repeat' split) <;> omega
theorem zcd_dec {c : Int32} {lev : Nat} (hl : lev < 5) (h : zlvo c = nI lev) : zdec (zcd c) = -c := by
  unfold zlvo at h
  by_cases q1 : c = 37
  · rw [q1]; decide
  rw [if_neg q1] at h
  by_cases q2 : c = 38
  · rw [q2]; decide
  rw [if_neg q2] at h
  by_cases q3 : c = 42
  · rw [q3]; decide
  rw [if_neg q3] at h
  by_cases q4 : c = 43
  · rw [q4]; decide
  rw [if_neg q4] at h
  by_cases q5 : c = 45
  · rw [q5]; decide
  rw [if_neg q5] at h
  by_cases q6 : c = 47
  · rw [q6]; decide
  rw [if_neg q6] at h
  by_cases q7 : c = 60
  · rw [q7]; decide
  rw [if_neg q7] at h
  by_cases q8 : c = 61
  · rw [q8]; decide
  rw [if_neg q8] at h
  by_cases q9 : c = 62
  · rw [q9]; decide
  rw [if_neg q9] at h
  by_cases q10 : c = 124
  · rw [q10]; decide
  rw [if_neg q10] at h
  have hc : lev = 0 ∨ lev = 1 ∨ lev = 2 ∨ lev = 3 ∨ lev = 4 := by omega
  rcases hc with rfl | rfl | rfl | rfl | rfl <;> exact absurd h (by decide)
/-- a reader goes on, and leaves one item more on the pile -/
def zgF (n : Nat) (F : zSt → Bool × zSt) : Prop := ∀ s : zSt, s.1 ≤ n → (F s).2.1 ≤ n ∧ s.1 ≤ (F s).2.1 ∧ ((F s).1 = true → s.1 < (F s).2.1 ∧ ∃ g, (F s).2.2 = s.2 ++ g ∧ g.length + s.1 ≤ (F s).2.1 ∧ ∀ d, zdp g d = some (d + 1))
theorem zgF_lp {T : Nat → Nat} {n lev : Nat} {F : zSt → Bool × zSt} (hl : lev < 5) (h : zgF n F) : ∀ (m : Nat) (s : zSt), s.1 ≤ n → (zlp T n F lev m s).2.1 ≤ n ∧ s.1 ≤ (zlp T n F lev m s).2.1 ∧ ((zlp T n F lev m s).1 = true → ∃ g, (zlp T n F lev m s).2.2 = s.2 ++ g ∧ g.length + s.1 ≤ (zlp T n F lev m s).2.1 ∧ ∀ d, 1 ≤ d → zdp g d = some d) := by
  intro m
  induction m with
  | zero =>
    intro s hs
    exact ⟨hs, Nat.le_refl _, fun _ => ⟨[], by simp [zlp], by simp [zlp], fun d _ => rfl⟩⟩
  | succ m ih =>
    intro s hs
    unfold zlp
    by_cases q : zlvo (zny T n s.1) = nI lev
    · rw [if_pos q]
      have hlt := zlvo_lt hl q
      obtain ⟨h1, h2, h3⟩ := h (s.1 + 1, s.2) (by show s.1 + 1 ≤ n; omega)
      have h2 : s.1 + 1 ≤ (F (s.1 + 1, s.2)).2.1 := h2
      by_cases z : (F (s.1 + 1, s.2)).1 = true
      · rw [if_pos z]
        obtain ⟨h4, g, h5, h6, h7⟩ := h3 z
        have h5 : (F (s.1 + 1, s.2)).2.2 = s.2 ++ g := h5
        have h6 : g.length + (s.1 + 1) ≤ (F (s.1 + 1, s.2)).2.1 := h6
        obtain ⟨i1, i2, i3⟩ := ih ((F (s.1 + 1, s.2)).2.1, (F (s.1 + 1, s.2)).2.2 ++ [zcd (zny T n s.1)]) h1
        have i2 : (F (s.1 + 1, s.2)).2.1 ≤ _ := i2
        refine ⟨i1, by omega, fun w => ?_⟩
        obtain ⟨g2, j1, j2, j3⟩ := i3 w
        have j2 : g2.length + (F (s.1 + 1, s.2)).2.1 ≤ _ := j2
        refine ⟨g ++ [zcd (zny T n s.1)] ++ g2, ?_, ?_, fun d hd => ?_⟩
        · rw [j1, h5]
          simp
        · simp only [List.length_append, List.length_singleton]
          omega
        · rw [List.append_assoc, zdp_app g _ d (d + 1) (h7 d)]
          obtain ⟨c1, c2⟩ := zcd_op (zny T n s.1)
          show zdp (zcd (zny T n s.1) :: g2) (d + 1) = some d
          rw [zdp_cons, if_neg (by omega), if_neg (by omega), if_pos ⟨c1, c2⟩, if_pos (by omega), Nat.add_sub_cancel]
          exact j3 d hd
      · rw [if_neg z]
        exact ⟨h1, by show s.1 ≤ (F (s.1 + 1, s.2)).2.1; omega, fun w => by cases w⟩
    · rw [if_neg q]
      exact ⟨hs, Nat.le_refl _, fun _ => ⟨[], by simp, by simp, fun d _ => rfl⟩⟩
theorem zgF_lv {T : Nat → Nat} {n : Nat} {P : zSt → Bool × zSt} (h : zgF n P) : ∀ k : Nat, zgF n (zlv T n P k) := by
  intro k
  induction k with
  | zero => exact h
  | succ k ih =>
    intro s hs
    unfold zlv
    obtain ⟨h1, h2, h3⟩ := ih s hs
    by_cases z : (zlv T n P k s).1 = true
    · rw [if_pos z]
      obtain ⟨h4, g, h5, h6, h7⟩ := h3 z
      obtain ⟨i1, i2, i3⟩ := zgF_lp (T := T) (lev := 4 - k) (by omega) ih (zmo (4 - k)) (zlv T n P k s).2 h1
      refine ⟨i1, by omega, fun w => ⟨by omega, ?_⟩⟩
      obtain ⟨g2, j1, j2, j3⟩ := i3 w
      refine ⟨g ++ g2, by rw [j1, h5]; simp, by simp only [List.length_append]; omega, fun d => ?_⟩
      rw [zdp_app g _ d (d + 1) (h7 d)]
      exact j3 _ (by omega)
    · rw [if_neg z]
      exact ⟨h1, h2, fun w => by cases w⟩
theorem zw_dig {T : Nat → Nat} {n a : Nat} (hT : ∀ i, i < n → T i < 256) (h : zw (zny T n a) 48 57 = 1) : a < n ∧ 48 ≤ T a ∧ T a ≤ 57 := by
  have ha : a < n := by
    refine zny_ne (T := T) (fun q => ?_)
    rw [q] at h
    exact absurd h (by decide)
  have hb := hT a ha
  unfold zw zny at h
  rw [if_pos ha] at h
  refine ⟨ha, ?_, ?_⟩
  · by_cases q : nI (T a) < 48
    · rw [if_pos q] at h
      exact absurd h (by decide)
    · by_cases z : T a < 48
      · exact absurd (nI_lt (b := 48) z (by decide)) q
      · omega
  · by_cases q : nI (T a) < 48
    · rw [if_pos q] at h
      exact absurd h (by decide)
    · rw [if_neg q] at h
      by_cases q2 : 57 < nI (T a)
      · rw [if_pos q2] at h
        exact absurd h (by decide)
      · by_cases z : 57 < T a
        · exact absurd (nI_lt (a := 57) z (by omega)) q2
        · omega
theorem zdgs_ok {T : Nat → Nat} {n : Nat} (hT : ∀ i, i < n → T i < 256) : ∀ (k v a : Nat), a ≤ n → v < 10 ^ (4 - k) → k ≤ 4 → (zdgs T n k v a).1 < 10000 ∧ a ≤ (zdgs T n k v a).2 ∧ (zdgs T n k v a).2 ≤ n := by
  intro k
  induction k with
  | zero =>
    intro v a ha hv _
    exact ⟨by simpa [zdgs] using hv, Nat.le_refl _, ha⟩
  | succ k ih =>
    intro v a ha hv hk
    unfold zdgs
    by_cases q : zw (zny T n a) 48 57 = 1
    · rw [if_pos q]
      obtain ⟨q1, q2, q3⟩ := zw_dig hT q
      have hp : 10 ^ (4 - k) = 10 * 10 ^ (4 - (k + 1)) := by rw [show 4 - k = (4 - (k + 1)) + 1 by omega, Nat.pow_succ, Nat.mul_comm]
      obtain ⟨i1, i2, i3⟩ := ih (10 * v + T a - 48) (a + 1) (by omega) (by rw [hp]; omega) (by omega)
      exact ⟨i1, by omega, i3⟩
    · rw [if_neg q]
      have h4 : 10 ^ (4 - (k + 1)) ≤ 10 ^ 4 := Nat.pow_le_pow_right (by decide) (by omega)
      exact ⟨by show v < 10000; omega, Nat.le_refl _, ha⟩
theorem znam_m1 {u : Nat} (hu : u < 2) : znam u (-1) = 3 := by
  have hc : u = 0 ∨ u = 1 := by omega
  rcases hc with rfl | rfl <;> decide
theorem zgF_pb {T : Nat → Nat} {n u : Nat} (hu : u < 2) (hT : ∀ i, i < n → T i < 256) : zgF n (zpb T n u) := by
  intro s hs
  unfold zpb
  by_cases q : zw (zny T n s.1) 48 57 = 1
  · rw [if_pos q]
    obtain ⟨q1, q2, q3⟩ := zw_dig hT q
    obtain ⟨d1, d2, d3⟩ := zdgs_ok hT 4 0 s.1 hs (by decide) (by decide)
    have d4 : s.1 + 1 ≤ (zdgs T n 4 0 s.1).2 := by
      unfold zdgs
      rw [if_pos q]
      exact (zdgs_ok hT 3 (10 * 0 + T s.1 - 48) (s.1 + 1) (by omega) (by show 10 * 0 + T s.1 - 48 < 10 ^ 1; omega) (by decide)).2.1
    refine ⟨d3, d2, fun _ => ⟨d4, [(zdgs T n 4 0 s.1).1], rfl, ?_, fun d => ?_⟩⟩
    · show 1 + s.1 ≤ (zdgs T n 4 0 s.1).2
      omega
    · rw [zdp_cons, if_pos (by omega)]
      rfl
  · rw [if_neg q]
    by_cases z : znam u (zny T n s.1) < 3
    · rw [if_pos z]
      have ha : s.1 < n := zny_ne (fun e => by rw [e, znam_m1 hu] at z; omega)
      refine ⟨ha, Nat.le_succ _, fun _ => ⟨Nat.lt_succ_self _, [10000 + znam u (zny T n s.1)], rfl, ?_, fun d => ?_⟩⟩
      · show 1 + s.1 ≤ s.1 + 1
        omega
      · rw [zdp_cons, if_pos (by omega)]
        rfl
    · rw [if_neg z]
      exact ⟨hs, Nat.le_refl _, fun w => by cases w⟩
theorem zgF_pt {T : Nat → Nat} {n u : Nat} (hu : u < 2) (hT : ∀ i, i < n → T i < 256) : ∀ e : Nat, zgF n (zpt T n u e) := by
  intro e
  induction e with
  | zero => exact zgF_pb hu hT
  | succ e ih =>
    intro s hs
    show (zpt T n u (e + 1) s).2.1 ≤ n ∧ _
    unfold zpt
    by_cases q : zny T n s.1 = 33
    · rw [if_pos q]
      have ha : s.1 < n := zny_ne (fun z => by rw [z] at q; exact absurd q (by decide))
      obtain ⟨h1, h2, h3⟩ := ih (s.1 + 1, s.2) ha
      have h2 : s.1 + 1 ≤ (zpt T n u e (s.1 + 1, s.2)).2.1 := h2
      by_cases z : (zpt T n u e (s.1 + 1, s.2)).1 = true
      · rw [if_pos z]
        obtain ⟨h4, g, h5, h6, h7⟩ := h3 z
        have h6 : g.length + (s.1 + 1) ≤ (zpt T n u e (s.1 + 1, s.2)).2.1 := h6
        have h5 : (zpt T n u e (s.1 + 1, s.2)).2.2 = s.2 ++ g := h5
        refine ⟨h1, by show s.1 ≤ (zpt T n u e (s.1 + 1, s.2)).2.1; omega, fun _ => ⟨h2, g ++ [20010], ?_, ?_, fun d => ?_⟩⟩
        · show (zpt T n u e (s.1 + 1, s.2)).2.2 ++ [20010] = s.2 ++ (g ++ [20010])
          rw [h5, List.append_assoc]
        · rw [List.length_append, List.length_singleton]
          show _ ≤ (zpt T n u e (s.1 + 1, s.2)).2.1
          omega
        · rw [zdp_app g _ d (d + 1) (h7 d)]
          simp [zdp]
      · rw [if_neg z]
        exact ⟨h1, by show s.1 ≤ (zpt T n u e (s.1 + 1, s.2)).2.1; omega, fun w => by cases w⟩
    · rw [if_neg q]
      by_cases q2 : zny T n s.1 = 40
      · rw [if_pos q2]
        have ha : s.1 < n := zny_ne (fun z => by rw [z] at q2; exact absurd q2 (by decide))
        obtain ⟨h1, h2, h3⟩ := zgF_lv (T := T) ih 5 (s.1 + 1, s.2) ha
        have h2 : s.1 + 1 ≤ (zlv T n (zpt T n u e) 5 (s.1 + 1, s.2)).2.1 := h2
        by_cases z : (zlv T n (zpt T n u e) 5 (s.1 + 1, s.2)).1 = true ∧ zny T n (zlv T n (zpt T n u e) 5 (s.1 + 1, s.2)).2.1 = 41
        · rw [if_pos z]
          obtain ⟨h4, g, h5, h6, h7⟩ := h3 z.1
          have h6 : g.length + (s.1 + 1) ≤ (zlv T n (zpt T n u e) 5 (s.1 + 1, s.2)).2.1 := h6
          have hb : (zlv T n (zpt T n u e) 5 (s.1 + 1, s.2)).2.1 < n := zny_ne (fun w => by rw [w] at z; exact absurd z.2 (by decide))
          refine ⟨hb, by show s.1 ≤ (zlv T n (zpt T n u e) 5 (s.1 + 1, s.2)).2.1 + 1; omega, fun _ => ⟨by show s.1 < (zlv T n (zpt T n u e) 5 (s.1 + 1, s.2)).2.1 + 1; omega, g, h5, by show _ ≤ (zlv T n (zpt T n u e) 5 (s.1 + 1, s.2)).2.1 + 1; omega, h7⟩⟩
        · rw [if_neg z]
          exact ⟨h1, by show s.1 ≤ (zlv T n (zpt T n u e) 5 (s.1 + 1, s.2)).2.1; omega, fun w => by cases w⟩
      · rw [if_neg q2]
        exact zgF_pb hu hT s hs

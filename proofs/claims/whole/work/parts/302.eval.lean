/-! texts: the items of a text, what they are worth, on both sides -/
/-- only the rows of these kinds may have changed -/
def zk (ks : List Nat) (M M' : za_M) : Prop := (∀ x : za_L, x.1 ∉ ks → M'.1 x = M.1 x) ∧ M'.2 = M.2
theorem zk_rf (ks : List Nat) (M : za_M) : zk ks M M := ⟨fun _ _ => rfl, rfl⟩
theorem zk_tr {ks : List Nat} {M M1 M2 : za_M} (a : zk ks M M1) (b : zk ks M1 M2) : zk ks M M2 := ⟨fun x h => (b.1 x h).trans (a.1 x h), b.2.trans a.2⟩
theorem zk_mo {ks js : List Nat} {M M1 : za_M} (a : zk ks M M1) (h : ∀ k ∈ ks, k ∈ js) : zk js M M1 := ⟨fun x hx => a.1 x (fun q => hx (h _ q)), a.2⟩
theorem zk_up {ks : List Nat} {M : za_M} {x : za_L} {k : Nat} {v : Int32} (h : x.1 ∈ ks) : zk ks M (za_up M x k v) := ⟨fun y hy => za_up_oth M k v (fun e => hy (by rw [e]; exact h)), rfl⟩
theorem zk_uf {ks : List Nat} {M : za_M} {x : za_L} {f : Nat → Int32} (h : x.1 ∈ ks) : zk ks M (za_uf M x f) := ⟨fun y hy => za_uf_oth M f (fun e => hy (by rw [e]; exact h)), rfl⟩
/-- an item of a text, as the class keeps it -/
def zdec (e : Nat) : Int32 := if e < 10000 then nI e else if e = 10000 then (-1) else if e = 10001 then (-2) else if e = 10002 then (-3) else if e = 20000 then (-124) else if e = 20001 then (-38) else if e = 20002 then (-60) else if e = 20003 then (-61) else if e = 20004 then (-62) else if e = 20005 then (-43) else if e = 20006 then (-45) else if e = 20007 then (-42) else if e = 20008 then (-47) else if e = 20009 then (-37) else (-33)
def zop (j : Nat) (a b : Int32) : Int32 := match j with
  | 0 => if a = 0 then (if b = 0 then 0 else 1) else 1
  | 1 => if a = 0 then 0 else if b = 0 then 0 else 1
  | 2 => if b ≤ a then 0 else 1
  | 3 => if a = b then 1 else 0
  | 4 => if a ≤ b then 0 else 1
  | 5 => a + b
  | 6 => a - b
  | 7 => a * b
  | 8 => if b = 0 then 0 else a / b
  | _ => if b = 0 then 0 else a - a / b * b
def zev (nm : Nat → Int32) (f : Nat → Nat) : Nat → Nat → Nat → (Nat → Int32) → Int32
  | 0, _, _, st => st 0
  | n+1, s, d, st => if f s < 10000 then zev nm f n (s+1) (d+1) (upd st d (nI (f s))) else if f s < 20000 then zev nm f n (s+1) (d+1) (upd st d (nm (f s - 10000))) else if f s = 20010 then zev nm f n (s+1) d (upd st (d-1) (if st (d-1) = 0 then 1 else 0)) else zev nm f n (s+1) (d-1) (upd st (d-2) (zop (f s - 20000) (st (d-2)) (st (d-1))))
def zwf (f : Nat → Nat) : Nat → Nat → Nat → Prop
  | 0, _, d => d = 1
  | n+1, s, d => (f s < 10003 ∧ zwf f n (s+1) (d+1)) ∨ (f s = 20010 ∧ 1 ≤ d ∧ zwf f n (s+1) d) ∨ (20000 ≤ f s ∧ f s < 20010 ∧ 2 ≤ d ∧ zwf f n (s+1) (d-1))
theorem zev_cg (nm : Nat → Int32) (f : Nat → Nat) : ∀ (n s d : Nat) (st st' : Nat → Int32), zwf f n s d → (∀ j, j < d → st j = st' j) → zev nm f n s d st = zev nm f n s d st' := by
  intro n
  induction n with
  | zero =>
    intro s d st st' h e
    have h : d = 1 := h
    exact e 0 (by omega)
  | succ n ih =>
    intro s d st st' h e
    have eu : ∀ (k : Nat) (v : Int32) (j : Nat), (j ≠ k → st j = st' j) → upd st k v j = upd st' k v j := fun k v j h => by
      unfold upd
      split
      · rfl
      · exact h (by assumption)
    unfold zev
    rcases h with ⟨h1, h2⟩ | ⟨h1, h2, h3⟩ | ⟨h1, h2, h3, h4⟩
    · by_cases q : f s < 10000
      · rw [if_pos q, if_pos q]
        exact ih _ _ _ _ h2 (fun j hj => eu _ _ _ (fun q => e j (by omega)))
      · have a2 : f s < 20000 := by omega
        rw [if_neg q, if_neg q, if_pos a2, if_pos a2]
        exact ih _ _ _ _ h2 (fun j hj => eu _ _ _ (fun q => e j (by omega)))
    · have a1 : ¬ f s < 10000 := by omega
      have a2 : ¬ f s < 20000 := by omega
      rw [if_neg a1, if_neg a1, if_neg a2, if_neg a2, if_pos h1, if_pos h1, e (d - 1) (by omega)]
      exact ih _ _ _ _ h3 (fun j hj => eu _ _ _ (fun q => e j (by omega)))
    · have a1 : ¬ f s < 10000 := by omega
      have a2 : ¬ f s < 20000 := by omega
      have a3 : ¬ f s = 20010 := by omega
      rw [if_neg a1, if_neg a1, if_neg a2, if_neg a2, if_neg a3, if_neg a3, e (d - 1) (by omega), e (d - 2) (by omega)]
      exact ih _ _ _ _ h4 (fun j hj => eu _ _ _ (fun q => e j (by omega)))
theorem zf_done {j : Nat} (hj : j < 10) {a b : Int32} {M : za_M} {K : Int32 → za_M → Prop} (h : K (zop j a b) M) : f_X10_done (nI (20000 + j)) a b M K := by
  unfold f_X10_done f_X10_done_b60 f_X10_done_b78
  have hc : j = 0 ∨ j = 1 ∨ j = 2 ∨ j = 3 ∨ j = 4 ∨ j = 5 ∨ j = 6 ∨ j = 7 ∨ j = 8 ∨ j = 9 := by omega
  rcases hc with rfl | rfl | rfl | rfl | rfl | rfl | rfl | rfl | rfl | rfl
  all_goals (simp only [show (nI (20000 + 0) = 20000) = True by decide, show (nI (20000 + 1) = 20000) = False by decide, show (nI (20000 + 1) = 20001) = True by decide, show (nI (20000 + 2) = 20000) = False by decide, show (nI (20000 + 2) = 20001) = False by decide, show (nI (20000 + 2) = 20002) = True by decide, show (nI (20000 + 3) = 20000) = False by decide, show (nI (20000 + 3) = 20001) = False by decide, show (nI (20000 + 3) = 20002) = False by decide, show (nI (20000 + 3) = 20003) = True by decide, show (nI (20000 + 4) = 20000) = False by decide, show (nI (20000 + 4) = 20001) = False by decide, show (nI (20000 + 4) = 20002) = False by decide, show (nI (20000 + 4) = 20003) = False by decide, show (nI (20000 + 4) = 20004) = True by decide, show (nI (20000 + 5) = 20000) = False by decide, show (nI (20000 + 5) = 20001) = False by decide, show (nI (20000 + 5) = 20002) = False by decide, show (nI (20000 + 5) = 20003) = False by decide, show (nI (20000 + 5) = 20004) = False by decide, show (nI (20000 + 5) = 20005) = True by decide, show (nI (20000 + 6) = 20000) = False by decide, show (nI (20000 + 6) = 20001) = False by decide, show (nI (20000 + 6) = 20002) = False by decide, show (nI (20000 + 6) = 20003) = False by decide, show (nI (20000 + 6) = 20004) = False by decide, show (nI (20000 + 6) = 20005) = False by decide, show (nI (20000 + 6) = 20006) = True by decide, show (nI (20000 + 7) = 20000) = False by decide, show (nI (20000 + 7) = 20001) = False by decide, show (nI (20000 + 7) = 20002) = False by decide, show (nI (20000 + 7) = 20003) = False by decide, show (nI (20000 + 7) = 20004) = False by decide, show (nI (20000 + 7) = 20005) = False by decide, show (nI (20000 + 7) = 20006) = False by decide, show (nI (20000 + 7) = 20007) = True by decide, show (nI (20000 + 8) = 20000) = False by decide, show (nI (20000 + 8) = 20001) = False by decide, show (nI (20000 + 8) = 20002) = False by decide, show (nI (20000 + 8) = 20003) = False by decide, show (nI (20000 + 8) = 20004) = False by decide, show (nI (20000 + 8) = 20005) = False by decide, show (nI (20000 + 8) = 20006) = False by decide, show (nI (20000 + 8) = 20007) = False by decide, show (nI (20000 + 8) = 20008) = True by decide, show (nI (20000 + 9) = 20000) = False by decide, show (nI (20000 + 9) = 20001) = False by decide, show (nI (20000 + 9) = 20002) = False by decide, show (nI (20000 + 9) = 20003) = False by decide, show (nI (20000 + 9) = 20004) = False by decide, show (nI (20000 + 9) = 20005) = False by decide, show (nI (20000 + 9) = 20006) = False by decide, show (nI (20000 + 9) = 20007) = False by decide, show (nI (20000 + 9) = 20008) = False by decide, if_true, if_false])
  all_goals (simp only [zop] at h)
  all_goals first | exact h | skip
  · by_cases q : a = 0
    · by_cases r : b = 0
      · simpa [q, r] using h
      · simpa [q, r] using h
    · simpa [q] using h
  · by_cases q : a = 0
    · simpa [q] using h
    · by_cases r : b = 0
      · simpa [q, r] using h
      · simpa [q, r] using h
  · by_cases q : b ≤ a
    · simpa [q] using h
    · simpa [q] using h
  · by_cases q : a = b
    · simpa [q] using h
    · simpa [q] using h
  · by_cases q : a ≤ b
    · simpa [q] using h
    · simpa [q] using h
  · by_cases q : b = 0
    · simpa [q] using h
    · simpa [q] using h
  · by_cases q : b = 0
    · simpa [q] using h
    · simpa [q] using h
theorem zf_joined {j : Nat} (hj : j < 10) {a b : Int32} {M : za_M} {K : Int32 → za_M → Prop} (h : K (zop j a b) M) : f_X2_joined (-(zdec (20000 + j))) a b M K := by
  unfold f_X2_joined f_X2_joined_b100 f_X2_joined_b118
  have hc : j = 0 ∨ j = 1 ∨ j = 2 ∨ j = 3 ∨ j = 4 ∨ j = 5 ∨ j = 6 ∨ j = 7 ∨ j = 8 ∨ j = 9 := by omega
  rcases hc with rfl | rfl | rfl | rfl | rfl | rfl | rfl | rfl | rfl | rfl
  all_goals (simp only [show (-(zdec (20000 + 0))) = 124 by decide, show (-(zdec (20000 + 1))) = 38 by decide, show (-(zdec (20000 + 2))) = 60 by decide, show (-(zdec (20000 + 3))) = 61 by decide, show (-(zdec (20000 + 4))) = 62 by decide, show (-(zdec (20000 + 5))) = 43 by decide, show (-(zdec (20000 + 6))) = 45 by decide, show (-(zdec (20000 + 7))) = 42 by decide, show (-(zdec (20000 + 8))) = 47 by decide, show (-(zdec (20000 + 9))) = 37 by decide])
  all_goals (simp only [zop] at h)
  all_goals (simp (config := { decide := true }) only [if_true, if_false])
  all_goals first | exact h | skip
  · by_cases q : a = 0
    · by_cases r : b = 0
      · simpa [q, r] using h
      · simpa [q, r] using h
    · simpa [q] using h
  · by_cases q : a = 0
    · simpa [q] using h
    · by_cases r : b = 0
      · simpa [q, r] using h
      · simpa [q, r] using h
  · by_cases q : b ≤ a
    · simpa [q] using h
    · simpa [q] using h
  · by_cases q : a = b
    · simpa [q] using h
    · simpa [q] using h
  · by_cases q : a ≤ b
    · simpa [q] using h
    · simpa [q] using h
  · by_cases q : b = 0
    · simpa [q] using h
    · simpa [q] using h
  · by_cases q : b = 0
    · simpa [q] using h
    · simpa [q] using h
theorem zl_m1 {n : Nat} (h : 1 ≤ n) : nI n + (-1) = nI (n - 1) := by
  obtain ⟨k, rfl⟩ : ∃ k, n = k + 1 := ⟨n - 1, by omega⟩
  exact pk_m1 k
theorem zl_s1 {n : Nat} (h : 1 ≤ n) : nI n - 1 = nI (n - 1) := pk_sub (b := 1) h
theorem zop_app (j : Nat) (f : Nat → Int32) (k : Nat) (v : Int32) : (fun q => if q = k then v else f q) = upd f k v := rfl
/-- the reference's text u of the row N holds the items f -/
def zit (N : Nat → Int32) (u n : Nat) (f : Nat → Nat) : Prop := N (175 + 52 * u) = nI n ∧ n ≤ 50 ∧ (∀ i, i < n → N (176 + 52 * u + i) = nI (f i)) ∧ (n = 0 ∨ zwf f n 0 0)
set_option maxRecDepth 20000 in
theorem zr_worked {u n : Nat} {f : Nat → Nat} {N : Nat → Int32} (hu : u < 2) (ht : zit N u n f) (hn : 0 < n) {M : za_M} (hN : M.1 (28, 0, 0) = N) {nm : Nat → Int32} (hm : ∀ k, k < 3 → M.1 (34, 0, 0) k = nm k) {G : Int32} (hG : zev nm f n 0 0 (M.1 (35, 0, 0)) = G) {K : Int32 → za_M → Prop} (h : ∀ M', zk [35] M M' → K G M') : f_X10_worked (nI (176 + 52 * u)) M K := by
  obtain ⟨t1, t2, t3, t4⟩ := ht
  have t4 : zwf f n 0 0 := by rcases t4 with q | q
                              · omega
                              · exact q
  unfold f_X10_worked
  have key : ∀ (k : Nat) (x2 x3 : Int32) (M' : za_M), (∃ s d, s + k = n ∧ x2 = nI d ∧ x3 = nI (176 + 52 * u + s) ∧ zwf f k s d ∧ d ≤ s ∧ zk [35] M M' ∧ zev nm f k s d (M'.1 (35, 0, 0)) = G) → ∃ q, za_lp2 (f_X10_worked_b4 K (nI (176 + 52 * u))) q x2 x3 M' := by
    refine za_lp2_ind (fun k x2 x3 M' => ∃ s d, s + k = n ∧ x2 = nI d ∧ x3 = nI (176 + 52 * u + s) ∧ zwf f k s d ∧ d ≤ s ∧ zk [35] M M' ∧ zev nm f k s d (M'.1 (35, 0, 0)) = G) ?_ ?_
    · intro x2 x3 M' ⟨s, d, e0, e1, e2, e3, e4, e5, e6⟩ L
      subst e1; subst e2
      have hr : M'.1 (28, 0, 0) = N := (e5.1 _ (by decide)).trans hN
      unfold f_X10_worked_b4
      refine ⟨by rw [zl_s1 (by omega)]; exact vp_in_nI (by omega) (by decide), ?_⟩
      rw [hr, zl_s1 (by omega), nI_clamp (by omega), show 176 + 52 * u - 1 = 175 + 52 * u by omega, t1, nI_add, if_pos (nI_le (by omega) (by omega))]
      refine ⟨vp_in_nI (n := 0) (by decide) (by decide), ?_⟩
      have e6 : M'.1 (35, 0, 0) 0 = _ := e6
      rw [show Int32.toNatClampNeg 0 = 0 by decide, e6]
      exact h M' e5
    · intro k x2 x3 M' ⟨s, d, e0, e1, e2, e3, e4, e5, e6⟩ L hL
      subst e1; subst e2
      have hr : M'.1 (28, 0, 0) = N := (e5.1 _ (by decide)).trans hN
      have hm' : ∀ k, k < 3 → M'.1 (34, 0, 0) k = nm k := fun k hk => by rw [e5.1 _ (by decide)]; exact hm k hk
      have next : nI (176 + 52 * u + s) + 1 = nI (176 + 52 * u + (s + 1)) := nI_1 _
      unfold f_X10_worked_b4
      refine ⟨by rw [zl_s1 (by omega)]; exact vp_in_nI (by omega) (by decide), ?_⟩
      rw [hr, zl_s1 (by omega), nI_clamp (by omega), show 176 + 52 * u - 1 = 175 + 52 * u by omega, t1, nI_add, if_neg (by rw [nI_leI (by omega) (by omega)]; omega)]
      refine ⟨vp_in_nI (by omega) (by decide), ?_⟩
      rw [nI_clamp (by omega), t3 s (by omega)]
      unfold za_let
      unfold zev at e6
      rcases e3 with ⟨h1, h2⟩ | ⟨h1, h2, h3⟩ | ⟨h1, h2, h3, h4⟩
      · rw [zl_lit 20000, if_neg (by rw [nI_leI (by omega) (by omega)]; omega)]
        by_cases q : f s < 10000
        · rw [zl_lit 10000, if_neg (by rw [nI_leI (by omega) (by omega)]; omega)]
          rw [if_pos q] at e6
          unfold f_X10_worked_b63 za_let f_X10_worked_b135
          refine ⟨vp_in_nI (by omega) (by decide), ?_⟩
          rw [nI_clamp (by omega), next, nI_1]
          exact hL _ _ _ ⟨s + 1, d + 1, by omega, rfl, rfl, h2, by omega, zk_tr e5 (zk_up (by decide)), by rw [za_up_row]; exact e6⟩
        · rw [zl_lit 10000, if_pos (nI_le (by omega) (by omega)), pk_sub (by omega)]
          rw [if_neg q, if_pos (by omega)] at e6
          refine ⟨vp_in_nI (by omega) (by decide), ?_⟩
          unfold f_X10_worked_b63 za_let f_X10_worked_b135
          refine ⟨vp_in_nI (by omega) (by decide), ?_⟩
          rw [nI_clamp (by omega), nI_clamp (by omega), next, nI_1, hm' _ (by omega)]
          exact hL _ _ _ ⟨s + 1, d + 1, by omega, rfl, rfl, h2, by omega, zk_tr e5 (zk_up (by decide)), by rw [za_up_row]; exact e6⟩
      · rw [zl_lit 20000, if_pos (nI_le (by omega) (by omega)), zl_lit 20010, if_pos (by rw [h1])]
        have a1 : ¬ f s < 10000 := by omega
        have a2 : ¬ f s < 20000 := by omega
        rw [if_neg a1, if_neg a2, if_pos h1] at e6
        rw [zl_s1 h2]
        refine ⟨vp_in_nI (by omega) (by decide), ?_⟩
        rw [nI_clamp (by omega)]
        unfold f_X10_worked_b101 za_let f_X10_worked_b135
        by_cases q : M'.1 (35, 0, 0) (d - 1) = 0
        · rw [if_pos q]
          rw [if_pos q] at e6
          refine ⟨vp_in_nI (by omega) (by decide), ?_⟩
          rw [nI_clamp (by omega), next]
          exact hL _ _ _ ⟨s + 1, d, by omega, rfl, rfl, h3, by omega, zk_tr e5 (zk_up (by decide)), by rw [za_up_row]; exact e6⟩
        · rw [if_neg q]
          rw [if_neg q] at e6
          refine ⟨vp_in_nI (by omega) (by decide), ?_⟩
          rw [nI_clamp (by omega), next]
          exact hL _ _ _ ⟨s + 1, d, by omega, rfl, rfl, h3, by omega, zk_tr e5 (zk_up (by decide)), by rw [za_up_row]; exact e6⟩
      · have a1 : ¬ f s < 10000 := by omega
        have a2 : ¬ f s < 20000 := by omega
        have a3 : ¬ f s = 20010 := by omega
        rw [zl_lit 20000, if_pos (nI_le (by omega) (by omega)), zl_lit 20010, if_neg (by rw [nI_eq (by omega) (by omega)]; exact a3)]
        rw [if_neg a1, if_neg a2, if_neg a3] at e6
        rw [zl_m1 (by omega), zl_s1 (by omega)]
        refine ⟨vp_in_nI (by omega) (by decide), vp_in_nI (by omega) (by decide), ?_⟩
        obtain ⟨j, hj, ej⟩ : ∃ j, j < 10 ∧ f s = 20000 + j := ⟨f s - 20000, by omega, by omega⟩
        rw [nI_clamp (by omega), nI_clamp (by omega), ej]
        rw [ej, Nat.add_sub_cancel_left] at e6
        refine zf_done hj ⟨vp_in_nI (by omega) (by decide), ?_⟩
        unfold f_X10_worked_b135
        rw [next]
        exact hL _ _ _ ⟨s + 1, d - 1, by omega, rfl, rfl, h4, by omega, zk_tr e5 (zk_up (by decide)), by rw [za_up_row, show d - 1 - 1 = d - 2 by omega]; exact e6⟩
  exact key n _ _ _ ⟨0, 0, by omega, rfl, rfl, t4, by omega, zk_rf _ _, hG⟩
/-- law u of state c of the class holds the items f -/
def zlw (c u n : Nat) (f : Nat → Nat) (M : za_M) : Prop := M.1 (6, c, u) 0 = nI u ∧ M.1 (6, c, u) 3 = nI n ∧ n ≤ 50 ∧ (∀ i, i < n → M.1 (17, c, u) i = zdec (f i)) ∧ (n = 0 ∨ zwf f n 0 0)
def znm (a b c : Int32) (k : Nat) : Int32 := if k = 0 then a else if k = 1 then b else c
theorem zdec_num {e : Nat} (h : e < 10000) : zdec e = nI e := by
  unfold zdec
  rw [if_pos h]
theorem zdec_name {e : Nat} (h1 : ¬ e < 10000) (h2 : e < 10003) : zdec e = -(nI (e - 9999)) := by
  have hc : e = 10000 ∨ e = 10001 ∨ e = 10002 := by omega
  rcases hc with rfl | rfl | rfl <;> decide
theorem zdec_op {j : Nat} (h : j < 10) : zdec (20000 + j) < (-3) ∧ ¬ zdec (20000 + j) = (-33) := by
  have hc : j = 0 ∨ j = 1 ∨ j = 2 ∨ j = 3 ∨ j = 4 ∨ j = 5 ∨ j = 6 ∨ j = 7 ∨ j = 8 ∨ j = 9 := by omega
  rcases hc with rfl | rfl | rfl | rfl | rfl | rfl | rfl | rfl | rfl | rfl <;> decide
set_option maxRecDepth 20000 in
theorem zc_worth {c u n : Nat} {f : Nat → Nat} {a b d0 : Int32} {M : za_M} (ht : zlw c u n f M) (hn : 0 < n) {G : Int32} (hG : zev (znm a b d0) f n 0 0 (M.1 (18, c, u)) = G) {K : Int32 → za_M → Prop} (h : ∀ M', zk [18] M M' → K G M') : f_X2_worth c u a b d0 M K := by
  obtain ⟨t0, t1, t2, t3, t4⟩ := ht
  have t4 : zwf f n 0 0 := by rcases t4 with q | q
                              · omega
                              · exact q
  unfold f_X2_worth
  have key : ∀ (k : Nat) (x4 x5 : Int32) (M' : za_M), (∃ s d, s + k = n ∧ x4 = nI d ∧ x5 = nI s ∧ zwf f k s d ∧ d ≤ s ∧ zk [18] M M' ∧ zev (znm a b d0) f k s d (M'.1 (18, c, u)) = G) → ∃ q, za_lp2 (f_X2_worth_b6 K c u a b d0) q x4 x5 M' := by
    refine za_lp2_ind (fun k x4 x5 M' => ∃ s d, s + k = n ∧ x4 = nI d ∧ x5 = nI s ∧ zwf f k s d ∧ d ≤ s ∧ zk [18] M M' ∧ zev (znm a b d0) f k s d (M'.1 (18, c, u)) = G) ?_ ?_
    · intro x4 x5 M' ⟨s, d, e0, e1, e2, e3, e4, e5, e6⟩ L
      subst e1; subst e2
      unfold f_X2_worth_b6
      rw [show M'.1 (6, c, u) 3 = nI n by rw [e5.1 (6, c, u) (by decide : (6 : Nat) ∉ [18])]; exact t1, if_pos (nI_le (by omega) (by omega))]
      refine ⟨vp_in_nI (n := 0) (by decide) (by decide), ?_⟩
      have e6 : M'.1 (18, c, u) 0 = _ := e6
      rw [show Int32.toNatClampNeg 0 = 0 by decide, e6]
      exact h M' e5
    · intro k x4 x5 M' ⟨s, d, e0, e1, e2, e3, e4, e5, e6⟩ L hL
      subst e1; subst e2
      have hi : ∀ i, i < n → M'.1 (17, c, u) i = zdec (f i) := fun i hi => by rw [e5.1 (17, c, u) (by decide : (17 : Nat) ∉ [18])]; exact t3 i hi
      have zu : ∀ (j : Nat) (v : Int32), zk [18] M (za_up M' (18, c, u) j v) := fun j v => zk_tr e5 (zk_up (show (18 : Nat) ∈ [18] by decide))
      have full : ¬ (50 : Int32) ≤ nI d := by rw [zl_lit 50, nI_leI (by omega) (by omega)]; omega
      unfold f_X2_worth_b6
      rw [show M'.1 (6, c, u) 3 = nI n by rw [e5.1 (6, c, u) (by decide : (6 : Nat) ∉ [18])]; exact t1, if_neg (by rw [nI_leI (by omega) (by omega)]; omega)]
      refine ⟨vp_in_nI (by omega) (by decide), ?_⟩
      rw [nI_clamp (by omega), hi s (by omega)]
      unfold za_let
      unfold zev at e6
      rcases e3 with ⟨h1, h2⟩ | ⟨h1, h2, h3⟩ | ⟨h1, h2, h3, h4⟩
      · by_cases q : f s < 10000
        · rw [zdec_num q, if_neg (by rw [Int32.lt_iff_toInt_lt, nI_toInt (by omega)]; have : (-3 : Int32).toInt = -3 := by decide
                                     omega), if_neg full, if_neg (nI_pos (by omega))]
          rw [if_pos q] at e6
          unfold f_X2_worth_b76 za_let f_X2_worth_b164
          refine ⟨vp_in_nI (by omega) (by decide), ?_⟩
          rw [nI_clamp (by omega), nI_1, nI_1]
          exact hL _ _ _ ⟨s + 1, d + 1, by omega, rfl, rfl, h2, by omega, zu _ _, by rw [za_up_row]; exact e6⟩
        · rw [if_neg q, if_pos (by omega)] at e6
          have hc : f s = 10000 ∨ f s = 10001 ∨ f s = 10002 := by omega
          rcases hc with hc | hc | hc
          · rw [hc, show zdec 10000 = -1 by decide, if_neg (by decide), if_neg full, if_pos (by decide), if_pos (by decide)]
            rw [hc] at e6
            unfold f_X2_worth_b76 za_let f_X2_worth_b164
            refine ⟨vp_in_nI (by omega) (by decide), ?_⟩
            rw [nI_clamp (by omega), nI_1, nI_1]
            exact hL _ _ _ ⟨s + 1, d + 1, by omega, rfl, rfl, h2, by omega, zu _ _, by rw [za_up_row]; exact e6⟩
          · rw [hc, show zdec 10001 = -2 by decide, if_neg (by decide), if_neg full, if_pos (by decide), if_neg (by decide), if_pos (by decide)]
            rw [hc] at e6
            unfold f_X2_worth_b76 za_let f_X2_worth_b164
            refine ⟨vp_in_nI (by omega) (by decide), ?_⟩
            rw [nI_clamp (by omega), nI_1, nI_1]
            exact hL _ _ _ ⟨s + 1, d + 1, by omega, rfl, rfl, h2, by omega, zu _ _, by rw [za_up_row]; exact e6⟩
          · rw [hc, show zdec 10002 = -3 by decide, if_neg (by decide), if_neg full, if_pos (by decide), if_neg (by decide), if_neg (by decide)]
            rw [hc] at e6
            unfold f_X2_worth_b76 za_let f_X2_worth_b164
            refine ⟨vp_in_nI (by omega) (by decide), ?_⟩
            rw [nI_clamp (by omega), nI_1, nI_1]
            exact hL _ _ _ ⟨s + 1, d + 1, by omega, rfl, rfl, h2, by omega, zu _ _, by rw [za_up_row]; exact e6⟩
      · have a1 : ¬ f s < 10000 := by omega
        have a2 : ¬ f s < 20000 := by omega
        rw [if_neg a1, if_neg a2, if_pos h1] at e6
        rw [h1, show zdec 20010 = -33 by decide, if_pos (by decide), if_pos rfl, if_neg (nI_nle (by omega) (by omega)), zl_s1 h2]
        refine ⟨vp_in_nI (by omega) (by decide), ?_⟩
        rw [nI_clamp (by omega)]
        unfold f_X2_worth_b120 za_let f_X2_worth_b164
        by_cases q : M'.1 (18, c, u) (d - 1) = 0
        · rw [if_pos q]
          rw [if_pos q] at e6
          refine ⟨vp_in_nI (by omega) (by decide), ?_⟩
          rw [nI_clamp (by omega), nI_1]
          exact hL _ _ _ ⟨s + 1, d, by omega, rfl, rfl, h3, by omega, zu _ _, by rw [za_up_row]; exact e6⟩
        · rw [if_neg q]
          rw [if_neg q] at e6
          refine ⟨vp_in_nI (by omega) (by decide), ?_⟩
          rw [nI_clamp (by omega), nI_1]
          exact hL _ _ _ ⟨s + 1, d, by omega, rfl, rfl, h3, by omega, zu _ _, by rw [za_up_row]; exact e6⟩
      · have a1 : ¬ f s < 10000 := by omega
        have a2 : ¬ f s < 20000 := by omega
        have a3 : ¬ f s = 20010 := by omega
        rw [if_neg a1, if_neg a2, if_neg a3] at e6
        obtain ⟨j, hj, ej⟩ : ∃ j, j < 10 ∧ f s = 20000 + j := ⟨f s - 20000, by omega, by omega⟩
        obtain ⟨o1, o2⟩ := zdec_op hj
        rw [ej, if_pos o1, if_neg o2]
        unfold f_X2_worth_b124
        rw [zl_lit 1, if_neg (by rw [nI_leI (by omega) (by omega)]; omega), ← zl_lit 1, zl_m1 (by omega), zl_s1 (by omega)]
        refine ⟨vp_in_nI (by omega) (by decide), vp_in_nI (by omega) (by decide), ?_⟩
        rw [nI_clamp (by omega), nI_clamp (by omega)]
        refine zf_joined hj ⟨vp_in_nI (by omega) (by decide), ?_⟩
        unfold za_let f_X2_worth_b164
        rw [nI_1]
        exact hL _ _ _ ⟨s + 1, d - 1, by omega, rfl, rfl, h4, by omega, zu _ _, by rw [za_up_row, show d - 1 - 1 = d - 2 by omega]; rw [ej, Nat.add_sub_cancel_left] at e6; exact e6⟩
  exact key n _ _ _ ⟨0, 0, by omega, rfl, rfl, t4, by omega, zk_rf _ _, hG⟩
/-- what a use gives, before it is held -/
def zgv (u n : Nat) (f : Nat → Nat) (a b c : Int32) : Int32 := if n = 0 then (if u = 0 then a + c else a - a / 4) else zev (znm a b c) f n 0 0 (fun _ => 0)
def zhd (x m : Int32) : Int32 := if 0 ≤ x then (if x ≤ m then x else m) else 0
theorem zf_X9_held (x m : Int32) (M : za_M) (K : Int32 → za_M → Prop) : f_X9_held x m M K = K (zhd x m) M := by
  unfold f_X9_held zhd
  split
  · split <;> rfl
  · rfl
theorem zhd_mm {x m : Int32} (hm : 0 ≤ m) : za_max 0 (za_min m x) = zhd x m := by
  unfold za_max za_min zhd
  by_cases h : 0 ≤ x
  · rw [if_pos h]
    by_cases q : x ≤ m
    · rw [if_pos q]
      by_cases r : x < m
      · rw [if_pos r]
        by_cases t : 0 < x
        · rw [if_pos t]
        · rw [if_neg t]
          exact Int32.le_antisymm h (Int32.not_lt.mp t)
      · rw [if_neg r]
        have e : x = m := Int32.le_antisymm q (Int32.not_lt.mp r)
        by_cases t : 0 < m
        · rw [if_pos t, e]
        · rw [if_neg t, e]
          exact Int32.le_antisymm hm (Int32.not_lt.mp t)
    · rw [if_neg q, if_neg (fun r => q (Int32.le_of_lt r))]
      by_cases t : 0 < m
      · rw [if_pos t]
      · rw [if_neg t]
        exact Int32.le_antisymm hm (Int32.not_lt.mp t)
  · rw [if_neg h]
    have hx : x < 0 := Int32.not_le.mp h
    have hxm : x < m := Int32.lt_of_lt_of_le hx hm
    rw [if_pos hxm, if_neg (fun r => h (Int32.le_of_lt r))]
theorem zev_0 (nm : Nat → Int32) (f : Nat → Nat) {n : Nat} (h : zwf f n 0 0) (st : Nat → Int32) : zev nm f n 0 0 st = zev nm f n 0 0 (fun _ => 0) := zev_cg nm f n 0 0 st _ h (fun j hj => absurd hj (by omega))
/-- the class's use gives -/
theorem zc_gives {c u n : Nat} {f : Nat → Nat} {a b d : Int32} {M : za_M} (hu : u < 2) (ht : zlw c u n f M) {K : Int32 → za_M → Prop} (h : ∀ M', zk [18] M M' → K (zhd (zgv u n f a b d) 99) M') : f_X2_gives c u a b d M K := by
  unfold f_X2_gives
  rw [ht.2.1]
  unfold zgv at h
  by_cases q : n = 0
  · rw [if_pos q] at h
    rw [if_pos (by rw [q]; rfl)]
    unfold f_X2_withoutText
    rw [ht.1]
    by_cases r : u = 0
    · rw [if_pos (by rw [r]; rfl)]
      dsimp only
      rw [zf_X9_held]
      rw [if_pos r] at h
      exact h M (zk_rf _ _)
    · rw [if_neg (nI_ne0 (by omega) (by omega))]
      dsimp only
      rw [zf_X9_held]
      rw [if_neg r] at h
      exact h M (zk_rf _ _)
  · have hn := ht.2.2.1
    rw [if_neg q] at h
    rw [if_neg (nI_ne0 (by omega) (by omega))]
    have hw : zwf f n 0 0 := by rcases ht.2.2.2.2 with e | e
                                · exact absurd e q
                                · exact e
    refine zc_worth ht (by omega) (zev_0 _ _ hw _) (fun M' hk => ?_)
    rw [zf_X9_held]
    exact h M' hk
/-- the reference's use gives -/
theorem zr_given {u n : Nat} {f : Nat → Nat} {a b d : Int32} {M : za_M} (hu : u < 2) (ht : zit (M.1 (28, 0, 0)) u n f) {K : Int32 → za_M → Prop} (h : ∀ M', zk [34, 35] M M' → K (zhd (zgv u n f a b d) 99) M') : f_X10_given (nI u) a b d M K := by
  unfold f_X10_given za_let
  refine ⟨vp_in_nI (n := 0) (by decide) (by decide), vp_in_nI (n := 1) (by decide) (by decide), vp_in_nI (n := 2) (by decide) (by decide), ?_⟩
  rw [show Int32.toNatClampNeg 0 = 0 by decide, show Int32.toNatClampNeg 1 = 1 by decide, show Int32.toNatClampNeg 2 = 2 by decide]
  generalize hM1 : za_up (za_up (za_up M (34, 0, 0) 0 a) (34, 0, 0) 1 b) (34, 0, 0) 2 d = M1
  have hk1 : zk [34, 35] M M1 := by
    rw [← hM1]
    exact zk_tr (zk_tr (zk_up (by decide)) (zk_up (by decide))) (zk_up (by decide))
  have hnm : ∀ k, k < 3 → M1.1 (34, 0, 0) k = znm a b d k := by
    intro k hk
    have hc : k = 0 ∨ k = 1 ∨ k = 2 := by omega
    rw [← hM1]
    rcases hc with rfl | rfl | rfl <;> simp [zl_up, znm]
  have hN : M1.1 (28, 0, 0) = M.1 (28, 0, 0) := hk1.1 _ (by decide)
  have tail : ∀ y : Int32, (n = 0 → y = zgv u n f a b d) → f_X10_given_b38 K (nI u) y M1 := by
    intro y hy
    unfold f_X10_given_b38 f_X10_hasText
    have e1 : 175 + 52 * nI u = nI (175 + 52 * u) := by rw [zl_lit 52, pk_mul, zl_lit 175, nI_add]
    rw [e1]
    refine ⟨vp_in_nI (by omega) (by decide), ?_⟩
    rw [nI_clamp (by omega), hN, ht.1]
    have hn := ht.2.1
    by_cases q : n = 0
    · rw [if_pos (by rw [q]; decide)]
      dsimp only
      rw [if_pos rfl]
      unfold f_X10_held
      rw [zhd_mm (by decide), hy q]
      exact h M1 hk1
    · rw [if_neg (nI_nle (by omega) (by omega))]
      dsimp only
      rw [if_neg (by decide), nI_1, show 175 + 52 * u + 1 = 176 + 52 * u by omega]
      have hw : zwf f n 0 0 := by rcases ht.2.2.2 with e | e
                                  · exact absurd e q
                                  · exact e
      refine zr_worked hu ht (by omega) hN hnm (zev_0 _ _ hw _) (fun M' hk => ?_)
      unfold f_X10_held
      rw [zhd_mm (by decide)]
      have hg : zgv u n f a b d = zev (znm a b d) f n 0 0 (fun _ => 0) := by
        unfold zgv
        rw [if_neg q]
      rw [← hg]
      exact h M' (zk_tr hk1 (zk_mo hk (by decide)))
  by_cases r : u = 0
  · rw [if_pos (by rw [r]; rfl)]
    exact tail _ (fun q => by unfold zgv; rw [if_pos q, if_pos r])
  · rw [if_neg (nI_ne0 (by omega) (by omega))]
    exact tail _ (fun q => by unfold zgv; rw [if_pos q, if_neg r])

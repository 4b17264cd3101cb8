/-! voices: what is told and the bodies, kind by kind -/
def zno (c t : za_L) (s : Nat) (b : Int32) (M : za_M) : za_M := if 40 ≤ M.1 c s then M else za_up (za_up M t (M.1 c s).toNatClampNeg b) c s (M.1 c s + 1)
def znl (c t : za_L) (s : Nat) : List Int32 → za_M → za_M
  | [], M => M
  | b :: bs, M => znl c t s bs (zno c t s b M)
theorem znl_app (c t : za_L) (s : Nat) : ∀ (as bs : List Int32) (M : za_M), znl c t s (as ++ bs) M = znl c t s bs (znl c t s as M) := by
  intro as
  induction as with
  | nil => intro bs M; rfl
  | cons a as ih => intro bs M; exact ih bs _
/-- the notes, as numbers -/
def zpn (b : Int32) (q : Nat × (Nat → Int32)) : Nat × (Nat → Int32) := if q.1 < 40 then (q.1 + 1, upd q.2 q.1 b) else q
def zpl : List Int32 → Nat × (Nat → Int32) → Nat × (Nat → Int32)
  | [], q => q
  | b :: bs, q => zpl bs (zpn b q)
def zpr (c t : za_L) (s : Nat) (q : Nat × (Nat → Int32)) (M0 M : za_M) : Prop := q.1 ≤ 40 ∧ M.1 c s = nI q.1 ∧ M.1 t = q.2 ∧ (∀ x, x ≠ c → x ≠ t → M.1 x = M0.1 x) ∧ (∀ j, j ≠ s → M.1 c j = M0.1 c j) ∧ M.2 = M0.2
theorem zpr_no {c t : za_L} {s : Nat} (hct : c ≠ t) {q : Nat × (Nat → Int32)} {M0 M : za_M} (b : Int32) (h : zpr c t s q M0 M) : zpr c t s (zpn b q) M0 (zno c t s b M) := by
  obtain ⟨h1, h2, h3, h4, h5, h6⟩ := h
  unfold zno zpn
  rw [h2]
  by_cases z : q.1 < 40
  · rw [if_pos z, if_neg (show ¬ (40 : Int32) ≤ nI q.1 by rw [zl_lit 40, nI_leI (by omega) (by omega)]; omega), nI_clamp (by omega), nI_1]
    refine ⟨by show q.1 + 1 ≤ 40; omega, by rw [za_up_row, zu_eq], by rw [za_up_oth _ _ _ hct.symm, za_up_row, h3], fun x hc ht => by rw [za_up_oth _ _ _ hc, za_up_oth _ _ _ ht, h4 x hc ht], fun j hj => by rw [za_up_row, zu_ne hj, za_up_oth _ _ _ hct, h5 j hj], h6⟩
  · rw [if_neg z, if_pos (show (40 : Int32) ≤ nI q.1 by rw [zl_lit 40, nI_leI (by omega) (by omega)]; omega)]
    exact ⟨h1, h2, h3, h4, h5, h6⟩
theorem zpr_nl {c t : za_L} {s : Nat} (hct : c ≠ t) : ∀ (bs : List Int32) {q : Nat × (Nat → Int32)} {M0 M : za_M}, zpr c t s q M0 M → zpr c t s (zpl bs q) M0 (znl c t s bs M) := by
  intro bs
  induction bs with
  | nil => intro q M0 M h; exact h
  | cons b bs ih => intro q M0 M h; exact ih (zpr_no hct b h)
theorem zpl_eq : ∀ (bs : List Int32) (q r : Nat × (Nat → Int32)), q.1 = r.1 → (∀ i, i < q.1 → q.2 i = r.2 i) → (zpl bs q).1 = (zpl bs r).1 ∧ ∀ i, i < (zpl bs q).1 → (zpl bs q).2 i = (zpl bs r).2 i := by
  intro bs
  induction bs with
  | nil => intro q r h1 h2; exact ⟨h1, h2⟩
  | cons b bs ih =>
    intro q r h1 h2
    refine ih (zpn b q) (zpn b r) ?_ ?_
    · unfold zpn
      rw [h1]
      split <;> simp [h1]
    · unfold zpn
      rw [h1]
      by_cases z : r.1 < 40
      · rw [if_pos z, if_pos z]
        intro i hi
        have hi : i < r.1 + 1 := hi
        show upd q.2 r.1 b i = upd r.2 r.1 b i
        by_cases e : i = r.1
        · rw [e, zu_eq, zu_eq]
        · rw [zu_ne e, zu_ne e]
          exact h2 i (by omega)
      · rw [if_neg z, if_neg z]
        exact h2
/-- the class's voices, as they stand -/
def zvi (k : Nat) (n m : Int32) (M : za_M) : Prop := zs (M.1 (8, 0, 0) 1) 41 ∧ M.1 (8, 0, 0) 2 = nI k ∧ M.1 (8, 0, 0) 3 = n ∧ M.1 (8, 0, 0) 4 = m
abbrev zcl_n (b : Int32) (M : za_M) : za_M := zno (8, 0, 0) (21, 0, 0) 1 b M
abbrev zcl_l (b : List Int32) (M : za_M) : za_M := znl (8, 0, 0) (21, 0, 0) 1 b M
theorem zvi_no {k : Nat} {n m : Int32} {M : za_M} (b : Int32) (h : zvi k n m M) : zvi k n m (zcl_n b M) := by
  obtain ⟨⟨w, hw, ew⟩, h2, h3, h4⟩ := h
  have p := zpr_no (c := (8, 0, 0)) (t := (21, 0, 0)) (s := 1) (by decide) (q := (w, M.1 (21, 0, 0))) (M0 := M) (M := M) b ⟨by show w ≤ 40; omega, ew, rfl, fun _ _ _ => rfl, fun _ _ => rfl, rfl⟩
  obtain ⟨p1, p2, p3, p4, p5, p6⟩ := p
  exact ⟨⟨_, by omega, p2⟩, by rw [← h2]; exact p5 2 (by decide), by rw [← h3]; exact p5 3 (by decide), by rw [← h4]; exact p5 4 (by decide)⟩
theorem zvi_nl {k : Nat} {n m : Int32} : ∀ (bs : List Int32) {M : za_M}, zvi k n m M → zvi k n m (zcl_l bs M) := by
  intro bs
  induction bs with
  | nil => intro M h; exact h
  | cons b bs ih => intro M h; exact ih (zvi_no b h)
theorem zq_note {b : Int32} {M : za_M} {K : za_M → Prop} (h : zs (M.1 (8, 0, 0) 1) 41) : f_X8_note b M K = K (zcl_n b M) := by
  obtain ⟨w, hw, ew⟩ := h
  simp only [f_X8_note, zcl_n, zno, za_let, ew]
  by_cases z : w < 40
  · rw [if_neg (show ¬ (40 : Int32) ≤ nI w by rw [zl_lit 40, nI_leI (by omega) (by omega)]; omega), if_neg (show ¬ (40 : Int32) ≤ nI w by rw [zl_lit 40, nI_leI (by omega) (by omega)]; omega), zx_in z (by decide), za_up_oth _ _ _ (by decide), ew]
  · rw [if_pos (show (40 : Int32) ≤ nI w by rw [zl_lit 40, nI_leI (by omega) (by omega)]; omega), if_pos (show (40 : Int32) ≤ nI w by rw [zl_lit 40, nI_leI (by omega) (by omega)]; omega)]
/-- the body of a kind for an act -/
def zbo (k a : Nat) : Int32 := if za_t3 (k * 4 + a) ≠ 0 then za_t3 (k * 4 + a) else if za_t3 (zab k * 4 + a) ≠ 0 then za_t3 (zab k * 4 + a) else za_t3 (zab (zab k) * 4 + a)
theorem zt3_0 : ∀ a, a < 4 → za_t3 (0 * 4 + a) ≠ 0 := by decide
theorem zq_fr1 {k a s j : Nat} (hk : k < 7) (ha : a < 4) (hs : s < 7) (hj : j < 40) {x : Int32} {M : za_M} {K : Int32 → za_M → Prop} {Ro : Int32 → Int32 → Int32 → za_M → (Int32 → za_M → Prop) → Prop} {Ra Rf : Int32 → Int32 → Int32 → Int32 → za_M → (Int32 → za_M → Prop) → Prop} {Rs : Int32 → Int32 → Int32 → za_M → (Int32 → za_M → Prop) → Prop} {L : Int32 → Int32 → za_M → Prop} (h1 : za_t3 (k * 4 + a) ≠ 0 → Rs (za_t3 (k * 4 + a)) x (nI (j + 1)) M K) (h2 : za_t3 (k * 4 + a) = 0 → L (nI (zab k)) (nI (s + 1)) M) : f_X8_from_b6 Ro Ra Rf Rs K (nI a) x (nI j) L (nI k) (nI s) M := by
  simp only [f_X8_from_b6, za_let, zf_X9_within]
  have hw : zw (nI k) 0 6 = 1 := zw_1 (n := 7) hk (by decide)
  rw [zl_lit 7, if_neg (by rw [nI_leI (by omega) (by omega)]; omega), hw, if_neg (by decide), zl_lit 4, pk_mul, nI_add, zx_in (by omega) (by decide), nI_clamp (by omega)]
  by_cases q : za_t3 (k * 4 + a) = 0
  · have k0 : k ≠ 0 := fun e => zt3_0 a ha (by rw [← e]; exact q)
    rw [if_pos q, zx_in hk (by decide), nI_clamp (by omega), za_t0_k hk, if_neg k0, nI_1]
    exact h2 q
  · rw [if_neg q, zl_lit 40, if_neg (by rw [nI_leI (by omega) (by omega)]; omega), nI_1]
    exact h1 q
theorem zq_from {d k a j : Nat} (hk : k < 7) (ha : a < 4) (hj : j < 40) {x : Int32} {M : za_M} {K : Int32 → za_M → Prop} (h : f_X8_speakBody d (zbo k a) x (nI (j + 1)) M K) : f_X8_from (d + 1) (nI k) (nI a) x (nI j) M K := by
  show ∃ n, za_lp2 (f_X8_from_b6 (f_X8_own d) (f_X8_above d) (f_X8_from d) (f_X8_speakBody d) K (nI a) x (nI j)) n (nI k) 0 M
  refine ⟨4, ?_⟩
  unfold zbo at h
  have hk2 := zab_lt hk
  have hz2 := zab_2 hk2
  refine zq_fr1 (s := 0) hk ha (by decide) hj (fun q => by rw [if_pos q] at h; exact h) (fun q => ?_)
  rw [if_neg (by rw [q]; decide)] at h
  refine zq_fr1 (s := 1) (by omega) ha (by decide) hj (fun q2 => by rw [if_pos q2] at h; exact h) (fun q2 => ?_)
  rw [if_neg (by rw [q2]; decide)] at h
  exact zq_fr1 (s := 2) (by omega) ha (by decide) hj (fun q3 => h) (fun q3 => absurd q3 (by rw [hz2]; exact zt3_0 a ha))
theorem zq_own {d k a j : Nat} {n m : Int32} (hk : k < 7) (ha : a < 4) (hj : j < 40) {x : Int32} {M : za_M} {K : Int32 → za_M → Prop} (hv : zvi k n m M) (h : f_X8_speakBody d (zbo k a) x (nI (j + 1)) M K) : f_X8_own (d + 2) (nI a) x (nI j) M K := by
  show f_X8_from (d + 1) (M.1 (8, 0, 0) 2) (nI a) x (nI j) M K
  rw [hv.2.1]
  exact zq_from hk ha hj h
theorem zq_abv {d b a j : Nat} (hb : b < 7) (b0 : b ≠ 0) (ha : a < 4) (hj : j < 40) {x : Int32} {M : za_M} {K : Int32 → za_M → Prop} (h : f_X8_speakBody d (zbo (zab b) a) x (nI (j + 1)) M K) : f_X8_above (d + 2) (nI b) (nI a) x (nI j) M K := by
  show vp_in (nI b) 7 ∧ f_X8_from (d + 1) (za_t0 (nI b).toNatClampNeg) (nI a) x (nI j) M K
  rw [zx_in hb (by decide), nI_clamp (by omega), za_t0_k hb, if_neg b0]
  have := zab_lt hb
  exact zq_from (by omega) ha hj h
theorem zb_10 {d k : Nat} {n m x J : Int32} {M : za_M} {K : Int32 → za_M → Prop} (hv : zvi k n m M) (h : K (x + n) (zcl_n 10 M)) : f_X8_speakBody (d + 1) 10 x J M K := by
  show f_X8_note 10 M _
  rw [zq_note hv.1]
  have hv' := zvi_no 10 hv
  (repeat rw [if_neg (by decide)])
  rw [if_pos rfl]
  rw [hv'.2.2.1]
  exact h
theorem zb_12 {d k : Nat} {n m x J : Int32} {M : za_M} {K : Int32 → za_M → Prop} (hv : zvi k n m M) (h : K (x - m) (zcl_n 12 M)) : f_X8_speakBody (d + 1) 12 x J M K := by
  show f_X8_note 12 M _
  rw [zq_note hv.1]
  have hv' := zvi_no 12 hv
  (repeat rw [if_neg (by decide)])
  rw [if_pos rfl]
  rw [hv'.2.2.2]
  exact h
theorem zb_11 {d k : Nat} {n m x J : Int32} {M : za_M} {K : Int32 → za_M → Prop} (hv : zvi k n m M) (h : f_X8_own d 0 x J (zcl_n 11 M) (fun r M' => K (r * 2) M')) : f_X8_speakBody (d + 1) 11 x J M K := by
  show f_X8_note 11 M _
  rw [zq_note hv.1]
  have hv' := zvi_no 11 hv
  (repeat rw [if_neg (by decide)])
  rw [if_pos rfl]
  exact h
theorem zb_13 {d k : Nat} {n m x J : Int32} {M : za_M} {K : Int32 → za_M → Prop} (hv : zvi k n m M) (h : f_X8_own d 1 x J (zcl_n 13 M) (fun r M1 => f_X8_own d 2 x J M1 (fun q M2 => K (r ^^^ q) M2))) : f_X8_speakBody (d + 1) 13 x J M K := by
  show f_X8_note 13 M _
  rw [zq_note hv.1]
  have hv' := zvi_no 13 hv
  (repeat rw [if_neg (by decide)])
  rw [if_pos rfl]
  exact h
theorem zb_20 {d k : Nat} {n m x J : Int32} {M : za_M} {K : Int32 → za_M → Prop} (hv : zvi k n m M) (h : f_X8_above d 1 0 x J (zcl_n 20 M) (fun r M1 => K (r * 3) M1)) : f_X8_speakBody (d + 1) 20 x J M K := by
  show f_X8_note 20 M _
  rw [zq_note hv.1]
  have hv' := zvi_no 20 hv
  (repeat rw [if_neg (by decide)])
  rw [if_pos rfl]
  exact h
theorem zb_30 {d k : Nat} {n m x J : Int32} {M : za_M} {K : Int32 → za_M → Prop} (hv : zvi k n m M) (h : f_X8_above d 2 1 x J (zcl_n 30 M) (fun r M1 => f_X8_own d 2 1 J M1 (fun q M2 => K (r - q) M2))) : f_X8_speakBody (d + 1) 30 x J M K := by
  show f_X8_note 30 M _
  rw [zq_note hv.1]
  have hv' := zvi_no 30 hv
  (repeat rw [if_neg (by decide)])
  rw [if_pos rfl]
  exact h
theorem zb_40 {d k : Nat} {n m x J : Int32} {M : za_M} {K : Int32 → za_M → Prop} (hv : zvi k n m M) (h : f_X8_above d 3 2 x J (zcl_n 40 M) (fun r M1 => K (-r) M1)) : f_X8_speakBody (d + 1) 40 x J M K := by
  show f_X8_note 40 M _
  rw [zq_note hv.1]
  have hv' := zvi_no 40 hv
  (repeat rw [if_neg (by decide)])
  rw [if_pos rfl]
  exact h
theorem zb_50 {d k : Nat} {n m x J : Int32} {M : za_M} {K : Int32 → za_M → Prop} (hv : zvi k n m M) (h : f_X8_above d 4 3 x J (zcl_n 50 M) (fun r M1 => f_X8_own d 0 2 J M1 (fun q M2 => K (r - q) M2))) : f_X8_speakBody (d + 1) 50 x J M K := by
  show f_X8_note 50 M _
  rw [zq_note hv.1]
  have hv' := zvi_no 50 hv
  (repeat rw [if_neg (by decide)])
  rw [if_pos rfl]
  exact h
theorem zb_60 {d k : Nat} {n m x J : Int32} {M : za_M} {K : Int32 → za_M → Prop} (hv : zvi k n m M) (h : f_X8_above d 5 1 (x + 1) J (zcl_n 60 M) (fun r M1 => K r M1)) : f_X8_speakBody (d + 1) 60 x J M K := by
  show f_X8_note 60 M _
  rw [zq_note hv.1]
  have hv' := zvi_no 60 hv
  (repeat rw [if_neg (by decide)])
  rw [if_pos rfl]
  exact h
theorem zb_70 {d k : Nat} {n m x J : Int32} {M : za_M} {K : Int32 → za_M → Prop} (hv : zvi k n m M) (h : f_X8_above d 6 2 x J (zcl_n 70 M) (fun r M1 => K (r ^^^ (M1.1 (8, 0, 0) 3)) M1)) : f_X8_speakBody (d + 1) 70 x J M K := by
  show f_X8_note 70 M _
  rw [zq_note hv.1]
  have hv' := zvi_no 70 hv
  (repeat rw [if_neg (by decide)])
  rw [if_pos rfl]
  exact h
theorem zb_71 {d k : Nat} {n m x J : Int32} {M : za_M} {K : Int32 → za_M → Prop} (hv : zvi k n m M) (h : f_X8_own d 1 x J (zcl_n 71 M) (fun r M1 => f_X8_above d 6 3 x J M1 (fun q M2 => K (r - q) M2))) : f_X8_speakBody (d + 1) 71 x J M K := by
  show f_X8_note 71 M _
  rw [zq_note hv.1]
  have hv' := zvi_no 71 hv
  (repeat rw [if_neg (by decide)])
  rw [if_pos rfl]
  exact h
/-- values and bodies -/
def zvB (k : Nat) (n x : Int32) : Int32 := if zun k 1 = 0 then x + n else (x + n) * 3
def ztB (k : Nat) : List Int32 := if zun k 1 = 0 then [10] else [20, 10]
def zvR (k : Nat) (n m x : Int32) : Int32 := if k = 6 then (-(x - m)) ^^^ n else if zun k 3 = 0 then x - m else -(x - m)
def ztR (k : Nat) : List Int32 := if k = 6 then [70, 40, 12] else if zun k 3 = 0 then [12] else [40, 12]
def zvM (k : Nat) (n m x : Int32) : Int32 := if zun k 2 = 0 then zvB k n x * 2 else zvB k n (if k = 5 then x + 1 else x) * 2 - zvR k n m 1
def ztM (k : Nat) : List Int32 := if zun k 2 = 0 then 11 :: ztB k else (if k = 5 then [60, 30, 11] else [30, 11]) ++ (ztB k ++ ztR k)
def zvP (k : Nat) (n m x : Int32) : Int32 := zvM k n m x ^^^ zvR k n m x
def ztP (k : Nat) : List Int32 := 13 :: (ztM k ++ ztR k)
def zvG (k : Nat) (n m x : Int32) : Int32 := if k = 6 then zvM k n m x - zvP k n m x else if k = 4 then zvP k n m x - zvB k n 2 else zvP k n m x
def ztG (k : Nat) : List Int32 := if k = 6 then 71 :: (ztM k ++ ztP k) else if k = 4 then 50 :: (ztP k ++ ztB k) else ztP k
theorem zbo_0 : ∀ k, k < 7 → zbo k 0 = if zun k 1 = 0 then 10 else 20 := by decide
theorem zbo_1 : ∀ k, k < 7 → zbo k 1 = if zun k 2 = 0 then 11 else if k = 5 then 60 else 30 := by decide
theorem zbo_2 : ∀ k, k < 7 → zbo k 2 = if k = 6 then 70 else if zun k 3 = 0 then 12 else 40 := by decide
theorem zbo_3 : ∀ k, k < 7 → zbo k 3 = if k = 6 then 71 else if k = 4 then 50 else 13 := by decide
theorem zq_burns {d k j : Nat} {n m x : Int32} {M : za_M} {K : Int32 → za_M → Prop} (hk : k < 7) (hj : j < 35) (hv : zvi k n m M) (h : K (zvB k n x) (zcl_l (ztB k) M)) : f_X8_own (d + 6) 0 x (nI j) M K := by
  refine zq_own (a := 0) (d := d + 4) hk (by decide) (by omega) hv ?_
  rw [zbo_0 k hk]
  unfold zvB ztB at h
  by_cases z : zun k 1 = 0
  · rw [if_pos z] at h ⊢
    rw [if_pos z] at h
    exact zb_10 (d := d + 3) hv h
  · rw [if_neg z] at h ⊢
    rw [if_neg z] at h
    refine zb_20 (d := d + 3) hv ?_
    refine zq_abv (d := d + 1) (b := 1) (a := 0) (by decide) (by decide) (by decide) (by omega) ?_
    rw [show zbo (zab 1) 0 = 10 by decide]
    exact zb_10 (zvi_no 20 hv) h
theorem zq_runs {d k j : Nat} {n m x : Int32} {M : za_M} {K : Int32 → za_M → Prop} (hk : k < 7) (hj : j < 35) (hv : zvi k n m M) (h : K (zvR k n m x) (zcl_l (ztR k) M)) : f_X8_own (d + 9) 2 x (nI j) M K := by
  refine zq_own (a := 2) (d := d + 7) hk (by decide) (by omega) hv ?_
  rw [zbo_2 k hk]
  unfold zvR ztR at h
  by_cases z6 : k = 6
  · rw [if_pos z6] at h ⊢
    rw [if_pos z6] at h
    refine zb_70 (d := d + 6) hv ?_
    refine zq_abv (d := d + 4) (b := 6) (a := 2) (by decide) (by decide) (by decide) (by omega) ?_
    rw [show zbo (zab 6) 2 = 40 by decide]
    refine zb_40 (d := d + 3) (zvi_no 70 hv) ?_
    refine zq_abv (d := d + 1) (b := 3) (a := 2) (by decide) (by decide) (by decide) (by omega) ?_
    rw [show zbo (zab 3) 2 = 12 by decide]
    refine zb_12 (zvi_no 40 (zvi_no 70 hv)) ?_
    rw [(zvi_no 12 (zvi_no 40 (zvi_no 70 hv))).2.2.1]
    exact h
  · rw [if_neg z6] at h ⊢
    rw [if_neg z6] at h
    by_cases z : zun k 3 = 0
    · rw [if_pos z] at h ⊢
      rw [if_pos z] at h
      exact zb_12 (d := d + 6) hv h
    · rw [if_neg z] at h ⊢
      rw [if_neg z] at h
      refine zb_40 (d := d + 6) hv ?_
      refine zq_abv (d := d + 4) (b := 3) (a := 2) (by decide) (by decide) (by decide) (by omega) ?_
      rw [show zbo (zab 3) 2 = 12 by decide]
      exact zb_12 (d := d + 3) (zvi_no 40 hv) h
theorem zq_melts {d k j : Nat} {n m x : Int32} {M : za_M} {K : Int32 → za_M → Prop} (hk : k < 7) (hj : j < 30) (hv : zvi k n m M) (h : K (zvM k n m x) (zcl_l (ztM k) M)) : f_X8_own (d + 15) 1 x (nI j) M K := by
  refine zq_own (a := 1) (d := d + 13) hk (by decide) (by omega) hv ?_
  rw [zbo_1 k hk]
  unfold zvM ztM at h
  by_cases z : zun k 2 = 0
  · rw [if_pos z] at h ⊢
    rw [if_pos z] at h
    refine zb_11 (d := d + 12) hv ?_
    exact zq_burns (d := d + 6) hk (by omega) (zvi_no 11 hv) h
  · rw [if_neg z] at h ⊢
    rw [if_neg z] at h
    by_cases z5 : k = 5
    · rw [if_pos z5] at h ⊢
      rw [if_pos z5] at h
      refine zb_60 (d := d + 12) hv ?_
      refine zq_abv (d := d + 10) (b := 5) (a := 1) (by decide) (by decide) (by decide) (by omega) ?_
      rw [show zbo (zab 5) 1 = 30 by decide]
      refine zb_30 (d := d + 9) (zvi_no 60 hv) ?_
      refine zq_abv (d := d + 7) (b := 2) (a := 1) (by decide) (by decide) (by decide) (by omega) ?_
      rw [show zbo (zab 2) 1 = 11 by decide]
      refine zb_11 (d := d + 6) (zvi_no 30 (zvi_no 60 hv)) ?_
      refine zq_burns (d := d) hk (by omega) (zvi_no 11 (zvi_no 30 (zvi_no 60 hv))) ?_
      refine zq_runs (d := d) hk (by omega) (zvi_nl _ (zvi_no 11 (zvi_no 30 (zvi_no 60 hv)))) ?_
      unfold zcl_l at h
      rw [znl_app, znl_app] at h
      exact h
    · rw [if_neg z5] at h ⊢
      rw [if_neg z5] at h
      refine zb_30 (d := d + 12) hv ?_
      refine zq_abv (d := d + 10) (b := 2) (a := 1) (by decide) (by decide) (by decide) (by omega) ?_
      rw [show zbo (zab 2) 1 = 11 by decide]
      refine zb_11 (d := d + 9) (zvi_no 30 hv) ?_
      refine zq_burns (d := d + 3) hk (by omega) (zvi_no 11 (zvi_no 30 hv)) ?_
      refine zq_runs (d := d + 3) hk (by omega) (zvi_nl _ (zvi_no 11 (zvi_no 30 hv))) ?_
      unfold zcl_l at h
      rw [znl_app, znl_app] at h
      exact h
theorem zq_plain {d k j : Nat} {n m x : Int32} {M : za_M} {K : Int32 → za_M → Prop} (hk : k < 7) (hj : j < 30) (hv : zvi k n m M) (h : K (zvP k n m x) (zcl_l (ztP k) M)) : f_X8_speakBody (d + 16) 13 x (nI j) M K := by
  refine zb_13 (d := d + 15) hv ?_
  refine zq_melts (d := d) hk hj (zvi_no 13 hv) ?_
  refine zq_runs (d := d + 6) hk (by omega) (zvi_nl _ (zvi_no 13 hv)) ?_
  unfold zvP ztP at h
  unfold zcl_l at h
  unfold znl at h
  rw [znl_app] at h
  exact h
theorem zq_glows {d k j : Nat} {n m x : Int32} {M : za_M} {K : Int32 → za_M → Prop} (hk : k < 7) (hj : j < 20) (hv : zvi k n m M) (h : K (zvG k n m x) (zcl_l (ztG k) M)) : f_X8_own (d + 21) 3 x (nI j) M K := by
  refine zq_own (a := 3) (d := d + 19) hk (by decide) (by omega) hv ?_
  rw [zbo_3 k hk]
  unfold zvG ztG at h
  by_cases z6 : k = 6
  · rw [if_pos z6] at h ⊢
    rw [if_pos z6] at h
    refine zb_71 (d := d + 18) hv ?_
    refine zq_melts (d := d + 3) hk (by omega) (zvi_no 71 hv) ?_
    refine zq_abv (d := d + 16) (b := 6) (a := 3) (by decide) (by decide) (by decide) (by omega) ?_
    rw [show zbo (zab 6) 3 = 13 by decide]
    refine zq_plain (d := d) hk (by omega) (zvi_nl _ (zvi_no 71 hv)) ?_
    unfold zcl_l at h
    unfold znl at h
    rw [znl_app] at h
    exact h
  · rw [if_neg z6] at h ⊢
    rw [if_neg z6] at h
    by_cases z4 : k = 4
    · rw [if_pos z4] at h ⊢
      rw [if_pos z4] at h
      refine zb_50 (d := d + 18) hv ?_
      refine zq_abv (d := d + 16) (b := 4) (a := 3) (by decide) (by decide) (by decide) (by omega) ?_
      rw [show zbo (zab 4) 3 = 13 by decide]
      refine zq_plain (d := d) hk (by omega) (zvi_no 50 hv) ?_
      refine zq_burns (d := d + 12) hk (by omega) (zvi_nl _ (zvi_no 50 hv)) ?_
      unfold zcl_l at h
      unfold znl at h
      rw [znl_app] at h
      exact h
    · rw [if_neg z4] at h ⊢
      rw [if_neg z4] at h
      exact zq_plain (d := d + 3) hk (by omega) hv h
/-- the reference's voices -/
def zri (k : Nat) (n m : Int32) (M : za_M) : Prop := zs (M.1 (27, 0, 0) 15) 41 ∧ M.1 (27, 0, 0) 16 = nI k ∧ M.1 (27, 0, 0) 17 = n ∧ M.1 (27, 0, 0) 18 = m
abbrev zrf_n (b : Int32) (M : za_M) : za_M := zno (27, 0, 0) (36, 0, 0) 15 b M
abbrev zrf_l (b : List Int32) (M : za_M) : za_M := znl (27, 0, 0) (36, 0, 0) 15 b M
theorem zri_no {k : Nat} {n m : Int32} {M : za_M} (b : Int32) (h : zri k n m M) : zri k n m (zrf_n b M) := by
  obtain ⟨⟨w, hw, ew⟩, h2, h3, h4⟩ := h
  have p := zpr_no (c := (27, 0, 0)) (t := (36, 0, 0)) (s := 15) (by decide) (q := (w, M.1 (36, 0, 0))) (M0 := M) (M := M) b ⟨by show w ≤ 40; omega, ew, rfl, fun _ _ _ => rfl, fun _ _ => rfl, rfl⟩
  obtain ⟨p1, p2, p3, p4, p5, p6⟩ := p
  exact ⟨⟨_, by omega, p2⟩, by rw [← h2]; exact p5 16 (by decide), by rw [← h3]; exact p5 17 (by decide), by rw [← h4]; exact p5 18 (by decide)⟩
theorem zri_nl {k : Nat} {n m : Int32} : ∀ (bs : List Int32) {M : za_M}, zri k n m M → zri k n m (zrf_l bs M) := by
  intro bs
  induction bs with
  | nil => intro M h; exact h
  | cons b bs ih => intro M h; exact ih (zri_no b h)
theorem zq_ran {b : Int32} {M : za_M} {K : za_M → Prop} (h : zs (M.1 (27, 0, 0) 15) 41) : f_X10_ran b M K = K (zrf_n b M) := by
  obtain ⟨w, hw, ew⟩ := h
  simp only [f_X10_ran, zrf_n, zno, za_let, ew]
  by_cases z : w < 40
  · rw [if_neg (show ¬ (40 : Int32) ≤ nI w by rw [zl_lit 40, nI_leI (by omega) (by omega)]; omega), if_neg (show ¬ (40 : Int32) ≤ nI w by rw [zl_lit 40, nI_leI (by omega) (by omega)]; omega), zx_in z (by decide), za_up_oth _ _ _ (by decide), ew]
  · rw [if_pos (show (40 : Int32) ≤ nI w by rw [zl_lit 40, nI_leI (by omega) (by omega)]; omega), if_pos (show (40 : Int32) ≤ nI w by rw [zl_lit 40, nI_leI (by omega) (by omega)]; omega)]
theorem zv_burns {k : Nat} {n m x : Int32} {M : za_M} {K : Int32 → za_M → Prop} (hk : k < 7) (hv : zri k n m M) (h : K (zvB k n x) (zrf_l (ztB k) M)) : f_X10_burnsOf x M K := by
  unfold f_X10_burnsOf
  rw [hv.2.1]
  refine zq_rUnder (t := 1) hk (by decide) ?_
  unfold zvB ztB at h
  unfold f_X10_burnsOf_b19
  by_cases z : zun k 1 = 0
  · rw [if_pos z] at h ⊢
    rw [if_pos z] at h
    rw [zq_ran hv.1, if_pos z, (zri_no 10 hv).2.2.1]
    exact h
  · rw [if_neg z] at h ⊢
    rw [if_neg z] at h
    rw [zq_ran hv.1, zq_ran (zri_no 20 hv).1, if_neg z, (zri_no 10 (zri_no 20 hv)).2.2.1]
    exact h
theorem zv_runs {k : Nat} {n m x : Int32} {M : za_M} {K : Int32 → za_M → Prop} (hk : k < 7) (hv : zri k n m M) (h : K (zvR k n m x) (zrf_l (ztR k) M)) : f_X10_runsOf x M K := by
  have h15 : ∀ M1, zri k n m M1 → (if k = 6 then K ((-(x - m)) ^^^ n) (zrf_l [40, 12] M1) else if zun k 3 = 0 then K (x - m) (zrf_l [12] M1) else K (-(x - m)) (zrf_l [40, 12] M1)) → f_X10_runsOf_b15 K x M1 := by
    intro M1 v1 h1
    unfold f_X10_runsOf_b15
    rw [v1.2.1]
    refine zq_rUnder (t := 3) hk (by decide) ?_
    unfold f_X10_runsOf_b34 f_X10_runsOf_b60
    by_cases z6 : k = 6
    · rw [if_pos z6] at h1
      have z : ¬ zun k 3 = 0 := by rw [z6]; decide
      rw [if_neg z, zq_ran v1.1, zq_ran (zri_no 40 v1).1, if_neg z]
      have v2 := zri_no 12 (zri_no 40 v1)
      rw [v2.2.1, if_pos (by rw [z6]; rfl), v2.2.2.1, v2.2.2.2]
      exact h1
    · rw [if_neg z6] at h1
      have k6 : ¬ nI k = 6 := fun e => z6 ((nI_eq (a := k) (b := 6) (by omega) (by omega)).mp e)
      by_cases z : zun k 3 = 0
      · rw [if_pos z] at h1 ⊢
        rw [zq_ran v1.1, if_pos z]
        have v2 := zri_no 12 v1
        rw [v2.2.1, if_neg k6, v2.2.2.2]
        exact h1
      · rw [if_neg z] at h1 ⊢
        rw [zq_ran v1.1, zq_ran (zri_no 40 v1).1, if_neg z]
        have v2 := zri_no 12 (zri_no 40 v1)
        rw [v2.2.1, if_neg k6, v2.2.2.2]
        exact h1
  unfold f_X10_runsOf
  rw [hv.2.1]
  unfold zvR ztR at h
  by_cases z6 : k = 6
  · rw [if_pos z6, if_pos z6] at h
    rw [if_pos (by rw [z6]; rfl), zq_ran hv.1]
    exact h15 _ (zri_no 70 hv) (by rw [if_pos z6]; exact h)
  · rw [if_neg z6, if_neg z6] at h
    have k6 : ¬ nI k = 6 := fun e => z6 ((nI_eq (a := k) (b := 6) (by omega) (by omega)).mp e)
    rw [if_neg k6]
    refine h15 _ hv ?_
    rw [if_neg z6]
    by_cases z : zun k 3 = 0
    · rw [if_pos z] at h ⊢
      rw [if_pos z] at h
      exact h
    · rw [if_neg z] at h ⊢
      rw [if_neg z] at h
      exact h
theorem zv_melts {k : Nat} {n m x : Int32} {M : za_M} {K : Int32 → za_M → Prop} (hk : k < 7) (hv : zri k n m M) (h : K (zvM k n m x) (zrf_l (ztM k) M)) : f_X10_meltsOf x M K := by
  have h19 : ∀ (y : Int32) M1, zri k n m M1 → (if zun k 2 = 0 then K (zvB k n y * 2) (zrf_l (11 :: ztB k) M1) else K (zvB k n y * 2 - zvR k n m 1) (zrf_l ([30, 11] ++ (ztB k ++ ztR k)) M1)) → f_X10_meltsOf_b19 K y M1 := by
    intro y M1 v1 h1
    unfold f_X10_meltsOf_b19
    rw [v1.2.1]
    refine zq_rUnder (t := 2) hk (by decide) ?_
    unfold f_X10_meltsOf_b38 za_let
    by_cases z : zun k 2 = 0
    · rw [if_pos z] at h1 ⊢
      rw [zq_ran v1.1]
      refine zv_burns hk (zri_no 11 v1) ?_
      dsimp only
      rw [if_pos z]
      exact h1
    · rw [if_neg z] at h1 ⊢
      rw [zq_ran v1.1, zq_ran (zri_no 30 v1).1]
      have v2 := zri_no 11 (zri_no 30 v1)
      refine zv_burns hk v2 ?_
      dsimp only
      rw [if_neg z]
      refine zv_runs hk (zri_nl _ v2) ?_
      unfold zrf_l at h1
      rw [znl_app, znl_app] at h1
      exact h1
  unfold f_X10_meltsOf
  rw [hv.2.1]
  unfold zvM ztM at h
  by_cases z5 : k = 5
  · have z : ¬ zun k 2 = 0 := by rw [z5]; decide
    rw [if_neg z, if_pos z5, if_neg z, if_pos z5] at h
    rw [if_pos (by rw [z5]; rfl), zq_ran hv.1]
    refine h19 _ _ (zri_no 60 hv) ?_
    rw [if_neg z]
    exact h
  · have k5 : ¬ nI k = 5 := fun e => z5 ((nI_eq (a := k) (b := 5) (by omega) (by omega)).mp e)
    rw [if_neg z5, if_neg z5] at h
    rw [if_neg k5]
    refine h19 _ _ hv ?_
    by_cases z : zun k 2 = 0
    · rw [if_pos z] at h ⊢
      rw [if_pos z] at h
      exact h
    · rw [if_neg z] at h ⊢
      rw [if_neg z] at h
      exact h
theorem zv_plain {k : Nat} {n m x : Int32} {M : za_M} {K : Int32 → za_M → Prop} (hk : k < 7) (hv : zri k n m M) (h : K (zvP k n m x) (zrf_l (ztP k) M)) : f_X10_plainGlows x M K := by
  unfold f_X10_plainGlows
  rw [zq_ran hv.1]
  have v1 := zri_no 13 hv
  refine zv_melts hk v1 ?_
  refine zv_runs hk (zri_nl _ v1) ?_
  unfold zvP ztP at h
  unfold zrf_l at h
  unfold znl at h
  rw [znl_app] at h
  exact h
theorem zv_glows {k : Nat} {n m x : Int32} {M : za_M} {K : Int32 → za_M → Prop} (hk : k < 7) (hv : zri k n m M) (h : K (zvG k n m x) (zrf_l (ztG k) M)) : f_X10_glowsOf x M K := by
  unfold f_X10_glowsOf
  rw [hv.2.1]
  unfold zvG ztG at h
  by_cases z6 : k = 6
  · rw [if_pos z6, if_pos z6] at h
    rw [if_pos (by rw [z6]; rfl), zq_ran hv.1]
    have v1 := zri_no 71 hv
    refine zv_melts hk v1 ?_
    refine zv_plain hk (zri_nl _ v1) ?_
    unfold zrf_l at h
    unfold znl at h
    rw [znl_app] at h
    exact h
  · have k6 : ¬ nI k = 6 := fun e => z6 ((nI_eq (a := k) (b := 6) (by omega) (by omega)).mp e)
    rw [if_neg z6, if_neg z6] at h
    rw [if_neg k6]
    by_cases z4 : k = 4
    · rw [if_pos z4, if_pos z4] at h
      rw [if_pos (by rw [z4]; rfl), zq_ran hv.1]
      have v1 := zri_no 50 hv
      refine zv_plain hk v1 ?_
      refine zv_burns hk (zri_nl _ v1) ?_
      unfold zrf_l at h
      unfold znl at h
      rw [znl_app] at h
      exact h
    · have k4 : ¬ nI k = 4 := fun e => z4 ((nI_eq (a := k) (b := 4) (by omega) (by omega)).mp e)
      rw [if_neg z4, if_neg z4] at h
      rw [if_neg k4]
      exact zv_plain hk hv h
/-- the trace has changed, both alike -/
theorem zI_vo {M M2 : za_M} (h : zI M) (e : ∀ x, x ≠ (8, 0, 0) → x ≠ (21, 0, 0) → x ≠ (27, 0, 0) → x ≠ (36, 0, 0) → M2.1 x = M.1 x) (e3 : M2.1 (27, 0, 0) 3 = M.1 (27, 0, 0) 3) (p : M2.2 = M.2) (t : zs (M2.1 (8, 0, 0) 1) 41 ∧ M2.1 (8, 0, 0) 1 = M2.1 (27, 0, 0) 15 ∧ ∀ i, i < (M2.1 (8, 0, 0) 1).toNatClampNeg → M2.1 (21, 0, 0) i = M2.1 (36, 0, 0) i) : zI M2 := by
  obtain ⟨h1, h2, h3, h4, h5, h6⟩ := h
  have es : ∀ c x, zst c x → M2.1 x = M.1 x := fun c x hx => by
    obtain ⟨_, hx⟩ := hx
    refine e x ?_ ?_ ?_ ?_ <;> (rintro rfl; simp at hx)
  have e28 := e (28, 0, 0) (by decide) (by decide) (by decide) (by decide)
  have e29 := e (29, 0, 0) (by decide) (by decide) (by decide) (by decide)
  have e30 := e (30, 0, 0) (by decide) (by decide) (by decide) (by decide)
  have e0 := e (0, 0, 0) (by decide) (by decide) (by decide) (by decide)
  unfold zI
  rw [e28, e29, e0]
  refine ⟨h1, h2, zS_cg h3 (es 0) (by rw [p]), h4.imp (fun q => ⟨q.1, fun u hu => by rw [es 1 (6, 1, u) ⟨rfl, by simp⟩]; exact q.2 u hu⟩) (fun q => zS_cg q (es 1) (by rw [p])), ?_, by unfold zj; rw [p, e28, e29, e30]; exact h6⟩
  obtain ⟨a1, a2, a3, a4⟩ := h5
  refine ⟨fun k hk => ?_, ?_, t, fun q hq => ?_⟩
  · rw [e (24, 0, 0) (by decide) (by decide) (by decide) (by decide), e (31, 0, 0) (by decide) (by decide) (by decide) (by decide)]
    exact a1 k hk
  · rw [e0, e3]
    exact a2
  · rw [e (9, 0, q) (by simp) (by simp) (by simp) (by simp), e (23, 0, q) (by simp) (by simp) (by simp) (by simp), e (37, 0, 0) (by decide) (by decide) (by decide) (by decide), e (38, 0, 0) (by decide) (by decide) (by decide) (by decide), e (39, 0, 0) (by decide) (by decide) (by decide) (by decide)]
    exact a4 q hq
def zvA (k a : Nat) (n m x : Int32) : Int32 := if a = 0 then zvB k n x else if a = 1 then zvM k n m x else if a = 2 then zvR k n m x else zvG k n m x
def ztA (k a : Nat) : List Int32 := if a = 0 then ztB k else if a = 1 then ztM k else if a = 2 then ztR k else ztG k
theorem zT_voice (x1 x2 x3 : Int32) : zV (f_X9_voice x1 x2 x3) (f_X10_voice x1 x2 x3) := by
  intro M K hI hK
  obtain ⟨nA, nP, nL, bA, bP, bL, rA, rP, rL, cA, cP, cL⟩ := zI_cnt hI
  simp only [f_X9_voice, zq_cAsh, zf_X9_within, cA]
  have ff : ∀ (M1 : za_M), (∀ x : za_L, x.1 ≠ 24 → M1.1 x = M.1 x) → M1.1 (28, 0, 0) 1 = nI nA := fun M1 h => by rw [h (28, 0, 0) (by decide)]; exact rA
  rcases (zw_cs x1 (n := nA) (by omega)).symm with q1 | ⟨a, ha, rfl, q1⟩
  · rw [q1, if_pos rfl]
    exact zV_ff (R := f_X10_voice x1 x2 x3) (y := -1000000001) 1 rfl (by decide) (by decide) rfl hI hK (fun M1 K' h => by simp only [f_X10_voice, zq_rAsh, ff M1 h, q1, if_true])
  rw [q1, if_neg (by decide)]
  rcases (zw_cs x2 (n := 4) (by omega)).symm with q2 | ⟨t, ht, rfl, q2⟩
  · have q2 : zw x2 0 3 = 0 := q2
    rw [q2, if_pos rfl]
    exact zV_ff (R := f_X10_voice (nI a) x2 x3) (y := -1000000001) 1 rfl (by decide) (by decide) rfl hI hK (fun M1 K' h => by simp only [f_X10_voice, zq_rAsh, zf_X10_within, ff M1 h, q1, q2, zl_10, if_true, if_false])
  have q2 : zw (nI t) 0 3 = 1 := q2
  rw [q2, if_neg (by decide), zx_in (by omega) (by decide), nI_clamp (by omega)]
  have hh := hI.2.2.1.1.2.1 a (by rw [rA, nI_clamp (by omega)]; exact ha)
  obtain ⟨k, hk, ek⟩ := (hI.1.1.2.1 a (by omega)).1
  generalize hm : M.1 (28, 0, 0) (8 + 4 * a) = m at *
  simp only [f_X8_speak, za_let]
  generalize hM0 : za_up (za_up (za_up (za_up M (8, 0, 0) 2 (M.1 (3, 0, a) 0)) (8, 0, 0) 4 ((za_up M (8, 0, 0) 2 (M.1 (3, 0, a) 0)).1 (3, 0, a) 1)) (8, 0, 0) 3 (nI a)) (8, 0, 0) 1 0 = M0
  have v0 : zvi k (nI a) m M0 := by
    rw [← hM0]
    refine ⟨⟨0, by decide, by simp [zl_up, zl_lit 0]⟩, ?_, ?_, ?_⟩
    · simp [zl_up, hh.1, ek]
    · simp [zl_up]
    · simp [zl_up, hh.2.1]
  have o0 : ∀ x : za_L, x ≠ (8, 0, 0) → M0.1 x = M.1 x := fun x hx => by rw [← hM0, za_up_oth _ _ _ hx, za_up_oth _ _ _ hx, za_up_oth _ _ _ hx, za_up_oth _ _ _ hx]
  have p0 : M0.2 = M.2 := by rw [← hM0]; rfl
  have c0 : zpr (8, 0, 0) (21, 0, 0) 1 (0, M.1 (21, 0, 0)) M0 M0 := ⟨Nat.zero_le _, by rw [← hM0]; simp [zl_up, zl_lit 0], o0 _ (by decide), fun _ _ _ => rfl, fun _ _ => rfl, rfl⟩
  have c1 := zpr_nl (c := (8, 0, 0)) (t := (21, 0, 0)) (s := 1) (by decide) (ztA k t) c0
  obtain ⟨c11, c12, c13, c14, c15, c16⟩ := c1
  generalize hM1 : znl (8, 0, 0) (21, 0, 0) 1 (ztA k t) M0 = M1 at c12 c13 c14 c15 c16
  have key : (∀ M2, (∃ Mr, (∀ x, x ≠ (27, 0, 0) → Mr.1 x = M1.1 x) ∧ Mr.2 = M1.2 ∧ zri k (nI a) m Mr ∧ Mr.1 (27, 0, 0) 3 = M1.1 (27, 0, 0) 3 ∧ Mr.1 (27, 0, 0) 15 = nI 0 ∧ M2 = zrf_l (ztA k t) Mr) → K (zvA k t (nI a) m x3) (zvA k t (nI a) m x3) M2) := by
    rintro M2 ⟨Mr, r1, r2, r3, r4, r5, rfl⟩
    have d0 : zpr (27, 0, 0) (36, 0, 0) 15 (0, M.1 (36, 0, 0)) Mr Mr := ⟨Nat.zero_le _, r5, by rw [r1 _ (by decide), c14 _ (by decide) (by decide), o0 _ (by decide)], fun _ _ _ => rfl, fun _ _ => rfl, rfl⟩
    obtain ⟨d1, d2, d3, d4, d5, d6⟩ := zpr_nl (c := (27, 0, 0)) (t := (36, 0, 0)) (s := 15) (by decide) (ztA k t) d0
    obtain ⟨w1, w2⟩ := zpl_eq (ztA k t) (0, M.1 (21, 0, 0)) (0, M.1 (36, 0, 0)) rfl (fun i hi => absurd hi (Nat.not_lt_zero _))
    have f8 := (d4 (8, 0, 0) (by decide) (by decide)).trans (r1 _ (by decide))
    have f21 := (d4 (21, 0, 0) (by decide) (by decide)).trans (r1 _ (by decide))
    refine hK _ _ (zI_vo hI (fun x x8 x21 x27 x36 => ?_) ?_ (by rw [d6, r2, c16, p0]) ?_)
    · rw [d4 x x27 x36, r1 x x27, c14 x x8 x21, o0 x x8]
    · rw [d5 3 (by decide), r4, c14 _ (by decide) (by decide), o0 _ (by decide)]
    · rw [f8, f21, c12, c13, d2, d3]
      refine ⟨zs_nI (by omega), by rw [w1], fun i hi => ?_⟩
      rw [nI_clamp (by omega)] at hi
      exact w2 i hi
  have ref : f_X10_voice (nI a) (nI t) x3 M1 (fun r2 M2 => K (zvA k t (nI a) m x3) r2 M2) := by
    have e28 : M1.1 (28, 0, 0) = M.1 (28, 0, 0) := (c14 _ (by decide) (by decide)).trans (o0 _ (by decide))
    simp only [f_X10_voice, zq_rAsh, zf_X10_within, za_let]
    rw [e28, rA, q1, if_neg (by decide), q2, if_neg (by decide)]
    rw [zq_ashIs (y := 0) a 0 rfl rfl (by omega), zq_ashIs (y := 1) a 1 rfl rfl (by omega)]
    rw [za_up_oth _ _ _ (by decide), za_up_oth _ _ _ (by decide), za_up_oth _ _ _ (by decide), za_up_oth _ _ _ (by decide), e28, show 7 + 4 * a + 0 = 7 + 4 * a by omega, show 7 + 4 * a + 1 = 8 + 4 * a by omega, ek, hm]
    generalize hMr : za_up (za_up (za_up (za_up M1 (27, 0, 0) 15 0) (27, 0, 0) 16 (nI k)) (27, 0, 0) 17 (nI a)) (27, 0, 0) 18 m = Mr
    have vr : zri k (nI a) m Mr := by
      rw [← hMr]
      refine ⟨⟨0, by decide, by simp [zl_up, zl_lit 0]⟩, ?_, ?_, ?_⟩ <;> simp [zl_up]
    have kk : K (zvA k t (nI a) m x3) (zvA k t (nI a) m x3) (zrf_l (ztA k t) Mr) := key _ ⟨Mr, fun x hx => by rw [← hMr, za_up_oth _ _ _ hx, za_up_oth _ _ _ hx, za_up_oth _ _ _ hx, za_up_oth _ _ _ hx], by rw [← hMr]; rfl, vr, by rw [← hMr]; simp [zl_up], by rw [← hMr]; simp [zl_up, zl_lit 0], rfl⟩
    have hc : t = 0 ∨ t = 1 ∨ t = 2 ∨ t = 3 := by omega
    rcases hc with rfl | rfl | rfl | rfl
    · rw [if_pos (by decide)]
      exact zv_burns hk vr kk
    · rw [if_neg (by decide), if_pos (by decide)]
      exact zv_melts hk vr kk
    · rw [if_neg (by decide), if_neg (by decide), if_pos (by decide)]
      exact zv_runs hk vr kk
    · rw [if_neg (by decide), if_neg (by decide), if_neg (by decide)]
      exact zv_glows hk vr kk
  rw [← hM1] at ref
  have hc : t = 0 ∨ t = 1 ∨ t = 2 ∨ t = 3 := by omega
  rcases hc with rfl | rfl | rfl | rfl
  · exact zq_burns (d := 94) (j := 0) hk (by decide) v0 ref
  · exact zq_melts (d := 85) (j := 0) hk (by decide) v0 ref
  · exact zq_runs (d := 91) (j := 0) hk (by decide) v0 ref
  · exact zq_glows (d := 79) (j := 0) hk (by decide) v0 ref

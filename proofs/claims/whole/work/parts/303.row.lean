/-! the row of numbers: what keeps its bounds -/
def zTn (N : Nat → Int32) (u : Nat) : Nat := (N (175 + 52 * u)).toNatClampNeg
def zTf (N : Nat → Int32) (u i : Nat) : Nat := (N (176 + 52 * u + i)).toNatClampNeg
def zT (N : Nat → Int32) : Prop := ∀ u, u < 2 → zit N u (zTn N u) (zTf N u)
theorem zT_cg {N N' : Nat → Int32} (h : zT N) (e : ∀ k, 175 ≤ k → N' k = N k) : zT N' := by
  intro u hu
  have h1 := h u hu
  have e1 : zTn N' u = zTn N u := by unfold zTn; rw [e _ (by omega)]
  have e2 : zTf N' u = zTf N u := by funext i; unfold zTf; rw [e _ (by omega)]
  rw [e1, e2]
  exact ⟨(e _ (by omega)).trans h1.1, h1.2.1, fun i hi => (e _ (by omega)).trans (h1.2.2.1 i hi), h1.2.2.2⟩
theorem zN_eq {N N' : Nat → Int32} (h : zN N) (e : ∀ k, k < 155 → 0 < k → k ≠ 4 → N' k = N k) : zN N' := by
  obtain ⟨⟨h1, h2, h3, h4, h5⟩, h6, h7, h8, h9⟩ := h
  have e1 := e 1 (by omega) (by omega) (by omega)
  have e2 := e 2 (by omega) (by omega) (by omega)
  have e3 := e 3 (by omega) (by omega) (by omega)
  have hl := (zs_cl h3 (by decide)).1
  refine ⟨⟨by rw [e1]; exact h1, by rw [e2]; exact h2, by rw [e3]; exact h3, by rw [e 5 (by omega) (by omega) (by omega)]; exact h4, by rw [e 6 (by omega) (by omega) (by omega)]; exact h5⟩, fun a ha => ?_, fun p hp => ?_, fun l hl => ?_, fun i hi => ?_⟩
  · rw [e _ (by omega) (by omega) (by omega), e _ (by omega) (by omega) (by omega), e _ (by omega) (by omega) (by omega), e _ (by omega) (by omega) (by omega)]
    exact h6 a ha
  · refine ⟨by rw [e _ (by omega) (by omega) (by omega)]; exact (h7 p hp).1, by rw [e _ (by omega) (by omega) (by omega)]; exact (h7 p hp).2.1, fun a ha => ?_⟩
    rw [e _ (by omega) (by omega) (by omega), e1]
    exact (h7 p hp).2.2 a ha
  · rw [e3] at hl
    rw [e (55 + 5 * l) (by omega) (by omega) (by omega), e (56 + 5 * l) (by omega) (by omega) (by omega), e (57 + 5 * l) (by omega) (by omega) (by omega), e (58 + 5 * l) (by omega) (by omega) (by omega), e1, e2]
    exact h8 l hl
  · rw [e _ (by omega) (by omega) (by omega)]
    exact h9 i hi
theorem zu_ne {N : Nat → Int32} {k j : Nat} {v : Int32} (h : j ≠ k) : upd N k v j = N j := by
  unfold upd
  rw [if_neg h]
theorem zu_eq {N : Nat → Int32} {k : Nat} {v : Int32} : upd N k v k = v := by
  unfold upd
  rw [if_pos rfl]
/-- of a potter's numbers one is put -/
theorem zN_put {N : Nat → Int32} {k : Nat} {v : Int32} (h : zN N) (h6 : ∀ a, a < 5 → (k = 7 + 4 * a → zs v 7) ∧ (k = 8 + 4 * a → zs v 10) ∧ (k = 9 + 4 * a → zs v 10) ∧ (k = 10 + 4 * a → zs v 4)) (h7 : ∀ p, p < 4 → (k = 27 + 7 * p → zs v 10000) ∧ (k = 28 + 7 * p → zs v 100) ∧ ∀ a, a < 5 → k = 29 + 7 * p + a → zs v 1000 ∧ a < (N 1).toNatClampNeg) (hk : 7 ≤ k ∧ k < 55 ∨ k = 0 ∨ k = 4 ∨ 155 ≤ k) : zN (upd N k v) := by
  obtain ⟨⟨b1, b2, b3, b4, b5⟩, b6, b7, b8, b9⟩ := h
  have hl := (zs_cl b3 (by decide)).1
  refine ⟨⟨by rw [zu_ne (by omega)]; exact b1, by rw [zu_ne (by omega)]; exact b2, by rw [zu_ne (by omega)]; exact b3, by rw [zu_ne (by omega)]; exact b4, by rw [zu_ne (by omega)]; exact b5⟩, fun a ha => ?_, fun p hp => ?_, fun l hl => ?_, fun i hi => ?_⟩
  · have q := b6 a ha
    have q2 := h6 a ha
    unfold upd
    refine ⟨?_, ?_, ?_, ?_⟩ <;> split <;> rename_i c
    · exact q2.1 c.symm
    · exact q.1
    · exact q2.2.1 c.symm
    · exact q.2.1
    · exact q2.2.2.1 c.symm
    · exact q.2.2.1
    · exact q2.2.2.2 c.symm
    · exact q.2.2.2
  · have q := b7 p hp
    have q2 := h7 p hp
    rw [zu_ne (show 1 ≠ k by omega)]
    refine ⟨?_, ?_, fun a ha => ?_⟩
    · unfold upd
      split <;> rename_i c
      · exact q2.1 c.symm
      · exact q.1
    · unfold upd
      split <;> rename_i c
      · exact q2.2.1 c.symm
      · exact q.2.1
    · unfold upd
      split <;> rename_i c
      · obtain ⟨r1, r2⟩ := q2.2.2 a ha c.symm
        exact ⟨r1, fun r => absurd r (by omega)⟩
      · exact q.2.2 a ha
  · rw [zu_ne (show 3 ≠ k by omega)] at hl
    rw [zu_ne (by omega), zu_ne (by omega), zu_ne (by omega), zu_ne (by omega), zu_ne (by omega), zu_ne (by omega)]
    exact b8 l hl
  · rw [zu_ne (by omega)]
    exact b9 i hi
theorem zN_has {N : Nat → Int32} {p a : Nat} {v : Int32} (h : zN N) (hp : p < 4) (ha : a < (N 1).toNatClampNeg) (hv : zs v 1000) : zN (upd N (29 + 7 * p + a) v) := by
  have hA := (zs_cl h.1.1 (by decide)).1
  exact zN_put h (fun a _ => by omega) (fun q _ => ⟨fun _ => by omega, fun _ => by omega, fun b _ e => ⟨hv, by omega⟩⟩) (by omega)
theorem zN_broken {N : Nat → Int32} {p : Nat} {v : Int32} (h : zN N) (hp : p < 4) (hv : zs v 100) : zN (upd N (28 + 7 * p) v) :=
  zN_put h (fun a _ => by omega) (fun q _ => ⟨fun _ => by omega, fun _ => hv, fun b _ e => by omega⟩) (by omega)
theorem zN_pots {N : Nat → Int32} {p : Nat} {v : Int32} (h : zN N) (hp : p < 4) (hv : zs v 10000) : zN (upd N (27 + 7 * p) v) :=
  zN_put h (fun a _ => by omega) (fun q _ => ⟨fun _ => hv, fun _ => by omega, fun b _ e => by omega⟩) (by omega)
theorem zN_day {N : Nat → Int32} {v : Int32} (h : zN N) : zN (upd N 0 v) := zN_put h (fun a _ => by omega) (fun q _ => ⟨fun _ => by omega, fun _ => by omega, fun b _ e => by omega⟩) (by omega)
theorem zN_draw {N : Nat → Int32} {v : Int32} (h : zN N) : zN (upd N 4 v) := zN_put h (fun a _ => by omega) (fun q _ => ⟨fun _ => by omega, fun _ => by omega, fun b _ e => by omega⟩) (by omega)
theorem zN_far {N : Nat → Int32} {k : Nat} {v : Int32} (h : zN N) (hk : 155 ≤ k) : zN (upd N k v) := zN_put h (fun a _ => by omega) (fun q _ => ⟨fun _ => by omega, fun _ => by omega, fun b _ e => by omega⟩) (by omega)
theorem zN_a0 {N : Nat → Int32} {a : Nat} {v : Int32} (h : zN N) (ha : a < 5) (hv : zs v 7) : zN (upd N (7 + 4 * a) v) := zN_put h (fun b _ => ⟨fun _ => hv, fun _ => by omega, fun _ => by omega, fun _ => by omega⟩) (fun q _ => ⟨fun _ => by omega, fun _ => by omega, fun b _ e => by omega⟩) (by omega)
theorem zN_a1 {N : Nat → Int32} {a : Nat} {v : Int32} (h : zN N) (ha : a < 5) (hv : zs v 10) : zN (upd N (8 + 4 * a) v) := zN_put h (fun b _ => ⟨fun _ => by omega, fun _ => hv, fun _ => by omega, fun _ => by omega⟩) (fun q _ => ⟨fun _ => by omega, fun _ => by omega, fun b _ e => by omega⟩) (by omega)
theorem zN_a2 {N : Nat → Int32} {a : Nat} {v : Int32} (h : zN N) (ha : a < 5) (hv : zs v 10) : zN (upd N (9 + 4 * a) v) := zN_put h (fun b _ => ⟨fun _ => by omega, fun _ => by omega, fun _ => hv, fun _ => by omega⟩) (fun q _ => ⟨fun _ => by omega, fun _ => by omega, fun b _ e => by omega⟩) (by omega)
theorem zN_a3 {N : Nat → Int32} {a : Nat} {v : Int32} (h : zN N) (ha : a < 5) (hv : zs v 4) : zN (upd N (10 + 4 * a) v) := zN_put h (fun b _ => ⟨fun _ => by omega, fun _ => by omega, fun _ => by omega, fun _ => hv⟩) (fun q _ => ⟨fun _ => by omega, fun _ => by omega, fun b _ e => by omega⟩) (by omega)
/-- loan l goes, those behind it come nearer -/
def zgo (N : Nat → Int32) (l : Nat) : Nat → Int32 := fun k => if k = 3 then N 3 - 1 else if 55 + 5 * l ≤ k ∧ k + 5 < 55 + 5 * (N 3).toNatClampNeg then N (k + 5) else N k
theorem zgo_lo (N : Nat → Int32) {l k : Nat} (h : k < 55) (h3 : k ≠ 3) : zgo N l k = N k := by
  unfold zgo
  rw [if_neg h3, if_neg (by omega)]
theorem zgo_hi {N : Nat → Int32} (hN : zN N) {l k : Nat} (h : 105 ≤ k) : zgo N l k = N k := by
  have hl := (zs_cl hN.1.2.2.1 (by decide)).1
  unfold zgo
  rw [if_neg (by omega), if_neg (by omega)]
theorem zgo_3 {N : Nat → Int32} {n l : Nat} (h : N 3 = nI (n + 1)) : zgo N l 3 = nI n := by
  unfold zgo
  rw [if_pos rfl, h, nI_pred]
theorem zgo_mid {N : Nat → Int32} {n l j f : Nat} (h : N 3 = nI (n + 1)) (hn : n < 10) (hj : j < n) (hf : f < 5) : zgo N l (55 + 5 * j + f) = if j < l then N (55 + 5 * j + f) else N (55 + 5 * (j + 1) + f) := by
  unfold zgo
  rw [if_neg (by omega), h, nI_clamp (by omega)]
  by_cases q : j < l
  · rw [if_pos q, if_neg (by omega)]
  · rw [if_neg q, if_pos (by omega)]
    congr 1
    omega
theorem zN_go {N : Nat → Int32} {l : Nat} (h : zN N) (hl : l < (N 3).toNatClampNeg) : zN (zgo N l) := by
  have hl3 := zs_cl h.1.2.2.1 (by decide)
  obtain ⟨n, hn⟩ : ∃ n, (N 3).toNatClampNeg = n + 1 := ⟨(N 3).toNatClampNeg - 1, by omega⟩
  have e3 : N 3 = nI (n + 1) := by rw [hl3.2, hn]
  have hb : n < 10 := by omega
  obtain ⟨⟨b1, b2, b3, b4, b5⟩, b6, b7, b8, b9⟩ := h
  have hN : zN N := ⟨⟨b1, b2, b3, b4, b5⟩, b6, b7, b8, b9⟩
  have lo : ∀ k, k < 55 → k ≠ 3 → zgo N l k = N k := fun k h1 h2 => zgo_lo N h1 h2
  refine ⟨⟨by rw [lo _ (by omega) (by omega)]; exact b1, by rw [lo _ (by omega) (by omega)]; exact b2, by rw [zgo_3 e3]; exact ⟨n, by omega, rfl⟩, by rw [lo _ (by omega) (by omega)]; exact b4, by rw [lo _ (by omega) (by omega)]; exact b5⟩, fun a ha => ?_, fun p hp => ?_, fun j hj => ?_, fun i hi => ?_⟩
  · rw [lo _ (by omega) (by omega), lo _ (by omega) (by omega), lo _ (by omega) (by omega), lo _ (by omega) (by omega)]
    exact b6 a ha
  · refine ⟨by rw [lo _ (by omega) (by omega)]; exact (b7 p hp).1, by rw [lo _ (by omega) (by omega)]; exact (b7 p hp).2.1, fun a ha => ?_⟩
    rw [lo _ (by omega) (by omega), lo 1 (by omega) (by omega)]
    exact (b7 p hp).2.2 a ha
  · rw [zgo_3 e3, nI_clamp (by omega)] at hj
    have g0 := zgo_mid (l := l) (f := 0) e3 hb hj (by omega)
    have g1 := zgo_mid (l := l) (f := 1) e3 hb hj (by omega)
    have g2 := zgo_mid (l := l) (f := 2) e3 hb hj (by omega)
    have g3 := zgo_mid (l := l) (f := 3) e3 hb hj (by omega)
    rw [show 55 + 5 * j = 55 + 5 * j + 0 by omega, show 56 + 5 * j = 55 + 5 * j + 1 by omega, show 57 + 5 * j = 55 + 5 * j + 2 by omega, show 58 + 5 * j = 55 + 5 * j + 3 by omega, g0, g1, g2, g3, lo 1 (by omega) (by omega), lo 2 (by omega) (by omega)]
    by_cases q : j < l
    · rw [if_pos q, if_pos q, if_pos q, if_pos q]
      have := b8 j (by omega)
      rw [show 55 + 5 * j = 55 + 5 * j + 0 by omega, show 56 + 5 * j = 55 + 5 * j + 1 by omega, show 57 + 5 * j = 55 + 5 * j + 2 by omega, show 58 + 5 * j = 55 + 5 * j + 3 by omega] at this
      exact this
    · rw [if_neg q, if_neg q, if_neg q, if_neg q]
      have := b8 (j + 1) (by omega)
      rw [show 55 + 5 * (j + 1) = 55 + 5 * (j + 1) + 0 by omega, show 56 + 5 * (j + 1) = 55 + 5 * (j + 1) + 1 by omega, show 57 + 5 * (j + 1) = 55 + 5 * (j + 1) + 2 by omega, show 58 + 5 * (j + 1) = 55 + 5 * (j + 1) + 3 by omega] at this
      exact this
  · rw [zgo_hi hN (by omega)]
    exact b9 i hi

/-! how all stands behind the constructors -/
theorem zN_0 {N : Nat → Int32} (h : ∀ k, k ≠ 4 → N k = 0) : zN N := by
  have z : ∀ k b : Nat, k ≠ 4 → 0 < b → zs (N k) b := fun k b hk hb => ⟨0, hb, h k hk⟩
  refine ⟨⟨z 1 _ (by decide) (by decide), z 2 _ (by decide) (by decide), z 3 _ (by decide) (by decide), z 5 _ (by decide) (by decide), z 6 _ (by decide) (by decide)⟩, fun a ha => ⟨z _ _ (by omega) (by decide), z _ _ (by omega) (by decide), z _ _ (by omega) (by decide), z _ _ (by omega) (by decide)⟩, fun p hp => ⟨z _ _ (by omega) (by decide), z _ _ (by omega) (by decide), fun a ha => ⟨z _ _ (by omega) (by decide), fun _ => h _ (by omega)⟩⟩, fun l hl => ?_, fun i hi => z _ _ (by omega) (by decide)⟩
  rw [h 3 (by decide), show Int32.toNatClampNeg 0 = 0 by decide] at hl
  exact absurd hl (Nat.not_lt_zero _)
theorem zTn_0 {N : Nat → Int32} (h : ∀ k, k ≠ 4 → N k = 0) (u : Nat) : zTn N u = 0 := by
  unfold zTn
  rw [h _ (by omega)]
  decide
theorem zT_0 {N : Nat → Int32} (h : ∀ k, k ≠ 4 → N k = 0) : zT N := by
  intro u hu
  rw [zTn_0 h]
  exact ⟨h _ (by omega), by decide, fun i hi => absurd hi (Nat.not_lt_zero _), Or.inl rfl⟩
theorem zMz_28 : ∀ k, k ≠ 4 → zMz.1 (28, 0, 0) k = 0 := fun k hk => by
  show (if k = 4 then (1 : Int32) else 0) = 0
  rw [if_neg hk]
theorem zMz_29 : ∀ k, k ≠ 4 → zMz.1 (29, 0, 0) k = 0 := fun k _ => rfl
theorem zS_0 : zS 0 (zMz.1 (28, 0, 0)) zMz := by
  have h := zMz_28
  have c0 : Int32.toNatClampNeg 0 = 0 := by decide
  refine ⟨⟨⟨?_, ?_, ?_, ?_⟩, fun a ha => ?_, fun p hp => ?_, fun l hl => ?_, fun i j hi hj e => ?_⟩, fun u hu => ?_, ⟨?_, fun i hi => ?_⟩, ⟨?_, fun i hi => ?_⟩, ?_⟩
  · rw [h 1 (by decide)]; rfl
  · rw [h 2 (by decide)]; rfl
  · rw [h 3 (by decide)]; rfl
  · rw [h 0 (by decide)]; rfl
  · rw [h 1 (by decide), c0] at ha
    exact absurd ha (Nat.not_lt_zero _)
  · rw [h 2 (by decide), c0] at hp
    exact absurd hp (Nat.not_lt_zero _)
  · rw [h 3 (by decide), c0] at hl
    exact absurd hl (Nat.not_lt_zero _)
  · have e : i % 10 = j % 10 := e
    omega
  · rw [zTn_0 h]
    exact ⟨rfl, rfl, by decide, fun i hi => absurd hi (Nat.not_lt_zero _), Or.inl rfl⟩
  · rw [h 5 (by decide)]; rfl
  · rw [h 5 (by decide), c0] at hi
    exact absurd hi (Nat.not_lt_zero _)
  · rw [h 6 (by decide)]; rfl
  · rw [h 6 (by decide), c0] at hi
    exact absurd hi (Nat.not_lt_zero _)
  · rfl
theorem zI_0 : zI zMz := by
  have c0 : Int32.toNatClampNeg 0 = 0 := by decide
  refine ⟨⟨zN_0 zMz_28, zT_0 zMz_28⟩, ⟨zN_0 zMz_29, zT_0 zMz_29⟩, zS_0, Or.inl ⟨rfl, fun u hu => rfl⟩, ⟨fun k hk => rfl, rfl, ⟨⟨0, by decide, rfl⟩, rfl, fun i hi => rfl⟩, fun q hq => ⟨rfl, rfl, ⟨0, by decide, rfl⟩, fun i hi => rfl⟩⟩, ⟨fun c hc i j hi hj e => ?_, fun j hj => ⟨?_, ?_⟩⟩⟩
  · have e : i % 10 = j % 10 := e
    omega
  · rw [zMz_28 j (by omega)]; rfl
  · rw [zMz_28 j (by omega)]; rfl
/-- the addresses of all: the class's, the reference's, texts, tables, bytes -/
def zgG (q q2 : Nat) (gA gM : za_L → Nat) (sa tb vb : Nat → Nat) : za_L → Nat := fun x => match x.1 with
  | 0 => q
  | 27 => q2
  | 28 => gM x
  | 29 => gM x
  | 30 => gM x
  | 31 => gM x
  | 32 => gM x
  | 33 => gM x
  | 34 => gM x
  | 35 => gM x
  | 36 => gM x
  | 37 => gM x
  | 38 => gM x
  | 39 => gM x
  | 40 => gM x
  | 41 => sa x.2.2
  | 42 => tb x.2.2
  | 43 => vb x.2.2
  | _ => gA x
theorem zAn_k : ∀ x ∈ zAn, 1 ≤ x.1 ∧ x.1 ≤ 26 := by decide +kernel
theorem zMn_k : ∀ x ∈ zMn, 28 ≤ x.1 ∧ x.1 ≤ 40 := by decide +kernel
def zAll : List za_L := ((0, 0, 0) :: zAn) ++ ((27, 0, 0) :: zMn)
theorem zAll_in : ∀ x ∈ za_cells, x ∈ zAll := by decide +kernel
theorem zgG_w {cy : Nat → ClassId} (q q2 : Nat) (gA gM : za_L → Nat) (sa tb vb : Nat → Nat) : ((q, za_E gA cy zMz (0, 0, 0)) :: zAn.map fun x => (gA x, za_E gA cy zMz x)) ++ ((q2, za_E gM cy zMz (27, 0, 0)) :: zMn.map fun x => (gM x, za_E (fun n => match n.1 with | 41 => sa n.2.2 | _ => gM n) cy zMz x)) = zAll.map fun x => (zgG q q2 gA gM sa tb vb x, za_E (zgG q q2 gA gM sa tb vb) cy zMz x) := by
  unfold zAll
  rw [List.map_append, List.map_cons, List.map_cons]
  have h1 : ∀ x ∈ zAn, (gA x, za_E gA cy zMz x) = (zgG q q2 gA gM sa tb vb x, za_E (zgG q q2 gA gM sa tb vb) cy zMz x) := by
    intro x hx
    obtain ⟨k1, k2⟩ := zAn_k x hx
    obtain ⟨k, c, i⟩ := x
    have k1 : 1 ≤ k := k1
    have k2 : k ≤ 26 := k2
    have hc : k = 1 ∨ k = 2 ∨ k = 3 ∨ k = 4 ∨ k = 5 ∨ k = 6 ∨ k = 7 ∨ k = 8 ∨ k = 9 ∨ k = 10 ∨ k = 11 ∨ k = 12 ∨ k = 13 ∨ k = 14 ∨ k = 15 ∨ k = 16 ∨ k = 17 ∨ k = 18 ∨ k = 19 ∨ k = 20 ∨ k = 21 ∨ k = 22 ∨ k = 23 ∨ k = 24 ∨ k = 25 ∨ k = 26 := by omega
    rcases hc with rfl | rfl | rfl | rfl | rfl | rfl | rfl | rfl | rfl | rfl | rfl | rfl | rfl | rfl | rfl | rfl | rfl | rfl | rfl | rfl | rfl | rfl | rfl | rfl | rfl | rfl <;> rfl
  have h2 : ∀ x ∈ zMn, (gM x, za_E (fun n => match n.1 with | 41 => sa n.2.2 | _ => gM n) cy zMz x) = (zgG q q2 gA gM sa tb vb x, za_E (zgG q q2 gA gM sa tb vb) cy zMz x) := by
    intro x hx
    obtain ⟨k1, k2⟩ := zMn_k x hx
    obtain ⟨k, c, i⟩ := x
    have k1 : 28 ≤ k := k1
    have k2 : k ≤ 40 := k2
    have hc : k = 28 ∨ k = 29 ∨ k = 30 ∨ k = 31 ∨ k = 32 ∨ k = 33 ∨ k = 34 ∨ k = 35 ∨ k = 36 ∨ k = 37 ∨ k = 38 ∨ k = 39 ∨ k = 40 := by omega
    rcases hc with rfl | rfl | rfl | rfl | rfl | rfl | rfl | rfl | rfl | rfl | rfl | rfl | rfl <;> rfl
  rw [List.map_congr_left h1, List.map_congr_left h2]
  rfl
theorem zgG_P {D : va_G} {cy : Nat → ClassId} {g : za_L → Nat} {M : za_M} {H : Heap} (h : va_P D vwCl (zAll.map fun x => (g x, za_E g cy M x)) H) : va_P D vwCl (za_Wl g cy M) H := by
  intro k q hk
  unfold za_Wl at hk
  obtain ⟨x, hx, e⟩ := List.mem_map.mp (List.mem_of_getElem? hk)
  obtain ⟨i, hi⟩ := List.getElem?_of_mem (zAll_in x hx)
  rw [← e]
  exact h i _ (by rw [List.getElem?_map, hi]; rfl)
theorem zgG_J {A : Nat → Prop} {cy : Nat → ClassId} {g : za_L → Nat} {M : za_M} (h : va_D A (zAll.map fun x => (g x, za_E g cy M x))) : za_J g ∧ ∀ q, za_A g q → A q := by
  refine ⟨fun x hx y hy e => ?_, fun q hq => ?_⟩
  · obtain ⟨i, hi⟩ := List.getElem?_of_mem (zAll_in x hx)
    obtain ⟨j, hj⟩ := List.getElem?_of_mem (zAll_in y hy)
    have := h.1 i j (g x, za_E g cy M x) (g y, za_E g cy M y) (by rw [List.getElem?_map, hi]; rfl) (by rw [List.getElem?_map, hj]; rfl) e
    subst this
    exact Option.some.inj (hi.symm.trans hj)
  · obtain ⟨x, hx, e⟩ := hq
    obtain ⟨i, hi⟩ := List.getElem?_of_mem (zAll_in x hx)
    rw [← e]
    exact h.2 i (g x, za_E g cy M x) (by rw [List.getElem?_map, hi]; rfl)

/-! the world of class and reference: a cell is named by (kind, which, place); M holds its numbers, and which row of a county's loans stands at which place -/
abbrev za_L : Type := Nat × Nat × Nat
abbrev za_M : Type := (za_L → Nat → Int32) × (Nat → Nat → Nat)
/-- kind j: how many of them, and how many places each -/
def za_kinds : List (Nat × Nat × Nat) := [(0,1,1),(1,2,1),(2,3,1),(3,3,5),(4,3,4),(5,3,10),(6,2,2),(7,1,1),(8,1,1),(9,1,4),(10,3,1),(11,3,1),(12,3,1),(13,3,4),(14,2,1),(15,2,1),(16,2,1),(17,2,2),(18,2,2),(19,1,1),(20,1,1),(21,1,1),(22,1,1),(23,1,4),(24,1,1),(25,1,1),(26,1,1),(27,1,1),(28,1,1),(29,1,1),(30,1,1),(31,1,1),(32,1,1),(33,1,1),(34,1,1),(35,1,1),(36,1,1),(37,1,1),(38,1,1),(39,1,1),(40,1,1)]
def za_cells : List za_L := za_kinds.flatMap fun q => (List.range q.2.1).flatMap fun c => (List.range q.2.2).map fun i => (q.1, c, i)
theorem za_mem {j k a b c i : Nat} (h : za_kinds[j]? = some (k, a, b)) (hc : c < a) (hi : i < b) : (k, c, i) ∈ za_cells := by
  unfold za_cells
  refine List.mem_flatMap.mpr ⟨(k, a, b), List.mem_of_getElem? h, List.mem_flatMap.mpr ⟨c, List.mem_range.mpr hc, List.mem_map.mpr ⟨i, List.mem_range.mpr hi, rfl⟩⟩⟩
theorem za_cells_len : za_cells.length = 133 := by decide +kernel
theorem za_inj0 : ∀ i, i < 133 → ∀ j, j < 133 → za_cells[i]? = za_cells[j]? → i = j := by decide +kernel
theorem za_inj {i j : Nat} {x : za_L} (hi : za_cells[i]? = some x) (hj : za_cells[j]? = some x) : i = j := by
  have h1 := (List.getElem?_eq_some_iff.mp hi).1
  have h2 := (List.getElem?_eq_some_iff.mp hj).1
  rw [za_cells_len] at h1 h2
  exact za_inj0 i h1 j h2 (hi.trans hj.symm)
/-- what a cell holds: f its numbers, P its county's rows of loans -/
def za_E0 (g : za_L → Nat) (cy : Nat → ClassId) (f : Nat → Int32) (P : Nat → Nat) (x : za_L) : va_E :=
  match x.1 with
  | 0 => .inr (9, [.ref (g (1, 0, 0)), .ref (g (1, 1, 0)), .ref (g (2, 2, 0)), .ref (g (7, 0, 0)), .ref (g (8, 0, 0)), .ref (g (22, 0, 0)), .ref (g (24, 0, 0)), .ref (g (25, 0, 0)), .ref (g (26, 0, 0)), .int (f 9)])
  | 1 => .inr (7, [.ref (g (2, x.2.1, 0)), .ref (g (14, x.2.1, 0)), .ref (g (15, x.2.1, 0)), .ref (g (16, x.2.1, 0)), .int (f 4), .int (f 5), .int (f 6)])
  | 2 => .inr (1, [.ref (g (10, x.2.1, 0)), .ref (g (11, x.2.1, 0)), .ref (g (12, x.2.1, 0)), .int (f 3), .int (f 4), .int (f 5), .int (f 6)])
  | 3 => .inr (0, [.int (f 0), .int (f 1), .int (f 2), .int (f 3)])
  | 4 => .inr (4, [.ref (g (13, x.2.1, x.2.2)), .int (f 1), .int (f 2)])
  | 5 => .inr (3, [.int (f 0), .int (f 1), .int (f 2), .int (f 3), .int (f 4)])
  | 6 => .inr (2, [.int (f 0), .ref (g (17, x.2.1, x.2.2)), .ref (g (18, x.2.1, x.2.2)), .int (f 3)])
  | 7 => .inr (5, [.ref (g (19, 0, 0)), .ref (g (20, 0, 0)), .int (f 2), .int (f 3), .int (f 4), .int (f 5)])
  | 8 => .inr (8, [.ref (g (21, 0, 0)), .int (f 1), .int (f 2), .int (f 3), .int (f 4)])
  | 9 => .inr (6, [.ref (g (23, 0, x.2.2)), .int (f 1), .int (f 2)])
  | 10 => .inl (cy 1, 5, .inr (.inr (.inr (.inr (fun j => some (g (3, x.2.1, j)))))))
  | 11 => .inl (cy 2, 4, .inr (.inr (.inr (.inr (fun j => some (g (4, x.2.1, j)))))))
  | 12 => .inl (cy 3, 10, .inr (.inr (.inr (.inr (fun j => some (g (5, x.2.1, P j % 10)))))))
  | 13 => .inl (cy 0, 5, .inl f)
  | 14 => .inl (cy 4, 2, .inr (.inr (.inr (.inr (fun j => some (g (6, x.2.1, j)))))))
  | 15 => .inl (cy 0, 50, .inl f)
  | 16 => .inl (cy 0, 20, .inl f)
  | 17 => .inl (cy 0, 50, .inl f)
  | 18 => .inl (cy 0, 50, .inl f)
  | 19 => .inl (cy 0, 50, .inl f)
  | 20 => .inl (cy 0, 50, .inl f)
  | 21 => .inl (cy 0, 40, .inl f)
  | 22 => .inl (cy 5, 4, .inr (.inr (.inr (.inr (fun j => some (g (9, 0, j)))))))
  | 23 => .inl (cy 0, 40, .inl f)
  | 24 => .inl (cy 0, 6, .inl f)
  | 25 => .inl (cy 0, 5, .inl f)
  | 26 => .inl (cy 0, 5, .inl f)
  | 27 => .inr (10, [.ref (g (28, 0, 0)), .ref (g (29, 0, 0)), .ref (g (30, 0, 0)), .int (f 3), .ref (g (31, 0, 0)), .ref (g (32, 0, 0)), .int (f 6), .int (f 7), .int (f 8), .int (f 9), .ref (g (33, 0, 0)), .int (f 11), .ref (g (34, 0, 0)), .ref (g (35, 0, 0)), .ref (g (36, 0, 0)), .int (f 15), .int (f 16), .int (f 17), .int (f 18), .ref (g (37, 0, 0)), .ref (g (38, 0, 0)), .ref (g (39, 0, 0)), .ref (g (40, 0, 0))])
  | 28 => .inl (cy 0, 279, .inl f)
  | 29 => .inl (cy 0, 279, .inl f)
  | 30 => .inl (cy 0, 279, .inl f)
  | 31 => .inl (cy 0, 6, .inl f)
  | 32 => .inl (cy 6, 2, .inr (.inr (.inr (.inr (fun j => some (g (41, 0, j)))))))
  | 33 => .inl (cy 0, 60, .inl f)
  | 34 => .inl (cy 0, 4, .inl f)
  | 35 => .inl (cy 0, 60, .inl f)
  | 36 => .inl (cy 0, 40, .inl f)
  | 37 => .inl (cy 0, 4, .inl f)
  | 38 => .inl (cy 0, 4, .inl f)
  | 39 => .inl (cy 0, 160, .inl f)
  | 40 => .inl (cy 0, 40, .inl f)
  | _ => .inr (0, [])
def za_E (g : za_L → Nat) (cy : Nat → ClassId) (M : za_M) (x : za_L) : va_E := za_E0 g cy (M.1 x) (M.2 x.2.1) x
theorem za_E_0 (g : za_L → Nat) (cy : Nat → ClassId) (M : za_M) (c i : Nat) : za_E g cy M (0, c, i) = .inr (9, [.ref (g (1, 0, 0)), .ref (g (1, 1, 0)), .ref (g (2, 2, 0)), .ref (g (7, 0, 0)), .ref (g (8, 0, 0)), .ref (g (22, 0, 0)), .ref (g (24, 0, 0)), .ref (g (25, 0, 0)), .ref (g (26, 0, 0)), .int (M.1 (0, c, i) 9)]) := rfl
theorem za_E_1 (g : za_L → Nat) (cy : Nat → ClassId) (M : za_M) (c i : Nat) : za_E g cy M (1, c, i) = .inr (7, [.ref (g (2, c, 0)), .ref (g (14, c, 0)), .ref (g (15, c, 0)), .ref (g (16, c, 0)), .int (M.1 (1, c, i) 4), .int (M.1 (1, c, i) 5), .int (M.1 (1, c, i) 6)]) := rfl
theorem za_E_2 (g : za_L → Nat) (cy : Nat → ClassId) (M : za_M) (c i : Nat) : za_E g cy M (2, c, i) = .inr (1, [.ref (g (10, c, 0)), .ref (g (11, c, 0)), .ref (g (12, c, 0)), .int (M.1 (2, c, i) 3), .int (M.1 (2, c, i) 4), .int (M.1 (2, c, i) 5), .int (M.1 (2, c, i) 6)]) := rfl
theorem za_E_3 (g : za_L → Nat) (cy : Nat → ClassId) (M : za_M) (c i : Nat) : za_E g cy M (3, c, i) = .inr (0, [.int (M.1 (3, c, i) 0), .int (M.1 (3, c, i) 1), .int (M.1 (3, c, i) 2), .int (M.1 (3, c, i) 3)]) := rfl
theorem za_E_4 (g : za_L → Nat) (cy : Nat → ClassId) (M : za_M) (c i : Nat) : za_E g cy M (4, c, i) = .inr (4, [.ref (g (13, c, i)), .int (M.1 (4, c, i) 1), .int (M.1 (4, c, i) 2)]) := rfl
theorem za_E_5 (g : za_L → Nat) (cy : Nat → ClassId) (M : za_M) (c i : Nat) : za_E g cy M (5, c, i) = .inr (3, [.int (M.1 (5, c, i) 0), .int (M.1 (5, c, i) 1), .int (M.1 (5, c, i) 2), .int (M.1 (5, c, i) 3), .int (M.1 (5, c, i) 4)]) := rfl
theorem za_E_6 (g : za_L → Nat) (cy : Nat → ClassId) (M : za_M) (c i : Nat) : za_E g cy M (6, c, i) = .inr (2, [.int (M.1 (6, c, i) 0), .ref (g (17, c, i)), .ref (g (18, c, i)), .int (M.1 (6, c, i) 3)]) := rfl
theorem za_E_7 (g : za_L → Nat) (cy : Nat → ClassId) (M : za_M) (c i : Nat) : za_E g cy M (7, c, i) = .inr (5, [.ref (g (19, 0, 0)), .ref (g (20, 0, 0)), .int (M.1 (7, c, i) 2), .int (M.1 (7, c, i) 3), .int (M.1 (7, c, i) 4), .int (M.1 (7, c, i) 5)]) := rfl
theorem za_E_8 (g : za_L → Nat) (cy : Nat → ClassId) (M : za_M) (c i : Nat) : za_E g cy M (8, c, i) = .inr (8, [.ref (g (21, 0, 0)), .int (M.1 (8, c, i) 1), .int (M.1 (8, c, i) 2), .int (M.1 (8, c, i) 3), .int (M.1 (8, c, i) 4)]) := rfl
theorem za_E_9 (g : za_L → Nat) (cy : Nat → ClassId) (M : za_M) (c i : Nat) : za_E g cy M (9, c, i) = .inr (6, [.ref (g (23, 0, i)), .int (M.1 (9, c, i) 1), .int (M.1 (9, c, i) 2)]) := rfl
theorem za_E_10 (g : za_L → Nat) (cy : Nat → ClassId) (M : za_M) (c i : Nat) : za_E g cy M (10, c, i) = .inl (cy 1, 5, .inr (.inr (.inr (.inr (fun j => some (g (3, c, j))))))) := rfl
theorem za_E_11 (g : za_L → Nat) (cy : Nat → ClassId) (M : za_M) (c i : Nat) : za_E g cy M (11, c, i) = .inl (cy 2, 4, .inr (.inr (.inr (.inr (fun j => some (g (4, c, j))))))) := rfl
theorem za_E_12 (g : za_L → Nat) (cy : Nat → ClassId) (M : za_M) (c i : Nat) : za_E g cy M (12, c, i) = .inl (cy 3, 10, .inr (.inr (.inr (.inr (fun j => some (g (5, c, M.2 c j % 10))))))) := rfl
theorem za_E_13 (g : za_L → Nat) (cy : Nat → ClassId) (M : za_M) (c i : Nat) : za_E g cy M (13, c, i) = .inl (cy 0, 5, .inl (M.1 (13, c, i))) := rfl
theorem za_E_14 (g : za_L → Nat) (cy : Nat → ClassId) (M : za_M) (c i : Nat) : za_E g cy M (14, c, i) = .inl (cy 4, 2, .inr (.inr (.inr (.inr (fun j => some (g (6, c, j))))))) := rfl
theorem za_E_15 (g : za_L → Nat) (cy : Nat → ClassId) (M : za_M) (c i : Nat) : za_E g cy M (15, c, i) = .inl (cy 0, 50, .inl (M.1 (15, c, i))) := rfl
theorem za_E_16 (g : za_L → Nat) (cy : Nat → ClassId) (M : za_M) (c i : Nat) : za_E g cy M (16, c, i) = .inl (cy 0, 20, .inl (M.1 (16, c, i))) := rfl
theorem za_E_17 (g : za_L → Nat) (cy : Nat → ClassId) (M : za_M) (c i : Nat) : za_E g cy M (17, c, i) = .inl (cy 0, 50, .inl (M.1 (17, c, i))) := rfl
theorem za_E_18 (g : za_L → Nat) (cy : Nat → ClassId) (M : za_M) (c i : Nat) : za_E g cy M (18, c, i) = .inl (cy 0, 50, .inl (M.1 (18, c, i))) := rfl
theorem za_E_19 (g : za_L → Nat) (cy : Nat → ClassId) (M : za_M) (c i : Nat) : za_E g cy M (19, c, i) = .inl (cy 0, 50, .inl (M.1 (19, c, i))) := rfl
theorem za_E_20 (g : za_L → Nat) (cy : Nat → ClassId) (M : za_M) (c i : Nat) : za_E g cy M (20, c, i) = .inl (cy 0, 50, .inl (M.1 (20, c, i))) := rfl
theorem za_E_21 (g : za_L → Nat) (cy : Nat → ClassId) (M : za_M) (c i : Nat) : za_E g cy M (21, c, i) = .inl (cy 0, 40, .inl (M.1 (21, c, i))) := rfl
theorem za_E_22 (g : za_L → Nat) (cy : Nat → ClassId) (M : za_M) (c i : Nat) : za_E g cy M (22, c, i) = .inl (cy 5, 4, .inr (.inr (.inr (.inr (fun j => some (g (9, 0, j))))))) := rfl
theorem za_E_23 (g : za_L → Nat) (cy : Nat → ClassId) (M : za_M) (c i : Nat) : za_E g cy M (23, c, i) = .inl (cy 0, 40, .inl (M.1 (23, c, i))) := rfl
theorem za_E_24 (g : za_L → Nat) (cy : Nat → ClassId) (M : za_M) (c i : Nat) : za_E g cy M (24, c, i) = .inl (cy 0, 6, .inl (M.1 (24, c, i))) := rfl
theorem za_E_25 (g : za_L → Nat) (cy : Nat → ClassId) (M : za_M) (c i : Nat) : za_E g cy M (25, c, i) = .inl (cy 0, 5, .inl (M.1 (25, c, i))) := rfl
theorem za_E_26 (g : za_L → Nat) (cy : Nat → ClassId) (M : za_M) (c i : Nat) : za_E g cy M (26, c, i) = .inl (cy 0, 5, .inl (M.1 (26, c, i))) := rfl
theorem za_E_27 (g : za_L → Nat) (cy : Nat → ClassId) (M : za_M) (c i : Nat) : za_E g cy M (27, c, i) = .inr (10, [.ref (g (28, 0, 0)), .ref (g (29, 0, 0)), .ref (g (30, 0, 0)), .int (M.1 (27, c, i) 3), .ref (g (31, 0, 0)), .ref (g (32, 0, 0)), .int (M.1 (27, c, i) 6), .int (M.1 (27, c, i) 7), .int (M.1 (27, c, i) 8), .int (M.1 (27, c, i) 9), .ref (g (33, 0, 0)), .int (M.1 (27, c, i) 11), .ref (g (34, 0, 0)), .ref (g (35, 0, 0)), .ref (g (36, 0, 0)), .int (M.1 (27, c, i) 15), .int (M.1 (27, c, i) 16), .int (M.1 (27, c, i) 17), .int (M.1 (27, c, i) 18), .ref (g (37, 0, 0)), .ref (g (38, 0, 0)), .ref (g (39, 0, 0)), .ref (g (40, 0, 0))]) := rfl
theorem za_E_28 (g : za_L → Nat) (cy : Nat → ClassId) (M : za_M) (c i : Nat) : za_E g cy M (28, c, i) = .inl (cy 0, 279, .inl (M.1 (28, c, i))) := rfl
theorem za_E_29 (g : za_L → Nat) (cy : Nat → ClassId) (M : za_M) (c i : Nat) : za_E g cy M (29, c, i) = .inl (cy 0, 279, .inl (M.1 (29, c, i))) := rfl
theorem za_E_30 (g : za_L → Nat) (cy : Nat → ClassId) (M : za_M) (c i : Nat) : za_E g cy M (30, c, i) = .inl (cy 0, 279, .inl (M.1 (30, c, i))) := rfl
theorem za_E_31 (g : za_L → Nat) (cy : Nat → ClassId) (M : za_M) (c i : Nat) : za_E g cy M (31, c, i) = .inl (cy 0, 6, .inl (M.1 (31, c, i))) := rfl
theorem za_E_32 (g : za_L → Nat) (cy : Nat → ClassId) (M : za_M) (c i : Nat) : za_E g cy M (32, c, i) = .inl (cy 6, 2, .inr (.inr (.inr (.inr (fun j => some (g (41, 0, j))))))) := rfl
theorem za_E_33 (g : za_L → Nat) (cy : Nat → ClassId) (M : za_M) (c i : Nat) : za_E g cy M (33, c, i) = .inl (cy 0, 60, .inl (M.1 (33, c, i))) := rfl
theorem za_E_34 (g : za_L → Nat) (cy : Nat → ClassId) (M : za_M) (c i : Nat) : za_E g cy M (34, c, i) = .inl (cy 0, 4, .inl (M.1 (34, c, i))) := rfl
theorem za_E_35 (g : za_L → Nat) (cy : Nat → ClassId) (M : za_M) (c i : Nat) : za_E g cy M (35, c, i) = .inl (cy 0, 60, .inl (M.1 (35, c, i))) := rfl
theorem za_E_36 (g : za_L → Nat) (cy : Nat → ClassId) (M : za_M) (c i : Nat) : za_E g cy M (36, c, i) = .inl (cy 0, 40, .inl (M.1 (36, c, i))) := rfl
theorem za_E_37 (g : za_L → Nat) (cy : Nat → ClassId) (M : za_M) (c i : Nat) : za_E g cy M (37, c, i) = .inl (cy 0, 4, .inl (M.1 (37, c, i))) := rfl
theorem za_E_38 (g : za_L → Nat) (cy : Nat → ClassId) (M : za_M) (c i : Nat) : za_E g cy M (38, c, i) = .inl (cy 0, 4, .inl (M.1 (38, c, i))) := rfl
theorem za_E_39 (g : za_L → Nat) (cy : Nat → ClassId) (M : za_M) (c i : Nat) : za_E g cy M (39, c, i) = .inl (cy 0, 160, .inl (M.1 (39, c, i))) := rfl
theorem za_E_40 (g : za_L → Nat) (cy : Nat → ClassId) (M : za_M) (c i : Nat) : za_E g cy M (40, c, i) = .inl (cy 0, 40, .inl (M.1 (40, c, i))) := rfl
/-- a number put, a row of loans put -/
def za_up (M : za_M) (x : za_L) (k : Nat) (v : Int32) : za_M := (fun y j => if y = x ∧ j = k then v else M.1 y j, M.2)
def za_uq (M : za_M) (c k v : Nat) : za_M := (M.1, fun d j => if d = c ∧ j = k then v else M.2 d j)
/-- a whole row of numbers put -/
def za_uf (M : za_M) (x : za_L) (f : Nat → Int32) : za_M := (fun y j => if y = x then f j else M.1 y j, M.2)
theorem za_up_row (M : za_M) (x : za_L) (k : Nat) (v : Int32) : (za_up M x k v).1 x = upd (M.1 x) k v := by
  funext j
  simp [za_up, upd]
theorem za_up_oth (M : za_M) {x y : za_L} (k : Nat) (v : Int32) (h : y ≠ x) : (za_up M x k v).1 y = M.1 y := by
  funext j
  simp [za_up, h]
theorem za_uf_row (M : za_M) (x : za_L) (f : Nat → Int32) : (za_uf M x f).1 x = f := by
  funext j
  simp [za_uf]
theorem za_uf_oth (M : za_M) {x y : za_L} (f : Nat → Int32) (h : y ≠ x) : (za_uf M x f).1 y = M.1 y := by
  funext j
  simp [za_uf, h]
theorem za_E_up (g : za_L → Nat) (cy : Nat → ClassId) (M : za_M) {x y : za_L} (k : Nat) (v : Int32) (h : y ≠ x) : za_E g cy (za_up M x k v) y = za_E g cy M y := by
  unfold za_E
  rw [za_up_oth M k v h]
  rfl
theorem za_E_uf (g : za_L → Nat) (cy : Nat → ClassId) (M : za_M) {x y : za_L} (f : Nat → Int32) (h : y ≠ x) : za_E g cy (za_uf M x f) y = za_E g cy M y := by
  unfold za_E
  rw [za_uf_oth M f h]
  rfl
set_option maxHeartbeats 2000000 in
theorem za_E_P (g : za_L → Nat) (cy : Nat → ClassId) (f : Nat → Int32) (P P' : Nat → Nat) (x : za_L) (h : x.1 ≠ 12) : za_E0 g cy f P x = za_E0 g cy f P' x := by
  unfold za_E0
  split <;> first | rfl | (exact absurd (by assumption) h)
theorem za_uq_oth (M : za_M) {c d : Nat} (k v : Nat) (h : d ≠ c) : (za_uq M c k v).2 d = M.2 d := by
  funext j
  simp [za_uq, h]
theorem za_E_uq (g : za_L → Nat) (cy : Nat → ClassId) (M : za_M) {c : Nat} {y : za_L} (k v : Nat) (h : ¬ (y.1 = 12 ∧ y.2.1 = c)) : za_E g cy (za_uq M c k v) y = za_E g cy M y := by
  unfold za_E
  by_cases h1 : y.1 = 12
  · rw [za_uq_oth M k v (fun e => h ⟨h1, e⟩)]
    rfl
  · exact za_E_P g cy _ _ _ y h1
/-- the world -/
def za_Wl (g : za_L → Nat) (cy : Nat → ClassId) (M : za_M) : va_W := za_cells.map fun x => (g x, za_E g cy M x)
def za_A (g : za_L → Nat) : Nat → Prop := fun q => ∃ x ∈ za_cells, g x = q
def za_J (g : za_L → Nat) : Prop := ∀ x ∈ za_cells, ∀ y ∈ za_cells, g x = g y → x = y
theorem za_at (g : za_L → Nat) (cy : Nat → ClassId) (M : za_M) {q : Nat} {x : za_L} (h : za_cells[q]? = some x) : (za_Wl g cy M)[q]? = some (g x, za_E g cy M x) := by
  unfold za_Wl
  rw [List.getElem?_map, h]
  rfl
theorem za_set {g : za_L → Nat} {cy : Nat → ClassId} {M M' : za_M} {q : Nat} {x : za_L} (h : za_cells[q]? = some x) (ho : ∀ y ∈ za_cells, y ≠ x → za_E g cy M' y = za_E g cy M y) : (za_Wl g cy M).set q (g x, za_E g cy M' x) = za_Wl g cy M' := by
  unfold za_Wl
  refine List.ext_getElem? fun n => ?_
  by_cases hn : n = q
  · subst hn
    have hl := (List.getElem?_eq_some_iff.mp h).1
    rw [List.getElem?_set_self (by rw [List.length_map]; exact hl), List.getElem?_map, h]
    rfl
  · rw [List.getElem?_set_ne (fun e => hn e.symm), List.getElem?_map, List.getElem?_map]
    cases hy : za_cells[n]? with
    | none => rfl
    | some y =>
      show some (g y, za_E g cy M y) = some (g y, za_E g cy M' y)
      rw [ho y (List.mem_of_getElem? hy) (fun e => hn (za_inj hy (by rw [e]; exact h)))]
theorem za_DA {g : za_L → Nat} (cy : Nat → ClassId) (M : za_M) (hJ : za_J g) : va_D (za_A g) (za_Wl g cy M) := by
  refine ⟨fun i j a b hi hj e => ?_, fun k q hk => ?_⟩
  · unfold za_Wl at hi hj
    rw [List.getElem?_map] at hi hj
    cases hx : za_cells[i]? with
    | none => rw [hx] at hi; cases hi
    | some x =>
      cases hy : za_cells[j]? with
      | none => rw [hy] at hj; cases hj
      | some y =>
        rw [hx] at hi; rw [hy] at hj
        cases hi; cases hj
        have e2 := hJ x (List.mem_of_getElem? hx) y (List.mem_of_getElem? hy) e
        subst e2
        exact za_inj hx hy
  · unfold za_Wl at hk
    rw [List.getElem?_map] at hk
    cases hx : za_cells[k]? with
    | none => rw [hx] at hk; cases hk
    | some x =>
      rw [hx] at hk
      cases hk
      exact ⟨x, List.mem_of_getElem? hx, rfl⟩
/-- the good words -/
def lw_gd : List Cond := lw_tbl.filter goodWord
theorem za_gd {w : Cond} (i : Nat) (h : lw_tbl[i]? = some w) (hg : goodWord w = true) : w ∈ lw_gd := List.mem_filter.mpr ⟨List.mem_of_getElem? h, hg⟩
theorem za_gds {ws : List Cond} (h : ∀ w ∈ ws, w ∈ lw_tbl) (hg : ws.all goodWord = true) : ∀ w ∈ ws, w ∈ lw_gd := fun w hw => List.mem_filter.mpr ⟨h w hw, List.all_eq_true.mp hg w hw⟩
theorem za_gin {w : Cond} (hw : w ∈ lw_gd) : GoodIn lw_gd (w :: lw_gd) := fun x hx => (List.mem_cons.mp hx).elim (fun e => ⟨e ▸ hw, good_of_word (List.mem_filter.mp (e ▸ hw)).2⟩) (fun h => ⟨h, good_of_word (List.mem_filter.mp h).2⟩)
theorem za_gapp {a b : List Cond} (ha : ∀ w ∈ a, w ∈ lw_gd) (hb : GoodIn lw_gd b) : GoodIn lw_gd (a ++ b) := fun x hx => (List.mem_append.mp hx).elim (fun h => ⟨ha x h, good_of_word (List.mem_filter.mp (ha x h)).2⟩) (hb x)

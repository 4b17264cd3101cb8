/-! the start: what the tables and the Statement give -/
theorem vL_c7 : Cond.classLink RL 7 RX9 ∈ lw_gd := za_gd 93 (by decide +kernel) rfl
theorem vL_c10 : Cond.classLink RL 10 RX10 ∈ lw_gd := za_gd 881 (by decide +kernel) rfl
theorem vL_nX9 : Cond.instantiable RX9 10 ∈ lw_gd := za_gd 94 (by decide +kernel) rfl
theorem vL_iX9 : Cond.initialized RX9 ∈ lw_gd := za_gd 75 (by decide +kernel) rfl
theorem vL_lX9 : Cond.methodLink RL 9 yX9_init ∈ lw_gd := za_gd 95 (by decide +kernel) rfl
theorem vL_mX9 : Cond.instanceMethod yX9_init ∈ lw_gd := za_gd 96 (by decide +kernel) rfl
theorem vL_kX9 : Cond.code yX9_init cX9_init 2 none ∈ lw_gd := za_gd 97 (by decide +kernel) rfl
theorem vL_YX9 : za_Y yX9_init cX9_init 2 none 0 := ⟨vL_kX9, vL_iX9, by decide +kernel⟩
theorem vL_nX10 : Cond.instantiable RX10 23 ∈ lw_gd := za_gd 882 (by decide +kernel) rfl
theorem vL_iX10 : Cond.initialized RX10 ∈ lw_gd := za_gd 85 (by decide +kernel) rfl
theorem vL_lX10 : Cond.methodLink RL 12 yX10_init ∈ lw_gd := za_gd 883 (by decide +kernel) rfl
theorem vL_mX10 : Cond.instanceMethod yX10_init ∈ lw_gd := za_gd 884 (by decide +kernel) rfl
theorem vL_kX10 : Cond.code yX10_init cX10_init 1 none ∈ lw_gd := za_gd 885 (by decide +kernel) rfl
theorem vL_YX10 : za_Y yX10_init cX10_init 1 none 0 := ⟨vL_kX10, vL_iX10, by decide +kernel⟩
theorem zs_tb {w : Cond} (h : w ∈ lw_gd) : w ∈ lw_tbl := (List.mem_filter.mp h).1
theorem zK_cls {b : Nat} {s : State} (hts : ∀ w ∈ lw_tbl, w.before #[Value.ref b] s = true) : ∃ D : va_G, ∀ (c : Nat) (q : vw_C), vwCl[c]? = some q → u_Kn s q.1 q.2.1 q.2.2 (D.1 c) (D.2 c) := by
  have h : ∀ c : Nat, ∃ r : ClassId × (Nat → Nat), ∀ q : vw_C, vwCl[c]? = some q → u_Kn s q.1 q.2.1 q.2.2 r.1 r.2 := by
    intro c
    have hc : c = 0 ∨ c = 1 ∨ c = 2 ∨ c = 3 ∨ c = 4 ∨ c = 5 ∨ c = 6 ∨ c = 7 ∨ c = 8 ∨ c = 9 ∨ c = 10 ∨ 11 ≤ c := by omega
    rcases hc with rfl | rfl | rfl | rfl | rfl | rfl | rfl | rfl | rfl | rfl | rfl | hc
    · obtain ⟨cC, iS, h⟩ := u_known (ws := lw_tbl) (C := RX0) (T := TX0) (N := 4) hts (fun w hw => zs_tb (gin_X0 w hw)) (hts (Cond.instantiable RX0 4) (List.mem_of_getElem? (i := 119) (by decide +kernel)))
      exact ⟨(cC, iS), fun q hq => by cases hq; exact h⟩
    · obtain ⟨cC, iS, h⟩ := u_known (ws := lw_tbl) (C := RX1) (T := TX1) (N := 7) hts (fun w hw => zs_tb (gin_X1 w hw)) (hts (Cond.instantiable RX1 7) (List.mem_of_getElem? (i := 108) (by decide +kernel)))
      exact ⟨(cC, iS), fun q hq => by cases hq; exact h⟩
    · obtain ⟨cC, iS, h⟩ := u_known (ws := lw_tbl) (C := RX2) (T := TX2) (N := 4) hts (fun w hw => zs_tb (gin_X2 w hw)) (hts (Cond.instantiable RX2 4) (List.mem_of_getElem? (i := 230) (by decide +kernel)))
      exact ⟨(cC, iS), fun q hq => by cases hq; exact h⟩
    · obtain ⟨cC, iS, h⟩ := u_known (ws := lw_tbl) (C := RX3) (T := TX3) (N := 5) hts (fun w hw => zs_tb (gin_X3 w hw)) (hts (Cond.instantiable RX3 5) (List.mem_of_getElem? (i := 168) (by decide +kernel)))
      exact ⟨(cC, iS), fun q hq => by cases hq; exact h⟩
    · obtain ⟨cC, iS, h⟩ := u_known (ws := lw_tbl) (C := RX4) (T := TX4) (N := 3) hts (fun w hw => zs_tb (gin_X4 w hw)) (hts (Cond.instantiable RX4 3) (List.mem_of_getElem? (i := 146) (by decide +kernel)))
      exact ⟨(cC, iS), fun q hq => by cases hq; exact h⟩
    · obtain ⟨cC, iS, h⟩ := u_known (ws := lw_tbl) (C := RX5) (T := TX5) (N := 6) hts (fun w hw => zs_tb (gin_X5 w hw)) (hts (Cond.instantiable RX5 6) (List.mem_of_getElem? (i := 282) (by decide +kernel)))
      exact ⟨(cC, iS), fun q hq => by cases hq; exact h⟩
    · obtain ⟨cC, iS, h⟩ := u_known (ws := lw_tbl) (C := RX6) (T := TX6) (N := 3) hts (fun w hw => zs_tb (gin_X6 w hw)) (hts (Cond.instantiable RX6 3) (List.mem_of_getElem? (i := 335) (by decide +kernel)))
      exact ⟨(cC, iS), fun q hq => by cases hq; exact h⟩
    · obtain ⟨cC, iS, h⟩ := u_known (ws := lw_tbl) (C := RX7) (T := TX7) (N := 7) hts (fun w hw => zs_tb (gin_X7 w hw)) (hts (Cond.instantiable RX7 7) (List.mem_of_getElem? (i := 102) (by decide +kernel)))
      exact ⟨(cC, iS), fun q hq => by cases hq; exact h⟩
    · obtain ⟨cC, iS, h⟩ := u_known (ws := lw_tbl) (C := RX8) (T := TX8) (N := 5) hts (fun w hw => zs_tb (gin_X8 w hw)) (hts (Cond.instantiable RX8 5) (List.mem_of_getElem? (i := 310) (by decide +kernel)))
      exact ⟨(cC, iS), fun q hq => by cases hq; exact h⟩
    · obtain ⟨cC, iS, h⟩ := u_known (ws := lw_tbl) (C := RX9) (T := TX9) (N := 10) hts (fun w hw => zs_tb (gin_X9 w hw)) (hts (Cond.instantiable RX9 10) (List.mem_of_getElem? (i := 94) (by decide +kernel)))
      exact ⟨(cC, iS), fun q hq => by cases hq; exact h⟩
    · obtain ⟨cC, iS, h⟩ := u_known (ws := lw_tbl) (C := RX10) (T := TX10) (N := 23) hts (fun w hw => zs_tb (gin_X10 w hw)) (hts (Cond.instantiable RX10 23) (List.mem_of_getElem? (i := 882) (by decide +kernel)))
      exact ⟨(cC, iS), fun q hq => by cases hq; exact h⟩
    · exact ⟨(0, fun _ => 0), fun q hq => by rw [List.getElem?_eq_none (by simp; omega)] at hq; cases hq⟩
  obtain ⟨D, hD⟩ := Classical.axiomOfChoice h
  exact ⟨(fun c => (D c).1, fun c => (D c).2), hD⟩
theorem zK_ao {b : Nat} {s : State} (hts : ∀ w ∈ lw_tbl, w.before #[Value.ref b] s = true) : ∀ C ∈ zn_Cl, va_AO C s := by
  intro C hC
  unfold zn_Cl at hC
  rcases List.mem_cons.mp hC with h | hC
  · rw [h]; exact va_AO.of (hts (Cond.arrayOver (.object RX0)) (List.mem_of_getElem? (i := 114) (by decide +kernel)))
  rcases List.mem_cons.mp hC with h | hC
  · rw [h]; exact va_AO.of (hts (Cond.arrayOver (.object RX4)) (List.mem_of_getElem? (i := 116) (by decide +kernel)))
  rcases List.mem_cons.mp hC with h | hC
  · rw [h]; exact va_AO.of (hts (Cond.arrayOver (.object RX3)) (List.mem_of_getElem? (i := 118) (by decide +kernel)))
  rcases List.mem_cons.mp hC with h | hC
  · rw [h]; exact va_AO.of (hts (Cond.arrayOver (.object RX2)) (List.mem_of_getElem? (i := 229) (by decide +kernel)))
  rcases List.mem_cons.mp hC with h | hC
  · rw [h]; exact va_AO.of (hts (Cond.arrayOver (.object RX6)) (List.mem_of_getElem? (i := 334) (by decide +kernel)))
  rcases List.mem_cons.mp hC with h | hC
  · rw [h]; exact va_AO.of (hts (Cond.arrayOver (.object "java/lang/String")) (List.mem_of_getElem? (i := 888) (by decide +kernel)))
  exact absurd hC List.not_mem_nil
theorem zK_arr {b : Nat} {s : State} (hts : ∀ w ∈ lw_tbl, w.before #[Value.ref b] s = true) : ∃ cy : Nat → ClassId, ∀ (k : Nat) (q : ClassId × FieldType), (za_tys cy)[k]? = some q → ArrOfT s q.1 q.2 ∧ va_RA s q.1 q.2 := by
  obtain ⟨c0, k0, m0, h01, h02, h03⟩ := Cond.arrayClass_spec (hts (Cond.arrayClass .int) (List.mem_of_getElem? (i := 167) (by decide +kernel)))
  obtain ⟨m1, c1, k1, h11, h12, h13, h14, h15⟩ := Cond.arrayOver_spec (hts (Cond.arrayOver (.object RX0)) (List.mem_of_getElem? (i := 114) (by decide +kernel)))
  obtain ⟨m2, c2, k2, h21, h22, h23, h24, h25⟩ := Cond.arrayOver_spec (hts (Cond.arrayOver (.object RX4)) (List.mem_of_getElem? (i := 116) (by decide +kernel)))
  obtain ⟨m3, c3, k3, h31, h32, h33, h34, h35⟩ := Cond.arrayOver_spec (hts (Cond.arrayOver (.object RX3)) (List.mem_of_getElem? (i := 118) (by decide +kernel)))
  obtain ⟨m4, c4, k4, h41, h42, h43, h44, h45⟩ := Cond.arrayOver_spec (hts (Cond.arrayOver (.object RX2)) (List.mem_of_getElem? (i := 229) (by decide +kernel)))
  obtain ⟨m5, c5, k5, h51, h52, h53, h54, h55⟩ := Cond.arrayOver_spec (hts (Cond.arrayOver (.object RX6)) (List.mem_of_getElem? (i := 334) (by decide +kernel)))
  obtain ⟨m6, c6, k6, h61, h62, h63, h64, h65⟩ := Cond.arrayOver_spec (hts (Cond.arrayOver (.object "java/lang/String")) (List.mem_of_getElem? (i := 888) (by decide +kernel)))
  refine ⟨fun k => match k with | 0 => c0 | 1 => c1 | 2 => c2 | 3 => c3 | 4 => c4 | 5 => c5 | _ => c6, fun k q hq => ?_⟩
  have hc : k = 0 ∨ k = 1 ∨ k = 2 ∨ k = 3 ∨ k = 4 ∨ k = 5 ∨ k = 6 ∨ 7 ≤ k := by omega
  rcases hc with rfl | rfl | rfl | rfl | rfl | rfl | rfl | hc
  · cases hq
    exact ⟨fun n z => ⟨fun k h => (by cases h), k0, h02, m0, h03⟩, h01⟩
  · cases hq
    exact ⟨fun n z => ⟨fun k h => (by cases h), k1, h13, m1, h14⟩, k1, m1, h13, h14, h11, h15⟩
  · cases hq
    exact ⟨fun n z => ⟨fun k h => (by cases h), k2, h23, m2, h24⟩, k2, m2, h23, h24, h21, h25⟩
  · cases hq
    exact ⟨fun n z => ⟨fun k h => (by cases h), k3, h33, m3, h34⟩, k3, m3, h33, h34, h31, h35⟩
  · cases hq
    exact ⟨fun n z => ⟨fun k h => (by cases h), k4, h43, m4, h44⟩, k4, m4, h43, h44, h41, h45⟩
  · cases hq
    exact ⟨fun n z => ⟨fun k h => (by cases h), k5, h53, m5, h54⟩, k5, m5, h53, h54, h51, h55⟩
  · cases hq
    exact ⟨fun n z => ⟨fun k h => (by cases h), k6, h63, m6, h64⟩, k6, m6, h63, h64, h61, h65⟩
  · rw [List.getElem?_eq_none (by simp [za_tys]; omega)] at hq; cases hq
set_option maxRecDepth 100000 in
theorem zS_t0 {b : Nat} {s : State} (hts : ∀ w ∈ lw_tbl, w.before #[Value.ref b] s = true) (hgv : (Jvm.Cond.and given_1 narrow_1).before #[Value.ref b] s = true) {A : Nat → Prop} (hA : ∀ a : Nat, a < s.heap.size → ¬ A a) : ∃ t : Nat, va_Z "AshLoans" "ABOVE" "[I" (.ref t) A s s.heap ∧ va_T .int t 7 (fun j => .int (za_t0 j)) A s s.heap := by
  have hs := flat_of_before _ hgv
  obtain ⟨t, e, hT⟩ := va_Tof (args := #[Value.ref b]) (tm := .static "AshLoans" "ABOVE" "[I") (ty := .int) (N := 7) (f := fun j => .int (za_t0 j)) (by decide) (hs _ (by decide +kernel)) (va_eqt (hs _ (by decide +kernel))) (fun j hj => by
    rcases (show j = 0 ∨ j = 1 ∨ j = 2 ∨ j = 3 ∨ j = 4 ∨ j = 5 ∨ j = 6 by omega) with rfl | rfl | rfl | rfl | rfl | rfl | rfl <;> exact va_eqt (hs _ (by decide +kernel))) hA
  exact ⟨t, va_Zof (hts (Cond.laysStatic "AshLoans" "ABOVE" "[I") (List.mem_of_getElem? (i := 432) (by decide +kernel))) (hts (Cond.initialized "AshLoans") (List.mem_of_getElem? (i := 75) (by decide +kernel))) e hA, hT⟩
set_option maxRecDepth 100000 in
theorem zS_t1 {b : Nat} {s : State} (hts : ∀ w ∈ lw_tbl, w.before #[Value.ref b] s = true) (hgv : (Jvm.Cond.and given_1 narrow_1).before #[Value.ref b] s = true) {A : Nat → Prop} (hA : ∀ a : Nat, a < s.heap.size → ¬ A a) : ∃ t : Nat, va_Z "AshLoans" "NAMES" "[C" (.ref t) A s s.heap ∧ va_T .char t 6 (fun j => .int (za_t1 j)) A s s.heap := by
  have hs := flat_of_before _ hgv
  obtain ⟨t, e, hT⟩ := va_Tof (args := #[Value.ref b]) (tm := .static "AshLoans" "NAMES" "[C") (ty := .char) (N := 6) (f := fun j => .int (za_t1 j)) (by decide) (hs _ (by decide +kernel)) (va_eqt (hs _ (by decide +kernel))) (fun j hj => by
    rcases (show j = 0 ∨ j = 1 ∨ j = 2 ∨ j = 3 ∨ j = 4 ∨ j = 5 by omega) with rfl | rfl | rfl | rfl | rfl | rfl <;> exact va_eqt (hs _ (by decide +kernel))) hA
  exact ⟨t, va_Zof (hts (Cond.laysStatic "AshLoans" "NAMES" "[C") (List.mem_of_getElem? (i := 515) (by decide +kernel))) (hts (Cond.initialized "AshLoans") (List.mem_of_getElem? (i := 75) (by decide +kernel))) e hA, hT⟩
set_option maxRecDepth 100000 in
theorem zS_t2 {b : Nat} {s : State} (hts : ∀ w ∈ lw_tbl, w.before #[Value.ref b] s = true) (hgv : (Jvm.Cond.and given_1 narrow_1).before #[Value.ref b] s = true) {A : Nat → Prop} (hA : ∀ a : Nat, a < s.heap.size → ¬ A a) : ∃ t : Nat, va_Z "AshLoans" "POWERS" "[I" (.ref t) A s s.heap ∧ va_T .int t 6 (fun j => .int (za_t2 j)) A s s.heap := by
  have hs := flat_of_before _ hgv
  obtain ⟨t, e, hT⟩ := va_Tof (args := #[Value.ref b]) (tm := .static "AshLoans" "POWERS" "[I") (ty := .int) (N := 6) (f := fun j => .int (za_t2 j)) (by decide) (hs _ (by decide +kernel)) (va_eqt (hs _ (by decide +kernel))) (fun j hj => by
    rcases (show j = 0 ∨ j = 1 ∨ j = 2 ∨ j = 3 ∨ j = 4 ∨ j = 5 by omega) with rfl | rfl | rfl | rfl | rfl | rfl <;> exact va_eqt (hs _ (by decide +kernel))) hA
  exact ⟨t, va_Zof (hts (Cond.laysStatic "AshLoans" "POWERS" "[I") (List.mem_of_getElem? (i := 595) (by decide +kernel))) (hts (Cond.initialized "AshLoans") (List.mem_of_getElem? (i := 75) (by decide +kernel))) e hA, hT⟩
set_option maxRecDepth 100000 in
theorem zS_t3 {b : Nat} {s : State} (hts : ∀ w ∈ lw_tbl, w.before #[Value.ref b] s = true) (hgv : (Jvm.Cond.and given_1 narrow_1).before #[Value.ref b] s = true) {A : Nat → Prop} (hA : ∀ a : Nat, a < s.heap.size → ¬ A a) : ∃ t : Nat, va_Z "AshLoans$Voices" "BODIES" "[I" (.ref t) A s s.heap ∧ va_T .int t 28 (fun j => .int (za_t3 j)) A s s.heap := by
  have hs := flat_of_before _ hgv
  obtain ⟨t, e, hT⟩ := va_Tof (args := #[Value.ref b]) (tm := .static "AshLoans$Voices" "BODIES" "[I") (ty := .int) (N := 28) (f := fun j => .int (za_t3 j)) (by decide) (hs _ (by decide +kernel)) (va_eqt (hs _ (by decide +kernel))) (fun j hj => by
    rcases (show j = 0 ∨ j = 1 ∨ j = 2 ∨ j = 3 ∨ j = 4 ∨ j = 5 ∨ j = 6 ∨ j = 7 ∨ j = 8 ∨ j = 9 ∨ j = 10 ∨ j = 11 ∨ j = 12 ∨ j = 13 ∨ j = 14 ∨ j = 15 ∨ j = 16 ∨ j = 17 ∨ j = 18 ∨ j = 19 ∨ j = 20 ∨ j = 21 ∨ j = 22 ∨ j = 23 ∨ j = 24 ∨ j = 25 ∨ j = 26 ∨ j = 27 by omega) with rfl | rfl | rfl | rfl | rfl | rfl | rfl | rfl | rfl | rfl | rfl | rfl | rfl | rfl | rfl | rfl | rfl | rfl | rfl | rfl | rfl | rfl | rfl | rfl | rfl | rfl | rfl | rfl <;> exact va_eqt (hs _ (by decide +kernel))) hA
  exact ⟨t, va_Zof (hts (Cond.laysStatic "AshLoans$Voices" "BODIES" "[I") (List.mem_of_getElem? (i := 794) (by decide +kernel))) (hts (Cond.initialized "AshLoans$Voices") (List.mem_of_getElem? (i := 83) (by decide +kernel))) e hA, hT⟩
set_option maxRecDepth 100000 in
theorem zS_s {b : Nat} {s : State} (hts : ∀ w ∈ lw_tbl, w.before #[Value.ref b] s = true) (hgv : (Jvm.Cond.and given_1 narrow_1).before #[Value.ref b] s = true) {A : Nat → Prop} (hA : ∀ a : Nat, a < s.heap.size → ¬ A a) : ∃ sa vb : Nat → Nat, vk_S 2 [3, 3] [[109, 107, 104], [110, 109, 100]] sa vb A s s.heap ∧ vk_R "AshLoansModel" 24 "mkh" (sa 0) s ∧ vk_R "AshLoansModel" 26 "nmd" (sa 1) s := by
  have hs := flat_of_before _ hgv
  obtain ⟨sa, vb, hS, he⟩ := vk_Sof (args := #[Value.ref b]) (s := s) (N := 2) (tm := fun i => match i with | 0 => .string "AshLoansModel" 24 | _ => .string "AshLoansModel" 26) (len := [3, 3]) (byt := [[109, 107, 104], [110, 109, 100]]) (A := A)
    (fun i hi => by rcases (show i = 0 ∨ i = 1 by omega) with rfl | rfl <;> decide)
    (fun i hi => by rcases (show i = 0 ∨ i = 1 by omega) with rfl | rfl <;> exact hs _ (by decide +kernel))
    (fun i hi => by rcases (show i = 0 ∨ i = 1 by omega) with rfl | rfl <;> exact hs _ (by decide +kernel))
    (fun i hi => by rcases (show i = 0 ∨ i = 1 by omega) with rfl | rfl <;> exact hs _ (by decide +kernel))
    (fun i hi => by rcases (show i = 0 ∨ i = 1 by omega) with rfl | rfl <;> exact hs _ (by decide +kernel))
    (fun i hi j hj => by
      have hj : j < 3 := by rcases (show i = 0 ∨ i = 1 by omega) with rfl | rfl <;> exact hj
      rcases (show i = 0 ∨ i = 1 by omega) with rfl | rfl <;> rcases (show j = 0 ∨ j = 1 ∨ j = 2 by omega) with rfl | rfl | rfl <;> exact hs _ (by decide +kernel))
    (fun i j hi hj hn => by
      rcases (show (i = 0 ∧ j = 1) ∨ (i = 1 ∧ j = 0) by omega) with ⟨rfl, rfl⟩ | ⟨rfl, rfl⟩
      · exact Or.inl (hs _ (by decide +kernel))
      · exact Or.inr (hs _ (by decide +kernel))) hA
  exact ⟨sa, vb, hS, vk_R.of (hts (Cond.stringRef "AshLoansModel" 24 "mkh") (List.mem_of_getElem? (i := 889) (by decide +kernel))) (he 0 (by decide)), vk_R.of (hts (Cond.stringRef "AshLoansModel" 26 "nmd") (List.mem_of_getElem? (i := 890) (by decide +kernel))) (he 1 (by decide))⟩
theorem zS_c {b : Nat} {s : State} (hts : ∀ w ∈ lw_tbl, w.before #[Value.ref b] s = true) (hgv : (Jvm.Cond.and given_1 narrow_1).before #[Value.ref b] s = true) {A : Nat → Prop} (hA : ∀ a : Nat, a < s.heap.size → ¬ A a) : va_Z "java/lang/String" "COMPACT_STRINGS" "Z" (.int 1) A s s.heap ∧ va_Zq "jdk/internal/util/Preconditions" "SIOOBE_FORMATTER" "Ljava/util/function/BiFunction;" A s s.heap := by
  have hs := flat_of_before _ hgv
  exact ⟨va_Zof (hts (Cond.laysStatic "java/lang/String" "COMPACT_STRINGS" "Z") (List.mem_of_getElem? (i := 1030) (by decide +kernel))) (hts (Cond.initialized "java/lang/String") (List.mem_of_getElem? (i := 87) (by decide +kernel))) (va_eqt (hs _ (by decide +kernel))) hA, va_Zqof (hts (Cond.laysStatic "jdk/internal/util/Preconditions" "SIOOBE_FORMATTER" "Ljava/util/function/BiFunction;") (List.mem_of_getElem? (i := 1046) (by decide +kernel))) (hts (Cond.initialized "jdk/internal/util/Preconditions") (List.mem_of_getElem? (i := 89) (by decide +kernel))) (hs _ (by decide +kernel)) hA⟩
theorem za_nests_in : ∀ w ∈ za_nests, w ∈ lw_tbl := by decide +kernel

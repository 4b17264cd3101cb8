/-! the start of the whole -/
set_option maxRecDepth 100000 in
set_option maxHeartbeats 4000000 in
/-- from the entry, for every script of at most 3072 ints, the law comes to its end with true -/
theorem whole_start {p : Program} {e : Env} {s : State} {m : MethodId} {below : List Frame} {meth : Method} {c : Code} (l : Launch) (hflags : l.flags = flags0) {b L : Nat} {xs : Nat → Int32} (hL : L ≤ 3072) (C0 : lw_At p s m meth c b L xs) : W p l e room_1 s m #[Value.ref b] below meth c s.heap [] 0 0 (lw_Z below #[Value.ref b] s) (entryFrame m ([Value.ref b] : List Value).toArray 4) := by
  obtain ⟨hx, hb, hr, hml, hown, hts, hX, hbl, hlocks, hgv⟩ := C0
  obtain ⟨A, hAe⟩ : ∃ A : Nat → Prop, A = fun q => s.heap.size ≤ q := ⟨_, rfl⟩
  have hA1 : ∀ q, s.heap.size ≤ q → A q := fun q h => by rw [hAe]; exact h
  have hA2 : ∀ q, A q → s.heap.size ≤ q := fun q h => by rw [hAe] at h; exact h
  have hA3 : ∀ a : Nat, a < s.heap.size → ¬ A a := fun a h z => absurd (hA2 a z) (Nat.not_le.mpr h)
  obtain ⟨D, hD1⟩ := zK_cls hts
  obtain ⟨cy, hcy⟩ := zK_arr hts
  obtain ⟨t0, Z0, T0⟩ := zS_t0 hts hgv hA3
  obtain ⟨t1, Z1, T1⟩ := zS_t1 hts hgv hA3
  obtain ⟨t2, Z2, T2⟩ := zS_t2 hts hgv hA3
  obtain ⟨t3, Z3, T3⟩ := zS_t3 hts hgv hA3
  obtain ⟨sa, vb, hSt, hR1, hR2⟩ := zS_s hts hgv hA3
  obtain ⟨hC1, hC2⟩ := zS_c hts hgv hA3
  have hK : va_K D vwCl (za_tys cy) s := ⟨hD1, hcy⟩
  have hNw : ∀ w ∈ za_nests, va_Nw w s := fun w hw => va_Nw.of (za_nests_tab w hw) (hts w (za_nests_in w hw))
  have hws : ∀ w ∈ lw_gd, w.before #[Value.ref b] s = true := fun w hw => hts w (zs_tb hw)
  have hown2 : s.vm.findClass RL = some m.cls := hown
  have CN : zn_C p s m #[Value.ref b] c code 4 RL sa D cy A := ⟨hx, hb, hml, hown2, hws, ⟨hK, hNw, zK_ao hts, hR1, hR2⟩, hA1, fun i hi => (hSt.1 i hi).1⟩
  have walk : zn p l e room_1 s m #[Value.ref b] below meth c A (lw_Z below #[Value.ref b] s) D 4 [] 0 [(0, .ref b)] [] 0 0 := by
    refine zn_new CN (ci := 9) (fs := [.null, .null, .null, .null, .null, .null, .null, .null, .null, .int 0]) gin_X9 tyX9 tyX9_ok vL_c7 vL_nX9 vL_iX9 rfl (fun j hj => by rcases (show j = 0 ∨ j = 1 ∨ j = 2 ∨ j = 3 ∨ j = 4 ∨ j = 5 ∨ j = 6 ∨ j = 7 ∨ j = 8 ∨ j = 9 by omega) with rfl | rfl | rfl | rfl | rfl | rfl | rfl | rfl | rfl | rfl <;> rfl) (Nat.le_of_ble_eq_true rfl) (Nat.le_of_ble_eq_true rfl) dL_law_0 (fun q => ?_)
    refine zn_dup CN dL_law_3 rfl ?_
    refine zn_call CN [] n_X9 rfl vL_YX9 vL_lX9 vL_mX9 (Nat.le_of_ble_eq_true rfl) (by exact ⟨(Nat.le_of_ble_eq_true rfl), (Nat.le_of_ble_eq_true rfl)⟩) (by exact ⟨(Nat.le_of_ble_eq_true rfl), (Nat.le_of_ble_eq_true rfl)⟩) dL_law_4 rfl rfl (fun gA => ?_)
    refine zn_astore_n CN _ dL_law_7 rfl (by decide) rfl ?_
    refine zn_new CN (ci := 10) (fs := [.null, .null, .null, .int 0, .null, .null, .int 0, .int 0, .int 0, .int 0, .null, .int 0, .null, .null, .null, .int 0, .int 0, .int 0, .int 0, .null, .null, .null, .null]) gin_X10 tyX10 tyX10_ok vL_c10 vL_nX10 vL_iX10 rfl (fun j hj => by rcases (show j = 0 ∨ j = 1 ∨ j = 2 ∨ j = 3 ∨ j = 4 ∨ j = 5 ∨ j = 6 ∨ j = 7 ∨ j = 8 ∨ j = 9 ∨ j = 10 ∨ j = 11 ∨ j = 12 ∨ j = 13 ∨ j = 14 ∨ j = 15 ∨ j = 16 ∨ j = 17 ∨ j = 18 ∨ j = 19 ∨ j = 20 ∨ j = 21 ∨ j = 22 by omega) with rfl | rfl | rfl | rfl | rfl | rfl | rfl | rfl | rfl | rfl | rfl | rfl | rfl | rfl | rfl | rfl | rfl | rfl | rfl | rfl | rfl | rfl | rfl <;> rfl) (Nat.le_of_ble_eq_true rfl) (Nat.le_of_ble_eq_true rfl) dL_law_8 (fun q2 => ?_)
    refine zn_dup CN dL_law_11 rfl ?_
    refine zn_call CN [] n_X10 rfl vL_YX10 vL_lX10 vL_mX10 (Nat.le_of_ble_eq_true rfl) (by exact ⟨(Nat.le_of_ble_eq_true rfl), (Nat.le_of_ble_eq_true rfl)⟩) (by exact ⟨(Nat.le_of_ble_eq_true rfl), (Nat.le_of_ble_eq_true rfl)⟩) dL_law_12 rfl rfl (fun gM => ?_)
    refine zn_astore_n CN _ dL_law_15 rfl (by decide) rfl ?_
    refine zn_iconst CN (v := nI 0) dL_law_16 (by decide) ?_
    refine zn_istore_n CN _ dL_law_17 rfl (by decide) rfl ?_
    intro H locs ls hP hD hS hl
    obtain ⟨g, hg⟩ : ∃ g, g = zgG q q2 gA gM sa (fun i => match i with | 0 => t0 | 1 => t1 | 2 => t2 | _ => t3) vb := ⟨_, rfl⟩
    have eW := zgG_w (cy := cy) q q2 gA gM sa (fun i => match i with | 0 => t0 | 1 => t1 | 2 => t2 | _ => t3) vb
    rw [← hg] at eW
    have hP2 : va_P D vwCl (zAll.map fun x => (g x, za_E g cy zMz x)) H := by rw [← eW]; exact hP
    have hD2 : va_D A (zAll.map fun x => (g x, za_E g cy zMz x)) := by rw [← eW]; exact hD
    obtain ⟨hJ, hGA⟩ := zgG_J hD2
    have hG : ∀ q, za_A g q → s.heap.size ≤ q := fun q z => hA2 q (hGA q z)
    have hPw := zgG_P hP2
    have hF : za_F g D cy s := by
      refine ⟨hK, hNw, ⟨?_, ?_⟩, ⟨?_, ?_⟩, ⟨?_, ?_⟩, ⟨?_, ?_⟩, ?_, hC1.narrow hGA, hC2.narrow hGA⟩
      · rw [hg]; rw [hg] at hGA; exact Z0.narrow hGA
      · rw [hg]; rw [hg] at hGA; exact T0.narrow hGA
      · rw [hg]; rw [hg] at hGA; exact Z1.narrow hGA
      · rw [hg]; rw [hg] at hGA; exact T1.narrow hGA
      · rw [hg]; rw [hg] at hGA; exact Z2.narrow hGA
      · rw [hg]; rw [hg] at hGA; exact T2.narrow hGA
      · rw [hg]; rw [hg] at hGA; exact Z3.narrow hGA
      · rw [hg]; rw [hg] at hGA; exact T3.narrow hGA
      · rw [hg]; rw [hg] at hGA; exact hSt.narrow hGA
    have CZ : za_C p s m #[Value.ref b] c code 4 RL g D cy := ⟨hx, hb, hml, hown2, hws, hF, hJ⟩
    refine va_forget (fun q hq => hA2 _ (hS.2.2 q hq)) ?_
    have e0 : g (0, 0, 0) = q := by rw [hg]; rfl
    have e27 : g (27, 0, 0) = q2 := by rw [hg]; rfl
    refine zL_loop CZ hX hbl (fun z => absurd (hG _ z) (Nat.not_le.mpr hbl)) hL hr hlocks hG L 0 zMz (by omega) (by omega) zI_0 H [] ls hPw ⟨hS.1, fun q h1 _ => hS.2.1 q h1 (hA3 q h1), fun _ h => by cases h⟩ ?_
    unfold zl_lv
    rw [e0, e27]
    exact lv_sub hl [3, 2, 1, 0] rfl
  have hl := lv_entry ([.ref b] : List Value) (n := 4) (Nat.le_of_ble_eq_true rfl)
  rw [lg_entry_eq]
  exact walk s.heap [] _ (fun k q h => by simp at h) ⟨fun i j p q h => by simp at h, fun k q h => by simp at h⟩ va_S.rf hl

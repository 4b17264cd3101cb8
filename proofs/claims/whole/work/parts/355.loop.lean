/-! the law: its loop -/
theorem zl_63 (x : Int32) : ∃ j, j ≤ 63 ∧ x &&& 63 = nI j := by
  have e : (x &&& 63).toBitVec = x.toBitVec &&& 63#32 := rfl
  refine ⟨(x &&& 63).toBitVec.toNat, ?_, ?_⟩
  · rw [e, BitVec.toNat_and]
    exact Nat.and_le_right
  · have h : (x &&& 63).toBitVec = BitVec.ofNat 32 (x &&& 63).toBitVec.toNat := by simp
    have h2 : nI (x &&& 63).toBitVec.toNat = Int32.ofBitVec (BitVec.ofNat 32 (x &&& 63).toBitVec.toNat) := rfl
    rw [h2, ← h]
    rfl
section ZLW
variable {p : Program} {l : Launch} {e : Env} {s : State} {m : MethodId} {below : List Frame} {meth : Method} {c : Code} {g : za_L → Nat} {D : va_G} {cy : Nat → ClassId} {b L : Nat} {xs : Nat → Int32} {Q : State → Prop}
set_option maxRecDepth 100000 in
set_option maxHeartbeats 4000000 in
theorem zL_sw (C : za_C p s m #[Value.ref b] c code 4 RL g D cy) (hX : va_X b L xs s s.heap) (hbl : b < s.heap.size) (hbA : ¬ za_A g b) (hL : L ≤ 3072) {M : za_M} {n : Nat} (hI : zI M) (hn : n + 6 ≤ L) (kk : ∀ M', zI M' → zt p l e room_1 s m #[Value.ref b] below meth c 133 2551 Q g D cy 4 M' 1545 (zl_lv b g n) []) (x : Int32) : zt p l e room_1 s m #[Value.ref b] below meth c 133 2551 Q g D cy 4 M 33 (zl_lv b g n) [.int (x &&& 63)] := by
  obtain ⟨j, hj, ej⟩ := zl_63 x
  rw [ej]
  have hi : (nI j).toInt = (j : Int) := nI_toInt (by omega)
  have hc : (j = 0 ∨ j = 1 ∨ j = 2 ∨ j = 3 ∨ j = 4 ∨ j = 5 ∨ j = 6 ∨ j = 7 ∨ j = 8 ∨ j = 9 ∨ j = 10 ∨ j = 11 ∨ j = 12 ∨ j = 13 ∨ j = 14 ∨ j = 15 ∨ j = 16 ∨ j = 17 ∨ j = 18 ∨ j = 19 ∨ j = 20 ∨ j = 21 ∨ j = 22 ∨ j = 23 ∨ j = 24 ∨ j = 25 ∨ j = 26 ∨ j = 27 ∨ j = 28 ∨ j = 29 ∨ j = 30 ∨ j = 31 ∨ j = 32 ∨ j = 33 ∨ j = 34 ∨ j = 35 ∨ j = 36 ∨ j = 37 ∨ j = 38 ∨ j = 39 ∨ j = 40) ∨ 41 ≤ j := by omega
  rcases hc with hc | hc
  · rcases hc with rfl | rfl | rfl | rfl | rfl | rfl | rfl | rfl | rfl | rfl | rfl | rfl | rfl | rfl | rfl | rfl | rfl | rfl | rfl | rfl | rfl | rfl | rfl | rfl | rfl | rfl | rfl | rfl | rfl | rfl | rfl | rfl | rfl | rfl | rfl | rfl | rfl | rfl | rfl | rfl | rfl
    · exact zt_tableIn C 212 dL_law_33 (by rw [hi]; decide) (by rw [hi]; decide) (by rw [hi]; rfl) (by decide) (zL_0 C hX hbl hbA hL hI hn kk)
    · exact zt_tableIn C 235 dL_law_33 (by rw [hi]; decide) (by rw [hi]; decide) (by rw [hi]; rfl) (by decide) (zL_1 C hX hbl hbA hL hI hn kk)
    · exact zt_tableIn C 268 dL_law_33 (by rw [hi]; decide) (by rw [hi]; decide) (by rw [hi]; rfl) (by decide) (zL_2 C hX hbl hbA hL hI hn kk)
    · exact zt_tableIn C 311 dL_law_33 (by rw [hi]; decide) (by rw [hi]; decide) (by rw [hi]; rfl) (by decide) (zL_3 C hX hbl hbA hL hI hn kk)
    · exact zt_tableIn C 344 dL_law_33 (by rw [hi]; decide) (by rw [hi]; decide) (by rw [hi]; rfl) (by decide) (zL_4 C hX hbl hbA hL hI hn kk)
    · exact zt_tableIn C 377 dL_law_33 (by rw [hi]; decide) (by rw [hi]; decide) (by rw [hi]; rfl) (by decide) (zL_5 C hX hbl hbA hL hI hn kk)
    · exact zt_tableIn C 390 dL_law_33 (by rw [hi]; decide) (by rw [hi]; decide) (by rw [hi]; rfl) (by decide) (zL_6 C hX hbl hbA hL hI hn kk)
    · exact zt_tableIn C 423 dL_law_33 (by rw [hi]; decide) (by rw [hi]; decide) (by rw [hi]; rfl) (by decide) (zL_7 C hX hbl hbA hL hI hn kk)
    · exact zt_tableIn C 466 dL_law_33 (by rw [hi]; decide) (by rw [hi]; decide) (by rw [hi]; rfl) (by decide) (zL_8 C hX hbl hbA hL hI hn kk)
    · exact zt_tableIn C 499 dL_law_33 (by rw [hi]; decide) (by rw [hi]; decide) (by rw [hi]; rfl) (by decide) (zL_9 C hX hbl hbA hL hI hn kk)
    · exact zt_tableIn C 562 dL_law_33 (by rw [hi]; decide) (by rw [hi]; decide) (by rw [hi]; rfl) (by decide) (zL_10 C hX hbl hbA hL hI hn kk)
    · exact zt_tableIn C 585 dL_law_33 (by rw [hi]; decide) (by rw [hi]; decide) (by rw [hi]; rfl) (by decide) (zL_11 C hX hbl hbA hL hI hn kk)
    · exact zt_tableIn C 638 dL_law_33 (by rw [hi]; decide) (by rw [hi]; decide) (by rw [hi]; rfl) (by decide) (zL_12 C hX hbl hbA hL hI hn kk)
    · exact zt_tableIn C 701 dL_law_33 (by rw [hi]; decide) (by rw [hi]; decide) (by rw [hi]; rfl) (by decide) (zL_13 C hX hbl hbA hL hI hn kk)
    · exact zt_tableIn C 734 dL_law_33 (by rw [hi]; decide) (by rw [hi]; decide) (by rw [hi]; rfl) (by decide) (zL_14 C hX hbl hbA hL hI hn kk)
    · exact zt_tableIn C 757 dL_law_33 (by rw [hi]; decide) (by rw [hi]; decide) (by rw [hi]; rfl) (by decide) (zL_15 C hX hbl hbA hL hI hn kk)
    · exact zt_tableIn C 800 dL_law_33 (by rw [hi]; decide) (by rw [hi]; decide) (by rw [hi]; rfl) (by decide) (zL_16 C hX hbl hbA hL hI hn kk)
    · exact zt_tableIn C 823 dL_law_33 (by rw [hi]; decide) (by rw [hi]; decide) (by rw [hi]; rfl) (by decide) (zL_17 C hX hbl hbA hL hI hn kk)
    · exact zt_tableIn C 846 dL_law_33 (by rw [hi]; decide) (by rw [hi]; decide) (by rw [hi]; rfl) (by decide) (zL_18 C hX hbl hbA hL hI hn kk)
    · exact zt_tableIn C 879 dL_law_33 (by rw [hi]; decide) (by rw [hi]; decide) (by rw [hi]; rfl) (by decide) (zL_19 C hX hbl hbA hL hI hn kk)
    · exact zt_tableIn C 922 dL_law_33 (by rw [hi]; decide) (by rw [hi]; decide) (by rw [hi]; rfl) (by decide) (zL_20 C hX hbl hbA hL hI hn kk)
    · exact zt_tableIn C 945 dL_law_33 (by rw [hi]; decide) (by rw [hi]; decide) (by rw [hi]; rfl) (by decide) (zL_21 C hX hbl hbA hL hI hn kk)
    · exact zt_tableIn C 988 dL_law_33 (by rw [hi]; decide) (by rw [hi]; decide) (by rw [hi]; rfl) (by decide) (zL_22 C hX hbl hbA hL hI hn kk)
    · exact zt_tableIn C 1021 dL_law_33 (by rw [hi]; decide) (by rw [hi]; decide) (by rw [hi]; rfl) (by decide) (zL_23 C hX hbl hbA hL hI hn kk)
    · exact zt_tableIn C 1044 dL_law_33 (by rw [hi]; decide) (by rw [hi]; decide) (by rw [hi]; rfl) (by decide) (zL_24 C hX hbl hbA hL hI hn kk)
    · exact zt_tableIn C 1057 dL_law_33 (by rw [hi]; decide) (by rw [hi]; decide) (by rw [hi]; rfl) (by decide) (zL_25 C hX hbl hbA hL hI hn kk)
    · exact zt_tableIn C 1110 dL_law_33 (by rw [hi]; decide) (by rw [hi]; decide) (by rw [hi]; rfl) (by decide) (zL_26 C hX hbl hbA hL hI hn kk)
    · exact zt_tableIn C 1153 dL_law_33 (by rw [hi]; decide) (by rw [hi]; decide) (by rw [hi]; rfl) (by decide) (zL_27 C hX hbl hbA hL hI hn kk)
    · exact zt_tableIn C 1176 dL_law_33 (by rw [hi]; decide) (by rw [hi]; decide) (by rw [hi]; rfl) (by decide) (zL_28 C hX hbl hbA hL hI hn kk)
    · exact zt_tableIn C 1219 dL_law_33 (by rw [hi]; decide) (by rw [hi]; decide) (by rw [hi]; rfl) (by decide) (zL_29 C hX hbl hbA hL hI hn kk)
    · exact zt_tableIn C 1242 dL_law_33 (by rw [hi]; decide) (by rw [hi]; decide) (by rw [hi]; rfl) (by decide) (zL_30 C hX hbl hbA hL hI hn kk)
    · exact zt_tableIn C 1285 dL_law_33 (by rw [hi]; decide) (by rw [hi]; decide) (by rw [hi]; rfl) (by decide) (zL_31 C hX hbl hbA hL hI hn kk)
    · exact zt_tableIn C 1328 dL_law_33 (by rw [hi]; decide) (by rw [hi]; decide) (by rw [hi]; rfl) (by decide) (zL_32 C hX hbl hbA hL hI hn kk)
    · exact zt_tableIn C 1391 dL_law_33 (by rw [hi]; decide) (by rw [hi]; decide) (by rw [hi]; rfl) (by decide) (zL_33 C hX hbl hbA hL hI hn kk)
    · exact zt_tableIn C 1414 dL_law_33 (by rw [hi]; decide) (by rw [hi]; decide) (by rw [hi]; rfl) (by decide) (zL_34 C hX hbl hbA hL hI hn kk)
    · exact zt_tableIn C 1437 dL_law_33 (by rw [hi]; decide) (by rw [hi]; decide) (by rw [hi]; rfl) (by decide) (zL_35 C hX hbl hbA hL hI hn kk)
    · exact zt_tableIn C 1450 dL_law_33 (by rw [hi]; decide) (by rw [hi]; decide) (by rw [hi]; rfl) (by decide) (zL_36 C hX hbl hbA hL hI hn kk)
    · exact zt_tableIn C 1463 dL_law_33 (by rw [hi]; decide) (by rw [hi]; decide) (by rw [hi]; rfl) (by decide) (zL_37 C hX hbl hbA hL hI hn kk)
    · exact zt_tableIn C 1486 dL_law_33 (by rw [hi]; decide) (by rw [hi]; decide) (by rw [hi]; rfl) (by decide) (zL_38 C hX hbl hbA hL hI hn kk)
    · exact zt_tableIn C 1499 dL_law_33 (by rw [hi]; decide) (by rw [hi]; decide) (by rw [hi]; rfl) (by decide) (zL_39 C hX hbl hbA hL hI hn kk)
    · exact zt_tableIn C 1522 dL_law_33 (by rw [hi]; decide) (by rw [hi]; decide) (by rw [hi]; rfl) (by decide) (zL_40 C hX hbl hbA hL hI hn kk)
  · exact zt_tableOut C 1545 dL_law_33 (by rw [hi]; omega) (by decide) (kk M hI)
theorem zL_loop (C : za_C p s m #[Value.ref b] c code 4 RL g D cy) (hX : va_X b L xs s s.heap) (hbl : b < s.heap.size) (hbA : ¬ za_A g b) (hL : L ≤ 3072) (hr : meth.sig.returnType = ret) (hlocks : meth.locks = false) (hG : ∀ q, za_A g q → s.heap.size ≤ q) : ∀ (f n : Nat) (M : za_M), n ≤ 4000 → L ≤ n + f → zI M → zt p l e room_1 s m #[Value.ref b] below meth c 133 2551 (lw_Z below #[Value.ref b] s) g D cy 4 M 18 (zl_lv b g n) [] := by
  have fin : ∀ (n : Nat) (M : za_M), zt p l e room_1 s m #[Value.ref b] below meth c 133 2551 (lw_Z below #[Value.ref b] s) g D cy 4 M 1551 (zl_lv b g n) [] := by
    intro n M
    refine zt_iconst C (v := 1) dL_law_1551 (by decide) ?_
    intro H locs ls hP hS hl
    refine va_forget (fun q hq => hG _ (hS.2.2 q hq)) ?_
    refine W.widen (k := 600000) (n := 7302250) (Nat.le_of_ble_eq_true rfl) (Nat.le_of_ble_eq_true rfl) ?_
    exact lw_ret C.1 C.2.1 hr hlocks dL_law_1552
  intro f
  induction f with
  | zero =>
    intro n M hn hf hI
    refine zt_iload_n C 3 dL_law_18 rfl rfl ?_
    refine zt_aload_n C 0 dL_law_19 rfl rfl ?_
    refine zt_slen C hX hbl hbA dL_law_20 ?_
    refine zt_bipush C (v := nI 6) dL_law_21 (by decide) ?_
    refine zt_isub C dL_law_23 ?_
    refine zt_icmp_gt C 1551 dL_law_24 (by decide) (fun _ => fin n M) (fun q => absurd ?_ q)
    by_cases h6 : 6 ≤ L
    · rw [pk_sub h6]
      exact nI_lt (by omega) (by omega)
    · exact Int32.lt_of_lt_of_le (pk_sneg (by decide) (by omega)) (nI_pos' (by omega))
  | succ f ih =>
    intro n M hn hf hI
    refine zt_iload_n C 3 dL_law_18 rfl rfl ?_
    refine zt_aload_n C 0 dL_law_19 rfl rfl ?_
    refine zt_slen C hX hbl hbA dL_law_20 ?_
    refine zt_bipush C (v := nI 6) dL_law_21 (by decide) ?_
    refine zt_isub C dL_law_23 ?_
    by_cases h : n + 6 ≤ L
    · rw [pk_sub (show 6 ≤ L by omega)]
      refine zt_icmp_gt C 1551 dL_law_24 (by decide) (fun q => absurd q (nI_nlt (by omega) (by omega))) (fun _ => ?_)
      refine zt_aload_n C 0 dL_law_27 rfl rfl ?_
      refine zt_iload_n C 3 dL_law_28 rfl rfl ?_
      refine zt_sld C hX hbl hbA (vp_in_nI (by omega) (by omega)) dL_law_29 ?_
      refine zt_bipush C (v := 63) dL_law_30 (by decide) ?_
      refine zt_iand C dL_law_32 ?_
      refine zL_sw C hX hbl hbA hL hI h (fun M' hI' => ?_) _
      refine zt_iinc C (v := nI (n + 6)) 3 _ dL_law_1545 rfl (by rw [← nI_add]; rfl) (by decide) rfl ?_
      refine zt_goto C 18 dL_law_1548 (by decide) ?_
      refine zt_sub [1, 2, 3, 0] (lv' := zl_lv b g (n + 6)) rfl ?_
      exact ih (n + 6) M' (by omega) (by omega) hI'
    · refine zt_icmp_gt C 1551 dL_law_24 (by decide) (fun _ => fin n M) (fun q => absurd ?_ q)
      by_cases h6 : 6 ≤ L
      · rw [pk_sub h6]
        exact nI_lt (by omega) (by omega)
      · exact Int32.lt_of_lt_of_le (pk_sneg (by decide) (by omega)) (nI_pos' (by omega))
end ZLW

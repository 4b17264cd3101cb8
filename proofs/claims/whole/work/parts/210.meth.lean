/-! X9_colourOfAsh -/
def f_X9_colourOfAsh_b35 (K : Int32 → za_M → Prop) (c1 : Nat) (i1 : Nat) (x2 : Int32) (x3 : Int32) (s0 : Int32) (M : za_M) : Prop :=
  if (M.1 (3, c1, i1) 0) = 1 then (K (x3 + 1) M) else if (M.1 (3, c1, i1) 0) = 2 then (K (x3 * 2) M) else if (M.1 (3, c1, i1) 0) = 3 then (K s0 M) else if (M.1 (3, c1, i1) 0) = 4 then (K ((x3 + 1) + x2) M) else if (M.1 (3, c1, i1) 0) = 5 then (K ((x3 * 2) - (M.1 (3, c1, i1) 1)) M) else if (M.1 (3, c1, i1) 0) = 6 then (K (9 - s0) M) else (K x3 M)
def f_X9_colourOfAsh (c1 : Nat) (i1 : Nat) (x2 : Int32) (M : za_M) (K : Int32 → za_M → Prop) : Prop :=
  vp_in 0 2 ∧ (f_X2_gives 0 (Int32.toNatClampNeg 0) (M.1 (3, c1, i1) 1) (M.1 (3, c1, i1) 0) x2 M (fun r9 M8 => if 5 ≤ x2 then (f_X9_colourOfAsh_b35 K c1 i1 x2 r9 (M8.1 (3, c1, i1) 1) M8) else (f_X9_colourOfAsh_b35 K c1 i1 x2 r9 r9 M8)))
section
variable {p : Program} {l : Launch} {e : Env} {s : State} {m : MethodId} {args : Array Value} {below : List Frame} {meth : Method} {c : Code} {g : za_L → Nat} {D : va_G} {cy : Nat → ClassId} {K : Int32 → za_M → Prop}
set_option maxRecDepth 100000 in
set_option maxHeartbeats 4000000 in
theorem p_X9_colourOfAsh_b35 (hJ : za_J g) (C : za_C p s m args c cX9_colourOfAsh 5 RX9 g D cy) (hr : meth.sig.returnType = (some .int)) (hk : meth.locks = false) {c1 : Nat} (hc1 : c1 < 3) {i1 : Nat} (hi1 : i1 < 5) {x2 : Int32} {x3 : Int32} {s0 : Int32} {M : za_M} (h : f_X9_colourOfAsh_b35 K c1 i1 x2 x3 s0 M) : zt p l e (za_rm 4 135) s m args below meth c 0 0 (MQ below (za_Qi g D cy K) args s 0 0 (za_A g)) g D cy 5 M 35 [(1, .ref (g (3, c1, i1))), (2, .int x2), (3, .int x3)] [.int s0] := by
  unfold f_X9_colourOfAsh_b35 at h
  refine zt_istore C [(4, .int s0), (1, .ref (g (3, c1, i1))), (2, .int x2), (3, .int x3)] dX9_colourOfAsh_35 (by decide) rfl ?_
  refine zt_aload_n C 1 dX9_colourOfAsh_37 rfl rfl ?_
  refine zt_get C (za_mem (j := 3) rfl hc1 hi1) pf_X9_85 (za_E_3 g cy M c1 i1) rfl dX9_colourOfAsh_38 ?_
  by_cases q1 : (M.1 (3, c1, i1) 0) = 1
  · replace h := za_ifp h q1
    refine zt_tableIn C (off := 39) 80 dX9_colourOfAsh_41 (by rw [q1]; decide) (by rw [q1]; decide) (by rw [q1]; decide) (by decide) ?_
    refine zt_iload_n C 3 dX9_colourOfAsh_80 rfl rfl ?_
    refine zt_iconst C (v := 1) dX9_colourOfAsh_81 zk_i1 ?_
    refine zt_iadd C dX9_colourOfAsh_82 ?_
    exact zt_ret C hr hk rfl dX9_colourOfAsh_83 h
  replace h := za_ifn h q1
  by_cases q2 : (M.1 (3, c1, i1) 0) = 2
  · replace h := za_ifp h q2
    refine zt_tableIn C (off := 43) 84 dX9_colourOfAsh_41 (by rw [q2]; decide) (by rw [q2]; decide) (by rw [q2]; decide) (by decide) ?_
    refine zt_iload_n C 3 dX9_colourOfAsh_84 rfl rfl ?_
    refine zt_iconst C (v := 2) dX9_colourOfAsh_85 zk_i2 ?_
    refine zt_imul C dX9_colourOfAsh_86 ?_
    exact zt_ret C hr hk rfl dX9_colourOfAsh_87 h
  replace h := za_ifn h q2
  by_cases q3 : (M.1 (3, c1, i1) 0) = 3
  · replace h := za_ifp h q3
    refine zt_tableIn C (off := 47) 88 dX9_colourOfAsh_41 (by rw [q3]; decide) (by rw [q3]; decide) (by rw [q3]; decide) (by decide) ?_
    refine zt_iload C 0 dX9_colourOfAsh_88 rfl ?_
    exact zt_ret C hr hk rfl dX9_colourOfAsh_90 h
  replace h := za_ifn h q3
  by_cases q4 : (M.1 (3, c1, i1) 0) = 4
  · replace h := za_ifp h q4
    refine zt_tableIn C (off := 50) 91 dX9_colourOfAsh_41 (by rw [q4]; decide) (by rw [q4]; decide) (by rw [q4]; decide) (by decide) ?_
    refine zt_iload_n C 3 dX9_colourOfAsh_91 rfl rfl ?_
    refine zt_iconst C (v := 1) dX9_colourOfAsh_92 zk_i1 ?_
    refine zt_iadd C dX9_colourOfAsh_93 ?_
    refine zt_iload_n C 2 dX9_colourOfAsh_94 rfl rfl ?_
    refine zt_iadd C dX9_colourOfAsh_95 ?_
    exact zt_ret C hr hk rfl dX9_colourOfAsh_96 h
  replace h := za_ifn h q4
  by_cases q5 : (M.1 (3, c1, i1) 0) = 5
  · replace h := za_ifp h q5
    refine zt_tableIn C (off := 56) 97 dX9_colourOfAsh_41 (by rw [q5]; decide) (by rw [q5]; decide) (by rw [q5]; decide) (by decide) ?_
    refine zt_iload_n C 3 dX9_colourOfAsh_97 rfl rfl ?_
    refine zt_iconst C (v := 2) dX9_colourOfAsh_98 zk_i2 ?_
    refine zt_imul C dX9_colourOfAsh_99 ?_
    refine zt_aload_n C 1 dX9_colourOfAsh_100 rfl rfl ?_
    refine zt_get C (za_mem (j := 3) rfl hc1 hi1) pf_X9_88 (za_E_3 g cy M c1 i1) rfl dX9_colourOfAsh_101 ?_
    refine zt_isub C dX9_colourOfAsh_104 ?_
    exact zt_ret C hr hk rfl dX9_colourOfAsh_105 h
  replace h := za_ifn h q5
  by_cases q6 : (M.1 (3, c1, i1) 0) = 6
  · replace h := za_ifp h q6
    refine zt_tableIn C (off := 65) 106 dX9_colourOfAsh_41 (by rw [q6]; decide) (by rw [q6]; decide) (by rw [q6]; decide) (by decide) ?_
    refine zt_bipush C (v := 9) dX9_colourOfAsh_106 zk_b9 ?_
    refine zt_iload C 0 dX9_colourOfAsh_108 rfl ?_
    refine zt_isub C dX9_colourOfAsh_110 ?_
    exact zt_ret C hr hk rfl dX9_colourOfAsh_111 h
  replace h := za_ifn h q6
  have q1' := lv_neT (a := 1) q1 (by decide)
  have q2' := lv_neT (a := 2) q2 (by decide)
  have q3' := lv_neT (a := 3) q3 (by decide)
  have q4' := lv_neT (a := 4) q4 (by decide)
  have q5' := lv_neT (a := 5) q5 (by decide)
  have q6' := lv_neT (a := 6) q6 (by decide)
  refine zt_tableOut C 112 dX9_colourOfAsh_41 (by omega) (by decide) ?_
  refine zt_iload_n C 3 dX9_colourOfAsh_112 rfl rfl ?_
  exact zt_ret C hr hk rfl dX9_colourOfAsh_113 h
set_option maxRecDepth 100000 in
set_option maxHeartbeats 4000000 in
theorem p_X9_colourOfAsh (hJ : za_J g) (C : za_C p s m args c cX9_colourOfAsh 5 RX9 g D cy) (hr : meth.sig.returnType = (some .int)) (hk : meth.locks = false) {c1 : Nat} (hc1 : c1 < 3) {i1 : Nat} (hi1 : i1 < 5) {x2 : Int32} {M : za_M} (h : f_X9_colourOfAsh c1 i1 x2 M K) : zt p l e (za_rm 4 135) s m args below meth c 0 0 (MQ below (za_Qi g D cy K) args s 0 0 (za_A g)) g D cy 5 M 0 [(0, .ref (g (0, 0, 0))), (1, .ref (g (3, c1, i1))), (2, .int x2)] [] := by
  unfold f_X9_colourOfAsh at h
  refine zt_aload_n C 0 dX9_colourOfAsh_0 rfl rfl ?_
  refine zt_get C (za_mem (j := 0) rfl (by decide) (by decide)) pf_X9_10 (za_E_0 g cy M 0 0) rfl dX9_colourOfAsh_1 ?_
  refine zt_get C (za_mem (j := 1) rfl (by decide) (by decide)) pf_X9_153 (za_E_1 g cy M 0 0) rfl dX9_colourOfAsh_4 ?_
  refine zt_iconst C (v := 0) dX9_colourOfAsh_7 zk_i0 ?_
  obtain ⟨g7, h⟩ := h
  refine zt_aald C (za_mem (j := 14) rfl (by decide) (by decide)) (za_E_14 g cy M 0 0) rfl g7 dX9_colourOfAsh_8 ?_
  refine zt_aload_n C 1 dX9_colourOfAsh_9 rfl rfl ?_
  refine zt_get C (za_mem (j := 3) rfl hc1 hi1) pf_X9_88 (za_E_3 g cy M c1 i1) rfl dX9_colourOfAsh_10 ?_
  refine zt_aload_n C 1 dX9_colourOfAsh_13 rfl rfl ?_
  refine zt_get C (za_mem (j := 3) rfl hc1 hi1) pf_X9_85 (za_E_3 g cy M c1 i1) rfl dX9_colourOfAsh_14 ?_
  refine zt_iload_n C 2 dX9_colourOfAsh_17 rfl rfl ?_
  refine zt_cVi C [.int (M.1 (3, c1, i1) 1), .int (M.1 (3, c1, i1) 0), .int x2] (m_X2_gives hJ (by decide) (za_lt g7) h) (za_mem (j := 6) rfl (by decide) (za_lt g7)) (za_E_6 g cy M 0 (Int32.toNatClampNeg 0)) rfl py_X2_gives pv_X9_169 (Nat.le_of_ble_eq_true rfl) ⟨Nat.le_of_ble_eq_true rfl, Nat.le_of_ble_eq_true rfl⟩ ⟨Nat.zero_le _, Nat.zero_le _⟩ dX9_colourOfAsh_18 rfl (fun r9 M8 h => ?_)
  refine zt_istore_n C [(3, .int r9), (0, .ref (g (0, 0, 0))), (1, .ref (g (3, c1, i1))), (2, .int x2)] dX9_colourOfAsh_21 rfl (by decide) rfl ?_
  refine zt_iload_n C 3 dX9_colourOfAsh_22 rfl rfl ?_
  refine zt_iconst C (v := 5) dX9_colourOfAsh_23 zk_i5 ?_
  refine zt_icmp_ge C 31 dX9_colourOfAsh_24 (by decide) (fun q10 => ?_) (fun q10 => ?_)
  · replace h := za_ifp h q10
    refine zt_aload_n C 2 dX9_colourOfAsh_31 rfl rfl ?_
    refine zt_get C (za_mem (j := 3) rfl hc1 hi1) pf_X9_88 (za_E_3 g cy M8 c1 i1) rfl dX9_colourOfAsh_32 ?_
    refine zt_sub [2, 3, 0] (lv' := [(1, .ref (g (3, c1, i1))), (2, .int x2), (3, .int r9)]) rfl ?_
    exact p_X9_colourOfAsh_b35 hJ C hr hk hc1 hi1 h
  · replace h := za_ifn h q10
    refine zt_iload_n C 0 dX9_colourOfAsh_27 rfl rfl ?_
    refine zt_goto C 35 dX9_colourOfAsh_28 (by decide) ?_
    refine zt_sub [2, 3, 0] (lv' := [(1, .ref (g (3, c1, i1))), (2, .int x2), (3, .int r9)]) rfl ?_
    exact p_X9_colourOfAsh_b35 hJ C hr hk hc1 hi1 h
end
theorem m_X9_colourOfAsh {l : Launch} {g : za_L → Nat} {D : va_G} {cy : Nat → ClassId} (hJ : za_J g)  {c1 : Nat} (hc1 : c1 < 3) {i1 : Nat} (hi1 : i1 < 5) {x2 : Int32} {M : za_M} {K : Int32 → za_M → Prop} (h : f_X9_colourOfAsh c1 i1 x2 M K) : za_Mi l g D cy yX9_colourOfAsh cX9_colourOfAsh 5 (some .int) 4 135 [.ref (g (0, 0, 0)), .ref (g (3, c1, i1)), .int x2] M K := za_openi hJ (by decide) (Nat.le_of_ble_eq_true rfl) (fun p e s m args below meth c C hr hk => p_X9_colourOfAsh hJ C hr hk hc1 hi1 h)
/-! X9_restByTen -/
def f_X9_restByTen (x0 : Int32) (M : za_M) (K : Int32 → za_M → Prop) : Prop :=
  za_let (x0 - x0 / 10 * 10) fun y1 => if 0 ≤ y1 then (K y1 M) else (K (y1 + 10) M)
section
variable {p : Program} {l : Launch} {e : Env} {s : State} {m : MethodId} {args : Array Value} {below : List Frame} {meth : Method} {c : Code} {g : za_L → Nat} {D : va_G} {cy : Nat → ClassId} {K : Int32 → za_M → Prop}
set_option maxRecDepth 100000 in
set_option maxHeartbeats 4000000 in
theorem p_X9_restByTen (hJ : za_J g) (C : za_C p s m args c cX9_restByTen 2 RX9 g D cy) (hr : meth.sig.returnType = (some .int)) (hk : meth.locks = false) {x0 : Int32} {M : za_M} (h : f_X9_restByTen x0 M K) : zt p l e (za_rm 1 64) s m args below meth c 0 0 (MQ below (za_Qi g D cy K) args s 0 0 (za_A g)) g D cy 2 M 0 [(0, .int x0)] [] := by
  unfold f_X9_restByTen at h
  refine zt_iload_n C 0 dX9_restByTen_0 rfl rfl ?_
  refine zt_bipush C (v := 10) dX9_restByTen_1 zk_b10 ?_
  refine zt_irem C dX9_restByTen_3 (by decide) ?_
  refine zt_topi (fun y1 e2 => ?_)
  replace h := za_use h e2
  refine zt_istore_n C [(1, .int y1), (0, .int x0)] dX9_restByTen_4 rfl (by decide) rfl ?_
  refine zt_iload_n C 0 dX9_restByTen_5 rfl rfl ?_
  refine zt_if_ge C 16 dX9_restByTen_6 (by decide) (fun q3 => ?_) (fun q3 => ?_)
  · replace h := za_ifp h q3
    refine zt_iload_n C 0 dX9_restByTen_16 rfl rfl ?_
    exact zt_ret C hr hk rfl dX9_restByTen_17 h
  · replace h := za_ifn h q3
    refine zt_iload_n C 0 dX9_restByTen_9 rfl rfl ?_
    refine zt_bipush C (v := 10) dX9_restByTen_10 zk_b10 ?_
    refine zt_iadd C dX9_restByTen_12 ?_
    refine zt_goto C 17 dX9_restByTen_13 (by decide) ?_
    exact zt_ret C hr hk rfl dX9_restByTen_17 h
end
theorem m_X9_restByTen {l : Launch} {g : za_L → Nat} {D : va_G} {cy : Nat → ClassId} (hJ : za_J g)  {x0 : Int32} {M : za_M} {K : Int32 → za_M → Prop} (h : f_X9_restByTen x0 M K) : za_Mi l g D cy yX9_restByTen cX9_restByTen 2 (some .int) 1 64 [.int x0] M K := za_openi hJ (by decide) (Nat.le_of_ble_eq_true rfl) (fun p e s m args below meth c C hr hk => p_X9_restByTen hJ C hr hk  h)
/-! X9_colourOfMix -/
def f_X9_colourOfMix_b68 (K : Int32 → za_M → Prop) (L8 : Int32 → Int32 → Int32 → za_M → Prop) (x2 : Int32) (x3 : Int32) (x4 : Int32) (x5 : Int32) (x6 : Int32) (i7 : Nat) (M : za_M) : Prop :=
  f_X9_colourOfAsh 0 i7 x2 M (fun r2 M1 => za_let (x3 + (x6 * r2)) fun y3 => L8 y3 x4 (x5 + 1) M1)
def f_X9_colourOfMix_b8 (K : Int32 → za_M → Prop) (x2 : Int32) (L8 : Int32 → Int32 → Int32 → za_M → Prop) (x3 : Int32) (x4 : Int32) (x5 : Int32) (M : za_M) : Prop :=
  if (M.1 (2, 0, 0) 3) ≤ x5 then (f_X9_restByTen x3 M (fun r7 M6 => K r7 M6)) else (za_let (x4 - x4 / 10 * 10) fun y8 => za_let (x4 / 10) fun y10 => vp_in x5 5 ∧ (if y8 ≤ 0 then (f_X9_colourOfMix_b68 K L8 x2 x3 y10 x5 y8 x5.toNatClampNeg M) else (f_X0_isForbiddenAt 0 x5.toNatClampNeg x2 M (fun r15 M14 => if r15 = 0 then (f_X9_colourOfMix_b68 K L8 x2 x3 y10 x5 y8 x5.toNatClampNeg M14) else (K (-1) M14)))))
def f_X9_colourOfMix (x1 : Int32) (x2 : Int32) (M : za_M) (K : Int32 → za_M → Prop) : Prop :=
  ∃ n, za_lp3 (f_X9_colourOfMix_b8 K x2) n 0 x1 0 M
section
variable {p : Program} {l : Launch} {e : Env} {s : State} {m : MethodId} {args : Array Value} {below : List Frame} {meth : Method} {c : Code} {g : za_L → Nat} {D : va_G} {cy : Nat → ClassId} {K : Int32 → za_M → Prop}
set_option maxRecDepth 100000 in
set_option maxHeartbeats 4000000 in
theorem p_X9_colourOfMix_b68 (hJ : za_J g) (C : za_C p s m args c cX9_colourOfMix 8 RX9 g D cy) (hr : meth.sig.returnType = (some .int)) (hk : meth.locks = false) {x2 : Int32} {x3 : Int32} {x4 : Int32} {x5 : Int32} {x6 : Int32} {i7 : Nat} (hi7 : i7 < 5) {L8 : Int32 → Int32 → Int32 → za_M → Prop} (hL8 : ∀ (x3 : Int32) (x4 : Int32) (x5 : Int32) (M : za_M), L8 x3 x4 x5 M → zt p l e (za_rm 5 159) s m args below meth c 0 0 (MQ below (za_Qi g D cy K) args s 0 0 (za_A g)) g D cy 8 M 8 [(0, .ref (g (0, 0, 0))), (2, .int x2), (3, .int x3), (4, .int x4), (5, .int x5)] []) {M : za_M} (h : f_X9_colourOfMix_b68 K L8 x2 x3 x4 x5 x6 i7 M) : zt p l e (za_rm 5 159) s m args below meth c 0 0 (MQ below (za_Qi g D cy K) args s 0 0 (za_A g)) g D cy 8 M 68 [(0, .ref (g (0, 0, 0))), (2, .int x2), (3, .int x3), (4, .int x4), (5, .int x5), (6, .int x6), (7, .ref (g (3, 0, i7)))] [] := by
  unfold f_X9_colourOfMix_b68 at h
  refine zt_iload_n C 2 dX9_colourOfMix_68 rfl rfl ?_
  refine zt_iload C 5 dX9_colourOfMix_69 rfl ?_
  refine zt_aload_n C 0 dX9_colourOfMix_71 rfl rfl ?_
  refine zt_aload C 6 dX9_colourOfMix_72 rfl ?_
  refine zt_iload_n C 1 dX9_colourOfMix_74 rfl rfl ?_
  refine zt_cVi C [.ref (g (3, 0, i7)), .int x2] (m_X9_colourOfAsh hJ (by decide) hi7 h) (za_mem (j := 0) rfl (by decide) (by decide)) (za_E_0 g cy M 0 0) rfl py_X9_colourOfAsh pv_X9_356 (Nat.le_of_ble_eq_true rfl) ⟨Nat.le_of_ble_eq_true rfl, Nat.le_of_ble_eq_true rfl⟩ ⟨Nat.zero_le _, Nat.zero_le _⟩ dX9_colourOfMix_75 rfl (fun r2 M1 h => ?_)
  refine zt_imul C dX9_colourOfMix_78 ?_
  refine zt_iadd C dX9_colourOfMix_79 ?_
  refine zt_topi (fun y3 e4 => ?_)
  replace h := za_use h e4
  refine zt_istore_n C [(3, .int y3), (0, .ref (g (0, 0, 0))), (2, .int x2), (4, .int x4), (5, .int x5), (6, .int x6), (7, .ref (g (3, 0, i7)))] dX9_colourOfMix_80 rfl (by decide) rfl ?_
  refine zt_iinc C (v := x5 + 1) 4 [(5, .int (x5 + 1)), (3, .int y3), (0, .ref (g (0, 0, 0))), (2, .int x2), (4, .int x4), (6, .int x6), (7, .ref (g (3, 0, i7)))] dX9_colourOfMix_81 rfl (zk_n1 _) (by decide) rfl ?_
  refine zt_goto C 8 dX9_colourOfMix_84 (by decide) ?_
  refine zt_sub [2, 3, 1, 4, 0] (lv' := [(0, .ref (g (0, 0, 0))), (2, .int x2), (3, .int y3), (4, .int x4), (5, .int (x5 + 1))]) rfl ?_
  exact hL8 _ _ _ _ h
set_option maxRecDepth 100000 in
set_option maxHeartbeats 4000000 in
theorem p_X9_colourOfMix_b8 (hJ : za_J g) (C : za_C p s m args c cX9_colourOfMix 8 RX9 g D cy) (hr : meth.sig.returnType = (some .int)) (hk : meth.locks = false) {x2 : Int32} {L8 : Int32 → Int32 → Int32 → za_M → Prop} (hL8 : ∀ (x3 : Int32) (x4 : Int32) (x5 : Int32) (M : za_M), L8 x3 x4 x5 M → zt p l e (za_rm 5 159) s m args below meth c 0 0 (MQ below (za_Qi g D cy K) args s 0 0 (za_A g)) g D cy 8 M 8 [(0, .ref (g (0, 0, 0))), (2, .int x2), (3, .int x3), (4, .int x4), (5, .int x5)] []) : ∀ (x3 : Int32) (x4 : Int32) (x5 : Int32) (M : za_M), f_X9_colourOfMix_b8 K x2 L8 x3 x4 x5 M → zt p l e (za_rm 5 159) s m args below meth c 0 0 (MQ below (za_Qi g D cy K) args s 0 0 (za_A g)) g D cy 8 M 8 [(0, .ref (g (0, 0, 0))), (2, .int x2), (3, .int x3), (4, .int x4), (5, .int x5)] [] := by
  intro x3 x4 x5 M h
  unfold f_X9_colourOfMix_b8 at h
  refine zt_iload C 4 dX9_colourOfMix_8 rfl ?_
  refine zt_aload_n C 0 dX9_colourOfMix_10 rfl rfl ?_
  refine zt_get C (za_mem (j := 0) rfl (by decide) (by decide)) pf_X9_10 (za_E_0 g cy M 0 0) rfl dX9_colourOfMix_11 ?_
  refine zt_get C (za_mem (j := 1) rfl (by decide) (by decide)) pf_X9_57 (za_E_1 g cy M 0 0) rfl dX9_colourOfMix_14 ?_
  refine zt_get C (za_mem (j := 2) rfl (by decide) (by decide)) pf_X9_68 (za_E_2 g cy M 0 0) rfl dX9_colourOfMix_17 ?_
  refine zt_icmp_ge C 87 dX9_colourOfMix_20 (by decide) (fun q5 => ?_) (fun q5 => ?_)
  · replace h := za_ifp h q5
    refine zt_iload_n C 2 dX9_colourOfMix_87 rfl rfl ?_
    refine zt_cSi C [.int x3] (m_X9_restByTen hJ  h) py_X9_restByTen ps_X9_360 (Nat.le_of_ble_eq_true rfl) ⟨Nat.le_of_ble_eq_true rfl, Nat.le_of_ble_eq_true rfl⟩ ⟨Nat.zero_le _, Nat.zero_le _⟩ dX9_colourOfMix_88 rfl (fun r7 M6 h => ?_)
    exact zt_ret C hr hk rfl dX9_colourOfMix_91 h
  · replace h := za_ifn h q5
    refine zt_iload C 3 dX9_colourOfMix_23 rfl ?_
    refine zt_bipush C (v := 10) dX9_colourOfMix_25 zk_b10 ?_
    refine zt_irem C dX9_colourOfMix_27 (by decide) ?_
    refine zt_topi (fun y8 e9 => ?_)
    replace h := za_use h e9
    refine zt_istore C [(6, .int y8), (0, .ref (g (0, 0, 0))), (2, .int x2), (3, .int x3), (4, .int x4), (5, .int x5)] dX9_colourOfMix_28 (by decide) rfl ?_
    refine zt_iload C 4 dX9_colourOfMix_30 rfl ?_
    refine zt_bipush C (v := 10) dX9_colourOfMix_32 zk_b10 ?_
    refine zt_idiv C dX9_colourOfMix_34 (by decide) ?_
    refine zt_topi (fun y10 e11 => ?_)
    replace h := za_use h e11
    refine zt_istore C [(4, .int y10), (6, .int y8), (0, .ref (g (0, 0, 0))), (2, .int x2), (3, .int x3), (5, .int x5)] dX9_colourOfMix_35 (by decide) rfl ?_
    refine zt_aload_n C 2 dX9_colourOfMix_37 rfl rfl ?_
    refine zt_get C (za_mem (j := 0) rfl (by decide) (by decide)) pf_X9_10 (za_E_0 g cy M 0 0) rfl dX9_colourOfMix_38 ?_
    refine zt_get C (za_mem (j := 1) rfl (by decide) (by decide)) pf_X9_57 (za_E_1 g cy M 0 0) rfl dX9_colourOfMix_41 ?_
    refine zt_get C (za_mem (j := 2) rfl (by decide) (by decide)) pf_X9_72 (za_E_2 g cy M 0 0) rfl dX9_colourOfMix_44 ?_
    refine zt_iload C 5 dX9_colourOfMix_47 rfl ?_
    obtain ⟨g12, h⟩ := h
    refine zt_aald C (za_mem (j := 10) rfl (by decide) (by decide)) (za_E_10 g cy M 0 0) rfl g12 dX9_colourOfMix_49 ?_
    refine zt_astore C [(7, .ref (g (3, 0, x5.toNatClampNeg))), (4, .int y10), (6, .int y8), (0, .ref (g (0, 0, 0))), (2, .int x2), (3, .int x3), (5, .int x5)] dX9_colourOfMix_50 (by decide) rfl ?_
    refine zt_iload C 2 dX9_colourOfMix_52 rfl ?_
    refine zt_if_le C 68 dX9_colourOfMix_54 (by decide) (fun q13 => ?_) (fun q13 => ?_)
    · replace h := za_ifp h q13
      refine zt_sub [3, 4, 5, 1, 6, 2, 0] (lv' := [(0, .ref (g (0, 0, 0))), (2, .int x2), (3, .int x3), (4, .int y10), (5, .int x5), (6, .int y8), (7, .ref (g (3, 0, x5.toNatClampNeg)))]) rfl ?_
      exact p_X9_colourOfMix_b68 hJ C hr hk (za_lt g12) hL8 h
    · replace h := za_ifn h q13
      refine zt_aload C 0 dX9_colourOfMix_57 rfl ?_
      refine zt_iload_n C 4 dX9_colourOfMix_59 rfl rfl ?_
      refine zt_cVi C [.int x2] (m_X0_isForbiddenAt hJ (by decide) (za_lt g12) h) (za_mem (j := 3) rfl (by decide) (za_lt g12)) (za_E_3 g cy M 0 x5.toNatClampNeg) rfl py_X0_isForbiddenAt pv_X9_353 (Nat.le_of_ble_eq_true rfl) ⟨Nat.le_of_ble_eq_true rfl, Nat.le_of_ble_eq_true rfl⟩ ⟨Nat.zero_le _, Nat.zero_le _⟩ dX9_colourOfMix_60 rfl (fun r15 M14 h => ?_)
      refine zt_if_eq C 68 dX9_colourOfMix_63 (by decide) (fun q16 => ?_) (fun q16 => ?_)
      · replace h := za_ifp h q16
        refine zt_sub [3, 4, 5, 1, 6, 2, 0] (lv' := [(0, .ref (g (0, 0, 0))), (2, .int x2), (3, .int x3), (4, .int y10), (5, .int x5), (6, .int y8), (7, .ref (g (3, 0, x5.toNatClampNeg)))]) rfl ?_
        exact p_X9_colourOfMix_b68 hJ C hr hk (za_lt g12) hL8 h
      · replace h := za_ifn h q16
        refine zt_iconst C (v := (-1)) dX9_colourOfMix_66 zk_im1 ?_
        exact zt_ret C hr hk rfl dX9_colourOfMix_67 h
theorem p_X9_colourOfMix_b8_in (hJ : za_J g) (C : za_C p s m args c cX9_colourOfMix 8 RX9 g D cy) (hr : meth.sig.returnType = (some .int)) (hk : meth.locks = false) {x2 : Int32} {n : Nat} {x3 : Int32} {x4 : Int32} {x5 : Int32} {M : za_M} (h : za_lp3 (f_X9_colourOfMix_b8 K x2) n x3 x4 x5 M) : zt p l e (za_rm 5 159) s m args below meth c 0 0 (MQ below (za_Qi g D cy K) args s 0 0 (za_A g)) g D cy 8 M 8 [(0, .ref (g (0, 0, 0))), (2, .int x2), (3, .int x3), (4, .int x4), (5, .int x5)] [] := za_lp3_run (Z := fun x3 x4 x5 M => zt p l e (za_rm 5 159) s m args below meth c 0 0 (MQ below (za_Qi g D cy K) args s 0 0 (za_A g)) g D cy 8 M 8 [(0, .ref (g (0, 0, 0))), (2, .int x2), (3, .int x3), (4, .int x4), (5, .int x5)] []) (fun L hL => p_X9_colourOfMix_b8 hJ C hr hk  hL) n x3 x4 x5 M h
set_option maxRecDepth 100000 in
set_option maxHeartbeats 4000000 in
theorem p_X9_colourOfMix (hJ : za_J g) (C : za_C p s m args c cX9_colourOfMix 8 RX9 g D cy) (hr : meth.sig.returnType = (some .int)) (hk : meth.locks = false) {x1 : Int32} {x2 : Int32} {M : za_M} (h : f_X9_colourOfMix x1 x2 M K) : zt p l e (za_rm 5 159) s m args below meth c 0 0 (MQ below (za_Qi g D cy K) args s 0 0 (za_A g)) g D cy 8 M 0 [(0, .ref (g (0, 0, 0))), (1, .int x1), (2, .int x2)] [] := by
  unfold f_X9_colourOfMix at h
  refine zt_iconst C (v := 0) dX9_colourOfMix_0 zk_i0 ?_
  refine zt_istore_n C [(3, .int 0), (0, .ref (g (0, 0, 0))), (1, .int x1), (2, .int x2)] dX9_colourOfMix_1 rfl (by decide) rfl ?_
  refine zt_iload_n C 2 dX9_colourOfMix_2 rfl rfl ?_
  refine zt_istore C [(4, .int x1), (3, .int 0), (0, .ref (g (0, 0, 0))), (1, .int x1), (2, .int x2)] dX9_colourOfMix_3 (by decide) rfl ?_
  refine zt_iconst C (v := 0) dX9_colourOfMix_5 zk_i0 ?_
  refine zt_istore C [(5, .int 0), (4, .int x1), (3, .int 0), (0, .ref (g (0, 0, 0))), (1, .int x1), (2, .int x2)] dX9_colourOfMix_6 (by decide) rfl ?_
  refine zt_sub [3, 5, 2, 1, 0] (lv' := [(0, .ref (g (0, 0, 0))), (2, .int x2), (3, .int 0), (4, .int x1), (5, .int 0)]) rfl ?_
  obtain ⟨n, h⟩ := h
  exact p_X9_colourOfMix_b8_in hJ C hr hk  h
end
theorem m_X9_colourOfMix {l : Launch} {g : za_L → Nat} {D : va_G} {cy : Nat → ClassId} (hJ : za_J g)  {x1 : Int32} {x2 : Int32} {M : za_M} {K : Int32 → za_M → Prop} (h : f_X9_colourOfMix x1 x2 M K) : za_Mi l g D cy yX9_colourOfMix cX9_colourOfMix 8 (some .int) 5 159 [.ref (g (0, 0, 0)), .int x1, .int x2] M K := za_openi hJ (by decide) (Nat.le_of_ble_eq_true rfl) (fun p e s m args below meth c C hr hk => p_X9_colourOfMix hJ C hr hk  h)
/-! X9_fire -/
def f_X9_fire (x1 : Int32) (x2 : Int32) (x3 : Int32) (M : za_M) (K : Int32 → za_M → Prop) : Prop :=
  f_X1_hasPotter 0 x1 M (fun r2 M1 => if r2 = 0 then (f_X9_fail 1 M1 (fun r5 M4 => K r5 M4)) else (f_X9_isMix x2 M1 (fun r7 M6 => if r7 = 0 then (f_X9_fail 1 M6 (fun r10 M9 => K r10 M9)) else (f_X9_isHeat x3 M6 (fun r12 M11 => if r12 = 0 then (f_X9_fail 1 M11 (fun r31 M30 => K r31 M30)) else (if x2 = 0 then (f_X9_fail 2 M11 (fun r29 M28 => K r29 M28)) else (vp_in x1 4 ∧ (f_X4_has 0 x1.toNatClampNeg x2 M11 (fun r17 M16 => if r17 = 0 then (f_X9_fail 3 M16 (fun r27 M26 => K r27 M26)) else (f_X9_colourOfMix x2 x3 M16 (fun r20 M19 => if r20 = (-1) then (f_X9_fail 5 M19 (fun r25 M24 => K r25 M24)) else (f_X4_burn 0 x1.toNatClampNeg x2 M19 (fun M22 => K r20 M22)))))))))))))
section
variable {p : Program} {l : Launch} {e : Env} {s : State} {m : MethodId} {args : Array Value} {below : List Frame} {meth : Method} {c : Code} {g : za_L → Nat} {D : va_G} {cy : Nat → ClassId} {K : Int32 → za_M → Prop}
set_option maxRecDepth 100000 in
set_option maxHeartbeats 4000000 in
theorem p_X9_fire (hJ : za_J g) (C : za_C p s m args c cX9_fire 7 RX9 g D cy) (hr : meth.sig.returnType = (some .int)) (hk : meth.locks = false) {x1 : Int32} {x2 : Int32} {x3 : Int32} {M : za_M} (h : f_X9_fire x1 x2 x3 M K) : zt p l e (za_rm 6 186) s m args below meth c 0 0 (MQ below (za_Qi g D cy K) args s 0 0 (za_A g)) g D cy 7 M 0 [(0, .ref (g (0, 0, 0))), (1, .int x1), (2, .int x2), (3, .int x3)] [] := by
  unfold f_X9_fire at h
  refine zt_aload_n C 0 dX9_fire_0 rfl rfl ?_
  refine zt_get C (za_mem (j := 0) rfl (by decide) (by decide)) pf_X9_10 (za_E_0 g cy M 0 0) rfl dX9_fire_1 ?_
  refine zt_get C (za_mem (j := 1) rfl (by decide) (by decide)) pf_X9_57 (za_E_1 g cy M 0 0) rfl dX9_fire_4 ?_
  refine zt_astore C [(4, .ref (g (2, 0, 0))), (0, .ref (g (0, 0, 0))), (1, .int x1), (2, .int x2), (3, .int x3)] dX9_fire_7 (by decide) rfl ?_
  refine zt_aload C 0 dX9_fire_9 rfl ?_
  refine zt_iload_n C 2 dX9_fire_11 rfl rfl ?_
  refine zt_cVi C [.int x1] (m_X1_hasPotter hJ (by decide) h) (za_mem (j := 2) rfl (by decide) (by decide)) (za_E_2 g cy M 0 0) rfl py_X1_hasPotter pv_X9_119 (Nat.le_of_ble_eq_true rfl) ⟨Nat.le_of_ble_eq_true rfl, Nat.le_of_ble_eq_true rfl⟩ ⟨Nat.zero_le _, Nat.zero_le _⟩ dX9_fire_12 rfl (fun r2 M1 h => ?_)
  refine zt_if_eq C 33 dX9_fire_15 (by decide) (fun q3 => ?_) (fun q3 => ?_)
  · replace h := za_ifp h q3
    refine zt_aload_n C 1 dX9_fire_33 rfl rfl ?_
    refine zt_iconst C (v := 1) dX9_fire_34 zk_i1 ?_
    refine zt_cVi C [.int 1] (m_X9_fail hJ  h) (za_mem (j := 0) rfl (by decide) (by decide)) (za_E_0 g cy M1 0 0) rfl py_X9_fail pv_X9_64 (Nat.le_of_ble_eq_true rfl) ⟨Nat.le_of_ble_eq_true rfl, Nat.le_of_ble_eq_true rfl⟩ ⟨Nat.zero_le _, Nat.zero_le _⟩ dX9_fire_35 rfl (fun r5 M4 h => ?_)
    exact zt_ret C hr hk rfl dX9_fire_38 h
  · replace h := za_ifn h q3
    refine zt_aload_n C 1 dX9_fire_18 rfl rfl ?_
    refine zt_iload_n C 3 dX9_fire_19 rfl rfl ?_
    refine zt_cVi C [.int x2] (m_X9_isMix hJ  h) (za_mem (j := 0) rfl (by decide) (by decide)) (za_E_0 g cy M1 0 0) rfl py_X9_isMix pv_X9_215 (Nat.le_of_ble_eq_true rfl) ⟨Nat.le_of_ble_eq_true rfl, Nat.le_of_ble_eq_true rfl⟩ ⟨Nat.zero_le _, Nat.zero_le _⟩ dX9_fire_20 rfl (fun r7 M6 h => ?_)
    refine zt_if_eq C 33 dX9_fire_23 (by decide) (fun q8 => ?_) (fun q8 => ?_)
    · replace h := za_ifp h q8
      refine zt_aload_n C 1 dX9_fire_33 rfl rfl ?_
      refine zt_iconst C (v := 1) dX9_fire_34 zk_i1 ?_
      refine zt_cVi C [.int 1] (m_X9_fail hJ  h) (za_mem (j := 0) rfl (by decide) (by decide)) (za_E_0 g cy M6 0 0) rfl py_X9_fail pv_X9_64 (Nat.le_of_ble_eq_true rfl) ⟨Nat.le_of_ble_eq_true rfl, Nat.le_of_ble_eq_true rfl⟩ ⟨Nat.zero_le _, Nat.zero_le _⟩ dX9_fire_35 rfl (fun r10 M9 h => ?_)
      exact zt_ret C hr hk rfl dX9_fire_38 h
    · replace h := za_ifn h q8
      refine zt_iload_n C 4 dX9_fire_26 rfl rfl ?_
      refine zt_cSi C [.int x3] (m_X9_isHeat hJ  h) py_X9_isHeat ps_X9_218 (Nat.le_of_ble_eq_true rfl) ⟨Nat.le_of_ble_eq_true rfl, Nat.le_of_ble_eq_true rfl⟩ ⟨Nat.zero_le _, Nat.zero_le _⟩ dX9_fire_27 rfl (fun r12 M11 h => ?_)
      refine zt_if_ne C 39 dX9_fire_30 (by decide) (fun q13 => ?_) (fun q13 => ?_)
      · replace h := za_ifn h q13
        refine zt_iload_n C 3 dX9_fire_39 rfl rfl ?_
        refine zt_if_ne C 49 dX9_fire_40 (by decide) (fun q14 => ?_) (fun q14 => ?_)
        · replace h := za_ifn h q14
          refine zt_aload C 0 dX9_fire_49 rfl ?_
          refine zt_get C (za_mem (j := 2) rfl (by decide) (by decide)) pf_X9_111 (za_E_2 g cy M11 0 0) rfl dX9_fire_51 ?_
          refine zt_iload_n C 2 dX9_fire_54 rfl rfl ?_
          obtain ⟨g15, h⟩ := h
          refine zt_aald C (za_mem (j := 11) rfl (by decide) (by decide)) (za_E_11 g cy M11 0 0) rfl g15 dX9_fire_55 ?_
          refine zt_astore C [(5, .ref (g (4, 0, x1.toNatClampNeg))), (4, .ref (g (2, 0, 0))), (0, .ref (g (0, 0, 0))), (1, .int x1), (2, .int x2), (3, .int x3)] dX9_fire_56 (by decide) rfl ?_
          refine zt_aload C 0 dX9_fire_58 rfl ?_
          refine zt_iload_n C 4 dX9_fire_60 rfl rfl ?_
          refine zt_cVi C [.int x2] (m_X4_has hJ (by decide) (za_lt g15) h) (za_mem (j := 4) rfl (by decide) (za_lt g15)) (za_E_4 g cy M11 0 x1.toNatClampNeg) rfl py_X4_has pv_X9_221 (Nat.le_of_ble_eq_true rfl) ⟨Nat.le_of_ble_eq_true rfl, Nat.le_of_ble_eq_true rfl⟩ ⟨Nat.zero_le _, Nat.zero_le _⟩ dX9_fire_61 rfl (fun r17 M16 h => ?_)
          refine zt_if_ne C 73 dX9_fire_64 (by decide) (fun q18 => ?_) (fun q18 => ?_)
          · replace h := za_ifn h q18
            refine zt_aload_n C 2 dX9_fire_73 rfl rfl ?_
            refine zt_iload_n C 4 dX9_fire_74 rfl rfl ?_
            refine zt_iload_n C 5 dX9_fire_75 rfl rfl ?_
            refine zt_cVi C [.int x2, .int x3] (m_X9_colourOfMix hJ  h) (za_mem (j := 0) rfl (by decide) (by decide)) (za_E_0 g cy M16 0 0) rfl py_X9_colourOfMix pv_X9_224 (Nat.le_of_ble_eq_true rfl) ⟨Nat.le_of_ble_eq_true rfl, Nat.le_of_ble_eq_true rfl⟩ ⟨Nat.zero_le _, Nat.zero_le _⟩ dX9_fire_76 rfl (fun r20 M19 h => ?_)
            refine zt_istore C [(6, .int r20), (5, .ref (g (4, 0, x1.toNatClampNeg))), (4, .ref (g (2, 0, 0))), (0, .ref (g (0, 0, 0))), (1, .int x1), (2, .int x2), (3, .int x3)] dX9_fire_79 (by decide) rfl ?_
            refine zt_iload C 0 dX9_fire_81 rfl ?_
            refine zt_iconst C (v := (-1)) dX9_fire_83 zk_im1 ?_
            refine zt_icmp_ne C 93 dX9_fire_84 (by decide) (fun q21 => ?_) (fun q21 => ?_)
            · replace h := za_ifn h q21
              refine zt_aload C 1 dX9_fire_93 rfl ?_
              refine zt_iload_n C 5 dX9_fire_95 rfl rfl ?_
              refine zt_cVv C [.int x2] (m_X4_burn hJ (by decide) (za_lt g15) h) (za_mem (j := 4) rfl (by decide) (za_lt g15)) (za_E_4 g cy M19 0 x1.toNatClampNeg) rfl py_X4_burn pv_X9_228 (Nat.le_of_ble_eq_true rfl) ⟨Nat.le_of_ble_eq_true rfl, Nat.le_of_ble_eq_true rfl⟩ ⟨Nat.zero_le _, Nat.zero_le _⟩ dX9_fire_96 rfl (fun M22 h => ?_)
              refine zt_iload C 0 dX9_fire_99 rfl ?_
              exact zt_ret C hr hk rfl dX9_fire_101 h
            · replace h := za_ifp h q21
              refine zt_aload_n C 3 dX9_fire_87 rfl rfl ?_
              refine zt_iconst C (v := 5) dX9_fire_88 zk_i5 ?_
              refine zt_cVi C [.int 5] (m_X9_fail hJ  h) (za_mem (j := 0) rfl (by decide) (by decide)) (za_E_0 g cy M19 0 0) rfl py_X9_fail pv_X9_64 (Nat.le_of_ble_eq_true rfl) ⟨Nat.le_of_ble_eq_true rfl, Nat.le_of_ble_eq_true rfl⟩ ⟨Nat.zero_le _, Nat.zero_le _⟩ dX9_fire_89 rfl (fun r25 M24 h => ?_)
              exact zt_ret C hr hk rfl dX9_fire_92 h
          · replace h := za_ifp h q18
            refine zt_aload_n C 2 dX9_fire_67 rfl rfl ?_
            refine zt_iconst C (v := 3) dX9_fire_68 zk_i3 ?_
            refine zt_cVi C [.int 3] (m_X9_fail hJ  h) (za_mem (j := 0) rfl (by decide) (by decide)) (za_E_0 g cy M16 0 0) rfl py_X9_fail pv_X9_64 (Nat.le_of_ble_eq_true rfl) ⟨Nat.le_of_ble_eq_true rfl, Nat.le_of_ble_eq_true rfl⟩ ⟨Nat.zero_le _, Nat.zero_le _⟩ dX9_fire_69 rfl (fun r27 M26 h => ?_)
            exact zt_ret C hr hk rfl dX9_fire_72 h
        · replace h := za_ifp h q14
          refine zt_aload_n C 1 dX9_fire_43 rfl rfl ?_
          refine zt_iconst C (v := 2) dX9_fire_44 zk_i2 ?_
          refine zt_cVi C [.int 2] (m_X9_fail hJ  h) (za_mem (j := 0) rfl (by decide) (by decide)) (za_E_0 g cy M11 0 0) rfl py_X9_fail pv_X9_64 (Nat.le_of_ble_eq_true rfl) ⟨Nat.le_of_ble_eq_true rfl, Nat.le_of_ble_eq_true rfl⟩ ⟨Nat.zero_le _, Nat.zero_le _⟩ dX9_fire_45 rfl (fun r29 M28 h => ?_)
          exact zt_ret C hr hk rfl dX9_fire_48 h
      · replace h := za_ifp h q13
        refine zt_aload_n C 1 dX9_fire_33 rfl rfl ?_
        refine zt_iconst C (v := 1) dX9_fire_34 zk_i1 ?_
        refine zt_cVi C [.int 1] (m_X9_fail hJ  h) (za_mem (j := 0) rfl (by decide) (by decide)) (za_E_0 g cy M11 0 0) rfl py_X9_fail pv_X9_64 (Nat.le_of_ble_eq_true rfl) ⟨Nat.le_of_ble_eq_true rfl, Nat.le_of_ble_eq_true rfl⟩ ⟨Nat.zero_le _, Nat.zero_le _⟩ dX9_fire_35 rfl (fun r31 M30 h => ?_)
        exact zt_ret C hr hk rfl dX9_fire_38 h
end
theorem m_X9_fire {l : Launch} {g : za_L → Nat} {D : va_G} {cy : Nat → ClassId} (hJ : za_J g)  {x1 : Int32} {x2 : Int32} {x3 : Int32} {M : za_M} {K : Int32 → za_M → Prop} (h : f_X9_fire x1 x2 x3 M K) : za_Mi l g D cy yX9_fire cX9_fire 7 (some .int) 6 186 [.ref (g (0, 0, 0)), .int x1, .int x2, .int x3] M K := za_openi hJ (by decide) (Nat.le_of_ble_eq_true rfl) (fun p e s m args below meth c C hr hk => p_X9_fire hJ C hr hk  h)
/-! X9_days -/
def f_X9_days (x1 : Int32) (M : za_M) (K : Int32 → za_M → Prop) : Prop :=
  f_X9_within x1 1 60 M (fun r2 M1 => if r2 = 0 then (f_X9_fail 1 M1 (fun r11 M10 => K r11 M10)) else (if ((M1.1 (2, 0, 0) 6) + x1) ≤ 9999 then (vp_in 1 2 ∧ (f_X1_passDays 0 x1 0 (Int32.toNatClampNeg 1) M1 (fun M6 => K (M6.1 (2, 0, 0) 5) M6))) else (f_X9_fail 3 M1 (fun r9 M8 => K r9 M8))))
section
variable {p : Program} {l : Launch} {e : Env} {s : State} {m : MethodId} {args : Array Value} {below : List Frame} {meth : Method} {c : Code} {g : za_L → Nat} {D : va_G} {cy : Nat → ClassId} {K : Int32 → za_M → Prop}
set_option maxRecDepth 100000 in
set_option maxHeartbeats 4000000 in
theorem p_X9_days (hJ : za_J g) (C : za_C p s m args c cX9_days 2 RX9 g D cy) (hr : meth.sig.returnType = (some .int)) (hk : meth.locks = false) {x1 : Int32} {M : za_M} (h : f_X9_days x1 M K) : zt p l e (za_rm 7 206) s m args below meth c 0 0 (MQ below (za_Qi g D cy K) args s 0 0 (za_A g)) g D cy 2 M 0 [(0, .ref (g (0, 0, 0))), (1, .int x1)] [] := by
  unfold f_X9_days at h
  refine zt_iload_n C 1 dX9_days_0 rfl rfl ?_
  refine zt_iconst C (v := 1) dX9_days_1 zk_i1 ?_
  refine zt_bipush C (v := 60) dX9_days_2 zk_b60 ?_
  refine zt_cSi C [.int x1, .int 1, .int 60] (m_X9_within hJ  h) py_X9_within ps_X9_100 (Nat.le_of_ble_eq_true rfl) ⟨Nat.le_of_ble_eq_true rfl, Nat.le_of_ble_eq_true rfl⟩ ⟨Nat.zero_le _, Nat.zero_le _⟩ dX9_days_4 rfl (fun r2 M1 h => ?_)
  refine zt_if_ne C 16 dX9_days_7 (by decide) (fun q3 => ?_) (fun q3 => ?_)
  · replace h := za_ifn h q3
    refine zt_aload_n C 0 dX9_days_16 rfl rfl ?_
    refine zt_get C (za_mem (j := 0) rfl (by decide) (by decide)) pf_X9_10 (za_E_0 g cy M1 0 0) rfl dX9_days_17 ?_
    refine zt_get C (za_mem (j := 1) rfl (by decide) (by decide)) pf_X9_57 (za_E_1 g cy M1 0 0) rfl dX9_days_20 ?_
    refine zt_get C (za_mem (j := 2) rfl (by decide) (by decide)) pf_X9_231 (za_E_2 g cy M1 0 0) rfl dX9_days_23 ?_
    refine zt_iload_n C 1 dX9_days_26 rfl rfl ?_
    refine zt_iadd C dX9_days_27 ?_
    refine zt_sipush C (v := 9999) dX9_days_28 zk_s9999 ?_
    refine zt_icmp_le C 40 dX9_days_31 (by decide) (fun q4 => ?_) (fun q4 => ?_)
    · replace h := za_ifp h q4
      refine zt_aload_n C 0 dX9_days_40 rfl rfl ?_
      refine zt_get C (za_mem (j := 0) rfl (by decide) (by decide)) pf_X9_10 (za_E_0 g cy M1 0 0) rfl dX9_days_41 ?_
      refine zt_get C (za_mem (j := 1) rfl (by decide) (by decide)) pf_X9_57 (za_E_1 g cy M1 0 0) rfl dX9_days_44 ?_
      refine zt_iload_n C 1 dX9_days_47 rfl rfl ?_
      refine zt_aload_n C 0 dX9_days_48 rfl rfl ?_
      refine zt_get C (za_mem (j := 0) rfl (by decide) (by decide)) pf_X9_10 (za_E_0 g cy M1 0 0) rfl dX9_days_49 ?_
      refine zt_get C (za_mem (j := 1) rfl (by decide) (by decide)) pf_X9_153 (za_E_1 g cy M1 0 0) rfl dX9_days_52 ?_
      refine zt_iconst C (v := 1) dX9_days_55 zk_i1 ?_
      obtain ⟨g5, h⟩ := h
      refine zt_aald C (za_mem (j := 14) rfl (by decide) (by decide)) (za_E_14 g cy M1 0 0) rfl g5 dX9_days_56 ?_
      refine zt_cVv C [.int x1, .ref (g (6, 0, (Int32.toNatClampNeg 1)))] (m_X1_passDays hJ (by decide) (by decide) (za_lt g5) h) (za_mem (j := 2) rfl (by decide) (by decide)) (za_E_2 g cy M1 0 0) rfl py_X1_passDays pv_X9_234 (Nat.le_of_ble_eq_true rfl) ⟨Nat.le_of_ble_eq_true rfl, Nat.le_of_ble_eq_true rfl⟩ ⟨Nat.zero_le _, Nat.zero_le _⟩ dX9_days_57 rfl (fun M6 h => ?_)
      refine zt_aload_n C 0 dX9_days_60 rfl rfl ?_
      refine zt_get C (za_mem (j := 0) rfl (by decide) (by decide)) pf_X9_10 (za_E_0 g cy M6 0 0) rfl dX9_days_61 ?_
      refine zt_get C (za_mem (j := 1) rfl (by decide) (by decide)) pf_X9_57 (za_E_1 g cy M6 0 0) rfl dX9_days_64 ?_
      refine zt_get C (za_mem (j := 2) rfl (by decide) (by decide)) pf_X9_177 (za_E_2 g cy M6 0 0) rfl dX9_days_67 ?_
      exact zt_ret C hr hk rfl dX9_days_70 h
    · replace h := za_ifn h q4
      refine zt_aload_n C 0 dX9_days_34 rfl rfl ?_
      refine zt_iconst C (v := 3) dX9_days_35 zk_i3 ?_
      refine zt_cVi C [.int 3] (m_X9_fail hJ  h) (za_mem (j := 0) rfl (by decide) (by decide)) (za_E_0 g cy M1 0 0) rfl py_X9_fail pv_X9_64 (Nat.le_of_ble_eq_true rfl) ⟨Nat.le_of_ble_eq_true rfl, Nat.le_of_ble_eq_true rfl⟩ ⟨Nat.zero_le _, Nat.zero_le _⟩ dX9_days_36 rfl (fun r9 M8 h => ?_)
      exact zt_ret C hr hk rfl dX9_days_39 h
  · replace h := za_ifp h q3
    refine zt_aload_n C 0 dX9_days_10 rfl rfl ?_
    refine zt_iconst C (v := 1) dX9_days_11 zk_i1 ?_
    refine zt_cVi C [.int 1] (m_X9_fail hJ  h) (za_mem (j := 0) rfl (by decide) (by decide)) (za_E_0 g cy M1 0 0) rfl py_X9_fail pv_X9_64 (Nat.le_of_ble_eq_true rfl) ⟨Nat.le_of_ble_eq_true rfl, Nat.le_of_ble_eq_true rfl⟩ ⟨Nat.zero_le _, Nat.zero_le _⟩ dX9_days_12 rfl (fun r11 M10 h => ?_)
    exact zt_ret C hr hk rfl dX9_days_15 h
end
theorem m_X9_days {l : Launch} {g : za_L → Nat} {D : va_G} {cy : Nat → ClassId} (hJ : za_J g)  {x1 : Int32} {M : za_M} {K : Int32 → za_M → Prop} (h : f_X9_days x1 M K) : za_Mi l g D cy yX9_days cX9_days 2 (some .int) 7 206 [.ref (g (0, 0, 0)), .int x1] M K := za_openi hJ (by decide) (Nat.le_of_ble_eq_true rfl) (fun p e s m args below meth c C hr hk => p_X9_days hJ C hr hk  h)
/-! X9_draw -/
def f_X9_draw (M : za_M) (K : Int32 → za_M → Prop) : Prop :=
  za_let (((M.1 (1, 0, 0) 6) * 1103515245) + 12345) fun y1 => za_let (za_up M (1, 0, 0) 6 y1) fun M3 => K (((M3.1 (1, 0, 0) 6).toUInt32 >>> ((8 : Int32).toUInt32 &&& Int32.toUInt32 31)).toInt32) M3
section
variable {p : Program} {l : Launch} {e : Env} {s : State} {m : MethodId} {args : Array Value} {below : List Frame} {meth : Method} {c : Code} {g : za_L → Nat} {D : va_G} {cy : Nat → ClassId} {K : Int32 → za_M → Prop}
set_option maxRecDepth 100000 in
set_option maxHeartbeats 4000000 in
theorem p_X9_draw (hJ : za_J g) (C : za_C p s m args c cX9_draw 1 RX9 g D cy) (hr : meth.sig.returnType = (some .int)) (hk : meth.locks = false) {M : za_M} (h : f_X9_draw M K) : zt p l e (za_rm 1 64) s m args below meth c 0 0 (MQ below (za_Qi g D cy K) args s 0 0 (za_A g)) g D cy 1 M 0 [(0, .ref (g (0, 0, 0)))] [] := by
  unfold f_X9_draw at h
  refine zt_aload_n C 0 dX9_draw_0 rfl rfl ?_
  refine zt_get C (za_mem (j := 0) rfl (by decide) (by decide)) pf_X9_10 (za_E_0 g cy M 0 0) rfl dX9_draw_1 ?_
  refine zt_aload_n C 0 dX9_draw_4 rfl rfl ?_
  refine zt_get C (za_mem (j := 0) rfl (by decide) (by decide)) pf_X9_10 (za_E_0 g cy M 0 0) rfl dX9_draw_5 ?_
  refine zt_get C (za_mem (j := 1) rfl (by decide) (by decide)) pf_X9_290 (za_E_1 g cy M 0 0) rfl dX9_draw_8 ?_
  refine zt_ldcw C w_660 dX9_draw_11 ?_
  refine zt_imul C dX9_draw_14 ?_
  refine zt_sipush C (v := 12345) dX9_draw_15 zk_s12345 ?_
  refine zt_iadd C dX9_draw_18 ?_
  refine zt_topi (fun y1 e2 => ?_)
  replace h := za_use h e2
  refine zt_put C (za_mem (j := 1) rfl (by decide) (by decide)) pf_X9_290 pt_X7_6 rfl rfl (za_E_1 g cy M 0 0) rfl (Nat.le_of_ble_eq_true rfl) dX9_draw_19 ?_
  refine zt_topM (fun M3 e4 => ?_)
  replace h := za_use h e4
  refine zt_aload_n C 0 dX9_draw_22 rfl rfl ?_
  refine zt_get C (za_mem (j := 0) rfl (by decide) (by decide)) pf_X9_10 (za_E_0 g cy M3 0 0) rfl dX9_draw_23 ?_
  refine zt_get C (za_mem (j := 1) rfl (by decide) (by decide)) pf_X9_290 (za_E_1 g cy M3 0 0) rfl dX9_draw_26 ?_
  refine zt_bipush C (v := 8) dX9_draw_29 zk_b8 ?_
  refine zt_iushr C dX9_draw_31 ?_
  exact zt_ret C hr hk rfl dX9_draw_32 h
end
theorem m_X9_draw {l : Launch} {g : za_L → Nat} {D : va_G} {cy : Nat → ClassId} (hJ : za_J g)  {M : za_M} {K : Int32 → za_M → Prop} (h : f_X9_draw M K) : za_Mi l g D cy yX9_draw cX9_draw 1 (some .int) 1 64 [.ref (g (0, 0, 0))] M K := za_openi hJ (by decide) (Nat.le_of_ble_eq_true rfl) (fun p e s m args below meth c C hr hk => p_X9_draw hJ C hr hk  h)
/-! X9_drawHedge -/
def f_X9_drawHedge (M : za_M) (K : za_M → Prop) : Prop :=
  za_let (M.1 (2, 0, 0) 3) fun y1 => if y1 ≤ 0 then (K M) else (f_X9_draw M (fun r5 M4 => ¬ y1 = 0 ∧ (za_let (r5 - r5 / y1 * y1) fun y7 => vp_in y7 5 ∧ (f_X9_draw M4 (fun r11 M10 => za_let (r11 - r11 / 10 * 10) fun y12 => za_let (za_up M10 (3, 0, y7.toNatClampNeg) 2 y12) fun M14 => K M14)))))
section
variable {p : Program} {l : Launch} {e : Env} {s : State} {m : MethodId} {args : Array Value} {below : List Frame} {meth : Method} {c : Code} {g : za_L → Nat} {D : va_G} {cy : Nat → ClassId} {K : za_M → Prop}
set_option maxRecDepth 100000 in
set_option maxHeartbeats 4000000 in
theorem p_X9_drawHedge (hJ : za_J g) (C : za_C p s m args c cX9_drawHedge 3 RX9 g D cy) (hr : meth.sig.returnType = none) (hk : meth.locks = false) {M : za_M} (h : f_X9_drawHedge M K) : zt p l e (za_rm 2 84) s m args below meth c 0 0 (MQ below (za_Qv g D cy K) args s 0 0 (za_A g)) g D cy 3 M 0 [(0, .ref (g (0, 0, 0)))] [] := by
  unfold f_X9_drawHedge at h
  refine zt_aload_n C 0 dX9_drawHedge_0 rfl rfl ?_
  refine zt_get C (za_mem (j := 0) rfl (by decide) (by decide)) pf_X9_10 (za_E_0 g cy M 0 0) rfl dX9_drawHedge_1 ?_
  refine zt_get C (za_mem (j := 1) rfl (by decide) (by decide)) pf_X9_57 (za_E_1 g cy M 0 0) rfl dX9_drawHedge_4 ?_
  refine zt_get C (za_mem (j := 2) rfl (by decide) (by decide)) pf_X9_68 (za_E_2 g cy M 0 0) rfl dX9_drawHedge_7 ?_
  refine zt_topi (fun y1 e2 => ?_)
  replace h := za_use h e2
  refine zt_istore_n C [(1, .int y1), (0, .ref (g (0, 0, 0)))] dX9_drawHedge_10 rfl (by decide) rfl ?_
  refine zt_iload_n C 0 dX9_drawHedge_11 rfl rfl ?_
  refine zt_if_le C 44 dX9_drawHedge_12 (by decide) (fun q3 => ?_) (fun q3 => ?_)
  · replace h := za_ifp h q3
    exact zt_vret C hr hk dX9_drawHedge_44 h
  · replace h := za_ifn h q3
    refine zt_aload_n C 1 dX9_drawHedge_15 rfl rfl ?_
    refine zt_cVi C [] (m_X9_draw hJ  h) (za_mem (j := 0) rfl (by decide) (by decide)) (za_E_0 g cy M 0 0) rfl py_X9_draw pv_X9_350 (Nat.le_of_ble_eq_true rfl) ⟨Nat.le_of_ble_eq_true rfl, Nat.le_of_ble_eq_true rfl⟩ ⟨Nat.zero_le _, Nat.zero_le _⟩ dX9_drawHedge_16 rfl (fun r5 M4 h => ?_)
    refine zt_iload_n C 0 dX9_drawHedge_19 rfl rfl ?_
    obtain ⟨g6, h⟩ := h
    refine zt_irem C dX9_drawHedge_20 g6 ?_
    refine zt_topi (fun y7 e8 => ?_)
    replace h := za_use h e8
    refine zt_istore_n C [(2, .int y7), (1, .int y1), (0, .ref (g (0, 0, 0)))] dX9_drawHedge_21 rfl (by decide) rfl ?_
    refine zt_aload_n C 2 dX9_drawHedge_22 rfl rfl ?_
    refine zt_get C (za_mem (j := 0) rfl (by decide) (by decide)) pf_X9_10 (za_E_0 g cy M4 0 0) rfl dX9_drawHedge_23 ?_
    refine zt_get C (za_mem (j := 1) rfl (by decide) (by decide)) pf_X9_57 (za_E_1 g cy M4 0 0) rfl dX9_drawHedge_26 ?_
    refine zt_get C (za_mem (j := 2) rfl (by decide) (by decide)) pf_X9_72 (za_E_2 g cy M4 0 0) rfl dX9_drawHedge_29 ?_
    refine zt_iload_n C 0 dX9_drawHedge_32 rfl rfl ?_
    obtain ⟨g9, h⟩ := h
    refine zt_aald C (za_mem (j := 10) rfl (by decide) (by decide)) (za_E_10 g cy M4 0 0) rfl g9 dX9_drawHedge_33 ?_
    refine zt_aload_n C 2 dX9_drawHedge_34 rfl rfl ?_
    refine zt_cVi C [] (m_X9_draw hJ  h) (za_mem (j := 0) rfl (by decide) (by decide)) (za_E_0 g cy M4 0 0) rfl py_X9_draw pv_X9_350 (Nat.le_of_ble_eq_true rfl) ⟨Nat.le_of_ble_eq_true rfl, Nat.le_of_ble_eq_true rfl⟩ ⟨Nat.zero_le _, Nat.zero_le _⟩ dX9_drawHedge_35 rfl (fun r11 M10 h => ?_)
    refine zt_bipush C (v := 10) dX9_drawHedge_38 zk_b10 ?_
    refine zt_irem C dX9_drawHedge_40 (by decide) ?_
    refine zt_topi (fun y12 e13 => ?_)
    replace h := za_use h e13
    refine zt_put C (za_mem (j := 3) rfl (by decide) (za_lt g9)) pf_X9_91 pt_X0_2 rfl rfl (za_E_3 g cy M10 0 y7.toNatClampNeg) rfl (Nat.le_of_ble_eq_true rfl) dX9_drawHedge_41 ?_
    refine zt_topM (fun M14 e15 => ?_)
    replace h := za_use h e15
    exact zt_vret C hr hk dX9_drawHedge_44 h
end
theorem m_X9_drawHedge {l : Launch} {g : za_L → Nat} {D : va_G} {cy : Nat → ClassId} (hJ : za_J g)  {M : za_M} {K : za_M → Prop} (h : f_X9_drawHedge M K) : za_Mv l g D cy yX9_drawHedge cX9_drawHedge 3 none 2 84 [.ref (g (0, 0, 0))] M K := za_openv hJ (by decide) (Nat.le_of_ble_eq_true rfl) (fun p e s m args below meth c C hr hk => p_X9_drawHedge hJ C hr hk  h)
/-! X9_loose -/
def f_X9_loose_b42 (K : Int32 → za_M → Prop) (x1 : Int32) (L42 : Int32 → za_M → Prop) (x2 : Int32) (M : za_M) : Prop :=
  if x1 ≤ x2 then (K (M.1 (2, 0, 0) 5) M) else (f_X9_drawHedge M (fun M2 => vp_in 1 2 ∧ (f_X1_passDays 0 1 0 (Int32.toNatClampNeg 1) M2 (fun M5 => L42 (x2 + 1) M5))))
def f_X9_loose (x1 : Int32) (M : za_M) (K : Int32 → za_M → Prop) : Prop :=
  f_X9_within x1 1 40 M (fun r8 M7 => if r8 = 0 then (f_X9_fail 1 M7 (fun r14 M13 => K r14 M13)) else (if ((M7.1 (2, 0, 0) 6) + x1) ≤ 9999 then (∃ n, za_lp1 (f_X9_loose_b42 K x1) n 0 M7) else (f_X9_fail 3 M7 (fun r12 M11 => K r12 M11))))
section
variable {p : Program} {l : Launch} {e : Env} {s : State} {m : MethodId} {args : Array Value} {below : List Frame} {meth : Method} {c : Code} {g : za_L → Nat} {D : va_G} {cy : Nat → ClassId} {K : Int32 → za_M → Prop}
set_option maxRecDepth 100000 in
set_option maxHeartbeats 4000000 in
theorem p_X9_loose_b42 (hJ : za_J g) (C : za_C p s m args c cX9_loose 3 RX9 g D cy) (hr : meth.sig.returnType = (some .int)) (hk : meth.locks = false) {x1 : Int32} {L42 : Int32 → za_M → Prop} (hL42 : ∀ (x2 : Int32) (M : za_M), L42 x2 M → zt p l e (za_rm 7 206) s m args below meth c 0 0 (MQ below (za_Qi g D cy K) args s 0 0 (za_A g)) g D cy 3 M 42 [(0, .ref (g (0, 0, 0))), (1, .int x1), (2, .int x2)] []) : ∀ (x2 : Int32) (M : za_M), f_X9_loose_b42 K x1 L42 x2 M → zt p l e (za_rm 7 206) s m args below meth c 0 0 (MQ below (za_Qi g D cy K) args s 0 0 (za_A g)) g D cy 3 M 42 [(0, .ref (g (0, 0, 0))), (1, .int x1), (2, .int x2)] [] := by
  intro x2 M h
  unfold f_X9_loose_b42 at h
  refine zt_iload_n C 2 dX9_loose_42 rfl rfl ?_
  refine zt_iload_n C 1 dX9_loose_43 rfl rfl ?_
  refine zt_icmp_ge C 77 dX9_loose_44 (by decide) (fun q1 => ?_) (fun q1 => ?_)
  · replace h := za_ifp h q1
    refine zt_aload_n C 0 dX9_loose_77 rfl rfl ?_
    refine zt_get C (za_mem (j := 0) rfl (by decide) (by decide)) pf_X9_10 (za_E_0 g cy M 0 0) rfl dX9_loose_78 ?_
    refine zt_get C (za_mem (j := 1) rfl (by decide) (by decide)) pf_X9_57 (za_E_1 g cy M 0 0) rfl dX9_loose_81 ?_
    refine zt_get C (za_mem (j := 2) rfl (by decide) (by decide)) pf_X9_177 (za_E_2 g cy M 0 0) rfl dX9_loose_84 ?_
    exact zt_ret C hr hk rfl dX9_loose_87 h
  · replace h := za_ifn h q1
    refine zt_aload_n C 0 dX9_loose_47 rfl rfl ?_
    refine zt_cVv C [] (m_X9_drawHedge hJ  h) (za_mem (j := 0) rfl (by decide) (by decide)) (za_E_0 g cy M 0 0) rfl py_X9_drawHedge pv_X9_238 (Nat.le_of_ble_eq_true rfl) ⟨Nat.le_of_ble_eq_true rfl, Nat.le_of_ble_eq_true rfl⟩ ⟨Nat.zero_le _, Nat.zero_le _⟩ dX9_loose_48 rfl (fun M2 h => ?_)
    refine zt_aload_n C 0 dX9_loose_51 rfl rfl ?_
    refine zt_get C (za_mem (j := 0) rfl (by decide) (by decide)) pf_X9_10 (za_E_0 g cy M2 0 0) rfl dX9_loose_52 ?_
    refine zt_get C (za_mem (j := 1) rfl (by decide) (by decide)) pf_X9_57 (za_E_1 g cy M2 0 0) rfl dX9_loose_55 ?_
    refine zt_iconst C (v := 1) dX9_loose_58 zk_i1 ?_
    refine zt_aload_n C 0 dX9_loose_59 rfl rfl ?_
    refine zt_get C (za_mem (j := 0) rfl (by decide) (by decide)) pf_X9_10 (za_E_0 g cy M2 0 0) rfl dX9_loose_60 ?_
    refine zt_get C (za_mem (j := 1) rfl (by decide) (by decide)) pf_X9_153 (za_E_1 g cy M2 0 0) rfl dX9_loose_63 ?_
    refine zt_iconst C (v := 1) dX9_loose_66 zk_i1 ?_
    obtain ⟨g4, h⟩ := h
    refine zt_aald C (za_mem (j := 14) rfl (by decide) (by decide)) (za_E_14 g cy M2 0 0) rfl g4 dX9_loose_67 ?_
    refine zt_cVv C [.int 1, .ref (g (6, 0, (Int32.toNatClampNeg 1)))] (m_X1_passDays hJ (by decide) (by decide) (za_lt g4) h) (za_mem (j := 2) rfl (by decide) (by decide)) (za_E_2 g cy M2 0 0) rfl py_X1_passDays pv_X9_234 (Nat.le_of_ble_eq_true rfl) ⟨Nat.le_of_ble_eq_true rfl, Nat.le_of_ble_eq_true rfl⟩ ⟨Nat.zero_le _, Nat.zero_le _⟩ dX9_loose_68 rfl (fun M5 h => ?_)
    refine zt_iinc C (v := x2 + 1) 2 [(2, .int (x2 + 1)), (0, .ref (g (0, 0, 0))), (1, .int x1)] dX9_loose_71 rfl (zk_n1 _) (by decide) rfl ?_
    refine zt_goto C 42 dX9_loose_74 (by decide) ?_
    refine zt_sub [1, 2, 0] (lv' := [(0, .ref (g (0, 0, 0))), (1, .int x1), (2, .int (x2 + 1))]) rfl ?_
    exact hL42 _ _ h
theorem p_X9_loose_b42_in (hJ : za_J g) (C : za_C p s m args c cX9_loose 3 RX9 g D cy) (hr : meth.sig.returnType = (some .int)) (hk : meth.locks = false) {x1 : Int32} {n : Nat} {x2 : Int32} {M : za_M} (h : za_lp1 (f_X9_loose_b42 K x1) n x2 M) : zt p l e (za_rm 7 206) s m args below meth c 0 0 (MQ below (za_Qi g D cy K) args s 0 0 (za_A g)) g D cy 3 M 42 [(0, .ref (g (0, 0, 0))), (1, .int x1), (2, .int x2)] [] := za_lp1_run (Z := fun x2 M => zt p l e (za_rm 7 206) s m args below meth c 0 0 (MQ below (za_Qi g D cy K) args s 0 0 (za_A g)) g D cy 3 M 42 [(0, .ref (g (0, 0, 0))), (1, .int x1), (2, .int x2)] []) (fun L hL => p_X9_loose_b42 hJ C hr hk  hL) n x2 M h
set_option maxRecDepth 100000 in
set_option maxHeartbeats 4000000 in
theorem p_X9_loose (hJ : za_J g) (C : za_C p s m args c cX9_loose 3 RX9 g D cy) (hr : meth.sig.returnType = (some .int)) (hk : meth.locks = false) {x1 : Int32} {M : za_M} (h : f_X9_loose x1 M K) : zt p l e (za_rm 7 206) s m args below meth c 0 0 (MQ below (za_Qi g D cy K) args s 0 0 (za_A g)) g D cy 3 M 0 [(0, .ref (g (0, 0, 0))), (1, .int x1)] [] := by
  unfold f_X9_loose at h
  refine zt_iload_n C 1 dX9_loose_0 rfl rfl ?_
  refine zt_iconst C (v := 1) dX9_loose_1 zk_i1 ?_
  refine zt_bipush C (v := 40) dX9_loose_2 zk_b40 ?_
  refine zt_cSi C [.int x1, .int 1, .int 40] (m_X9_within hJ  h) py_X9_within ps_X9_100 (Nat.le_of_ble_eq_true rfl) ⟨Nat.le_of_ble_eq_true rfl, Nat.le_of_ble_eq_true rfl⟩ ⟨Nat.zero_le _, Nat.zero_le _⟩ dX9_loose_4 rfl (fun r8 M7 h => ?_)
  refine zt_if_ne C 16 dX9_loose_7 (by decide) (fun q9 => ?_) (fun q9 => ?_)
  · replace h := za_ifn h q9
    refine zt_aload_n C 0 dX9_loose_16 rfl rfl ?_
    refine zt_get C (za_mem (j := 0) rfl (by decide) (by decide)) pf_X9_10 (za_E_0 g cy M7 0 0) rfl dX9_loose_17 ?_
    refine zt_get C (za_mem (j := 1) rfl (by decide) (by decide)) pf_X9_57 (za_E_1 g cy M7 0 0) rfl dX9_loose_20 ?_
    refine zt_get C (za_mem (j := 2) rfl (by decide) (by decide)) pf_X9_231 (za_E_2 g cy M7 0 0) rfl dX9_loose_23 ?_
    refine zt_iload_n C 1 dX9_loose_26 rfl rfl ?_
    refine zt_iadd C dX9_loose_27 ?_
    refine zt_sipush C (v := 9999) dX9_loose_28 zk_s9999 ?_
    refine zt_icmp_le C 40 dX9_loose_31 (by decide) (fun q10 => ?_) (fun q10 => ?_)
    · replace h := za_ifp h q10
      refine zt_iconst C (v := 0) dX9_loose_40 zk_i0 ?_
      refine zt_istore_n C [(2, .int 0), (0, .ref (g (0, 0, 0))), (1, .int x1)] dX9_loose_41 rfl (by decide) rfl ?_
      refine zt_sub [1, 2, 0] (lv' := [(0, .ref (g (0, 0, 0))), (1, .int x1), (2, .int 0)]) rfl ?_
      obtain ⟨n, h⟩ := h
      exact p_X9_loose_b42_in hJ C hr hk  h
    · replace h := za_ifn h q10
      refine zt_aload_n C 0 dX9_loose_34 rfl rfl ?_
      refine zt_iconst C (v := 3) dX9_loose_35 zk_i3 ?_
      refine zt_cVi C [.int 3] (m_X9_fail hJ  h) (za_mem (j := 0) rfl (by decide) (by decide)) (za_E_0 g cy M7 0 0) rfl py_X9_fail pv_X9_64 (Nat.le_of_ble_eq_true rfl) ⟨Nat.le_of_ble_eq_true rfl, Nat.le_of_ble_eq_true rfl⟩ ⟨Nat.zero_le _, Nat.zero_le _⟩ dX9_loose_36 rfl (fun r12 M11 h => ?_)
      exact zt_ret C hr hk rfl dX9_loose_39 h
  · replace h := za_ifp h q9
    refine zt_aload_n C 0 dX9_loose_10 rfl rfl ?_
    refine zt_iconst C (v := 1) dX9_loose_11 zk_i1 ?_
    refine zt_cVi C [.int 1] (m_X9_fail hJ  h) (za_mem (j := 0) rfl (by decide) (by decide)) (za_E_0 g cy M7 0 0) rfl py_X9_fail pv_X9_64 (Nat.le_of_ble_eq_true rfl) ⟨Nat.le_of_ble_eq_true rfl, Nat.le_of_ble_eq_true rfl⟩ ⟨Nat.zero_le _, Nat.zero_le _⟩ dX9_loose_12 rfl (fun r14 M13 h => ?_)
    exact zt_ret C hr hk rfl dX9_loose_15 h
end
theorem m_X9_loose {l : Launch} {g : za_L → Nat} {D : va_G} {cy : Nat → ClassId} (hJ : za_J g)  {x1 : Int32} {M : za_M} {K : Int32 → za_M → Prop} (h : f_X9_loose x1 M K) : za_Mi l g D cy yX9_loose cX9_loose 3 (some .int) 7 206 [.ref (g (0, 0, 0)), .int x1] M K := za_openi hJ (by decide) (Nat.le_of_ble_eq_true rfl) (fun p e s m args below meth c C hr hk => p_X9_loose hJ C hr hk  h)
/-! X9_colour -/
def f_X9_colour (x1 : Int32) (x2 : Int32) (M : za_M) (K : Int32 → za_M → Prop) : Prop :=
  f_X9_isMix x1 M (fun r2 M1 => if r2 = 0 then (f_X9_fail 1 M1 (fun r5 M4 => K r5 M4)) else (f_X9_isHeat x2 M1 (fun r7 M6 => if r7 = 0 then (f_X9_fail 1 M6 (fun r15 M14 => K r15 M14)) else (f_X9_colourOfMix x1 x2 M6 (fun r10 M9 => if r10 = (-1) then (f_X9_fail 5 M9 (fun r13 M12 => K r13 M12)) else (K r10 M9))))))
section
variable {p : Program} {l : Launch} {e : Env} {s : State} {m : MethodId} {args : Array Value} {below : List Frame} {meth : Method} {c : Code} {g : za_L → Nat} {D : va_G} {cy : Nat → ClassId} {K : Int32 → za_M → Prop}
set_option maxRecDepth 100000 in
set_option maxHeartbeats 4000000 in
theorem p_X9_colour (hJ : za_J g) (C : za_C p s m args c cX9_colour 4 RX9 g D cy) (hr : meth.sig.returnType = (some .int)) (hk : meth.locks = false) {x1 : Int32} {x2 : Int32} {M : za_M} (h : f_X9_colour x1 x2 M K) : zt p l e (za_rm 6 186) s m args below meth c 0 0 (MQ below (za_Qi g D cy K) args s 0 0 (za_A g)) g D cy 4 M 0 [(0, .ref (g (0, 0, 0))), (1, .int x1), (2, .int x2)] [] := by
  unfold f_X9_colour at h
  refine zt_aload_n C 0 dX9_colour_0 rfl rfl ?_
  refine zt_iload_n C 1 dX9_colour_1 rfl rfl ?_
  refine zt_cVi C [.int x1] (m_X9_isMix hJ  h) (za_mem (j := 0) rfl (by decide) (by decide)) (za_E_0 g cy M 0 0) rfl py_X9_isMix pv_X9_215 (Nat.le_of_ble_eq_true rfl) ⟨Nat.le_of_ble_eq_true rfl, Nat.le_of_ble_eq_true rfl⟩ ⟨Nat.zero_le _, Nat.zero_le _⟩ dX9_colour_2 rfl (fun r2 M1 h => ?_)
  refine zt_if_eq C 15 dX9_colour_5 (by decide) (fun q3 => ?_) (fun q3 => ?_)
  · replace h := za_ifp h q3
    refine zt_aload_n C 0 dX9_colour_15 rfl rfl ?_
    refine zt_iconst C (v := 1) dX9_colour_16 zk_i1 ?_
    refine zt_cVi C [.int 1] (m_X9_fail hJ  h) (za_mem (j := 0) rfl (by decide) (by decide)) (za_E_0 g cy M1 0 0) rfl py_X9_fail pv_X9_64 (Nat.le_of_ble_eq_true rfl) ⟨Nat.le_of_ble_eq_true rfl, Nat.le_of_ble_eq_true rfl⟩ ⟨Nat.zero_le _, Nat.zero_le _⟩ dX9_colour_17 rfl (fun r5 M4 h => ?_)
    exact zt_ret C hr hk rfl dX9_colour_20 h
  · replace h := za_ifn h q3
    refine zt_iload_n C 2 dX9_colour_8 rfl rfl ?_
    refine zt_cSi C [.int x2] (m_X9_isHeat hJ  h) py_X9_isHeat ps_X9_218 (Nat.le_of_ble_eq_true rfl) ⟨Nat.le_of_ble_eq_true rfl, Nat.le_of_ble_eq_true rfl⟩ ⟨Nat.zero_le _, Nat.zero_le _⟩ dX9_colour_9 rfl (fun r7 M6 h => ?_)
    refine zt_if_ne C 21 dX9_colour_12 (by decide) (fun q8 => ?_) (fun q8 => ?_)
    · replace h := za_ifn h q8
      refine zt_aload_n C 0 dX9_colour_21 rfl rfl ?_
      refine zt_iload_n C 1 dX9_colour_22 rfl rfl ?_
      refine zt_iload_n C 2 dX9_colour_23 rfl rfl ?_
      refine zt_cVi C [.int x1, .int x2] (m_X9_colourOfMix hJ  h) (za_mem (j := 0) rfl (by decide) (by decide)) (za_E_0 g cy M6 0 0) rfl py_X9_colourOfMix pv_X9_224 (Nat.le_of_ble_eq_true rfl) ⟨Nat.le_of_ble_eq_true rfl, Nat.le_of_ble_eq_true rfl⟩ ⟨Nat.zero_le _, Nat.zero_le _⟩ dX9_colour_24 rfl (fun r10 M9 h => ?_)
      refine zt_istore_n C [(3, .int r10), (0, .ref (g (0, 0, 0))), (1, .int x1), (2, .int x2)] dX9_colour_27 rfl (by decide) rfl ?_
      refine zt_iload_n C 0 dX9_colour_28 rfl rfl ?_
      refine zt_iconst C (v := (-1)) dX9_colour_29 zk_im1 ?_
      refine zt_icmp_ne C 41 dX9_colour_30 (by decide) (fun q11 => ?_) (fun q11 => ?_)
      · replace h := za_ifn h q11
        refine zt_iload_n C 0 dX9_colour_41 rfl rfl ?_
        exact zt_ret C hr hk rfl dX9_colour_42 h
      · replace h := za_ifp h q11
        refine zt_aload_n C 1 dX9_colour_33 rfl rfl ?_
        refine zt_iconst C (v := 5) dX9_colour_34 zk_i5 ?_
        refine zt_cVi C [.int 5] (m_X9_fail hJ  h) (za_mem (j := 0) rfl (by decide) (by decide)) (za_E_0 g cy M9 0 0) rfl py_X9_fail pv_X9_64 (Nat.le_of_ble_eq_true rfl) ⟨Nat.le_of_ble_eq_true rfl, Nat.le_of_ble_eq_true rfl⟩ ⟨Nat.zero_le _, Nat.zero_le _⟩ dX9_colour_35 rfl (fun r13 M12 h => ?_)
        refine zt_goto C 42 dX9_colour_38 (by decide) ?_
        exact zt_ret C hr hk rfl dX9_colour_42 h
    · replace h := za_ifp h q8
      refine zt_aload_n C 0 dX9_colour_15 rfl rfl ?_
      refine zt_iconst C (v := 1) dX9_colour_16 zk_i1 ?_
      refine zt_cVi C [.int 1] (m_X9_fail hJ  h) (za_mem (j := 0) rfl (by decide) (by decide)) (za_E_0 g cy M6 0 0) rfl py_X9_fail pv_X9_64 (Nat.le_of_ble_eq_true rfl) ⟨Nat.le_of_ble_eq_true rfl, Nat.le_of_ble_eq_true rfl⟩ ⟨Nat.zero_le _, Nat.zero_le _⟩ dX9_colour_17 rfl (fun r15 M14 h => ?_)
      exact zt_ret C hr hk rfl dX9_colour_20 h
end
theorem m_X9_colour {l : Launch} {g : za_L → Nat} {D : va_G} {cy : Nat → ClassId} (hJ : za_J g)  {x1 : Int32} {x2 : Int32} {M : za_M} {K : Int32 → za_M → Prop} (h : f_X9_colour x1 x2 M K) : za_Mi l g D cy yX9_colour cX9_colour 4 (some .int) 6 186 [.ref (g (0, 0, 0)), .int x1, .int x2] M K := za_openi hJ (by decide) (Nat.le_of_ble_eq_true rfl) (fun p e s m args below meth c C hr hk => p_X9_colour hJ C hr hk  h)

/-! X10_fire -/
def f_X10_fire (x1 : Int32) (x2 : Int32) (x3 : Int32) (M : za_M) (K : Int32 → za_M → Prop) : Prop :=
  f_X10_isPotter x1 M (fun r2 M1 => if r2 = 0 then (f_X10_finding (-1000000001) M1 (fun r5 M4 => K r5 M4)) else (f_X10_isMix x2 M1 (fun r7 M6 => if r7 = 0 then (f_X10_finding (-1000000001) M6 (fun r10 M9 => K r10 M9)) else (f_X10_isDigit x3 M6 (fun r12 M11 => if r12 = 0 then (f_X10_finding (-1000000001) M11 (fun r30 M29 => K r30 M29)) else (if x2 = 0 then (f_X10_finding (-1000000002) M11 (fun r28 M27 => K r28 M27)) else (f_X10_hasAll x1 x2 M11 (fun r16 M15 => if r16 = 0 then (f_X10_finding (-1000000003) M15 (fun r26 M25 => K r26 M25)) else (f_X10_isForbidden x2 x3 M15 (fun r19 M18 => if r19 = 0 then (f_X10_firesNow x1 x2 x3 M18 (fun r22 M21 => K r22 M21)) else (f_X10_finding (-1000000005) M18 (fun r24 M23 => K r24 M23))))))))))))
section
variable {p : Program} {l : Launch} {e : Env} {s : State} {m : MethodId} {args : Array Value} {below : List Frame} {meth : Method} {c : Code} {g : za_L → Nat} {D : va_G} {cy : Nat → ClassId} {K : Int32 → za_M → Prop}
set_option maxRecDepth 100000 in
set_option maxHeartbeats 4000000 in
theorem p_X10_fire (hJ : za_J g) (C : za_C p s m args c cX10_fire 4 RX10 g D cy) (hr : meth.sig.returnType = (some .int)) (hk : meth.locks = false) {x1 : Int32} {x2 : Int32} {x3 : Int32} {M : za_M} (h : f_X10_fire x1 x2 x3 M K) : zt p l e (za_rm 7 208) s m args below meth c 0 0 (MQ below (za_Qi g D cy K) args s 0 0 (za_A g)) g D cy 4 M 0 [(0, .ref (g (27, 0, 0))), (1, .int x1), (2, .int x2), (3, .int x3)] [] := by
  unfold f_X10_fire at h
  refine zt_aload_n C 0 dX10_fire_0 rfl rfl ?_
  refine zt_iload_n C 1 dX10_fire_1 rfl rfl ?_
  refine zt_cVi C [.int x1] (m_X10_isPotter hJ  h) (za_mem (j := 27) rfl (by decide) (by decide)) (za_E_27 g cy M 0 0) rfl py_X10_isPotter pv_X10_197 (Nat.le_of_ble_eq_true rfl) ⟨Nat.le_of_ble_eq_true rfl, Nat.le_of_ble_eq_true rfl⟩ ⟨Nat.zero_le _, Nat.zero_le _⟩ dX10_fire_2 rfl (fun r2 M1 h => ?_)
  refine zt_if_eq C 23 dX10_fire_5 (by decide) (fun q3 => ?_) (fun q3 => ?_)
  · replace h := za_ifp h q3
    refine zt_aload_n C 0 dX10_fire_23 rfl rfl ?_
    refine zt_ldc C w_969 dX10_fire_24 ?_
    refine zt_cVi C [.int (-1000000001)] (m_X10_finding hJ  h) (za_mem (j := 27) rfl (by decide) (by decide)) (za_E_27 g cy M1 0 0) rfl py_X10_finding pv_X10_75 (Nat.le_of_ble_eq_true rfl) ⟨Nat.le_of_ble_eq_true rfl, Nat.le_of_ble_eq_true rfl⟩ ⟨Nat.zero_le _, Nat.zero_le _⟩ dX10_fire_26 rfl (fun r5 M4 h => ?_)
    exact zt_ret C hr hk rfl dX10_fire_29 h
  · replace h := za_ifn h q3
    refine zt_aload_n C 0 dX10_fire_8 rfl rfl ?_
    refine zt_iload_n C 2 dX10_fire_9 rfl rfl ?_
    refine zt_cVi C [.int x2] (m_X10_isMix hJ  h) (za_mem (j := 27) rfl (by decide) (by decide)) (za_E_27 g cy M1 0 0) rfl py_X10_isMix pv_X10_213 (Nat.le_of_ble_eq_true rfl) ⟨Nat.le_of_ble_eq_true rfl, Nat.le_of_ble_eq_true rfl⟩ ⟨Nat.zero_le _, Nat.zero_le _⟩ dX10_fire_10 rfl (fun r7 M6 h => ?_)
    refine zt_if_eq C 23 dX10_fire_13 (by decide) (fun q8 => ?_) (fun q8 => ?_)
    · replace h := za_ifp h q8
      refine zt_aload_n C 0 dX10_fire_23 rfl rfl ?_
      refine zt_ldc C w_969 dX10_fire_24 ?_
      refine zt_cVi C [.int (-1000000001)] (m_X10_finding hJ  h) (za_mem (j := 27) rfl (by decide) (by decide)) (za_E_27 g cy M6 0 0) rfl py_X10_finding pv_X10_75 (Nat.le_of_ble_eq_true rfl) ⟨Nat.le_of_ble_eq_true rfl, Nat.le_of_ble_eq_true rfl⟩ ⟨Nat.zero_le _, Nat.zero_le _⟩ dX10_fire_26 rfl (fun r10 M9 h => ?_)
      exact zt_ret C hr hk rfl dX10_fire_29 h
    · replace h := za_ifn h q8
      refine zt_iload_n C 3 dX10_fire_16 rfl rfl ?_
      refine zt_cSi C [.int x3] (m_X10_isDigit hJ  h) py_X10_isDigit ps_X10_216 (Nat.le_of_ble_eq_true rfl) ⟨Nat.le_of_ble_eq_true rfl, Nat.le_of_ble_eq_true rfl⟩ ⟨Nat.zero_le _, Nat.zero_le _⟩ dX10_fire_17 rfl (fun r12 M11 h => ?_)
      refine zt_if_ne C 30 dX10_fire_20 (by decide) (fun q13 => ?_) (fun q13 => ?_)
      · replace h := za_ifn h q13
        refine zt_iload_n C 2 dX10_fire_30 rfl rfl ?_
        refine zt_if_ne C 41 dX10_fire_31 (by decide) (fun q14 => ?_) (fun q14 => ?_)
        · replace h := za_ifn h q14
          refine zt_aload_n C 0 dX10_fire_41 rfl rfl ?_
          refine zt_iload_n C 1 dX10_fire_42 rfl rfl ?_
          refine zt_iload_n C 2 dX10_fire_43 rfl rfl ?_
          refine zt_cVi C [.int x1, .int x2] (m_X10_hasAll hJ  h) (za_mem (j := 27) rfl (by decide) (by decide)) (za_E_27 g cy M11 0 0) rfl py_X10_hasAll pv_X10_226 (Nat.le_of_ble_eq_true rfl) ⟨Nat.le_of_ble_eq_true rfl, Nat.le_of_ble_eq_true rfl⟩ ⟨Nat.zero_le _, Nat.zero_le _⟩ dX10_fire_44 rfl (fun r16 M15 h => ?_)
          refine zt_if_ne C 57 dX10_fire_47 (by decide) (fun q17 => ?_) (fun q17 => ?_)
          · replace h := za_ifn h q17
            refine zt_aload_n C 0 dX10_fire_57 rfl rfl ?_
            refine zt_iload_n C 2 dX10_fire_58 rfl rfl ?_
            refine zt_iload_n C 3 dX10_fire_59 rfl rfl ?_
            refine zt_cVi C [.int x2, .int x3] (m_X10_isForbidden hJ  h) (za_mem (j := 27) rfl (by decide) (by decide)) (za_E_27 g cy M15 0 0) rfl py_X10_isForbidden pv_X10_219 (Nat.le_of_ble_eq_true rfl) ⟨Nat.le_of_ble_eq_true rfl, Nat.le_of_ble_eq_true rfl⟩ ⟨Nat.zero_le _, Nat.zero_le _⟩ dX10_fire_60 rfl (fun r19 M18 h => ?_)
            refine zt_if_eq C 75 dX10_fire_63 (by decide) (fun q20 => ?_) (fun q20 => ?_)
            · replace h := za_ifp h q20
              refine zt_aload_n C 0 dX10_fire_75 rfl rfl ?_
              refine zt_iload_n C 1 dX10_fire_76 rfl rfl ?_
              refine zt_iload_n C 2 dX10_fire_77 rfl rfl ?_
              refine zt_iload_n C 3 dX10_fire_78 rfl rfl ?_
              refine zt_cVi C [.int x1, .int x2, .int x3] (m_X10_firesNow hJ  h) (za_mem (j := 27) rfl (by decide) (by decide)) (za_E_27 g cy M18 0 0) rfl py_X10_firesNow pv_X10_230 (Nat.le_of_ble_eq_true rfl) ⟨Nat.le_of_ble_eq_true rfl, Nat.le_of_ble_eq_true rfl⟩ ⟨Nat.zero_le _, Nat.zero_le _⟩ dX10_fire_79 rfl (fun r22 M21 h => ?_)
              exact zt_ret C hr hk rfl dX10_fire_82 h
            · replace h := za_ifn h q20
              refine zt_aload_n C 0 dX10_fire_66 rfl rfl ?_
              refine zt_ldc C w_1150 dX10_fire_67 ?_
              refine zt_cVi C [.int (-1000000005)] (m_X10_finding hJ  h) (za_mem (j := 27) rfl (by decide) (by decide)) (za_E_27 g cy M18 0 0) rfl py_X10_finding pv_X10_75 (Nat.le_of_ble_eq_true rfl) ⟨Nat.le_of_ble_eq_true rfl, Nat.le_of_ble_eq_true rfl⟩ ⟨Nat.zero_le _, Nat.zero_le _⟩ dX10_fire_69 rfl (fun r24 M23 h => ?_)
              refine zt_goto C 82 dX10_fire_72 (by decide) ?_
              exact zt_ret C hr hk rfl dX10_fire_82 h
          · replace h := za_ifp h q17
            refine zt_aload_n C 0 dX10_fire_50 rfl rfl ?_
            refine zt_ldc C w_1224 dX10_fire_51 ?_
            refine zt_cVi C [.int (-1000000003)] (m_X10_finding hJ  h) (za_mem (j := 27) rfl (by decide) (by decide)) (za_E_27 g cy M15 0 0) rfl py_X10_finding pv_X10_75 (Nat.le_of_ble_eq_true rfl) ⟨Nat.le_of_ble_eq_true rfl, Nat.le_of_ble_eq_true rfl⟩ ⟨Nat.zero_le _, Nat.zero_le _⟩ dX10_fire_53 rfl (fun r26 M25 h => ?_)
            exact zt_ret C hr hk rfl dX10_fire_56 h
        · replace h := za_ifp h q14
          refine zt_aload_n C 0 dX10_fire_34 rfl rfl ?_
          refine zt_ldc C w_1219 dX10_fire_35 ?_
          refine zt_cVi C [.int (-1000000002)] (m_X10_finding hJ  h) (za_mem (j := 27) rfl (by decide) (by decide)) (za_E_27 g cy M11 0 0) rfl py_X10_finding pv_X10_75 (Nat.le_of_ble_eq_true rfl) ⟨Nat.le_of_ble_eq_true rfl, Nat.le_of_ble_eq_true rfl⟩ ⟨Nat.zero_le _, Nat.zero_le _⟩ dX10_fire_37 rfl (fun r28 M27 h => ?_)
          exact zt_ret C hr hk rfl dX10_fire_40 h
      · replace h := za_ifp h q13
        refine zt_aload_n C 0 dX10_fire_23 rfl rfl ?_
        refine zt_ldc C w_969 dX10_fire_24 ?_
        refine zt_cVi C [.int (-1000000001)] (m_X10_finding hJ  h) (za_mem (j := 27) rfl (by decide) (by decide)) (za_E_27 g cy M11 0 0) rfl py_X10_finding pv_X10_75 (Nat.le_of_ble_eq_true rfl) ⟨Nat.le_of_ble_eq_true rfl, Nat.le_of_ble_eq_true rfl⟩ ⟨Nat.zero_le _, Nat.zero_le _⟩ dX10_fire_26 rfl (fun r30 M29 h => ?_)
        exact zt_ret C hr hk rfl dX10_fire_29 h
end
theorem m_X10_fire {l : Launch} {g : za_L → Nat} {D : va_G} {cy : Nat → ClassId} (hJ : za_J g)  {x1 : Int32} {x2 : Int32} {x3 : Int32} {M : za_M} {K : Int32 → za_M → Prop} (h : f_X10_fire x1 x2 x3 M K) : za_Mi l g D cy yX10_fire cX10_fire 4 (some .int) 7 208 [.ref (g (27, 0, 0)), .int x1, .int x2, .int x3] M K := za_openi hJ (by decide) (Nat.le_of_ble_eq_true rfl) (fun p e s m args below meth c C hr hk => p_X10_fire hJ C hr hk  h)
/-! X10_lendNow -/
def f_X10_lendNow (x1 : Int32) (x2 : Int32) (x3 : Int32) (x4 : Int32) (x5 : Int32) (M : za_M) (K : Int32 → za_M → Prop) : Prop :=
  vp_in 3 279 ∧ (za_let (M.1 (28, 0, 0) (Int32.toNatClampNeg 3)) fun y2 => f_X10_storeAt x1 x3 M (fun r5 M4 => vp_in r5 279 ∧ (za_let ((M4.1 (28, 0, 0) r5.toNatClampNeg) - x4) fun y7 => vp_in r5 279 ∧ (za_let (za_up M4 (28, 0, 0) r5.toNatClampNeg y7) fun M10 => f_X10_storeAt x2 x3 M10 (fun r13 M12 => vp_in r13 279 ∧ (za_let ((M12.1 (28, 0, 0) r13.toNatClampNeg) + x4) fun y15 => vp_in r13 279 ∧ (za_let (za_up M12 (28, 0, 0) r13.toNatClampNeg y15) fun M18 => f_X10_loanAt y2 0 M18 (fun r21 M20 => vp_in r21 279 ∧ (za_let (za_up M20 (28, 0, 0) r21.toNatClampNeg x1) fun M23 => f_X10_loanAt y2 1 M23 (fun r26 M25 => vp_in r26 279 ∧ (za_let (za_up M25 (28, 0, 0) r26.toNatClampNeg x2) fun M28 => f_X10_loanAt y2 2 M28 (fun r31 M30 => vp_in r31 279 ∧ (za_let (za_up M30 (28, 0, 0) r31.toNatClampNeg x3) fun M33 => f_X10_loanAt y2 3 M33 (fun r36 M35 => vp_in r36 279 ∧ (za_let (za_up M35 (28, 0, 0) r36.toNatClampNeg x4) fun M38 => f_X10_loanAt y2 4 M38 (fun r41 M40 => vp_in 0 279 ∧ (za_let ((M40.1 (28, 0, 0) (Int32.toNatClampNeg 0)) + x5) fun y43 => vp_in r41 279 ∧ (za_let (za_up M40 (28, 0, 0) r41.toNatClampNeg y43) fun M46 => vp_in 3 279 ∧ (za_let ((M46.1 (28, 0, 0) (Int32.toNatClampNeg 3)) + 1) fun y49 => vp_in 3 279 ∧ (za_let (za_up M46 (28, 0, 0) (Int32.toNatClampNeg 3) y49) fun M52 => K y2 M52))))))))))))))))))))
section
variable {p : Program} {l : Launch} {e : Env} {s : State} {m : MethodId} {args : Array Value} {below : List Frame} {meth : Method} {c : Code} {g : za_L → Nat} {D : va_G} {cy : Nat → ClassId} {K : Int32 → za_M → Prop}
set_option maxRecDepth 100000 in
set_option maxHeartbeats 4000000 in
theorem p_X10_lendNow (hJ : za_J g) (C : za_C p s m args c cX10_lendNow 7 RX10 g D cy) (hr : meth.sig.returnType = (some .int)) (hk : meth.locks = false) {x1 : Int32} {x2 : Int32} {x3 : Int32} {x4 : Int32} {x5 : Int32} {M : za_M} (h : f_X10_lendNow x1 x2 x3 x4 x5 M K) : zt p l e (za_rm 2 85) s m args below meth c 0 0 (MQ below (za_Qi g D cy K) args s 0 0 (za_A g)) g D cy 7 M 0 [(0, .ref (g (27, 0, 0))), (1, .int x1), (2, .int x2), (3, .int x3), (4, .int x4), (5, .int x5)] [] := by
  unfold f_X10_lendNow at h
  refine zt_aload_n C 0 dX10_lendNow_0 rfl rfl ?_
  refine zt_get C (za_mem (j := 27) rfl (by decide) (by decide)) pf_X10_9 (za_E_27 g cy M 0 0) rfl dX10_lendNow_1 ?_
  refine zt_iconst C (v := 3) dX10_lendNow_4 zk_i3 ?_
  obtain ⟨g1, h⟩ := h
  refine zt_iald C (za_mem (j := 28) rfl (by decide) (by decide)) (fun W9 => za_E_28 g cy W9 0 0) g1 dX10_lendNow_5 ?_
  refine zt_topi (fun y2 e3 => ?_)
  replace h := za_use h e3
  refine zt_istore C [(6, .int y2), (0, .ref (g (27, 0, 0))), (1, .int x1), (2, .int x2), (3, .int x3), (4, .int x4), (5, .int x5)] dX10_lendNow_6 (by decide) rfl ?_
  refine zt_aload_n C 1 dX10_lendNow_8 rfl rfl ?_
  refine zt_get C (za_mem (j := 27) rfl (by decide) (by decide)) pf_X10_9 (za_E_27 g cy M 0 0) rfl dX10_lendNow_9 ?_
  refine zt_iload_n C 2 dX10_lendNow_12 rfl rfl ?_
  refine zt_iload_n C 4 dX10_lendNow_13 rfl rfl ?_
  refine zt_cSi C [.int x1, .int x3] (m_X10_storeAt hJ  h) py_X10_storeAt ps_X10_162 (Nat.le_of_ble_eq_true rfl) ⟨Nat.le_of_ble_eq_true rfl, Nat.le_of_ble_eq_true rfl⟩ ⟨Nat.zero_le _, Nat.zero_le _⟩ dX10_lendNow_14 rfl (fun r5 M4 h => ?_)
  refine zt_dup2_11 C dX10_lendNow_17 rfl rfl ?_
  obtain ⟨g6, h⟩ := h
  refine zt_iald C (za_mem (j := 28) rfl (by decide) (by decide)) (fun W9 => za_E_28 g cy W9 0 0) g6 dX10_lendNow_18 ?_
  refine zt_iload C 5 dX10_lendNow_19 rfl ?_
  refine zt_isub C dX10_lendNow_21 ?_
  refine zt_topi (fun y7 e8 => ?_)
  replace h := za_use h e8
  obtain ⟨g9, h⟩ := h
  refine zt_iast C (za_mem (j := 28) rfl (by decide) (by decide)) (fun W9 => za_E_28 g cy W9 0 0) g9 dX10_lendNow_22 ?_
  refine zt_topM (fun M10 e11 => ?_)
  replace h := za_use h e11
  refine zt_aload_n C 1 dX10_lendNow_23 rfl rfl ?_
  refine zt_get C (za_mem (j := 27) rfl (by decide) (by decide)) pf_X10_9 (za_E_27 g cy M10 0 0) rfl dX10_lendNow_24 ?_
  refine zt_iload_n C 3 dX10_lendNow_27 rfl rfl ?_
  refine zt_iload_n C 4 dX10_lendNow_28 rfl rfl ?_
  refine zt_cSi C [.int x2, .int x3] (m_X10_storeAt hJ  h) py_X10_storeAt ps_X10_162 (Nat.le_of_ble_eq_true rfl) ⟨Nat.le_of_ble_eq_true rfl, Nat.le_of_ble_eq_true rfl⟩ ⟨Nat.zero_le _, Nat.zero_le _⟩ dX10_lendNow_29 rfl (fun r13 M12 h => ?_)
  refine zt_dup2_11 C dX10_lendNow_32 rfl rfl ?_
  obtain ⟨g14, h⟩ := h
  refine zt_iald C (za_mem (j := 28) rfl (by decide) (by decide)) (fun W9 => za_E_28 g cy W9 0 0) g14 dX10_lendNow_33 ?_
  refine zt_iload C 5 dX10_lendNow_34 rfl ?_
  refine zt_iadd C dX10_lendNow_36 ?_
  refine zt_topi (fun y15 e16 => ?_)
  replace h := za_use h e16
  obtain ⟨g17, h⟩ := h
  refine zt_iast C (za_mem (j := 28) rfl (by decide) (by decide)) (fun W9 => za_E_28 g cy W9 0 0) g17 dX10_lendNow_37 ?_
  refine zt_topM (fun M18 e19 => ?_)
  replace h := za_use h e19
  refine zt_aload_n C 1 dX10_lendNow_38 rfl rfl ?_
  refine zt_get C (za_mem (j := 27) rfl (by decide) (by decide)) pf_X10_9 (za_E_27 g cy M18 0 0) rfl dX10_lendNow_39 ?_
  refine zt_iload C 0 dX10_lendNow_42 rfl ?_
  refine zt_iconst C (v := 0) dX10_lendNow_44 zk_i0 ?_
  refine zt_cSi C [.int y2, .int 0] (m_X10_loanAt hJ  h) py_X10_loanAt ps_X10_159 (Nat.le_of_ble_eq_true rfl) ⟨Nat.le_of_ble_eq_true rfl, Nat.le_of_ble_eq_true rfl⟩ ⟨Nat.zero_le _, Nat.zero_le _⟩ dX10_lendNow_45 rfl (fun r21 M20 h => ?_)
  refine zt_iload_n C 2 dX10_lendNow_48 rfl rfl ?_
  obtain ⟨g22, h⟩ := h
  refine zt_iast C (za_mem (j := 28) rfl (by decide) (by decide)) (fun W9 => za_E_28 g cy W9 0 0) g22 dX10_lendNow_49 ?_
  refine zt_topM (fun M23 e24 => ?_)
  replace h := za_use h e24
  refine zt_aload_n C 1 dX10_lendNow_50 rfl rfl ?_
  refine zt_get C (za_mem (j := 27) rfl (by decide) (by decide)) pf_X10_9 (za_E_27 g cy M23 0 0) rfl dX10_lendNow_51 ?_
  refine zt_iload C 0 dX10_lendNow_54 rfl ?_
  refine zt_iconst C (v := 1) dX10_lendNow_56 zk_i1 ?_
  refine zt_cSi C [.int y2, .int 1] (m_X10_loanAt hJ  h) py_X10_loanAt ps_X10_159 (Nat.le_of_ble_eq_true rfl) ⟨Nat.le_of_ble_eq_true rfl, Nat.le_of_ble_eq_true rfl⟩ ⟨Nat.zero_le _, Nat.zero_le _⟩ dX10_lendNow_57 rfl (fun r26 M25 h => ?_)
  refine zt_iload_n C 3 dX10_lendNow_60 rfl rfl ?_
  obtain ⟨g27, h⟩ := h
  refine zt_iast C (za_mem (j := 28) rfl (by decide) (by decide)) (fun W9 => za_E_28 g cy W9 0 0) g27 dX10_lendNow_61 ?_
  refine zt_topM (fun M28 e29 => ?_)
  replace h := za_use h e29
  refine zt_aload_n C 1 dX10_lendNow_62 rfl rfl ?_
  refine zt_get C (za_mem (j := 27) rfl (by decide) (by decide)) pf_X10_9 (za_E_27 g cy M28 0 0) rfl dX10_lendNow_63 ?_
  refine zt_iload C 0 dX10_lendNow_66 rfl ?_
  refine zt_iconst C (v := 2) dX10_lendNow_68 zk_i2 ?_
  refine zt_cSi C [.int y2, .int 2] (m_X10_loanAt hJ  h) py_X10_loanAt ps_X10_159 (Nat.le_of_ble_eq_true rfl) ⟨Nat.le_of_ble_eq_true rfl, Nat.le_of_ble_eq_true rfl⟩ ⟨Nat.zero_le _, Nat.zero_le _⟩ dX10_lendNow_69 rfl (fun r31 M30 h => ?_)
  refine zt_iload_n C 4 dX10_lendNow_72 rfl rfl ?_
  obtain ⟨g32, h⟩ := h
  refine zt_iast C (za_mem (j := 28) rfl (by decide) (by decide)) (fun W9 => za_E_28 g cy W9 0 0) g32 dX10_lendNow_73 ?_
  refine zt_topM (fun M33 e34 => ?_)
  replace h := za_use h e34
  refine zt_aload_n C 1 dX10_lendNow_74 rfl rfl ?_
  refine zt_get C (za_mem (j := 27) rfl (by decide) (by decide)) pf_X10_9 (za_E_27 g cy M33 0 0) rfl dX10_lendNow_75 ?_
  refine zt_iload C 0 dX10_lendNow_78 rfl ?_
  refine zt_iconst C (v := 3) dX10_lendNow_80 zk_i3 ?_
  refine zt_cSi C [.int y2, .int 3] (m_X10_loanAt hJ  h) py_X10_loanAt ps_X10_159 (Nat.le_of_ble_eq_true rfl) ⟨Nat.le_of_ble_eq_true rfl, Nat.le_of_ble_eq_true rfl⟩ ⟨Nat.zero_le _, Nat.zero_le _⟩ dX10_lendNow_81 rfl (fun r36 M35 h => ?_)
  refine zt_iload C 5 dX10_lendNow_84 rfl ?_
  obtain ⟨g37, h⟩ := h
  refine zt_iast C (za_mem (j := 28) rfl (by decide) (by decide)) (fun W9 => za_E_28 g cy W9 0 0) g37 dX10_lendNow_86 ?_
  refine zt_topM (fun M38 e39 => ?_)
  replace h := za_use h e39
  refine zt_aload_n C 1 dX10_lendNow_87 rfl rfl ?_
  refine zt_get C (za_mem (j := 27) rfl (by decide) (by decide)) pf_X10_9 (za_E_27 g cy M38 0 0) rfl dX10_lendNow_88 ?_
  refine zt_iload C 0 dX10_lendNow_91 rfl ?_
  refine zt_iconst C (v := 4) dX10_lendNow_93 zk_i4 ?_
  refine zt_cSi C [.int y2, .int 4] (m_X10_loanAt hJ  h) py_X10_loanAt ps_X10_159 (Nat.le_of_ble_eq_true rfl) ⟨Nat.le_of_ble_eq_true rfl, Nat.le_of_ble_eq_true rfl⟩ ⟨Nat.zero_le _, Nat.zero_le _⟩ dX10_lendNow_94 rfl (fun r41 M40 h => ?_)
  refine zt_aload_n C 1 dX10_lendNow_97 rfl rfl ?_
  refine zt_get C (za_mem (j := 27) rfl (by decide) (by decide)) pf_X10_9 (za_E_27 g cy M40 0 0) rfl dX10_lendNow_98 ?_
  refine zt_iconst C (v := 0) dX10_lendNow_101 zk_i0 ?_
  obtain ⟨g42, h⟩ := h
  refine zt_iald C (za_mem (j := 28) rfl (by decide) (by decide)) (fun W9 => za_E_28 g cy W9 0 0) g42 dX10_lendNow_102 ?_
  refine zt_iload C 6 dX10_lendNow_103 rfl ?_
  refine zt_iadd C dX10_lendNow_105 ?_
  refine zt_topi (fun y43 e44 => ?_)
  replace h := za_use h e44
  obtain ⟨g45, h⟩ := h
  refine zt_iast C (za_mem (j := 28) rfl (by decide) (by decide)) (fun W9 => za_E_28 g cy W9 0 0) g45 dX10_lendNow_106 ?_
  refine zt_topM (fun M46 e47 => ?_)
  replace h := za_use h e47
  refine zt_aload_n C 1 dX10_lendNow_107 rfl rfl ?_
  refine zt_get C (za_mem (j := 27) rfl (by decide) (by decide)) pf_X10_9 (za_E_27 g cy M46 0 0) rfl dX10_lendNow_108 ?_
  refine zt_iconst C (v := 3) dX10_lendNow_111 zk_i3 ?_
  refine zt_dup2_11 C dX10_lendNow_112 rfl rfl ?_
  obtain ⟨g48, h⟩ := h
  refine zt_iald C (za_mem (j := 28) rfl (by decide) (by decide)) (fun W9 => za_E_28 g cy W9 0 0) g48 dX10_lendNow_113 ?_
  refine zt_iconst C (v := 1) dX10_lendNow_114 zk_i1 ?_
  refine zt_iadd C dX10_lendNow_115 ?_
  refine zt_topi (fun y49 e50 => ?_)
  replace h := za_use h e50
  obtain ⟨g51, h⟩ := h
  refine zt_iast C (za_mem (j := 28) rfl (by decide) (by decide)) (fun W9 => za_E_28 g cy W9 0 0) g51 dX10_lendNow_116 ?_
  refine zt_topM (fun M52 e53 => ?_)
  replace h := za_use h e53
  refine zt_iload C 0 dX10_lendNow_117 rfl ?_
  exact zt_ret C hr hk rfl dX10_lendNow_119 h
end
theorem m_X10_lendNow {l : Launch} {g : za_L → Nat} {D : va_G} {cy : Nat → ClassId} (hJ : za_J g)  {x1 : Int32} {x2 : Int32} {x3 : Int32} {x4 : Int32} {x5 : Int32} {M : za_M} {K : Int32 → za_M → Prop} (h : f_X10_lendNow x1 x2 x3 x4 x5 M K) : za_Mi l g D cy yX10_lendNow cX10_lendNow 7 (some .int) 2 85 [.ref (g (27, 0, 0)), .int x1, .int x2, .int x3, .int x4, .int x5] M K := za_openi hJ (by decide) (Nat.le_of_ble_eq_true rfl) (fun p e s m args below meth c C hr hk => p_X10_lendNow hJ C hr hk  h)
/-! X10_canLend -/
def f_X10_canLend_b38 (K : Int32 → za_M → Prop) (M : za_M) : Prop :=
  K 0 M
def f_X10_canLend (x1 : Int32) (x2 : Int32) (x3 : Int32) (x4 : Int32) (M : za_M) (K : Int32 → za_M → Prop) : Prop :=
  f_X10_storeAt x1 x3 M (fun r2 M1 => vp_in r2 279 ∧ (if (M1.1 (28, 0, 0) r2.toNatClampNeg) < x4 then (f_X10_canLend_b38 K M1) else (f_X10_storeAt x2 x3 M1 (fun r6 M5 => vp_in r6 279 ∧ (if 999 < ((M5.1 (28, 0, 0) r6.toNatClampNeg) + x4) then (f_X10_canLend_b38 K M5) else (K 1 M5))))))
section
variable {p : Program} {l : Launch} {e : Env} {s : State} {m : MethodId} {args : Array Value} {below : List Frame} {meth : Method} {c : Code} {g : za_L → Nat} {D : va_G} {cy : Nat → ClassId} {K : Int32 → za_M → Prop}
set_option maxRecDepth 100000 in
set_option maxHeartbeats 4000000 in
theorem p_X10_canLend_b38 (hJ : za_J g) (C : za_C p s m args c cX10_canLend 5 RX10 g D cy) (hr : meth.sig.returnType = (some .boolean)) (hk : meth.locks = false) {M : za_M} (h : f_X10_canLend_b38 K M) : zt p l e (za_rm 2 85) s m args below meth c 0 0 (MQ below (za_Qi g D cy K) args s 0 0 (za_A g)) g D cy 5 M 38 [] [] := by
  unfold f_X10_canLend_b38 at h
  refine zt_iconst C (v := 0) dX10_canLend_38 zk_i0 ?_
  exact zt_ret C hr hk rfl dX10_canLend_39 h
set_option maxRecDepth 100000 in
set_option maxHeartbeats 4000000 in
theorem p_X10_canLend (hJ : za_J g) (C : za_C p s m args c cX10_canLend 5 RX10 g D cy) (hr : meth.sig.returnType = (some .boolean)) (hk : meth.locks = false) {x1 : Int32} {x2 : Int32} {x3 : Int32} {x4 : Int32} {M : za_M} (h : f_X10_canLend x1 x2 x3 x4 M K) : zt p l e (za_rm 2 85) s m args below meth c 0 0 (MQ below (za_Qi g D cy K) args s 0 0 (za_A g)) g D cy 5 M 0 [(0, .ref (g (27, 0, 0))), (1, .int x1), (2, .int x2), (3, .int x3), (4, .int x4)] [] := by
  unfold f_X10_canLend at h
  refine zt_aload_n C 0 dX10_canLend_0 rfl rfl ?_
  refine zt_get C (za_mem (j := 27) rfl (by decide) (by decide)) pf_X10_9 (za_E_27 g cy M 0 0) rfl dX10_canLend_1 ?_
  refine zt_iload_n C 1 dX10_canLend_4 rfl rfl ?_
  refine zt_iload_n C 3 dX10_canLend_5 rfl rfl ?_
  refine zt_cSi C [.int x1, .int x3] (m_X10_storeAt hJ  h) py_X10_storeAt ps_X10_162 (Nat.le_of_ble_eq_true rfl) ⟨Nat.le_of_ble_eq_true rfl, Nat.le_of_ble_eq_true rfl⟩ ⟨Nat.zero_le _, Nat.zero_le _⟩ dX10_canLend_6 rfl (fun r2 M1 h => ?_)
  obtain ⟨g3, h⟩ := h
  refine zt_iald C (za_mem (j := 28) rfl (by decide) (by decide)) (fun W9 => za_E_28 g cy W9 0 0) g3 dX10_canLend_9 ?_
  refine zt_iload C 4 dX10_canLend_10 rfl ?_
  refine zt_icmp_lt C 38 dX10_canLend_12 (by decide) (fun q4 => ?_) (fun q4 => ?_)
  · replace h := za_ifp h q4
    refine zt_sub [] (lv' := []) rfl ?_
    exact p_X10_canLend_b38 hJ C hr hk  h
  · replace h := za_ifn h q4
    refine zt_aload_n C 0 dX10_canLend_15 rfl rfl ?_
    refine zt_get C (za_mem (j := 27) rfl (by decide) (by decide)) pf_X10_9 (za_E_27 g cy M1 0 0) rfl dX10_canLend_16 ?_
    refine zt_iload_n C 2 dX10_canLend_19 rfl rfl ?_
    refine zt_iload_n C 3 dX10_canLend_20 rfl rfl ?_
    refine zt_cSi C [.int x2, .int x3] (m_X10_storeAt hJ  h) py_X10_storeAt ps_X10_162 (Nat.le_of_ble_eq_true rfl) ⟨Nat.le_of_ble_eq_true rfl, Nat.le_of_ble_eq_true rfl⟩ ⟨Nat.zero_le _, Nat.zero_le _⟩ dX10_canLend_21 rfl (fun r6 M5 h => ?_)
    obtain ⟨g7, h⟩ := h
    refine zt_iald C (za_mem (j := 28) rfl (by decide) (by decide)) (fun W9 => za_E_28 g cy W9 0 0) g7 dX10_canLend_24 ?_
    refine zt_iload C 4 dX10_canLend_25 rfl ?_
    refine zt_iadd C dX10_canLend_27 ?_
    refine zt_sipush C (v := 999) dX10_canLend_28 zk_s999 ?_
    refine zt_icmp_gt C 38 dX10_canLend_31 (by decide) (fun q8 => ?_) (fun q8 => ?_)
    · replace h := za_ifp h q8
      refine zt_sub [] (lv' := []) rfl ?_
      exact p_X10_canLend_b38 hJ C hr hk  h
    · replace h := za_ifn h q8
      refine zt_iconst C (v := 1) dX10_canLend_34 zk_i1 ?_
      refine zt_goto C 39 dX10_canLend_35 (by decide) ?_
      exact zt_ret C hr hk rfl dX10_canLend_39 h
end
theorem m_X10_canLend {l : Launch} {g : za_L → Nat} {D : va_G} {cy : Nat → ClassId} (hJ : za_J g)  {x1 : Int32} {x2 : Int32} {x3 : Int32} {x4 : Int32} {M : za_M} {K : Int32 → za_M → Prop} (h : f_X10_canLend x1 x2 x3 x4 M K) : za_Mi l g D cy yX10_canLend cX10_canLend 5 (some .boolean) 2 85 [.ref (g (27, 0, 0)), .int x1, .int x2, .int x3, .int x4] M K := za_openi hJ (by decide) (Nat.le_of_ble_eq_true rfl) (fun p e s m args below meth c C hr hk => p_X10_canLend hJ C hr hk  h)
/-! X10_lend -/
def f_X10_lend (x1 : Int32) (x2 : Int32) (x3 : Int32) (x4 : Int32) (x5 : Int32) (M : za_M) (K : Int32 → za_M → Prop) : Prop :=
  f_X10_isPotter x1 M (fun r2 M1 => if r2 = 0 then (f_X10_finding (-1000000001) M1 (fun r5 M4 => K r5 M4)) else (f_X10_isPotter x2 M1 (fun r7 M6 => if r7 = 0 then (f_X10_finding (-1000000001) M6 (fun r10 M9 => K r10 M9)) else (if x1 = x2 then (f_X10_finding (-1000000001) M6 (fun r13 M12 => K r13 M12)) else (f_X10_isAsh x3 M6 (fun r15 M14 => if r15 = 0 then (f_X10_finding (-1000000001) M14 (fun r18 M17 => K r18 M17)) else (f_X10_within x4 1 99 M14 (fun r20 M19 => if r20 = 0 then (f_X10_finding (-1000000001) M19 (fun r23 M22 => K r23 M22)) else (f_X10_within x5 1 60 M19 (fun r25 M24 => if r25 = 0 then (f_X10_finding (-1000000001) M24 (fun r39 M38 => K r39 M38)) else (f_X10_canLend x1 x2 x3 x4 M24 (fun r28 M27 => if r28 = 0 then (f_X10_finding (-1000000003) M27 (fun r37 M36 => K r37 M36)) else (vp_in 3 279 ∧ (if (M27.1 (28, 0, 0) (Int32.toNatClampNeg 3)) = 10 then (f_X10_finding (-1000000004) M27 (fun r35 M34 => K r35 M34)) else (f_X10_lendNow x1 x2 x3 x4 x5 M27 (fun r33 M32 => K r33 M32))))))))))))))))
section
variable {p : Program} {l : Launch} {e : Env} {s : State} {m : MethodId} {args : Array Value} {below : List Frame} {meth : Method} {c : Code} {g : za_L → Nat} {D : va_G} {cy : Nat → ClassId} {K : Int32 → za_M → Prop}
set_option maxRecDepth 100000 in
set_option maxHeartbeats 4000000 in
theorem p_X10_lend (hJ : za_J g) (C : za_C p s m args c cX10_lend 6 RX10 g D cy) (hr : meth.sig.returnType = (some .int)) (hk : meth.locks = false) {x1 : Int32} {x2 : Int32} {x3 : Int32} {x4 : Int32} {x5 : Int32} {M : za_M} (h : f_X10_lend x1 x2 x3 x4 x5 M K) : zt p l e (za_rm 3 111) s m args below meth c 0 0 (MQ below (za_Qi g D cy K) args s 0 0 (za_A g)) g D cy 6 M 0 [(0, .ref (g (27, 0, 0))), (1, .int x1), (2, .int x2), (3, .int x3), (4, .int x4), (5, .int x5)] [] := by
  unfold f_X10_lend at h
  refine zt_aload_n C 0 dX10_lend_0 rfl rfl ?_
  refine zt_iload_n C 1 dX10_lend_1 rfl rfl ?_
  refine zt_cVi C [.int x1] (m_X10_isPotter hJ  h) (za_mem (j := 27) rfl (by decide) (by decide)) (za_E_27 g cy M 0 0) rfl py_X10_isPotter pv_X10_197 (Nat.le_of_ble_eq_true rfl) ⟨Nat.le_of_ble_eq_true rfl, Nat.le_of_ble_eq_true rfl⟩ ⟨Nat.zero_le _, Nat.zero_le _⟩ dX10_lend_2 rfl (fun r2 M1 h => ?_)
  refine zt_if_eq C 51 dX10_lend_5 (by decide) (fun q3 => ?_) (fun q3 => ?_)
  · replace h := za_ifp h q3
    refine zt_aload_n C 0 dX10_lend_51 rfl rfl ?_
    refine zt_ldc C w_969 dX10_lend_52 ?_
    refine zt_cVi C [.int (-1000000001)] (m_X10_finding hJ  h) (za_mem (j := 27) rfl (by decide) (by decide)) (za_E_27 g cy M1 0 0) rfl py_X10_finding pv_X10_75 (Nat.le_of_ble_eq_true rfl) ⟨Nat.le_of_ble_eq_true rfl, Nat.le_of_ble_eq_true rfl⟩ ⟨Nat.zero_le _, Nat.zero_le _⟩ dX10_lend_54 rfl (fun r5 M4 h => ?_)
    exact zt_ret C hr hk rfl dX10_lend_57 h
  · replace h := za_ifn h q3
    refine zt_aload_n C 0 dX10_lend_8 rfl rfl ?_
    refine zt_iload_n C 2 dX10_lend_9 rfl rfl ?_
    refine zt_cVi C [.int x2] (m_X10_isPotter hJ  h) (za_mem (j := 27) rfl (by decide) (by decide)) (za_E_27 g cy M1 0 0) rfl py_X10_isPotter pv_X10_197 (Nat.le_of_ble_eq_true rfl) ⟨Nat.le_of_ble_eq_true rfl, Nat.le_of_ble_eq_true rfl⟩ ⟨Nat.zero_le _, Nat.zero_le _⟩ dX10_lend_10 rfl (fun r7 M6 h => ?_)
    refine zt_if_eq C 51 dX10_lend_13 (by decide) (fun q8 => ?_) (fun q8 => ?_)
    · replace h := za_ifp h q8
      refine zt_aload_n C 0 dX10_lend_51 rfl rfl ?_
      refine zt_ldc C w_969 dX10_lend_52 ?_
      refine zt_cVi C [.int (-1000000001)] (m_X10_finding hJ  h) (za_mem (j := 27) rfl (by decide) (by decide)) (za_E_27 g cy M6 0 0) rfl py_X10_finding pv_X10_75 (Nat.le_of_ble_eq_true rfl) ⟨Nat.le_of_ble_eq_true rfl, Nat.le_of_ble_eq_true rfl⟩ ⟨Nat.zero_le _, Nat.zero_le _⟩ dX10_lend_54 rfl (fun r10 M9 h => ?_)
      exact zt_ret C hr hk rfl dX10_lend_57 h
    · replace h := za_ifn h q8
      refine zt_iload_n C 1 dX10_lend_16 rfl rfl ?_
      refine zt_iload_n C 2 dX10_lend_17 rfl rfl ?_
      refine zt_icmp_eq C 51 dX10_lend_18 (by decide) (fun q11 => ?_) (fun q11 => ?_)
      · replace h := za_ifp h q11
        refine zt_aload_n C 0 dX10_lend_51 rfl rfl ?_
        refine zt_ldc C w_969 dX10_lend_52 ?_
        refine zt_cVi C [.int (-1000000001)] (m_X10_finding hJ  h) (za_mem (j := 27) rfl (by decide) (by decide)) (za_E_27 g cy M6 0 0) rfl py_X10_finding pv_X10_75 (Nat.le_of_ble_eq_true rfl) ⟨Nat.le_of_ble_eq_true rfl, Nat.le_of_ble_eq_true rfl⟩ ⟨Nat.zero_le _, Nat.zero_le _⟩ dX10_lend_54 rfl (fun r13 M12 h => ?_)
        exact zt_ret C hr hk rfl dX10_lend_57 h
      · replace h := za_ifn h q11
        refine zt_aload_n C 0 dX10_lend_21 rfl rfl ?_
        refine zt_iload_n C 3 dX10_lend_22 rfl rfl ?_
        refine zt_cVi C [.int x3] (m_X10_isAsh hJ  h) (za_mem (j := 27) rfl (by decide) (by decide)) (za_E_27 g cy M6 0 0) rfl py_X10_isAsh pv_X10_171 (Nat.le_of_ble_eq_true rfl) ⟨Nat.le_of_ble_eq_true rfl, Nat.le_of_ble_eq_true rfl⟩ ⟨Nat.zero_le _, Nat.zero_le _⟩ dX10_lend_23 rfl (fun r15 M14 h => ?_)
        refine zt_if_eq C 51 dX10_lend_26 (by decide) (fun q16 => ?_) (fun q16 => ?_)
        · replace h := za_ifp h q16
          refine zt_aload_n C 0 dX10_lend_51 rfl rfl ?_
          refine zt_ldc C w_969 dX10_lend_52 ?_
          refine zt_cVi C [.int (-1000000001)] (m_X10_finding hJ  h) (za_mem (j := 27) rfl (by decide) (by decide)) (za_E_27 g cy M14 0 0) rfl py_X10_finding pv_X10_75 (Nat.le_of_ble_eq_true rfl) ⟨Nat.le_of_ble_eq_true rfl, Nat.le_of_ble_eq_true rfl⟩ ⟨Nat.zero_le _, Nat.zero_le _⟩ dX10_lend_54 rfl (fun r18 M17 h => ?_)
          exact zt_ret C hr hk rfl dX10_lend_57 h
        · replace h := za_ifn h q16
          refine zt_iload C 4 dX10_lend_29 rfl ?_
          refine zt_iconst C (v := 1) dX10_lend_31 zk_i1 ?_
          refine zt_bipush C (v := 99) dX10_lend_32 zk_b99 ?_
          refine zt_cSi C [.int x4, .int 1, .int 99] (m_X10_within hJ  h) py_X10_within ps_X10_70 (Nat.le_of_ble_eq_true rfl) ⟨Nat.le_of_ble_eq_true rfl, Nat.le_of_ble_eq_true rfl⟩ ⟨Nat.zero_le _, Nat.zero_le _⟩ dX10_lend_34 rfl (fun r20 M19 h => ?_)
          refine zt_if_eq C 51 dX10_lend_37 (by decide) (fun q21 => ?_) (fun q21 => ?_)
          · replace h := za_ifp h q21
            refine zt_aload_n C 0 dX10_lend_51 rfl rfl ?_
            refine zt_ldc C w_969 dX10_lend_52 ?_
            refine zt_cVi C [.int (-1000000001)] (m_X10_finding hJ  h) (za_mem (j := 27) rfl (by decide) (by decide)) (za_E_27 g cy M19 0 0) rfl py_X10_finding pv_X10_75 (Nat.le_of_ble_eq_true rfl) ⟨Nat.le_of_ble_eq_true rfl, Nat.le_of_ble_eq_true rfl⟩ ⟨Nat.zero_le _, Nat.zero_le _⟩ dX10_lend_54 rfl (fun r23 M22 h => ?_)
            exact zt_ret C hr hk rfl dX10_lend_57 h
          · replace h := za_ifn h q21
            refine zt_iload C 5 dX10_lend_40 rfl ?_
            refine zt_iconst C (v := 1) dX10_lend_42 zk_i1 ?_
            refine zt_bipush C (v := 60) dX10_lend_43 zk_b60 ?_
            refine zt_cSi C [.int x5, .int 1, .int 60] (m_X10_within hJ  h) py_X10_within ps_X10_70 (Nat.le_of_ble_eq_true rfl) ⟨Nat.le_of_ble_eq_true rfl, Nat.le_of_ble_eq_true rfl⟩ ⟨Nat.zero_le _, Nat.zero_le _⟩ dX10_lend_45 rfl (fun r25 M24 h => ?_)
            refine zt_if_ne C 58 dX10_lend_48 (by decide) (fun q26 => ?_) (fun q26 => ?_)
            · replace h := za_ifn h q26
              refine zt_aload_n C 0 dX10_lend_58 rfl rfl ?_
              refine zt_iload_n C 1 dX10_lend_59 rfl rfl ?_
              refine zt_iload_n C 2 dX10_lend_60 rfl rfl ?_
              refine zt_iload_n C 3 dX10_lend_61 rfl rfl ?_
              refine zt_iload C 4 dX10_lend_62 rfl ?_
              refine zt_cVi C [.int x1, .int x2, .int x3, .int x4] (m_X10_canLend hJ  h) (za_mem (j := 27) rfl (by decide) (by decide)) (za_E_27 g cy M24 0 0) rfl py_X10_canLend pv_X10_233 (Nat.le_of_ble_eq_true rfl) ⟨Nat.le_of_ble_eq_true rfl, Nat.le_of_ble_eq_true rfl⟩ ⟨Nat.zero_le _, Nat.zero_le _⟩ dX10_lend_64 rfl (fun r28 M27 h => ?_)
              refine zt_if_ne C 77 dX10_lend_67 (by decide) (fun q29 => ?_) (fun q29 => ?_)
              · replace h := za_ifn h q29
                refine zt_aload_n C 0 dX10_lend_77 rfl rfl ?_
                refine zt_get C (za_mem (j := 27) rfl (by decide) (by decide)) pf_X10_9 (za_E_27 g cy M27 0 0) rfl dX10_lend_78 ?_
                refine zt_iconst C (v := 3) dX10_lend_81 zk_i3 ?_
                obtain ⟨g30, h⟩ := h
                refine zt_iald C (za_mem (j := 28) rfl (by decide) (by decide)) (fun W9 => za_E_28 g cy W9 0 0) g30 dX10_lend_82 ?_
                refine zt_bipush C (v := 10) dX10_lend_83 zk_b10 ?_
                refine zt_icmp_ne C 97 dX10_lend_85 (by decide) (fun q31 => ?_) (fun q31 => ?_)
                · replace h := za_ifn h q31
                  refine zt_aload_n C 0 dX10_lend_97 rfl rfl ?_
                  refine zt_iload_n C 1 dX10_lend_98 rfl rfl ?_
                  refine zt_iload_n C 2 dX10_lend_99 rfl rfl ?_
                  refine zt_iload_n C 3 dX10_lend_100 rfl rfl ?_
                  refine zt_iload C 4 dX10_lend_101 rfl ?_
                  refine zt_iload C 5 dX10_lend_103 rfl ?_
                  refine zt_cVi C [.int x1, .int x2, .int x3, .int x4, .int x5] (m_X10_lendNow hJ  h) (za_mem (j := 27) rfl (by decide) (by decide)) (za_E_27 g cy M27 0 0) rfl py_X10_lendNow pv_X10_237 (Nat.le_of_ble_eq_true rfl) ⟨Nat.le_of_ble_eq_true rfl, Nat.le_of_ble_eq_true rfl⟩ ⟨Nat.zero_le _, Nat.zero_le _⟩ dX10_lend_105 rfl (fun r33 M32 h => ?_)
                  exact zt_ret C hr hk rfl dX10_lend_108 h
                · replace h := za_ifp h q31
                  refine zt_aload_n C 0 dX10_lend_88 rfl rfl ?_
                  refine zt_ldc C w_975 dX10_lend_89 ?_
                  refine zt_cVi C [.int (-1000000004)] (m_X10_finding hJ  h) (za_mem (j := 27) rfl (by decide) (by decide)) (za_E_27 g cy M27 0 0) rfl py_X10_finding pv_X10_75 (Nat.le_of_ble_eq_true rfl) ⟨Nat.le_of_ble_eq_true rfl, Nat.le_of_ble_eq_true rfl⟩ ⟨Nat.zero_le _, Nat.zero_le _⟩ dX10_lend_91 rfl (fun r35 M34 h => ?_)
                  refine zt_goto C 108 dX10_lend_94 (by decide) ?_
                  exact zt_ret C hr hk rfl dX10_lend_108 h
              · replace h := za_ifp h q29
                refine zt_aload_n C 0 dX10_lend_70 rfl rfl ?_
                refine zt_ldc C w_1224 dX10_lend_71 ?_
                refine zt_cVi C [.int (-1000000003)] (m_X10_finding hJ  h) (za_mem (j := 27) rfl (by decide) (by decide)) (za_E_27 g cy M27 0 0) rfl py_X10_finding pv_X10_75 (Nat.le_of_ble_eq_true rfl) ⟨Nat.le_of_ble_eq_true rfl, Nat.le_of_ble_eq_true rfl⟩ ⟨Nat.zero_le _, Nat.zero_le _⟩ dX10_lend_73 rfl (fun r37 M36 h => ?_)
                exact zt_ret C hr hk rfl dX10_lend_76 h
            · replace h := za_ifp h q26
              refine zt_aload_n C 0 dX10_lend_51 rfl rfl ?_
              refine zt_ldc C w_969 dX10_lend_52 ?_
              refine zt_cVi C [.int (-1000000001)] (m_X10_finding hJ  h) (za_mem (j := 27) rfl (by decide) (by decide)) (za_E_27 g cy M24 0 0) rfl py_X10_finding pv_X10_75 (Nat.le_of_ble_eq_true rfl) ⟨Nat.le_of_ble_eq_true rfl, Nat.le_of_ble_eq_true rfl⟩ ⟨Nat.zero_le _, Nat.zero_le _⟩ dX10_lend_54 rfl (fun r39 M38 h => ?_)
              exact zt_ret C hr hk rfl dX10_lend_57 h
end
theorem m_X10_lend {l : Launch} {g : za_L → Nat} {D : va_G} {cy : Nat → ClassId} (hJ : za_J g)  {x1 : Int32} {x2 : Int32} {x3 : Int32} {x4 : Int32} {x5 : Int32} {M : za_M} {K : Int32 → za_M → Prop} (h : f_X10_lend x1 x2 x3 x4 x5 M K) : za_Mi l g D cy yX10_lend cX10_lend 6 (some .int) 3 111 [.ref (g (27, 0, 0)), .int x1, .int x2, .int x3, .int x4, .int x5] M K := za_openi hJ (by decide) (Nat.le_of_ble_eq_true rfl) (fun p e s m args below meth c C hr hk => p_X10_lend hJ C hr hk  h)
/-! X10_ofLoan -/
def f_X10_ofLoan_b26 (K : Int32 → za_M → Prop) (M : za_M) : Prop :=
  f_X10_finding (-1000000001) M (fun r2 M1 => K r2 M1)
def f_X10_ofLoan (x1 : Int32) (x2 : Int32) (M : za_M) (K : Int32 → za_M → Prop) : Prop :=
  f_X10_isLoan x1 M (fun r4 M3 => if r4 = 0 then (f_X10_ofLoan_b26 K M3) else (f_X10_within x2 0 4 M3 (fun r7 M6 => if r7 = 0 then (f_X10_ofLoan_b26 K M6) else (f_X10_loanIs x1 x2 M6 (fun r10 M9 => K r10 M9)))))
section
variable {p : Program} {l : Launch} {e : Env} {s : State} {m : MethodId} {args : Array Value} {below : List Frame} {meth : Method} {c : Code} {g : za_L → Nat} {D : va_G} {cy : Nat → ClassId} {K : Int32 → za_M → Prop}
set_option maxRecDepth 100000 in
set_option maxHeartbeats 4000000 in
theorem p_X10_ofLoan_b26 (hJ : za_J g) (C : za_C p s m args c cX10_ofLoan 3 RX10 g D cy) (hr : meth.sig.returnType = (some .int)) (hk : meth.locks = false) {M : za_M} (h : f_X10_ofLoan_b26 K M) : zt p l e (za_rm 3 107) s m args below meth c 0 0 (MQ below (za_Qi g D cy K) args s 0 0 (za_A g)) g D cy 3 M 26 [(0, .ref (g (27, 0, 0)))] [] := by
  unfold f_X10_ofLoan_b26 at h
  refine zt_aload_n C 0 dX10_ofLoan_26 rfl rfl ?_
  refine zt_ldc C w_969 dX10_ofLoan_27 ?_
  refine zt_cVi C [.int (-1000000001)] (m_X10_finding hJ  h) (za_mem (j := 27) rfl (by decide) (by decide)) (za_E_27 g cy M 0 0) rfl py_X10_finding pv_X10_75 (Nat.le_of_ble_eq_true rfl) ⟨Nat.le_of_ble_eq_true rfl, Nat.le_of_ble_eq_true rfl⟩ ⟨Nat.zero_le _, Nat.zero_le _⟩ dX10_ofLoan_29 rfl (fun r2 M1 h => ?_)
  exact zt_ret C hr hk rfl dX10_ofLoan_32 h
set_option maxRecDepth 100000 in
set_option maxHeartbeats 4000000 in
theorem p_X10_ofLoan (hJ : za_J g) (C : za_C p s m args c cX10_ofLoan 3 RX10 g D cy) (hr : meth.sig.returnType = (some .int)) (hk : meth.locks = false) {x1 : Int32} {x2 : Int32} {M : za_M} (h : f_X10_ofLoan x1 x2 M K) : zt p l e (za_rm 3 107) s m args below meth c 0 0 (MQ below (za_Qi g D cy K) args s 0 0 (za_A g)) g D cy 3 M 0 [(0, .ref (g (27, 0, 0))), (1, .int x1), (2, .int x2)] [] := by
  unfold f_X10_ofLoan at h
  refine zt_aload_n C 0 dX10_ofLoan_0 rfl rfl ?_
  refine zt_iload_n C 1 dX10_ofLoan_1 rfl rfl ?_
  refine zt_cVi C [.int x1] (m_X10_isLoan hJ  h) (za_mem (j := 27) rfl (by decide) (by decide)) (za_E_27 g cy M 0 0) rfl py_X10_isLoan pv_X10_241 (Nat.le_of_ble_eq_true rfl) ⟨Nat.le_of_ble_eq_true rfl, Nat.le_of_ble_eq_true rfl⟩ ⟨Nat.zero_le _, Nat.zero_le _⟩ dX10_ofLoan_2 rfl (fun r4 M3 h => ?_)
  refine zt_if_eq C 26 dX10_ofLoan_5 (by decide) (fun q5 => ?_) (fun q5 => ?_)
  · replace h := za_ifp h q5
    refine zt_sub [0] (lv' := [(0, .ref (g (27, 0, 0)))]) rfl ?_
    exact p_X10_ofLoan_b26 hJ C hr hk  h
  · replace h := za_ifn h q5
    refine zt_iload_n C 2 dX10_ofLoan_8 rfl rfl ?_
    refine zt_iconst C (v := 0) dX10_ofLoan_9 zk_i0 ?_
    refine zt_iconst C (v := 4) dX10_ofLoan_10 zk_i4 ?_
    refine zt_cSi C [.int x2, .int 0, .int 4] (m_X10_within hJ  h) py_X10_within ps_X10_70 (Nat.le_of_ble_eq_true rfl) ⟨Nat.le_of_ble_eq_true rfl, Nat.le_of_ble_eq_true rfl⟩ ⟨Nat.zero_le _, Nat.zero_le _⟩ dX10_ofLoan_11 rfl (fun r7 M6 h => ?_)
    refine zt_if_eq C 26 dX10_ofLoan_14 (by decide) (fun q8 => ?_) (fun q8 => ?_)
    · replace h := za_ifp h q8
      refine zt_sub [0] (lv' := [(0, .ref (g (27, 0, 0)))]) rfl ?_
      exact p_X10_ofLoan_b26 hJ C hr hk  h
    · replace h := za_ifn h q8
      refine zt_aload_n C 0 dX10_ofLoan_17 rfl rfl ?_
      refine zt_iload_n C 1 dX10_ofLoan_18 rfl rfl ?_
      refine zt_iload_n C 2 dX10_ofLoan_19 rfl rfl ?_
      refine zt_cVi C [.int x1, .int x2] (m_X10_loanIs hJ  h) (za_mem (j := 27) rfl (by decide) (by decide)) (za_E_27 g cy M6 0 0) rfl py_X10_loanIs pv_X10_194 (Nat.le_of_ble_eq_true rfl) ⟨Nat.le_of_ble_eq_true rfl, Nat.le_of_ble_eq_true rfl⟩ ⟨Nat.zero_le _, Nat.zero_le _⟩ dX10_ofLoan_20 rfl (fun r10 M9 h => ?_)
      refine zt_goto C 32 dX10_ofLoan_23 (by decide) ?_
      exact zt_ret C hr hk rfl dX10_ofLoan_32 h
end
theorem m_X10_ofLoan {l : Launch} {g : za_L → Nat} {D : va_G} {cy : Nat → ClassId} (hJ : za_J g)  {x1 : Int32} {x2 : Int32} {M : za_M} {K : Int32 → za_M → Prop} (h : f_X10_ofLoan x1 x2 M K) : za_Mi l g D cy yX10_ofLoan cX10_ofLoan 3 (some .int) 3 107 [.ref (g (27, 0, 0)), .int x1, .int x2] M K := za_openi hJ (by decide) (Nat.le_of_ble_eq_true rfl) (fun p e s m args below meth c C hr hk => p_X10_ofLoan hJ C hr hk  h)
/-! X10_canGiveBack -/
def f_X10_canGiveBack (x1 : Int32) (M : za_M) (K : Int32 → za_M → Prop) : Prop :=
  f_X10_loanIs x1 1 M (fun r2 M1 => f_X10_loanIs x1 2 M1 (fun r4 M3 => f_X10_storeAt r2 r4 M3 (fun r6 M5 => vp_in r6 279 ∧ (f_X10_loanIs x1 3 M5 (fun r9 M8 => if (M5.1 (28, 0, 0) r6.toNatClampNeg) < r9 then (K 0 M8) else (K 1 M8))))))
section
variable {p : Program} {l : Launch} {e : Env} {s : State} {m : MethodId} {args : Array Value} {below : List Frame} {meth : Method} {c : Code} {g : za_L → Nat} {D : va_G} {cy : Nat → ClassId} {K : Int32 → za_M → Prop}
set_option maxRecDepth 100000 in
set_option maxHeartbeats 4000000 in
theorem p_X10_canGiveBack (hJ : za_J g) (C : za_C p s m args c cX10_canGiveBack 2 RX10 g D cy) (hr : meth.sig.returnType = (some .boolean)) (hk : meth.locks = false) {x1 : Int32} {M : za_M} (h : f_X10_canGiveBack x1 M K) : zt p l e (za_rm 3 107) s m args below meth c 0 0 (MQ below (za_Qi g D cy K) args s 0 0 (za_A g)) g D cy 2 M 0 [(0, .ref (g (27, 0, 0))), (1, .int x1)] [] := by
  unfold f_X10_canGiveBack at h
  refine zt_aload_n C 0 dX10_canGiveBack_0 rfl rfl ?_
  refine zt_get C (za_mem (j := 27) rfl (by decide) (by decide)) pf_X10_9 (za_E_27 g cy M 0 0) rfl dX10_canGiveBack_1 ?_
  refine zt_aload_n C 0 dX10_canGiveBack_4 rfl rfl ?_
  refine zt_iload_n C 1 dX10_canGiveBack_5 rfl rfl ?_
  refine zt_iconst C (v := 1) dX10_canGiveBack_6 zk_i1 ?_
  refine zt_cVi C [.int x1, .int 1] (m_X10_loanIs hJ  h) (za_mem (j := 27) rfl (by decide) (by decide)) (za_E_27 g cy M 0 0) rfl py_X10_loanIs pv_X10_194 (Nat.le_of_ble_eq_true rfl) ⟨Nat.le_of_ble_eq_true rfl, Nat.le_of_ble_eq_true rfl⟩ ⟨Nat.zero_le _, Nat.zero_le _⟩ dX10_canGiveBack_7 rfl (fun r2 M1 h => ?_)
  refine zt_aload_n C 0 dX10_canGiveBack_10 rfl rfl ?_
  refine zt_iload_n C 1 dX10_canGiveBack_11 rfl rfl ?_
  refine zt_iconst C (v := 2) dX10_canGiveBack_12 zk_i2 ?_
  refine zt_cVi C [.int x1, .int 2] (m_X10_loanIs hJ  h) (za_mem (j := 27) rfl (by decide) (by decide)) (za_E_27 g cy M1 0 0) rfl py_X10_loanIs pv_X10_194 (Nat.le_of_ble_eq_true rfl) ⟨Nat.le_of_ble_eq_true rfl, Nat.le_of_ble_eq_true rfl⟩ ⟨Nat.zero_le _, Nat.zero_le _⟩ dX10_canGiveBack_13 rfl (fun r4 M3 h => ?_)
  refine zt_cSi C [.int r2, .int r4] (m_X10_storeAt hJ  h) py_X10_storeAt ps_X10_162 (Nat.le_of_ble_eq_true rfl) ⟨Nat.le_of_ble_eq_true rfl, Nat.le_of_ble_eq_true rfl⟩ ⟨Nat.zero_le _, Nat.zero_le _⟩ dX10_canGiveBack_16 rfl (fun r6 M5 h => ?_)
  obtain ⟨g7, h⟩ := h
  refine zt_iald C (za_mem (j := 28) rfl (by decide) (by decide)) (fun W9 => za_E_28 g cy W9 0 0) g7 dX10_canGiveBack_19 ?_
  refine zt_aload_n C 0 dX10_canGiveBack_20 rfl rfl ?_
  refine zt_iload_n C 1 dX10_canGiveBack_21 rfl rfl ?_
  refine zt_iconst C (v := 3) dX10_canGiveBack_22 zk_i3 ?_
  refine zt_cVi C [.int x1, .int 3] (m_X10_loanIs hJ  h) (za_mem (j := 27) rfl (by decide) (by decide)) (za_E_27 g cy M5 0 0) rfl py_X10_loanIs pv_X10_194 (Nat.le_of_ble_eq_true rfl) ⟨Nat.le_of_ble_eq_true rfl, Nat.le_of_ble_eq_true rfl⟩ ⟨Nat.zero_le _, Nat.zero_le _⟩ dX10_canGiveBack_23 rfl (fun r9 M8 h => ?_)
  refine zt_icmp_lt C 33 dX10_canGiveBack_26 (by decide) (fun q10 => ?_) (fun q10 => ?_)
  · replace h := za_ifp h q10
    refine zt_iconst C (v := 0) dX10_canGiveBack_33 zk_i0 ?_
    exact zt_ret C hr hk rfl dX10_canGiveBack_34 h
  · replace h := za_ifn h q10
    refine zt_iconst C (v := 1) dX10_canGiveBack_29 zk_i1 ?_
    refine zt_goto C 34 dX10_canGiveBack_30 (by decide) ?_
    exact zt_ret C hr hk rfl dX10_canGiveBack_34 h
end
theorem m_X10_canGiveBack {l : Launch} {g : za_L → Nat} {D : va_G} {cy : Nat → ClassId} (hJ : za_J g)  {x1 : Int32} {M : za_M} {K : Int32 → za_M → Prop} (h : f_X10_canGiveBack x1 M K) : za_Mi l g D cy yX10_canGiveBack cX10_canGiveBack 2 (some .boolean) 3 107 [.ref (g (27, 0, 0)), .int x1] M K := za_openi hJ (by decide) (Nat.le_of_ble_eq_true rfl) (fun p e s m args below meth c C hr hk => p_X10_canGiveBack hJ C hr hk  h)
/-! X10_goes -/
def f_X10_goes_b16 (K : za_M → Prop) (L2 : Int32 → za_M → Prop) (x2 : Int32) (L16 : Int32 → za_M → Prop) (x3 : Int32) (M : za_M) : Prop :=
  if 5 ≤ x3 then (L2 (x2 + 1) M) else (f_X10_loanAt x2 x3 M (fun r3 M2 => f_X10_loanIs (x2 + 1) x3 M2 (fun r5 M4 => vp_in r3 279 ∧ (za_let (za_up M4 (28, 0, 0) r3.toNatClampNeg r5) fun M7 => L16 (x3 + 1) M7))))
def f_X10_goes_b2 (K : za_M → Prop) (L2 : Int32 → za_M → Prop) (x2 : Int32) (M : za_M) : Prop :=
  vp_in 3 279 ∧ (if (M.1 (28, 0, 0) (Int32.toNatClampNeg 3)) ≤ (x2 + 1) then (vp_in 3 279 ∧ (za_let ((M.1 (28, 0, 0) (Int32.toNatClampNeg 3)) - 1) fun y12 => vp_in 3 279 ∧ (za_let (za_up M (28, 0, 0) (Int32.toNatClampNeg 3) y12) fun M15 => K M15))) else (∃ n, za_lp1 (f_X10_goes_b16 K L2 x2) n 0 M))
def f_X10_goes (x1 : Int32) (M : za_M) (K : za_M → Prop) : Prop :=
  ∃ n, za_lp1 (f_X10_goes_b2 K) n x1 M
section
variable {p : Program} {l : Launch} {e : Env} {s : State} {m : MethodId} {args : Array Value} {below : List Frame} {meth : Method} {c : Code} {g : za_L → Nat} {D : va_G} {cy : Nat → ClassId} {K : za_M → Prop}
set_option maxRecDepth 100000 in
set_option maxHeartbeats 4000000 in
theorem p_X10_goes_b16 (hJ : za_J g) (C : za_C p s m args c cX10_goes 4 RX10 g D cy) (hr : meth.sig.returnType = none) (hk : meth.locks = false) {x2 : Int32} {L2 : Int32 → za_M → Prop} (hL2 : ∀ (x2 : Int32) (M : za_M), L2 x2 M → zt p l e (za_rm 3 107) s m args below meth c 0 0 (MQ below (za_Qv g D cy K) args s 0 0 (za_A g)) g D cy 4 M 2 [(0, .ref (g (27, 0, 0))), (2, .int x2)] []) {L16 : Int32 → za_M → Prop} (hL16 : ∀ (x3 : Int32) (M : za_M), L16 x3 M → zt p l e (za_rm 3 107) s m args below meth c 0 0 (MQ below (za_Qv g D cy K) args s 0 0 (za_A g)) g D cy 4 M 16 [(0, .ref (g (27, 0, 0))), (2, .int x2), (3, .int x3)] []) : ∀ (x3 : Int32) (M : za_M), f_X10_goes_b16 K L2 x2 L16 x3 M → zt p l e (za_rm 3 107) s m args below meth c 0 0 (MQ below (za_Qv g D cy K) args s 0 0 (za_A g)) g D cy 4 M 16 [(0, .ref (g (27, 0, 0))), (2, .int x2), (3, .int x3)] [] := by
  intro x3 M h
  unfold f_X10_goes_b16 at h
  refine zt_iload_n C 2 dX10_goes_16 rfl rfl ?_
  refine zt_iconst C (v := 5) dX10_goes_17 zk_i5 ?_
  refine zt_icmp_ge C 45 dX10_goes_18 (by decide) (fun q1 => ?_) (fun q1 => ?_)
  · replace h := za_ifp h q1
    refine zt_iinc C (v := x2 + 1) 1 [(2, .int (x2 + 1)), (0, .ref (g (27, 0, 0))), (3, .int x3)] dX10_goes_45 rfl (zk_n1 _) (by decide) rfl ?_
    refine zt_goto C 2 dX10_goes_48 (by decide) ?_
    refine zt_sub [1, 0] (lv' := [(0, .ref (g (27, 0, 0))), (2, .int (x2 + 1))]) rfl ?_
    exact hL2 _ _ h
  · replace h := za_ifn h q1
    refine zt_aload_n C 0 dX10_goes_21 rfl rfl ?_
    refine zt_get C (za_mem (j := 27) rfl (by decide) (by decide)) pf_X10_9 (za_E_27 g cy M 0 0) rfl dX10_goes_22 ?_
    refine zt_iload_n C 1 dX10_goes_25 rfl rfl ?_
    refine zt_iload_n C 2 dX10_goes_26 rfl rfl ?_
    refine zt_cSi C [.int x2, .int x3] (m_X10_loanAt hJ  h) py_X10_loanAt ps_X10_159 (Nat.le_of_ble_eq_true rfl) ⟨Nat.le_of_ble_eq_true rfl, Nat.le_of_ble_eq_true rfl⟩ ⟨Nat.zero_le _, Nat.zero_le _⟩ dX10_goes_27 rfl (fun r3 M2 h => ?_)
    refine zt_aload_n C 0 dX10_goes_30 rfl rfl ?_
    refine zt_iload_n C 1 dX10_goes_31 rfl rfl ?_
    refine zt_iconst C (v := 1) dX10_goes_32 zk_i1 ?_
    refine zt_iadd C dX10_goes_33 ?_
    refine zt_iload_n C 2 dX10_goes_34 rfl rfl ?_
    refine zt_cVi C [.int (x2 + 1), .int x3] (m_X10_loanIs hJ  h) (za_mem (j := 27) rfl (by decide) (by decide)) (za_E_27 g cy M2 0 0) rfl py_X10_loanIs pv_X10_194 (Nat.le_of_ble_eq_true rfl) ⟨Nat.le_of_ble_eq_true rfl, Nat.le_of_ble_eq_true rfl⟩ ⟨Nat.zero_le _, Nat.zero_le _⟩ dX10_goes_35 rfl (fun r5 M4 h => ?_)
    obtain ⟨g6, h⟩ := h
    refine zt_iast C (za_mem (j := 28) rfl (by decide) (by decide)) (fun W9 => za_E_28 g cy W9 0 0) g6 dX10_goes_38 ?_
    refine zt_topM (fun M7 e8 => ?_)
    replace h := za_use h e8
    refine zt_iinc C (v := x3 + 1) 2 [(3, .int (x3 + 1)), (0, .ref (g (27, 0, 0))), (2, .int x2)] dX10_goes_39 rfl (zk_n1 _) (by decide) rfl ?_
    refine zt_goto C 16 dX10_goes_42 (by decide) ?_
    refine zt_sub [1, 2, 0] (lv' := [(0, .ref (g (27, 0, 0))), (2, .int x2), (3, .int (x3 + 1))]) rfl ?_
    exact hL16 _ _ h
theorem p_X10_goes_b16_in (hJ : za_J g) (C : za_C p s m args c cX10_goes 4 RX10 g D cy) (hr : meth.sig.returnType = none) (hk : meth.locks = false) {x2 : Int32} {L2 : Int32 → za_M → Prop} (hL2 : ∀ (x2 : Int32) (M : za_M), L2 x2 M → zt p l e (za_rm 3 107) s m args below meth c 0 0 (MQ below (za_Qv g D cy K) args s 0 0 (za_A g)) g D cy 4 M 2 [(0, .ref (g (27, 0, 0))), (2, .int x2)] []) {n : Nat} {x3 : Int32} {M : za_M} (h : za_lp1 (f_X10_goes_b16 K L2 x2) n x3 M) : zt p l e (za_rm 3 107) s m args below meth c 0 0 (MQ below (za_Qv g D cy K) args s 0 0 (za_A g)) g D cy 4 M 16 [(0, .ref (g (27, 0, 0))), (2, .int x2), (3, .int x3)] [] := za_lp1_run (Z := fun x3 M => zt p l e (za_rm 3 107) s m args below meth c 0 0 (MQ below (za_Qv g D cy K) args s 0 0 (za_A g)) g D cy 4 M 16 [(0, .ref (g (27, 0, 0))), (2, .int x2), (3, .int x3)] []) (fun L hL => p_X10_goes_b16 hJ C hr hk hL2 hL) n x3 M h
set_option maxRecDepth 100000 in
set_option maxHeartbeats 4000000 in
theorem p_X10_goes_b2 (hJ : za_J g) (C : za_C p s m args c cX10_goes 4 RX10 g D cy) (hr : meth.sig.returnType = none) (hk : meth.locks = false) {L2 : Int32 → za_M → Prop} (hL2 : ∀ (x2 : Int32) (M : za_M), L2 x2 M → zt p l e (za_rm 3 107) s m args below meth c 0 0 (MQ below (za_Qv g D cy K) args s 0 0 (za_A g)) g D cy 4 M 2 [(0, .ref (g (27, 0, 0))), (2, .int x2)] []) : ∀ (x2 : Int32) (M : za_M), f_X10_goes_b2 K L2 x2 M → zt p l e (za_rm 3 107) s m args below meth c 0 0 (MQ below (za_Qv g D cy K) args s 0 0 (za_A g)) g D cy 4 M 2 [(0, .ref (g (27, 0, 0))), (2, .int x2)] [] := by
  intro x2 M h
  unfold f_X10_goes_b2 at h
  refine zt_iload_n C 1 dX10_goes_2 rfl rfl ?_
  refine zt_iconst C (v := 1) dX10_goes_3 zk_i1 ?_
  refine zt_iadd C dX10_goes_4 ?_
  refine zt_aload_n C 0 dX10_goes_5 rfl rfl ?_
  refine zt_get C (za_mem (j := 27) rfl (by decide) (by decide)) pf_X10_9 (za_E_27 g cy M 0 0) rfl dX10_goes_6 ?_
  refine zt_iconst C (v := 3) dX10_goes_9 zk_i3 ?_
  obtain ⟨g9, h⟩ := h
  refine zt_iald C (za_mem (j := 28) rfl (by decide) (by decide)) (fun W9 => za_E_28 g cy W9 0 0) g9 dX10_goes_10 ?_
  refine zt_icmp_ge C 51 dX10_goes_11 (by decide) (fun q10 => ?_) (fun q10 => ?_)
  · replace h := za_ifp h q10
    refine zt_aload_n C 0 dX10_goes_51 rfl rfl ?_
    refine zt_get C (za_mem (j := 27) rfl (by decide) (by decide)) pf_X10_9 (za_E_27 g cy M 0 0) rfl dX10_goes_52 ?_
    refine zt_iconst C (v := 3) dX10_goes_55 zk_i3 ?_
    refine zt_dup2_11 C dX10_goes_56 rfl rfl ?_
    obtain ⟨g11, h⟩ := h
    refine zt_iald C (za_mem (j := 28) rfl (by decide) (by decide)) (fun W9 => za_E_28 g cy W9 0 0) g11 dX10_goes_57 ?_
    refine zt_iconst C (v := 1) dX10_goes_58 zk_i1 ?_
    refine zt_isub C dX10_goes_59 ?_
    refine zt_topi (fun y12 e13 => ?_)
    replace h := za_use h e13
    obtain ⟨g14, h⟩ := h
    refine zt_iast C (za_mem (j := 28) rfl (by decide) (by decide)) (fun W9 => za_E_28 g cy W9 0 0) g14 dX10_goes_60 ?_
    refine zt_topM (fun M15 e16 => ?_)
    replace h := za_use h e16
    exact zt_vret C hr hk dX10_goes_61 h
  · replace h := za_ifn h q10
    refine zt_iconst C (v := 0) dX10_goes_14 zk_i0 ?_
    refine zt_istore_n C [(3, .int 0), (0, .ref (g (27, 0, 0))), (2, .int x2)] dX10_goes_15 rfl (by decide) rfl ?_
    refine zt_sub [1, 2, 0] (lv' := [(0, .ref (g (27, 0, 0))), (2, .int x2), (3, .int 0)]) rfl ?_
    obtain ⟨n, h⟩ := h
    exact p_X10_goes_b16_in hJ C hr hk hL2 h
theorem p_X10_goes_b2_in (hJ : za_J g) (C : za_C p s m args c cX10_goes 4 RX10 g D cy) (hr : meth.sig.returnType = none) (hk : meth.locks = false) {n : Nat} {x2 : Int32} {M : za_M} (h : za_lp1 (f_X10_goes_b2 K) n x2 M) : zt p l e (za_rm 3 107) s m args below meth c 0 0 (MQ below (za_Qv g D cy K) args s 0 0 (za_A g)) g D cy 4 M 2 [(0, .ref (g (27, 0, 0))), (2, .int x2)] [] := za_lp1_run (Z := fun x2 M => zt p l e (za_rm 3 107) s m args below meth c 0 0 (MQ below (za_Qv g D cy K) args s 0 0 (za_A g)) g D cy 4 M 2 [(0, .ref (g (27, 0, 0))), (2, .int x2)] []) (fun L hL => p_X10_goes_b2 hJ C hr hk  hL) n x2 M h
set_option maxRecDepth 100000 in
set_option maxHeartbeats 4000000 in
theorem p_X10_goes (hJ : za_J g) (C : za_C p s m args c cX10_goes 4 RX10 g D cy) (hr : meth.sig.returnType = none) (hk : meth.locks = false) {x1 : Int32} {M : za_M} (h : f_X10_goes x1 M K) : zt p l e (za_rm 3 107) s m args below meth c 0 0 (MQ below (za_Qv g D cy K) args s 0 0 (za_A g)) g D cy 4 M 0 [(0, .ref (g (27, 0, 0))), (1, .int x1)] [] := by
  unfold f_X10_goes at h
  refine zt_iload_n C 1 dX10_goes_0 rfl rfl ?_
  refine zt_istore_n C [(2, .int x1), (0, .ref (g (27, 0, 0))), (1, .int x1)] dX10_goes_1 rfl (by decide) rfl ?_
  refine zt_sub [1, 0] (lv' := [(0, .ref (g (27, 0, 0))), (2, .int x1)]) rfl ?_
  obtain ⟨n, h⟩ := h
  exact p_X10_goes_b2_in hJ C hr hk  h
end
theorem m_X10_goes {l : Launch} {g : za_L → Nat} {D : va_G} {cy : Nat → ClassId} (hJ : za_J g)  {x1 : Int32} {M : za_M} {K : za_M → Prop} (h : f_X10_goes x1 M K) : za_Mv l g D cy yX10_goes cX10_goes 4 none 3 107 [.ref (g (27, 0, 0)), .int x1] M K := za_openv hJ (by decide) (Nat.le_of_ble_eq_true rfl) (fun p e s m args below meth c C hr hk => p_X10_goes hJ C hr hk  h)

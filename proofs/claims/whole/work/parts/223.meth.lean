/-! X10_givesBack -/
def f_X10_givesBack (x1 : Int32) (M : za_M) (K : Int32 → za_M → Prop) : Prop :=
  f_X10_loanIs x1 2 M (fun r2 M1 => f_X10_loanIs x1 3 M1 (fun r4 M3 => f_X10_ashIs r2 1 M3 (fun r6 M5 => vp_in 0 279 ∧ (f_X10_given 1 r4 r6 (M5.1 (28, 0, 0) (Int32.toNatClampNeg 0)) M5 (fun r9 M8 => f_X10_loanIs x1 0 M8 (fun r11 M10 => f_X10_storeAt r11 r2 M10 (fun r13 M12 => f_X10_loanIs x1 1 M12 (fun r15 M14 => f_X10_storeAt r15 r2 M14 (fun r17 M16 => vp_in r17 279 ∧ (za_let ((M16.1 (28, 0, 0) r17.toNatClampNeg) - r4) fun y19 => vp_in r17 279 ∧ (za_let (za_up M16 (28, 0, 0) r17.toNatClampNeg y19) fun M22 => vp_in r13 279 ∧ (za_let (za_min 999 ((M22.1 (28, 0, 0) r13.toNatClampNeg) + r9)) fun y25 => vp_in r13 279 ∧ (za_let (za_up M22 (28, 0, 0) r13.toNatClampNeg y25) fun M28 => f_X10_goes x1 M28 (fun M30 => K r9 M30))))))))))))))
section
variable {p : Program} {l : Launch} {e : Env} {s : State} {m : MethodId} {args : Array Value} {below : List Frame} {meth : Method} {c : Code} {g : za_L → Nat} {D : va_G} {cy : Nat → ClassId} {K : Int32 → za_M → Prop}
set_option maxRecDepth 100000 in
set_option maxHeartbeats 4000000 in
theorem p_X10_givesBack (hJ : za_J g) (C : za_C p s m args c cX10_givesBack 6 RX10 g D cy) (hr : meth.sig.returnType = (some .int)) (hk : meth.locks = false) {x1 : Int32} {M : za_M} (h : f_X10_givesBack x1 M K) : zt p l e (za_rm 4 135) s m args below meth c 0 0 (MQ below (za_Qi g D cy K) args s 0 0 (za_A g)) g D cy 6 M 0 [(0, .ref (g (27, 0, 0))), (1, .int x1)] [] := by
  unfold f_X10_givesBack at h
  refine zt_aload_n C 0 dX10_givesBack_0 rfl rfl ?_
  refine zt_iload_n C 1 dX10_givesBack_1 rfl rfl ?_
  refine zt_iconst C (v := 2) dX10_givesBack_2 zk_i2 ?_
  refine zt_cVi C [.int x1, .int 2] (m_X10_loanIs hJ  h) (za_mem (j := 27) rfl (by decide) (by decide)) (za_E_27 g cy M 0 0) rfl py_X10_loanIs pv_X10_194 (Nat.le_of_ble_eq_true rfl) ⟨Nat.le_of_ble_eq_true rfl, Nat.le_of_ble_eq_true rfl⟩ ⟨Nat.zero_le _, Nat.zero_le _⟩ dX10_givesBack_3 rfl (fun r2 M1 h => ?_)
  refine zt_istore_n C [(2, .int r2), (0, .ref (g (27, 0, 0))), (1, .int x1)] dX10_givesBack_6 rfl (by decide) rfl ?_
  refine zt_aload_n C 1 dX10_givesBack_7 rfl rfl ?_
  refine zt_iload_n C 2 dX10_givesBack_8 rfl rfl ?_
  refine zt_iconst C (v := 3) dX10_givesBack_9 zk_i3 ?_
  refine zt_cVi C [.int x1, .int 3] (m_X10_loanIs hJ  h) (za_mem (j := 27) rfl (by decide) (by decide)) (za_E_27 g cy M1 0 0) rfl py_X10_loanIs pv_X10_194 (Nat.le_of_ble_eq_true rfl) ⟨Nat.le_of_ble_eq_true rfl, Nat.le_of_ble_eq_true rfl⟩ ⟨Nat.zero_le _, Nat.zero_le _⟩ dX10_givesBack_10 rfl (fun r4 M3 h => ?_)
  refine zt_istore_n C [(3, .int r4), (2, .int r2), (0, .ref (g (27, 0, 0))), (1, .int x1)] dX10_givesBack_13 rfl (by decide) rfl ?_
  refine zt_aload_n C 2 dX10_givesBack_14 rfl rfl ?_
  refine zt_iconst C (v := 1) dX10_givesBack_15 zk_i1 ?_
  refine zt_iload_n C 0 dX10_givesBack_16 rfl rfl ?_
  refine zt_aload_n C 2 dX10_givesBack_17 rfl rfl ?_
  refine zt_iload_n C 1 dX10_givesBack_18 rfl rfl ?_
  refine zt_iconst C (v := 1) dX10_givesBack_19 zk_i1 ?_
  refine zt_cVi C [.int r2, .int 1] (m_X10_ashIs hJ  h) (za_mem (j := 27) rfl (by decide) (by decide)) (za_E_27 g cy M3 0 0) rfl py_X10_ashIs pv_X10_177 (Nat.le_of_ble_eq_true rfl) ⟨Nat.le_of_ble_eq_true rfl, Nat.le_of_ble_eq_true rfl⟩ ⟨Nat.zero_le _, Nat.zero_le _⟩ dX10_givesBack_20 rfl (fun r6 M5 h => ?_)
  refine zt_aload_n C 2 dX10_givesBack_23 rfl rfl ?_
  refine zt_get C (za_mem (j := 27) rfl (by decide) (by decide)) pf_X10_9 (za_E_27 g cy M5 0 0) rfl dX10_givesBack_24 ?_
  refine zt_iconst C (v := 0) dX10_givesBack_27 zk_i0 ?_
  obtain ⟨g7, h⟩ := h
  refine zt_iald C (za_mem (j := 28) rfl (by decide) (by decide)) (fun W9 => za_E_28 g cy W9 0 0) g7 dX10_givesBack_28 ?_
  refine zt_cVi C [.int 1, .int r4, .int r6, .int (M5.1 (28, 0, 0) (Int32.toNatClampNeg 0))] (m_X10_given hJ  h) (za_mem (j := 27) rfl (by decide) (by decide)) (za_E_27 g cy M5 0 0) rfl py_X10_given pv_X10_152 (Nat.le_of_ble_eq_true rfl) ⟨Nat.le_of_ble_eq_true rfl, Nat.le_of_ble_eq_true rfl⟩ ⟨Nat.zero_le _, Nat.zero_le _⟩ dX10_givesBack_29 rfl (fun r9 M8 h => ?_)
  refine zt_istore C [(4, .int r9), (3, .int r4), (2, .int r2), (0, .ref (g (27, 0, 0))), (1, .int x1)] dX10_givesBack_32 (by decide) rfl ?_
  refine zt_aload_n C 3 dX10_givesBack_34 rfl rfl ?_
  refine zt_iload_n C 4 dX10_givesBack_35 rfl rfl ?_
  refine zt_iconst C (v := 0) dX10_givesBack_36 zk_i0 ?_
  refine zt_cVi C [.int x1, .int 0] (m_X10_loanIs hJ  h) (za_mem (j := 27) rfl (by decide) (by decide)) (za_E_27 g cy M8 0 0) rfl py_X10_loanIs pv_X10_194 (Nat.le_of_ble_eq_true rfl) ⟨Nat.le_of_ble_eq_true rfl, Nat.le_of_ble_eq_true rfl⟩ ⟨Nat.zero_le _, Nat.zero_le _⟩ dX10_givesBack_37 rfl (fun r11 M10 h => ?_)
  refine zt_iload_n C 2 dX10_givesBack_40 rfl rfl ?_
  refine zt_cSi C [.int r11, .int r2] (m_X10_storeAt hJ  h) py_X10_storeAt ps_X10_162 (Nat.le_of_ble_eq_true rfl) ⟨Nat.le_of_ble_eq_true rfl, Nat.le_of_ble_eq_true rfl⟩ ⟨Nat.zero_le _, Nat.zero_le _⟩ dX10_givesBack_41 rfl (fun r13 M12 h => ?_)
  refine zt_istore C [(5, .int r13), (4, .int r9), (3, .int r4), (2, .int r2), (0, .ref (g (27, 0, 0))), (1, .int x1)] dX10_givesBack_44 (by decide) rfl ?_
  refine zt_aload_n C 4 dX10_givesBack_46 rfl rfl ?_
  refine zt_get C (za_mem (j := 27) rfl (by decide) (by decide)) pf_X10_9 (za_E_27 g cy M12 0 0) rfl dX10_givesBack_47 ?_
  refine zt_aload_n C 4 dX10_givesBack_50 rfl rfl ?_
  refine zt_iload_n C 5 dX10_givesBack_51 rfl rfl ?_
  refine zt_iconst C (v := 1) dX10_givesBack_52 zk_i1 ?_
  refine zt_cVi C [.int x1, .int 1] (m_X10_loanIs hJ  h) (za_mem (j := 27) rfl (by decide) (by decide)) (za_E_27 g cy M12 0 0) rfl py_X10_loanIs pv_X10_194 (Nat.le_of_ble_eq_true rfl) ⟨Nat.le_of_ble_eq_true rfl, Nat.le_of_ble_eq_true rfl⟩ ⟨Nat.zero_le _, Nat.zero_le _⟩ dX10_givesBack_53 rfl (fun r15 M14 h => ?_)
  refine zt_iload_n C 3 dX10_givesBack_56 rfl rfl ?_
  refine zt_cSi C [.int r15, .int r2] (m_X10_storeAt hJ  h) py_X10_storeAt ps_X10_162 (Nat.le_of_ble_eq_true rfl) ⟨Nat.le_of_ble_eq_true rfl, Nat.le_of_ble_eq_true rfl⟩ ⟨Nat.zero_le _, Nat.zero_le _⟩ dX10_givesBack_57 rfl (fun r17 M16 h => ?_)
  refine zt_dup2_11 C dX10_givesBack_60 rfl rfl ?_
  obtain ⟨g18, h⟩ := h
  refine zt_iald C (za_mem (j := 28) rfl (by decide) (by decide)) (fun W9 => za_E_28 g cy W9 0 0) g18 dX10_givesBack_61 ?_
  refine zt_iload_n C 2 dX10_givesBack_62 rfl rfl ?_
  refine zt_isub C dX10_givesBack_63 ?_
  refine zt_topi (fun y19 e20 => ?_)
  replace h := za_use h e20
  obtain ⟨g21, h⟩ := h
  refine zt_iast C (za_mem (j := 28) rfl (by decide) (by decide)) (fun W9 => za_E_28 g cy W9 0 0) g21 dX10_givesBack_64 ?_
  refine zt_topM (fun M22 e23 => ?_)
  replace h := za_use h e23
  refine zt_aload_n C 4 dX10_givesBack_65 rfl rfl ?_
  refine zt_get C (za_mem (j := 27) rfl (by decide) (by decide)) pf_X10_9 (za_E_27 g cy M22 0 0) rfl dX10_givesBack_66 ?_
  refine zt_iload C 0 dX10_givesBack_69 rfl ?_
  refine zt_sipush C (v := 999) dX10_givesBack_71 zk_s999 ?_
  refine zt_aload_n C 4 dX10_givesBack_74 rfl rfl ?_
  refine zt_get C (za_mem (j := 27) rfl (by decide) (by decide)) pf_X10_9 (za_E_27 g cy M22 0 0) rfl dX10_givesBack_75 ?_
  refine zt_iload C 0 dX10_givesBack_78 rfl ?_
  obtain ⟨g24, h⟩ := h
  refine zt_iald C (za_mem (j := 28) rfl (by decide) (by decide)) (fun W9 => za_E_28 g cy W9 0 0) g24 dX10_givesBack_80 ?_
  refine zt_iload C 1 dX10_givesBack_81 rfl ?_
  refine zt_iadd C dX10_givesBack_83 ?_
  refine zt_mmin C w_1091 w_702 w_91 w_703 (Nat.le_of_ble_eq_true rfl) (Nat.le_of_ble_eq_true rfl) (Nat.zero_le _) (Nat.zero_le _) dX10_givesBack_84 ?_
  refine zt_topi (fun y25 e26 => ?_)
  replace h := za_use h e26
  obtain ⟨g27, h⟩ := h
  refine zt_iast C (za_mem (j := 28) rfl (by decide) (by decide)) (fun W9 => za_E_28 g cy W9 0 0) g27 dX10_givesBack_87 ?_
  refine zt_topM (fun M28 e29 => ?_)
  replace h := za_use h e29
  refine zt_aload_n C 4 dX10_givesBack_88 rfl rfl ?_
  refine zt_iload_n C 5 dX10_givesBack_89 rfl rfl ?_
  refine zt_cVv C [.int x1] (m_X10_goes hJ  h) (za_mem (j := 27) rfl (by decide) (by decide)) (za_E_27 g cy M28 0 0) rfl py_X10_goes pv_X10_244 (Nat.le_of_ble_eq_true rfl) ⟨Nat.le_of_ble_eq_true rfl, Nat.le_of_ble_eq_true rfl⟩ ⟨Nat.zero_le _, Nat.zero_le _⟩ dX10_givesBack_90 rfl (fun M30 h => ?_)
  refine zt_iload C 1 dX10_givesBack_93 rfl ?_
  exact zt_ret C hr hk rfl dX10_givesBack_95 h
end
theorem m_X10_givesBack {l : Launch} {g : za_L → Nat} {D : va_G} {cy : Nat → ClassId} (hJ : za_J g)  {x1 : Int32} {M : za_M} {K : Int32 → za_M → Prop} (h : f_X10_givesBack x1 M K) : za_Mi l g D cy yX10_givesBack cX10_givesBack 6 (some .int) 4 135 [.ref (g (27, 0, 0)), .int x1] M K := za_openi hJ (by decide) (Nat.le_of_ble_eq_true rfl) (fun p e s m args below meth c C hr hk => p_X10_givesBack hJ C hr hk  h)
/-! X10_back -/
def f_X10_back (x1 : Int32) (M : za_M) (K : Int32 → za_M → Prop) : Prop :=
  f_X10_isLoan x1 M (fun r2 M1 => if r2 = 0 then (f_X10_finding (-1000000001) M1 (fun r12 M11 => K r12 M11)) else (f_X10_canGiveBack x1 M1 (fun r5 M4 => if r5 = 0 then (f_X10_finding (-1000000003) M4 (fun r8 M7 => K r8 M7)) else (f_X10_givesBack x1 M4 (fun r10 M9 => K r10 M9)))))
section
variable {p : Program} {l : Launch} {e : Env} {s : State} {m : MethodId} {args : Array Value} {below : List Frame} {meth : Method} {c : Code} {g : za_L → Nat} {D : va_G} {cy : Nat → ClassId} {K : Int32 → za_M → Prop}
set_option maxRecDepth 100000 in
set_option maxHeartbeats 4000000 in
theorem p_X10_back (hJ : za_J g) (C : za_C p s m args c cX10_back 2 RX10 g D cy) (hr : meth.sig.returnType = (some .int)) (hk : meth.locks = false) {x1 : Int32} {M : za_M} (h : f_X10_back x1 M K) : zt p l e (za_rm 5 160) s m args below meth c 0 0 (MQ below (za_Qi g D cy K) args s 0 0 (za_A g)) g D cy 2 M 0 [(0, .ref (g (27, 0, 0))), (1, .int x1)] [] := by
  unfold f_X10_back at h
  refine zt_aload_n C 0 dX10_back_0 rfl rfl ?_
  refine zt_iload_n C 1 dX10_back_1 rfl rfl ?_
  refine zt_cVi C [.int x1] (m_X10_isLoan hJ  h) (za_mem (j := 27) rfl (by decide) (by decide)) (za_E_27 g cy M 0 0) rfl py_X10_isLoan pv_X10_241 (Nat.le_of_ble_eq_true rfl) ⟨Nat.le_of_ble_eq_true rfl, Nat.le_of_ble_eq_true rfl⟩ ⟨Nat.zero_le _, Nat.zero_le _⟩ dX10_back_2 rfl (fun r2 M1 h => ?_)
  refine zt_if_ne C 15 dX10_back_5 (by decide) (fun q3 => ?_) (fun q3 => ?_)
  · replace h := za_ifn h q3
    refine zt_aload_n C 0 dX10_back_15 rfl rfl ?_
    refine zt_iload_n C 1 dX10_back_16 rfl rfl ?_
    refine zt_cVi C [.int x1] (m_X10_canGiveBack hJ  h) (za_mem (j := 27) rfl (by decide) (by decide)) (za_E_27 g cy M1 0 0) rfl py_X10_canGiveBack pv_X10_247 (Nat.le_of_ble_eq_true rfl) ⟨Nat.le_of_ble_eq_true rfl, Nat.le_of_ble_eq_true rfl⟩ ⟨Nat.zero_le _, Nat.zero_le _⟩ dX10_back_17 rfl (fun r5 M4 h => ?_)
    refine zt_if_eq C 31 dX10_back_20 (by decide) (fun q6 => ?_) (fun q6 => ?_)
    · replace h := za_ifp h q6
      refine zt_aload_n C 0 dX10_back_31 rfl rfl ?_
      refine zt_ldc C w_1224 dX10_back_32 ?_
      refine zt_cVi C [.int (-1000000003)] (m_X10_finding hJ  h) (za_mem (j := 27) rfl (by decide) (by decide)) (za_E_27 g cy M4 0 0) rfl py_X10_finding pv_X10_75 (Nat.le_of_ble_eq_true rfl) ⟨Nat.le_of_ble_eq_true rfl, Nat.le_of_ble_eq_true rfl⟩ ⟨Nat.zero_le _, Nat.zero_le _⟩ dX10_back_34 rfl (fun r8 M7 h => ?_)
      exact zt_ret C hr hk rfl dX10_back_37 h
    · replace h := za_ifn h q6
      refine zt_aload_n C 0 dX10_back_23 rfl rfl ?_
      refine zt_iload_n C 1 dX10_back_24 rfl rfl ?_
      refine zt_cVi C [.int x1] (m_X10_givesBack hJ  h) (za_mem (j := 27) rfl (by decide) (by decide)) (za_E_27 g cy M4 0 0) rfl py_X10_givesBack pv_X10_250 (Nat.le_of_ble_eq_true rfl) ⟨Nat.le_of_ble_eq_true rfl, Nat.le_of_ble_eq_true rfl⟩ ⟨Nat.zero_le _, Nat.zero_le _⟩ dX10_back_25 rfl (fun r10 M9 h => ?_)
      refine zt_goto C 37 dX10_back_28 (by decide) ?_
      exact zt_ret C hr hk rfl dX10_back_37 h
  · replace h := za_ifp h q3
    refine zt_aload_n C 0 dX10_back_8 rfl rfl ?_
    refine zt_ldc C w_969 dX10_back_9 ?_
    refine zt_cVi C [.int (-1000000001)] (m_X10_finding hJ  h) (za_mem (j := 27) rfl (by decide) (by decide)) (za_E_27 g cy M1 0 0) rfl py_X10_finding pv_X10_75 (Nat.le_of_ble_eq_true rfl) ⟨Nat.le_of_ble_eq_true rfl, Nat.le_of_ble_eq_true rfl⟩ ⟨Nat.zero_le _, Nat.zero_le _⟩ dX10_back_11 rfl (fun r12 M11 h => ?_)
    exact zt_ret C hr hk rfl dX10_back_14 h
end
theorem m_X10_back {l : Launch} {g : za_L → Nat} {D : va_G} {cy : Nat → ClassId} (hJ : za_J g)  {x1 : Int32} {M : za_M} {K : Int32 → za_M → Prop} (h : f_X10_back x1 M K) : za_Mi l g D cy yX10_back cX10_back 2 (some .int) 5 160 [.ref (g (27, 0, 0)), .int x1] M K := za_openi hJ (by decide) (Nat.le_of_ble_eq_true rfl) (fun p e s m args below meth c C hr hk => p_X10_back hJ C hr hk  h)
/-! X10_breaksOne -/
def f_X10_breaksOne (x1 : Int32) (M : za_M) (K : za_M → Prop) : Prop :=
  f_X10_loanIs x1 1 M (fun r2 M1 => f_X10_potterAt r2 1 M1 (fun r4 M3 => vp_in r4 279 ∧ (za_let (za_min 99 ((M3.1 (28, 0, 0) r4.toNatClampNeg) + 1)) fun y6 => vp_in r4 279 ∧ (za_let (za_up M3 (28, 0, 0) r4.toNatClampNeg y6) fun M9 => f_X10_goes x1 M9 (fun M11 => K M11)))))
section
variable {p : Program} {l : Launch} {e : Env} {s : State} {m : MethodId} {args : Array Value} {below : List Frame} {meth : Method} {c : Code} {g : za_L → Nat} {D : va_G} {cy : Nat → ClassId} {K : za_M → Prop}
set_option maxRecDepth 100000 in
set_option maxHeartbeats 4000000 in
theorem p_X10_breaksOne (hJ : za_J g) (C : za_C p s m args c cX10_breaksOne 3 RX10 g D cy) (hr : meth.sig.returnType = none) (hk : meth.locks = false) {x1 : Int32} {M : za_M} (h : f_X10_breaksOne x1 M K) : zt p l e (za_rm 4 130) s m args below meth c 0 0 (MQ below (za_Qv g D cy K) args s 0 0 (za_A g)) g D cy 3 M 0 [(0, .ref (g (27, 0, 0))), (1, .int x1)] [] := by
  unfold f_X10_breaksOne at h
  refine zt_aload_n C 0 dX10_breaksOne_0 rfl rfl ?_
  refine zt_iload_n C 1 dX10_breaksOne_1 rfl rfl ?_
  refine zt_iconst C (v := 1) dX10_breaksOne_2 zk_i1 ?_
  refine zt_cVi C [.int x1, .int 1] (m_X10_loanIs hJ  h) (za_mem (j := 27) rfl (by decide) (by decide)) (za_E_27 g cy M 0 0) rfl py_X10_loanIs pv_X10_194 (Nat.le_of_ble_eq_true rfl) ⟨Nat.le_of_ble_eq_true rfl, Nat.le_of_ble_eq_true rfl⟩ ⟨Nat.zero_le _, Nat.zero_le _⟩ dX10_breaksOne_3 rfl (fun r2 M1 h => ?_)
  refine zt_iconst C (v := 1) dX10_breaksOne_6 zk_i1 ?_
  refine zt_cSi C [.int r2, .int 1] (m_X10_potterAt hJ  h) py_X10_potterAt ps_X10_191 (Nat.le_of_ble_eq_true rfl) ⟨Nat.le_of_ble_eq_true rfl, Nat.le_of_ble_eq_true rfl⟩ ⟨Nat.zero_le _, Nat.zero_le _⟩ dX10_breaksOne_7 rfl (fun r4 M3 h => ?_)
  refine zt_istore_n C [(2, .int r4), (0, .ref (g (27, 0, 0))), (1, .int x1)] dX10_breaksOne_10 rfl (by decide) rfl ?_
  refine zt_aload_n C 1 dX10_breaksOne_11 rfl rfl ?_
  refine zt_get C (za_mem (j := 27) rfl (by decide) (by decide)) pf_X10_9 (za_E_27 g cy M3 0 0) rfl dX10_breaksOne_12 ?_
  refine zt_iload_n C 0 dX10_breaksOne_15 rfl rfl ?_
  refine zt_bipush C (v := 99) dX10_breaksOne_16 zk_b99 ?_
  refine zt_aload_n C 1 dX10_breaksOne_18 rfl rfl ?_
  refine zt_get C (za_mem (j := 27) rfl (by decide) (by decide)) pf_X10_9 (za_E_27 g cy M3 0 0) rfl dX10_breaksOne_19 ?_
  refine zt_iload_n C 0 dX10_breaksOne_22 rfl rfl ?_
  obtain ⟨g5, h⟩ := h
  refine zt_iald C (za_mem (j := 28) rfl (by decide) (by decide)) (fun W9 => za_E_28 g cy W9 0 0) g5 dX10_breaksOne_23 ?_
  refine zt_iconst C (v := 1) dX10_breaksOne_24 zk_i1 ?_
  refine zt_iadd C dX10_breaksOne_25 ?_
  refine zt_mmin C w_1091 w_702 w_91 w_703 (Nat.le_of_ble_eq_true rfl) (Nat.le_of_ble_eq_true rfl) (Nat.zero_le _) (Nat.zero_le _) dX10_breaksOne_26 ?_
  refine zt_topi (fun y6 e7 => ?_)
  replace h := za_use h e7
  obtain ⟨g8, h⟩ := h
  refine zt_iast C (za_mem (j := 28) rfl (by decide) (by decide)) (fun W9 => za_E_28 g cy W9 0 0) g8 dX10_breaksOne_29 ?_
  refine zt_topM (fun M9 e10 => ?_)
  replace h := za_use h e10
  refine zt_aload_n C 1 dX10_breaksOne_30 rfl rfl ?_
  refine zt_iload_n C 2 dX10_breaksOne_31 rfl rfl ?_
  refine zt_cVv C [.int x1] (m_X10_goes hJ  h) (za_mem (j := 27) rfl (by decide) (by decide)) (za_E_27 g cy M9 0 0) rfl py_X10_goes pv_X10_244 (Nat.le_of_ble_eq_true rfl) ⟨Nat.le_of_ble_eq_true rfl, Nat.le_of_ble_eq_true rfl⟩ ⟨Nat.zero_le _, Nat.zero_le _⟩ dX10_breaksOne_32 rfl (fun M11 h => ?_)
  exact zt_vret C hr hk dX10_breaksOne_35 h
end
theorem m_X10_breaksOne {l : Launch} {g : za_L → Nat} {D : va_G} {cy : Nat → ClassId} (hJ : za_J g)  {x1 : Int32} {M : za_M} {K : za_M → Prop} (h : f_X10_breaksOne x1 M K) : za_Mv l g D cy yX10_breaksOne cX10_breaksOne 3 none 4 130 [.ref (g (27, 0, 0)), .int x1] M K := za_openv hJ (by decide) (Nat.le_of_ble_eq_true rfl) (fun p e s m args below meth c C hr hk => p_X10_breaksOne hJ C hr hk  h)
/-! X10_day -/
def f_X10_day_b78 (K : za_M → Prop) (L78 : Int32 → za_M → Prop) (x1 : Int32) (M : za_M) : Prop :=
  vp_in 3 279 ∧ (if (M.1 (28, 0, 0) (Int32.toNatClampNeg 3)) ≤ x1 then (K M) else (f_X10_loanIs x1 4 M (fun r4 M3 => vp_in 0 279 ∧ (if r4 = (M3.1 (28, 0, 0) (Int32.toNatClampNeg 0)) then (f_X10_canGiveBack x1 M3 (fun r8 M7 => if r8 = 0 then (f_X10_breaksOne x1 M7 (fun M10 => L78 x1 M10)) else (f_X10_givesBack x1 M7 (fun r13 M12 => L78 x1 M12)))) else (L78 (x1 + 1) M3)))))
def f_X10_day_b70 (K : za_M → Prop) (L12 : Int32 → za_M → Prop) (x1 : Int32) (M : za_M) : Prop :=
  L12 (x1 + 1) M
def f_X10_day_b12 (K : za_M → Prop) (L12 : Int32 → za_M → Prop) (x1 : Int32) (M : za_M) : Prop :=
  vp_in 1 279 ∧ (if (M.1 (28, 0, 0) (Int32.toNatClampNeg 1)) ≤ x1 then (∃ n, za_lp1 (f_X10_day_b78 K) n 0 M) else (f_X10_ashIs x1 3 M (fun r17 M16 => f_X10_isPotter r17 M16 (fun r19 M18 => if r19 = 0 then (f_X10_day_b70 K L12 x1 M18) else (f_X10_storeAt r17 x1 M18 (fun r22 M21 => f_X10_storeAt r17 x1 M21 (fun r24 M23 => vp_in r24 279 ∧ (f_X10_ashIs x1 2 M23 (fun r27 M26 => za_let (za_min 999 ((M23.1 (28, 0, 0) r24.toNatClampNeg) + r27)) fun y28 => vp_in r22 279 ∧ (za_let (za_up M26 (28, 0, 0) r22.toNatClampNeg y28) fun M31 => f_X10_day_b70 K L12 x1 M31))))))))))
def f_X10_day (M : za_M) (K : za_M → Prop) : Prop :=
  vp_in 0 279 ∧ (za_let ((M.1 (28, 0, 0) (Int32.toNatClampNeg 0)) + 1) fun y34 => vp_in 0 279 ∧ (za_let (za_up M (28, 0, 0) (Int32.toNatClampNeg 0) y34) fun M37 => ∃ n, za_lp1 (f_X10_day_b12 K) n 0 M37))
section
variable {p : Program} {l : Launch} {e : Env} {s : State} {m : MethodId} {args : Array Value} {below : List Frame} {meth : Method} {c : Code} {g : za_L → Nat} {D : va_G} {cy : Nat → ClassId} {K : za_M → Prop}
set_option maxRecDepth 100000 in
set_option maxHeartbeats 4000000 in
theorem p_X10_day_b78 (hJ : za_J g) (C : za_C p s m args c cX10_day 3 RX10 g D cy) (hr : meth.sig.returnType = none) (hk : meth.locks = false) {L78 : Int32 → za_M → Prop} (hL78 : ∀ (x1 : Int32) (M : za_M), L78 x1 M → zt p l e (za_rm 5 160) s m args below meth c 0 0 (MQ below (za_Qv g D cy K) args s 0 0 (za_A g)) g D cy 3 M 78 [(0, .ref (g (27, 0, 0))), (1, .int x1)] []) : ∀ (x1 : Int32) (M : za_M), f_X10_day_b78 K L78 x1 M → zt p l e (za_rm 5 160) s m args below meth c 0 0 (MQ below (za_Qv g D cy K) args s 0 0 (za_A g)) g D cy 3 M 78 [(0, .ref (g (27, 0, 0))), (1, .int x1)] [] := by
  intro x1 M h
  unfold f_X10_day_b78 at h
  refine zt_iload_n C 1 dX10_day_78 rfl rfl ?_
  refine zt_aload_n C 0 dX10_day_79 rfl rfl ?_
  refine zt_get C (za_mem (j := 27) rfl (by decide) (by decide)) pf_X10_9 (za_E_27 g cy M 0 0) rfl dX10_day_80 ?_
  refine zt_iconst C (v := 3) dX10_day_83 zk_i3 ?_
  obtain ⟨g1, h⟩ := h
  refine zt_iald C (za_mem (j := 28) rfl (by decide) (by decide)) (fun W9 => za_E_28 g cy W9 0 0) g1 dX10_day_84 ?_
  refine zt_icmp_ge C 134 dX10_day_85 (by decide) (fun q2 => ?_) (fun q2 => ?_)
  · replace h := za_ifp h q2
    exact zt_vret C hr hk dX10_day_134 h
  · replace h := za_ifn h q2
    refine zt_aload_n C 0 dX10_day_88 rfl rfl ?_
    refine zt_iload_n C 1 dX10_day_89 rfl rfl ?_
    refine zt_iconst C (v := 4) dX10_day_90 zk_i4 ?_
    refine zt_cVi C [.int x1, .int 4] (m_X10_loanIs hJ  h) (za_mem (j := 27) rfl (by decide) (by decide)) (za_E_27 g cy M 0 0) rfl py_X10_loanIs pv_X10_194 (Nat.le_of_ble_eq_true rfl) ⟨Nat.le_of_ble_eq_true rfl, Nat.le_of_ble_eq_true rfl⟩ ⟨Nat.zero_le _, Nat.zero_le _⟩ dX10_day_91 rfl (fun r4 M3 h => ?_)
    refine zt_aload_n C 0 dX10_day_94 rfl rfl ?_
    refine zt_get C (za_mem (j := 27) rfl (by decide) (by decide)) pf_X10_9 (za_E_27 g cy M3 0 0) rfl dX10_day_95 ?_
    refine zt_iconst C (v := 0) dX10_day_98 zk_i0 ?_
    obtain ⟨g5, h⟩ := h
    refine zt_iald C (za_mem (j := 28) rfl (by decide) (by decide)) (fun W9 => za_E_28 g cy W9 0 0) g5 dX10_day_99 ?_
    refine zt_icmp_eq C 109 dX10_day_100 (by decide) (fun q6 => ?_) (fun q6 => ?_)
    · replace h := za_ifp h q6
      refine zt_aload_n C 0 dX10_day_109 rfl rfl ?_
      refine zt_iload_n C 1 dX10_day_110 rfl rfl ?_
      refine zt_cVi C [.int x1] (m_X10_canGiveBack hJ  h) (za_mem (j := 27) rfl (by decide) (by decide)) (za_E_27 g cy M3 0 0) rfl py_X10_canGiveBack pv_X10_247 (Nat.le_of_ble_eq_true rfl) ⟨Nat.le_of_ble_eq_true rfl, Nat.le_of_ble_eq_true rfl⟩ ⟨Nat.zero_le _, Nat.zero_le _⟩ dX10_day_111 rfl (fun r8 M7 h => ?_)
      refine zt_if_eq C 126 dX10_day_114 (by decide) (fun q9 => ?_) (fun q9 => ?_)
      · replace h := za_ifp h q9
        refine zt_aload_n C 0 dX10_day_126 rfl rfl ?_
        refine zt_iload_n C 1 dX10_day_127 rfl rfl ?_
        refine zt_cVv C [.int x1] (m_X10_breaksOne hJ  h) (za_mem (j := 27) rfl (by decide) (by decide)) (za_E_27 g cy M7 0 0) rfl py_X10_breaksOne pv_X10_253 (Nat.le_of_ble_eq_true rfl) ⟨Nat.le_of_ble_eq_true rfl, Nat.le_of_ble_eq_true rfl⟩ ⟨Nat.zero_le _, Nat.zero_le _⟩ dX10_day_128 rfl (fun M10 h => ?_)
        refine zt_goto C 78 dX10_day_131 (by decide) ?_
        exact hL78 _ _ h
      · replace h := za_ifn h q9
        refine zt_aload_n C 0 dX10_day_117 rfl rfl ?_
        refine zt_iload_n C 1 dX10_day_118 rfl rfl ?_
        refine zt_cVi C [.int x1] (m_X10_givesBack hJ  h) (za_mem (j := 27) rfl (by decide) (by decide)) (za_E_27 g cy M7 0 0) rfl py_X10_givesBack pv_X10_250 (Nat.le_of_ble_eq_true rfl) ⟨Nat.le_of_ble_eq_true rfl, Nat.le_of_ble_eq_true rfl⟩ ⟨Nat.zero_le _, Nat.zero_le _⟩ dX10_day_119 rfl (fun r13 M12 h => ?_)
        refine zt_istore_n C [(2, .int r13), (0, .ref (g (27, 0, 0))), (1, .int x1)] dX10_day_122 rfl (by decide) rfl ?_
        refine zt_goto C 78 dX10_day_123 (by decide) ?_
        refine zt_sub [1, 2] (lv' := [(0, .ref (g (27, 0, 0))), (1, .int x1)]) rfl ?_
        exact hL78 _ _ h
    · replace h := za_ifn h q6
      refine zt_iinc C (v := x1 + 1) 1 [(1, .int (x1 + 1)), (0, .ref (g (27, 0, 0)))] dX10_day_103 rfl (zk_n1 _) (by decide) rfl ?_
      refine zt_goto C 78 dX10_day_106 (by decide) ?_
      refine zt_sub [1, 0] (lv' := [(0, .ref (g (27, 0, 0))), (1, .int (x1 + 1))]) rfl ?_
      exact hL78 _ _ h
theorem p_X10_day_b78_in (hJ : za_J g) (C : za_C p s m args c cX10_day 3 RX10 g D cy) (hr : meth.sig.returnType = none) (hk : meth.locks = false) {n : Nat} {x1 : Int32} {M : za_M} (h : za_lp1 (f_X10_day_b78 K) n x1 M) : zt p l e (za_rm 5 160) s m args below meth c 0 0 (MQ below (za_Qv g D cy K) args s 0 0 (za_A g)) g D cy 3 M 78 [(0, .ref (g (27, 0, 0))), (1, .int x1)] [] := za_lp1_run (Z := fun x1 M => zt p l e (za_rm 5 160) s m args below meth c 0 0 (MQ below (za_Qv g D cy K) args s 0 0 (za_A g)) g D cy 3 M 78 [(0, .ref (g (27, 0, 0))), (1, .int x1)] []) (fun L hL => p_X10_day_b78 hJ C hr hk  hL) n x1 M h
set_option maxRecDepth 100000 in
set_option maxHeartbeats 4000000 in
theorem p_X10_day_b70 (hJ : za_J g) (C : za_C p s m args c cX10_day 3 RX10 g D cy) (hr : meth.sig.returnType = none) (hk : meth.locks = false) {x1 : Int32} {L12 : Int32 → za_M → Prop} (hL12 : ∀ (x1 : Int32) (M : za_M), L12 x1 M → zt p l e (za_rm 5 160) s m args below meth c 0 0 (MQ below (za_Qv g D cy K) args s 0 0 (za_A g)) g D cy 3 M 12 [(0, .ref (g (27, 0, 0))), (1, .int x1)] []) {M : za_M} (h : f_X10_day_b70 K L12 x1 M) : zt p l e (za_rm 5 160) s m args below meth c 0 0 (MQ below (za_Qv g D cy K) args s 0 0 (za_A g)) g D cy 3 M 70 [(0, .ref (g (27, 0, 0))), (1, .int x1)] [] := by
  unfold f_X10_day_b70 at h
  refine zt_iinc C (v := x1 + 1) 1 [(1, .int (x1 + 1)), (0, .ref (g (27, 0, 0)))] dX10_day_70 rfl (zk_n1 _) (by decide) rfl ?_
  refine zt_goto C 12 dX10_day_73 (by decide) ?_
  refine zt_sub [1, 0] (lv' := [(0, .ref (g (27, 0, 0))), (1, .int (x1 + 1))]) rfl ?_
  exact hL12 _ _ h
set_option maxRecDepth 100000 in
set_option maxHeartbeats 4000000 in
theorem p_X10_day_b12 (hJ : za_J g) (C : za_C p s m args c cX10_day 3 RX10 g D cy) (hr : meth.sig.returnType = none) (hk : meth.locks = false) {L12 : Int32 → za_M → Prop} (hL12 : ∀ (x1 : Int32) (M : za_M), L12 x1 M → zt p l e (za_rm 5 160) s m args below meth c 0 0 (MQ below (za_Qv g D cy K) args s 0 0 (za_A g)) g D cy 3 M 12 [(0, .ref (g (27, 0, 0))), (1, .int x1)] []) : ∀ (x1 : Int32) (M : za_M), f_X10_day_b12 K L12 x1 M → zt p l e (za_rm 5 160) s m args below meth c 0 0 (MQ below (za_Qv g D cy K) args s 0 0 (za_A g)) g D cy 3 M 12 [(0, .ref (g (27, 0, 0))), (1, .int x1)] [] := by
  intro x1 M h
  unfold f_X10_day_b12 at h
  refine zt_iload_n C 1 dX10_day_12 rfl rfl ?_
  refine zt_aload_n C 0 dX10_day_13 rfl rfl ?_
  refine zt_get C (za_mem (j := 27) rfl (by decide) (by decide)) pf_X10_9 (za_E_27 g cy M 0 0) rfl dX10_day_14 ?_
  refine zt_iconst C (v := 1) dX10_day_17 zk_i1 ?_
  obtain ⟨g14, h⟩ := h
  refine zt_iald C (za_mem (j := 28) rfl (by decide) (by decide)) (fun W9 => za_E_28 g cy W9 0 0) g14 dX10_day_18 ?_
  refine zt_icmp_ge C 76 dX10_day_19 (by decide) (fun q15 => ?_) (fun q15 => ?_)
  · replace h := za_ifp h q15
    refine zt_iconst C (v := 0) dX10_day_76 zk_i0 ?_
    refine zt_istore_n C [(1, .int 0), (0, .ref (g (27, 0, 0)))] dX10_day_77 rfl (by decide) rfl ?_
    refine zt_sub [1, 0] (lv' := [(0, .ref (g (27, 0, 0))), (1, .int 0)]) rfl ?_
    obtain ⟨n, h⟩ := h
    exact p_X10_day_b78_in hJ C hr hk  h
  · replace h := za_ifn h q15
    refine zt_aload_n C 0 dX10_day_22 rfl rfl ?_
    refine zt_iload_n C 1 dX10_day_23 rfl rfl ?_
    refine zt_iconst C (v := 3) dX10_day_24 zk_i3 ?_
    refine zt_cVi C [.int x1, .int 3] (m_X10_ashIs hJ  h) (za_mem (j := 27) rfl (by decide) (by decide)) (za_E_27 g cy M 0 0) rfl py_X10_ashIs pv_X10_177 (Nat.le_of_ble_eq_true rfl) ⟨Nat.le_of_ble_eq_true rfl, Nat.le_of_ble_eq_true rfl⟩ ⟨Nat.zero_le _, Nat.zero_le _⟩ dX10_day_25 rfl (fun r17 M16 h => ?_)
    refine zt_istore_n C [(2, .int r17), (0, .ref (g (27, 0, 0))), (1, .int x1)] dX10_day_28 rfl (by decide) rfl ?_
    refine zt_aload_n C 1 dX10_day_29 rfl rfl ?_
    refine zt_iload_n C 0 dX10_day_30 rfl rfl ?_
    refine zt_cVi C [.int r17] (m_X10_isPotter hJ  h) (za_mem (j := 27) rfl (by decide) (by decide)) (za_E_27 g cy M16 0 0) rfl py_X10_isPotter pv_X10_197 (Nat.le_of_ble_eq_true rfl) ⟨Nat.le_of_ble_eq_true rfl, Nat.le_of_ble_eq_true rfl⟩ ⟨Nat.zero_le _, Nat.zero_le _⟩ dX10_day_31 rfl (fun r19 M18 h => ?_)
    refine zt_if_eq C 70 dX10_day_34 (by decide) (fun q20 => ?_) (fun q20 => ?_)
    · replace h := za_ifp h q20
      refine zt_sub [1, 2] (lv' := [(0, .ref (g (27, 0, 0))), (1, .int x1)]) rfl ?_
      exact p_X10_day_b70 hJ C hr hk hL12 h
    · replace h := za_ifn h q20
      refine zt_aload_n C 1 dX10_day_37 rfl rfl ?_
      refine zt_get C (za_mem (j := 27) rfl (by decide) (by decide)) pf_X10_9 (za_E_27 g cy M18 0 0) rfl dX10_day_38 ?_
      refine zt_iload_n C 0 dX10_day_41 rfl rfl ?_
      refine zt_iload_n C 2 dX10_day_42 rfl rfl ?_
      refine zt_cSi C [.int r17, .int x1] (m_X10_storeAt hJ  h) py_X10_storeAt ps_X10_162 (Nat.le_of_ble_eq_true rfl) ⟨Nat.le_of_ble_eq_true rfl, Nat.le_of_ble_eq_true rfl⟩ ⟨Nat.zero_le _, Nat.zero_le _⟩ dX10_day_43 rfl (fun r22 M21 h => ?_)
      refine zt_sipush C (v := 999) dX10_day_46 zk_s999 ?_
      refine zt_aload_n C 1 dX10_day_49 rfl rfl ?_
      refine zt_get C (za_mem (j := 27) rfl (by decide) (by decide)) pf_X10_9 (za_E_27 g cy M21 0 0) rfl dX10_day_50 ?_
      refine zt_iload_n C 0 dX10_day_53 rfl rfl ?_
      refine zt_iload_n C 2 dX10_day_54 rfl rfl ?_
      refine zt_cSi C [.int r17, .int x1] (m_X10_storeAt hJ  h) py_X10_storeAt ps_X10_162 (Nat.le_of_ble_eq_true rfl) ⟨Nat.le_of_ble_eq_true rfl, Nat.le_of_ble_eq_true rfl⟩ ⟨Nat.zero_le _, Nat.zero_le _⟩ dX10_day_55 rfl (fun r24 M23 h => ?_)
      obtain ⟨g25, h⟩ := h
      refine zt_iald C (za_mem (j := 28) rfl (by decide) (by decide)) (fun W9 => za_E_28 g cy W9 0 0) g25 dX10_day_58 ?_
      refine zt_aload_n C 1 dX10_day_59 rfl rfl ?_
      refine zt_iload_n C 2 dX10_day_60 rfl rfl ?_
      refine zt_iconst C (v := 2) dX10_day_61 zk_i2 ?_
      refine zt_cVi C [.int x1, .int 2] (m_X10_ashIs hJ  h) (za_mem (j := 27) rfl (by decide) (by decide)) (za_E_27 g cy M23 0 0) rfl py_X10_ashIs pv_X10_177 (Nat.le_of_ble_eq_true rfl) ⟨Nat.le_of_ble_eq_true rfl, Nat.le_of_ble_eq_true rfl⟩ ⟨Nat.zero_le _, Nat.zero_le _⟩ dX10_day_62 rfl (fun r27 M26 h => ?_)
      refine zt_iadd C dX10_day_65 ?_
      refine zt_mmin C w_1091 w_702 w_91 w_703 (Nat.le_of_ble_eq_true rfl) (Nat.le_of_ble_eq_true rfl) (Nat.zero_le _) (Nat.zero_le _) dX10_day_66 ?_
      refine zt_topi (fun y28 e29 => ?_)
      replace h := za_use h e29
      obtain ⟨g30, h⟩ := h
      refine zt_iast C (za_mem (j := 28) rfl (by decide) (by decide)) (fun W9 => za_E_28 g cy W9 0 0) g30 dX10_day_69 ?_
      refine zt_topM (fun M31 e32 => ?_)
      replace h := za_use h e32
      refine zt_sub [1, 2] (lv' := [(0, .ref (g (27, 0, 0))), (1, .int x1)]) rfl ?_
      exact p_X10_day_b70 hJ C hr hk hL12 h
theorem p_X10_day_b12_in (hJ : za_J g) (C : za_C p s m args c cX10_day 3 RX10 g D cy) (hr : meth.sig.returnType = none) (hk : meth.locks = false) {n : Nat} {x1 : Int32} {M : za_M} (h : za_lp1 (f_X10_day_b12 K) n x1 M) : zt p l e (za_rm 5 160) s m args below meth c 0 0 (MQ below (za_Qv g D cy K) args s 0 0 (za_A g)) g D cy 3 M 12 [(0, .ref (g (27, 0, 0))), (1, .int x1)] [] := za_lp1_run (Z := fun x1 M => zt p l e (za_rm 5 160) s m args below meth c 0 0 (MQ below (za_Qv g D cy K) args s 0 0 (za_A g)) g D cy 3 M 12 [(0, .ref (g (27, 0, 0))), (1, .int x1)] []) (fun L hL => p_X10_day_b12 hJ C hr hk  hL) n x1 M h
set_option maxRecDepth 100000 in
set_option maxHeartbeats 4000000 in
theorem p_X10_day (hJ : za_J g) (C : za_C p s m args c cX10_day 3 RX10 g D cy) (hr : meth.sig.returnType = none) (hk : meth.locks = false) {M : za_M} (h : f_X10_day M K) : zt p l e (za_rm 5 160) s m args below meth c 0 0 (MQ below (za_Qv g D cy K) args s 0 0 (za_A g)) g D cy 3 M 0 [(0, .ref (g (27, 0, 0)))] [] := by
  unfold f_X10_day at h
  refine zt_aload_n C 0 dX10_day_0 rfl rfl ?_
  refine zt_get C (za_mem (j := 27) rfl (by decide) (by decide)) pf_X10_9 (za_E_27 g cy M 0 0) rfl dX10_day_1 ?_
  refine zt_iconst C (v := 0) dX10_day_4 zk_i0 ?_
  refine zt_dup2_11 C dX10_day_5 rfl rfl ?_
  obtain ⟨g33, h⟩ := h
  refine zt_iald C (za_mem (j := 28) rfl (by decide) (by decide)) (fun W9 => za_E_28 g cy W9 0 0) g33 dX10_day_6 ?_
  refine zt_iconst C (v := 1) dX10_day_7 zk_i1 ?_
  refine zt_iadd C dX10_day_8 ?_
  refine zt_topi (fun y34 e35 => ?_)
  replace h := za_use h e35
  obtain ⟨g36, h⟩ := h
  refine zt_iast C (za_mem (j := 28) rfl (by decide) (by decide)) (fun W9 => za_E_28 g cy W9 0 0) g36 dX10_day_9 ?_
  refine zt_topM (fun M37 e38 => ?_)
  replace h := za_use h e38
  refine zt_iconst C (v := 0) dX10_day_10 zk_i0 ?_
  refine zt_istore_n C [(1, .int 0), (0, .ref (g (27, 0, 0)))] dX10_day_11 rfl (by decide) rfl ?_
  refine zt_sub [1, 0] (lv' := [(0, .ref (g (27, 0, 0))), (1, .int 0)]) rfl ?_
  obtain ⟨n, h⟩ := h
  exact p_X10_day_b12_in hJ C hr hk  h
end
theorem m_X10_day {l : Launch} {g : za_L → Nat} {D : va_G} {cy : Nat → ClassId} (hJ : za_J g)  {M : za_M} {K : za_M → Prop} (h : f_X10_day M K) : za_Mv l g D cy yX10_day cX10_day 3 none 5 160 [.ref (g (27, 0, 0))] M K := za_openv hJ (by decide) (Nat.le_of_ble_eq_true rfl) (fun p e s m args below meth c C hr hk => p_X10_day hJ C hr hk  h)
/-! X10_daysGo -/
def f_X10_daysGo_b2 (K : za_M → Prop) (x1 : Int32) (L2 : Int32 → za_M → Prop) (x2 : Int32) (M : za_M) : Prop :=
  if x1 ≤ x2 then (K M) else (f_X10_day M (fun M2 => L2 (x2 + 1) M2))
def f_X10_daysGo (x1 : Int32) (M : za_M) (K : za_M → Prop) : Prop :=
  ∃ n, za_lp1 (f_X10_daysGo_b2 K x1) n 0 M
section
variable {p : Program} {l : Launch} {e : Env} {s : State} {m : MethodId} {args : Array Value} {below : List Frame} {meth : Method} {c : Code} {g : za_L → Nat} {D : va_G} {cy : Nat → ClassId} {K : za_M → Prop}
set_option maxRecDepth 100000 in
set_option maxHeartbeats 4000000 in
theorem p_X10_daysGo_b2 (hJ : za_J g) (C : za_C p s m args c cX10_daysGo 3 RX10 g D cy) (hr : meth.sig.returnType = none) (hk : meth.locks = false) {x1 : Int32} {L2 : Int32 → za_M → Prop} (hL2 : ∀ (x2 : Int32) (M : za_M), L2 x2 M → zt p l e (za_rm 6 182) s m args below meth c 0 0 (MQ below (za_Qv g D cy K) args s 0 0 (za_A g)) g D cy 3 M 2 [(0, .ref (g (27, 0, 0))), (1, .int x1), (2, .int x2)] []) : ∀ (x2 : Int32) (M : za_M), f_X10_daysGo_b2 K x1 L2 x2 M → zt p l e (za_rm 6 182) s m args below meth c 0 0 (MQ below (za_Qv g D cy K) args s 0 0 (za_A g)) g D cy 3 M 2 [(0, .ref (g (27, 0, 0))), (1, .int x1), (2, .int x2)] [] := by
  intro x2 M h
  unfold f_X10_daysGo_b2 at h
  refine zt_iload_n C 2 dX10_daysGo_2 rfl rfl ?_
  refine zt_iload_n C 1 dX10_daysGo_3 rfl rfl ?_
  refine zt_icmp_ge C 17 dX10_daysGo_4 (by decide) (fun q1 => ?_) (fun q1 => ?_)
  · replace h := za_ifp h q1
    exact zt_vret C hr hk dX10_daysGo_17 h
  · replace h := za_ifn h q1
    refine zt_aload_n C 0 dX10_daysGo_7 rfl rfl ?_
    refine zt_cVv C [] (m_X10_day hJ  h) (za_mem (j := 27) rfl (by decide) (by decide)) (za_E_27 g cy M 0 0) rfl py_X10_day pv_X10_256 (Nat.le_of_ble_eq_true rfl) ⟨Nat.le_of_ble_eq_true rfl, Nat.le_of_ble_eq_true rfl⟩ ⟨Nat.zero_le _, Nat.zero_le _⟩ dX10_daysGo_8 rfl (fun M2 h => ?_)
    refine zt_iinc C (v := x2 + 1) 2 [(2, .int (x2 + 1)), (0, .ref (g (27, 0, 0))), (1, .int x1)] dX10_daysGo_11 rfl (zk_n1 _) (by decide) rfl ?_
    refine zt_goto C 2 dX10_daysGo_14 (by decide) ?_
    refine zt_sub [1, 2, 0] (lv' := [(0, .ref (g (27, 0, 0))), (1, .int x1), (2, .int (x2 + 1))]) rfl ?_
    exact hL2 _ _ h
theorem p_X10_daysGo_b2_in (hJ : za_J g) (C : za_C p s m args c cX10_daysGo 3 RX10 g D cy) (hr : meth.sig.returnType = none) (hk : meth.locks = false) {x1 : Int32} {n : Nat} {x2 : Int32} {M : za_M} (h : za_lp1 (f_X10_daysGo_b2 K x1) n x2 M) : zt p l e (za_rm 6 182) s m args below meth c 0 0 (MQ below (za_Qv g D cy K) args s 0 0 (za_A g)) g D cy 3 M 2 [(0, .ref (g (27, 0, 0))), (1, .int x1), (2, .int x2)] [] := za_lp1_run (Z := fun x2 M => zt p l e (za_rm 6 182) s m args below meth c 0 0 (MQ below (za_Qv g D cy K) args s 0 0 (za_A g)) g D cy 3 M 2 [(0, .ref (g (27, 0, 0))), (1, .int x1), (2, .int x2)] []) (fun L hL => p_X10_daysGo_b2 hJ C hr hk  hL) n x2 M h
set_option maxRecDepth 100000 in
set_option maxHeartbeats 4000000 in
theorem p_X10_daysGo (hJ : za_J g) (C : za_C p s m args c cX10_daysGo 3 RX10 g D cy) (hr : meth.sig.returnType = none) (hk : meth.locks = false) {x1 : Int32} {M : za_M} (h : f_X10_daysGo x1 M K) : zt p l e (za_rm 6 182) s m args below meth c 0 0 (MQ below (za_Qv g D cy K) args s 0 0 (za_A g)) g D cy 3 M 0 [(0, .ref (g (27, 0, 0))), (1, .int x1)] [] := by
  unfold f_X10_daysGo at h
  refine zt_iconst C (v := 0) dX10_daysGo_0 zk_i0 ?_
  refine zt_istore_n C [(2, .int 0), (0, .ref (g (27, 0, 0))), (1, .int x1)] dX10_daysGo_1 rfl (by decide) rfl ?_
  refine zt_sub [1, 2, 0] (lv' := [(0, .ref (g (27, 0, 0))), (1, .int x1), (2, .int 0)]) rfl ?_
  obtain ⟨n, h⟩ := h
  exact p_X10_daysGo_b2_in hJ C hr hk  h
end
theorem m_X10_daysGo {l : Launch} {g : za_L → Nat} {D : va_G} {cy : Nat → ClassId} (hJ : za_J g)  {x1 : Int32} {M : za_M} {K : za_M → Prop} (h : f_X10_daysGo x1 M K) : za_Mv l g D cy yX10_daysGo cX10_daysGo 3 none 6 182 [.ref (g (27, 0, 0)), .int x1] M K := za_openv hJ (by decide) (Nat.le_of_ble_eq_true rfl) (fun p e s m args below meth c C hr hk => p_X10_daysGo hJ C hr hk  h)
/-! X10_days -/
def f_X10_days (x1 : Int32) (M : za_M) (K : Int32 → za_M → Prop) : Prop :=
  f_X10_within x1 1 60 M (fun r2 M1 => if r2 = 0 then (f_X10_finding (-1000000001) M1 (fun r12 M11 => K r12 M11)) else (vp_in 0 279 ∧ (if ((M1.1 (28, 0, 0) (Int32.toNatClampNeg 0)) + x1) ≤ 9999 then (f_X10_daysGo x1 M1 (fun M6 => vp_in 3 279 ∧ (K (M6.1 (28, 0, 0) (Int32.toNatClampNeg 3)) M6))) else (f_X10_finding (-1000000003) M1 (fun r10 M9 => K r10 M9)))))
section
variable {p : Program} {l : Launch} {e : Env} {s : State} {m : MethodId} {args : Array Value} {below : List Frame} {meth : Method} {c : Code} {g : za_L → Nat} {D : va_G} {cy : Nat → ClassId} {K : Int32 → za_M → Prop}
set_option maxRecDepth 100000 in
set_option maxHeartbeats 4000000 in
theorem p_X10_days (hJ : za_J g) (C : za_C p s m args c cX10_days 2 RX10 g D cy) (hr : meth.sig.returnType = (some .int)) (hk : meth.locks = false) {x1 : Int32} {M : za_M} (h : f_X10_days x1 M K) : zt p l e (za_rm 7 204) s m args below meth c 0 0 (MQ below (za_Qi g D cy K) args s 0 0 (za_A g)) g D cy 2 M 0 [(0, .ref (g (27, 0, 0))), (1, .int x1)] [] := by
  unfold f_X10_days at h
  refine zt_iload_n C 1 dX10_days_0 rfl rfl ?_
  refine zt_iconst C (v := 1) dX10_days_1 zk_i1 ?_
  refine zt_bipush C (v := 60) dX10_days_2 zk_b60 ?_
  refine zt_cSi C [.int x1, .int 1, .int 60] (m_X10_within hJ  h) py_X10_within ps_X10_70 (Nat.le_of_ble_eq_true rfl) ⟨Nat.le_of_ble_eq_true rfl, Nat.le_of_ble_eq_true rfl⟩ ⟨Nat.zero_le _, Nat.zero_le _⟩ dX10_days_4 rfl (fun r2 M1 h => ?_)
  refine zt_if_ne C 17 dX10_days_7 (by decide) (fun q3 => ?_) (fun q3 => ?_)
  · replace h := za_ifn h q3
    refine zt_aload_n C 0 dX10_days_17 rfl rfl ?_
    refine zt_get C (za_mem (j := 27) rfl (by decide) (by decide)) pf_X10_9 (za_E_27 g cy M1 0 0) rfl dX10_days_18 ?_
    refine zt_iconst C (v := 0) dX10_days_21 zk_i0 ?_
    obtain ⟨g4, h⟩ := h
    refine zt_iald C (za_mem (j := 28) rfl (by decide) (by decide)) (fun W9 => za_E_28 g cy W9 0 0) g4 dX10_days_22 ?_
    refine zt_iload_n C 1 dX10_days_23 rfl rfl ?_
    refine zt_iadd C dX10_days_24 ?_
    refine zt_sipush C (v := 9999) dX10_days_25 zk_s9999 ?_
    refine zt_icmp_le C 38 dX10_days_28 (by decide) (fun q5 => ?_) (fun q5 => ?_)
    · replace h := za_ifp h q5
      refine zt_aload_n C 0 dX10_days_38 rfl rfl ?_
      refine zt_iload_n C 1 dX10_days_39 rfl rfl ?_
      refine zt_cVv C [.int x1] (m_X10_daysGo hJ  h) (za_mem (j := 27) rfl (by decide) (by decide)) (za_E_27 g cy M1 0 0) rfl py_X10_daysGo pv_X10_259 (Nat.le_of_ble_eq_true rfl) ⟨Nat.le_of_ble_eq_true rfl, Nat.le_of_ble_eq_true rfl⟩ ⟨Nat.zero_le _, Nat.zero_le _⟩ dX10_days_40 rfl (fun M6 h => ?_)
      refine zt_aload_n C 0 dX10_days_43 rfl rfl ?_
      refine zt_get C (za_mem (j := 27) rfl (by decide) (by decide)) pf_X10_9 (za_E_27 g cy M6 0 0) rfl dX10_days_44 ?_
      refine zt_iconst C (v := 3) dX10_days_47 zk_i3 ?_
      obtain ⟨g8, h⟩ := h
      refine zt_iald C (za_mem (j := 28) rfl (by decide) (by decide)) (fun W9 => za_E_28 g cy W9 0 0) g8 dX10_days_48 ?_
      exact zt_ret C hr hk rfl dX10_days_49 h
    · replace h := za_ifn h q5
      refine zt_aload_n C 0 dX10_days_31 rfl rfl ?_
      refine zt_ldc C w_1224 dX10_days_32 ?_
      refine zt_cVi C [.int (-1000000003)] (m_X10_finding hJ  h) (za_mem (j := 27) rfl (by decide) (by decide)) (za_E_27 g cy M1 0 0) rfl py_X10_finding pv_X10_75 (Nat.le_of_ble_eq_true rfl) ⟨Nat.le_of_ble_eq_true rfl, Nat.le_of_ble_eq_true rfl⟩ ⟨Nat.zero_le _, Nat.zero_le _⟩ dX10_days_34 rfl (fun r10 M9 h => ?_)
      exact zt_ret C hr hk rfl dX10_days_37 h
  · replace h := za_ifp h q3
    refine zt_aload_n C 0 dX10_days_10 rfl rfl ?_
    refine zt_ldc C w_969 dX10_days_11 ?_
    refine zt_cVi C [.int (-1000000001)] (m_X10_finding hJ  h) (za_mem (j := 27) rfl (by decide) (by decide)) (za_E_27 g cy M1 0 0) rfl py_X10_finding pv_X10_75 (Nat.le_of_ble_eq_true rfl) ⟨Nat.le_of_ble_eq_true rfl, Nat.le_of_ble_eq_true rfl⟩ ⟨Nat.zero_le _, Nat.zero_le _⟩ dX10_days_13 rfl (fun r12 M11 h => ?_)
    exact zt_ret C hr hk rfl dX10_days_16 h
end
theorem m_X10_days {l : Launch} {g : za_L → Nat} {D : va_G} {cy : Nat → ClassId} (hJ : za_J g)  {x1 : Int32} {M : za_M} {K : Int32 → za_M → Prop} (h : f_X10_days x1 M K) : za_Mi l g D cy yX10_days cX10_days 2 (some .int) 7 204 [.ref (g (27, 0, 0)), .int x1] M K := za_openi hJ (by decide) (Nat.le_of_ble_eq_true rfl) (fun p e s m args below meth c C hr hk => p_X10_days hJ C hr hk  h)
/-! X10_drawn -/
def f_X10_drawn (M : za_M) (K : Int32 → za_M → Prop) : Prop :=
  vp_in 4 279 ∧ (za_let (((M.1 (28, 0, 0) (Int32.toNatClampNeg 4)) * 1103515245) + 12345) fun y2 => vp_in 4 279 ∧ (za_let (za_up M (28, 0, 0) (Int32.toNatClampNeg 4) y2) fun M5 => vp_in 4 279 ∧ (K (((M5.1 (28, 0, 0) (Int32.toNatClampNeg 4)).toUInt32 >>> ((8 : Int32).toUInt32 &&& Int32.toUInt32 31)).toInt32) M5)))
section
variable {p : Program} {l : Launch} {e : Env} {s : State} {m : MethodId} {args : Array Value} {below : List Frame} {meth : Method} {c : Code} {g : za_L → Nat} {D : va_G} {cy : Nat → ClassId} {K : Int32 → za_M → Prop}
set_option maxRecDepth 100000 in
set_option maxHeartbeats 4000000 in
theorem p_X10_drawn (hJ : za_J g) (C : za_C p s m args c cX10_drawn 1 RX10 g D cy) (hr : meth.sig.returnType = (some .int)) (hk : meth.locks = false) {M : za_M} (h : f_X10_drawn M K) : zt p l e (za_rm 1 64) s m args below meth c 0 0 (MQ below (za_Qi g D cy K) args s 0 0 (za_A g)) g D cy 1 M 0 [(0, .ref (g (27, 0, 0)))] [] := by
  unfold f_X10_drawn at h
  refine zt_aload_n C 0 dX10_drawn_0 rfl rfl ?_
  refine zt_get C (za_mem (j := 27) rfl (by decide) (by decide)) pf_X10_9 (za_E_27 g cy M 0 0) rfl dX10_drawn_1 ?_
  refine zt_iconst C (v := 4) dX10_drawn_4 zk_i4 ?_
  refine zt_aload_n C 0 dX10_drawn_5 rfl rfl ?_
  refine zt_get C (za_mem (j := 27) rfl (by decide) (by decide)) pf_X10_9 (za_E_27 g cy M 0 0) rfl dX10_drawn_6 ?_
  refine zt_iconst C (v := 4) dX10_drawn_9 zk_i4 ?_
  obtain ⟨g1, h⟩ := h
  refine zt_iald C (za_mem (j := 28) rfl (by decide) (by decide)) (fun W9 => za_E_28 g cy W9 0 0) g1 dX10_drawn_10 ?_
  refine zt_ldcw C w_1289 dX10_drawn_11 ?_
  refine zt_imul C dX10_drawn_14 ?_
  refine zt_sipush C (v := 12345) dX10_drawn_15 zk_s12345 ?_
  refine zt_iadd C dX10_drawn_18 ?_
  refine zt_topi (fun y2 e3 => ?_)
  replace h := za_use h e3
  obtain ⟨g4, h⟩ := h
  refine zt_iast C (za_mem (j := 28) rfl (by decide) (by decide)) (fun W9 => za_E_28 g cy W9 0 0) g4 dX10_drawn_19 ?_
  refine zt_topM (fun M5 e6 => ?_)
  replace h := za_use h e6
  refine zt_aload_n C 0 dX10_drawn_20 rfl rfl ?_
  refine zt_get C (za_mem (j := 27) rfl (by decide) (by decide)) pf_X10_9 (za_E_27 g cy M5 0 0) rfl dX10_drawn_21 ?_
  refine zt_iconst C (v := 4) dX10_drawn_24 zk_i4 ?_
  obtain ⟨g7, h⟩ := h
  refine zt_iald C (za_mem (j := 28) rfl (by decide) (by decide)) (fun W9 => za_E_28 g cy W9 0 0) g7 dX10_drawn_25 ?_
  refine zt_bipush C (v := 8) dX10_drawn_26 zk_b8 ?_
  refine zt_iushr C dX10_drawn_28 ?_
  exact zt_ret C hr hk rfl dX10_drawn_29 h
end
theorem m_X10_drawn {l : Launch} {g : za_L → Nat} {D : va_G} {cy : Nat → ClassId} (hJ : za_J g)  {M : za_M} {K : Int32 → za_M → Prop} (h : f_X10_drawn M K) : za_Mi l g D cy yX10_drawn cX10_drawn 1 (some .int) 1 64 [.ref (g (27, 0, 0))] M K := za_openi hJ (by decide) (Nat.le_of_ble_eq_true rfl) (fun p e s m args below meth c C hr hk => p_X10_drawn hJ C hr hk  h)
/-! X10_loose -/
def f_X10_loose_b83 (K : Int32 → za_M → Prop) (L40 : Int32 → za_M → Prop) (x1 : Int32) (x2 : Int32) (M : za_M) : Prop :=
  f_X10_day M (fun M1 => L40 (x2 + 1) M1)
def f_X10_loose_b40 (K : Int32 → za_M → Prop) (x1 : Int32) (L40 : Int32 → za_M → Prop) (x2 : Int32) (M : za_M) : Prop :=
  if x1 ≤ x2 then (vp_in 3 279 ∧ (K (M.1 (28, 0, 0) (Int32.toNatClampNeg 3)) M)) else (vp_in 1 279 ∧ (if (M.1 (28, 0, 0) (Int32.toNatClampNeg 1)) ≤ 0 then (f_X10_loose_b83 K L40 x1 x2 M) else (f_X10_drawn M (fun r8 M7 => vp_in 1 279 ∧ (¬ (M7.1 (28, 0, 0) (Int32.toNatClampNeg 1)) = 0 ∧ (za_let (r8 - r8 / (M7.1 (28, 0, 0) (Int32.toNatClampNeg 1)) * (M7.1 (28, 0, 0) (Int32.toNatClampNeg 1))) fun y11 => f_X10_ashAt y11 2 M7 (fun r14 M13 => f_X10_drawn M13 (fun r16 M15 => za_let (r16 - r16 / 10 * 10) fun y17 => vp_in r14 279 ∧ (za_let (za_up M15 (28, 0, 0) r14.toNatClampNeg y17) fun M20 => f_X10_loose_b83 K L40 x1 x2 M20)))))))))
def f_X10_loose (x1 : Int32) (M : za_M) (K : Int32 → za_M → Prop) : Prop :=
  f_X10_within x1 1 40 M (fun r23 M22 => if r23 = 0 then (f_X10_finding (-1000000001) M22 (fun r30 M29 => K r30 M29)) else (vp_in 0 279 ∧ (if ((M22.1 (28, 0, 0) (Int32.toNatClampNeg 0)) + x1) ≤ 9999 then (∃ n, za_lp1 (f_X10_loose_b40 K x1) n 0 M22) else (f_X10_finding (-1000000003) M22 (fun r28 M27 => K r28 M27)))))
section
variable {p : Program} {l : Launch} {e : Env} {s : State} {m : MethodId} {args : Array Value} {below : List Frame} {meth : Method} {c : Code} {g : za_L → Nat} {D : va_G} {cy : Nat → ClassId} {K : Int32 → za_M → Prop}
set_option maxRecDepth 100000 in
set_option maxHeartbeats 4000000 in
theorem p_X10_loose_b83 (hJ : za_J g) (C : za_C p s m args c cX10_loose 4 RX10 g D cy) (hr : meth.sig.returnType = (some .int)) (hk : meth.locks = false) {x1 : Int32} {x2 : Int32} {L40 : Int32 → za_M → Prop} (hL40 : ∀ (x2 : Int32) (M : za_M), L40 x2 M → zt p l e (za_rm 6 182) s m args below meth c 0 0 (MQ below (za_Qi g D cy K) args s 0 0 (za_A g)) g D cy 4 M 40 [(0, .ref (g (27, 0, 0))), (1, .int x1), (2, .int x2)] []) {M : za_M} (h : f_X10_loose_b83 K L40 x1 x2 M) : zt p l e (za_rm 6 182) s m args below meth c 0 0 (MQ below (za_Qi g D cy K) args s 0 0 (za_A g)) g D cy 4 M 83 [(0, .ref (g (27, 0, 0))), (1, .int x1), (2, .int x2)] [] := by
  unfold f_X10_loose_b83 at h
  refine zt_aload_n C 0 dX10_loose_83 rfl rfl ?_
  refine zt_cVv C [] (m_X10_day hJ  h) (za_mem (j := 27) rfl (by decide) (by decide)) (za_E_27 g cy M 0 0) rfl py_X10_day pv_X10_256 (Nat.le_of_ble_eq_true rfl) ⟨Nat.le_of_ble_eq_true rfl, Nat.le_of_ble_eq_true rfl⟩ ⟨Nat.zero_le _, Nat.zero_le _⟩ dX10_loose_84 rfl (fun M1 h => ?_)
  refine zt_iinc C (v := x2 + 1) 2 [(2, .int (x2 + 1)), (0, .ref (g (27, 0, 0))), (1, .int x1)] dX10_loose_87 rfl (zk_n1 _) (by decide) rfl ?_
  refine zt_goto C 40 dX10_loose_90 (by decide) ?_
  refine zt_sub [1, 2, 0] (lv' := [(0, .ref (g (27, 0, 0))), (1, .int x1), (2, .int (x2 + 1))]) rfl ?_
  exact hL40 _ _ h
set_option maxRecDepth 100000 in
set_option maxHeartbeats 4000000 in
theorem p_X10_loose_b40 (hJ : za_J g) (C : za_C p s m args c cX10_loose 4 RX10 g D cy) (hr : meth.sig.returnType = (some .int)) (hk : meth.locks = false) {x1 : Int32} {L40 : Int32 → za_M → Prop} (hL40 : ∀ (x2 : Int32) (M : za_M), L40 x2 M → zt p l e (za_rm 6 182) s m args below meth c 0 0 (MQ below (za_Qi g D cy K) args s 0 0 (za_A g)) g D cy 4 M 40 [(0, .ref (g (27, 0, 0))), (1, .int x1), (2, .int x2)] []) : ∀ (x2 : Int32) (M : za_M), f_X10_loose_b40 K x1 L40 x2 M → zt p l e (za_rm 6 182) s m args below meth c 0 0 (MQ below (za_Qi g D cy K) args s 0 0 (za_A g)) g D cy 4 M 40 [(0, .ref (g (27, 0, 0))), (1, .int x1), (2, .int x2)] [] := by
  intro x2 M h
  unfold f_X10_loose_b40 at h
  refine zt_iload_n C 2 dX10_loose_40 rfl rfl ?_
  refine zt_iload_n C 1 dX10_loose_41 rfl rfl ?_
  refine zt_icmp_ge C 93 dX10_loose_42 (by decide) (fun q3 => ?_) (fun q3 => ?_)
  · replace h := za_ifp h q3
    refine zt_aload_n C 0 dX10_loose_93 rfl rfl ?_
    refine zt_get C (za_mem (j := 27) rfl (by decide) (by decide)) pf_X10_9 (za_E_27 g cy M 0 0) rfl dX10_loose_94 ?_
    refine zt_iconst C (v := 3) dX10_loose_97 zk_i3 ?_
    obtain ⟨g4, h⟩ := h
    refine zt_iald C (za_mem (j := 28) rfl (by decide) (by decide)) (fun W9 => za_E_28 g cy W9 0 0) g4 dX10_loose_98 ?_
    exact zt_ret C hr hk rfl dX10_loose_99 h
  · replace h := za_ifn h q3
    refine zt_aload_n C 0 dX10_loose_45 rfl rfl ?_
    refine zt_get C (za_mem (j := 27) rfl (by decide) (by decide)) pf_X10_9 (za_E_27 g cy M 0 0) rfl dX10_loose_46 ?_
    refine zt_iconst C (v := 1) dX10_loose_49 zk_i1 ?_
    obtain ⟨g5, h⟩ := h
    refine zt_iald C (za_mem (j := 28) rfl (by decide) (by decide)) (fun W9 => za_E_28 g cy W9 0 0) g5 dX10_loose_50 ?_
    refine zt_if_le C 83 dX10_loose_51 (by decide) (fun q6 => ?_) (fun q6 => ?_)
    · replace h := za_ifp h q6
      exact p_X10_loose_b83 hJ C hr hk hL40 h
    · replace h := za_ifn h q6
      refine zt_aload_n C 0 dX10_loose_54 rfl rfl ?_
      refine zt_cVi C [] (m_X10_drawn hJ  h) (za_mem (j := 27) rfl (by decide) (by decide)) (za_E_27 g cy M 0 0) rfl py_X10_drawn pv_X10_263 (Nat.le_of_ble_eq_true rfl) ⟨Nat.le_of_ble_eq_true rfl, Nat.le_of_ble_eq_true rfl⟩ ⟨Nat.zero_le _, Nat.zero_le _⟩ dX10_loose_55 rfl (fun r8 M7 h => ?_)
      refine zt_aload_n C 0 dX10_loose_58 rfl rfl ?_
      refine zt_get C (za_mem (j := 27) rfl (by decide) (by decide)) pf_X10_9 (za_E_27 g cy M7 0 0) rfl dX10_loose_59 ?_
      refine zt_iconst C (v := 1) dX10_loose_62 zk_i1 ?_
      obtain ⟨g9, h⟩ := h
      refine zt_iald C (za_mem (j := 28) rfl (by decide) (by decide)) (fun W9 => za_E_28 g cy W9 0 0) g9 dX10_loose_63 ?_
      obtain ⟨g10, h⟩ := h
      refine zt_irem C dX10_loose_64 g10 ?_
      refine zt_topi (fun y11 e12 => ?_)
      replace h := za_use h e12
      refine zt_istore_n C [(3, .int y11), (0, .ref (g (27, 0, 0))), (1, .int x1), (2, .int x2)] dX10_loose_65 rfl (by decide) rfl ?_
      refine zt_aload_n C 1 dX10_loose_66 rfl rfl ?_
      refine zt_get C (za_mem (j := 27) rfl (by decide) (by decide)) pf_X10_9 (za_E_27 g cy M7 0 0) rfl dX10_loose_67 ?_
      refine zt_iload_n C 0 dX10_loose_70 rfl rfl ?_
      refine zt_iconst C (v := 2) dX10_loose_71 zk_i2 ?_
      refine zt_cSi C [.int y11, .int 2] (m_X10_ashAt hJ  h) py_X10_ashAt ps_X10_156 (Nat.le_of_ble_eq_true rfl) ⟨Nat.le_of_ble_eq_true rfl, Nat.le_of_ble_eq_true rfl⟩ ⟨Nat.zero_le _, Nat.zero_le _⟩ dX10_loose_72 rfl (fun r14 M13 h => ?_)
      refine zt_aload_n C 1 dX10_loose_75 rfl rfl ?_
      refine zt_cVi C [] (m_X10_drawn hJ  h) (za_mem (j := 27) rfl (by decide) (by decide)) (za_E_27 g cy M13 0 0) rfl py_X10_drawn pv_X10_263 (Nat.le_of_ble_eq_true rfl) ⟨Nat.le_of_ble_eq_true rfl, Nat.le_of_ble_eq_true rfl⟩ ⟨Nat.zero_le _, Nat.zero_le _⟩ dX10_loose_76 rfl (fun r16 M15 h => ?_)
      refine zt_bipush C (v := 10) dX10_loose_79 zk_b10 ?_
      refine zt_irem C dX10_loose_81 (by decide) ?_
      refine zt_topi (fun y17 e18 => ?_)
      replace h := za_use h e18
      obtain ⟨g19, h⟩ := h
      refine zt_iast C (za_mem (j := 28) rfl (by decide) (by decide)) (fun W9 => za_E_28 g cy W9 0 0) g19 dX10_loose_82 ?_
      refine zt_topM (fun M20 e21 => ?_)
      replace h := za_use h e21
      refine zt_sub [1, 2, 3] (lv' := [(0, .ref (g (27, 0, 0))), (1, .int x1), (2, .int x2)]) rfl ?_
      exact p_X10_loose_b83 hJ C hr hk hL40 h
theorem p_X10_loose_b40_in (hJ : za_J g) (C : za_C p s m args c cX10_loose 4 RX10 g D cy) (hr : meth.sig.returnType = (some .int)) (hk : meth.locks = false) {x1 : Int32} {n : Nat} {x2 : Int32} {M : za_M} (h : za_lp1 (f_X10_loose_b40 K x1) n x2 M) : zt p l e (za_rm 6 182) s m args below meth c 0 0 (MQ below (za_Qi g D cy K) args s 0 0 (za_A g)) g D cy 4 M 40 [(0, .ref (g (27, 0, 0))), (1, .int x1), (2, .int x2)] [] := za_lp1_run (Z := fun x2 M => zt p l e (za_rm 6 182) s m args below meth c 0 0 (MQ below (za_Qi g D cy K) args s 0 0 (za_A g)) g D cy 4 M 40 [(0, .ref (g (27, 0, 0))), (1, .int x1), (2, .int x2)] []) (fun L hL => p_X10_loose_b40 hJ C hr hk  hL) n x2 M h
set_option maxRecDepth 100000 in
set_option maxHeartbeats 4000000 in
theorem p_X10_loose (hJ : za_J g) (C : za_C p s m args c cX10_loose 4 RX10 g D cy) (hr : meth.sig.returnType = (some .int)) (hk : meth.locks = false) {x1 : Int32} {M : za_M} (h : f_X10_loose x1 M K) : zt p l e (za_rm 6 182) s m args below meth c 0 0 (MQ below (za_Qi g D cy K) args s 0 0 (za_A g)) g D cy 4 M 0 [(0, .ref (g (27, 0, 0))), (1, .int x1)] [] := by
  unfold f_X10_loose at h
  refine zt_iload_n C 1 dX10_loose_0 rfl rfl ?_
  refine zt_iconst C (v := 1) dX10_loose_1 zk_i1 ?_
  refine zt_bipush C (v := 40) dX10_loose_2 zk_b40 ?_
  refine zt_cSi C [.int x1, .int 1, .int 40] (m_X10_within hJ  h) py_X10_within ps_X10_70 (Nat.le_of_ble_eq_true rfl) ⟨Nat.le_of_ble_eq_true rfl, Nat.le_of_ble_eq_true rfl⟩ ⟨Nat.zero_le _, Nat.zero_le _⟩ dX10_loose_4 rfl (fun r23 M22 h => ?_)
  refine zt_if_ne C 17 dX10_loose_7 (by decide) (fun q24 => ?_) (fun q24 => ?_)
  · replace h := za_ifn h q24
    refine zt_aload_n C 0 dX10_loose_17 rfl rfl ?_
    refine zt_get C (za_mem (j := 27) rfl (by decide) (by decide)) pf_X10_9 (za_E_27 g cy M22 0 0) rfl dX10_loose_18 ?_
    refine zt_iconst C (v := 0) dX10_loose_21 zk_i0 ?_
    obtain ⟨g25, h⟩ := h
    refine zt_iald C (za_mem (j := 28) rfl (by decide) (by decide)) (fun W9 => za_E_28 g cy W9 0 0) g25 dX10_loose_22 ?_
    refine zt_iload_n C 1 dX10_loose_23 rfl rfl ?_
    refine zt_iadd C dX10_loose_24 ?_
    refine zt_sipush C (v := 9999) dX10_loose_25 zk_s9999 ?_
    refine zt_icmp_le C 38 dX10_loose_28 (by decide) (fun q26 => ?_) (fun q26 => ?_)
    · replace h := za_ifp h q26
      refine zt_iconst C (v := 0) dX10_loose_38 zk_i0 ?_
      refine zt_istore_n C [(2, .int 0), (0, .ref (g (27, 0, 0))), (1, .int x1)] dX10_loose_39 rfl (by decide) rfl ?_
      refine zt_sub [1, 2, 0] (lv' := [(0, .ref (g (27, 0, 0))), (1, .int x1), (2, .int 0)]) rfl ?_
      obtain ⟨n, h⟩ := h
      exact p_X10_loose_b40_in hJ C hr hk  h
    · replace h := za_ifn h q26
      refine zt_aload_n C 0 dX10_loose_31 rfl rfl ?_
      refine zt_ldc C w_1224 dX10_loose_32 ?_
      refine zt_cVi C [.int (-1000000003)] (m_X10_finding hJ  h) (za_mem (j := 27) rfl (by decide) (by decide)) (za_E_27 g cy M22 0 0) rfl py_X10_finding pv_X10_75 (Nat.le_of_ble_eq_true rfl) ⟨Nat.le_of_ble_eq_true rfl, Nat.le_of_ble_eq_true rfl⟩ ⟨Nat.zero_le _, Nat.zero_le _⟩ dX10_loose_34 rfl (fun r28 M27 h => ?_)
      exact zt_ret C hr hk rfl dX10_loose_37 h
  · replace h := za_ifp h q24
    refine zt_aload_n C 0 dX10_loose_10 rfl rfl ?_
    refine zt_ldc C w_969 dX10_loose_11 ?_
    refine zt_cVi C [.int (-1000000001)] (m_X10_finding hJ  h) (za_mem (j := 27) rfl (by decide) (by decide)) (za_E_27 g cy M22 0 0) rfl py_X10_finding pv_X10_75 (Nat.le_of_ble_eq_true rfl) ⟨Nat.le_of_ble_eq_true rfl, Nat.le_of_ble_eq_true rfl⟩ ⟨Nat.zero_le _, Nat.zero_le _⟩ dX10_loose_13 rfl (fun r30 M29 h => ?_)
    exact zt_ret C hr hk rfl dX10_loose_16 h
end
theorem m_X10_loose {l : Launch} {g : za_L → Nat} {D : va_G} {cy : Nat → ClassId} (hJ : za_J g)  {x1 : Int32} {M : za_M} {K : Int32 → za_M → Prop} (h : f_X10_loose x1 M K) : za_Mi l g D cy yX10_loose cX10_loose 4 (some .int) 6 182 [.ref (g (27, 0, 0)), .int x1] M K := za_openi hJ (by decide) (Nat.le_of_ble_eq_true rfl) (fun p e s m args below meth c C hr hk => p_X10_loose hJ C hr hk  h)

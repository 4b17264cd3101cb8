/-! X10_tell -/
def f_X10_tell (x1 : Int32) (M : za_M) (K : Int32 → za_M → Prop) : Prop :=
  vp_in 6 279 ∧ (if (M.1 (28, 0, 0) (Int32.toNatClampNeg 6)) = 20 then (f_X10_finding (-1000000004) M (fun r15 M14 => K r15 M14)) else (vp_in 6 279 ∧ (vp_in (155 + (M.1 (28, 0, 0) (Int32.toNatClampNeg 6))) 279 ∧ (za_let (za_up M (28, 0, 0) (155 + (M.1 (28, 0, 0) (Int32.toNatClampNeg 6))).toNatClampNeg x1) fun M5 => vp_in 6 279 ∧ (za_let ((M5.1 (28, 0, 0) (Int32.toNatClampNeg 6)) + 1) fun y8 => vp_in 6 279 ∧ (za_let (za_up M5 (28, 0, 0) (Int32.toNatClampNeg 6) y8) fun M11 => vp_in 6 279 ∧ (K (M11.1 (28, 0, 0) (Int32.toNatClampNeg 6)) M11)))))))
section
variable {p : Program} {l : Launch} {e : Env} {s : State} {m : MethodId} {args : Array Value} {below : List Frame} {meth : Method} {c : Code} {g : za_L → Nat} {D : va_G} {cy : Nat → ClassId} {K : Int32 → za_M → Prop}
set_option maxRecDepth 100000 in
set_option maxHeartbeats 4000000 in
theorem p_X10_tell (hJ : za_J g) (C : za_C p s m args c cX10_tell 2 RX10 g D cy) (hr : meth.sig.returnType = (some .int)) (hk : meth.locks = false) {x1 : Int32} {M : za_M} (h : f_X10_tell x1 M K) : zt p l e (za_rm 2 85) s m args below meth c 0 0 (MQ below (za_Qi g D cy K) args s 0 0 (za_A g)) g D cy 2 M 0 [(0, .ref (g (27, 0, 0))), (1, .int x1)] [] := by
  unfold f_X10_tell at h
  refine zt_aload_n C 0 dX10_tell_0 rfl rfl ?_
  refine zt_get C (za_mem (j := 27) rfl (by decide) (by decide)) pf_X10_9 (za_E_27 g cy M 0 0) rfl dX10_tell_1 ?_
  refine zt_bipush C (v := 6) dX10_tell_4 zk_b6 ?_
  obtain ⟨g1, h⟩ := h
  refine zt_iald C (za_mem (j := 28) rfl (by decide) (by decide)) (fun W9 => za_E_28 g cy W9 0 0) g1 dX10_tell_6 ?_
  refine zt_bipush C (v := 20) dX10_tell_7 zk_b20 ?_
  refine zt_icmp_ne C 19 dX10_tell_9 (by decide) (fun q2 => ?_) (fun q2 => ?_)
  · replace h := za_ifn h q2
    refine zt_aload_n C 0 dX10_tell_19 rfl rfl ?_
    refine zt_get C (za_mem (j := 27) rfl (by decide) (by decide)) pf_X10_9 (za_E_27 g cy M 0 0) rfl dX10_tell_20 ?_
    refine zt_sipush C (v := 155) dX10_tell_23 zk_s155 ?_
    refine zt_aload_n C 0 dX10_tell_26 rfl rfl ?_
    refine zt_get C (za_mem (j := 27) rfl (by decide) (by decide)) pf_X10_9 (za_E_27 g cy M 0 0) rfl dX10_tell_27 ?_
    refine zt_bipush C (v := 6) dX10_tell_30 zk_b6 ?_
    obtain ⟨g3, h⟩ := h
    refine zt_iald C (za_mem (j := 28) rfl (by decide) (by decide)) (fun W9 => za_E_28 g cy W9 0 0) g3 dX10_tell_32 ?_
    refine zt_iadd C dX10_tell_33 ?_
    refine zt_iload_n C 1 dX10_tell_34 rfl rfl ?_
    obtain ⟨g4, h⟩ := h
    refine zt_iast C (za_mem (j := 28) rfl (by decide) (by decide)) (fun W9 => za_E_28 g cy W9 0 0) g4 dX10_tell_35 ?_
    refine zt_topM (fun M5 e6 => ?_)
    replace h := za_use h e6
    refine zt_aload_n C 0 dX10_tell_36 rfl rfl ?_
    refine zt_get C (za_mem (j := 27) rfl (by decide) (by decide)) pf_X10_9 (za_E_27 g cy M5 0 0) rfl dX10_tell_37 ?_
    refine zt_bipush C (v := 6) dX10_tell_40 zk_b6 ?_
    refine zt_dup2_11 C dX10_tell_42 rfl rfl ?_
    obtain ⟨g7, h⟩ := h
    refine zt_iald C (za_mem (j := 28) rfl (by decide) (by decide)) (fun W9 => za_E_28 g cy W9 0 0) g7 dX10_tell_43 ?_
    refine zt_iconst C (v := 1) dX10_tell_44 zk_i1 ?_
    refine zt_iadd C dX10_tell_45 ?_
    refine zt_topi (fun y8 e9 => ?_)
    replace h := za_use h e9
    obtain ⟨g10, h⟩ := h
    refine zt_iast C (za_mem (j := 28) rfl (by decide) (by decide)) (fun W9 => za_E_28 g cy W9 0 0) g10 dX10_tell_46 ?_
    refine zt_topM (fun M11 e12 => ?_)
    replace h := za_use h e12
    refine zt_aload_n C 0 dX10_tell_47 rfl rfl ?_
    refine zt_get C (za_mem (j := 27) rfl (by decide) (by decide)) pf_X10_9 (za_E_27 g cy M11 0 0) rfl dX10_tell_48 ?_
    refine zt_bipush C (v := 6) dX10_tell_51 zk_b6 ?_
    obtain ⟨g13, h⟩ := h
    refine zt_iald C (za_mem (j := 28) rfl (by decide) (by decide)) (fun W9 => za_E_28 g cy W9 0 0) g13 dX10_tell_53 ?_
    exact zt_ret C hr hk rfl dX10_tell_54 h
  · replace h := za_ifp h q2
    refine zt_aload_n C 0 dX10_tell_12 rfl rfl ?_
    refine zt_ldc C w_975 dX10_tell_13 ?_
    refine zt_cVi C [.int (-1000000004)] (m_X10_finding hJ  h) (za_mem (j := 27) rfl (by decide) (by decide)) (za_E_27 g cy M 0 0) rfl py_X10_finding pv_X10_75 (Nat.le_of_ble_eq_true rfl) ⟨Nat.le_of_ble_eq_true rfl, Nat.le_of_ble_eq_true rfl⟩ ⟨Nat.zero_le _, Nat.zero_le _⟩ dX10_tell_15 rfl (fun r15 M14 h => ?_)
    exact zt_ret C hr hk rfl dX10_tell_18 h
end
theorem m_X10_tell {l : Launch} {g : za_L → Nat} {D : va_G} {cy : Nat → ClassId} (hJ : za_J g)  {x1 : Int32} {M : za_M} {K : Int32 → za_M → Prop} (h : f_X10_tell x1 M K) : za_Mi l g D cy yX10_tell cX10_tell 2 (some .int) 2 85 [.ref (g (27, 0, 0)), .int x1] M K := za_openi hJ (by decide) (Nat.le_of_ble_eq_true rfl) (fun p e s m args below meth c C hr hk => p_X10_tell hJ C hr hk  h)
/-! X10_check -/
def f_X10_check_b70 (K : Int32 → za_M → Prop) (L31 : Int32 → Int32 → za_M → Prop) (x1 : Int32) (x3 : Int32) (s0 : Int32) (M : za_M) : Prop :=
  L31 s0 (x3 + 1) M
def f_X10_check_b31 (K : Int32 → za_M → Prop) (x1 : Int32) (L31 : Int32 → Int32 → za_M → Prop) (x2 : Int32) (x3 : Int32) (M : za_M) : Prop :=
  if x1 ≤ x3 then (f_X10_putBack x2 M (fun r3 M2 => K r3 M2)) else (if x2 = 0 then (f_X10_day M (fun M7 => vp_in (155 + x3) 279 ∧ (vp_in 3 279 ∧ (if (M7.1 (28, 0, 0) (155 + x3).toNatClampNeg) = (M7.1 (28, 0, 0) (Int32.toNatClampNeg 3)) then (f_X10_check_b70 K L31 x1 x3 0 M7) else (f_X10_check_b70 K L31 x1 x3 (1 + x3) M7))))) else (f_X10_putBack x2 M (fun r6 M5 => K r6 M5)))
def f_X10_check (M : za_M) (K : Int32 → za_M → Prop) : Prop :=
  vp_in 6 279 ∧ (za_let (M.1 (28, 0, 0) (Int32.toNatClampNeg 6)) fun y13 => vp_in 6 279 ∧ (za_let (za_up M (28, 0, 0) (Int32.toNatClampNeg 6) 0) fun M16 => f_X10_copy (28, 0, 0) (30, 0, 0) M16 (fun M18 => ∃ n, za_lp2 (f_X10_check_b31 K y13) n 0 0 M18)))
section
variable {p : Program} {l : Launch} {e : Env} {s : State} {m : MethodId} {args : Array Value} {below : List Frame} {meth : Method} {c : Code} {g : za_L → Nat} {D : va_G} {cy : Nat → ClassId} {K : Int32 → za_M → Prop}
set_option maxRecDepth 100000 in
set_option maxHeartbeats 4000000 in
theorem p_X10_check_b70 (hJ : za_J g) (C : za_C p s m args c cX10_check 4 RX10 g D cy) (hr : meth.sig.returnType = (some .int)) (hk : meth.locks = false) {x1 : Int32} {x3 : Int32} {s0 : Int32} {L31 : Int32 → Int32 → za_M → Prop} (hL31 : ∀ (x2 : Int32) (x3 : Int32) (M : za_M), L31 x2 x3 M → zt p l e (za_rm 6 182) s m args below meth c 0 0 (MQ below (za_Qi g D cy K) args s 0 0 (za_A g)) g D cy 4 M 31 [(0, .ref (g (27, 0, 0))), (1, .int x1), (2, .int x2), (3, .int x3)] []) {M : za_M} (h : f_X10_check_b70 K L31 x1 x3 s0 M) : zt p l e (za_rm 6 182) s m args below meth c 0 0 (MQ below (za_Qi g D cy K) args s 0 0 (za_A g)) g D cy 4 M 70 [(0, .ref (g (27, 0, 0))), (1, .int x1), (3, .int x3)] [.int s0] := by
  unfold f_X10_check_b70 at h
  refine zt_istore_n C [(2, .int s0), (0, .ref (g (27, 0, 0))), (1, .int x1), (3, .int x3)] dX10_check_70 rfl (by decide) rfl ?_
  refine zt_iinc C (v := x3 + 1) 3 [(3, .int (x3 + 1)), (2, .int s0), (0, .ref (g (27, 0, 0))), (1, .int x1)] dX10_check_71 rfl (zk_n1 _) (by decide) rfl ?_
  refine zt_goto C 31 dX10_check_74 (by decide) ?_
  refine zt_sub [2, 3, 1, 0] (lv' := [(0, .ref (g (27, 0, 0))), (1, .int x1), (2, .int s0), (3, .int (x3 + 1))]) rfl ?_
  exact hL31 _ _ _ h
set_option maxRecDepth 100000 in
set_option maxHeartbeats 4000000 in
theorem p_X10_check_b31 (hJ : za_J g) (C : za_C p s m args c cX10_check 4 RX10 g D cy) (hr : meth.sig.returnType = (some .int)) (hk : meth.locks = false) {x1 : Int32} {L31 : Int32 → Int32 → za_M → Prop} (hL31 : ∀ (x2 : Int32) (x3 : Int32) (M : za_M), L31 x2 x3 M → zt p l e (za_rm 6 182) s m args below meth c 0 0 (MQ below (za_Qi g D cy K) args s 0 0 (za_A g)) g D cy 4 M 31 [(0, .ref (g (27, 0, 0))), (1, .int x1), (2, .int x2), (3, .int x3)] []) : ∀ (x2 : Int32) (x3 : Int32) (M : za_M), f_X10_check_b31 K x1 L31 x2 x3 M → zt p l e (za_rm 6 182) s m args below meth c 0 0 (MQ below (za_Qi g D cy K) args s 0 0 (za_A g)) g D cy 4 M 31 [(0, .ref (g (27, 0, 0))), (1, .int x1), (2, .int x2), (3, .int x3)] [] := by
  intro x2 x3 M h
  unfold f_X10_check_b31 at h
  refine zt_iload_n C 3 dX10_check_31 rfl rfl ?_
  refine zt_iload_n C 1 dX10_check_32 rfl rfl ?_
  refine zt_icmp_ge C 77 dX10_check_33 (by decide) (fun q1 => ?_) (fun q1 => ?_)
  · replace h := za_ifp h q1
    refine zt_aload_n C 0 dX10_check_77 rfl rfl ?_
    refine zt_iload_n C 2 dX10_check_78 rfl rfl ?_
    refine zt_cVi C [.int x2] (m_X10_putBack hJ  h) (za_mem (j := 27) rfl (by decide) (by decide)) (za_E_27 g cy M 0 0) rfl py_X10_putBack pv_X10_266 (Nat.le_of_ble_eq_true rfl) ⟨Nat.le_of_ble_eq_true rfl, Nat.le_of_ble_eq_true rfl⟩ ⟨Nat.zero_le _, Nat.zero_le _⟩ dX10_check_79 rfl (fun r3 M2 h => ?_)
    exact zt_ret C hr hk rfl dX10_check_82 h
  · replace h := za_ifn h q1
    refine zt_iload_n C 2 dX10_check_36 rfl rfl ?_
    refine zt_if_ne C 77 dX10_check_37 (by decide) (fun q4 => ?_) (fun q4 => ?_)
    · replace h := za_ifn h q4
      refine zt_aload_n C 0 dX10_check_77 rfl rfl ?_
      refine zt_iload_n C 2 dX10_check_78 rfl rfl ?_
      refine zt_cVi C [.int x2] (m_X10_putBack hJ  h) (za_mem (j := 27) rfl (by decide) (by decide)) (za_E_27 g cy M 0 0) rfl py_X10_putBack pv_X10_266 (Nat.le_of_ble_eq_true rfl) ⟨Nat.le_of_ble_eq_true rfl, Nat.le_of_ble_eq_true rfl⟩ ⟨Nat.zero_le _, Nat.zero_le _⟩ dX10_check_79 rfl (fun r6 M5 h => ?_)
      exact zt_ret C hr hk rfl dX10_check_82 h
    · replace h := za_ifp h q4
      refine zt_aload_n C 0 dX10_check_40 rfl rfl ?_
      refine zt_cVv C [] (m_X10_day hJ  h) (za_mem (j := 27) rfl (by decide) (by decide)) (za_E_27 g cy M 0 0) rfl py_X10_day pv_X10_256 (Nat.le_of_ble_eq_true rfl) ⟨Nat.le_of_ble_eq_true rfl, Nat.le_of_ble_eq_true rfl⟩ ⟨Nat.zero_le _, Nat.zero_le _⟩ dX10_check_41 rfl (fun M7 h => ?_)
      refine zt_aload_n C 0 dX10_check_44 rfl rfl ?_
      refine zt_get C (za_mem (j := 27) rfl (by decide) (by decide)) pf_X10_9 (za_E_27 g cy M7 0 0) rfl dX10_check_45 ?_
      refine zt_sipush C (v := 155) dX10_check_48 zk_s155 ?_
      refine zt_iload_n C 3 dX10_check_51 rfl rfl ?_
      refine zt_iadd C dX10_check_52 ?_
      obtain ⟨g9, h⟩ := h
      refine zt_iald C (za_mem (j := 28) rfl (by decide) (by decide)) (fun W9 => za_E_28 g cy W9 0 0) g9 dX10_check_53 ?_
      refine zt_aload_n C 0 dX10_check_54 rfl rfl ?_
      refine zt_get C (za_mem (j := 27) rfl (by decide) (by decide)) pf_X10_9 (za_E_27 g cy M7 0 0) rfl dX10_check_55 ?_
      refine zt_iconst C (v := 3) dX10_check_58 zk_i3 ?_
      obtain ⟨g10, h⟩ := h
      refine zt_iald C (za_mem (j := 28) rfl (by decide) (by decide)) (fun W9 => za_E_28 g cy W9 0 0) g10 dX10_check_59 ?_
      refine zt_icmp_ne C 67 dX10_check_60 (by decide) (fun q11 => ?_) (fun q11 => ?_)
      · replace h := za_ifn h q11
        refine zt_iconst C (v := 1) dX10_check_67 zk_i1 ?_
        refine zt_iload_n C 3 dX10_check_68 rfl rfl ?_
        refine zt_iadd C dX10_check_69 ?_
        refine zt_sub [0, 1, 3] (lv' := [(0, .ref (g (27, 0, 0))), (1, .int x1), (3, .int x3)]) rfl ?_
        exact p_X10_check_b70 hJ C hr hk hL31 h
      · replace h := za_ifp h q11
        refine zt_iconst C (v := 0) dX10_check_63 zk_i0 ?_
        refine zt_goto C 70 dX10_check_64 (by decide) ?_
        refine zt_sub [0, 1, 3] (lv' := [(0, .ref (g (27, 0, 0))), (1, .int x1), (3, .int x3)]) rfl ?_
        exact p_X10_check_b70 hJ C hr hk hL31 h
theorem p_X10_check_b31_in (hJ : za_J g) (C : za_C p s m args c cX10_check 4 RX10 g D cy) (hr : meth.sig.returnType = (some .int)) (hk : meth.locks = false) {x1 : Int32} {n : Nat} {x2 : Int32} {x3 : Int32} {M : za_M} (h : za_lp2 (f_X10_check_b31 K x1) n x2 x3 M) : zt p l e (za_rm 6 182) s m args below meth c 0 0 (MQ below (za_Qi g D cy K) args s 0 0 (za_A g)) g D cy 4 M 31 [(0, .ref (g (27, 0, 0))), (1, .int x1), (2, .int x2), (3, .int x3)] [] := za_lp2_run (Z := fun x2 x3 M => zt p l e (za_rm 6 182) s m args below meth c 0 0 (MQ below (za_Qi g D cy K) args s 0 0 (za_A g)) g D cy 4 M 31 [(0, .ref (g (27, 0, 0))), (1, .int x1), (2, .int x2), (3, .int x3)] []) (fun L hL => p_X10_check_b31 hJ C hr hk  hL) n x2 x3 M h
set_option maxRecDepth 100000 in
set_option maxHeartbeats 4000000 in
theorem p_X10_check (hJ : za_J g) (C : za_C p s m args c cX10_check 4 RX10 g D cy) (hr : meth.sig.returnType = (some .int)) (hk : meth.locks = false) {M : za_M} (h : f_X10_check M K) : zt p l e (za_rm 6 182) s m args below meth c 0 0 (MQ below (za_Qi g D cy K) args s 0 0 (za_A g)) g D cy 4 M 0 [(0, .ref (g (27, 0, 0)))] [] := by
  unfold f_X10_check at h
  refine zt_aload_n C 0 dX10_check_0 rfl rfl ?_
  refine zt_get C (za_mem (j := 27) rfl (by decide) (by decide)) pf_X10_9 (za_E_27 g cy M 0 0) rfl dX10_check_1 ?_
  refine zt_bipush C (v := 6) dX10_check_4 zk_b6 ?_
  obtain ⟨g12, h⟩ := h
  refine zt_iald C (za_mem (j := 28) rfl (by decide) (by decide)) (fun W9 => za_E_28 g cy W9 0 0) g12 dX10_check_6 ?_
  refine zt_topi (fun y13 e14 => ?_)
  replace h := za_use h e14
  refine zt_istore_n C [(1, .int y13), (0, .ref (g (27, 0, 0)))] dX10_check_7 rfl (by decide) rfl ?_
  refine zt_aload_n C 1 dX10_check_8 rfl rfl ?_
  refine zt_get C (za_mem (j := 27) rfl (by decide) (by decide)) pf_X10_9 (za_E_27 g cy M 0 0) rfl dX10_check_9 ?_
  refine zt_bipush C (v := 6) dX10_check_12 zk_b6 ?_
  refine zt_iconst C (v := 0) dX10_check_14 zk_i0 ?_
  obtain ⟨g15, h⟩ := h
  refine zt_iast C (za_mem (j := 28) rfl (by decide) (by decide)) (fun W9 => za_E_28 g cy W9 0 0) g15 dX10_check_15 ?_
  refine zt_topM (fun M16 e17 => ?_)
  replace h := za_use h e17
  refine zt_aload_n C 1 dX10_check_16 rfl rfl ?_
  refine zt_get C (za_mem (j := 27) rfl (by decide) (by decide)) pf_X10_9 (za_E_27 g cy M16 0 0) rfl dX10_check_17 ?_
  refine zt_aload_n C 1 dX10_check_20 rfl rfl ?_
  refine zt_get C (za_mem (j := 27) rfl (by decide) (by decide)) pf_X10_16 (za_E_27 g cy M16 0 0) rfl dX10_check_21 ?_
  refine zt_cSv C [.ref (g (28, 0, 0)), .ref (g (30, 0, 0))] (m_X10_copy hJ (za_I_of (za_mem (j := 28) rfl (by decide) (by decide)) (fun g9 cy9 W9 => za_E_28 g9 cy9 W9 0 0)) (za_I_of (za_mem (j := 30) rfl (by decide) (by decide)) (fun g9 cy9 W9 => za_E_30 g9 cy9 W9 0 0)) h) py_X10_copy ps_X10_66 (Nat.le_of_ble_eq_true rfl) ⟨Nat.le_of_ble_eq_true rfl, Nat.le_of_ble_eq_true rfl⟩ ⟨Nat.zero_le _, Nat.zero_le _⟩ dX10_check_24 rfl (fun M18 h => ?_)
  refine zt_iconst C (v := 0) dX10_check_27 zk_i0 ?_
  refine zt_istore_n C [(2, .int 0), (1, .int y13), (0, .ref (g (27, 0, 0)))] dX10_check_28 rfl (by decide) rfl ?_
  refine zt_iconst C (v := 0) dX10_check_29 zk_i0 ?_
  refine zt_istore_n C [(3, .int 0), (2, .int 0), (1, .int y13), (0, .ref (g (27, 0, 0)))] dX10_check_30 rfl (by decide) rfl ?_
  refine zt_sub [3, 2, 1, 0] (lv' := [(0, .ref (g (27, 0, 0))), (1, .int y13), (2, .int 0), (3, .int 0)]) rfl ?_
  obtain ⟨n, h⟩ := h
  exact p_X10_check_b31_in hJ C hr hk  h
end
theorem m_X10_check {l : Launch} {g : za_L → Nat} {D : va_G} {cy : Nat → ClassId} (hJ : za_J g)  {M : za_M} {K : Int32 → za_M → Prop} (h : f_X10_check M K) : za_Mi l g D cy yX10_check cX10_check 4 (some .int) 6 182 [.ref (g (27, 0, 0))] M K := za_openi hJ (by decide) (Nat.le_of_ble_eq_true rfl) (fun p e s m args below meth c C hr hk => p_X10_check hJ C hr hk  h)
/-! X10_potsAll -/
def f_X10_potsAll_b4 (K : Int32 → za_M → Prop) (L4 : Int32 → Int32 → za_M → Prop) (x1 : Int32) (x2 : Int32) (M : za_M) : Prop :=
  vp_in 2 279 ∧ (if (M.1 (28, 0, 0) (Int32.toNatClampNeg 2)) ≤ x2 then (K x1 M) else (f_X10_potterAt x2 0 M (fun r4 M3 => vp_in r4 279 ∧ (za_let (x1 + (M3.1 (28, 0, 0) r4.toNatClampNeg)) fun y6 => L4 y6 (x2 + 1) M3))))
def f_X10_potsAll (M : za_M) (K : Int32 → za_M → Prop) : Prop :=
  ∃ n, za_lp2 (f_X10_potsAll_b4 K) n 0 0 M
section
variable {p : Program} {l : Launch} {e : Env} {s : State} {m : MethodId} {args : Array Value} {below : List Frame} {meth : Method} {c : Code} {g : za_L → Nat} {D : va_G} {cy : Nat → ClassId} {K : Int32 → za_M → Prop}
set_option maxRecDepth 100000 in
set_option maxHeartbeats 4000000 in
theorem p_X10_potsAll_b4 (hJ : za_J g) (C : za_C p s m args c cX10_potsAll 3 RX10 g D cy) (hr : meth.sig.returnType = (some .int)) (hk : meth.locks = false) {L4 : Int32 → Int32 → za_M → Prop} (hL4 : ∀ (x1 : Int32) (x2 : Int32) (M : za_M), L4 x1 x2 M → zt p l e (za_rm 2 85) s m args below meth c 0 0 (MQ below (za_Qi g D cy K) args s 0 0 (za_A g)) g D cy 3 M 4 [(0, .ref (g (27, 0, 0))), (1, .int x1), (2, .int x2)] []) : ∀ (x1 : Int32) (x2 : Int32) (M : za_M), f_X10_potsAll_b4 K L4 x1 x2 M → zt p l e (za_rm 2 85) s m args below meth c 0 0 (MQ below (za_Qi g D cy K) args s 0 0 (za_A g)) g D cy 3 M 4 [(0, .ref (g (27, 0, 0))), (1, .int x1), (2, .int x2)] [] := by
  intro x1 x2 M h
  unfold f_X10_potsAll_b4 at h
  refine zt_iload_n C 2 dX10_potsAll_4 rfl rfl ?_
  refine zt_aload_n C 0 dX10_potsAll_5 rfl rfl ?_
  refine zt_get C (za_mem (j := 27) rfl (by decide) (by decide)) pf_X10_9 (za_E_27 g cy M 0 0) rfl dX10_potsAll_6 ?_
  refine zt_iconst C (v := 2) dX10_potsAll_9 zk_i2 ?_
  obtain ⟨g1, h⟩ := h
  refine zt_iald C (za_mem (j := 28) rfl (by decide) (by decide)) (fun W9 => za_E_28 g cy W9 0 0) g1 dX10_potsAll_10 ?_
  refine zt_icmp_ge C 33 dX10_potsAll_11 (by decide) (fun q2 => ?_) (fun q2 => ?_)
  · replace h := za_ifp h q2
    refine zt_iload_n C 1 dX10_potsAll_33 rfl rfl ?_
    exact zt_ret C hr hk rfl dX10_potsAll_34 h
  · replace h := za_ifn h q2
    refine zt_iload_n C 1 dX10_potsAll_14 rfl rfl ?_
    refine zt_aload_n C 0 dX10_potsAll_15 rfl rfl ?_
    refine zt_get C (za_mem (j := 27) rfl (by decide) (by decide)) pf_X10_9 (za_E_27 g cy M 0 0) rfl dX10_potsAll_16 ?_
    refine zt_iload_n C 2 dX10_potsAll_19 rfl rfl ?_
    refine zt_iconst C (v := 0) dX10_potsAll_20 zk_i0 ?_
    refine zt_cSi C [.int x2, .int 0] (m_X10_potterAt hJ  h) py_X10_potterAt ps_X10_191 (Nat.le_of_ble_eq_true rfl) ⟨Nat.le_of_ble_eq_true rfl, Nat.le_of_ble_eq_true rfl⟩ ⟨Nat.zero_le _, Nat.zero_le _⟩ dX10_potsAll_21 rfl (fun r4 M3 h => ?_)
    obtain ⟨g5, h⟩ := h
    refine zt_iald C (za_mem (j := 28) rfl (by decide) (by decide)) (fun W9 => za_E_28 g cy W9 0 0) g5 dX10_potsAll_24 ?_
    refine zt_iadd C dX10_potsAll_25 ?_
    refine zt_topi (fun y6 e7 => ?_)
    replace h := za_use h e7
    refine zt_istore_n C [(1, .int y6), (0, .ref (g (27, 0, 0))), (2, .int x2)] dX10_potsAll_26 rfl (by decide) rfl ?_
    refine zt_iinc C (v := x2 + 1) 2 [(2, .int (x2 + 1)), (1, .int y6), (0, .ref (g (27, 0, 0)))] dX10_potsAll_27 rfl (zk_n1 _) (by decide) rfl ?_
    refine zt_goto C 4 dX10_potsAll_30 (by decide) ?_
    refine zt_sub [2, 1, 0] (lv' := [(0, .ref (g (27, 0, 0))), (1, .int y6), (2, .int (x2 + 1))]) rfl ?_
    exact hL4 _ _ _ h
theorem p_X10_potsAll_b4_in (hJ : za_J g) (C : za_C p s m args c cX10_potsAll 3 RX10 g D cy) (hr : meth.sig.returnType = (some .int)) (hk : meth.locks = false) {n : Nat} {x1 : Int32} {x2 : Int32} {M : za_M} (h : za_lp2 (f_X10_potsAll_b4 K) n x1 x2 M) : zt p l e (za_rm 2 85) s m args below meth c 0 0 (MQ below (za_Qi g D cy K) args s 0 0 (za_A g)) g D cy 3 M 4 [(0, .ref (g (27, 0, 0))), (1, .int x1), (2, .int x2)] [] := za_lp2_run (Z := fun x1 x2 M => zt p l e (za_rm 2 85) s m args below meth c 0 0 (MQ below (za_Qi g D cy K) args s 0 0 (za_A g)) g D cy 3 M 4 [(0, .ref (g (27, 0, 0))), (1, .int x1), (2, .int x2)] []) (fun L hL => p_X10_potsAll_b4 hJ C hr hk  hL) n x1 x2 M h
set_option maxRecDepth 100000 in
set_option maxHeartbeats 4000000 in
theorem p_X10_potsAll (hJ : za_J g) (C : za_C p s m args c cX10_potsAll 3 RX10 g D cy) (hr : meth.sig.returnType = (some .int)) (hk : meth.locks = false) {M : za_M} (h : f_X10_potsAll M K) : zt p l e (za_rm 2 85) s m args below meth c 0 0 (MQ below (za_Qi g D cy K) args s 0 0 (za_A g)) g D cy 3 M 0 [(0, .ref (g (27, 0, 0)))] [] := by
  unfold f_X10_potsAll at h
  refine zt_iconst C (v := 0) dX10_potsAll_0 zk_i0 ?_
  refine zt_istore_n C [(1, .int 0), (0, .ref (g (27, 0, 0)))] dX10_potsAll_1 rfl (by decide) rfl ?_
  refine zt_iconst C (v := 0) dX10_potsAll_2 zk_i0 ?_
  refine zt_istore_n C [(2, .int 0), (1, .int 0), (0, .ref (g (27, 0, 0)))] dX10_potsAll_3 rfl (by decide) rfl ?_
  refine zt_sub [2, 1, 0] (lv' := [(0, .ref (g (27, 0, 0))), (1, .int 0), (2, .int 0)]) rfl ?_
  obtain ⟨n, h⟩ := h
  exact p_X10_potsAll_b4_in hJ C hr hk  h
end
theorem m_X10_potsAll {l : Launch} {g : za_L → Nat} {D : va_G} {cy : Nat → ClassId} (hJ : za_J g)  {M : za_M} {K : Int32 → za_M → Prop} (h : f_X10_potsAll M K) : za_Mi l g D cy yX10_potsAll cX10_potsAll 3 (some .int) 2 85 [.ref (g (27, 0, 0))] M K := za_openi hJ (by decide) (Nat.le_of_ble_eq_true rfl) (fun p e s m args below meth c C hr hk => p_X10_potsAll hJ C hr hk  h)
/-! X10_count -/
def f_X10_count (x1 : Int32) (M : za_M) (K : Int32 → za_M → Prop) : Prop :=
  if x1 = 0 then (vp_in 1 279 ∧ (K (M.1 (28, 0, 0) (Int32.toNatClampNeg 1)) M)) else if x1 = 1 then (vp_in 2 279 ∧ (K (M.1 (28, 0, 0) (Int32.toNatClampNeg 2)) M)) else if x1 = 2 then (vp_in 3 279 ∧ (K (M.1 (28, 0, 0) (Int32.toNatClampNeg 3)) M)) else if x1 = 3 then (vp_in 0 279 ∧ (K (M.1 (28, 0, 0) (Int32.toNatClampNeg 0)) M)) else if x1 = 4 then (f_X10_potsAll M (fun r11 M10 => K r11 M10)) else if x1 = 5 then (f_X10_brokenAll M (fun r14 M13 => K r14 M13)) else if x1 = 6 then (vp_in 5 279 ∧ (K (M.1 (28, 0, 0) (Int32.toNatClampNeg 5)) M)) else if x1 = 7 then (vp_in 6 279 ∧ (K (M.1 (28, 0, 0) (Int32.toNatClampNeg 6)) M)) else if x1 = 8 then (K (M.1 (27, 0, 0) 15) M) else if x1 = 9 then (vp_in 4 279 ∧ (K (M.1 (28, 0, 0) (Int32.toNatClampNeg 4)) M)) else (f_X10_finding (-1000000001) M (fun r23 M22 => K r23 M22))
section
variable {p : Program} {l : Launch} {e : Env} {s : State} {m : MethodId} {args : Array Value} {below : List Frame} {meth : Method} {c : Code} {g : za_L → Nat} {D : va_G} {cy : Nat → ClassId} {K : Int32 → za_M → Prop}
set_option maxRecDepth 100000 in
set_option maxHeartbeats 4000000 in
theorem p_X10_count (hJ : za_J g) (C : za_C p s m args c cX10_count 2 RX10 g D cy) (hr : meth.sig.returnType = (some .int)) (hk : meth.locks = false) {x1 : Int32} {M : za_M} (h : f_X10_count x1 M K) : zt p l e (za_rm 3 107) s m args below meth c 0 0 (MQ below (za_Qi g D cy K) args s 0 0 (za_A g)) g D cy 2 M 0 [(0, .ref (g (27, 0, 0))), (1, .int x1)] [] := by
  unfold f_X10_count at h
  refine zt_iload_n C 1 dX10_count_0 rfl rfl ?_
  by_cases q1 : x1 = 0
  · replace h := za_ifp h q1
    refine zt_tableIn C (off := 55) 56 dX10_count_1 (by rw [q1]; decide) (by rw [q1]; decide) (by rw [q1]; decide) (by decide) ?_
    refine zt_aload_n C 0 dX10_count_56 rfl rfl ?_
    refine zt_get C (za_mem (j := 27) rfl (by decide) (by decide)) pf_X10_9 (za_E_27 g cy M 0 0) rfl dX10_count_57 ?_
    refine zt_iconst C (v := 1) dX10_count_60 zk_i1 ?_
    obtain ⟨g2, h⟩ := h
    refine zt_iald C (za_mem (j := 28) rfl (by decide) (by decide)) (fun W9 => za_E_28 g cy W9 0 0) g2 dX10_count_61 ?_
    exact zt_ret C hr hk rfl dX10_count_62 h
  replace h := za_ifn h q1
  by_cases q3 : x1 = 1
  · replace h := za_ifp h q3
    refine zt_tableIn C (off := 62) 63 dX10_count_1 (by rw [q3]; decide) (by rw [q3]; decide) (by rw [q3]; decide) (by decide) ?_
    refine zt_aload_n C 0 dX10_count_63 rfl rfl ?_
    refine zt_get C (za_mem (j := 27) rfl (by decide) (by decide)) pf_X10_9 (za_E_27 g cy M 0 0) rfl dX10_count_64 ?_
    refine zt_iconst C (v := 2) dX10_count_67 zk_i2 ?_
    obtain ⟨g4, h⟩ := h
    refine zt_iald C (za_mem (j := 28) rfl (by decide) (by decide)) (fun W9 => za_E_28 g cy W9 0 0) g4 dX10_count_68 ?_
    exact zt_ret C hr hk rfl dX10_count_69 h
  replace h := za_ifn h q3
  by_cases q5 : x1 = 2
  · replace h := za_ifp h q5
    refine zt_tableIn C (off := 69) 70 dX10_count_1 (by rw [q5]; decide) (by rw [q5]; decide) (by rw [q5]; decide) (by decide) ?_
    refine zt_aload_n C 0 dX10_count_70 rfl rfl ?_
    refine zt_get C (za_mem (j := 27) rfl (by decide) (by decide)) pf_X10_9 (za_E_27 g cy M 0 0) rfl dX10_count_71 ?_
    refine zt_iconst C (v := 3) dX10_count_74 zk_i3 ?_
    obtain ⟨g6, h⟩ := h
    refine zt_iald C (za_mem (j := 28) rfl (by decide) (by decide)) (fun W9 => za_E_28 g cy W9 0 0) g6 dX10_count_75 ?_
    exact zt_ret C hr hk rfl dX10_count_76 h
  replace h := za_ifn h q5
  by_cases q7 : x1 = 3
  · replace h := za_ifp h q7
    refine zt_tableIn C (off := 76) 77 dX10_count_1 (by rw [q7]; decide) (by rw [q7]; decide) (by rw [q7]; decide) (by decide) ?_
    refine zt_aload_n C 0 dX10_count_77 rfl rfl ?_
    refine zt_get C (za_mem (j := 27) rfl (by decide) (by decide)) pf_X10_9 (za_E_27 g cy M 0 0) rfl dX10_count_78 ?_
    refine zt_iconst C (v := 0) dX10_count_81 zk_i0 ?_
    obtain ⟨g8, h⟩ := h
    refine zt_iald C (za_mem (j := 28) rfl (by decide) (by decide)) (fun W9 => za_E_28 g cy W9 0 0) g8 dX10_count_82 ?_
    exact zt_ret C hr hk rfl dX10_count_83 h
  replace h := za_ifn h q7
  by_cases q9 : x1 = 4
  · replace h := za_ifp h q9
    refine zt_tableIn C (off := 83) 84 dX10_count_1 (by rw [q9]; decide) (by rw [q9]; decide) (by rw [q9]; decide) (by decide) ?_
    refine zt_aload_n C 0 dX10_count_84 rfl rfl ?_
    refine zt_cVi C [] (m_X10_potsAll hJ  h) (za_mem (j := 27) rfl (by decide) (by decide)) (za_E_27 g cy M 0 0) rfl py_X10_potsAll pv_X10_324 (Nat.le_of_ble_eq_true rfl) ⟨Nat.le_of_ble_eq_true rfl, Nat.le_of_ble_eq_true rfl⟩ ⟨Nat.zero_le _, Nat.zero_le _⟩ dX10_count_85 rfl (fun r11 M10 h => ?_)
    exact zt_ret C hr hk rfl dX10_count_88 h
  replace h := za_ifn h q9
  by_cases q12 : x1 = 5
  · replace h := za_ifp h q12
    refine zt_tableIn C (off := 88) 89 dX10_count_1 (by rw [q12]; decide) (by rw [q12]; decide) (by rw [q12]; decide) (by decide) ?_
    refine zt_aload_n C 0 dX10_count_89 rfl rfl ?_
    refine zt_cVi C [] (m_X10_brokenAll hJ  h) (za_mem (j := 27) rfl (by decide) (by decide)) (za_E_27 g cy M 0 0) rfl py_X10_brokenAll pv_X10_285 (Nat.le_of_ble_eq_true rfl) ⟨Nat.le_of_ble_eq_true rfl, Nat.le_of_ble_eq_true rfl⟩ ⟨Nat.zero_le _, Nat.zero_le _⟩ dX10_count_90 rfl (fun r14 M13 h => ?_)
    exact zt_ret C hr hk rfl dX10_count_93 h
  replace h := za_ifn h q12
  by_cases q15 : x1 = 6
  · replace h := za_ifp h q15
    refine zt_tableIn C (off := 93) 94 dX10_count_1 (by rw [q15]; decide) (by rw [q15]; decide) (by rw [q15]; decide) (by decide) ?_
    refine zt_aload_n C 0 dX10_count_94 rfl rfl ?_
    refine zt_get C (za_mem (j := 27) rfl (by decide) (by decide)) pf_X10_9 (za_E_27 g cy M 0 0) rfl dX10_count_95 ?_
    refine zt_iconst C (v := 5) dX10_count_98 zk_i5 ?_
    obtain ⟨g16, h⟩ := h
    refine zt_iald C (za_mem (j := 28) rfl (by decide) (by decide)) (fun W9 => za_E_28 g cy W9 0 0) g16 dX10_count_99 ?_
    exact zt_ret C hr hk rfl dX10_count_100 h
  replace h := za_ifn h q15
  by_cases q17 : x1 = 7
  · replace h := za_ifp h q17
    refine zt_tableIn C (off := 100) 101 dX10_count_1 (by rw [q17]; decide) (by rw [q17]; decide) (by rw [q17]; decide) (by decide) ?_
    refine zt_aload_n C 0 dX10_count_101 rfl rfl ?_
    refine zt_get C (za_mem (j := 27) rfl (by decide) (by decide)) pf_X10_9 (za_E_27 g cy M 0 0) rfl dX10_count_102 ?_
    refine zt_bipush C (v := 6) dX10_count_105 zk_b6 ?_
    obtain ⟨g18, h⟩ := h
    refine zt_iald C (za_mem (j := 28) rfl (by decide) (by decide)) (fun W9 => za_E_28 g cy W9 0 0) g18 dX10_count_107 ?_
    exact zt_ret C hr hk rfl dX10_count_108 h
  replace h := za_ifn h q17
  by_cases q19 : x1 = 8
  · replace h := za_ifp h q19
    refine zt_tableIn C (off := 108) 109 dX10_count_1 (by rw [q19]; decide) (by rw [q19]; decide) (by rw [q19]; decide) (by decide) ?_
    refine zt_aload_n C 0 dX10_count_109 rfl rfl ?_
    refine zt_get C (za_mem (j := 27) rfl (by decide) (by decide)) pf_X10_291 (za_E_27 g cy M 0 0) rfl dX10_count_110 ?_
    exact zt_ret C hr hk rfl dX10_count_113 h
  replace h := za_ifn h q19
  by_cases q20 : x1 = 9
  · replace h := za_ifp h q20
    refine zt_tableIn C (off := 113) 114 dX10_count_1 (by rw [q20]; decide) (by rw [q20]; decide) (by rw [q20]; decide) (by decide) ?_
    refine zt_aload_n C 0 dX10_count_114 rfl rfl ?_
    refine zt_get C (za_mem (j := 27) rfl (by decide) (by decide)) pf_X10_9 (za_E_27 g cy M 0 0) rfl dX10_count_115 ?_
    refine zt_iconst C (v := 4) dX10_count_118 zk_i4 ?_
    obtain ⟨g21, h⟩ := h
    refine zt_iald C (za_mem (j := 28) rfl (by decide) (by decide)) (fun W9 => za_E_28 g cy W9 0 0) g21 dX10_count_119 ?_
    exact zt_ret C hr hk rfl dX10_count_120 h
  replace h := za_ifn h q20
  have q1' := lv_neT (a := 0) q1 (by decide)
  have q3' := lv_neT (a := 1) q3 (by decide)
  have q5' := lv_neT (a := 2) q5 (by decide)
  have q7' := lv_neT (a := 3) q7 (by decide)
  have q9' := lv_neT (a := 4) q9 (by decide)
  have q12' := lv_neT (a := 5) q12 (by decide)
  have q15' := lv_neT (a := 6) q15 (by decide)
  have q17' := lv_neT (a := 7) q17 (by decide)
  have q19' := lv_neT (a := 8) q19 (by decide)
  have q20' := lv_neT (a := 9) q20 (by decide)
  refine zt_tableOut C 121 dX10_count_1 (by omega) (by decide) ?_
  refine zt_aload_n C 0 dX10_count_121 rfl rfl ?_
  refine zt_ldc C w_969 dX10_count_122 ?_
  refine zt_cVi C [.int (-1000000001)] (m_X10_finding hJ  h) (za_mem (j := 27) rfl (by decide) (by decide)) (za_E_27 g cy M 0 0) rfl py_X10_finding pv_X10_75 (Nat.le_of_ble_eq_true rfl) ⟨Nat.le_of_ble_eq_true rfl, Nat.le_of_ble_eq_true rfl⟩ ⟨Nat.zero_le _, Nat.zero_le _⟩ dX10_count_124 rfl (fun r23 M22 h => ?_)
  exact zt_ret C hr hk rfl dX10_count_127 h
end
theorem m_X10_count {l : Launch} {g : za_L → Nat} {D : va_G} {cy : Nat → ClassId} (hJ : za_J g)  {x1 : Int32} {M : za_M} {K : Int32 → za_M → Prop} (h : f_X10_count x1 M K) : za_Mi l g D cy yX10_count cX10_count 2 (some .int) 3 107 [.ref (g (27, 0, 0)), .int x1] M K := za_openi hJ (by decide) (Nat.le_of_ble_eq_true rfl) (fun p e s m args below meth c C hr hk => p_X10_count hJ C hr hk  h)
/-! X10_told -/
def f_X10_told (x1 : Int32) (M : za_M) (K : Int32 → za_M → Prop) : Prop :=
  f_X10_within x1 1 5 M (fun r2 M1 => if r2 = 0 then (f_X10_finding (-1000000001) M1 (fun r5 M4 => K r5 M4)) else (vp_in x1 6 ∧ (K (M1.1 (31, 0, 0) x1.toNatClampNeg) M1)))
section
variable {p : Program} {l : Launch} {e : Env} {s : State} {m : MethodId} {args : Array Value} {below : List Frame} {meth : Method} {c : Code} {g : za_L → Nat} {D : va_G} {cy : Nat → ClassId} {K : Int32 → za_M → Prop}
set_option maxRecDepth 100000 in
set_option maxHeartbeats 4000000 in
theorem p_X10_told (hJ : za_J g) (C : za_C p s m args c cX10_told 2 RX10 g D cy) (hr : meth.sig.returnType = (some .int)) (hk : meth.locks = false) {x1 : Int32} {M : za_M} (h : f_X10_told x1 M K) : zt p l e (za_rm 2 86) s m args below meth c 0 0 (MQ below (za_Qi g D cy K) args s 0 0 (za_A g)) g D cy 2 M 0 [(0, .ref (g (27, 0, 0))), (1, .int x1)] [] := by
  unfold f_X10_told at h
  refine zt_iload_n C 1 dX10_told_0 rfl rfl ?_
  refine zt_iconst C (v := 1) dX10_told_1 zk_i1 ?_
  refine zt_iconst C (v := 5) dX10_told_2 zk_i5 ?_
  refine zt_cSi C [.int x1, .int 1, .int 5] (m_X10_within hJ  h) py_X10_within ps_X10_70 (Nat.le_of_ble_eq_true rfl) ⟨Nat.le_of_ble_eq_true rfl, Nat.le_of_ble_eq_true rfl⟩ ⟨Nat.zero_le _, Nat.zero_le _⟩ dX10_told_3 rfl (fun r2 M1 h => ?_)
  refine zt_if_eq C 18 dX10_told_6 (by decide) (fun q3 => ?_) (fun q3 => ?_)
  · replace h := za_ifp h q3
    refine zt_aload_n C 0 dX10_told_18 rfl rfl ?_
    refine zt_ldc C w_969 dX10_told_19 ?_
    refine zt_cVi C [.int (-1000000001)] (m_X10_finding hJ  h) (za_mem (j := 27) rfl (by decide) (by decide)) (za_E_27 g cy M1 0 0) rfl py_X10_finding pv_X10_75 (Nat.le_of_ble_eq_true rfl) ⟨Nat.le_of_ble_eq_true rfl, Nat.le_of_ble_eq_true rfl⟩ ⟨Nat.zero_le _, Nat.zero_le _⟩ dX10_told_21 rfl (fun r5 M4 h => ?_)
    exact zt_ret C hr hk rfl dX10_told_24 h
  · replace h := za_ifn h q3
    refine zt_aload_n C 0 dX10_told_9 rfl rfl ?_
    refine zt_get C (za_mem (j := 27) rfl (by decide) (by decide)) pf_X10_19 (za_E_27 g cy M1 0 0) rfl dX10_told_10 ?_
    refine zt_iload_n C 1 dX10_told_13 rfl rfl ?_
    obtain ⟨g6, h⟩ := h
    refine zt_iald C (za_mem (j := 31) rfl (by decide) (by decide)) (fun W9 => za_E_31 g cy W9 0 0) g6 dX10_told_14 ?_
    refine zt_goto C 24 dX10_told_15 (by decide) ?_
    exact zt_ret C hr hk rfl dX10_told_24 h
end
theorem m_X10_told {l : Launch} {g : za_L → Nat} {D : va_G} {cy : Nat → ClassId} (hJ : za_J g)  {x1 : Int32} {M : za_M} {K : Int32 → za_M → Prop} (h : f_X10_told x1 M K) : za_Mi l g D cy yX10_told cX10_told 2 (some .int) 2 86 [.ref (g (27, 0, 0)), .int x1] M K := za_openi hJ (by decide) (Nat.le_of_ble_eq_true rfl) (fun p e s m args below meth c C hr hk => p_X10_told hJ C hr hk  h)

/-! X9_stored -/
def f_X9_stored (x1 : Int32) (x2 : Int32) (M : za_M) (K : Int32 → za_M → Prop) : Prop :=
  f_X1_hasPotter 0 x1 M (fun r2 M1 => if r2 = 0 then (f_X9_fail 1 M1 (fun r5 M4 => K r5 M4)) else (f_X1_hasAsh 0 x2 M1 (fun r7 M6 => if r7 = 0 then (f_X9_fail 1 M6 (fun r12 M11 => K r12 M11)) else (vp_in x1 4 ∧ (vp_in x2 5 ∧ (K (M6.1 (13, 0, x1.toNatClampNeg) x2.toNatClampNeg) M6))))))
section
variable {p : Program} {l : Launch} {e : Env} {s : State} {m : MethodId} {args : Array Value} {below : List Frame} {meth : Method} {c : Code} {g : za_L → Nat} {D : va_G} {cy : Nat → ClassId} {K : Int32 → za_M → Prop}
set_option maxRecDepth 100000 in
set_option maxHeartbeats 4000000 in
theorem p_X9_stored (hJ : za_J g) (C : za_C p s m args c cX9_stored 3 RX9 g D cy) (hr : meth.sig.returnType = (some .int)) (hk : meth.locks = false) {x1 : Int32} {x2 : Int32} {M : za_M} (h : f_X9_stored x1 x2 M K) : zt p l e (za_rm 3 107) s m args below meth c 0 0 (MQ below (za_Qi g D cy K) args s 0 0 (za_A g)) g D cy 3 M 0 [(0, .ref (g (0, 0, 0))), (1, .int x1), (2, .int x2)] [] := by
  unfold f_X9_stored at h
  refine zt_aload_n C 0 dX9_stored_0 rfl rfl ?_
  refine zt_get C (za_mem (j := 0) rfl (by decide) (by decide)) pf_X9_10 (za_E_0 g cy M 0 0) rfl dX9_stored_1 ?_
  refine zt_get C (za_mem (j := 1) rfl (by decide) (by decide)) pf_X9_57 (za_E_1 g cy M 0 0) rfl dX9_stored_4 ?_
  refine zt_iload_n C 1 dX9_stored_7 rfl rfl ?_
  refine zt_cVi C [.int x1] (m_X1_hasPotter hJ (by decide) h) (za_mem (j := 2) rfl (by decide) (by decide)) (za_E_2 g cy M 0 0) rfl py_X1_hasPotter pv_X9_119 (Nat.le_of_ble_eq_true rfl) ⟨Nat.le_of_ble_eq_true rfl, Nat.le_of_ble_eq_true rfl⟩ ⟨Nat.zero_le _, Nat.zero_le _⟩ dX9_stored_8 rfl (fun r2 M1 h => ?_)
  refine zt_if_eq C 28 dX9_stored_11 (by decide) (fun q3 => ?_) (fun q3 => ?_)
  · replace h := za_ifp h q3
    refine zt_aload_n C 0 dX9_stored_28 rfl rfl ?_
    refine zt_iconst C (v := 1) dX9_stored_29 zk_i1 ?_
    refine zt_cVi C [.int 1] (m_X9_fail hJ  h) (za_mem (j := 0) rfl (by decide) (by decide)) (za_E_0 g cy M1 0 0) rfl py_X9_fail pv_X9_64 (Nat.le_of_ble_eq_true rfl) ⟨Nat.le_of_ble_eq_true rfl, Nat.le_of_ble_eq_true rfl⟩ ⟨Nat.zero_le _, Nat.zero_le _⟩ dX9_stored_30 rfl (fun r5 M4 h => ?_)
    exact zt_ret C hr hk rfl dX9_stored_33 h
  · replace h := za_ifn h q3
    refine zt_aload_n C 0 dX9_stored_14 rfl rfl ?_
    refine zt_get C (za_mem (j := 0) rfl (by decide) (by decide)) pf_X9_10 (za_E_0 g cy M1 0 0) rfl dX9_stored_15 ?_
    refine zt_get C (za_mem (j := 1) rfl (by decide) (by decide)) pf_X9_57 (za_E_1 g cy M1 0 0) rfl dX9_stored_18 ?_
    refine zt_iload_n C 2 dX9_stored_21 rfl rfl ?_
    refine zt_cVi C [.int x2] (m_X1_hasAsh hJ (by decide) h) (za_mem (j := 2) rfl (by decide) (by decide)) (za_E_2 g cy M1 0 0) rfl py_X1_hasAsh pv_X9_82 (Nat.le_of_ble_eq_true rfl) ⟨Nat.le_of_ble_eq_true rfl, Nat.le_of_ble_eq_true rfl⟩ ⟨Nat.zero_le _, Nat.zero_le _⟩ dX9_stored_22 rfl (fun r7 M6 h => ?_)
    refine zt_if_ne C 34 dX9_stored_25 (by decide) (fun q8 => ?_) (fun q8 => ?_)
    · replace h := za_ifn h q8
      refine zt_aload_n C 0 dX9_stored_34 rfl rfl ?_
      refine zt_get C (za_mem (j := 0) rfl (by decide) (by decide)) pf_X9_10 (za_E_0 g cy M6 0 0) rfl dX9_stored_35 ?_
      refine zt_get C (za_mem (j := 1) rfl (by decide) (by decide)) pf_X9_57 (za_E_1 g cy M6 0 0) rfl dX9_stored_38 ?_
      refine zt_get C (za_mem (j := 2) rfl (by decide) (by decide)) pf_X9_111 (za_E_2 g cy M6 0 0) rfl dX9_stored_41 ?_
      refine zt_iload_n C 1 dX9_stored_44 rfl rfl ?_
      obtain ⟨g9, h⟩ := h
      refine zt_aald C (za_mem (j := 11) rfl (by decide) (by decide)) (za_E_11 g cy M6 0 0) rfl g9 dX9_stored_45 ?_
      refine zt_get C (za_mem (j := 4) rfl (by decide) (za_lt g9)) pf_X9_134 (za_E_4 g cy M6 0 x1.toNatClampNeg) rfl dX9_stored_46 ?_
      refine zt_iload_n C 2 dX9_stored_49 rfl rfl ?_
      obtain ⟨g10, h⟩ := h
      refine zt_iald C (za_mem (j := 13) rfl (by decide) (za_lt g9)) (fun W9 => za_E_13 g cy W9 0 x1.toNatClampNeg) g10 dX9_stored_50 ?_
      exact zt_ret C hr hk rfl dX9_stored_51 h
    · replace h := za_ifp h q8
      refine zt_aload_n C 0 dX9_stored_28 rfl rfl ?_
      refine zt_iconst C (v := 1) dX9_stored_29 zk_i1 ?_
      refine zt_cVi C [.int 1] (m_X9_fail hJ  h) (za_mem (j := 0) rfl (by decide) (by decide)) (za_E_0 g cy M6 0 0) rfl py_X9_fail pv_X9_64 (Nat.le_of_ble_eq_true rfl) ⟨Nat.le_of_ble_eq_true rfl, Nat.le_of_ble_eq_true rfl⟩ ⟨Nat.zero_le _, Nat.zero_le _⟩ dX9_stored_30 rfl (fun r12 M11 h => ?_)
      exact zt_ret C hr hk rfl dX9_stored_33 h
end
theorem m_X9_stored {l : Launch} {g : za_L → Nat} {D : va_G} {cy : Nat → ClassId} (hJ : za_J g)  {x1 : Int32} {x2 : Int32} {M : za_M} {K : Int32 → za_M → Prop} (h : f_X9_stored x1 x2 M K) : za_Mi l g D cy yX9_stored cX9_stored 3 (some .int) 3 107 [.ref (g (0, 0, 0)), .int x1, .int x2] M K := za_openi hJ (by decide) (Nat.le_of_ble_eq_true rfl) (fun p e s m args below meth c C hr hk => p_X9_stored hJ C hr hk  h)
/-! X9_feed -/
def f_X9_feed_b39 (K : Int32 → za_M → Prop) (x1 : Int64) (x3 : Int32) (L39 : Int32 → za_M → Prop) (x4 : Int32) (M : za_M) : Prop :=
  if x3 ≤ x4 then (za_let ((M.1 (1, 0, 0) 4) + x3) fun y2 => za_let (za_up M (1, 0, 0) 4 y2) fun M4 => K (M4.1 (1, 0, 0) 4) M4) else (za_let ((((x1.toUInt64 >>> ((8 * x4).toInt64.toUInt64 &&& Int64.toUInt64 63)).toInt64).toInt32) &&& 255) fun y6 => vp_in ((M.1 (1, 0, 0) 4) + x4) 50 ∧ (za_let (za_up M (15, 0, 0) ((M.1 (1, 0, 0) 4) + x4).toNatClampNeg y6) fun M9 => L39 (x4 + 1) M9))
def f_X9_feed (x1 : Int64) (x3 : Int32) (M : za_M) (K : Int32 → za_M → Prop) : Prop :=
  f_X9_within x3 1 8 M (fun r12 M11 => if r12 = 0 then (f_X9_fail 1 M11 (fun r18 M17 => K r18 M17)) else (if ((M11.1 (1, 0, 0) 4) + x3) ≤ 50 then (∃ n, za_lp1 (f_X9_feed_b39 K x1 x3) n 0 M11) else (f_X9_fail 4 M11 (fun r16 M15 => K r16 M15))))
section
variable {p : Program} {l : Launch} {e : Env} {s : State} {m : MethodId} {args : Array Value} {below : List Frame} {meth : Method} {c : Code} {g : za_L → Nat} {D : va_G} {cy : Nat → ClassId} {K : Int32 → za_M → Prop}
set_option maxRecDepth 100000 in
set_option maxHeartbeats 4000000 in
theorem p_X9_feed_b39 (hJ : za_J g) (C : za_C p s m args c cX9_feed 5 RX9 g D cy) (hr : meth.sig.returnType = (some .int)) (hk : meth.locks = false) {x1 : Int64} {x3 : Int32} {L39 : Int32 → za_M → Prop} (hL39 : ∀ (x4 : Int32) (M : za_M), L39 x4 M → zt p l e (za_rm 3 107) s m args below meth c 0 0 (MQ below (za_Qi g D cy K) args s 0 0 (za_A g)) g D cy 5 M 39 [(0, .ref (g (0, 0, 0))), (1, .long x1), (3, .int x3), (4, .int x4)] []) : ∀ (x4 : Int32) (M : za_M), f_X9_feed_b39 K x1 x3 L39 x4 M → zt p l e (za_rm 3 107) s m args below meth c 0 0 (MQ below (za_Qi g D cy K) args s 0 0 (za_A g)) g D cy 5 M 39 [(0, .ref (g (0, 0, 0))), (1, .long x1), (3, .int x3), (4, .int x4)] [] := by
  intro x4 M h
  unfold f_X9_feed_b39 at h
  refine zt_iload C 3 dX9_feed_39 rfl ?_
  refine zt_iload_n C 2 dX9_feed_41 rfl rfl ?_
  refine zt_icmp_ge C 81 dX9_feed_42 (by decide) (fun q1 => ?_) (fun q1 => ?_)
  · replace h := za_ifp h q1
    refine zt_aload_n C 0 dX9_feed_81 rfl rfl ?_
    refine zt_get C (za_mem (j := 0) rfl (by decide) (by decide)) pf_X9_10 (za_E_0 g cy M 0 0) rfl dX9_feed_82 ?_
    refine zt_dup C dX9_feed_85 rfl ?_
    refine zt_get C (za_mem (j := 1) rfl (by decide) (by decide)) pf_X9_137 (za_E_1 g cy M 0 0) rfl dX9_feed_86 ?_
    refine zt_iload_n C 2 dX9_feed_89 rfl rfl ?_
    refine zt_iadd C dX9_feed_90 ?_
    refine zt_topi (fun y2 e3 => ?_)
    replace h := za_use h e3
    refine zt_put C (za_mem (j := 1) rfl (by decide) (by decide)) pf_X9_137 pt_X7_4 rfl rfl (za_E_1 g cy M 0 0) rfl (Nat.le_of_ble_eq_true rfl) dX9_feed_91 ?_
    refine zt_topM (fun M4 e5 => ?_)
    replace h := za_use h e5
    refine zt_aload_n C 0 dX9_feed_94 rfl rfl ?_
    refine zt_get C (za_mem (j := 0) rfl (by decide) (by decide)) pf_X9_10 (za_E_0 g cy M4 0 0) rfl dX9_feed_95 ?_
    refine zt_get C (za_mem (j := 1) rfl (by decide) (by decide)) pf_X9_137 (za_E_1 g cy M4 0 0) rfl dX9_feed_98 ?_
    exact zt_ret C hr hk rfl dX9_feed_101 h
  · replace h := za_ifn h q1
    refine zt_aload_n C 0 dX9_feed_45 rfl rfl ?_
    refine zt_get C (za_mem (j := 0) rfl (by decide) (by decide)) pf_X9_10 (za_E_0 g cy M 0 0) rfl dX9_feed_46 ?_
    refine zt_get C (za_mem (j := 1) rfl (by decide) (by decide)) pf_X9_140 (za_E_1 g cy M 0 0) rfl dX9_feed_49 ?_
    refine zt_aload_n C 0 dX9_feed_52 rfl rfl ?_
    refine zt_get C (za_mem (j := 0) rfl (by decide) (by decide)) pf_X9_10 (za_E_0 g cy M 0 0) rfl dX9_feed_53 ?_
    refine zt_get C (za_mem (j := 1) rfl (by decide) (by decide)) pf_X9_137 (za_E_1 g cy M 0 0) rfl dX9_feed_56 ?_
    refine zt_iload C 3 dX9_feed_59 rfl ?_
    refine zt_iadd C dX9_feed_61 ?_
    refine zt_lload_n C 1 dX9_feed_62 rfl rfl ?_
    refine zt_bipush C (v := 8) dX9_feed_63 zk_b8 ?_
    refine zt_iload C 3 dX9_feed_65 rfl ?_
    refine zt_imul C dX9_feed_67 ?_
    refine zt_lushr C dX9_feed_68 ?_
    refine zt_l2i C dX9_feed_69 ?_
    refine zt_sipush C (v := 255) dX9_feed_70 zk_s255 ?_
    refine zt_iand C dX9_feed_73 ?_
    refine zt_topi (fun y6 e7 => ?_)
    replace h := za_use h e7
    obtain ⟨g8, h⟩ := h
    refine zt_iast C (za_mem (j := 15) rfl (by decide) (by decide)) (fun W9 => za_E_15 g cy W9 0 0) g8 dX9_feed_74 ?_
    refine zt_topM (fun M9 e10 => ?_)
    replace h := za_use h e10
    refine zt_iinc C (v := x4 + 1) 3 [(4, .int (x4 + 1)), (0, .ref (g (0, 0, 0))), (1, .long x1), (3, .int x3)] dX9_feed_75 rfl (zk_n1 _) (by decide) rfl ?_
    refine zt_goto C 39 dX9_feed_78 (by decide) ?_
    refine zt_sub [1, 2, 3, 0] (lv' := [(0, .ref (g (0, 0, 0))), (1, .long x1), (3, .int x3), (4, .int (x4 + 1))]) rfl ?_
    exact hL39 _ _ h
theorem p_X9_feed_b39_in (hJ : za_J g) (C : za_C p s m args c cX9_feed 5 RX9 g D cy) (hr : meth.sig.returnType = (some .int)) (hk : meth.locks = false) {x1 : Int64} {x3 : Int32} {n : Nat} {x4 : Int32} {M : za_M} (h : za_lp1 (f_X9_feed_b39 K x1 x3) n x4 M) : zt p l e (za_rm 3 107) s m args below meth c 0 0 (MQ below (za_Qi g D cy K) args s 0 0 (za_A g)) g D cy 5 M 39 [(0, .ref (g (0, 0, 0))), (1, .long x1), (3, .int x3), (4, .int x4)] [] := za_lp1_run (Z := fun x4 M => zt p l e (za_rm 3 107) s m args below meth c 0 0 (MQ below (za_Qi g D cy K) args s 0 0 (za_A g)) g D cy 5 M 39 [(0, .ref (g (0, 0, 0))), (1, .long x1), (3, .int x3), (4, .int x4)] []) (fun L hL => p_X9_feed_b39 hJ C hr hk  hL) n x4 M h
set_option maxRecDepth 100000 in
set_option maxHeartbeats 4000000 in
theorem p_X9_feed (hJ : za_J g) (C : za_C p s m args c cX9_feed 5 RX9 g D cy) (hr : meth.sig.returnType = (some .int)) (hk : meth.locks = false) {x1 : Int64} {x3 : Int32} {M : za_M} (h : f_X9_feed x1 x3 M K) : zt p l e (za_rm 3 107) s m args below meth c 0 0 (MQ below (za_Qi g D cy K) args s 0 0 (za_A g)) g D cy 5 M 0 [(0, .ref (g (0, 0, 0))), (1, .long x1), (3, .int x3)] [] := by
  unfold f_X9_feed at h
  refine zt_iload_n C 2 dX9_feed_0 rfl rfl ?_
  refine zt_iconst C (v := 1) dX9_feed_1 zk_i1 ?_
  refine zt_bipush C (v := 8) dX9_feed_2 zk_b8 ?_
  refine zt_cSi C [.int x3, .int 1, .int 8] (m_X9_within hJ  h) py_X9_within ps_X9_100 (Nat.le_of_ble_eq_true rfl) ⟨Nat.le_of_ble_eq_true rfl, Nat.le_of_ble_eq_true rfl⟩ ⟨Nat.zero_le _, Nat.zero_le _⟩ dX9_feed_4 rfl (fun r12 M11 h => ?_)
  refine zt_if_ne C 16 dX9_feed_7 (by decide) (fun q13 => ?_) (fun q13 => ?_)
  · replace h := za_ifn h q13
    refine zt_aload_n C 0 dX9_feed_16 rfl rfl ?_
    refine zt_get C (za_mem (j := 0) rfl (by decide) (by decide)) pf_X9_10 (za_E_0 g cy M11 0 0) rfl dX9_feed_17 ?_
    refine zt_get C (za_mem (j := 1) rfl (by decide) (by decide)) pf_X9_137 (za_E_1 g cy M11 0 0) rfl dX9_feed_20 ?_
    refine zt_iload_n C 2 dX9_feed_23 rfl rfl ?_
    refine zt_iadd C dX9_feed_24 ?_
    refine zt_bipush C (v := 50) dX9_feed_25 zk_b50 ?_
    refine zt_icmp_le C 36 dX9_feed_27 (by decide) (fun q14 => ?_) (fun q14 => ?_)
    · replace h := za_ifp h q14
      refine zt_iconst C (v := 0) dX9_feed_36 zk_i0 ?_
      refine zt_istore C [(4, .int 0), (0, .ref (g (0, 0, 0))), (1, .long x1), (3, .int x3)] dX9_feed_37 (by decide) rfl ?_
      refine zt_sub [1, 2, 3, 0] (lv' := [(0, .ref (g (0, 0, 0))), (1, .long x1), (3, .int x3), (4, .int 0)]) rfl ?_
      obtain ⟨n, h⟩ := h
      exact p_X9_feed_b39_in hJ C hr hk  h
    · replace h := za_ifn h q14
      refine zt_aload_n C 0 dX9_feed_30 rfl rfl ?_
      refine zt_iconst C (v := 4) dX9_feed_31 zk_i4 ?_
      refine zt_cVi C [.int 4] (m_X9_fail hJ  h) (za_mem (j := 0) rfl (by decide) (by decide)) (za_E_0 g cy M11 0 0) rfl py_X9_fail pv_X9_64 (Nat.le_of_ble_eq_true rfl) ⟨Nat.le_of_ble_eq_true rfl, Nat.le_of_ble_eq_true rfl⟩ ⟨Nat.zero_le _, Nat.zero_le _⟩ dX9_feed_32 rfl (fun r16 M15 h => ?_)
      exact zt_ret C hr hk rfl dX9_feed_35 h
  · replace h := za_ifp h q13
    refine zt_aload_n C 0 dX9_feed_10 rfl rfl ?_
    refine zt_iconst C (v := 1) dX9_feed_11 zk_i1 ?_
    refine zt_cVi C [.int 1] (m_X9_fail hJ  h) (za_mem (j := 0) rfl (by decide) (by decide)) (za_E_0 g cy M11 0 0) rfl py_X9_fail pv_X9_64 (Nat.le_of_ble_eq_true rfl) ⟨Nat.le_of_ble_eq_true rfl, Nat.le_of_ble_eq_true rfl⟩ ⟨Nat.zero_le _, Nat.zero_le _⟩ dX9_feed_12 rfl (fun r18 M17 h => ?_)
    exact zt_ret C hr hk rfl dX9_feed_15 h
end
theorem m_X9_feed {l : Launch} {g : za_L → Nat} {D : va_G} {cy : Nat → ClassId} (hJ : za_J g)  {x1 : Int64} {x3 : Int32} {M : za_M} {K : Int32 → za_M → Prop} (h : f_X9_feed x1 x3 M K) : za_Mi l g D cy yX9_feed cX9_feed 5 (some .int) 3 107 [.ref (g (0, 0, 0)), .long x1, .int x3] M K := za_openi hJ (by decide) (Nat.le_of_ble_eq_true rfl) (fun p e s m args below meth c C hr hk => p_X9_feed hJ C hr hk  h)
/-! X9_isUse -/
def f_X9_isUse (x0 : Int32) (M : za_M) (K : Int32 → za_M → Prop) : Prop :=
  f_X9_within x0 0 1 M (fun r2 M1 => za_B r2 ∧ (K r2 M1))
section
variable {p : Program} {l : Launch} {e : Env} {s : State} {m : MethodId} {args : Array Value} {below : List Frame} {meth : Method} {c : Code} {g : za_L → Nat} {D : va_G} {cy : Nat → ClassId} {K : Int32 → za_M → Prop}
set_option maxRecDepth 100000 in
set_option maxHeartbeats 4000000 in
theorem p_X9_isUse (hJ : za_J g) (C : za_C p s m args c cX9_isUse 1 RX9 g D cy) (hr : meth.sig.returnType = (some .boolean)) (hk : meth.locks = false) {x0 : Int32} {M : za_M} (h : f_X9_isUse x0 M K) : zt p l e (za_rm 2 86) s m args below meth c 0 0 (MQ below (za_Qi g D cy K) args s 0 0 (za_A g)) g D cy 1 M 0 [(0, .int x0)] [] := by
  unfold f_X9_isUse at h
  refine zt_iload_n C 0 dX9_isUse_0 rfl rfl ?_
  refine zt_iconst C (v := 0) dX9_isUse_1 zk_i0 ?_
  refine zt_iconst C (v := 1) dX9_isUse_2 zk_i1 ?_
  refine zt_cSi C [.int x0, .int 0, .int 1] (m_X9_within hJ  h) py_X9_within ps_X9_100 (Nat.le_of_ble_eq_true rfl) ⟨Nat.le_of_ble_eq_true rfl, Nat.le_of_ble_eq_true rfl⟩ ⟨Nat.zero_le _, Nat.zero_le _⟩ dX9_isUse_3 rfl (fun r2 M1 h => ?_)
  obtain ⟨g3, h⟩ := h
  exact zt_ret C hr hk (za_Bn g3) dX9_isUse_6 h
end
theorem m_X9_isUse {l : Launch} {g : za_L → Nat} {D : va_G} {cy : Nat → ClassId} (hJ : za_J g)  {x0 : Int32} {M : za_M} {K : Int32 → za_M → Prop} (h : f_X9_isUse x0 M K) : za_Mi l g D cy yX9_isUse cX9_isUse 1 (some .boolean) 2 86 [.int x0] M K := za_openi hJ (by decide) (Nat.le_of_ble_eq_true rfl) (fun p e s m args below meth c C hr hk => p_X9_isUse hJ C hr hk  h)
/-! X9_text -/
def f_X9_text (x1 : Int32) (M : za_M) (K : Int32 → za_M → Prop) : Prop :=
  f_X9_isUse x1 M (fun r2 M1 => if r2 = 0 then (f_X9_fail 1 M1 (fun r13 M12 => K r13 M12)) else (f_X5_reads (15, 0, 0) (M1.1 (1, 0, 0) 4) x1 M1 (fun r5 M4 => za_let (za_up M4 (1, 0, 0) 4 0) fun M6 => if r5 = 0 then (K ((-10) - (M6.1 (7, 0, 0) 5)) M6) else (vp_in x1 2 ∧ (f_X2_take 0 x1.toNatClampNeg (20, 0, 0) (M6.1 (7, 0, 0) 3) M6 (fun M10 => K 1 M10))))))
section
variable {p : Program} {l : Launch} {e : Env} {s : State} {m : MethodId} {args : Array Value} {below : List Frame} {meth : Method} {c : Code} {g : za_L → Nat} {D : va_G} {cy : Nat → ClassId} {K : Int32 → za_M → Prop}
set_option maxRecDepth 100000 in
set_option maxHeartbeats 4000000 in
theorem p_X9_text (hJ : za_J g) (C : za_C p s m args c cX9_text 3 RX9 g D cy) (hr : meth.sig.returnType = (some .int)) (hk : meth.locks = false) {x1 : Int32} {M : za_M} (h : f_X9_text x1 M K) : zt p l e (za_rm 106 6176) s m args below meth c 0 0 (MQ below (za_Qi g D cy K) args s 0 0 (za_A g)) g D cy 3 M 0 [(0, .ref (g (0, 0, 0))), (1, .int x1)] [] := by
  unfold f_X9_text at h
  refine zt_iload_n C 1 dX9_text_0 rfl rfl ?_
  refine zt_cSi C [.int x1] (m_X9_isUse hJ  h) py_X9_isUse ps_X9_143 (Nat.le_of_ble_eq_true rfl) ⟨Nat.le_of_ble_eq_true rfl, Nat.le_of_ble_eq_true rfl⟩ ⟨Nat.zero_le _, Nat.zero_le _⟩ dX9_text_1 rfl (fun r2 M1 h => ?_)
  refine zt_if_ne C 13 dX9_text_4 (by decide) (fun q3 => ?_) (fun q3 => ?_)
  · replace h := za_ifn h q3
    refine zt_aload_n C 0 dX9_text_13 rfl rfl ?_
    refine zt_get C (za_mem (j := 0) rfl (by decide) (by decide)) pf_X9_29 (za_E_0 g cy M1 0 0) rfl dX9_text_14 ?_
    refine zt_aload_n C 0 dX9_text_17 rfl rfl ?_
    refine zt_get C (za_mem (j := 0) rfl (by decide) (by decide)) pf_X9_10 (za_E_0 g cy M1 0 0) rfl dX9_text_18 ?_
    refine zt_get C (za_mem (j := 1) rfl (by decide) (by decide)) pf_X9_140 (za_E_1 g cy M1 0 0) rfl dX9_text_21 ?_
    refine zt_aload_n C 0 dX9_text_24 rfl rfl ?_
    refine zt_get C (za_mem (j := 0) rfl (by decide) (by decide)) pf_X9_10 (za_E_0 g cy M1 0 0) rfl dX9_text_25 ?_
    refine zt_get C (za_mem (j := 1) rfl (by decide) (by decide)) pf_X9_137 (za_E_1 g cy M1 0 0) rfl dX9_text_28 ?_
    refine zt_iload_n C 1 dX9_text_31 rfl rfl ?_
    refine zt_cVi C [.ref (g (15, 0, 0)), .int (M1.1 (1, 0, 0) 4), .int x1] (m_X5_reads hJ (za_I_of (za_mem (j := 15) rfl (by decide) (by decide)) (fun g9 cy9 W9 => za_E_15 g9 cy9 W9 0 0)) h) (za_mem (j := 7) rfl (by decide) (by decide)) (za_E_7 g cy M1 0 0) rfl py_X5_reads pv_X9_146 (Nat.le_of_ble_eq_true rfl) ⟨Nat.le_of_ble_eq_true rfl, Nat.le_of_ble_eq_true rfl⟩ ⟨Nat.zero_le _, Nat.zero_le _⟩ dX9_text_32 rfl (fun r5 M4 h => ?_)
    refine zt_istore_n C [(2, .int r5), (0, .ref (g (0, 0, 0))), (1, .int x1)] dX9_text_35 rfl (by decide) rfl ?_
    refine zt_aload_n C 1 dX9_text_36 rfl rfl ?_
    refine zt_get C (za_mem (j := 0) rfl (by decide) (by decide)) pf_X9_10 (za_E_0 g cy M4 0 0) rfl dX9_text_37 ?_
    refine zt_iconst C (v := 0) dX9_text_40 zk_i0 ?_
    refine zt_put C (za_mem (j := 1) rfl (by decide) (by decide)) pf_X9_137 pt_X7_4 rfl rfl (za_E_1 g cy M4 0 0) rfl (Nat.le_of_ble_eq_true rfl) dX9_text_41 ?_
    refine zt_topM (fun M6 e7 => ?_)
    replace h := za_use h e7
    refine zt_iload_n C 0 dX9_text_44 rfl rfl ?_
    refine zt_if_ne C 59 dX9_text_45 (by decide) (fun q8 => ?_) (fun q8 => ?_)
    · replace h := za_ifn h q8
      refine zt_aload_n C 1 dX9_text_59 rfl rfl ?_
      refine zt_get C (za_mem (j := 0) rfl (by decide) (by decide)) pf_X9_10 (za_E_0 g cy M6 0 0) rfl dX9_text_60 ?_
      refine zt_get C (za_mem (j := 1) rfl (by decide) (by decide)) pf_X9_153 (za_E_1 g cy M6 0 0) rfl dX9_text_63 ?_
      refine zt_iload_n C 2 dX9_text_66 rfl rfl ?_
      obtain ⟨g9, h⟩ := h
      refine zt_aald C (za_mem (j := 14) rfl (by decide) (by decide)) (za_E_14 g cy M6 0 0) rfl g9 dX9_text_67 ?_
      refine zt_aload_n C 1 dX9_text_68 rfl rfl ?_
      refine zt_get C (za_mem (j := 0) rfl (by decide) (by decide)) pf_X9_29 (za_E_0 g cy M6 0 0) rfl dX9_text_69 ?_
      refine zt_get C (za_mem (j := 7) rfl (by decide) (by decide)) pf_X9_157 (za_E_7 g cy M6 0 0) rfl dX9_text_72 ?_
      refine zt_aload_n C 1 dX9_text_75 rfl rfl ?_
      refine zt_get C (za_mem (j := 0) rfl (by decide) (by decide)) pf_X9_29 (za_E_0 g cy M6 0 0) rfl dX9_text_76 ?_
      refine zt_get C (za_mem (j := 7) rfl (by decide) (by decide)) pf_X9_160 (za_E_7 g cy M6 0 0) rfl dX9_text_79 ?_
      refine zt_cVv C [.ref (g (20, 0, 0)), .int (M6.1 (7, 0, 0) 3)] (m_X2_take hJ (by decide) (za_lt g9) (za_I_of (za_mem (j := 20) rfl (by decide) (by decide)) (fun g9 cy9 W9 => za_E_20 g9 cy9 W9 0 0)) h) (za_mem (j := 6) rfl (by decide) (za_lt g9)) (za_E_6 g cy M6 0 x1.toNatClampNeg) rfl py_X2_take pv_X9_163 (Nat.le_of_ble_eq_true rfl) ⟨Nat.le_of_ble_eq_true rfl, Nat.le_of_ble_eq_true rfl⟩ ⟨Nat.zero_le _, Nat.zero_le _⟩ dX9_text_82 rfl (fun M10 h => ?_)
      refine zt_iconst C (v := 1) dX9_text_85 zk_i1 ?_
      exact zt_ret C hr hk rfl dX9_text_86 h
    · replace h := za_ifp h q8
      refine zt_bipush C (v := (-10)) dX9_text_48 zk_bm10 ?_
      refine zt_aload_n C 1 dX9_text_50 rfl rfl ?_
      refine zt_get C (za_mem (j := 0) rfl (by decide) (by decide)) pf_X9_29 (za_E_0 g cy M6 0 0) rfl dX9_text_51 ?_
      refine zt_get C (za_mem (j := 7) rfl (by decide) (by decide)) pf_X9_150 (za_E_7 g cy M6 0 0) rfl dX9_text_54 ?_
      refine zt_isub C dX9_text_57 ?_
      exact zt_ret C hr hk rfl dX9_text_58 h
  · replace h := za_ifp h q3
    refine zt_aload_n C 0 dX9_text_7 rfl rfl ?_
    refine zt_iconst C (v := 1) dX9_text_8 zk_i1 ?_
    refine zt_cVi C [.int 1] (m_X9_fail hJ  h) (za_mem (j := 0) rfl (by decide) (by decide)) (za_E_0 g cy M1 0 0) rfl py_X9_fail pv_X9_64 (Nat.le_of_ble_eq_true rfl) ⟨Nat.le_of_ble_eq_true rfl, Nat.le_of_ble_eq_true rfl⟩ ⟨Nat.zero_le _, Nat.zero_le _⟩ dX9_text_9 rfl (fun r13 M12 h => ?_)
    exact zt_ret C hr hk rfl dX9_text_12 h
end
theorem m_X9_text {l : Launch} {g : za_L → Nat} {D : va_G} {cy : Nat → ClassId} (hJ : za_J g)  {x1 : Int32} {M : za_M} {K : Int32 → za_M → Prop} (h : f_X9_text x1 M K) : za_Mi l g D cy yX9_text cX9_text 3 (some .int) 106 6176 [.ref (g (0, 0, 0)), .int x1] M K := za_openi hJ (by decide) (Nat.le_of_ble_eq_true rfl) (fun p e s m args below meth c C hr hk => p_X9_text hJ C hr hk  h)
/-! X9_law -/
def f_X9_law (x1 : Int32) (x2 : Int32) (x3 : Int32) (x4 : Int32) (M : za_M) (K : Int32 → za_M → Prop) : Prop :=
  f_X9_isUse x1 M (fun r2 M1 => if r2 = 0 then (f_X9_fail 1 M1 (fun r8 M7 => K r8 M7)) else (vp_in x1 2 ∧ (f_X2_gives 0 x1.toNatClampNeg x2 x3 x4 M1 (fun r6 M5 => K r6 M5))))
section
variable {p : Program} {l : Launch} {e : Env} {s : State} {m : MethodId} {args : Array Value} {below : List Frame} {meth : Method} {c : Code} {g : za_L → Nat} {D : va_G} {cy : Nat → ClassId} {K : Int32 → za_M → Prop}
set_option maxRecDepth 100000 in
set_option maxHeartbeats 4000000 in
theorem p_X9_law (hJ : za_J g) (C : za_C p s m args c cX9_law 5 RX9 g D cy) (hr : meth.sig.returnType = (some .int)) (hk : meth.locks = false) {x1 : Int32} {x2 : Int32} {x3 : Int32} {x4 : Int32} {M : za_M} (h : f_X9_law x1 x2 x3 x4 M K) : zt p l e (za_rm 4 135) s m args below meth c 0 0 (MQ below (za_Qi g D cy K) args s 0 0 (za_A g)) g D cy 5 M 0 [(0, .ref (g (0, 0, 0))), (1, .int x1), (2, .int x2), (3, .int x3), (4, .int x4)] [] := by
  unfold f_X9_law at h
  refine zt_iload_n C 1 dX9_law_0 rfl rfl ?_
  refine zt_cSi C [.int x1] (m_X9_isUse hJ  h) py_X9_isUse ps_X9_143 (Nat.le_of_ble_eq_true rfl) ⟨Nat.le_of_ble_eq_true rfl, Nat.le_of_ble_eq_true rfl⟩ ⟨Nat.zero_le _, Nat.zero_le _⟩ dX9_law_1 rfl (fun r2 M1 h => ?_)
  refine zt_if_ne C 13 dX9_law_4 (by decide) (fun q3 => ?_) (fun q3 => ?_)
  · replace h := za_ifn h q3
    refine zt_aload_n C 0 dX9_law_13 rfl rfl ?_
    refine zt_get C (za_mem (j := 0) rfl (by decide) (by decide)) pf_X9_10 (za_E_0 g cy M1 0 0) rfl dX9_law_14 ?_
    refine zt_get C (za_mem (j := 1) rfl (by decide) (by decide)) pf_X9_153 (za_E_1 g cy M1 0 0) rfl dX9_law_17 ?_
    refine zt_iload_n C 1 dX9_law_20 rfl rfl ?_
    obtain ⟨g4, h⟩ := h
    refine zt_aald C (za_mem (j := 14) rfl (by decide) (by decide)) (za_E_14 g cy M1 0 0) rfl g4 dX9_law_21 ?_
    refine zt_iload_n C 2 dX9_law_22 rfl rfl ?_
    refine zt_iload_n C 3 dX9_law_23 rfl rfl ?_
    refine zt_iload C 4 dX9_law_24 rfl ?_
    refine zt_cVi C [.int x2, .int x3, .int x4] (m_X2_gives hJ (by decide) (za_lt g4) h) (za_mem (j := 6) rfl (by decide) (za_lt g4)) (za_E_6 g cy M1 0 x1.toNatClampNeg) rfl py_X2_gives pv_X9_169 (Nat.le_of_ble_eq_true rfl) ⟨Nat.le_of_ble_eq_true rfl, Nat.le_of_ble_eq_true rfl⟩ ⟨Nat.zero_le _, Nat.zero_le _⟩ dX9_law_26 rfl (fun r6 M5 h => ?_)
    exact zt_ret C hr hk rfl dX9_law_29 h
  · replace h := za_ifp h q3
    refine zt_aload_n C 0 dX9_law_7 rfl rfl ?_
    refine zt_iconst C (v := 1) dX9_law_8 zk_i1 ?_
    refine zt_cVi C [.int 1] (m_X9_fail hJ  h) (za_mem (j := 0) rfl (by decide) (by decide)) (za_E_0 g cy M1 0 0) rfl py_X9_fail pv_X9_64 (Nat.le_of_ble_eq_true rfl) ⟨Nat.le_of_ble_eq_true rfl, Nat.le_of_ble_eq_true rfl⟩ ⟨Nat.zero_le _, Nat.zero_le _⟩ dX9_law_9 rfl (fun r8 M7 h => ?_)
    exact zt_ret C hr hk rfl dX9_law_12 h
end
theorem m_X9_law {l : Launch} {g : za_L → Nat} {D : va_G} {cy : Nat → ClassId} (hJ : za_J g)  {x1 : Int32} {x2 : Int32} {x3 : Int32} {x4 : Int32} {M : za_M} {K : Int32 → za_M → Prop} (h : f_X9_law x1 x2 x3 x4 M K) : za_Mi l g D cy yX9_law cX9_law 5 (some .int) 4 135 [.ref (g (0, 0, 0)), .int x1, .int x2, .int x3, .int x4] M K := za_openi hJ (by decide) (Nat.le_of_ble_eq_true rfl) (fun p e s m args below meth c C hr hk => p_X9_law hJ C hr hk  h)
/-! X9_lend -/
def f_X9_lend_b37 (K : Int32 → za_M → Prop) (x1 : Int32) (x2 : Int32) (x3 : Int32) (x4 : Int32) (x5 : Int32) (s0 : Int32) (M : za_M) : Prop :=
  if s0 = 0 then (f_X9_fail 1 M (fun r3 M2 => K r3 M2)) else (f_X1_hasAsh 0 x3 M (fun r5 M4 => if r5 = 0 then (f_X9_fail 1 M4 (fun r8 M7 => K r8 M7)) else (f_X9_within x4 1 99 M4 (fun r10 M9 => if r10 = 0 then (f_X9_fail 1 M9 (fun r13 M12 => K r13 M12)) else (f_X9_within x5 1 60 M9 (fun r15 M14 => if r15 = 0 then (f_X9_fail 1 M14 (fun r28 M27 => K r28 M27)) else (f_X1_canLend 0 x1 x2 x3 x4 M14 (fun r18 M17 => if r18 = 0 then (f_X9_fail 3 M17 (fun r26 M25 => K r26 M25)) else (if (M17.1 (2, 0, 0) 5) < 10 then (f_X1_addLoan 0 x1 x2 x3 x4 x5 M17 (fun M21 => K ((M21.1 (2, 0, 0) 5) - 1) M21)) else (f_X9_fail 4 M17 (fun r24 M23 => K r24 M23)))))))))))
def f_X9_lend_b36 (K : Int32 → za_M → Prop) (x1 : Int32) (x2 : Int32) (x3 : Int32) (x4 : Int32) (x5 : Int32) (M : za_M) : Prop :=
  f_X9_lend_b37 K x1 x2 x3 x4 x5 0 M
def f_X9_lend (x1 : Int32) (x2 : Int32) (x3 : Int32) (x4 : Int32) (x5 : Int32) (M : za_M) (K : Int32 → za_M → Prop) : Prop :=
  f_X1_hasPotter 0 x1 M (fun r30 M29 => if r30 = 0 then (f_X9_lend_b36 K x1 x2 x3 x4 x5 M29) else (f_X1_hasPotter 0 x2 M29 (fun r33 M32 => if r33 = 0 then (f_X9_lend_b36 K x1 x2 x3 x4 x5 M32) else (if x1 = x2 then (f_X9_lend_b36 K x1 x2 x3 x4 x5 M32) else (f_X9_lend_b37 K x1 x2 x3 x4 x5 1 M32)))))
section
variable {p : Program} {l : Launch} {e : Env} {s : State} {m : MethodId} {args : Array Value} {below : List Frame} {meth : Method} {c : Code} {g : za_L → Nat} {D : va_G} {cy : Nat → ClassId} {K : Int32 → za_M → Prop}
set_option maxRecDepth 100000 in
set_option maxHeartbeats 4000000 in
theorem p_X9_lend_b37 (hJ : za_J g) (C : za_C p s m args c cX9_lend 8 RX9 g D cy) (hr : meth.sig.returnType = (some .int)) (hk : meth.locks = false) {x1 : Int32} {x2 : Int32} {x3 : Int32} {x4 : Int32} {x5 : Int32} {s0 : Int32} {M : za_M} (h : f_X9_lend_b37 K x1 x2 x3 x4 x5 s0 M) : zt p l e (za_rm 4 133) s m args below meth c 0 0 (MQ below (za_Qi g D cy K) args s 0 0 (za_A g)) g D cy 8 M 37 [(0, .ref (g (0, 0, 0))), (1, .int x1), (2, .int x2), (3, .int x3), (4, .int x4), (5, .int x5), (6, .ref (g (2, 0, 0)))] [.int s0] := by
  unfold f_X9_lend_b37 at h
  refine zt_istore C [(7, .int s0), (0, .ref (g (0, 0, 0))), (1, .int x1), (2, .int x2), (3, .int x3), (4, .int x4), (5, .int x5), (6, .ref (g (2, 0, 0)))] dX9_lend_37 (by decide) rfl ?_
  refine zt_iload C 0 dX9_lend_39 rfl ?_
  refine zt_if_eq C 75 dX9_lend_41 (by decide) (fun q1 => ?_) (fun q1 => ?_)
  · replace h := za_ifp h q1
    refine zt_aload_n C 1 dX9_lend_75 rfl rfl ?_
    refine zt_iconst C (v := 1) dX9_lend_76 zk_i1 ?_
    refine zt_cVi C [.int 1] (m_X9_fail hJ  h) (za_mem (j := 0) rfl (by decide) (by decide)) (za_E_0 g cy M 0 0) rfl py_X9_fail pv_X9_64 (Nat.le_of_ble_eq_true rfl) ⟨Nat.le_of_ble_eq_true rfl, Nat.le_of_ble_eq_true rfl⟩ ⟨Nat.zero_le _, Nat.zero_le _⟩ dX9_lend_77 rfl (fun r3 M2 h => ?_)
    exact zt_ret C hr hk rfl dX9_lend_80 h
  · replace h := za_ifn h q1
    refine zt_aload C 7 dX9_lend_44 rfl ?_
    refine zt_iload_n C 4 dX9_lend_46 rfl rfl ?_
    refine zt_cVi C [.int x3] (m_X1_hasAsh hJ (by decide) h) (za_mem (j := 2) rfl (by decide) (by decide)) (za_E_2 g cy M 0 0) rfl py_X1_hasAsh pv_X9_82 (Nat.le_of_ble_eq_true rfl) ⟨Nat.le_of_ble_eq_true rfl, Nat.le_of_ble_eq_true rfl⟩ ⟨Nat.zero_le _, Nat.zero_le _⟩ dX9_lend_47 rfl (fun r5 M4 h => ?_)
    refine zt_if_eq C 75 dX9_lend_50 (by decide) (fun q6 => ?_) (fun q6 => ?_)
    · replace h := za_ifp h q6
      refine zt_aload_n C 1 dX9_lend_75 rfl rfl ?_
      refine zt_iconst C (v := 1) dX9_lend_76 zk_i1 ?_
      refine zt_cVi C [.int 1] (m_X9_fail hJ  h) (za_mem (j := 0) rfl (by decide) (by decide)) (za_E_0 g cy M4 0 0) rfl py_X9_fail pv_X9_64 (Nat.le_of_ble_eq_true rfl) ⟨Nat.le_of_ble_eq_true rfl, Nat.le_of_ble_eq_true rfl⟩ ⟨Nat.zero_le _, Nat.zero_le _⟩ dX9_lend_77 rfl (fun r8 M7 h => ?_)
      exact zt_ret C hr hk rfl dX9_lend_80 h
    · replace h := za_ifn h q6
      refine zt_iload C 5 dX9_lend_53 rfl ?_
      refine zt_iconst C (v := 1) dX9_lend_55 zk_i1 ?_
      refine zt_bipush C (v := 99) dX9_lend_56 zk_b99 ?_
      refine zt_cSi C [.int x4, .int 1, .int 99] (m_X9_within hJ  h) py_X9_within ps_X9_100 (Nat.le_of_ble_eq_true rfl) ⟨Nat.le_of_ble_eq_true rfl, Nat.le_of_ble_eq_true rfl⟩ ⟨Nat.zero_le _, Nat.zero_le _⟩ dX9_lend_58 rfl (fun r10 M9 h => ?_)
      refine zt_if_eq C 75 dX9_lend_61 (by decide) (fun q11 => ?_) (fun q11 => ?_)
      · replace h := za_ifp h q11
        refine zt_aload_n C 1 dX9_lend_75 rfl rfl ?_
        refine zt_iconst C (v := 1) dX9_lend_76 zk_i1 ?_
        refine zt_cVi C [.int 1] (m_X9_fail hJ  h) (za_mem (j := 0) rfl (by decide) (by decide)) (za_E_0 g cy M9 0 0) rfl py_X9_fail pv_X9_64 (Nat.le_of_ble_eq_true rfl) ⟨Nat.le_of_ble_eq_true rfl, Nat.le_of_ble_eq_true rfl⟩ ⟨Nat.zero_le _, Nat.zero_le _⟩ dX9_lend_77 rfl (fun r13 M12 h => ?_)
        exact zt_ret C hr hk rfl dX9_lend_80 h
      · replace h := za_ifn h q11
        refine zt_iload C 6 dX9_lend_64 rfl ?_
        refine zt_iconst C (v := 1) dX9_lend_66 zk_i1 ?_
        refine zt_bipush C (v := 60) dX9_lend_67 zk_b60 ?_
        refine zt_cSi C [.int x5, .int 1, .int 60] (m_X9_within hJ  h) py_X9_within ps_X9_100 (Nat.le_of_ble_eq_true rfl) ⟨Nat.le_of_ble_eq_true rfl, Nat.le_of_ble_eq_true rfl⟩ ⟨Nat.zero_le _, Nat.zero_le _⟩ dX9_lend_69 rfl (fun r15 M14 h => ?_)
        refine zt_if_ne C 81 dX9_lend_72 (by decide) (fun q16 => ?_) (fun q16 => ?_)
        · replace h := za_ifn h q16
          refine zt_aload C 7 dX9_lend_81 rfl ?_
          refine zt_iload_n C 2 dX9_lend_83 rfl rfl ?_
          refine zt_iload_n C 3 dX9_lend_84 rfl rfl ?_
          refine zt_iload_n C 4 dX9_lend_85 rfl rfl ?_
          refine zt_iload C 5 dX9_lend_86 rfl ?_
          refine zt_cVi C [.int x1, .int x2, .int x3, .int x4] (m_X1_canLend hJ (by decide) h) (za_mem (j := 2) rfl (by decide) (by decide)) (za_E_2 g cy M14 0 0) rfl py_X1_canLend pv_X9_173 (Nat.le_of_ble_eq_true rfl) ⟨Nat.le_of_ble_eq_true rfl, Nat.le_of_ble_eq_true rfl⟩ ⟨Nat.zero_le _, Nat.zero_le _⟩ dX9_lend_88 rfl (fun r18 M17 h => ?_)
          refine zt_if_ne C 100 dX9_lend_91 (by decide) (fun q19 => ?_) (fun q19 => ?_)
          · replace h := za_ifn h q19
            refine zt_aload C 7 dX9_lend_100 rfl ?_
            refine zt_get C (za_mem (j := 2) rfl (by decide) (by decide)) pf_X9_177 (za_E_2 g cy M17 0 0) rfl dX9_lend_102 ?_
            refine zt_bipush C (v := 10) dX9_lend_105 zk_b10 ?_
            refine zt_icmp_lt C 116 dX9_lend_107 (by decide) (fun q20 => ?_) (fun q20 => ?_)
            · replace h := za_ifp h q20
              refine zt_aload C 7 dX9_lend_116 rfl ?_
              refine zt_iload_n C 2 dX9_lend_118 rfl rfl ?_
              refine zt_iload_n C 3 dX9_lend_119 rfl rfl ?_
              refine zt_iload_n C 4 dX9_lend_120 rfl rfl ?_
              refine zt_iload C 5 dX9_lend_121 rfl ?_
              refine zt_iload C 6 dX9_lend_123 rfl ?_
              refine zt_cVv C [.int x1, .int x2, .int x3, .int x4, .int x5] (m_X1_addLoan hJ (by decide) h) (za_mem (j := 2) rfl (by decide) (by decide)) (za_E_2 g cy M17 0 0) rfl py_X1_addLoan pv_X9_180 (Nat.le_of_ble_eq_true rfl) ⟨Nat.le_of_ble_eq_true rfl, Nat.le_of_ble_eq_true rfl⟩ ⟨Nat.zero_le _, Nat.zero_le _⟩ dX9_lend_125 rfl (fun M21 h => ?_)
              refine zt_aload C 7 dX9_lend_128 rfl ?_
              refine zt_get C (za_mem (j := 2) rfl (by decide) (by decide)) pf_X9_177 (za_E_2 g cy M21 0 0) rfl dX9_lend_130 ?_
              refine zt_iconst C (v := 1) dX9_lend_133 zk_i1 ?_
              refine zt_isub C dX9_lend_134 ?_
              exact zt_ret C hr hk rfl dX9_lend_135 h
            · replace h := za_ifn h q20
              refine zt_aload_n C 1 dX9_lend_110 rfl rfl ?_
              refine zt_iconst C (v := 4) dX9_lend_111 zk_i4 ?_
              refine zt_cVi C [.int 4] (m_X9_fail hJ  h) (za_mem (j := 0) rfl (by decide) (by decide)) (za_E_0 g cy M17 0 0) rfl py_X9_fail pv_X9_64 (Nat.le_of_ble_eq_true rfl) ⟨Nat.le_of_ble_eq_true rfl, Nat.le_of_ble_eq_true rfl⟩ ⟨Nat.zero_le _, Nat.zero_le _⟩ dX9_lend_112 rfl (fun r24 M23 h => ?_)
              exact zt_ret C hr hk rfl dX9_lend_115 h
          · replace h := za_ifp h q19
            refine zt_aload_n C 1 dX9_lend_94 rfl rfl ?_
            refine zt_iconst C (v := 3) dX9_lend_95 zk_i3 ?_
            refine zt_cVi C [.int 3] (m_X9_fail hJ  h) (za_mem (j := 0) rfl (by decide) (by decide)) (za_E_0 g cy M17 0 0) rfl py_X9_fail pv_X9_64 (Nat.le_of_ble_eq_true rfl) ⟨Nat.le_of_ble_eq_true rfl, Nat.le_of_ble_eq_true rfl⟩ ⟨Nat.zero_le _, Nat.zero_le _⟩ dX9_lend_96 rfl (fun r26 M25 h => ?_)
            exact zt_ret C hr hk rfl dX9_lend_99 h
        · replace h := za_ifp h q16
          refine zt_aload_n C 1 dX9_lend_75 rfl rfl ?_
          refine zt_iconst C (v := 1) dX9_lend_76 zk_i1 ?_
          refine zt_cVi C [.int 1] (m_X9_fail hJ  h) (za_mem (j := 0) rfl (by decide) (by decide)) (za_E_0 g cy M14 0 0) rfl py_X9_fail pv_X9_64 (Nat.le_of_ble_eq_true rfl) ⟨Nat.le_of_ble_eq_true rfl, Nat.le_of_ble_eq_true rfl⟩ ⟨Nat.zero_le _, Nat.zero_le _⟩ dX9_lend_77 rfl (fun r28 M27 h => ?_)
          exact zt_ret C hr hk rfl dX9_lend_80 h
set_option maxRecDepth 100000 in
set_option maxHeartbeats 4000000 in
theorem p_X9_lend_b36 (hJ : za_J g) (C : za_C p s m args c cX9_lend 8 RX9 g D cy) (hr : meth.sig.returnType = (some .int)) (hk : meth.locks = false) {x1 : Int32} {x2 : Int32} {x3 : Int32} {x4 : Int32} {x5 : Int32} {M : za_M} (h : f_X9_lend_b36 K x1 x2 x3 x4 x5 M) : zt p l e (za_rm 4 133) s m args below meth c 0 0 (MQ below (za_Qi g D cy K) args s 0 0 (za_A g)) g D cy 8 M 36 [(0, .ref (g (0, 0, 0))), (1, .int x1), (2, .int x2), (3, .int x3), (4, .int x4), (5, .int x5), (6, .ref (g (2, 0, 0)))] [] := by
  unfold f_X9_lend_b36 at h
  refine zt_iconst C (v := 0) dX9_lend_36 zk_i0 ?_
  exact p_X9_lend_b37 hJ C hr hk  h
set_option maxRecDepth 100000 in
set_option maxHeartbeats 4000000 in
theorem p_X9_lend (hJ : za_J g) (C : za_C p s m args c cX9_lend 8 RX9 g D cy) (hr : meth.sig.returnType = (some .int)) (hk : meth.locks = false) {x1 : Int32} {x2 : Int32} {x3 : Int32} {x4 : Int32} {x5 : Int32} {M : za_M} (h : f_X9_lend x1 x2 x3 x4 x5 M K) : zt p l e (za_rm 4 133) s m args below meth c 0 0 (MQ below (za_Qi g D cy K) args s 0 0 (za_A g)) g D cy 8 M 0 [(0, .ref (g (0, 0, 0))), (1, .int x1), (2, .int x2), (3, .int x3), (4, .int x4), (5, .int x5)] [] := by
  unfold f_X9_lend at h
  refine zt_aload_n C 0 dX9_lend_0 rfl rfl ?_
  refine zt_get C (za_mem (j := 0) rfl (by decide) (by decide)) pf_X9_10 (za_E_0 g cy M 0 0) rfl dX9_lend_1 ?_
  refine zt_get C (za_mem (j := 1) rfl (by decide) (by decide)) pf_X9_57 (za_E_1 g cy M 0 0) rfl dX9_lend_4 ?_
  refine zt_astore C [(6, .ref (g (2, 0, 0))), (0, .ref (g (0, 0, 0))), (1, .int x1), (2, .int x2), (3, .int x3), (4, .int x4), (5, .int x5)] dX9_lend_7 (by decide) rfl ?_
  refine zt_aload C 0 dX9_lend_9 rfl ?_
  refine zt_iload_n C 2 dX9_lend_11 rfl rfl ?_
  refine zt_cVi C [.int x1] (m_X1_hasPotter hJ (by decide) h) (za_mem (j := 2) rfl (by decide) (by decide)) (za_E_2 g cy M 0 0) rfl py_X1_hasPotter pv_X9_119 (Nat.le_of_ble_eq_true rfl) ⟨Nat.le_of_ble_eq_true rfl, Nat.le_of_ble_eq_true rfl⟩ ⟨Nat.zero_le _, Nat.zero_le _⟩ dX9_lend_12 rfl (fun r30 M29 h => ?_)
  refine zt_if_eq C 36 dX9_lend_15 (by decide) (fun q31 => ?_) (fun q31 => ?_)
  · replace h := za_ifp h q31
    refine zt_sub [1, 2, 3, 4, 5, 6, 0] (lv' := [(0, .ref (g (0, 0, 0))), (1, .int x1), (2, .int x2), (3, .int x3), (4, .int x4), (5, .int x5), (6, .ref (g (2, 0, 0)))]) rfl ?_
    exact p_X9_lend_b36 hJ C hr hk  h
  · replace h := za_ifn h q31
    refine zt_aload C 0 dX9_lend_18 rfl ?_
    refine zt_iload_n C 3 dX9_lend_20 rfl rfl ?_
    refine zt_cVi C [.int x2] (m_X1_hasPotter hJ (by decide) h) (za_mem (j := 2) rfl (by decide) (by decide)) (za_E_2 g cy M29 0 0) rfl py_X1_hasPotter pv_X9_119 (Nat.le_of_ble_eq_true rfl) ⟨Nat.le_of_ble_eq_true rfl, Nat.le_of_ble_eq_true rfl⟩ ⟨Nat.zero_le _, Nat.zero_le _⟩ dX9_lend_21 rfl (fun r33 M32 h => ?_)
    refine zt_if_eq C 36 dX9_lend_24 (by decide) (fun q34 => ?_) (fun q34 => ?_)
    · replace h := za_ifp h q34
      refine zt_sub [1, 2, 3, 4, 5, 6, 0] (lv' := [(0, .ref (g (0, 0, 0))), (1, .int x1), (2, .int x2), (3, .int x3), (4, .int x4), (5, .int x5), (6, .ref (g (2, 0, 0)))]) rfl ?_
      exact p_X9_lend_b36 hJ C hr hk  h
    · replace h := za_ifn h q34
      refine zt_iload_n C 2 dX9_lend_27 rfl rfl ?_
      refine zt_iload_n C 3 dX9_lend_28 rfl rfl ?_
      refine zt_icmp_eq C 36 dX9_lend_29 (by decide) (fun q35 => ?_) (fun q35 => ?_)
      · replace h := za_ifp h q35
        refine zt_sub [1, 2, 3, 4, 5, 6, 0] (lv' := [(0, .ref (g (0, 0, 0))), (1, .int x1), (2, .int x2), (3, .int x3), (4, .int x4), (5, .int x5), (6, .ref (g (2, 0, 0)))]) rfl ?_
        exact p_X9_lend_b36 hJ C hr hk  h
      · replace h := za_ifn h q35
        refine zt_iconst C (v := 1) dX9_lend_32 zk_i1 ?_
        refine zt_goto C 37 dX9_lend_33 (by decide) ?_
        refine zt_sub [1, 2, 3, 4, 5, 6, 0] (lv' := [(0, .ref (g (0, 0, 0))), (1, .int x1), (2, .int x2), (3, .int x3), (4, .int x4), (5, .int x5), (6, .ref (g (2, 0, 0)))]) rfl ?_
        exact p_X9_lend_b37 hJ C hr hk  h
end
theorem m_X9_lend {l : Launch} {g : za_L → Nat} {D : va_G} {cy : Nat → ClassId} (hJ : za_J g)  {x1 : Int32} {x2 : Int32} {x3 : Int32} {x4 : Int32} {x5 : Int32} {M : za_M} {K : Int32 → za_M → Prop} (h : f_X9_lend x1 x2 x3 x4 x5 M K) : za_Mi l g D cy yX9_lend cX9_lend 8 (some .int) 4 133 [.ref (g (0, 0, 0)), .int x1, .int x2, .int x3, .int x4, .int x5] M K := za_openi hJ (by decide) (Nat.le_of_ble_eq_true rfl) (fun p e s m args below meth c C hr hk => p_X9_lend hJ C hr hk  h)
/-! X9_ofLoan -/
def f_X9_ofLoan (x1 : Int32) (x2 : Int32) (M : za_M) (K : Int32 → za_M → Prop) : Prop :=
  f_X1_hasLoan 0 x1 M (fun r2 M1 => if r2 = 0 then (f_X9_fail 1 M1 (fun r13 M12 => K r13 M12)) else (vp_in x1 10 ∧ (if x2 = 0 then (K (M1.1 (5, 0, (M1.2 0 x1.toNatClampNeg % 10)) 0) M1) else if x2 = 1 then (K (M1.1 (5, 0, (M1.2 0 x1.toNatClampNeg % 10)) 1) M1) else if x2 = 2 then (K (M1.1 (5, 0, (M1.2 0 x1.toNatClampNeg % 10)) 2) M1) else if x2 = 3 then (K (M1.1 (5, 0, (M1.2 0 x1.toNatClampNeg % 10)) 3) M1) else if x2 = 4 then (K (M1.1 (5, 0, (M1.2 0 x1.toNatClampNeg % 10)) 4) M1) else (f_X9_fail 1 M1 (fun r11 M10 => K r11 M10)))))
section
variable {p : Program} {l : Launch} {e : Env} {s : State} {m : MethodId} {args : Array Value} {below : List Frame} {meth : Method} {c : Code} {g : za_L → Nat} {D : va_G} {cy : Nat → ClassId} {K : Int32 → za_M → Prop}
set_option maxRecDepth 100000 in
set_option maxHeartbeats 4000000 in
theorem p_X9_ofLoan (hJ : za_J g) (C : za_C p s m args c cX9_ofLoan 4 RX9 g D cy) (hr : meth.sig.returnType = (some .int)) (hk : meth.locks = false) {x1 : Int32} {x2 : Int32} {M : za_M} (h : f_X9_ofLoan x1 x2 M K) : zt p l e (za_rm 3 107) s m args below meth c 0 0 (MQ below (za_Qi g D cy K) args s 0 0 (za_A g)) g D cy 4 M 0 [(0, .ref (g (0, 0, 0))), (1, .int x1), (2, .int x2)] [] := by
  unfold f_X9_ofLoan at h
  refine zt_aload_n C 0 dX9_ofLoan_0 rfl rfl ?_
  refine zt_get C (za_mem (j := 0) rfl (by decide) (by decide)) pf_X9_10 (za_E_0 g cy M 0 0) rfl dX9_ofLoan_1 ?_
  refine zt_get C (za_mem (j := 1) rfl (by decide) (by decide)) pf_X9_57 (za_E_1 g cy M 0 0) rfl dX9_ofLoan_4 ?_
  refine zt_iload_n C 1 dX9_ofLoan_7 rfl rfl ?_
  refine zt_cVi C [.int x1] (m_X1_hasLoan hJ (by decide) h) (za_mem (j := 2) rfl (by decide) (by decide)) (za_E_2 g cy M 0 0) rfl py_X1_hasLoan pv_X9_184 (Nat.le_of_ble_eq_true rfl) ⟨Nat.le_of_ble_eq_true rfl, Nat.le_of_ble_eq_true rfl⟩ ⟨Nat.zero_le _, Nat.zero_le _⟩ dX9_ofLoan_8 rfl (fun r2 M1 h => ?_)
  refine zt_if_ne C 20 dX9_ofLoan_11 (by decide) (fun q3 => ?_) (fun q3 => ?_)
  · replace h := za_ifn h q3
    refine zt_aload_n C 0 dX9_ofLoan_20 rfl rfl ?_
    refine zt_get C (za_mem (j := 0) rfl (by decide) (by decide)) pf_X9_10 (za_E_0 g cy M1 0 0) rfl dX9_ofLoan_21 ?_
    refine zt_get C (za_mem (j := 1) rfl (by decide) (by decide)) pf_X9_57 (za_E_1 g cy M1 0 0) rfl dX9_ofLoan_24 ?_
    refine zt_get C (za_mem (j := 2) rfl (by decide) (by decide)) pf_X9_187 (za_E_2 g cy M1 0 0) rfl dX9_ofLoan_27 ?_
    refine zt_iload_n C 1 dX9_ofLoan_30 rfl rfl ?_
    obtain ⟨g4, h⟩ := h
    refine zt_aald C (za_mem (j := 12) rfl (by decide) (by decide)) (za_E_12 g cy M1 0 0) rfl g4 dX9_ofLoan_31 ?_
    refine zt_astore_n C [(3, .ref (g (5, 0, (M1.2 0 x1.toNatClampNeg % 10)))), (0, .ref (g (0, 0, 0))), (1, .int x1), (2, .int x2)] dX9_ofLoan_32 rfl (by decide) rfl ?_
    refine zt_iload_n C 3 dX9_ofLoan_33 rfl rfl ?_
    by_cases q5 : x2 = 0
    · replace h := za_ifp h q5
      refine zt_tableIn C (off := 34) 68 dX9_ofLoan_34 (by rw [q5]; decide) (by rw [q5]; decide) (by rw [q5]; decide) (by decide) ?_
      refine zt_aload_n C 0 dX9_ofLoan_68 rfl rfl ?_
      refine zt_get C (za_mem (j := 5) rfl (by decide) (Nat.mod_lt _ (by decide))) pf_X9_191 (za_E_5 g cy M1 0 (M1.2 0 x1.toNatClampNeg % 10)) rfl dX9_ofLoan_69 ?_
      exact zt_ret C hr hk rfl dX9_ofLoan_72 h
    replace h := za_ifn h q5
    by_cases q6 : x2 = 1
    · replace h := za_ifp h q6
      refine zt_tableIn C (off := 39) 73 dX9_ofLoan_34 (by rw [q6]; decide) (by rw [q6]; decide) (by rw [q6]; decide) (by decide) ?_
      refine zt_aload_n C 0 dX9_ofLoan_73 rfl rfl ?_
      refine zt_get C (za_mem (j := 5) rfl (by decide) (Nat.mod_lt _ (by decide))) pf_X9_196 (za_E_5 g cy M1 0 (M1.2 0 x1.toNatClampNeg % 10)) rfl dX9_ofLoan_74 ?_
      exact zt_ret C hr hk rfl dX9_ofLoan_77 h
    replace h := za_ifn h q6
    by_cases q7 : x2 = 2
    · replace h := za_ifp h q7
      refine zt_tableIn C (off := 44) 78 dX9_ofLoan_34 (by rw [q7]; decide) (by rw [q7]; decide) (by rw [q7]; decide) (by decide) ?_
      refine zt_aload_n C 0 dX9_ofLoan_78 rfl rfl ?_
      refine zt_get C (za_mem (j := 5) rfl (by decide) (Nat.mod_lt _ (by decide))) pf_X9_199 (za_E_5 g cy M1 0 (M1.2 0 x1.toNatClampNeg % 10)) rfl dX9_ofLoan_79 ?_
      exact zt_ret C hr hk rfl dX9_ofLoan_82 h
    replace h := za_ifn h q7
    by_cases q8 : x2 = 3
    · replace h := za_ifp h q8
      refine zt_tableIn C (off := 49) 83 dX9_ofLoan_34 (by rw [q8]; decide) (by rw [q8]; decide) (by rw [q8]; decide) (by decide) ?_
      refine zt_aload_n C 0 dX9_ofLoan_83 rfl rfl ?_
      refine zt_get C (za_mem (j := 5) rfl (by decide) (Nat.mod_lt _ (by decide))) pf_X9_202 (za_E_5 g cy M1 0 (M1.2 0 x1.toNatClampNeg % 10)) rfl dX9_ofLoan_84 ?_
      exact zt_ret C hr hk rfl dX9_ofLoan_87 h
    replace h := za_ifn h q8
    by_cases q9 : x2 = 4
    · replace h := za_ifp h q9
      refine zt_tableIn C (off := 54) 88 dX9_ofLoan_34 (by rw [q9]; decide) (by rw [q9]; decide) (by rw [q9]; decide) (by decide) ?_
      refine zt_aload_n C 0 dX9_ofLoan_88 rfl rfl ?_
      refine zt_get C (za_mem (j := 5) rfl (by decide) (Nat.mod_lt _ (by decide))) pf_X9_204 (za_E_5 g cy M1 0 (M1.2 0 x1.toNatClampNeg % 10)) rfl dX9_ofLoan_89 ?_
      exact zt_ret C hr hk rfl dX9_ofLoan_92 h
    replace h := za_ifn h q9
    have q5' := lv_neT (a := 0) q5 (by decide)
    have q6' := lv_neT (a := 1) q6 (by decide)
    have q7' := lv_neT (a := 2) q7 (by decide)
    have q8' := lv_neT (a := 3) q8 (by decide)
    have q9' := lv_neT (a := 4) q9 (by decide)
    refine zt_tableOut C 93 dX9_ofLoan_34 (by omega) (by decide) ?_
    refine zt_aload_n C 1 dX9_ofLoan_93 rfl rfl ?_
    refine zt_iconst C (v := 1) dX9_ofLoan_94 zk_i1 ?_
    refine zt_cVi C [.int 1] (m_X9_fail hJ  h) (za_mem (j := 0) rfl (by decide) (by decide)) (za_E_0 g cy M1 0 0) rfl py_X9_fail pv_X9_64 (Nat.le_of_ble_eq_true rfl) ⟨Nat.le_of_ble_eq_true rfl, Nat.le_of_ble_eq_true rfl⟩ ⟨Nat.zero_le _, Nat.zero_le _⟩ dX9_ofLoan_95 rfl (fun r11 M10 h => ?_)
    exact zt_ret C hr hk rfl dX9_ofLoan_98 h
  · replace h := za_ifp h q3
    refine zt_aload_n C 0 dX9_ofLoan_14 rfl rfl ?_
    refine zt_iconst C (v := 1) dX9_ofLoan_15 zk_i1 ?_
    refine zt_cVi C [.int 1] (m_X9_fail hJ  h) (za_mem (j := 0) rfl (by decide) (by decide)) (za_E_0 g cy M1 0 0) rfl py_X9_fail pv_X9_64 (Nat.le_of_ble_eq_true rfl) ⟨Nat.le_of_ble_eq_true rfl, Nat.le_of_ble_eq_true rfl⟩ ⟨Nat.zero_le _, Nat.zero_le _⟩ dX9_ofLoan_16 rfl (fun r13 M12 h => ?_)
    exact zt_ret C hr hk rfl dX9_ofLoan_19 h
end
theorem m_X9_ofLoan {l : Launch} {g : za_L → Nat} {D : va_G} {cy : Nat → ClassId} (hJ : za_J g)  {x1 : Int32} {x2 : Int32} {M : za_M} {K : Int32 → za_M → Prop} (h : f_X9_ofLoan x1 x2 M K) : za_Mi l g D cy yX9_ofLoan cX9_ofLoan 4 (some .int) 3 107 [.ref (g (0, 0, 0)), .int x1, .int x2] M K := za_openi hJ (by decide) (Nat.le_of_ble_eq_true rfl) (fun p e s m args below meth c C hr hk => p_X9_ofLoan hJ C hr hk  h)
/-! X9_back -/
def f_X9_back (x1 : Int32) (M : za_M) (K : Int32 → za_M → Prop) : Prop :=
  f_X1_hasLoan 0 x1 M (fun r2 M1 => if r2 = 0 then (f_X9_fail 1 M1 (fun r14 M13 => K r14 M13)) else (vp_in x1 10 ∧ (f_X1_canGiveBack 0 0 (M1.2 0 x1.toNatClampNeg % 10) M1 (fun r6 M5 => if r6 = 0 then (f_X9_fail 3 M5 (fun r12 M11 => K r12 M11)) else (vp_in 1 2 ∧ (f_X1_giveBack 0 x1 0 (Int32.toNatClampNeg 1) M5 (fun r10 M9 => K r10 M9)))))))
section
variable {p : Program} {l : Launch} {e : Env} {s : State} {m : MethodId} {args : Array Value} {below : List Frame} {meth : Method} {c : Code} {g : za_L → Nat} {D : va_G} {cy : Nat → ClassId} {K : Int32 → za_M → Prop}
set_option maxRecDepth 100000 in
set_option maxHeartbeats 4000000 in
theorem p_X9_back (hJ : za_J g) (C : za_C p s m args c cX9_back 3 RX9 g D cy) (hr : meth.sig.returnType = (some .int)) (hk : meth.locks = false) {x1 : Int32} {M : za_M} (h : f_X9_back x1 M K) : zt p l e (za_rm 5 159) s m args below meth c 0 0 (MQ below (za_Qi g D cy K) args s 0 0 (za_A g)) g D cy 3 M 0 [(0, .ref (g (0, 0, 0))), (1, .int x1)] [] := by
  unfold f_X9_back at h
  refine zt_aload_n C 0 dX9_back_0 rfl rfl ?_
  refine zt_get C (za_mem (j := 0) rfl (by decide) (by decide)) pf_X9_10 (za_E_0 g cy M 0 0) rfl dX9_back_1 ?_
  refine zt_get C (za_mem (j := 1) rfl (by decide) (by decide)) pf_X9_57 (za_E_1 g cy M 0 0) rfl dX9_back_4 ?_
  refine zt_astore_n C [(2, .ref (g (2, 0, 0))), (0, .ref (g (0, 0, 0))), (1, .int x1)] dX9_back_7 rfl (by decide) rfl ?_
  refine zt_aload_n C 0 dX9_back_8 rfl rfl ?_
  refine zt_iload_n C 2 dX9_back_9 rfl rfl ?_
  refine zt_cVi C [.int x1] (m_X1_hasLoan hJ (by decide) h) (za_mem (j := 2) rfl (by decide) (by decide)) (za_E_2 g cy M 0 0) rfl py_X1_hasLoan pv_X9_184 (Nat.le_of_ble_eq_true rfl) ⟨Nat.le_of_ble_eq_true rfl, Nat.le_of_ble_eq_true rfl⟩ ⟨Nat.zero_le _, Nat.zero_le _⟩ dX9_back_10 rfl (fun r2 M1 h => ?_)
  refine zt_if_ne C 22 dX9_back_13 (by decide) (fun q3 => ?_) (fun q3 => ?_)
  · replace h := za_ifn h q3
    refine zt_aload_n C 0 dX9_back_22 rfl rfl ?_
    refine zt_aload_n C 0 dX9_back_23 rfl rfl ?_
    refine zt_get C (za_mem (j := 2) rfl (by decide) (by decide)) pf_X9_187 (za_E_2 g cy M1 0 0) rfl dX9_back_24 ?_
    refine zt_iload_n C 2 dX9_back_27 rfl rfl ?_
    obtain ⟨g4, h⟩ := h
    refine zt_aald C (za_mem (j := 12) rfl (by decide) (by decide)) (za_E_12 g cy M1 0 0) rfl g4 dX9_back_28 ?_
    refine zt_cVi C [.ref (g (5, 0, (M1.2 0 x1.toNatClampNeg % 10)))] (m_X1_canGiveBack hJ (by decide) (by decide) (Nat.mod_lt _ (by decide)) h) (za_mem (j := 2) rfl (by decide) (by decide)) (za_E_2 g cy M1 0 0) rfl py_X1_canGiveBack pv_X9_207 (Nat.le_of_ble_eq_true rfl) ⟨Nat.le_of_ble_eq_true rfl, Nat.le_of_ble_eq_true rfl⟩ ⟨Nat.zero_le _, Nat.zero_le _⟩ dX9_back_29 rfl (fun r6 M5 h => ?_)
    refine zt_if_ne C 41 dX9_back_32 (by decide) (fun q7 => ?_) (fun q7 => ?_)
    · replace h := za_ifn h q7
      refine zt_aload_n C 0 dX9_back_41 rfl rfl ?_
      refine zt_iload_n C 2 dX9_back_42 rfl rfl ?_
      refine zt_aload_n C 1 dX9_back_43 rfl rfl ?_
      refine zt_get C (za_mem (j := 0) rfl (by decide) (by decide)) pf_X9_10 (za_E_0 g cy M5 0 0) rfl dX9_back_44 ?_
      refine zt_get C (za_mem (j := 1) rfl (by decide) (by decide)) pf_X9_153 (za_E_1 g cy M5 0 0) rfl dX9_back_47 ?_
      refine zt_iconst C (v := 1) dX9_back_50 zk_i1 ?_
      obtain ⟨g8, h⟩ := h
      refine zt_aald C (za_mem (j := 14) rfl (by decide) (by decide)) (za_E_14 g cy M5 0 0) rfl g8 dX9_back_51 ?_
      refine zt_cVi C [.int x1, .ref (g (6, 0, (Int32.toNatClampNeg 1)))] (m_X1_giveBack hJ (by decide) (by decide) (za_lt g8) h) (za_mem (j := 2) rfl (by decide) (by decide)) (za_E_2 g cy M5 0 0) rfl py_X1_giveBack pv_X9_211 (Nat.le_of_ble_eq_true rfl) ⟨Nat.le_of_ble_eq_true rfl, Nat.le_of_ble_eq_true rfl⟩ ⟨Nat.zero_le _, Nat.zero_le _⟩ dX9_back_52 rfl (fun r10 M9 h => ?_)
      exact zt_ret C hr hk rfl dX9_back_55 h
    · replace h := za_ifp h q7
      refine zt_aload_n C 1 dX9_back_35 rfl rfl ?_
      refine zt_iconst C (v := 3) dX9_back_36 zk_i3 ?_
      refine zt_cVi C [.int 3] (m_X9_fail hJ  h) (za_mem (j := 0) rfl (by decide) (by decide)) (za_E_0 g cy M5 0 0) rfl py_X9_fail pv_X9_64 (Nat.le_of_ble_eq_true rfl) ⟨Nat.le_of_ble_eq_true rfl, Nat.le_of_ble_eq_true rfl⟩ ⟨Nat.zero_le _, Nat.zero_le _⟩ dX9_back_37 rfl (fun r12 M11 h => ?_)
      exact zt_ret C hr hk rfl dX9_back_40 h
  · replace h := za_ifp h q3
    refine zt_aload_n C 1 dX9_back_16 rfl rfl ?_
    refine zt_iconst C (v := 1) dX9_back_17 zk_i1 ?_
    refine zt_cVi C [.int 1] (m_X9_fail hJ  h) (za_mem (j := 0) rfl (by decide) (by decide)) (za_E_0 g cy M1 0 0) rfl py_X9_fail pv_X9_64 (Nat.le_of_ble_eq_true rfl) ⟨Nat.le_of_ble_eq_true rfl, Nat.le_of_ble_eq_true rfl⟩ ⟨Nat.zero_le _, Nat.zero_le _⟩ dX9_back_18 rfl (fun r14 M13 h => ?_)
    exact zt_ret C hr hk rfl dX9_back_21 h
end
theorem m_X9_back {l : Launch} {g : za_L → Nat} {D : va_G} {cy : Nat → ClassId} (hJ : za_J g)  {x1 : Int32} {M : za_M} {K : Int32 → za_M → Prop} (h : f_X9_back x1 M K) : za_Mi l g D cy yX9_back cX9_back 3 (some .int) 5 159 [.ref (g (0, 0, 0)), .int x1] M K := za_openi hJ (by decide) (Nat.le_of_ble_eq_true rfl) (fun p e s m args below meth c C hr hk => p_X9_back hJ C hr hk  h)
/-! X9_isMix -/
def f_X9_isMix (x1 : Int32) (M : za_M) (K : Int32 → za_M → Prop) : Prop :=
  f_X9_held (M.1 (2, 0, 0) 3) 5 M (fun r2 M1 => vp_in r2 6 ∧ (f_X9_within x1 0 ((za_t2 r2.toNatClampNeg) - 1) M1 (fun r5 M4 => za_B r5 ∧ (K r5 M4))))
section
variable {p : Program} {l : Launch} {e : Env} {s : State} {m : MethodId} {args : Array Value} {below : List Frame} {meth : Method} {c : Code} {g : za_L → Nat} {D : va_G} {cy : Nat → ClassId} {K : Int32 → za_M → Prop}
set_option maxRecDepth 100000 in
set_option maxHeartbeats 4000000 in
theorem p_X9_isMix (hJ : za_J g) (C : za_C p s m args c cX9_isMix 2 RX9 g D cy) (hr : meth.sig.returnType = (some .boolean)) (hk : meth.locks = false) {x1 : Int32} {M : za_M} (h : f_X9_isMix x1 M K) : zt p l e (za_rm 2 86) s m args below meth c 0 0 (MQ below (za_Qi g D cy K) args s 0 0 (za_A g)) g D cy 2 M 0 [(0, .ref (g (0, 0, 0))), (1, .int x1)] [] := by
  unfold f_X9_isMix at h
  refine zt_iload_n C 1 dX9_isMix_0 rfl rfl ?_
  refine zt_iconst C (v := 0) dX9_isMix_1 zk_i0 ?_
  refine zt_gets C C.2.2.2.2.2.1.2.2.2.2.1.1 w_594 dX9_isMix_2 ?_
  refine zt_aload_n C 0 dX9_isMix_5 rfl rfl ?_
  refine zt_get C (za_mem (j := 0) rfl (by decide) (by decide)) pf_X9_10 (za_E_0 g cy M 0 0) rfl dX9_isMix_6 ?_
  refine zt_get C (za_mem (j := 1) rfl (by decide) (by decide)) pf_X9_57 (za_E_1 g cy M 0 0) rfl dX9_isMix_9 ?_
  refine zt_get C (za_mem (j := 2) rfl (by decide) (by decide)) pf_X9_68 (za_E_2 g cy M 0 0) rfl dX9_isMix_12 ?_
  refine zt_iconst C (v := 5) dX9_isMix_15 zk_i5 ?_
  refine zt_cSi C [.int (M.1 (2, 0, 0) 3), .int 5] (m_X9_held hJ  h) py_X9_held ps_X9_343 (Nat.le_of_ble_eq_true rfl) ⟨Nat.le_of_ble_eq_true rfl, Nat.le_of_ble_eq_true rfl⟩ ⟨Nat.zero_le _, Nat.zero_le _⟩ dX9_isMix_16 rfl (fun r2 M1 h => ?_)
  obtain ⟨g3, h⟩ := h
  refine zt_tald C C.2.2.2.2.2.1.2.2.2.2.1.2 g3 dX9_isMix_19 ?_
  refine zt_iconst C (v := 1) dX9_isMix_20 zk_i1 ?_
  refine zt_isub C dX9_isMix_21 ?_
  refine zt_cSi C [.int x1, .int 0, .int ((za_t2 r2.toNatClampNeg) - 1)] (m_X9_within hJ  h) py_X9_within ps_X9_100 (Nat.le_of_ble_eq_true rfl) ⟨Nat.le_of_ble_eq_true rfl, Nat.le_of_ble_eq_true rfl⟩ ⟨Nat.zero_le _, Nat.zero_le _⟩ dX9_isMix_22 rfl (fun r5 M4 h => ?_)
  obtain ⟨g6, h⟩ := h
  exact zt_ret C hr hk (za_Bn g6) dX9_isMix_25 h
end
theorem m_X9_isMix {l : Launch} {g : za_L → Nat} {D : va_G} {cy : Nat → ClassId} (hJ : za_J g)  {x1 : Int32} {M : za_M} {K : Int32 → za_M → Prop} (h : f_X9_isMix x1 M K) : za_Mi l g D cy yX9_isMix cX9_isMix 2 (some .boolean) 2 86 [.ref (g (0, 0, 0)), .int x1] M K := za_openi hJ (by decide) (Nat.le_of_ble_eq_true rfl) (fun p e s m args below meth c C hr hk => p_X9_isMix hJ C hr hk  h)
/-! X9_isHeat -/
def f_X9_isHeat (x0 : Int32) (M : za_M) (K : Int32 → za_M → Prop) : Prop :=
  f_X9_within x0 0 9 M (fun r2 M1 => za_B r2 ∧ (K r2 M1))
section
variable {p : Program} {l : Launch} {e : Env} {s : State} {m : MethodId} {args : Array Value} {below : List Frame} {meth : Method} {c : Code} {g : za_L → Nat} {D : va_G} {cy : Nat → ClassId} {K : Int32 → za_M → Prop}
set_option maxRecDepth 100000 in
set_option maxHeartbeats 4000000 in
theorem p_X9_isHeat (hJ : za_J g) (C : za_C p s m args c cX9_isHeat 1 RX9 g D cy) (hr : meth.sig.returnType = (some .boolean)) (hk : meth.locks = false) {x0 : Int32} {M : za_M} (h : f_X9_isHeat x0 M K) : zt p l e (za_rm 2 86) s m args below meth c 0 0 (MQ below (za_Qi g D cy K) args s 0 0 (za_A g)) g D cy 1 M 0 [(0, .int x0)] [] := by
  unfold f_X9_isHeat at h
  refine zt_iload_n C 0 dX9_isHeat_0 rfl rfl ?_
  refine zt_iconst C (v := 0) dX9_isHeat_1 zk_i0 ?_
  refine zt_bipush C (v := 9) dX9_isHeat_2 zk_b9 ?_
  refine zt_cSi C [.int x0, .int 0, .int 9] (m_X9_within hJ  h) py_X9_within ps_X9_100 (Nat.le_of_ble_eq_true rfl) ⟨Nat.le_of_ble_eq_true rfl, Nat.le_of_ble_eq_true rfl⟩ ⟨Nat.zero_le _, Nat.zero_le _⟩ dX9_isHeat_4 rfl (fun r2 M1 h => ?_)
  obtain ⟨g3, h⟩ := h
  exact zt_ret C hr hk (za_Bn g3) dX9_isHeat_7 h
end
theorem m_X9_isHeat {l : Launch} {g : za_L → Nat} {D : va_G} {cy : Nat → ClassId} (hJ : za_J g)  {x0 : Int32} {M : za_M} {K : Int32 → za_M → Prop} (h : f_X9_isHeat x0 M K) : za_Mi l g D cy yX9_isHeat cX9_isHeat 1 (some .boolean) 2 86 [.int x0] M K := za_openi hJ (by decide) (Nat.le_of_ble_eq_true rfl) (fun p e s m args below meth c C hr hk => p_X9_isHeat hJ C hr hk  h)

/-! X10_takes -/
def f_X10_takes_b13 (K : Int32 → za_M → Prop) (s0 : Int32) (M : za_M) : Prop :=
  if s0 = 0 then (za_let ((M.1 (27, 0, 0) 6) + 0) fun y2 => za_let (za_up M (27, 0, 0) 6 y2) fun M4 => za_B s0 ∧ (K s0 M4)) else (za_let ((M.1 (27, 0, 0) 6) + 1) fun y7 => za_let (za_up M (27, 0, 0) 6 y7) fun M9 => za_B s0 ∧ (K s0 M9))
def f_X10_takes (x1 : Int32) (M : za_M) (K : Int32 → za_M → Prop) : Prop :=
  f_X10_here M (fun r13 M12 => if r13 = x1 then (f_X10_takes_b13 K 1 M12) else (f_X10_takes_b13 K 0 M12))
section
variable {p : Program} {l : Launch} {e : Env} {s : State} {m : MethodId} {args : Array Value} {below : List Frame} {meth : Method} {c : Code} {g : za_L → Nat} {D : va_G} {cy : Nat → ClassId} {K : Int32 → za_M → Prop}
set_option maxRecDepth 100000 in
set_option maxHeartbeats 4000000 in
theorem p_X10_takes_b13 (hJ : za_J g) (C : za_C p s m args c cX10_takes 3 RX10 g D cy) (hr : meth.sig.returnType = (some .boolean)) (hk : meth.locks = false) {s0 : Int32} {M : za_M} (h : f_X10_takes_b13 K s0 M) : zt p l e (za_rm 2 84) s m args below meth c 0 0 (MQ below (za_Qi g D cy K) args s 0 0 (za_A g)) g D cy 3 M 13 [(0, .ref (g (27, 0, 0)))] [.int s0] := by
  unfold f_X10_takes_b13 at h
  refine zt_istore_n C [(2, .int s0), (0, .ref (g (27, 0, 0)))] dX10_takes_13 rfl (by decide) rfl ?_
  refine zt_aload_n C 1 dX10_takes_14 rfl rfl ?_
  refine zt_dup C dX10_takes_15 rfl ?_
  refine zt_get C (za_mem (j := 27) rfl (by decide) (by decide)) pf_X10_86 (za_E_27 g cy M 0 0) rfl dX10_takes_16 ?_
  refine zt_iload_n C 0 dX10_takes_19 rfl rfl ?_
  refine zt_if_eq C 27 dX10_takes_20 (by decide) (fun q1 => ?_) (fun q1 => ?_)
  · replace h := za_ifp h q1
    refine zt_iconst C (v := 0) dX10_takes_27 zk_i0 ?_
    refine zt_iadd C dX10_takes_28 ?_
    refine zt_topi (fun y2 e3 => ?_)
    replace h := za_use h e3
    refine zt_put C (za_mem (j := 27) rfl (by decide) (by decide)) pf_X10_86 pt_X10_6 rfl rfl (za_E_27 g cy M 0 0) rfl (Nat.le_of_ble_eq_true rfl) dX10_takes_29 ?_
    refine zt_topM (fun M4 e5 => ?_)
    replace h := za_use h e5
    refine zt_iload_n C 0 dX10_takes_32 rfl rfl ?_
    obtain ⟨g6, h⟩ := h
    exact zt_ret C hr hk (za_Bn g6) dX10_takes_33 h
  · replace h := za_ifn h q1
    refine zt_iconst C (v := 1) dX10_takes_23 zk_i1 ?_
    refine zt_goto C 28 dX10_takes_24 (by decide) ?_
    refine zt_iadd C dX10_takes_28 ?_
    refine zt_topi (fun y7 e8 => ?_)
    replace h := za_use h e8
    refine zt_put C (za_mem (j := 27) rfl (by decide) (by decide)) pf_X10_86 pt_X10_6 rfl rfl (za_E_27 g cy M 0 0) rfl (Nat.le_of_ble_eq_true rfl) dX10_takes_29 ?_
    refine zt_topM (fun M9 e10 => ?_)
    replace h := za_use h e10
    refine zt_iload_n C 0 dX10_takes_32 rfl rfl ?_
    obtain ⟨g11, h⟩ := h
    exact zt_ret C hr hk (za_Bn g11) dX10_takes_33 h
set_option maxRecDepth 100000 in
set_option maxHeartbeats 4000000 in
theorem p_X10_takes (hJ : za_J g) (C : za_C p s m args c cX10_takes 3 RX10 g D cy) (hr : meth.sig.returnType = (some .boolean)) (hk : meth.locks = false) {x1 : Int32} {M : za_M} (h : f_X10_takes x1 M K) : zt p l e (za_rm 2 84) s m args below meth c 0 0 (MQ below (za_Qi g D cy K) args s 0 0 (za_A g)) g D cy 3 M 0 [(0, .ref (g (27, 0, 0))), (1, .int x1)] [] := by
  unfold f_X10_takes at h
  refine zt_aload_n C 0 dX10_takes_0 rfl rfl ?_
  refine zt_cVi C [] (m_X10_here hJ  h) (za_mem (j := 27) rfl (by decide) (by decide)) (za_E_27 g cy M 0 0) rfl py_X10_here pv_X10_90 (Nat.le_of_ble_eq_true rfl) ⟨Nat.le_of_ble_eq_true rfl, Nat.le_of_ble_eq_true rfl⟩ ⟨Nat.zero_le _, Nat.zero_le _⟩ dX10_takes_1 rfl (fun r13 M12 h => ?_)
  refine zt_iload_n C 1 dX10_takes_4 rfl rfl ?_
  refine zt_icmp_ne C 12 dX10_takes_5 (by decide) (fun q14 => ?_) (fun q14 => ?_)
  · replace h := za_ifn h q14
    refine zt_iconst C (v := 0) dX10_takes_12 zk_i0 ?_
    refine zt_sub [0] (lv' := [(0, .ref (g (27, 0, 0)))]) rfl ?_
    exact p_X10_takes_b13 hJ C hr hk  h
  · replace h := za_ifp h q14
    refine zt_iconst C (v := 1) dX10_takes_8 zk_i1 ?_
    refine zt_goto C 13 dX10_takes_9 (by decide) ?_
    refine zt_sub [0] (lv' := [(0, .ref (g (27, 0, 0)))]) rfl ?_
    exact p_X10_takes_b13 hJ C hr hk  h
end
theorem m_X10_takes {l : Launch} {g : za_L → Nat} {D : va_G} {cy : Nat → ClassId} (hJ : za_J g)  {x1 : Int32} {M : za_M} {K : Int32 → za_M → Prop} (h : f_X10_takes x1 M K) : za_Mi l g D cy yX10_takes cX10_takes 3 (some .boolean) 2 84 [.ref (g (27, 0, 0)), .int x1] M K := za_openi hJ (by decide) (Nat.le_of_ble_eq_true rfl) (fun p e s m args below meth c C hr hk => p_X10_takes hJ C hr hk  h)
/-! X10_codes -/
def f_X10_codes (x1 : Int32) (M : za_M) (K : za_M → Prop) : Prop :=
  if (M.1 (27, 0, 0) 9) = 0 then (vp_in (M.1 (27, 0, 0) 11) 60 ∧ (za_let (za_up M (33, 0, 0) (M.1 (27, 0, 0) 11).toNatClampNeg x1) fun M3 => za_let ((M3.1 (27, 0, 0) 11) + 1) fun y5 => za_let (za_up M3 (27, 0, 0) 11 y5) fun M7 => K M7)) else (K M)
section
variable {p : Program} {l : Launch} {e : Env} {s : State} {m : MethodId} {args : Array Value} {below : List Frame} {meth : Method} {c : Code} {g : za_L → Nat} {D : va_G} {cy : Nat → ClassId} {K : za_M → Prop}
set_option maxRecDepth 100000 in
set_option maxHeartbeats 4000000 in
theorem p_X10_codes (hJ : za_J g) (C : za_C p s m args c cX10_codes 2 RX10 g D cy) (hr : meth.sig.returnType = none) (hk : meth.locks = false) {x1 : Int32} {M : za_M} (h : f_X10_codes x1 M K) : zt p l e (za_rm 1 64) s m args below meth c 0 0 (MQ below (za_Qv g D cy K) args s 0 0 (za_A g)) g D cy 2 M 0 [(0, .ref (g (27, 0, 0))), (1, .int x1)] [] := by
  unfold f_X10_codes at h
  refine zt_aload_n C 0 dX10_codes_0 rfl rfl ?_
  refine zt_get C (za_mem (j := 27) rfl (by decide) (by decide)) pf_X10_82 (za_E_27 g cy M 0 0) rfl dX10_codes_1 ?_
  refine zt_if_ne C 27 dX10_codes_4 (by decide) (fun q1 => ?_) (fun q1 => ?_)
  · replace h := za_ifn h q1
    exact zt_vret C hr hk dX10_codes_27 h
  · replace h := za_ifp h q1
    refine zt_aload_n C 0 dX10_codes_7 rfl rfl ?_
    refine zt_get C (za_mem (j := 27) rfl (by decide) (by decide)) pf_X10_32 (za_E_27 g cy M 0 0) rfl dX10_codes_8 ?_
    refine zt_aload_n C 0 dX10_codes_11 rfl rfl ?_
    refine zt_get C (za_mem (j := 27) rfl (by decide) (by decide)) pf_X10_94 (za_E_27 g cy M 0 0) rfl dX10_codes_12 ?_
    refine zt_iload_n C 1 dX10_codes_15 rfl rfl ?_
    obtain ⟨g2, h⟩ := h
    refine zt_iast C (za_mem (j := 33) rfl (by decide) (by decide)) (fun W9 => za_E_33 g cy W9 0 0) g2 dX10_codes_16 ?_
    refine zt_topM (fun M3 e4 => ?_)
    replace h := za_use h e4
    refine zt_aload_n C 0 dX10_codes_17 rfl rfl ?_
    refine zt_dup C dX10_codes_18 rfl ?_
    refine zt_get C (za_mem (j := 27) rfl (by decide) (by decide)) pf_X10_94 (za_E_27 g cy M3 0 0) rfl dX10_codes_19 ?_
    refine zt_iconst C (v := 1) dX10_codes_22 zk_i1 ?_
    refine zt_iadd C dX10_codes_23 ?_
    refine zt_topi (fun y5 e6 => ?_)
    replace h := za_use h e6
    refine zt_put C (za_mem (j := 27) rfl (by decide) (by decide)) pf_X10_94 pt_X10_11 rfl rfl (za_E_27 g cy M3 0 0) rfl (Nat.le_of_ble_eq_true rfl) dX10_codes_24 ?_
    refine zt_topM (fun M7 e8 => ?_)
    replace h := za_use h e8
    exact zt_vret C hr hk dX10_codes_27 h
end
theorem m_X10_codes {l : Launch} {g : za_L → Nat} {D : va_G} {cy : Nat → ClassId} (hJ : za_J g)  {x1 : Int32} {M : za_M} {K : za_M → Prop} (h : f_X10_codes x1 M K) : za_Mv l g D cy yX10_codes cX10_codes 2 none 1 64 [.ref (g (27, 0, 0)), .int x1] M K := za_openv hJ (by decide) (Nat.le_of_ble_eq_true rfl) (fun p e s m args below meth c C hr hk => p_X10_codes hJ C hr hk  h)

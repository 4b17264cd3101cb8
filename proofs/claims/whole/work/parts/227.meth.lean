/-! X10_ran -/
def f_X10_ran (x1 : Int32) (M : za_M) (K : za_M → Prop) : Prop :=
  if 40 ≤ (M.1 (27, 0, 0) 15) then (K M) else (vp_in (M.1 (27, 0, 0) 15) 40 ∧ (za_let (za_up M (36, 0, 0) (M.1 (27, 0, 0) 15).toNatClampNeg x1) fun M3 => za_let ((M3.1 (27, 0, 0) 15) + 1) fun y5 => za_let (za_up M3 (27, 0, 0) 15 y5) fun M7 => K M7))
section
variable {p : Program} {l : Launch} {e : Env} {s : State} {m : MethodId} {args : Array Value} {below : List Frame} {meth : Method} {c : Code} {g : za_L → Nat} {D : va_G} {cy : Nat → ClassId} {K : za_M → Prop}
set_option maxRecDepth 100000 in
set_option maxHeartbeats 4000000 in
theorem p_X10_ran (hJ : za_J g) (C : za_C p s m args c cX10_ran 2 RX10 g D cy) (hr : meth.sig.returnType = none) (hk : meth.locks = false) {x1 : Int32} {M : za_M} (h : f_X10_ran x1 M K) : zt p l e (za_rm 1 64) s m args below meth c 0 0 (MQ below (za_Qv g D cy K) args s 0 0 (za_A g)) g D cy 2 M 0 [(0, .ref (g (27, 0, 0))), (1, .int x1)] [] := by
  unfold f_X10_ran at h
  refine zt_aload_n C 0 dX10_ran_0 rfl rfl ?_
  refine zt_get C (za_mem (j := 27) rfl (by decide) (by decide)) pf_X10_291 (za_E_27 g cy M 0 0) rfl dX10_ran_1 ?_
  refine zt_bipush C (v := 40) dX10_ran_4 zk_b40 ?_
  refine zt_icmp_ge C 29 dX10_ran_6 (by decide) (fun q1 => ?_) (fun q1 => ?_)
  · replace h := za_ifp h q1
    exact zt_vret C hr hk dX10_ran_29 h
  · replace h := za_ifn h q1
    refine zt_aload_n C 0 dX10_ran_9 rfl rfl ?_
    refine zt_get C (za_mem (j := 27) rfl (by decide) (by decide)) pf_X10_41 (za_E_27 g cy M 0 0) rfl dX10_ran_10 ?_
    refine zt_aload_n C 0 dX10_ran_13 rfl rfl ?_
    refine zt_get C (za_mem (j := 27) rfl (by decide) (by decide)) pf_X10_291 (za_E_27 g cy M 0 0) rfl dX10_ran_14 ?_
    refine zt_iload_n C 1 dX10_ran_17 rfl rfl ?_
    obtain ⟨g2, h⟩ := h
    refine zt_iast C (za_mem (j := 36) rfl (by decide) (by decide)) (fun W9 => za_E_36 g cy W9 0 0) g2 dX10_ran_18 ?_
    refine zt_topM (fun M3 e4 => ?_)
    replace h := za_use h e4
    refine zt_aload_n C 0 dX10_ran_19 rfl rfl ?_
    refine zt_dup C dX10_ran_20 rfl ?_
    refine zt_get C (za_mem (j := 27) rfl (by decide) (by decide)) pf_X10_291 (za_E_27 g cy M3 0 0) rfl dX10_ran_21 ?_
    refine zt_iconst C (v := 1) dX10_ran_24 zk_i1 ?_
    refine zt_iadd C dX10_ran_25 ?_
    refine zt_topi (fun y5 e6 => ?_)
    replace h := za_use h e6
    refine zt_put C (za_mem (j := 27) rfl (by decide) (by decide)) pf_X10_291 pt_X10_15 rfl rfl (za_E_27 g cy M3 0 0) rfl (Nat.le_of_ble_eq_true rfl) dX10_ran_26 ?_
    refine zt_topM (fun M7 e8 => ?_)
    replace h := za_use h e8
    exact zt_vret C hr hk dX10_ran_29 h
end
theorem m_X10_ran {l : Launch} {g : za_L → Nat} {D : va_G} {cy : Nat → ClassId} (hJ : za_J g)  {x1 : Int32} {M : za_M} {K : za_M → Prop} (h : f_X10_ran x1 M K) : za_Mv l g D cy yX10_ran cX10_ran 2 none 1 64 [.ref (g (27, 0, 0)), .int x1] M K := za_openv hJ (by decide) (Nat.le_of_ble_eq_true rfl) (fun p e s m args below meth c C hr hk => p_X10_ran hJ C hr hk  h)
/-! X10_burnsOf -/
def f_X10_burnsOf_b19 (K : Int32 → za_M → Prop) (x1 : Int32) (x2 : Int32) (M : za_M) : Prop :=
  f_X10_ran 10 M (fun M1 => if x2 = 0 then (K (x1 + (M1.1 (27, 0, 0) 17)) M1) else (K ((x1 + (M1.1 (27, 0, 0) 17)) * 3) M1))
def f_X10_burnsOf (x1 : Int32) (M : za_M) (K : Int32 → za_M → Prop) : Prop :=
  f_X10_isUnder (M.1 (27, 0, 0) 16) 1 M (fun r5 M4 => if r5 = 0 then (f_X10_burnsOf_b19 K x1 r5 M4) else (f_X10_ran 20 M4 (fun M7 => f_X10_burnsOf_b19 K x1 r5 M7)))
section
variable {p : Program} {l : Launch} {e : Env} {s : State} {m : MethodId} {args : Array Value} {below : List Frame} {meth : Method} {c : Code} {g : za_L → Nat} {D : va_G} {cy : Nat → ClassId} {K : Int32 → za_M → Prop}
set_option maxRecDepth 100000 in
set_option maxHeartbeats 4000000 in
theorem p_X10_burnsOf_b19 (hJ : za_J g) (C : za_C p s m args c cX10_burnsOf 3 RX10 g D cy) (hr : meth.sig.returnType = (some .int)) (hk : meth.locks = false) {x1 : Int32} {x2 : Int32} {M : za_M} (h : f_X10_burnsOf_b19 K x1 x2 M) : zt p l e (za_rm 3 106) s m args below meth c 0 0 (MQ below (za_Qi g D cy K) args s 0 0 (za_A g)) g D cy 3 M 19 [(0, .ref (g (27, 0, 0))), (1, .int x1), (2, .int x2)] [] := by
  unfold f_X10_burnsOf_b19 at h
  refine zt_aload_n C 0 dX10_burnsOf_19 rfl rfl ?_
  refine zt_bipush C (v := 10) dX10_burnsOf_20 zk_b10 ?_
  refine zt_cVv C [.int 10] (m_X10_ran hJ  h) (za_mem (j := 27) rfl (by decide) (by decide)) (za_E_27 g cy M 0 0) rfl py_X10_ran pv_X10_297 (Nat.le_of_ble_eq_true rfl) ⟨Nat.le_of_ble_eq_true rfl, Nat.le_of_ble_eq_true rfl⟩ ⟨Nat.zero_le _, Nat.zero_le _⟩ dX10_burnsOf_22 rfl (fun M1 h => ?_)
  refine zt_iload_n C 2 dX10_burnsOf_25 rfl rfl ?_
  refine zt_if_eq C 40 dX10_burnsOf_26 (by decide) (fun q3 => ?_) (fun q3 => ?_)
  · replace h := za_ifp h q3
    refine zt_iload_n C 1 dX10_burnsOf_40 rfl rfl ?_
    refine zt_aload_n C 0 dX10_burnsOf_41 rfl rfl ?_
    refine zt_get C (za_mem (j := 27) rfl (by decide) (by decide)) pf_X10_300 (za_E_27 g cy M1 0 0) rfl dX10_burnsOf_42 ?_
    refine zt_iadd C dX10_burnsOf_45 ?_
    exact zt_ret C hr hk rfl dX10_burnsOf_46 h
  · replace h := za_ifn h q3
    refine zt_iload_n C 1 dX10_burnsOf_29 rfl rfl ?_
    refine zt_aload_n C 0 dX10_burnsOf_30 rfl rfl ?_
    refine zt_get C (za_mem (j := 27) rfl (by decide) (by decide)) pf_X10_300 (za_E_27 g cy M1 0 0) rfl dX10_burnsOf_31 ?_
    refine zt_iadd C dX10_burnsOf_34 ?_
    refine zt_iconst C (v := 3) dX10_burnsOf_35 zk_i3 ?_
    refine zt_imul C dX10_burnsOf_36 ?_
    refine zt_goto C 46 dX10_burnsOf_37 (by decide) ?_
    exact zt_ret C hr hk rfl dX10_burnsOf_46 h
set_option maxRecDepth 100000 in
set_option maxHeartbeats 4000000 in
theorem p_X10_burnsOf (hJ : za_J g) (C : za_C p s m args c cX10_burnsOf 3 RX10 g D cy) (hr : meth.sig.returnType = (some .int)) (hk : meth.locks = false) {x1 : Int32} {M : za_M} (h : f_X10_burnsOf x1 M K) : zt p l e (za_rm 3 106) s m args below meth c 0 0 (MQ below (za_Qi g D cy K) args s 0 0 (za_A g)) g D cy 3 M 0 [(0, .ref (g (27, 0, 0))), (1, .int x1)] [] := by
  unfold f_X10_burnsOf at h
  refine zt_aload_n C 0 dX10_burnsOf_0 rfl rfl ?_
  refine zt_get C (za_mem (j := 27) rfl (by decide) (by decide)) pf_X10_294 (za_E_27 g cy M 0 0) rfl dX10_burnsOf_1 ?_
  refine zt_iconst C (v := 1) dX10_burnsOf_4 zk_i1 ?_
  refine zt_cSi C [.int (M.1 (27, 0, 0) 16), .int 1] (m_X10_isUnder hJ  h) py_X10_isUnder ps_X10_186 (Nat.le_of_ble_eq_true rfl) ⟨Nat.le_of_ble_eq_true rfl, Nat.le_of_ble_eq_true rfl⟩ ⟨Nat.zero_le _, Nat.zero_le _⟩ dX10_burnsOf_5 rfl (fun r5 M4 h => ?_)
  refine zt_istore_n C [(2, .int r5), (0, .ref (g (27, 0, 0))), (1, .int x1)] dX10_burnsOf_8 rfl (by decide) rfl ?_
  refine zt_iload_n C 0 dX10_burnsOf_9 rfl rfl ?_
  refine zt_if_eq C 19 dX10_burnsOf_10 (by decide) (fun q6 => ?_) (fun q6 => ?_)
  · replace h := za_ifp h q6
    refine zt_sub [1, 2, 0] (lv' := [(0, .ref (g (27, 0, 0))), (1, .int x1), (2, .int r5)]) rfl ?_
    exact p_X10_burnsOf_b19 hJ C hr hk  h
  · replace h := za_ifn h q6
    refine zt_aload_n C 1 dX10_burnsOf_13 rfl rfl ?_
    refine zt_bipush C (v := 20) dX10_burnsOf_14 zk_b20 ?_
    refine zt_cVv C [.int 20] (m_X10_ran hJ  h) (za_mem (j := 27) rfl (by decide) (by decide)) (za_E_27 g cy M4 0 0) rfl py_X10_ran pv_X10_297 (Nat.le_of_ble_eq_true rfl) ⟨Nat.le_of_ble_eq_true rfl, Nat.le_of_ble_eq_true rfl⟩ ⟨Nat.zero_le _, Nat.zero_le _⟩ dX10_burnsOf_16 rfl (fun M7 h => ?_)
    refine zt_sub [1, 2, 0] (lv' := [(0, .ref (g (27, 0, 0))), (1, .int x1), (2, .int r5)]) rfl ?_
    exact p_X10_burnsOf_b19 hJ C hr hk  h
end
theorem m_X10_burnsOf {l : Launch} {g : za_L → Nat} {D : va_G} {cy : Nat → ClassId} (hJ : za_J g)  {x1 : Int32} {M : za_M} {K : Int32 → za_M → Prop} (h : f_X10_burnsOf x1 M K) : za_Mi l g D cy yX10_burnsOf cX10_burnsOf 3 (some .int) 3 106 [.ref (g (27, 0, 0)), .int x1] M K := za_openi hJ (by decide) (Nat.le_of_ble_eq_true rfl) (fun p e s m args below meth c C hr hk => p_X10_burnsOf hJ C hr hk  h)
/-! X10_runsOf -/
def f_X10_runsOf_b60 (K : Int32 → za_M → Prop) (s0 : Int32) (M : za_M) : Prop :=
  if (M.1 (27, 0, 0) 16) = 6 then (K (s0 ^^^ (M.1 (27, 0, 0) 17)) M) else (K s0 M)
def f_X10_runsOf_b34 (K : Int32 → za_M → Prop) (x1 : Int32) (x2 : Int32) (M : za_M) : Prop :=
  f_X10_ran 12 M (fun M2 => if x2 = 0 then (f_X10_runsOf_b60 K (x1 - (M2.1 (27, 0, 0) 18)) M2) else (f_X10_runsOf_b60 K (-(x1 - (M2.1 (27, 0, 0) 18))) M2))
def f_X10_runsOf_b15 (K : Int32 → za_M → Prop) (x1 : Int32) (M : za_M) : Prop :=
  f_X10_isUnder (M.1 (27, 0, 0) 16) 3 M (fun r6 M5 => if r6 = 0 then (f_X10_runsOf_b34 K x1 r6 M5) else (f_X10_ran 40 M5 (fun M8 => f_X10_runsOf_b34 K x1 r6 M8)))
def f_X10_runsOf (x1 : Int32) (M : za_M) (K : Int32 → za_M → Prop) : Prop :=
  if (M.1 (27, 0, 0) 16) = 6 then (f_X10_ran 70 M (fun M11 => f_X10_runsOf_b15 K x1 M11)) else (f_X10_runsOf_b15 K x1 M)
section
variable {p : Program} {l : Launch} {e : Env} {s : State} {m : MethodId} {args : Array Value} {below : List Frame} {meth : Method} {c : Code} {g : za_L → Nat} {D : va_G} {cy : Nat → ClassId} {K : Int32 → za_M → Prop}
set_option maxRecDepth 100000 in
set_option maxHeartbeats 4000000 in
theorem p_X10_runsOf_b60 (hJ : za_J g) (C : za_C p s m args c cX10_runsOf 4 RX10 g D cy) (hr : meth.sig.returnType = (some .int)) (hk : meth.locks = false) {s0 : Int32} {M : za_M} (h : f_X10_runsOf_b60 K s0 M) : zt p l e (za_rm 3 106) s m args below meth c 0 0 (MQ below (za_Qi g D cy K) args s 0 0 (za_A g)) g D cy 4 M 60 [(0, .ref (g (27, 0, 0)))] [.int s0] := by
  unfold f_X10_runsOf_b60 at h
  refine zt_istore_n C [(3, .int s0), (0, .ref (g (27, 0, 0)))] dX10_runsOf_60 rfl (by decide) rfl ?_
  refine zt_aload_n C 1 dX10_runsOf_61 rfl rfl ?_
  refine zt_get C (za_mem (j := 27) rfl (by decide) (by decide)) pf_X10_294 (za_E_27 g cy M 0 0) rfl dX10_runsOf_62 ?_
  refine zt_bipush C (v := 6) dX10_runsOf_65 zk_b6 ?_
  refine zt_icmp_ne C 79 dX10_runsOf_67 (by decide) (fun q1 => ?_) (fun q1 => ?_)
  · replace h := za_ifn h q1
    refine zt_iload_n C 0 dX10_runsOf_79 rfl rfl ?_
    exact zt_ret C hr hk rfl dX10_runsOf_80 h
  · replace h := za_ifp h q1
    refine zt_iload_n C 0 dX10_runsOf_70 rfl rfl ?_
    refine zt_aload_n C 1 dX10_runsOf_71 rfl rfl ?_
    refine zt_get C (za_mem (j := 27) rfl (by decide) (by decide)) pf_X10_300 (za_E_27 g cy M 0 0) rfl dX10_runsOf_72 ?_
    refine zt_ixor C dX10_runsOf_75 ?_
    refine zt_goto C 80 dX10_runsOf_76 (by decide) ?_
    exact zt_ret C hr hk rfl dX10_runsOf_80 h
set_option maxRecDepth 100000 in
set_option maxHeartbeats 4000000 in
theorem p_X10_runsOf_b34 (hJ : za_J g) (C : za_C p s m args c cX10_runsOf 4 RX10 g D cy) (hr : meth.sig.returnType = (some .int)) (hk : meth.locks = false) {x1 : Int32} {x2 : Int32} {M : za_M} (h : f_X10_runsOf_b34 K x1 x2 M) : zt p l e (za_rm 3 106) s m args below meth c 0 0 (MQ below (za_Qi g D cy K) args s 0 0 (za_A g)) g D cy 4 M 34 [(0, .ref (g (27, 0, 0))), (1, .int x1), (2, .int x2)] [] := by
  unfold f_X10_runsOf_b34 at h
  refine zt_aload_n C 0 dX10_runsOf_34 rfl rfl ?_
  refine zt_bipush C (v := 12) dX10_runsOf_35 zk_b12 ?_
  refine zt_cVv C [.int 12] (m_X10_ran hJ  h) (za_mem (j := 27) rfl (by decide) (by decide)) (za_E_27 g cy M 0 0) rfl py_X10_ran pv_X10_297 (Nat.le_of_ble_eq_true rfl) ⟨Nat.le_of_ble_eq_true rfl, Nat.le_of_ble_eq_true rfl⟩ ⟨Nat.zero_le _, Nat.zero_le _⟩ dX10_runsOf_37 rfl (fun M2 h => ?_)
  refine zt_iload_n C 2 dX10_runsOf_40 rfl rfl ?_
  refine zt_if_eq C 54 dX10_runsOf_41 (by decide) (fun q4 => ?_) (fun q4 => ?_)
  · replace h := za_ifp h q4
    refine zt_iload_n C 1 dX10_runsOf_54 rfl rfl ?_
    refine zt_aload_n C 0 dX10_runsOf_55 rfl rfl ?_
    refine zt_get C (za_mem (j := 27) rfl (by decide) (by decide)) pf_X10_309 (za_E_27 g cy M2 0 0) rfl dX10_runsOf_56 ?_
    refine zt_isub C dX10_runsOf_59 ?_
    refine zt_sub [0] (lv' := [(0, .ref (g (27, 0, 0)))]) rfl ?_
    exact p_X10_runsOf_b60 hJ C hr hk  h
  · replace h := za_ifn h q4
    refine zt_iload_n C 1 dX10_runsOf_44 rfl rfl ?_
    refine zt_aload_n C 0 dX10_runsOf_45 rfl rfl ?_
    refine zt_get C (za_mem (j := 27) rfl (by decide) (by decide)) pf_X10_309 (za_E_27 g cy M2 0 0) rfl dX10_runsOf_46 ?_
    refine zt_isub C dX10_runsOf_49 ?_
    refine zt_ineg C dX10_runsOf_50 ?_
    refine zt_goto C 60 dX10_runsOf_51 (by decide) ?_
    refine zt_sub [0] (lv' := [(0, .ref (g (27, 0, 0)))]) rfl ?_
    exact p_X10_runsOf_b60 hJ C hr hk  h
set_option maxRecDepth 100000 in
set_option maxHeartbeats 4000000 in
theorem p_X10_runsOf_b15 (hJ : za_J g) (C : za_C p s m args c cX10_runsOf 4 RX10 g D cy) (hr : meth.sig.returnType = (some .int)) (hk : meth.locks = false) {x1 : Int32} {M : za_M} (h : f_X10_runsOf_b15 K x1 M) : zt p l e (za_rm 3 106) s m args below meth c 0 0 (MQ below (za_Qi g D cy K) args s 0 0 (za_A g)) g D cy 4 M 15 [(0, .ref (g (27, 0, 0))), (1, .int x1)] [] := by
  unfold f_X10_runsOf_b15 at h
  refine zt_aload_n C 0 dX10_runsOf_15 rfl rfl ?_
  refine zt_get C (za_mem (j := 27) rfl (by decide) (by decide)) pf_X10_294 (za_E_27 g cy M 0 0) rfl dX10_runsOf_16 ?_
  refine zt_iconst C (v := 3) dX10_runsOf_19 zk_i3 ?_
  refine zt_cSi C [.int (M.1 (27, 0, 0) 16), .int 3] (m_X10_isUnder hJ  h) py_X10_isUnder ps_X10_186 (Nat.le_of_ble_eq_true rfl) ⟨Nat.le_of_ble_eq_true rfl, Nat.le_of_ble_eq_true rfl⟩ ⟨Nat.zero_le _, Nat.zero_le _⟩ dX10_runsOf_20 rfl (fun r6 M5 h => ?_)
  refine zt_istore_n C [(2, .int r6), (0, .ref (g (27, 0, 0))), (1, .int x1)] dX10_runsOf_23 rfl (by decide) rfl ?_
  refine zt_iload_n C 0 dX10_runsOf_24 rfl rfl ?_
  refine zt_if_eq C 34 dX10_runsOf_25 (by decide) (fun q7 => ?_) (fun q7 => ?_)
  · replace h := za_ifp h q7
    refine zt_sub [1, 2, 0] (lv' := [(0, .ref (g (27, 0, 0))), (1, .int x1), (2, .int r6)]) rfl ?_
    exact p_X10_runsOf_b34 hJ C hr hk  h
  · replace h := za_ifn h q7
    refine zt_aload_n C 1 dX10_runsOf_28 rfl rfl ?_
    refine zt_bipush C (v := 40) dX10_runsOf_29 zk_b40 ?_
    refine zt_cVv C [.int 40] (m_X10_ran hJ  h) (za_mem (j := 27) rfl (by decide) (by decide)) (za_E_27 g cy M5 0 0) rfl py_X10_ran pv_X10_297 (Nat.le_of_ble_eq_true rfl) ⟨Nat.le_of_ble_eq_true rfl, Nat.le_of_ble_eq_true rfl⟩ ⟨Nat.zero_le _, Nat.zero_le _⟩ dX10_runsOf_31 rfl (fun M8 h => ?_)
    refine zt_sub [1, 2, 0] (lv' := [(0, .ref (g (27, 0, 0))), (1, .int x1), (2, .int r6)]) rfl ?_
    exact p_X10_runsOf_b34 hJ C hr hk  h
set_option maxRecDepth 100000 in
set_option maxHeartbeats 4000000 in
theorem p_X10_runsOf (hJ : za_J g) (C : za_C p s m args c cX10_runsOf 4 RX10 g D cy) (hr : meth.sig.returnType = (some .int)) (hk : meth.locks = false) {x1 : Int32} {M : za_M} (h : f_X10_runsOf x1 M K) : zt p l e (za_rm 3 106) s m args below meth c 0 0 (MQ below (za_Qi g D cy K) args s 0 0 (za_A g)) g D cy 4 M 0 [(0, .ref (g (27, 0, 0))), (1, .int x1)] [] := by
  unfold f_X10_runsOf at h
  refine zt_aload_n C 0 dX10_runsOf_0 rfl rfl ?_
  refine zt_get C (za_mem (j := 27) rfl (by decide) (by decide)) pf_X10_294 (za_E_27 g cy M 0 0) rfl dX10_runsOf_1 ?_
  refine zt_bipush C (v := 6) dX10_runsOf_4 zk_b6 ?_
  refine zt_icmp_ne C 15 dX10_runsOf_6 (by decide) (fun q10 => ?_) (fun q10 => ?_)
  · replace h := za_ifn h q10
    exact p_X10_runsOf_b15 hJ C hr hk  h
  · replace h := za_ifp h q10
    refine zt_aload_n C 0 dX10_runsOf_9 rfl rfl ?_
    refine zt_bipush C (v := 70) dX10_runsOf_10 zk_b70 ?_
    refine zt_cVv C [.int 70] (m_X10_ran hJ  h) (za_mem (j := 27) rfl (by decide) (by decide)) (za_E_27 g cy M 0 0) rfl py_X10_ran pv_X10_297 (Nat.le_of_ble_eq_true rfl) ⟨Nat.le_of_ble_eq_true rfl, Nat.le_of_ble_eq_true rfl⟩ ⟨Nat.zero_le _, Nat.zero_le _⟩ dX10_runsOf_12 rfl (fun M11 h => ?_)
    exact p_X10_runsOf_b15 hJ C hr hk  h
end
theorem m_X10_runsOf {l : Launch} {g : za_L → Nat} {D : va_G} {cy : Nat → ClassId} (hJ : za_J g)  {x1 : Int32} {M : za_M} {K : Int32 → za_M → Prop} (h : f_X10_runsOf x1 M K) : za_Mi l g D cy yX10_runsOf cX10_runsOf 4 (some .int) 3 106 [.ref (g (27, 0, 0)), .int x1] M K := za_openi hJ (by decide) (Nat.le_of_ble_eq_true rfl) (fun p e s m args below meth c C hr hk => p_X10_runsOf hJ C hr hk  h)
/-! X10_meltsOf -/
def f_X10_meltsOf_b38 (K : Int32 → za_M → Prop) (x2 : Int32) (x3 : Int32) (M : za_M) : Prop :=
  f_X10_ran 11 M (fun M1 => f_X10_burnsOf x2 M1 (fun r4 M3 => za_let (r4 * 2) fun y5 => if x3 = 0 then (K y5 M3) else (f_X10_runsOf 1 M3 (fun r9 M8 => K (y5 - r9) M8))))
def f_X10_meltsOf_b19 (K : Int32 → za_M → Prop) (x2 : Int32) (M : za_M) : Prop :=
  f_X10_isUnder (M.1 (27, 0, 0) 16) 2 M (fun r11 M10 => if r11 = 0 then (f_X10_meltsOf_b38 K x2 r11 M10) else (f_X10_ran 30 M10 (fun M13 => f_X10_meltsOf_b38 K x2 r11 M13)))
def f_X10_meltsOf (x1 : Int32) (M : za_M) (K : Int32 → za_M → Prop) : Prop :=
  if (M.1 (27, 0, 0) 16) = 5 then (f_X10_ran 60 M (fun M16 => f_X10_meltsOf_b19 K (x1 + 1) M16)) else (f_X10_meltsOf_b19 K x1 M)
section
variable {p : Program} {l : Launch} {e : Env} {s : State} {m : MethodId} {args : Array Value} {below : List Frame} {meth : Method} {c : Code} {g : za_L → Nat} {D : va_G} {cy : Nat → ClassId} {K : Int32 → za_M → Prop}
set_option maxRecDepth 100000 in
set_option maxHeartbeats 4000000 in
theorem p_X10_meltsOf_b38 (hJ : za_J g) (C : za_C p s m args c cX10_meltsOf 5 RX10 g D cy) (hr : meth.sig.returnType = (some .int)) (hk : meth.locks = false) {x2 : Int32} {x3 : Int32} {M : za_M} (h : f_X10_meltsOf_b38 K x2 x3 M) : zt p l e (za_rm 4 129) s m args below meth c 0 0 (MQ below (za_Qi g D cy K) args s 0 0 (za_A g)) g D cy 5 M 38 [(0, .ref (g (27, 0, 0))), (2, .int x2), (3, .int x3)] [] := by
  unfold f_X10_meltsOf_b38 at h
  refine zt_aload_n C 0 dX10_meltsOf_38 rfl rfl ?_
  refine zt_bipush C (v := 11) dX10_meltsOf_39 zk_b11 ?_
  refine zt_cVv C [.int 11] (m_X10_ran hJ  h) (za_mem (j := 27) rfl (by decide) (by decide)) (za_E_27 g cy M 0 0) rfl py_X10_ran pv_X10_297 (Nat.le_of_ble_eq_true rfl) ⟨Nat.le_of_ble_eq_true rfl, Nat.le_of_ble_eq_true rfl⟩ ⟨Nat.zero_le _, Nat.zero_le _⟩ dX10_meltsOf_41 rfl (fun M1 h => ?_)
  refine zt_aload_n C 0 dX10_meltsOf_44 rfl rfl ?_
  refine zt_iload_n C 1 dX10_meltsOf_45 rfl rfl ?_
  refine zt_cVi C [.int x2] (m_X10_burnsOf hJ  h) (za_mem (j := 27) rfl (by decide) (by decide)) (za_E_27 g cy M1 0 0) rfl py_X10_burnsOf pv_X10_303 (Nat.le_of_ble_eq_true rfl) ⟨Nat.le_of_ble_eq_true rfl, Nat.le_of_ble_eq_true rfl⟩ ⟨Nat.zero_le _, Nat.zero_le _⟩ dX10_meltsOf_46 rfl (fun r4 M3 h => ?_)
  refine zt_iconst C (v := 2) dX10_meltsOf_49 zk_i2 ?_
  refine zt_imul C dX10_meltsOf_50 ?_
  refine zt_topi (fun y5 e6 => ?_)
  replace h := za_use h e6
  refine zt_istore C [(4, .int y5), (0, .ref (g (27, 0, 0))), (2, .int x2), (3, .int x3)] dX10_meltsOf_51 (by decide) rfl ?_
  refine zt_iload_n C 3 dX10_meltsOf_53 rfl rfl ?_
  refine zt_if_eq C 68 dX10_meltsOf_54 (by decide) (fun q7 => ?_) (fun q7 => ?_)
  · replace h := za_ifp h q7
    refine zt_iload C 0 dX10_meltsOf_68 rfl ?_
    exact zt_ret C hr hk rfl dX10_meltsOf_70 h
  · replace h := za_ifn h q7
    refine zt_iload C 0 dX10_meltsOf_57 rfl ?_
    refine zt_aload_n C 1 dX10_meltsOf_59 rfl rfl ?_
    refine zt_iconst C (v := 1) dX10_meltsOf_60 zk_i1 ?_
    refine zt_cVi C [.int 1] (m_X10_runsOf hJ  h) (za_mem (j := 27) rfl (by decide) (by decide)) (za_E_27 g cy M3 0 0) rfl py_X10_runsOf pv_X10_306 (Nat.le_of_ble_eq_true rfl) ⟨Nat.le_of_ble_eq_true rfl, Nat.le_of_ble_eq_true rfl⟩ ⟨Nat.zero_le _, Nat.zero_le _⟩ dX10_meltsOf_61 rfl (fun r9 M8 h => ?_)
    refine zt_isub C dX10_meltsOf_64 ?_
    refine zt_goto C 70 dX10_meltsOf_65 (by decide) ?_
    exact zt_ret C hr hk rfl dX10_meltsOf_70 h
set_option maxRecDepth 100000 in
set_option maxHeartbeats 4000000 in
theorem p_X10_meltsOf_b19 (hJ : za_J g) (C : za_C p s m args c cX10_meltsOf 5 RX10 g D cy) (hr : meth.sig.returnType = (some .int)) (hk : meth.locks = false) {x2 : Int32} {M : za_M} (h : f_X10_meltsOf_b19 K x2 M) : zt p l e (za_rm 4 129) s m args below meth c 0 0 (MQ below (za_Qi g D cy K) args s 0 0 (za_A g)) g D cy 5 M 19 [(0, .ref (g (27, 0, 0))), (2, .int x2)] [] := by
  unfold f_X10_meltsOf_b19 at h
  refine zt_aload_n C 0 dX10_meltsOf_19 rfl rfl ?_
  refine zt_get C (za_mem (j := 27) rfl (by decide) (by decide)) pf_X10_294 (za_E_27 g cy M 0 0) rfl dX10_meltsOf_20 ?_
  refine zt_iconst C (v := 2) dX10_meltsOf_23 zk_i2 ?_
  refine zt_cSi C [.int (M.1 (27, 0, 0) 16), .int 2] (m_X10_isUnder hJ  h) py_X10_isUnder ps_X10_186 (Nat.le_of_ble_eq_true rfl) ⟨Nat.le_of_ble_eq_true rfl, Nat.le_of_ble_eq_true rfl⟩ ⟨Nat.zero_le _, Nat.zero_le _⟩ dX10_meltsOf_24 rfl (fun r11 M10 h => ?_)
  refine zt_istore_n C [(3, .int r11), (0, .ref (g (27, 0, 0))), (2, .int x2)] dX10_meltsOf_27 rfl (by decide) rfl ?_
  refine zt_iload_n C 0 dX10_meltsOf_28 rfl rfl ?_
  refine zt_if_eq C 38 dX10_meltsOf_29 (by decide) (fun q12 => ?_) (fun q12 => ?_)
  · replace h := za_ifp h q12
    refine zt_sub [1, 2, 0] (lv' := [(0, .ref (g (27, 0, 0))), (2, .int x2), (3, .int r11)]) rfl ?_
    exact p_X10_meltsOf_b38 hJ C hr hk  h
  · replace h := za_ifn h q12
    refine zt_aload_n C 1 dX10_meltsOf_32 rfl rfl ?_
    refine zt_bipush C (v := 30) dX10_meltsOf_33 zk_b30 ?_
    refine zt_cVv C [.int 30] (m_X10_ran hJ  h) (za_mem (j := 27) rfl (by decide) (by decide)) (za_E_27 g cy M10 0 0) rfl py_X10_ran pv_X10_297 (Nat.le_of_ble_eq_true rfl) ⟨Nat.le_of_ble_eq_true rfl, Nat.le_of_ble_eq_true rfl⟩ ⟨Nat.zero_le _, Nat.zero_le _⟩ dX10_meltsOf_35 rfl (fun M13 h => ?_)
    refine zt_sub [1, 2, 0] (lv' := [(0, .ref (g (27, 0, 0))), (2, .int x2), (3, .int r11)]) rfl ?_
    exact p_X10_meltsOf_b38 hJ C hr hk  h
set_option maxRecDepth 100000 in
set_option maxHeartbeats 4000000 in
theorem p_X10_meltsOf (hJ : za_J g) (C : za_C p s m args c cX10_meltsOf 5 RX10 g D cy) (hr : meth.sig.returnType = (some .int)) (hk : meth.locks = false) {x1 : Int32} {M : za_M} (h : f_X10_meltsOf x1 M K) : zt p l e (za_rm 4 129) s m args below meth c 0 0 (MQ below (za_Qi g D cy K) args s 0 0 (za_A g)) g D cy 5 M 0 [(0, .ref (g (27, 0, 0))), (1, .int x1)] [] := by
  unfold f_X10_meltsOf at h
  refine zt_iload_n C 1 dX10_meltsOf_0 rfl rfl ?_
  refine zt_istore_n C [(2, .int x1), (0, .ref (g (27, 0, 0))), (1, .int x1)] dX10_meltsOf_1 rfl (by decide) rfl ?_
  refine zt_aload_n C 1 dX10_meltsOf_2 rfl rfl ?_
  refine zt_get C (za_mem (j := 27) rfl (by decide) (by decide)) pf_X10_294 (za_E_27 g cy M 0 0) rfl dX10_meltsOf_3 ?_
  refine zt_iconst C (v := 5) dX10_meltsOf_6 zk_i5 ?_
  refine zt_icmp_ne C 19 dX10_meltsOf_7 (by decide) (fun q15 => ?_) (fun q15 => ?_)
  · replace h := za_ifn h q15
    refine zt_sub [1, 0] (lv' := [(0, .ref (g (27, 0, 0))), (2, .int x1)]) rfl ?_
    exact p_X10_meltsOf_b19 hJ C hr hk  h
  · replace h := za_ifp h q15
    refine zt_aload_n C 1 dX10_meltsOf_10 rfl rfl ?_
    refine zt_bipush C (v := 60) dX10_meltsOf_11 zk_b60 ?_
    refine zt_cVv C [.int 60] (m_X10_ran hJ  h) (za_mem (j := 27) rfl (by decide) (by decide)) (za_E_27 g cy M 0 0) rfl py_X10_ran pv_X10_297 (Nat.le_of_ble_eq_true rfl) ⟨Nat.le_of_ble_eq_true rfl, Nat.le_of_ble_eq_true rfl⟩ ⟨Nat.zero_le _, Nat.zero_le _⟩ dX10_meltsOf_13 rfl (fun M16 h => ?_)
    refine zt_iinc C (v := x1 + 1) 0 [(2, .int (x1 + 1)), (0, .ref (g (27, 0, 0))), (1, .int x1)] dX10_meltsOf_16 rfl (zk_n1 _) (by decide) rfl ?_
    refine zt_sub [1, 0] (lv' := [(0, .ref (g (27, 0, 0))), (2, .int (x1 + 1))]) rfl ?_
    exact p_X10_meltsOf_b19 hJ C hr hk  h
end
theorem m_X10_meltsOf {l : Launch} {g : za_L → Nat} {D : va_G} {cy : Nat → ClassId} (hJ : za_J g)  {x1 : Int32} {M : za_M} {K : Int32 → za_M → Prop} (h : f_X10_meltsOf x1 M K) : za_Mi l g D cy yX10_meltsOf cX10_meltsOf 5 (some .int) 4 129 [.ref (g (27, 0, 0)), .int x1] M K := za_openi hJ (by decide) (Nat.le_of_ble_eq_true rfl) (fun p e s m args below meth c C hr hk => p_X10_meltsOf hJ C hr hk  h)
/-! X10_plainGlows -/
def f_X10_plainGlows (x1 : Int32) (M : za_M) (K : Int32 → za_M → Prop) : Prop :=
  f_X10_ran 13 M (fun M1 => f_X10_meltsOf x1 M1 (fun r4 M3 => f_X10_runsOf x1 M3 (fun r6 M5 => K (r4 ^^^ r6) M5)))
section
variable {p : Program} {l : Launch} {e : Env} {s : State} {m : MethodId} {args : Array Value} {below : List Frame} {meth : Method} {c : Code} {g : za_L → Nat} {D : va_G} {cy : Nat → ClassId} {K : Int32 → za_M → Prop}
set_option maxRecDepth 100000 in
set_option maxHeartbeats 4000000 in
theorem p_X10_plainGlows (hJ : za_J g) (C : za_C p s m args c cX10_plainGlows 3 RX10 g D cy) (hr : meth.sig.returnType = (some .int)) (hk : meth.locks = false) {x1 : Int32} {M : za_M} (h : f_X10_plainGlows x1 M K) : zt p l e (za_rm 5 153) s m args below meth c 0 0 (MQ below (za_Qi g D cy K) args s 0 0 (za_A g)) g D cy 3 M 0 [(0, .ref (g (27, 0, 0))), (1, .int x1)] [] := by
  unfold f_X10_plainGlows at h
  refine zt_aload_n C 0 dX10_plainGlows_0 rfl rfl ?_
  refine zt_bipush C (v := 13) dX10_plainGlows_1 zk_b13 ?_
  refine zt_cVv C [.int 13] (m_X10_ran hJ  h) (za_mem (j := 27) rfl (by decide) (by decide)) (za_E_27 g cy M 0 0) rfl py_X10_ran pv_X10_297 (Nat.le_of_ble_eq_true rfl) ⟨Nat.le_of_ble_eq_true rfl, Nat.le_of_ble_eq_true rfl⟩ ⟨Nat.zero_le _, Nat.zero_le _⟩ dX10_plainGlows_3 rfl (fun M1 h => ?_)
  refine zt_aload_n C 0 dX10_plainGlows_6 rfl rfl ?_
  refine zt_iload_n C 1 dX10_plainGlows_7 rfl rfl ?_
  refine zt_cVi C [.int x1] (m_X10_meltsOf hJ  h) (za_mem (j := 27) rfl (by decide) (by decide)) (za_E_27 g cy M1 0 0) rfl py_X10_meltsOf pv_X10_312 (Nat.le_of_ble_eq_true rfl) ⟨Nat.le_of_ble_eq_true rfl, Nat.le_of_ble_eq_true rfl⟩ ⟨Nat.zero_le _, Nat.zero_le _⟩ dX10_plainGlows_8 rfl (fun r4 M3 h => ?_)
  refine zt_istore_n C [(2, .int r4), (0, .ref (g (27, 0, 0))), (1, .int x1)] dX10_plainGlows_11 rfl (by decide) rfl ?_
  refine zt_iload_n C 0 dX10_plainGlows_12 rfl rfl ?_
  refine zt_aload_n C 1 dX10_plainGlows_13 rfl rfl ?_
  refine zt_iload_n C 2 dX10_plainGlows_14 rfl rfl ?_
  refine zt_cVi C [.int x1] (m_X10_runsOf hJ  h) (za_mem (j := 27) rfl (by decide) (by decide)) (za_E_27 g cy M3 0 0) rfl py_X10_runsOf pv_X10_306 (Nat.le_of_ble_eq_true rfl) ⟨Nat.le_of_ble_eq_true rfl, Nat.le_of_ble_eq_true rfl⟩ ⟨Nat.zero_le _, Nat.zero_le _⟩ dX10_plainGlows_15 rfl (fun r6 M5 h => ?_)
  refine zt_ixor C dX10_plainGlows_18 ?_
  exact zt_ret C hr hk rfl dX10_plainGlows_19 h
end
theorem m_X10_plainGlows {l : Launch} {g : za_L → Nat} {D : va_G} {cy : Nat → ClassId} (hJ : za_J g)  {x1 : Int32} {M : za_M} {K : Int32 → za_M → Prop} (h : f_X10_plainGlows x1 M K) : za_Mi l g D cy yX10_plainGlows cX10_plainGlows 3 (some .int) 5 153 [.ref (g (27, 0, 0)), .int x1] M K := za_openi hJ (by decide) (Nat.le_of_ble_eq_true rfl) (fun p e s m args below meth c C hr hk => p_X10_plainGlows hJ C hr hk  h)
/-! X10_glowsOf -/
def f_X10_glowsOf (x1 : Int32) (M : za_M) (K : Int32 → za_M → Prop) : Prop :=
  if (M.1 (27, 0, 0) 16) = 6 then (f_X10_ran 71 M (fun M11 => f_X10_meltsOf x1 M11 (fun r14 M13 => f_X10_plainGlows x1 M13 (fun r16 M15 => K (r14 - r16) M15)))) else (if (M.1 (27, 0, 0) 16) = 4 then (f_X10_ran 50 M (fun M5 => f_X10_plainGlows x1 M5 (fun r8 M7 => f_X10_burnsOf 2 M7 (fun r10 M9 => K (r8 - r10) M9)))) else (f_X10_plainGlows x1 M (fun r4 M3 => K r4 M3)))
section
variable {p : Program} {l : Launch} {e : Env} {s : State} {m : MethodId} {args : Array Value} {below : List Frame} {meth : Method} {c : Code} {g : za_L → Nat} {D : va_G} {cy : Nat → ClassId} {K : Int32 → za_M → Prop}
set_option maxRecDepth 100000 in
set_option maxHeartbeats 4000000 in
theorem p_X10_glowsOf (hJ : za_J g) (C : za_C p s m args c cX10_glowsOf 3 RX10 g D cy) (hr : meth.sig.returnType = (some .int)) (hk : meth.locks = false) {x1 : Int32} {M : za_M} (h : f_X10_glowsOf x1 M K) : zt p l e (za_rm 6 175) s m args below meth c 0 0 (MQ below (za_Qi g D cy K) args s 0 0 (za_A g)) g D cy 3 M 0 [(0, .ref (g (27, 0, 0))), (1, .int x1)] [] := by
  unfold f_X10_glowsOf at h
  refine zt_aload_n C 0 dX10_glowsOf_0 rfl rfl ?_
  refine zt_get C (za_mem (j := 27) rfl (by decide) (by decide)) pf_X10_294 (za_E_27 g cy M 0 0) rfl dX10_glowsOf_1 ?_
  refine zt_bipush C (v := 6) dX10_glowsOf_4 zk_b6 ?_
  refine zt_icmp_ne C 29 dX10_glowsOf_6 (by decide) (fun q1 => ?_) (fun q1 => ?_)
  · replace h := za_ifn h q1
    refine zt_aload_n C 0 dX10_glowsOf_29 rfl rfl ?_
    refine zt_get C (za_mem (j := 27) rfl (by decide) (by decide)) pf_X10_294 (za_E_27 g cy M 0 0) rfl dX10_glowsOf_30 ?_
    refine zt_iconst C (v := 4) dX10_glowsOf_33 zk_i4 ?_
    refine zt_icmp_ne C 57 dX10_glowsOf_34 (by decide) (fun q2 => ?_) (fun q2 => ?_)
    · replace h := za_ifn h q2
      refine zt_aload_n C 0 dX10_glowsOf_57 rfl rfl ?_
      refine zt_iload_n C 1 dX10_glowsOf_58 rfl rfl ?_
      refine zt_cVi C [.int x1] (m_X10_plainGlows hJ  h) (za_mem (j := 27) rfl (by decide) (by decide)) (za_E_27 g cy M 0 0) rfl py_X10_plainGlows pv_X10_315 (Nat.le_of_ble_eq_true rfl) ⟨Nat.le_of_ble_eq_true rfl, Nat.le_of_ble_eq_true rfl⟩ ⟨Nat.zero_le _, Nat.zero_le _⟩ dX10_glowsOf_59 rfl (fun r4 M3 h => ?_)
      exact zt_ret C hr hk rfl dX10_glowsOf_62 h
    · replace h := za_ifp h q2
      refine zt_aload_n C 0 dX10_glowsOf_37 rfl rfl ?_
      refine zt_bipush C (v := 50) dX10_glowsOf_38 zk_b50 ?_
      refine zt_cVv C [.int 50] (m_X10_ran hJ  h) (za_mem (j := 27) rfl (by decide) (by decide)) (za_E_27 g cy M 0 0) rfl py_X10_ran pv_X10_297 (Nat.le_of_ble_eq_true rfl) ⟨Nat.le_of_ble_eq_true rfl, Nat.le_of_ble_eq_true rfl⟩ ⟨Nat.zero_le _, Nat.zero_le _⟩ dX10_glowsOf_40 rfl (fun M5 h => ?_)
      refine zt_aload_n C 0 dX10_glowsOf_43 rfl rfl ?_
      refine zt_iload_n C 1 dX10_glowsOf_44 rfl rfl ?_
      refine zt_cVi C [.int x1] (m_X10_plainGlows hJ  h) (za_mem (j := 27) rfl (by decide) (by decide)) (za_E_27 g cy M5 0 0) rfl py_X10_plainGlows pv_X10_315 (Nat.le_of_ble_eq_true rfl) ⟨Nat.le_of_ble_eq_true rfl, Nat.le_of_ble_eq_true rfl⟩ ⟨Nat.zero_le _, Nat.zero_le _⟩ dX10_glowsOf_45 rfl (fun r8 M7 h => ?_)
      refine zt_istore_n C [(2, .int r8), (0, .ref (g (27, 0, 0))), (1, .int x1)] dX10_glowsOf_48 rfl (by decide) rfl ?_
      refine zt_iload_n C 0 dX10_glowsOf_49 rfl rfl ?_
      refine zt_aload_n C 1 dX10_glowsOf_50 rfl rfl ?_
      refine zt_iconst C (v := 2) dX10_glowsOf_51 zk_i2 ?_
      refine zt_cVi C [.int 2] (m_X10_burnsOf hJ  h) (za_mem (j := 27) rfl (by decide) (by decide)) (za_E_27 g cy M7 0 0) rfl py_X10_burnsOf pv_X10_303 (Nat.le_of_ble_eq_true rfl) ⟨Nat.le_of_ble_eq_true rfl, Nat.le_of_ble_eq_true rfl⟩ ⟨Nat.zero_le _, Nat.zero_le _⟩ dX10_glowsOf_52 rfl (fun r10 M9 h => ?_)
      refine zt_isub C dX10_glowsOf_55 ?_
      exact zt_ret C hr hk rfl dX10_glowsOf_56 h
  · replace h := za_ifp h q1
    refine zt_aload_n C 0 dX10_glowsOf_9 rfl rfl ?_
    refine zt_bipush C (v := 71) dX10_glowsOf_10 zk_b71 ?_
    refine zt_cVv C [.int 71] (m_X10_ran hJ  h) (za_mem (j := 27) rfl (by decide) (by decide)) (za_E_27 g cy M 0 0) rfl py_X10_ran pv_X10_297 (Nat.le_of_ble_eq_true rfl) ⟨Nat.le_of_ble_eq_true rfl, Nat.le_of_ble_eq_true rfl⟩ ⟨Nat.zero_le _, Nat.zero_le _⟩ dX10_glowsOf_12 rfl (fun M11 h => ?_)
    refine zt_aload_n C 0 dX10_glowsOf_15 rfl rfl ?_
    refine zt_iload_n C 1 dX10_glowsOf_16 rfl rfl ?_
    refine zt_cVi C [.int x1] (m_X10_meltsOf hJ  h) (za_mem (j := 27) rfl (by decide) (by decide)) (za_E_27 g cy M11 0 0) rfl py_X10_meltsOf pv_X10_312 (Nat.le_of_ble_eq_true rfl) ⟨Nat.le_of_ble_eq_true rfl, Nat.le_of_ble_eq_true rfl⟩ ⟨Nat.zero_le _, Nat.zero_le _⟩ dX10_glowsOf_17 rfl (fun r14 M13 h => ?_)
    refine zt_istore_n C [(2, .int r14), (0, .ref (g (27, 0, 0))), (1, .int x1)] dX10_glowsOf_20 rfl (by decide) rfl ?_
    refine zt_iload_n C 0 dX10_glowsOf_21 rfl rfl ?_
    refine zt_aload_n C 1 dX10_glowsOf_22 rfl rfl ?_
    refine zt_iload_n C 2 dX10_glowsOf_23 rfl rfl ?_
    refine zt_cVi C [.int x1] (m_X10_plainGlows hJ  h) (za_mem (j := 27) rfl (by decide) (by decide)) (za_E_27 g cy M13 0 0) rfl py_X10_plainGlows pv_X10_315 (Nat.le_of_ble_eq_true rfl) ⟨Nat.le_of_ble_eq_true rfl, Nat.le_of_ble_eq_true rfl⟩ ⟨Nat.zero_le _, Nat.zero_le _⟩ dX10_glowsOf_24 rfl (fun r16 M15 h => ?_)
    refine zt_isub C dX10_glowsOf_27 ?_
    exact zt_ret C hr hk rfl dX10_glowsOf_28 h
end
theorem m_X10_glowsOf {l : Launch} {g : za_L → Nat} {D : va_G} {cy : Nat → ClassId} (hJ : za_J g)  {x1 : Int32} {M : za_M} {K : Int32 → za_M → Prop} (h : f_X10_glowsOf x1 M K) : za_Mi l g D cy yX10_glowsOf cX10_glowsOf 3 (some .int) 6 175 [.ref (g (27, 0, 0)), .int x1] M K := za_openi hJ (by decide) (Nat.le_of_ble_eq_true rfl) (fun p e s m args below meth c C hr hk => p_X10_glowsOf hJ C hr hk  h)
/-! X10_voice -/
def f_X10_voice (x1 : Int32) (x2 : Int32) (x3 : Int32) (M : za_M) (K : Int32 → za_M → Prop) : Prop :=
  f_X10_isAsh x1 M (fun r2 M1 => if r2 = 0 then (f_X10_finding (-1000000001) M1 (fun r5 M4 => K r5 M4)) else (f_X10_within x2 0 3 M1 (fun r7 M6 => if r7 = 0 then (f_X10_finding (-1000000001) M6 (fun r33 M32 => K r33 M32)) else (za_let (za_up M6 (27, 0, 0) 15 0) fun M9 => f_X10_ashIs x1 0 M9 (fun r12 M11 => za_let (za_up M11 (27, 0, 0) 16 r12) fun M13 => za_let (za_up M13 (27, 0, 0) 17 x1) fun M15 => f_X10_ashIs x1 1 M15 (fun r18 M17 => za_let (za_up M17 (27, 0, 0) 18 r18) fun M19 => if x2 = 0 then (f_X10_burnsOf x3 M19 (fun r31 M30 => K r31 M30)) else (if x2 = 1 then (f_X10_meltsOf x3 M19 (fun r29 M28 => K r29 M28)) else (if x2 = 2 then (f_X10_runsOf x3 M19 (fun r27 M26 => K r27 M26)) else (f_X10_glowsOf x3 M19 (fun r25 M24 => K r25 M24))))))))))
section
variable {p : Program} {l : Launch} {e : Env} {s : State} {m : MethodId} {args : Array Value} {below : List Frame} {meth : Method} {c : Code} {g : za_L → Nat} {D : va_G} {cy : Nat → ClassId} {K : Int32 → za_M → Prop}
set_option maxRecDepth 100000 in
set_option maxHeartbeats 4000000 in
theorem p_X10_voice (hJ : za_J g) (C : za_C p s m args c cX10_voice 4 RX10 g D cy) (hr : meth.sig.returnType = (some .int)) (hk : meth.locks = false) {x1 : Int32} {x2 : Int32} {x3 : Int32} {M : za_M} (h : f_X10_voice x1 x2 x3 M K) : zt p l e (za_rm 7 197) s m args below meth c 0 0 (MQ below (za_Qi g D cy K) args s 0 0 (za_A g)) g D cy 4 M 0 [(0, .ref (g (27, 0, 0))), (1, .int x1), (2, .int x2), (3, .int x3)] [] := by
  unfold f_X10_voice at h
  refine zt_aload_n C 0 dX10_voice_0 rfl rfl ?_
  refine zt_iload_n C 1 dX10_voice_1 rfl rfl ?_
  refine zt_cVi C [.int x1] (m_X10_isAsh hJ  h) (za_mem (j := 27) rfl (by decide) (by decide)) (za_E_27 g cy M 0 0) rfl py_X10_isAsh pv_X10_171 (Nat.le_of_ble_eq_true rfl) ⟨Nat.le_of_ble_eq_true rfl, Nat.le_of_ble_eq_true rfl⟩ ⟨Nat.zero_le _, Nat.zero_le _⟩ dX10_voice_2 rfl (fun r2 M1 h => ?_)
  refine zt_if_eq C 17 dX10_voice_5 (by decide) (fun q3 => ?_) (fun q3 => ?_)
  · replace h := za_ifp h q3
    refine zt_aload_n C 0 dX10_voice_17 rfl rfl ?_
    refine zt_ldc C w_969 dX10_voice_18 ?_
    refine zt_cVi C [.int (-1000000001)] (m_X10_finding hJ  h) (za_mem (j := 27) rfl (by decide) (by decide)) (za_E_27 g cy M1 0 0) rfl py_X10_finding pv_X10_75 (Nat.le_of_ble_eq_true rfl) ⟨Nat.le_of_ble_eq_true rfl, Nat.le_of_ble_eq_true rfl⟩ ⟨Nat.zero_le _, Nat.zero_le _⟩ dX10_voice_20 rfl (fun r5 M4 h => ?_)
    exact zt_ret C hr hk rfl dX10_voice_23 h
  · replace h := za_ifn h q3
    refine zt_iload_n C 2 dX10_voice_8 rfl rfl ?_
    refine zt_iconst C (v := 0) dX10_voice_9 zk_i0 ?_
    refine zt_iconst C (v := 3) dX10_voice_10 zk_i3 ?_
    refine zt_cSi C [.int x2, .int 0, .int 3] (m_X10_within hJ  h) py_X10_within ps_X10_70 (Nat.le_of_ble_eq_true rfl) ⟨Nat.le_of_ble_eq_true rfl, Nat.le_of_ble_eq_true rfl⟩ ⟨Nat.zero_le _, Nat.zero_le _⟩ dX10_voice_11 rfl (fun r7 M6 h => ?_)
    refine zt_if_ne C 24 dX10_voice_14 (by decide) (fun q8 => ?_) (fun q8 => ?_)
    · replace h := za_ifn h q8
      refine zt_aload_n C 0 dX10_voice_24 rfl rfl ?_
      refine zt_iconst C (v := 0) dX10_voice_25 zk_i0 ?_
      refine zt_put C (za_mem (j := 27) rfl (by decide) (by decide)) pf_X10_291 pt_X10_15 rfl rfl (za_E_27 g cy M6 0 0) rfl (Nat.le_of_ble_eq_true rfl) dX10_voice_26 ?_
      refine zt_topM (fun M9 e10 => ?_)
      replace h := za_use h e10
      refine zt_aload_n C 0 dX10_voice_29 rfl rfl ?_
      refine zt_aload_n C 0 dX10_voice_30 rfl rfl ?_
      refine zt_iload_n C 1 dX10_voice_31 rfl rfl ?_
      refine zt_iconst C (v := 0) dX10_voice_32 zk_i0 ?_
      refine zt_cVi C [.int x1, .int 0] (m_X10_ashIs hJ  h) (za_mem (j := 27) rfl (by decide) (by decide)) (za_E_27 g cy M9 0 0) rfl py_X10_ashIs pv_X10_177 (Nat.le_of_ble_eq_true rfl) ⟨Nat.le_of_ble_eq_true rfl, Nat.le_of_ble_eq_true rfl⟩ ⟨Nat.zero_le _, Nat.zero_le _⟩ dX10_voice_33 rfl (fun r12 M11 h => ?_)
      refine zt_put C (za_mem (j := 27) rfl (by decide) (by decide)) pf_X10_294 pt_X10_16 rfl rfl (za_E_27 g cy M11 0 0) rfl (Nat.le_of_ble_eq_true rfl) dX10_voice_36 ?_
      refine zt_topM (fun M13 e14 => ?_)
      replace h := za_use h e14
      refine zt_aload_n C 0 dX10_voice_39 rfl rfl ?_
      refine zt_iload_n C 1 dX10_voice_40 rfl rfl ?_
      refine zt_put C (za_mem (j := 27) rfl (by decide) (by decide)) pf_X10_300 pt_X10_17 rfl rfl (za_E_27 g cy M13 0 0) rfl (Nat.le_of_ble_eq_true rfl) dX10_voice_41 ?_
      refine zt_topM (fun M15 e16 => ?_)
      replace h := za_use h e16
      refine zt_aload_n C 0 dX10_voice_44 rfl rfl ?_
      refine zt_aload_n C 0 dX10_voice_45 rfl rfl ?_
      refine zt_iload_n C 1 dX10_voice_46 rfl rfl ?_
      refine zt_iconst C (v := 1) dX10_voice_47 zk_i1 ?_
      refine zt_cVi C [.int x1, .int 1] (m_X10_ashIs hJ  h) (za_mem (j := 27) rfl (by decide) (by decide)) (za_E_27 g cy M15 0 0) rfl py_X10_ashIs pv_X10_177 (Nat.le_of_ble_eq_true rfl) ⟨Nat.le_of_ble_eq_true rfl, Nat.le_of_ble_eq_true rfl⟩ ⟨Nat.zero_le _, Nat.zero_le _⟩ dX10_voice_48 rfl (fun r18 M17 h => ?_)
      refine zt_put C (za_mem (j := 27) rfl (by decide) (by decide)) pf_X10_309 pt_X10_18 rfl rfl (za_E_27 g cy M17 0 0) rfl (Nat.le_of_ble_eq_true rfl) dX10_voice_51 ?_
      refine zt_topM (fun M19 e20 => ?_)
      replace h := za_use h e20
      refine zt_iload_n C 2 dX10_voice_54 rfl rfl ?_
      refine zt_if_ne C 66 dX10_voice_55 (by decide) (fun q21 => ?_) (fun q21 => ?_)
      · replace h := za_ifn h q21
        refine zt_iload_n C 2 dX10_voice_66 rfl rfl ?_
        refine zt_iconst C (v := 1) dX10_voice_67 zk_i1 ?_
        refine zt_icmp_ne C 79 dX10_voice_68 (by decide) (fun q22 => ?_) (fun q22 => ?_)
        · replace h := za_ifn h q22
          refine zt_iload_n C 2 dX10_voice_79 rfl rfl ?_
          refine zt_iconst C (v := 2) dX10_voice_80 zk_i2 ?_
          refine zt_icmp_ne C 92 dX10_voice_81 (by decide) (fun q23 => ?_) (fun q23 => ?_)
          · replace h := za_ifn h q23
            refine zt_aload_n C 0 dX10_voice_92 rfl rfl ?_
            refine zt_iload_n C 3 dX10_voice_93 rfl rfl ?_
            refine zt_cVi C [.int x3] (m_X10_glowsOf hJ  h) (za_mem (j := 27) rfl (by decide) (by decide)) (za_E_27 g cy M19 0 0) rfl py_X10_glowsOf pv_X10_318 (Nat.le_of_ble_eq_true rfl) ⟨Nat.le_of_ble_eq_true rfl, Nat.le_of_ble_eq_true rfl⟩ ⟨Nat.zero_le _, Nat.zero_le _⟩ dX10_voice_94 rfl (fun r25 M24 h => ?_)
            exact zt_ret C hr hk rfl dX10_voice_97 h
          · replace h := za_ifp h q23
            refine zt_aload_n C 0 dX10_voice_84 rfl rfl ?_
            refine zt_iload_n C 3 dX10_voice_85 rfl rfl ?_
            refine zt_cVi C [.int x3] (m_X10_runsOf hJ  h) (za_mem (j := 27) rfl (by decide) (by decide)) (za_E_27 g cy M19 0 0) rfl py_X10_runsOf pv_X10_306 (Nat.le_of_ble_eq_true rfl) ⟨Nat.le_of_ble_eq_true rfl, Nat.le_of_ble_eq_true rfl⟩ ⟨Nat.zero_le _, Nat.zero_le _⟩ dX10_voice_86 rfl (fun r27 M26 h => ?_)
            refine zt_goto C 97 dX10_voice_89 (by decide) ?_
            exact zt_ret C hr hk rfl dX10_voice_97 h
        · replace h := za_ifp h q22
          refine zt_aload_n C 0 dX10_voice_71 rfl rfl ?_
          refine zt_iload_n C 3 dX10_voice_72 rfl rfl ?_
          refine zt_cVi C [.int x3] (m_X10_meltsOf hJ  h) (za_mem (j := 27) rfl (by decide) (by decide)) (za_E_27 g cy M19 0 0) rfl py_X10_meltsOf pv_X10_312 (Nat.le_of_ble_eq_true rfl) ⟨Nat.le_of_ble_eq_true rfl, Nat.le_of_ble_eq_true rfl⟩ ⟨Nat.zero_le _, Nat.zero_le _⟩ dX10_voice_73 rfl (fun r29 M28 h => ?_)
          refine zt_goto C 97 dX10_voice_76 (by decide) ?_
          exact zt_ret C hr hk rfl dX10_voice_97 h
      · replace h := za_ifp h q21
        refine zt_aload_n C 0 dX10_voice_58 rfl rfl ?_
        refine zt_iload_n C 3 dX10_voice_59 rfl rfl ?_
        refine zt_cVi C [.int x3] (m_X10_burnsOf hJ  h) (za_mem (j := 27) rfl (by decide) (by decide)) (za_E_27 g cy M19 0 0) rfl py_X10_burnsOf pv_X10_303 (Nat.le_of_ble_eq_true rfl) ⟨Nat.le_of_ble_eq_true rfl, Nat.le_of_ble_eq_true rfl⟩ ⟨Nat.zero_le _, Nat.zero_le _⟩ dX10_voice_60 rfl (fun r31 M30 h => ?_)
        refine zt_goto C 97 dX10_voice_63 (by decide) ?_
        exact zt_ret C hr hk rfl dX10_voice_97 h
    · replace h := za_ifp h q8
      refine zt_aload_n C 0 dX10_voice_17 rfl rfl ?_
      refine zt_ldc C w_969 dX10_voice_18 ?_
      refine zt_cVi C [.int (-1000000001)] (m_X10_finding hJ  h) (za_mem (j := 27) rfl (by decide) (by decide)) (za_E_27 g cy M6 0 0) rfl py_X10_finding pv_X10_75 (Nat.le_of_ble_eq_true rfl) ⟨Nat.le_of_ble_eq_true rfl, Nat.le_of_ble_eq_true rfl⟩ ⟨Nat.zero_le _, Nat.zero_le _⟩ dX10_voice_20 rfl (fun r33 M32 h => ?_)
      exact zt_ret C hr hk rfl dX10_voice_23 h
end
theorem m_X10_voice {l : Launch} {g : za_L → Nat} {D : va_G} {cy : Nat → ClassId} (hJ : za_J g)  {x1 : Int32} {x2 : Int32} {x3 : Int32} {M : za_M} {K : Int32 → za_M → Prop} (h : f_X10_voice x1 x2 x3 M K) : za_Mi l g D cy yX10_voice cX10_voice 4 (some .int) 7 197 [.ref (g (27, 0, 0)), .int x1, .int x2, .int x3] M K := za_openi hJ (by decide) (Nat.le_of_ble_eq_true rfl) (fun p e s m args below meth c C hr hk => p_X10_voice hJ C hr hk  h)
/-! X10_trace -/
def f_X10_trace (x1 : Int32) (M : za_M) (K : Int32 → za_M → Prop) : Prop :=
  f_X10_within x1 0 ((M.1 (27, 0, 0) 15) - 1) M (fun r2 M1 => if r2 = 0 then (f_X10_finding (-1000000002) M1 (fun r5 M4 => K r5 M4)) else (vp_in x1 40 ∧ (K (M1.1 (36, 0, 0) x1.toNatClampNeg) M1)))
section
variable {p : Program} {l : Launch} {e : Env} {s : State} {m : MethodId} {args : Array Value} {below : List Frame} {meth : Method} {c : Code} {g : za_L → Nat} {D : va_G} {cy : Nat → ClassId} {K : Int32 → za_M → Prop}
set_option maxRecDepth 100000 in
set_option maxHeartbeats 4000000 in
theorem p_X10_trace (hJ : za_J g) (C : za_C p s m args c cX10_trace 2 RX10 g D cy) (hr : meth.sig.returnType = (some .int)) (hk : meth.locks = false) {x1 : Int32} {M : za_M} (h : f_X10_trace x1 M K) : zt p l e (za_rm 2 86) s m args below meth c 0 0 (MQ below (za_Qi g D cy K) args s 0 0 (za_A g)) g D cy 2 M 0 [(0, .ref (g (27, 0, 0))), (1, .int x1)] [] := by
  unfold f_X10_trace at h
  refine zt_iload_n C 1 dX10_trace_0 rfl rfl ?_
  refine zt_iconst C (v := 0) dX10_trace_1 zk_i0 ?_
  refine zt_aload_n C 0 dX10_trace_2 rfl rfl ?_
  refine zt_get C (za_mem (j := 27) rfl (by decide) (by decide)) pf_X10_291 (za_E_27 g cy M 0 0) rfl dX10_trace_3 ?_
  refine zt_iconst C (v := 1) dX10_trace_6 zk_i1 ?_
  refine zt_isub C dX10_trace_7 ?_
  refine zt_cSi C [.int x1, .int 0, .int ((M.1 (27, 0, 0) 15) - 1)] (m_X10_within hJ  h) py_X10_within ps_X10_70 (Nat.le_of_ble_eq_true rfl) ⟨Nat.le_of_ble_eq_true rfl, Nat.le_of_ble_eq_true rfl⟩ ⟨Nat.zero_le _, Nat.zero_le _⟩ dX10_trace_8 rfl (fun r2 M1 h => ?_)
  refine zt_if_eq C 23 dX10_trace_11 (by decide) (fun q3 => ?_) (fun q3 => ?_)
  · replace h := za_ifp h q3
    refine zt_aload_n C 0 dX10_trace_23 rfl rfl ?_
    refine zt_ldc C w_1219 dX10_trace_24 ?_
    refine zt_cVi C [.int (-1000000002)] (m_X10_finding hJ  h) (za_mem (j := 27) rfl (by decide) (by decide)) (za_E_27 g cy M1 0 0) rfl py_X10_finding pv_X10_75 (Nat.le_of_ble_eq_true rfl) ⟨Nat.le_of_ble_eq_true rfl, Nat.le_of_ble_eq_true rfl⟩ ⟨Nat.zero_le _, Nat.zero_le _⟩ dX10_trace_26 rfl (fun r5 M4 h => ?_)
    exact zt_ret C hr hk rfl dX10_trace_29 h
  · replace h := za_ifn h q3
    refine zt_aload_n C 0 dX10_trace_14 rfl rfl ?_
    refine zt_get C (za_mem (j := 27) rfl (by decide) (by decide)) pf_X10_41 (za_E_27 g cy M1 0 0) rfl dX10_trace_15 ?_
    refine zt_iload_n C 1 dX10_trace_18 rfl rfl ?_
    obtain ⟨g6, h⟩ := h
    refine zt_iald C (za_mem (j := 36) rfl (by decide) (by decide)) (fun W9 => za_E_36 g cy W9 0 0) g6 dX10_trace_19 ?_
    refine zt_goto C 29 dX10_trace_20 (by decide) ?_
    exact zt_ret C hr hk rfl dX10_trace_29 h
end
theorem m_X10_trace {l : Launch} {g : za_L → Nat} {D : va_G} {cy : Nat → ClassId} (hJ : za_J g)  {x1 : Int32} {M : za_M} {K : Int32 → za_M → Prop} (h : f_X10_trace x1 M K) : za_Mi l g D cy yX10_trace cX10_trace 2 (some .int) 2 86 [.ref (g (27, 0, 0)), .int x1] M K := za_openi hJ (by decide) (Nat.le_of_ble_eq_true rfl) (fun p e s m args below meth c C hr hk => p_X10_trace hJ C hr hk  h)
/-! X10_sheet -/
def f_X10_sheet_b93 (K : Int32 → za_M → Prop) (x1 : Int32) (L93 : Int32 → za_M → Prop) (x4 : Int32) (M : za_M) : Prop :=
  if 40 ≤ x4 then (K 1 M) else (vp_in ((40 * x1) + x4) 160 ∧ (za_let (za_up M (39, 0, 0) ((40 * x1) + x4).toNatClampNeg 0) fun M3 => L93 (x4 + 1) M3))
def f_X10_sheet_b89 (K : Int32 → za_M → Prop) (x1 : Int32) (s1 : Int32) (s2 : Int32) (M : za_M) : Prop :=
  vp_in s1 4 ∧ (za_let (za_up M (38, 0, 0) s1.toNatClampNeg s2) fun M6 => ∃ n, za_lp1 (f_X10_sheet_b93 K x1) n 0 M6)
def f_X10_sheet_b68 (K : Int32 → za_M → Prop) (x1 : Int32) (x2 : Int32) (x3 : Int32) (M : za_M) : Prop :=
  vp_in x1 4 ∧ (za_let (za_up M (37, 0, 0) x1.toNatClampNeg x2) fun M9 => if x2 = 0 then (f_X10_sheet_b89 K x1 x1 0 M9) else (f_X10_sheet_b89 K x1 x1 x3 M9))
def f_X10_sheet_b51 (K : Int32 → za_M → Prop) (x1 : Int32) (x2 : Int32) (x3 : Int32) (M : za_M) : Prop :=
  if x2 = 0 then (f_X10_sheet_b68 K x1 x2 x3 M) else (if x3 ≤ 40 then (f_X10_sheet_b68 K x1 x2 x3 M) else (f_X10_finding (-1000000001) M (fun r15 M14 => K r15 M14)))
def f_X10_sheet_b36 (K : Int32 → za_M → Prop) (x1 : Int32) (x2 : Int32) (x3 : Int32) (M : za_M) : Prop :=
  if x2 = 0 then (f_X10_sheet_b51 K x1 x2 x3 M) else (if 0 ≤ x3 then (f_X10_sheet_b51 K x1 x2 x3 M) else (f_X10_finding (-1000000003) M (fun r19 M18 => K r19 M18)))
def f_X10_sheet (x1 : Int32) (x2 : Int32) (x3 : Int32) (M : za_M) (K : Int32 → za_M → Prop) : Prop :=
  f_X10_isSheet x1 M (fun r21 M20 => if r21 = 0 then (f_X10_finding (-1000000001) M20 (fun r24 M23 => K r24 M23)) else (if x2 = 0 then (f_X10_sheet_b36 K x1 x2 x3 M20) else (if x2 = 8 then (f_X10_sheet_b36 K x1 x2 x3 M20) else (if x2 = 16 then (f_X10_sheet_b36 K x1 x2 x3 M20) else (if x2 = 32 then (f_X10_sheet_b36 K x1 x2 x3 M20) else (f_X10_finding (-1000000001) M20 (fun r30 M29 => K r30 M29)))))))
section
variable {p : Program} {l : Launch} {e : Env} {s : State} {m : MethodId} {args : Array Value} {below : List Frame} {meth : Method} {c : Code} {g : za_L → Nat} {D : va_G} {cy : Nat → ClassId} {K : Int32 → za_M → Prop}
set_option maxRecDepth 100000 in
set_option maxHeartbeats 4000000 in
theorem p_X10_sheet_b93 (hJ : za_J g) (C : za_C p s m args c cX10_sheet 5 RX10 g D cy) (hr : meth.sig.returnType = (some .int)) (hk : meth.locks = false) {x1 : Int32} {L93 : Int32 → za_M → Prop} (hL93 : ∀ (x4 : Int32) (M : za_M), L93 x4 M → zt p l e (za_rm 3 106) s m args below meth c 0 0 (MQ below (za_Qi g D cy K) args s 0 0 (za_A g)) g D cy 5 M 93 [(0, .ref (g (27, 0, 0))), (1, .int x1), (4, .int x4)] []) : ∀ (x4 : Int32) (M : za_M), f_X10_sheet_b93 K x1 L93 x4 M → zt p l e (za_rm 3 106) s m args below meth c 0 0 (MQ below (za_Qi g D cy K) args s 0 0 (za_A g)) g D cy 5 M 93 [(0, .ref (g (27, 0, 0))), (1, .int x1), (4, .int x4)] [] := by
  intro x4 M h
  unfold f_X10_sheet_b93 at h
  refine zt_iload C 2 dX10_sheet_93 rfl ?_
  refine zt_bipush C (v := 40) dX10_sheet_95 zk_b40 ?_
  refine zt_icmp_ge C 119 dX10_sheet_97 (by decide) (fun q1 => ?_) (fun q1 => ?_)
  · replace h := za_ifp h q1
    refine zt_iconst C (v := 1) dX10_sheet_119 zk_i1 ?_
    exact zt_ret C hr hk rfl dX10_sheet_120 h
  · replace h := za_ifn h q1
    refine zt_aload_n C 0 dX10_sheet_100 rfl rfl ?_
    refine zt_get C (za_mem (j := 27) rfl (by decide) (by decide)) pf_X10_50 (za_E_27 g cy M 0 0) rfl dX10_sheet_101 ?_
    refine zt_bipush C (v := 40) dX10_sheet_104 zk_b40 ?_
    refine zt_iload_n C 1 dX10_sheet_106 rfl rfl ?_
    refine zt_imul C dX10_sheet_107 ?_
    refine zt_iload C 2 dX10_sheet_108 rfl ?_
    refine zt_iadd C dX10_sheet_110 ?_
    refine zt_iconst C (v := 0) dX10_sheet_111 zk_i0 ?_
    obtain ⟨g2, h⟩ := h
    refine zt_iast C (za_mem (j := 39) rfl (by decide) (by decide)) (fun W9 => za_E_39 g cy W9 0 0) g2 dX10_sheet_112 ?_
    refine zt_topM (fun M3 e4 => ?_)
    replace h := za_use h e4
    refine zt_iinc C (v := x4 + 1) 2 [(4, .int (x4 + 1)), (0, .ref (g (27, 0, 0))), (1, .int x1)] dX10_sheet_113 rfl (zk_n1 _) (by decide) rfl ?_
    refine zt_goto C 93 dX10_sheet_116 (by decide) ?_
    refine zt_sub [1, 2, 0] (lv' := [(0, .ref (g (27, 0, 0))), (1, .int x1), (4, .int (x4 + 1))]) rfl ?_
    exact hL93 _ _ h
theorem p_X10_sheet_b93_in (hJ : za_J g) (C : za_C p s m args c cX10_sheet 5 RX10 g D cy) (hr : meth.sig.returnType = (some .int)) (hk : meth.locks = false) {x1 : Int32} {n : Nat} {x4 : Int32} {M : za_M} (h : za_lp1 (f_X10_sheet_b93 K x1) n x4 M) : zt p l e (za_rm 3 106) s m args below meth c 0 0 (MQ below (za_Qi g D cy K) args s 0 0 (za_A g)) g D cy 5 M 93 [(0, .ref (g (27, 0, 0))), (1, .int x1), (4, .int x4)] [] := za_lp1_run (Z := fun x4 M => zt p l e (za_rm 3 106) s m args below meth c 0 0 (MQ below (za_Qi g D cy K) args s 0 0 (za_A g)) g D cy 5 M 93 [(0, .ref (g (27, 0, 0))), (1, .int x1), (4, .int x4)] []) (fun L hL => p_X10_sheet_b93 hJ C hr hk  hL) n x4 M h
set_option maxRecDepth 100000 in
set_option maxHeartbeats 4000000 in
theorem p_X10_sheet_b89 (hJ : za_J g) (C : za_C p s m args c cX10_sheet 5 RX10 g D cy) (hr : meth.sig.returnType = (some .int)) (hk : meth.locks = false) {x1 : Int32} {s1 : Int32} {s2 : Int32} {M : za_M} (h : f_X10_sheet_b89 K x1 s1 s2 M) : zt p l e (za_rm 3 106) s m args below meth c 0 0 (MQ below (za_Qi g D cy K) args s 0 0 (za_A g)) g D cy 5 M 89 [(0, .ref (g (27, 0, 0))), (1, .int x1)] [.int s2, .int s1, .ref (g (38, 0, 0))] := by
  unfold f_X10_sheet_b89 at h
  obtain ⟨g5, h⟩ := h
  refine zt_iast C (za_mem (j := 38) rfl (by decide) (by decide)) (fun W9 => za_E_38 g cy W9 0 0) g5 dX10_sheet_89 ?_
  refine zt_topM (fun M6 e7 => ?_)
  replace h := za_use h e7
  refine zt_iconst C (v := 0) dX10_sheet_90 zk_i0 ?_
  refine zt_istore C [(4, .int 0), (0, .ref (g (27, 0, 0))), (1, .int x1)] dX10_sheet_91 (by decide) rfl ?_
  refine zt_sub [1, 2, 0] (lv' := [(0, .ref (g (27, 0, 0))), (1, .int x1), (4, .int 0)]) rfl ?_
  obtain ⟨n, h⟩ := h
  exact p_X10_sheet_b93_in hJ C hr hk  h
set_option maxRecDepth 100000 in
set_option maxHeartbeats 4000000 in
theorem p_X10_sheet_b68 (hJ : za_J g) (C : za_C p s m args c cX10_sheet 5 RX10 g D cy) (hr : meth.sig.returnType = (some .int)) (hk : meth.locks = false) {x1 : Int32} {x2 : Int32} {x3 : Int32} {M : za_M} (h : f_X10_sheet_b68 K x1 x2 x3 M) : zt p l e (za_rm 3 106) s m args below meth c 0 0 (MQ below (za_Qi g D cy K) args s 0 0 (za_A g)) g D cy 5 M 68 [(0, .ref (g (27, 0, 0))), (1, .int x1), (2, .int x2), (3, .int x3)] [] := by
  unfold f_X10_sheet_b68 at h
  refine zt_aload_n C 0 dX10_sheet_68 rfl rfl ?_
  refine zt_get C (za_mem (j := 27) rfl (by decide) (by decide)) pf_X10_44 (za_E_27 g cy M 0 0) rfl dX10_sheet_69 ?_
  refine zt_iload_n C 1 dX10_sheet_72 rfl rfl ?_
  refine zt_iload_n C 2 dX10_sheet_73 rfl rfl ?_
  obtain ⟨g8, h⟩ := h
  refine zt_iast C (za_mem (j := 37) rfl (by decide) (by decide)) (fun W9 => za_E_37 g cy W9 0 0) g8 dX10_sheet_74 ?_
  refine zt_topM (fun M9 e10 => ?_)
  replace h := za_use h e10
  refine zt_aload_n C 0 dX10_sheet_75 rfl rfl ?_
  refine zt_get C (za_mem (j := 27) rfl (by decide) (by decide)) pf_X10_47 (za_E_27 g cy M9 0 0) rfl dX10_sheet_76 ?_
  refine zt_iload_n C 1 dX10_sheet_79 rfl rfl ?_
  refine zt_iload_n C 2 dX10_sheet_80 rfl rfl ?_
  refine zt_if_ne C 88 dX10_sheet_81 (by decide) (fun q11 => ?_) (fun q11 => ?_)
  · replace h := za_ifn h q11
    refine zt_iload_n C 3 dX10_sheet_88 rfl rfl ?_
    refine zt_sub [0, 1] (lv' := [(0, .ref (g (27, 0, 0))), (1, .int x1)]) rfl ?_
    exact p_X10_sheet_b89 hJ C hr hk  h
  · replace h := za_ifp h q11
    refine zt_iconst C (v := 0) dX10_sheet_84 zk_i0 ?_
    refine zt_goto C 89 dX10_sheet_85 (by decide) ?_
    refine zt_sub [0, 1] (lv' := [(0, .ref (g (27, 0, 0))), (1, .int x1)]) rfl ?_
    exact p_X10_sheet_b89 hJ C hr hk  h
set_option maxRecDepth 100000 in
set_option maxHeartbeats 4000000 in
theorem p_X10_sheet_b51 (hJ : za_J g) (C : za_C p s m args c cX10_sheet 5 RX10 g D cy) (hr : meth.sig.returnType = (some .int)) (hk : meth.locks = false) {x1 : Int32} {x2 : Int32} {x3 : Int32} {M : za_M} (h : f_X10_sheet_b51 K x1 x2 x3 M) : zt p l e (za_rm 3 106) s m args below meth c 0 0 (MQ below (za_Qi g D cy K) args s 0 0 (za_A g)) g D cy 5 M 51 [(0, .ref (g (27, 0, 0))), (1, .int x1), (2, .int x2), (3, .int x3)] [] := by
  unfold f_X10_sheet_b51 at h
  refine zt_iload_n C 2 dX10_sheet_51 rfl rfl ?_
  refine zt_if_eq C 68 dX10_sheet_52 (by decide) (fun q12 => ?_) (fun q12 => ?_)
  · replace h := za_ifp h q12
    exact p_X10_sheet_b68 hJ C hr hk  h
  · replace h := za_ifn h q12
    refine zt_iload_n C 3 dX10_sheet_55 rfl rfl ?_
    refine zt_bipush C (v := 40) dX10_sheet_56 zk_b40 ?_
    refine zt_icmp_le C 68 dX10_sheet_58 (by decide) (fun q13 => ?_) (fun q13 => ?_)
    · replace h := za_ifp h q13
      exact p_X10_sheet_b68 hJ C hr hk  h
    · replace h := za_ifn h q13
      refine zt_aload_n C 0 dX10_sheet_61 rfl rfl ?_
      refine zt_ldc C w_969 dX10_sheet_62 ?_
      refine zt_cVi C [.int (-1000000001)] (m_X10_finding hJ  h) (za_mem (j := 27) rfl (by decide) (by decide)) (za_E_27 g cy M 0 0) rfl py_X10_finding pv_X10_75 (Nat.le_of_ble_eq_true rfl) ⟨Nat.le_of_ble_eq_true rfl, Nat.le_of_ble_eq_true rfl⟩ ⟨Nat.zero_le _, Nat.zero_le _⟩ dX10_sheet_64 rfl (fun r15 M14 h => ?_)
      exact zt_ret C hr hk rfl dX10_sheet_67 h
set_option maxRecDepth 100000 in
set_option maxHeartbeats 4000000 in
theorem p_X10_sheet_b36 (hJ : za_J g) (C : za_C p s m args c cX10_sheet 5 RX10 g D cy) (hr : meth.sig.returnType = (some .int)) (hk : meth.locks = false) {x1 : Int32} {x2 : Int32} {x3 : Int32} {M : za_M} (h : f_X10_sheet_b36 K x1 x2 x3 M) : zt p l e (za_rm 3 106) s m args below meth c 0 0 (MQ below (za_Qi g D cy K) args s 0 0 (za_A g)) g D cy 5 M 36 [(0, .ref (g (27, 0, 0))), (1, .int x1), (2, .int x2), (3, .int x3)] [] := by
  unfold f_X10_sheet_b36 at h
  refine zt_iload_n C 2 dX10_sheet_36 rfl rfl ?_
  refine zt_if_eq C 51 dX10_sheet_37 (by decide) (fun q16 => ?_) (fun q16 => ?_)
  · replace h := za_ifp h q16
    exact p_X10_sheet_b51 hJ C hr hk  h
  · replace h := za_ifn h q16
    refine zt_iload_n C 3 dX10_sheet_40 rfl rfl ?_
    refine zt_if_ge C 51 dX10_sheet_41 (by decide) (fun q17 => ?_) (fun q17 => ?_)
    · replace h := za_ifp h q17
      exact p_X10_sheet_b51 hJ C hr hk  h
    · replace h := za_ifn h q17
      refine zt_aload_n C 0 dX10_sheet_44 rfl rfl ?_
      refine zt_ldc C w_1224 dX10_sheet_45 ?_
      refine zt_cVi C [.int (-1000000003)] (m_X10_finding hJ  h) (za_mem (j := 27) rfl (by decide) (by decide)) (za_E_27 g cy M 0 0) rfl py_X10_finding pv_X10_75 (Nat.le_of_ble_eq_true rfl) ⟨Nat.le_of_ble_eq_true rfl, Nat.le_of_ble_eq_true rfl⟩ ⟨Nat.zero_le _, Nat.zero_le _⟩ dX10_sheet_47 rfl (fun r19 M18 h => ?_)
      exact zt_ret C hr hk rfl dX10_sheet_50 h
set_option maxRecDepth 100000 in
set_option maxHeartbeats 4000000 in
theorem p_X10_sheet (hJ : za_J g) (C : za_C p s m args c cX10_sheet 5 RX10 g D cy) (hr : meth.sig.returnType = (some .int)) (hk : meth.locks = false) {x1 : Int32} {x2 : Int32} {x3 : Int32} {M : za_M} (h : f_X10_sheet x1 x2 x3 M K) : zt p l e (za_rm 3 106) s m args below meth c 0 0 (MQ below (za_Qi g D cy K) args s 0 0 (za_A g)) g D cy 5 M 0 [(0, .ref (g (27, 0, 0))), (1, .int x1), (2, .int x2), (3, .int x3)] [] := by
  unfold f_X10_sheet at h
  refine zt_iload_n C 1 dX10_sheet_0 rfl rfl ?_
  refine zt_cSi C [.int x1] (m_X10_isSheet hJ  h) py_X10_isSheet ps_X10_279 (Nat.le_of_ble_eq_true rfl) ⟨Nat.le_of_ble_eq_true rfl, Nat.le_of_ble_eq_true rfl⟩ ⟨Nat.zero_le _, Nat.zero_le _⟩ dX10_sheet_1 rfl (fun r21 M20 h => ?_)
  refine zt_if_eq C 29 dX10_sheet_4 (by decide) (fun q22 => ?_) (fun q22 => ?_)
  · replace h := za_ifp h q22
    refine zt_aload_n C 0 dX10_sheet_29 rfl rfl ?_
    refine zt_ldc C w_969 dX10_sheet_30 ?_
    refine zt_cVi C [.int (-1000000001)] (m_X10_finding hJ  h) (za_mem (j := 27) rfl (by decide) (by decide)) (za_E_27 g cy M20 0 0) rfl py_X10_finding pv_X10_75 (Nat.le_of_ble_eq_true rfl) ⟨Nat.le_of_ble_eq_true rfl, Nat.le_of_ble_eq_true rfl⟩ ⟨Nat.zero_le _, Nat.zero_le _⟩ dX10_sheet_32 rfl (fun r24 M23 h => ?_)
    exact zt_ret C hr hk rfl dX10_sheet_35 h
  · replace h := za_ifn h q22
    refine zt_iload_n C 2 dX10_sheet_7 rfl rfl ?_
    refine zt_if_eq C 36 dX10_sheet_8 (by decide) (fun q25 => ?_) (fun q25 => ?_)
    · replace h := za_ifp h q25
      exact p_X10_sheet_b36 hJ C hr hk  h
    · replace h := za_ifn h q25
      refine zt_iload_n C 2 dX10_sheet_11 rfl rfl ?_
      refine zt_bipush C (v := 8) dX10_sheet_12 zk_b8 ?_
      refine zt_icmp_eq C 36 dX10_sheet_14 (by decide) (fun q26 => ?_) (fun q26 => ?_)
      · replace h := za_ifp h q26
        exact p_X10_sheet_b36 hJ C hr hk  h
      · replace h := za_ifn h q26
        refine zt_iload_n C 2 dX10_sheet_17 rfl rfl ?_
        refine zt_bipush C (v := 16) dX10_sheet_18 zk_b16 ?_
        refine zt_icmp_eq C 36 dX10_sheet_20 (by decide) (fun q27 => ?_) (fun q27 => ?_)
        · replace h := za_ifp h q27
          exact p_X10_sheet_b36 hJ C hr hk  h
        · replace h := za_ifn h q27
          refine zt_iload_n C 2 dX10_sheet_23 rfl rfl ?_
          refine zt_bipush C (v := 32) dX10_sheet_24 zk_b32 ?_
          refine zt_icmp_eq C 36 dX10_sheet_26 (by decide) (fun q28 => ?_) (fun q28 => ?_)
          · replace h := za_ifp h q28
            exact p_X10_sheet_b36 hJ C hr hk  h
          · replace h := za_ifn h q28
            refine zt_aload_n C 0 dX10_sheet_29 rfl rfl ?_
            refine zt_ldc C w_969 dX10_sheet_30 ?_
            refine zt_cVi C [.int (-1000000001)] (m_X10_finding hJ  h) (za_mem (j := 27) rfl (by decide) (by decide)) (za_E_27 g cy M20 0 0) rfl py_X10_finding pv_X10_75 (Nat.le_of_ble_eq_true rfl) ⟨Nat.le_of_ble_eq_true rfl, Nat.le_of_ble_eq_true rfl⟩ ⟨Nat.zero_le _, Nat.zero_le _⟩ dX10_sheet_32 rfl (fun r30 M29 h => ?_)
            exact zt_ret C hr hk rfl dX10_sheet_35 h
end
theorem m_X10_sheet {l : Launch} {g : za_L → Nat} {D : va_G} {cy : Nat → ClassId} (hJ : za_J g)  {x1 : Int32} {x2 : Int32} {x3 : Int32} {M : za_M} {K : Int32 → za_M → Prop} (h : f_X10_sheet x1 x2 x3 M K) : za_Mi l g D cy yX10_sheet cX10_sheet 5 (some .int) 3 106 [.ref (g (27, 0, 0)), .int x1, .int x2, .int x3] M K := za_openi hJ (by decide) (Nat.le_of_ble_eq_true rfl) (fun p e s m args below meth c C hr hk => p_X10_sheet hJ C hr hk  h)

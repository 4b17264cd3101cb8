/-! X9_voice -/
def f_X9_voice (x1 : Int32) (x2 : Int32) (x3 : Int32) (M : za_M) (K : Int32 → za_M → Prop) : Prop :=
  f_X1_hasAsh 0 x1 M (fun r2 M1 => if r2 = 0 then (f_X9_fail 1 M1 (fun r5 M4 => K r5 M4)) else (f_X9_within x2 0 3 M1 (fun r7 M6 => if r7 = 0 then (f_X9_fail 1 M6 (fun r13 M12 => K r13 M12)) else (vp_in x1 5 ∧ (f_X8_speak 0 x1.toNatClampNeg x1 x2 x3 M6 (fun r11 M10 => K r11 M10))))))
section
variable {p : Program} {l : Launch} {e : Env} {s : State} {m : MethodId} {args : Array Value} {below : List Frame} {meth : Method} {c : Code} {g : za_L → Nat} {D : va_G} {cy : Nat → ClassId} {K : Int32 → za_M → Prop}
set_option maxRecDepth 100000 in
set_option maxHeartbeats 4000000 in
theorem p_X9_voice (hJ : za_J g) (C : za_C p s m args c cX9_voice 4 RX9 g D cy) (hr : meth.sig.returnType = (some .int)) (hk : meth.locks = false) {x1 : Int32} {x2 : Int32} {x3 : Int32} {M : za_M} (h : f_X9_voice x1 x2 x3 M K) : zt p l e (za_rm 104 6133) s m args below meth c 0 0 (MQ below (za_Qi g D cy K) args s 0 0 (za_A g)) g D cy 4 M 0 [(0, .ref (g (0, 0, 0))), (1, .int x1), (2, .int x2), (3, .int x3)] [] := by
  unfold f_X9_voice at h
  refine zt_aload_n C 0 dX9_voice_0 rfl rfl ?_
  refine zt_get C (za_mem (j := 0) rfl (by decide) (by decide)) pf_X9_10 (za_E_0 g cy M 0 0) rfl dX9_voice_1 ?_
  refine zt_get C (za_mem (j := 1) rfl (by decide) (by decide)) pf_X9_57 (za_E_1 g cy M 0 0) rfl dX9_voice_4 ?_
  refine zt_iload_n C 1 dX9_voice_7 rfl rfl ?_
  refine zt_cVi C [.int x1] (m_X1_hasAsh hJ (by decide) h) (za_mem (j := 2) rfl (by decide) (by decide)) (za_E_2 g cy M 0 0) rfl py_X1_hasAsh pv_X9_82 (Nat.le_of_ble_eq_true rfl) ⟨Nat.le_of_ble_eq_true rfl, Nat.le_of_ble_eq_true rfl⟩ ⟨Nat.zero_le _, Nat.zero_le _⟩ dX9_voice_8 rfl (fun r2 M1 h => ?_)
  refine zt_if_eq C 23 dX9_voice_11 (by decide) (fun q3 => ?_) (fun q3 => ?_)
  · replace h := za_ifp h q3
    refine zt_aload_n C 0 dX9_voice_23 rfl rfl ?_
    refine zt_iconst C (v := 1) dX9_voice_24 zk_i1 ?_
    refine zt_cVi C [.int 1] (m_X9_fail hJ  h) (za_mem (j := 0) rfl (by decide) (by decide)) (za_E_0 g cy M1 0 0) rfl py_X9_fail pv_X9_64 (Nat.le_of_ble_eq_true rfl) ⟨Nat.le_of_ble_eq_true rfl, Nat.le_of_ble_eq_true rfl⟩ ⟨Nat.zero_le _, Nat.zero_le _⟩ dX9_voice_25 rfl (fun r5 M4 h => ?_)
    exact zt_ret C hr hk rfl dX9_voice_28 h
  · replace h := za_ifn h q3
    refine zt_iload_n C 2 dX9_voice_14 rfl rfl ?_
    refine zt_iconst C (v := 0) dX9_voice_15 zk_i0 ?_
    refine zt_iconst C (v := 3) dX9_voice_16 zk_i3 ?_
    refine zt_cSi C [.int x2, .int 0, .int 3] (m_X9_within hJ  h) py_X9_within ps_X9_100 (Nat.le_of_ble_eq_true rfl) ⟨Nat.le_of_ble_eq_true rfl, Nat.le_of_ble_eq_true rfl⟩ ⟨Nat.zero_le _, Nat.zero_le _⟩ dX9_voice_17 rfl (fun r7 M6 h => ?_)
    refine zt_if_ne C 29 dX9_voice_20 (by decide) (fun q8 => ?_) (fun q8 => ?_)
    · replace h := za_ifn h q8
      refine zt_aload_n C 0 dX9_voice_29 rfl rfl ?_
      refine zt_get C (za_mem (j := 0) rfl (by decide) (by decide)) pf_X9_36 (za_E_0 g cy M6 0 0) rfl dX9_voice_30 ?_
      refine zt_aload_n C 0 dX9_voice_33 rfl rfl ?_
      refine zt_get C (za_mem (j := 0) rfl (by decide) (by decide)) pf_X9_10 (za_E_0 g cy M6 0 0) rfl dX9_voice_34 ?_
      refine zt_get C (za_mem (j := 1) rfl (by decide) (by decide)) pf_X9_57 (za_E_1 g cy M6 0 0) rfl dX9_voice_37 ?_
      refine zt_get C (za_mem (j := 2) rfl (by decide) (by decide)) pf_X9_72 (za_E_2 g cy M6 0 0) rfl dX9_voice_40 ?_
      refine zt_iload_n C 1 dX9_voice_43 rfl rfl ?_
      obtain ⟨g9, h⟩ := h
      refine zt_aald C (za_mem (j := 10) rfl (by decide) (by decide)) (za_E_10 g cy M6 0 0) rfl g9 dX9_voice_44 ?_
      refine zt_iload_n C 1 dX9_voice_45 rfl rfl ?_
      refine zt_iload_n C 2 dX9_voice_46 rfl rfl ?_
      refine zt_iload_n C 3 dX9_voice_47 rfl rfl ?_
      refine zt_cVi C [.ref (g (3, 0, x1.toNatClampNeg)), .int x1, .int x2, .int x3] (m_X8_speak hJ (by decide) (za_lt g9) h) (za_mem (j := 8) rfl (by decide) (by decide)) (za_E_8 g cy M6 0 0) rfl py_X8_speak pv_X9_293 (Nat.le_of_ble_eq_true rfl) ⟨Nat.le_of_ble_eq_true rfl, Nat.le_of_ble_eq_true rfl⟩ ⟨Nat.zero_le _, Nat.zero_le _⟩ dX9_voice_48 rfl (fun r11 M10 h => ?_)
      exact zt_ret C hr hk rfl dX9_voice_51 h
    · replace h := za_ifp h q8
      refine zt_aload_n C 0 dX9_voice_23 rfl rfl ?_
      refine zt_iconst C (v := 1) dX9_voice_24 zk_i1 ?_
      refine zt_cVi C [.int 1] (m_X9_fail hJ  h) (za_mem (j := 0) rfl (by decide) (by decide)) (za_E_0 g cy M6 0 0) rfl py_X9_fail pv_X9_64 (Nat.le_of_ble_eq_true rfl) ⟨Nat.le_of_ble_eq_true rfl, Nat.le_of_ble_eq_true rfl⟩ ⟨Nat.zero_le _, Nat.zero_le _⟩ dX9_voice_25 rfl (fun r13 M12 h => ?_)
      exact zt_ret C hr hk rfl dX9_voice_28 h
end
theorem m_X9_voice {l : Launch} {g : za_L → Nat} {D : va_G} {cy : Nat → ClassId} (hJ : za_J g)  {x1 : Int32} {x2 : Int32} {x3 : Int32} {M : za_M} {K : Int32 → za_M → Prop} (h : f_X9_voice x1 x2 x3 M K) : za_Mi l g D cy yX9_voice cX9_voice 4 (some .int) 104 6133 [.ref (g (0, 0, 0)), .int x1, .int x2, .int x3] M K := za_openi hJ (by decide) (Nat.le_of_ble_eq_true rfl) (fun p e s m args below meth c C hr hk => p_X9_voice hJ C hr hk  h)
/-! X9_trace -/
def f_X9_trace (x1 : Int32) (M : za_M) (K : Int32 → za_M → Prop) : Prop :=
  f_X9_within x1 0 ((M.1 (8, 0, 0) 1) - 1) M (fun r2 M1 => if r2 = 0 then (f_X9_fail 2 M1 (fun r6 M5 => K r6 M5)) else (vp_in x1 40 ∧ (K (M1.1 (21, 0, 0) x1.toNatClampNeg) M1)))
section
variable {p : Program} {l : Launch} {e : Env} {s : State} {m : MethodId} {args : Array Value} {below : List Frame} {meth : Method} {c : Code} {g : za_L → Nat} {D : va_G} {cy : Nat → ClassId} {K : Int32 → za_M → Prop}
set_option maxRecDepth 100000 in
set_option maxHeartbeats 4000000 in
theorem p_X9_trace (hJ : za_J g) (C : za_C p s m args c cX9_trace 2 RX9 g D cy) (hr : meth.sig.returnType = (some .int)) (hk : meth.locks = false) {x1 : Int32} {M : za_M} (h : f_X9_trace x1 M K) : zt p l e (za_rm 3 107) s m args below meth c 0 0 (MQ below (za_Qi g D cy K) args s 0 0 (za_A g)) g D cy 2 M 0 [(0, .ref (g (0, 0, 0))), (1, .int x1)] [] := by
  unfold f_X9_trace at h
  refine zt_iload_n C 1 dX9_trace_0 rfl rfl ?_
  refine zt_iconst C (v := 0) dX9_trace_1 zk_i0 ?_
  refine zt_aload_n C 0 dX9_trace_2 rfl rfl ?_
  refine zt_get C (za_mem (j := 0) rfl (by decide) (by decide)) pf_X9_36 (za_E_0 g cy M 0 0) rfl dX9_trace_3 ?_
  refine zt_get C (za_mem (j := 8) rfl (by decide) (by decide)) pf_X9_297 (za_E_8 g cy M 0 0) rfl dX9_trace_6 ?_
  refine zt_iconst C (v := 1) dX9_trace_9 zk_i1 ?_
  refine zt_isub C dX9_trace_10 ?_
  refine zt_cSi C [.int x1, .int 0, .int ((M.1 (8, 0, 0) 1) - 1)] (m_X9_within hJ  h) py_X9_within ps_X9_100 (Nat.le_of_ble_eq_true rfl) ⟨Nat.le_of_ble_eq_true rfl, Nat.le_of_ble_eq_true rfl⟩ ⟨Nat.zero_le _, Nat.zero_le _⟩ dX9_trace_11 rfl (fun r2 M1 h => ?_)
  refine zt_if_ne C 23 dX9_trace_14 (by decide) (fun q3 => ?_) (fun q3 => ?_)
  · replace h := za_ifn h q3
    refine zt_aload_n C 0 dX9_trace_23 rfl rfl ?_
    refine zt_get C (za_mem (j := 0) rfl (by decide) (by decide)) pf_X9_36 (za_E_0 g cy M1 0 0) rfl dX9_trace_24 ?_
    refine zt_get C (za_mem (j := 8) rfl (by decide) (by decide)) pf_X9_300 (za_E_8 g cy M1 0 0) rfl dX9_trace_27 ?_
    refine zt_iload_n C 1 dX9_trace_30 rfl rfl ?_
    obtain ⟨g4, h⟩ := h
    refine zt_iald C (za_mem (j := 21) rfl (by decide) (by decide)) (fun W9 => za_E_21 g cy W9 0 0) g4 dX9_trace_31 ?_
    exact zt_ret C hr hk rfl dX9_trace_32 h
  · replace h := za_ifp h q3
    refine zt_aload_n C 0 dX9_trace_17 rfl rfl ?_
    refine zt_iconst C (v := 2) dX9_trace_18 zk_i2 ?_
    refine zt_cVi C [.int 2] (m_X9_fail hJ  h) (za_mem (j := 0) rfl (by decide) (by decide)) (za_E_0 g cy M1 0 0) rfl py_X9_fail pv_X9_64 (Nat.le_of_ble_eq_true rfl) ⟨Nat.le_of_ble_eq_true rfl, Nat.le_of_ble_eq_true rfl⟩ ⟨Nat.zero_le _, Nat.zero_le _⟩ dX9_trace_19 rfl (fun r6 M5 h => ?_)
    exact zt_ret C hr hk rfl dX9_trace_22 h
end
theorem m_X9_trace {l : Launch} {g : za_L → Nat} {D : va_G} {cy : Nat → ClassId} (hJ : za_J g)  {x1 : Int32} {M : za_M} {K : Int32 → za_M → Prop} (h : f_X9_trace x1 M K) : za_Mi l g D cy yX9_trace cX9_trace 2 (some .int) 3 107 [.ref (g (0, 0, 0)), .int x1] M K := za_openi hJ (by decide) (Nat.le_of_ble_eq_true rfl) (fun p e s m args below meth c C hr hk => p_X9_trace hJ C hr hk  h)
/-! X9_sheet -/
def f_X9_sheet_b77 (K : Int32 → za_M → Prop) (x1 : Int32) (x2 : Int32) (x3 : Int32) (M : za_M) : Prop :=
  vp_in x1 4 ∧ (if x2 = 0 then (f_X6_begin x1.toNatClampNeg x2 0 M (fun M5 => K 1 M5)) else (f_X6_begin x1.toNatClampNeg x2 x3 M (fun M3 => K 1 M3)))
def f_X9_sheet_b61 (K : Int32 → za_M → Prop) (x1 : Int32) (x2 : Int32) (x3 : Int32) (M : za_M) : Prop :=
  if x2 = 0 then (f_X9_sheet_b77 K x1 x2 x3 M) else (if x3 ≤ 40 then (f_X9_sheet_b77 K x1 x2 x3 M) else (f_X9_fail 1 M (fun r10 M9 => K r10 M9)))
def f_X9_sheet_b27 (K : Int32 → za_M → Prop) (x1 : Int32) (x2 : Int32) (x3 : Int32) (s0 : Int32) (M : za_M) : Prop :=
  f_X9_isSheet x1 M (fun r12 M11 => if r12 = 0 then (f_X9_fail 1 M11 (fun r15 M14 => K r15 M14)) else (if s0 = 0 then (f_X9_fail 1 M11 (fun r22 M21 => K r22 M21)) else (if x2 = 0 then (f_X9_sheet_b61 K x1 x2 x3 M11) else (if 0 ≤ x3 then (f_X9_sheet_b61 K x1 x2 x3 M11) else (f_X9_fail 3 M11 (fun r20 M19 => K r20 M19))))))
def f_X9_sheet_b22 (K : Int32 → za_M → Prop) (x1 : Int32) (x2 : Int32) (x3 : Int32) (M : za_M) : Prop :=
  f_X9_sheet_b27 K x1 x2 x3 1 M
def f_X9_sheet (x1 : Int32) (x2 : Int32) (x3 : Int32) (M : za_M) (K : Int32 → za_M → Prop) : Prop :=
  if x2 = 0 then (f_X9_sheet_b22 K x1 x2 x3 M) else (if x2 = 8 then (f_X9_sheet_b22 K x1 x2 x3 M) else (if x2 = 16 then (f_X9_sheet_b22 K x1 x2 x3 M) else (if x2 = 32 then (f_X9_sheet_b22 K x1 x2 x3 M) else (f_X9_sheet_b27 K x1 x2 x3 0 M))))
section
variable {p : Program} {l : Launch} {e : Env} {s : State} {m : MethodId} {args : Array Value} {below : List Frame} {meth : Method} {c : Code} {g : za_L → Nat} {D : va_G} {cy : Nat → ClassId} {K : Int32 → za_M → Prop}
set_option maxRecDepth 100000 in
set_option maxHeartbeats 4000000 in
theorem p_X9_sheet_b77 (hJ : za_J g) (C : za_C p s m args c cX9_sheet 5 RX9 g D cy) (hr : meth.sig.returnType = (some .int)) (hk : meth.locks = false) {x1 : Int32} {x2 : Int32} {x3 : Int32} {M : za_M} (h : f_X9_sheet_b77 K x1 x2 x3 M) : zt p l e (za_rm 3 108) s m args below meth c 0 0 (MQ below (za_Qi g D cy K) args s 0 0 (za_A g)) g D cy 5 M 77 [(0, .ref (g (0, 0, 0))), (1, .int x1), (2, .int x2), (3, .int x3)] [] := by
  unfold f_X9_sheet_b77 at h
  refine zt_aload_n C 0 dX9_sheet_77 rfl rfl ?_
  refine zt_get C (za_mem (j := 0) rfl (by decide) (by decide)) pf_X9_42 (za_E_0 g cy M 0 0) rfl dX9_sheet_78 ?_
  refine zt_iload_n C 1 dX9_sheet_81 rfl rfl ?_
  obtain ⟨g1, h⟩ := h
  refine zt_aald C (za_mem (j := 22) rfl (by decide) (by decide)) (za_E_22 g cy M 0 0) rfl g1 dX9_sheet_82 ?_
  refine zt_iload_n C 2 dX9_sheet_83 rfl rfl ?_
  refine zt_iload_n C 2 dX9_sheet_84 rfl rfl ?_
  refine zt_if_ne C 92 dX9_sheet_85 (by decide) (fun q2 => ?_) (fun q2 => ?_)
  · replace h := za_ifn h q2
    refine zt_iload_n C 3 dX9_sheet_92 rfl rfl ?_
    refine zt_cVv C [.int x2, .int x3] (m_X6_begin hJ (za_lt g1) h) (za_mem (j := 9) rfl (by decide) (za_lt g1)) (za_E_9 g cy M 0 x1.toNatClampNeg) rfl py_X6_begin pv_X9_303 (Nat.le_of_ble_eq_true rfl) ⟨Nat.le_of_ble_eq_true rfl, Nat.le_of_ble_eq_true rfl⟩ ⟨Nat.zero_le _, Nat.zero_le _⟩ dX9_sheet_93 rfl (fun M3 h => ?_)
    refine zt_iconst C (v := 1) dX9_sheet_96 zk_i1 ?_
    exact zt_ret C hr hk rfl dX9_sheet_97 h
  · replace h := za_ifp h q2
    refine zt_iconst C (v := 0) dX9_sheet_88 zk_i0 ?_
    refine zt_goto C 93 dX9_sheet_89 (by decide) ?_
    refine zt_cVv C [.int x2, .int 0] (m_X6_begin hJ (za_lt g1) h) (za_mem (j := 9) rfl (by decide) (za_lt g1)) (za_E_9 g cy M 0 x1.toNatClampNeg) rfl py_X6_begin pv_X9_303 (Nat.le_of_ble_eq_true rfl) ⟨Nat.le_of_ble_eq_true rfl, Nat.le_of_ble_eq_true rfl⟩ ⟨Nat.zero_le _, Nat.zero_le _⟩ dX9_sheet_93 rfl (fun M5 h => ?_)
    refine zt_iconst C (v := 1) dX9_sheet_96 zk_i1 ?_
    exact zt_ret C hr hk rfl dX9_sheet_97 h
set_option maxRecDepth 100000 in
set_option maxHeartbeats 4000000 in
theorem p_X9_sheet_b61 (hJ : za_J g) (C : za_C p s m args c cX9_sheet 5 RX9 g D cy) (hr : meth.sig.returnType = (some .int)) (hk : meth.locks = false) {x1 : Int32} {x2 : Int32} {x3 : Int32} {M : za_M} (h : f_X9_sheet_b61 K x1 x2 x3 M) : zt p l e (za_rm 3 108) s m args below meth c 0 0 (MQ below (za_Qi g D cy K) args s 0 0 (za_A g)) g D cy 5 M 61 [(0, .ref (g (0, 0, 0))), (1, .int x1), (2, .int x2), (3, .int x3)] [] := by
  unfold f_X9_sheet_b61 at h
  refine zt_iload_n C 2 dX9_sheet_61 rfl rfl ?_
  refine zt_if_eq C 77 dX9_sheet_62 (by decide) (fun q7 => ?_) (fun q7 => ?_)
  · replace h := za_ifp h q7
    exact p_X9_sheet_b77 hJ C hr hk  h
  · replace h := za_ifn h q7
    refine zt_iload_n C 3 dX9_sheet_65 rfl rfl ?_
    refine zt_bipush C (v := 40) dX9_sheet_66 zk_b40 ?_
    refine zt_icmp_le C 77 dX9_sheet_68 (by decide) (fun q8 => ?_) (fun q8 => ?_)
    · replace h := za_ifp h q8
      exact p_X9_sheet_b77 hJ C hr hk  h
    · replace h := za_ifn h q8
      refine zt_aload_n C 0 dX9_sheet_71 rfl rfl ?_
      refine zt_iconst C (v := 1) dX9_sheet_72 zk_i1 ?_
      refine zt_cVi C [.int 1] (m_X9_fail hJ  h) (za_mem (j := 0) rfl (by decide) (by decide)) (za_E_0 g cy M 0 0) rfl py_X9_fail pv_X9_64 (Nat.le_of_ble_eq_true rfl) ⟨Nat.le_of_ble_eq_true rfl, Nat.le_of_ble_eq_true rfl⟩ ⟨Nat.zero_le _, Nat.zero_le _⟩ dX9_sheet_73 rfl (fun r10 M9 h => ?_)
      exact zt_ret C hr hk rfl dX9_sheet_76 h
set_option maxRecDepth 100000 in
set_option maxHeartbeats 4000000 in
theorem p_X9_sheet_b27 (hJ : za_J g) (C : za_C p s m args c cX9_sheet 5 RX9 g D cy) (hr : meth.sig.returnType = (some .int)) (hk : meth.locks = false) {x1 : Int32} {x2 : Int32} {x3 : Int32} {s0 : Int32} {M : za_M} (h : f_X9_sheet_b27 K x1 x2 x3 s0 M) : zt p l e (za_rm 3 108) s m args below meth c 0 0 (MQ below (za_Qi g D cy K) args s 0 0 (za_A g)) g D cy 5 M 27 [(0, .ref (g (0, 0, 0))), (1, .int x1), (2, .int x2), (3, .int x3)] [.int s0] := by
  unfold f_X9_sheet_b27 at h
  refine zt_istore C [(4, .int s0), (0, .ref (g (0, 0, 0))), (1, .int x1), (2, .int x2), (3, .int x3)] dX9_sheet_27 (by decide) rfl ?_
  refine zt_iload_n C 2 dX9_sheet_29 rfl rfl ?_
  refine zt_cSi C [.int x1] (m_X9_isSheet hJ  h) py_X9_isSheet ps_X9_258 (Nat.le_of_ble_eq_true rfl) ⟨Nat.le_of_ble_eq_true rfl, Nat.le_of_ble_eq_true rfl⟩ ⟨Nat.zero_le _, Nat.zero_le _⟩ dX9_sheet_30 rfl (fun r12 M11 h => ?_)
  refine zt_if_eq C 41 dX9_sheet_33 (by decide) (fun q13 => ?_) (fun q13 => ?_)
  · replace h := za_ifp h q13
    refine zt_aload_n C 1 dX9_sheet_41 rfl rfl ?_
    refine zt_iconst C (v := 1) dX9_sheet_42 zk_i1 ?_
    refine zt_cVi C [.int 1] (m_X9_fail hJ  h) (za_mem (j := 0) rfl (by decide) (by decide)) (za_E_0 g cy M11 0 0) rfl py_X9_fail pv_X9_64 (Nat.le_of_ble_eq_true rfl) ⟨Nat.le_of_ble_eq_true rfl, Nat.le_of_ble_eq_true rfl⟩ ⟨Nat.zero_le _, Nat.zero_le _⟩ dX9_sheet_43 rfl (fun r15 M14 h => ?_)
    exact zt_ret C hr hk rfl dX9_sheet_46 h
  · replace h := za_ifn h q13
    refine zt_iload C 0 dX9_sheet_36 rfl ?_
    refine zt_if_ne C 47 dX9_sheet_38 (by decide) (fun q16 => ?_) (fun q16 => ?_)
    · replace h := za_ifn h q16
      refine zt_iload_n C 3 dX9_sheet_47 rfl rfl ?_
      refine zt_if_eq C 61 dX9_sheet_48 (by decide) (fun q17 => ?_) (fun q17 => ?_)
      · replace h := za_ifp h q17
        refine zt_sub [1, 2, 3, 4] (lv' := [(0, .ref (g (0, 0, 0))), (1, .int x1), (2, .int x2), (3, .int x3)]) rfl ?_
        exact p_X9_sheet_b61 hJ C hr hk  h
      · replace h := za_ifn h q17
        refine zt_iload_n C 4 dX9_sheet_51 rfl rfl ?_
        refine zt_if_ge C 61 dX9_sheet_52 (by decide) (fun q18 => ?_) (fun q18 => ?_)
        · replace h := za_ifp h q18
          refine zt_sub [1, 2, 3, 4] (lv' := [(0, .ref (g (0, 0, 0))), (1, .int x1), (2, .int x2), (3, .int x3)]) rfl ?_
          exact p_X9_sheet_b61 hJ C hr hk  h
        · replace h := za_ifn h q18
          refine zt_aload_n C 1 dX9_sheet_55 rfl rfl ?_
          refine zt_iconst C (v := 3) dX9_sheet_56 zk_i3 ?_
          refine zt_cVi C [.int 3] (m_X9_fail hJ  h) (za_mem (j := 0) rfl (by decide) (by decide)) (za_E_0 g cy M11 0 0) rfl py_X9_fail pv_X9_64 (Nat.le_of_ble_eq_true rfl) ⟨Nat.le_of_ble_eq_true rfl, Nat.le_of_ble_eq_true rfl⟩ ⟨Nat.zero_le _, Nat.zero_le _⟩ dX9_sheet_57 rfl (fun r20 M19 h => ?_)
          exact zt_ret C hr hk rfl dX9_sheet_60 h
    · replace h := za_ifp h q16
      refine zt_aload_n C 1 dX9_sheet_41 rfl rfl ?_
      refine zt_iconst C (v := 1) dX9_sheet_42 zk_i1 ?_
      refine zt_cVi C [.int 1] (m_X9_fail hJ  h) (za_mem (j := 0) rfl (by decide) (by decide)) (za_E_0 g cy M11 0 0) rfl py_X9_fail pv_X9_64 (Nat.le_of_ble_eq_true rfl) ⟨Nat.le_of_ble_eq_true rfl, Nat.le_of_ble_eq_true rfl⟩ ⟨Nat.zero_le _, Nat.zero_le _⟩ dX9_sheet_43 rfl (fun r22 M21 h => ?_)
      exact zt_ret C hr hk rfl dX9_sheet_46 h
set_option maxRecDepth 100000 in
set_option maxHeartbeats 4000000 in
theorem p_X9_sheet_b22 (hJ : za_J g) (C : za_C p s m args c cX9_sheet 5 RX9 g D cy) (hr : meth.sig.returnType = (some .int)) (hk : meth.locks = false) {x1 : Int32} {x2 : Int32} {x3 : Int32} {M : za_M} (h : f_X9_sheet_b22 K x1 x2 x3 M) : zt p l e (za_rm 3 108) s m args below meth c 0 0 (MQ below (za_Qi g D cy K) args s 0 0 (za_A g)) g D cy 5 M 22 [(0, .ref (g (0, 0, 0))), (1, .int x1), (2, .int x2), (3, .int x3)] [] := by
  unfold f_X9_sheet_b22 at h
  refine zt_iconst C (v := 1) dX9_sheet_22 zk_i1 ?_
  refine zt_goto C 27 dX9_sheet_23 (by decide) ?_
  exact p_X9_sheet_b27 hJ C hr hk  h
set_option maxRecDepth 100000 in
set_option maxHeartbeats 4000000 in
theorem p_X9_sheet (hJ : za_J g) (C : za_C p s m args c cX9_sheet 5 RX9 g D cy) (hr : meth.sig.returnType = (some .int)) (hk : meth.locks = false) {x1 : Int32} {x2 : Int32} {x3 : Int32} {M : za_M} (h : f_X9_sheet x1 x2 x3 M K) : zt p l e (za_rm 3 108) s m args below meth c 0 0 (MQ below (za_Qi g D cy K) args s 0 0 (za_A g)) g D cy 5 M 0 [(0, .ref (g (0, 0, 0))), (1, .int x1), (2, .int x2), (3, .int x3)] [] := by
  unfold f_X9_sheet at h
  refine zt_iload_n C 2 dX9_sheet_0 rfl rfl ?_
  refine zt_if_eq C 22 dX9_sheet_1 (by decide) (fun q23 => ?_) (fun q23 => ?_)
  · replace h := za_ifp h q23
    exact p_X9_sheet_b22 hJ C hr hk  h
  · replace h := za_ifn h q23
    refine zt_iload_n C 2 dX9_sheet_4 rfl rfl ?_
    refine zt_bipush C (v := 8) dX9_sheet_5 zk_b8 ?_
    refine zt_icmp_eq C 22 dX9_sheet_7 (by decide) (fun q24 => ?_) (fun q24 => ?_)
    · replace h := za_ifp h q24
      exact p_X9_sheet_b22 hJ C hr hk  h
    · replace h := za_ifn h q24
      refine zt_iload_n C 2 dX9_sheet_10 rfl rfl ?_
      refine zt_bipush C (v := 16) dX9_sheet_11 zk_b16 ?_
      refine zt_icmp_eq C 22 dX9_sheet_13 (by decide) (fun q25 => ?_) (fun q25 => ?_)
      · replace h := za_ifp h q25
        exact p_X9_sheet_b22 hJ C hr hk  h
      · replace h := za_ifn h q25
        refine zt_iload_n C 2 dX9_sheet_16 rfl rfl ?_
        refine zt_bipush C (v := 32) dX9_sheet_17 zk_b32 ?_
        refine zt_icmp_ne C 26 dX9_sheet_19 (by decide) (fun q26 => ?_) (fun q26 => ?_)
        · replace h := za_ifn h q26
          refine zt_iconst C (v := 0) dX9_sheet_26 zk_i0 ?_
          exact p_X9_sheet_b27 hJ C hr hk  h
        · replace h := za_ifp h q26
          exact p_X9_sheet_b22 hJ C hr hk  h
end
theorem m_X9_sheet {l : Launch} {g : za_L → Nat} {D : va_G} {cy : Nat → ClassId} (hJ : za_J g)  {x1 : Int32} {x2 : Int32} {x3 : Int32} {M : za_M} {K : Int32 → za_M → Prop} (h : f_X9_sheet x1 x2 x3 M K) : za_Mi l g D cy yX9_sheet cX9_sheet 5 (some .int) 3 108 [.ref (g (0, 0, 0)), .int x1, .int x2, .int x3] M K := za_openi hJ (by decide) (Nat.le_of_ble_eq_true rfl) (fun p e s m args below meth c C hr hk => p_X9_sheet hJ C hr hk  h)
/-! X9_put -/
def f_X9_put (x1 : Int32) (x2 : Int32) (x3 : Int32) (M : za_M) (K : Int32 → za_M → Prop) : Prop :=
  f_X9_isSheet x1 M (fun r2 M1 => if r2 = 0 then (f_X9_fail 1 M1 (fun r20 M19 => K r20 M19)) else (vp_in x1 4 ∧ (f_X6_isMissing x1.toNatClampNeg M1 (fun r6 M5 => if r6 = 0 then (vp_in x1 4 ∧ (f_X9_within x2 0 ((M5.1 (9, 0, x1.toNatClampNeg) 2) - 1) M5 (fun r10 M9 => if r10 = 0 then (f_X9_fail 1 M9 (fun r16 M15 => K r16 M15)) else (vp_in x1 4 ∧ (f_X6_write x1.toNatClampNeg x2 x3 M9 (fun M13 => K 1 M13)))))) else (f_X9_fail 2 M5 (fun r18 M17 => K r18 M17))))))
section
variable {p : Program} {l : Launch} {e : Env} {s : State} {m : MethodId} {args : Array Value} {below : List Frame} {meth : Method} {c : Code} {g : za_L → Nat} {D : va_G} {cy : Nat → ClassId} {K : Int32 → za_M → Prop}
set_option maxRecDepth 100000 in
set_option maxHeartbeats 4000000 in
theorem p_X9_put (hJ : za_J g) (C : za_C p s m args c cX9_put 4 RX9 g D cy) (hr : meth.sig.returnType = (some .int)) (hk : meth.locks = false) {x1 : Int32} {x2 : Int32} {x3 : Int32} {M : za_M} (h : f_X9_put x1 x2 x3 M K) : zt p l e (za_rm 3 107) s m args below meth c 0 0 (MQ below (za_Qi g D cy K) args s 0 0 (za_A g)) g D cy 4 M 0 [(0, .ref (g (0, 0, 0))), (1, .int x1), (2, .int x2), (3, .int x3)] [] := by
  unfold f_X9_put at h
  refine zt_iload_n C 1 dX9_put_0 rfl rfl ?_
  refine zt_cSi C [.int x1] (m_X9_isSheet hJ  h) py_X9_isSheet ps_X9_258 (Nat.le_of_ble_eq_true rfl) ⟨Nat.le_of_ble_eq_true rfl, Nat.le_of_ble_eq_true rfl⟩ ⟨Nat.zero_le _, Nat.zero_le _⟩ dX9_put_1 rfl (fun r2 M1 h => ?_)
  refine zt_if_ne C 13 dX9_put_4 (by decide) (fun q3 => ?_) (fun q3 => ?_)
  · replace h := za_ifn h q3
    refine zt_aload_n C 0 dX9_put_13 rfl rfl ?_
    refine zt_get C (za_mem (j := 0) rfl (by decide) (by decide)) pf_X9_42 (za_E_0 g cy M1 0 0) rfl dX9_put_14 ?_
    refine zt_iload_n C 1 dX9_put_17 rfl rfl ?_
    obtain ⟨g4, h⟩ := h
    refine zt_aald C (za_mem (j := 22) rfl (by decide) (by decide)) (za_E_22 g cy M1 0 0) rfl g4 dX9_put_18 ?_
    refine zt_cVi C [] (m_X6_isMissing hJ (za_lt g4) h) (za_mem (j := 9) rfl (by decide) (za_lt g4)) (za_E_9 g cy M1 0 x1.toNatClampNeg) rfl py_X6_isMissing pv_X9_261 (Nat.le_of_ble_eq_true rfl) ⟨Nat.le_of_ble_eq_true rfl, Nat.le_of_ble_eq_true rfl⟩ ⟨Nat.zero_le _, Nat.zero_le _⟩ dX9_put_19 rfl (fun r6 M5 h => ?_)
    refine zt_if_eq C 31 dX9_put_22 (by decide) (fun q7 => ?_) (fun q7 => ?_)
    · replace h := za_ifp h q7
      refine zt_iload_n C 2 dX9_put_31 rfl rfl ?_
      refine zt_iconst C (v := 0) dX9_put_32 zk_i0 ?_
      refine zt_aload_n C 0 dX9_put_33 rfl rfl ?_
      refine zt_get C (za_mem (j := 0) rfl (by decide) (by decide)) pf_X9_42 (za_E_0 g cy M5 0 0) rfl dX9_put_34 ?_
      refine zt_iload_n C 1 dX9_put_37 rfl rfl ?_
      obtain ⟨g8, h⟩ := h
      refine zt_aald C (za_mem (j := 22) rfl (by decide) (by decide)) (za_E_22 g cy M5 0 0) rfl g8 dX9_put_38 ?_
      refine zt_get C (za_mem (j := 9) rfl (by decide) (za_lt g8)) pf_X9_265 (za_E_9 g cy M5 0 x1.toNatClampNeg) rfl dX9_put_39 ?_
      refine zt_iconst C (v := 1) dX9_put_42 zk_i1 ?_
      refine zt_isub C dX9_put_43 ?_
      refine zt_cSi C [.int x2, .int 0, .int ((M5.1 (9, 0, x1.toNatClampNeg) 2) - 1)] (m_X9_within hJ  h) py_X9_within ps_X9_100 (Nat.le_of_ble_eq_true rfl) ⟨Nat.le_of_ble_eq_true rfl, Nat.le_of_ble_eq_true rfl⟩ ⟨Nat.zero_le _, Nat.zero_le _⟩ dX9_put_44 rfl (fun r10 M9 h => ?_)
      refine zt_if_ne C 56 dX9_put_47 (by decide) (fun q11 => ?_) (fun q11 => ?_)
      · replace h := za_ifn h q11
        refine zt_aload_n C 0 dX9_put_56 rfl rfl ?_
        refine zt_get C (za_mem (j := 0) rfl (by decide) (by decide)) pf_X9_42 (za_E_0 g cy M9 0 0) rfl dX9_put_57 ?_
        refine zt_iload_n C 1 dX9_put_60 rfl rfl ?_
        obtain ⟨g12, h⟩ := h
        refine zt_aald C (za_mem (j := 22) rfl (by decide) (by decide)) (za_E_22 g cy M9 0 0) rfl g12 dX9_put_61 ?_
        refine zt_iload_n C 2 dX9_put_62 rfl rfl ?_
        refine zt_iload_n C 3 dX9_put_63 rfl rfl ?_
        refine zt_cVv C [.int x2, .int x3] (m_X6_write hJ (za_lt g12) h) (za_mem (j := 9) rfl (by decide) (za_lt g12)) (za_E_9 g cy M9 0 x1.toNatClampNeg) rfl py_X6_write pv_X9_306 (Nat.le_of_ble_eq_true rfl) ⟨Nat.le_of_ble_eq_true rfl, Nat.le_of_ble_eq_true rfl⟩ ⟨Nat.zero_le _, Nat.zero_le _⟩ dX9_put_64 rfl (fun M13 h => ?_)
        refine zt_iconst C (v := 1) dX9_put_67 zk_i1 ?_
        exact zt_ret C hr hk rfl dX9_put_68 h
      · replace h := za_ifp h q11
        refine zt_aload_n C 0 dX9_put_50 rfl rfl ?_
        refine zt_iconst C (v := 1) dX9_put_51 zk_i1 ?_
        refine zt_cVi C [.int 1] (m_X9_fail hJ  h) (za_mem (j := 0) rfl (by decide) (by decide)) (za_E_0 g cy M9 0 0) rfl py_X9_fail pv_X9_64 (Nat.le_of_ble_eq_true rfl) ⟨Nat.le_of_ble_eq_true rfl, Nat.le_of_ble_eq_true rfl⟩ ⟨Nat.zero_le _, Nat.zero_le _⟩ dX9_put_52 rfl (fun r16 M15 h => ?_)
        exact zt_ret C hr hk rfl dX9_put_55 h
    · replace h := za_ifn h q7
      refine zt_aload_n C 0 dX9_put_25 rfl rfl ?_
      refine zt_iconst C (v := 2) dX9_put_26 zk_i2 ?_
      refine zt_cVi C [.int 2] (m_X9_fail hJ  h) (za_mem (j := 0) rfl (by decide) (by decide)) (za_E_0 g cy M5 0 0) rfl py_X9_fail pv_X9_64 (Nat.le_of_ble_eq_true rfl) ⟨Nat.le_of_ble_eq_true rfl, Nat.le_of_ble_eq_true rfl⟩ ⟨Nat.zero_le _, Nat.zero_le _⟩ dX9_put_27 rfl (fun r18 M17 h => ?_)
      exact zt_ret C hr hk rfl dX9_put_30 h
  · replace h := za_ifp h q3
    refine zt_aload_n C 0 dX9_put_7 rfl rfl ?_
    refine zt_iconst C (v := 1) dX9_put_8 zk_i1 ?_
    refine zt_cVi C [.int 1] (m_X9_fail hJ  h) (za_mem (j := 0) rfl (by decide) (by decide)) (za_E_0 g cy M1 0 0) rfl py_X9_fail pv_X9_64 (Nat.le_of_ble_eq_true rfl) ⟨Nat.le_of_ble_eq_true rfl, Nat.le_of_ble_eq_true rfl⟩ ⟨Nat.zero_le _, Nat.zero_le _⟩ dX9_put_9 rfl (fun r20 M19 h => ?_)
    exact zt_ret C hr hk rfl dX9_put_12 h
end
theorem m_X9_put {l : Launch} {g : za_L → Nat} {D : va_G} {cy : Nat → ClassId} (hJ : za_J g)  {x1 : Int32} {x2 : Int32} {x3 : Int32} {M : za_M} {K : Int32 → za_M → Prop} (h : f_X9_put x1 x2 x3 M K) : za_Mi l g D cy yX9_put cX9_put 4 (some .int) 3 107 [.ref (g (0, 0, 0)), .int x1, .int x2, .int x3] M K := za_openi hJ (by decide) (Nat.le_of_ble_eq_true rfl) (fun p e s m args below meth c C hr hk => p_X9_put hJ C hr hk  h)
/-! X9_move -/
def f_X9_move (x1 : Int32) (x2 : Int32) (x3 : Int32) (x4 : Int32) (x5 : Int32) (M : za_M) (K : Int32 → za_M → Prop) : Prop :=
  f_X9_isSheet x1 M (fun r2 M1 => if r2 = 0 then (f_X9_fail 1 M1 (fun r5 M4 => K r5 M4)) else (f_X9_isSheet x3 M1 (fun r7 M6 => if r7 = 0 then (f_X9_fail 1 M6 (fun r38 M37 => K r38 M37)) else (vp_in x1 4 ∧ (vp_in x3 4 ∧ (f_X6_isMissing x1.toNatClampNeg M6 (fun r12 M11 => if r12 = 0 then (f_X6_isMissing x3.toNatClampNeg M11 (fun r17 M16 => if r17 = 0 then (if (M16.1 (9, 0, x1.toNatClampNeg) 1) = (M16.1 (9, 0, x3.toNatClampNeg) 1) then (f_X6_holds x1.toNatClampNeg x2 x5 M16 (fun r21 M20 => if r21 = 0 then (f_X9_fail 1 M20 (fun r24 M23 => K r24 M23)) else (f_X6_holds x3.toNatClampNeg x4 x5 M20 (fun r26 M25 => if r26 = 0 then (f_X9_fail 1 M25 (fun r32 M31 => K r32 M31)) else (za_cok x2 x4 x5 40 40 ∧ (za_let (za_uf M25 (23, 0, x3.toNatClampNeg) (va_cpy (M25.1 (23, 0, x1.toNatClampNeg)) (M25.1 (23, 0, x3.toNatClampNeg)) (Int32.toNatClampNeg x2) (Int32.toNatClampNeg x4) (Int32.toNatClampNeg x5))) fun M29 => K x5 M29)))))) else (f_X9_fail 5 M16 (fun r34 M33 => K r34 M33))) else (f_X9_fail 2 M16 (fun r36 M35 => K r36 M35)))) else (f_X9_fail 2 M11 (fun r15 M14 => K r15 M14)))))))))
section
variable {p : Program} {l : Launch} {e : Env} {s : State} {m : MethodId} {args : Array Value} {below : List Frame} {meth : Method} {c : Code} {g : za_L → Nat} {D : va_G} {cy : Nat → ClassId} {K : Int32 → za_M → Prop}
set_option maxRecDepth 100000 in
set_option maxHeartbeats 4000000 in
theorem p_X9_move (hJ : za_J g) (C : za_C p s m args c cX9_move 8 RX9 g D cy) (hr : meth.sig.returnType = (some .int)) (hk : meth.locks = false) {x1 : Int32} {x2 : Int32} {x3 : Int32} {x4 : Int32} {x5 : Int32} {M : za_M} (h : f_X9_move x1 x2 x3 x4 x5 M K) : zt p l e (za_rm 3 107) s m args below meth c 0 0 (MQ below (za_Qi g D cy K) args s 0 0 (za_A g)) g D cy 8 M 0 [(0, .ref (g (0, 0, 0))), (1, .int x1), (2, .int x2), (3, .int x3), (4, .int x4), (5, .int x5)] [] := by
  unfold f_X9_move at h
  refine zt_iload_n C 1 dX9_move_0 rfl rfl ?_
  refine zt_cSi C [.int x1] (m_X9_isSheet hJ  h) py_X9_isSheet ps_X9_258 (Nat.le_of_ble_eq_true rfl) ⟨Nat.le_of_ble_eq_true rfl, Nat.le_of_ble_eq_true rfl⟩ ⟨Nat.zero_le _, Nat.zero_le _⟩ dX9_move_1 rfl (fun r2 M1 h => ?_)
  refine zt_if_eq C 14 dX9_move_4 (by decide) (fun q3 => ?_) (fun q3 => ?_)
  · replace h := za_ifp h q3
    refine zt_aload_n C 0 dX9_move_14 rfl rfl ?_
    refine zt_iconst C (v := 1) dX9_move_15 zk_i1 ?_
    refine zt_cVi C [.int 1] (m_X9_fail hJ  h) (za_mem (j := 0) rfl (by decide) (by decide)) (za_E_0 g cy M1 0 0) rfl py_X9_fail pv_X9_64 (Nat.le_of_ble_eq_true rfl) ⟨Nat.le_of_ble_eq_true rfl, Nat.le_of_ble_eq_true rfl⟩ ⟨Nat.zero_le _, Nat.zero_le _⟩ dX9_move_16 rfl (fun r5 M4 h => ?_)
    exact zt_ret C hr hk rfl dX9_move_19 h
  · replace h := za_ifn h q3
    refine zt_iload_n C 3 dX9_move_7 rfl rfl ?_
    refine zt_cSi C [.int x3] (m_X9_isSheet hJ  h) py_X9_isSheet ps_X9_258 (Nat.le_of_ble_eq_true rfl) ⟨Nat.le_of_ble_eq_true rfl, Nat.le_of_ble_eq_true rfl⟩ ⟨Nat.zero_le _, Nat.zero_le _⟩ dX9_move_8 rfl (fun r7 M6 h => ?_)
    refine zt_if_ne C 20 dX9_move_11 (by decide) (fun q8 => ?_) (fun q8 => ?_)
    · replace h := za_ifn h q8
      refine zt_aload_n C 0 dX9_move_20 rfl rfl ?_
      refine zt_get C (za_mem (j := 0) rfl (by decide) (by decide)) pf_X9_42 (za_E_0 g cy M6 0 0) rfl dX9_move_21 ?_
      refine zt_iload_n C 1 dX9_move_24 rfl rfl ?_
      obtain ⟨g9, h⟩ := h
      refine zt_aald C (za_mem (j := 22) rfl (by decide) (by decide)) (za_E_22 g cy M6 0 0) rfl g9 dX9_move_25 ?_
      refine zt_astore C [(6, .ref (g (9, 0, x1.toNatClampNeg))), (0, .ref (g (0, 0, 0))), (1, .int x1), (2, .int x2), (3, .int x3), (4, .int x4), (5, .int x5)] dX9_move_26 (by decide) rfl ?_
      refine zt_aload_n C 1 dX9_move_28 rfl rfl ?_
      refine zt_get C (za_mem (j := 0) rfl (by decide) (by decide)) pf_X9_42 (za_E_0 g cy M6 0 0) rfl dX9_move_29 ?_
      refine zt_iload_n C 4 dX9_move_32 rfl rfl ?_
      obtain ⟨g10, h⟩ := h
      refine zt_aald C (za_mem (j := 22) rfl (by decide) (by decide)) (za_E_22 g cy M6 0 0) rfl g10 dX9_move_33 ?_
      refine zt_astore C [(7, .ref (g (9, 0, x3.toNatClampNeg))), (6, .ref (g (9, 0, x1.toNatClampNeg))), (0, .ref (g (0, 0, 0))), (1, .int x1), (2, .int x2), (3, .int x3), (4, .int x4), (5, .int x5)] dX9_move_34 (by decide) rfl ?_
      refine zt_aload C 1 dX9_move_36 rfl ?_
      refine zt_cVi C [] (m_X6_isMissing hJ (za_lt g9) h) (za_mem (j := 9) rfl (by decide) (za_lt g9)) (za_E_9 g cy M6 0 x1.toNatClampNeg) rfl py_X6_isMissing pv_X9_261 (Nat.le_of_ble_eq_true rfl) ⟨Nat.le_of_ble_eq_true rfl, Nat.le_of_ble_eq_true rfl⟩ ⟨Nat.zero_le _, Nat.zero_le _⟩ dX9_move_38 rfl (fun r12 M11 h => ?_)
      refine zt_if_ne C 52 dX9_move_41 (by decide) (fun q13 => ?_) (fun q13 => ?_)
      · replace h := za_ifn h q13
        refine zt_aload_n C 2 dX9_move_52 rfl rfl ?_
        refine zt_iconst C (v := 2) dX9_move_53 zk_i2 ?_
        refine zt_cVi C [.int 2] (m_X9_fail hJ  h) (za_mem (j := 0) rfl (by decide) (by decide)) (za_E_0 g cy M11 0 0) rfl py_X9_fail pv_X9_64 (Nat.le_of_ble_eq_true rfl) ⟨Nat.le_of_ble_eq_true rfl, Nat.le_of_ble_eq_true rfl⟩ ⟨Nat.zero_le _, Nat.zero_le _⟩ dX9_move_54 rfl (fun r15 M14 h => ?_)
        exact zt_ret C hr hk rfl dX9_move_57 h
      · replace h := za_ifp h q13
        refine zt_aload C 0 dX9_move_44 rfl ?_
        refine zt_cVi C [] (m_X6_isMissing hJ (za_lt g10) h) (za_mem (j := 9) rfl (by decide) (za_lt g10)) (za_E_9 g cy M11 0 x3.toNatClampNeg) rfl py_X6_isMissing pv_X9_261 (Nat.le_of_ble_eq_true rfl) ⟨Nat.le_of_ble_eq_true rfl, Nat.le_of_ble_eq_true rfl⟩ ⟨Nat.zero_le _, Nat.zero_le _⟩ dX9_move_46 rfl (fun r17 M16 h => ?_)
        refine zt_if_eq C 58 dX9_move_49 (by decide) (fun q18 => ?_) (fun q18 => ?_)
        · replace h := za_ifp h q18
          refine zt_aload C 1 dX9_move_58 rfl ?_
          refine zt_get C (za_mem (j := 9) rfl (by decide) (za_lt g9)) pf_X9_309 (za_E_9 g cy M16 0 x1.toNatClampNeg) rfl dX9_move_60 ?_
          refine zt_aload C 0 dX9_move_63 rfl ?_
          refine zt_get C (za_mem (j := 9) rfl (by decide) (za_lt g10)) pf_X9_309 (za_E_9 g cy M16 0 x3.toNatClampNeg) rfl dX9_move_65 ?_
          refine zt_icmp_eq C 77 dX9_move_68 (by decide) (fun q19 => ?_) (fun q19 => ?_)
          · replace h := za_ifp h q19
            refine zt_aload C 1 dX9_move_77 rfl ?_
            refine zt_iload_n C 4 dX9_move_79 rfl rfl ?_
            refine zt_iload C 7 dX9_move_80 rfl ?_
            refine zt_cVi C [.int x2, .int x5] (m_X6_holds hJ (za_lt g9) h) (za_mem (j := 9) rfl (by decide) (za_lt g9)) (za_E_9 g cy M16 0 x1.toNatClampNeg) rfl py_X6_holds pv_X9_312 (Nat.le_of_ble_eq_true rfl) ⟨Nat.le_of_ble_eq_true rfl, Nat.le_of_ble_eq_true rfl⟩ ⟨Nat.zero_le _, Nat.zero_le _⟩ dX9_move_82 rfl (fun r21 M20 h => ?_)
            refine zt_if_eq C 100 dX9_move_85 (by decide) (fun q22 => ?_) (fun q22 => ?_)
            · replace h := za_ifp h q22
              refine zt_aload_n C 2 dX9_move_100 rfl rfl ?_
              refine zt_iconst C (v := 1) dX9_move_101 zk_i1 ?_
              refine zt_cVi C [.int 1] (m_X9_fail hJ  h) (za_mem (j := 0) rfl (by decide) (by decide)) (za_E_0 g cy M20 0 0) rfl py_X9_fail pv_X9_64 (Nat.le_of_ble_eq_true rfl) ⟨Nat.le_of_ble_eq_true rfl, Nat.le_of_ble_eq_true rfl⟩ ⟨Nat.zero_le _, Nat.zero_le _⟩ dX9_move_102 rfl (fun r24 M23 h => ?_)
              exact zt_ret C hr hk rfl dX9_move_105 h
            · replace h := za_ifn h q22
              refine zt_aload C 0 dX9_move_88 rfl ?_
              refine zt_iload C 6 dX9_move_90 rfl ?_
              refine zt_iload C 7 dX9_move_92 rfl ?_
              refine zt_cVi C [.int x4, .int x5] (m_X6_holds hJ (za_lt g10) h) (za_mem (j := 9) rfl (by decide) (za_lt g10)) (za_E_9 g cy M20 0 x3.toNatClampNeg) rfl py_X6_holds pv_X9_312 (Nat.le_of_ble_eq_true rfl) ⟨Nat.le_of_ble_eq_true rfl, Nat.le_of_ble_eq_true rfl⟩ ⟨Nat.zero_le _, Nat.zero_le _⟩ dX9_move_94 rfl (fun r26 M25 h => ?_)
              refine zt_if_ne C 106 dX9_move_97 (by decide) (fun q27 => ?_) (fun q27 => ?_)
              · replace h := za_ifn h q27
                refine zt_aload C 1 dX9_move_106 rfl ?_
                refine zt_get C (za_mem (j := 9) rfl (by decide) (za_lt g9)) pf_X9_315 (za_E_9 g cy M25 0 x1.toNatClampNeg) rfl dX9_move_108 ?_
                refine zt_iload_n C 4 dX9_move_111 rfl rfl ?_
                refine zt_aload C 0 dX9_move_112 rfl ?_
                refine zt_get C (za_mem (j := 9) rfl (by decide) (za_lt g10)) pf_X9_315 (za_E_9 g cy M25 0 x3.toNatClampNeg) rfl dX9_move_114 ?_
                refine zt_iload C 6 dX9_move_117 rfl ?_
                refine zt_iload C 7 dX9_move_119 rfl ?_
                obtain ⟨g28, h⟩ := h
                refine zt_copy C (za_mem (j := 23) rfl (by decide) (za_lt g9)) (za_mem (j := 23) rfl (by decide) (za_lt g10)) (fun W9 => za_E_23 g cy W9 0 x1.toNatClampNeg) (fun W9 => za_E_23 g cy W9 0 x3.toNatClampNeg) g28 w_837 w_485 w_484 w_86 (Nat.le_of_ble_eq_true rfl) (Nat.le_of_ble_eq_true rfl) dX9_move_121 ?_
                refine zt_topM (fun M29 e30 => ?_)
                replace h := za_use h e30
                refine zt_iload C 7 dX9_move_124 rfl ?_
                exact zt_ret C hr hk rfl dX9_move_126 h
              · replace h := za_ifp h q27
                refine zt_aload_n C 2 dX9_move_100 rfl rfl ?_
                refine zt_iconst C (v := 1) dX9_move_101 zk_i1 ?_
                refine zt_cVi C [.int 1] (m_X9_fail hJ  h) (za_mem (j := 0) rfl (by decide) (by decide)) (za_E_0 g cy M25 0 0) rfl py_X9_fail pv_X9_64 (Nat.le_of_ble_eq_true rfl) ⟨Nat.le_of_ble_eq_true rfl, Nat.le_of_ble_eq_true rfl⟩ ⟨Nat.zero_le _, Nat.zero_le _⟩ dX9_move_102 rfl (fun r32 M31 h => ?_)
                exact zt_ret C hr hk rfl dX9_move_105 h
          · replace h := za_ifn h q19
            refine zt_aload_n C 2 dX9_move_71 rfl rfl ?_
            refine zt_iconst C (v := 5) dX9_move_72 zk_i5 ?_
            refine zt_cVi C [.int 5] (m_X9_fail hJ  h) (za_mem (j := 0) rfl (by decide) (by decide)) (za_E_0 g cy M16 0 0) rfl py_X9_fail pv_X9_64 (Nat.le_of_ble_eq_true rfl) ⟨Nat.le_of_ble_eq_true rfl, Nat.le_of_ble_eq_true rfl⟩ ⟨Nat.zero_le _, Nat.zero_le _⟩ dX9_move_73 rfl (fun r34 M33 h => ?_)
            exact zt_ret C hr hk rfl dX9_move_76 h
        · replace h := za_ifn h q18
          refine zt_aload_n C 2 dX9_move_52 rfl rfl ?_
          refine zt_iconst C (v := 2) dX9_move_53 zk_i2 ?_
          refine zt_cVi C [.int 2] (m_X9_fail hJ  h) (za_mem (j := 0) rfl (by decide) (by decide)) (za_E_0 g cy M16 0 0) rfl py_X9_fail pv_X9_64 (Nat.le_of_ble_eq_true rfl) ⟨Nat.le_of_ble_eq_true rfl, Nat.le_of_ble_eq_true rfl⟩ ⟨Nat.zero_le _, Nat.zero_le _⟩ dX9_move_54 rfl (fun r36 M35 h => ?_)
          exact zt_ret C hr hk rfl dX9_move_57 h
    · replace h := za_ifp h q8
      refine zt_aload_n C 0 dX9_move_14 rfl rfl ?_
      refine zt_iconst C (v := 1) dX9_move_15 zk_i1 ?_
      refine zt_cVi C [.int 1] (m_X9_fail hJ  h) (za_mem (j := 0) rfl (by decide) (by decide)) (za_E_0 g cy M6 0 0) rfl py_X9_fail pv_X9_64 (Nat.le_of_ble_eq_true rfl) ⟨Nat.le_of_ble_eq_true rfl, Nat.le_of_ble_eq_true rfl⟩ ⟨Nat.zero_le _, Nat.zero_le _⟩ dX9_move_16 rfl (fun r38 M37 h => ?_)
      exact zt_ret C hr hk rfl dX9_move_19 h
end
theorem m_X9_move {l : Launch} {g : za_L → Nat} {D : va_G} {cy : Nat → ClassId} (hJ : za_J g)  {x1 : Int32} {x2 : Int32} {x3 : Int32} {x4 : Int32} {x5 : Int32} {M : za_M} {K : Int32 → za_M → Prop} (h : f_X9_move x1 x2 x3 x4 x5 M K) : za_Mi l g D cy yX9_move cX9_move 8 (some .int) 3 107 [.ref (g (0, 0, 0)), .int x1, .int x2, .int x3, .int x4, .int x5] M K := za_openi hJ (by decide) (Nat.le_of_ble_eq_true rfl) (fun p e s m args below meth c C hr hk => p_X9_move hJ C hr hk  h)
/-! X9_hedges -/
def f_X9_hedges_b54 (K : Int32 → za_M → Prop) (i2 : Nat) (x3 : Int32) (L54 : Int32 → za_M → Prop) (x4 : Int32) (M : za_M) : Prop :=
  if x3 ≤ x4 then (K x3 M) else (vp_in x4 40 ∧ (f_X9_within (M.1 (23, 0, i2) x4.toNatClampNeg) 0 9 M (fun r4 M3 => if r4 = 0 then (K x4 M3) else (vp_in x4 5 ∧ (vp_in x4 40 ∧ (za_let (M3.1 (23, 0, i2) x4.toNatClampNeg) fun y8 => za_let (za_up M3 (3, 0, x4.toNatClampNeg) 2 y8) fun M10 => L54 (x4 + 1) M10))))))
def f_X9_hedges (x1 : Int32) (M : za_M) (K : Int32 → za_M → Prop) : Prop :=
  f_X9_isSheet x1 M (fun r13 M12 => if r13 = 0 then (f_X9_fail 1 M12 (fun r24 M23 => K r24 M23)) else (vp_in x1 4 ∧ (f_X6_isMissing x1.toNatClampNeg M12 (fun r17 M16 => if r17 = 0 then (za_let (za_min (M16.1 (9, 0, x1.toNatClampNeg) 2) (M16.1 (2, 0, 0) 3)) fun y19 => ∃ n, za_lp1 (f_X9_hedges_b54 K x1.toNatClampNeg y19) n 0 M16) else (f_X9_fail 2 M16 (fun r22 M21 => K r22 M21))))))
section
variable {p : Program} {l : Launch} {e : Env} {s : State} {m : MethodId} {args : Array Value} {below : List Frame} {meth : Method} {c : Code} {g : za_L → Nat} {D : va_G} {cy : Nat → ClassId} {K : Int32 → za_M → Prop}
set_option maxRecDepth 100000 in
set_option maxHeartbeats 4000000 in
theorem p_X9_hedges_b54 (hJ : za_J g) (C : za_C p s m args c cX9_hedges 5 RX9 g D cy) (hr : meth.sig.returnType = (some .int)) (hk : meth.locks = false) {i2 : Nat} (hi2 : i2 < 4) {x3 : Int32} {L54 : Int32 → za_M → Prop} (hL54 : ∀ (x4 : Int32) (M : za_M), L54 x4 M → zt p l e (za_rm 3 107) s m args below meth c 0 0 (MQ below (za_Qi g D cy K) args s 0 0 (za_A g)) g D cy 5 M 54 [(0, .ref (g (0, 0, 0))), (2, .ref (g (9, 0, i2))), (3, .int x3), (4, .int x4)] []) : ∀ (x4 : Int32) (M : za_M), f_X9_hedges_b54 K i2 x3 L54 x4 M → zt p l e (za_rm 3 107) s m args below meth c 0 0 (MQ below (za_Qi g D cy K) args s 0 0 (za_A g)) g D cy 5 M 54 [(0, .ref (g (0, 0, 0))), (2, .ref (g (9, 0, i2))), (3, .int x3), (4, .int x4)] [] := by
  intro x4 M h
  unfold f_X9_hedges_b54 at h
  refine zt_iload C 3 dX9_hedges_54 rfl ?_
  refine zt_iload_n C 2 dX9_hedges_56 rfl rfl ?_
  refine zt_icmp_ge C 108 dX9_hedges_57 (by decide) (fun q1 => ?_) (fun q1 => ?_)
  · replace h := za_ifp h q1
    refine zt_iload_n C 2 dX9_hedges_108 rfl rfl ?_
    exact zt_ret C hr hk rfl dX9_hedges_109 h
  · replace h := za_ifn h q1
    refine zt_aload_n C 1 dX9_hedges_60 rfl rfl ?_
    refine zt_get C (za_mem (j := 9) rfl (by decide) hi2) pf_X9_315 (za_E_9 g cy M 0 i2) rfl dX9_hedges_61 ?_
    refine zt_iload C 3 dX9_hedges_64 rfl ?_
    obtain ⟨g2, h⟩ := h
    refine zt_iald C (za_mem (j := 23) rfl (by decide) hi2) (fun W9 => za_E_23 g cy W9 0 i2) g2 dX9_hedges_66 ?_
    refine zt_iconst C (v := 0) dX9_hedges_67 zk_i0 ?_
    refine zt_bipush C (v := 9) dX9_hedges_68 zk_b9 ?_
    refine zt_cSi C [.int (M.1 (23, 0, i2) x4.toNatClampNeg), .int 0, .int 9] (m_X9_within hJ  h) py_X9_within ps_X9_100 (Nat.le_of_ble_eq_true rfl) ⟨Nat.le_of_ble_eq_true rfl, Nat.le_of_ble_eq_true rfl⟩ ⟨Nat.zero_le _, Nat.zero_le _⟩ dX9_hedges_70 rfl (fun r4 M3 h => ?_)
    refine zt_if_ne C 79 dX9_hedges_73 (by decide) (fun q5 => ?_) (fun q5 => ?_)
    · replace h := za_ifn h q5
      refine zt_aload_n C 0 dX9_hedges_79 rfl rfl ?_
      refine zt_get C (za_mem (j := 0) rfl (by decide) (by decide)) pf_X9_10 (za_E_0 g cy M3 0 0) rfl dX9_hedges_80 ?_
      refine zt_get C (za_mem (j := 1) rfl (by decide) (by decide)) pf_X9_57 (za_E_1 g cy M3 0 0) rfl dX9_hedges_83 ?_
      refine zt_get C (za_mem (j := 2) rfl (by decide) (by decide)) pf_X9_72 (za_E_2 g cy M3 0 0) rfl dX9_hedges_86 ?_
      refine zt_iload C 3 dX9_hedges_89 rfl ?_
      obtain ⟨g6, h⟩ := h
      refine zt_aald C (za_mem (j := 10) rfl (by decide) (by decide)) (za_E_10 g cy M3 0 0) rfl g6 dX9_hedges_91 ?_
      refine zt_aload_n C 1 dX9_hedges_92 rfl rfl ?_
      refine zt_get C (za_mem (j := 9) rfl (by decide) hi2) pf_X9_315 (za_E_9 g cy M3 0 i2) rfl dX9_hedges_93 ?_
      refine zt_iload C 3 dX9_hedges_96 rfl ?_
      obtain ⟨g7, h⟩ := h
      refine zt_iald C (za_mem (j := 23) rfl (by decide) hi2) (fun W9 => za_E_23 g cy W9 0 i2) g7 dX9_hedges_98 ?_
      refine zt_topi (fun y8 e9 => ?_)
      replace h := za_use h e9
      refine zt_put C (za_mem (j := 3) rfl (by decide) (za_lt g6)) pf_X9_91 pt_X0_2 rfl rfl (za_E_3 g cy M3 0 x4.toNatClampNeg) rfl (Nat.le_of_ble_eq_true rfl) dX9_hedges_99 ?_
      refine zt_topM (fun M10 e11 => ?_)
      replace h := za_use h e11
      refine zt_iinc C (v := x4 + 1) 3 [(4, .int (x4 + 1)), (0, .ref (g (0, 0, 0))), (2, .ref (g (9, 0, i2))), (3, .int x3)] dX9_hedges_102 rfl (zk_n1 _) (by decide) rfl ?_
      refine zt_goto C 54 dX9_hedges_105 (by decide) ?_
      refine zt_sub [1, 2, 3, 0] (lv' := [(0, .ref (g (0, 0, 0))), (2, .ref (g (9, 0, i2))), (3, .int x3), (4, .int (x4 + 1))]) rfl ?_
      exact hL54 _ _ h
    · replace h := za_ifp h q5
      refine zt_iload C 3 dX9_hedges_76 rfl ?_
      exact zt_ret C hr hk rfl dX9_hedges_78 h
theorem p_X9_hedges_b54_in (hJ : za_J g) (C : za_C p s m args c cX9_hedges 5 RX9 g D cy) (hr : meth.sig.returnType = (some .int)) (hk : meth.locks = false) {i2 : Nat} (hi2 : i2 < 4) {x3 : Int32} {n : Nat} {x4 : Int32} {M : za_M} (h : za_lp1 (f_X9_hedges_b54 K i2 x3) n x4 M) : zt p l e (za_rm 3 107) s m args below meth c 0 0 (MQ below (za_Qi g D cy K) args s 0 0 (za_A g)) g D cy 5 M 54 [(0, .ref (g (0, 0, 0))), (2, .ref (g (9, 0, i2))), (3, .int x3), (4, .int x4)] [] := za_lp1_run (Z := fun x4 M => zt p l e (za_rm 3 107) s m args below meth c 0 0 (MQ below (za_Qi g D cy K) args s 0 0 (za_A g)) g D cy 5 M 54 [(0, .ref (g (0, 0, 0))), (2, .ref (g (9, 0, i2))), (3, .int x3), (4, .int x4)] []) (fun L hL => p_X9_hedges_b54 hJ C hr hk hi2 hL) n x4 M h
set_option maxRecDepth 100000 in
set_option maxHeartbeats 4000000 in
theorem p_X9_hedges (hJ : za_J g) (C : za_C p s m args c cX9_hedges 5 RX9 g D cy) (hr : meth.sig.returnType = (some .int)) (hk : meth.locks = false) {x1 : Int32} {M : za_M} (h : f_X9_hedges x1 M K) : zt p l e (za_rm 3 107) s m args below meth c 0 0 (MQ below (za_Qi g D cy K) args s 0 0 (za_A g)) g D cy 5 M 0 [(0, .ref (g (0, 0, 0))), (1, .int x1)] [] := by
  unfold f_X9_hedges at h
  refine zt_iload_n C 1 dX9_hedges_0 rfl rfl ?_
  refine zt_cSi C [.int x1] (m_X9_isSheet hJ  h) py_X9_isSheet ps_X9_258 (Nat.le_of_ble_eq_true rfl) ⟨Nat.le_of_ble_eq_true rfl, Nat.le_of_ble_eq_true rfl⟩ ⟨Nat.zero_le _, Nat.zero_le _⟩ dX9_hedges_1 rfl (fun r13 M12 h => ?_)
  refine zt_if_ne C 13 dX9_hedges_4 (by decide) (fun q14 => ?_) (fun q14 => ?_)
  · replace h := za_ifn h q14
    refine zt_aload_n C 0 dX9_hedges_13 rfl rfl ?_
    refine zt_get C (za_mem (j := 0) rfl (by decide) (by decide)) pf_X9_42 (za_E_0 g cy M12 0 0) rfl dX9_hedges_14 ?_
    refine zt_iload_n C 1 dX9_hedges_17 rfl rfl ?_
    obtain ⟨g15, h⟩ := h
    refine zt_aald C (za_mem (j := 22) rfl (by decide) (by decide)) (za_E_22 g cy M12 0 0) rfl g15 dX9_hedges_18 ?_
    refine zt_astore_n C [(2, .ref (g (9, 0, x1.toNatClampNeg))), (0, .ref (g (0, 0, 0))), (1, .int x1)] dX9_hedges_19 rfl (by decide) rfl ?_
    refine zt_aload_n C 0 dX9_hedges_20 rfl rfl ?_
    refine zt_cVi C [] (m_X6_isMissing hJ (za_lt g15) h) (za_mem (j := 9) rfl (by decide) (za_lt g15)) (za_E_9 g cy M12 0 x1.toNatClampNeg) rfl py_X6_isMissing pv_X9_261 (Nat.le_of_ble_eq_true rfl) ⟨Nat.le_of_ble_eq_true rfl, Nat.le_of_ble_eq_true rfl⟩ ⟨Nat.zero_le _, Nat.zero_le _⟩ dX9_hedges_21 rfl (fun r17 M16 h => ?_)
    refine zt_if_eq C 33 dX9_hedges_24 (by decide) (fun q18 => ?_) (fun q18 => ?_)
    · replace h := za_ifp h q18
      refine zt_aload_n C 0 dX9_hedges_33 rfl rfl ?_
      refine zt_get C (za_mem (j := 9) rfl (by decide) (za_lt g15)) pf_X9_265 (za_E_9 g cy M16 0 x1.toNatClampNeg) rfl dX9_hedges_34 ?_
      refine zt_aload_n C 1 dX9_hedges_37 rfl rfl ?_
      refine zt_get C (za_mem (j := 0) rfl (by decide) (by decide)) pf_X9_10 (za_E_0 g cy M16 0 0) rfl dX9_hedges_38 ?_
      refine zt_get C (za_mem (j := 1) rfl (by decide) (by decide)) pf_X9_57 (za_E_1 g cy M16 0 0) rfl dX9_hedges_41 ?_
      refine zt_get C (za_mem (j := 2) rfl (by decide) (by decide)) pf_X9_68 (za_E_2 g cy M16 0 0) rfl dX9_hedges_44 ?_
      refine zt_mmin C w_701 w_702 w_91 w_703 (Nat.le_of_ble_eq_true rfl) (Nat.le_of_ble_eq_true rfl) (Nat.zero_le _) (Nat.zero_le _) dX9_hedges_47 ?_
      refine zt_topi (fun y19 e20 => ?_)
      replace h := za_use h e20
      refine zt_istore_n C [(3, .int y19), (2, .ref (g (9, 0, x1.toNatClampNeg))), (0, .ref (g (0, 0, 0))), (1, .int x1)] dX9_hedges_50 rfl (by decide) rfl ?_
      refine zt_iconst C (v := 0) dX9_hedges_51 zk_i0 ?_
      refine zt_istore C [(4, .int 0), (3, .int y19), (2, .ref (g (9, 0, x1.toNatClampNeg))), (0, .ref (g (0, 0, 0))), (1, .int x1)] dX9_hedges_52 (by decide) rfl ?_
      refine zt_sub [3, 2, 1, 0] (lv' := [(0, .ref (g (0, 0, 0))), (2, .ref (g (9, 0, x1.toNatClampNeg))), (3, .int y19), (4, .int 0)]) rfl ?_
      obtain ⟨n, h⟩ := h
      exact p_X9_hedges_b54_in hJ C hr hk (za_lt g15) h
    · replace h := za_ifn h q18
      refine zt_aload_n C 1 dX9_hedges_27 rfl rfl ?_
      refine zt_iconst C (v := 2) dX9_hedges_28 zk_i2 ?_
      refine zt_cVi C [.int 2] (m_X9_fail hJ  h) (za_mem (j := 0) rfl (by decide) (by decide)) (za_E_0 g cy M16 0 0) rfl py_X9_fail pv_X9_64 (Nat.le_of_ble_eq_true rfl) ⟨Nat.le_of_ble_eq_true rfl, Nat.le_of_ble_eq_true rfl⟩ ⟨Nat.zero_le _, Nat.zero_le _⟩ dX9_hedges_29 rfl (fun r22 M21 h => ?_)
      exact zt_ret C hr hk rfl dX9_hedges_32 h
  · replace h := za_ifp h q14
    refine zt_aload_n C 0 dX9_hedges_7 rfl rfl ?_
    refine zt_iconst C (v := 1) dX9_hedges_8 zk_i1 ?_
    refine zt_cVi C [.int 1] (m_X9_fail hJ  h) (za_mem (j := 0) rfl (by decide) (by decide)) (za_E_0 g cy M12 0 0) rfl py_X9_fail pv_X9_64 (Nat.le_of_ble_eq_true rfl) ⟨Nat.le_of_ble_eq_true rfl, Nat.le_of_ble_eq_true rfl⟩ ⟨Nat.zero_le _, Nat.zero_le _⟩ dX9_hedges_9 rfl (fun r24 M23 h => ?_)
    exact zt_ret C hr hk rfl dX9_hedges_12 h
end
theorem m_X9_hedges {l : Launch} {g : za_L → Nat} {D : va_G} {cy : Nat → ClassId} (hJ : za_J g)  {x1 : Int32} {M : za_M} {K : Int32 → za_M → Prop} (h : f_X9_hedges x1 M K) : za_Mi l g D cy yX9_hedges cX9_hedges 5 (some .int) 3 107 [.ref (g (0, 0, 0)), .int x1] M K := za_openi hJ (by decide) (Nat.le_of_ble_eq_true rfl) (fun p e s m args below meth c C hr hk => p_X9_hedges hJ C hr hk  h)
/-! X9_judge -/
def f_X9_judge_b54 (K : Int32 → za_M → Prop) (i2 : Nat) (x3 : Int32) (L54 : Int32 → za_M → Prop) (x4 : Int32) (M : za_M) : Prop :=
  if x3 ≤ x4 then (if (M.1 (9, 0, i2) 2) = (M.1 (2, 0, 0) 5) then (K (-1) M) else (K x3 M)) else (vp_in x4 40 ∧ (vp_in x4 10 ∧ (if (M.1 (23, 0, i2) x4.toNatClampNeg) = (M.1 (5, 0, (M.2 0 x4.toNatClampNeg % 10)) 3) then (L54 (x4 + 1) M) else (K x4 M))))
def f_X9_judge (x1 : Int32) (M : za_M) (K : Int32 → za_M → Prop) : Prop :=
  f_X9_isSheet x1 M (fun r7 M6 => if r7 = 0 then (f_X9_fail 1 M6 (fun r18 M17 => K r18 M17)) else (vp_in x1 4 ∧ (f_X6_isMissing x1.toNatClampNeg M6 (fun r11 M10 => if r11 = 0 then (za_let (za_min (M10.1 (9, 0, x1.toNatClampNeg) 2) (M10.1 (2, 0, 0) 5)) fun y13 => ∃ n, za_lp1 (f_X9_judge_b54 K x1.toNatClampNeg y13) n 0 M10) else (f_X9_fail 2 M10 (fun r16 M15 => K r16 M15))))))
section
variable {p : Program} {l : Launch} {e : Env} {s : State} {m : MethodId} {args : Array Value} {below : List Frame} {meth : Method} {c : Code} {g : za_L → Nat} {D : va_G} {cy : Nat → ClassId} {K : Int32 → za_M → Prop}
set_option maxRecDepth 100000 in
set_option maxHeartbeats 4000000 in
theorem p_X9_judge_b54 (hJ : za_J g) (C : za_C p s m args c cX9_judge 5 RX9 g D cy) (hr : meth.sig.returnType = (some .int)) (hk : meth.locks = false) {i2 : Nat} (hi2 : i2 < 4) {x3 : Int32} {L54 : Int32 → za_M → Prop} (hL54 : ∀ (x4 : Int32) (M : za_M), L54 x4 M → zt p l e (za_rm 3 107) s m args below meth c 0 0 (MQ below (za_Qi g D cy K) args s 0 0 (za_A g)) g D cy 5 M 54 [(0, .ref (g (0, 0, 0))), (2, .ref (g (9, 0, i2))), (3, .int x3), (4, .int x4)] []) : ∀ (x4 : Int32) (M : za_M), f_X9_judge_b54 K i2 x3 L54 x4 M → zt p l e (za_rm 3 107) s m args below meth c 0 0 (MQ below (za_Qi g D cy K) args s 0 0 (za_A g)) g D cy 5 M 54 [(0, .ref (g (0, 0, 0))), (2, .ref (g (9, 0, i2))), (3, .int x3), (4, .int x4)] [] := by
  intro x4 M h
  unfold f_X9_judge_b54 at h
  refine zt_iload C 3 dX9_judge_54 rfl ?_
  refine zt_iload_n C 2 dX9_judge_56 rfl rfl ?_
  refine zt_icmp_ge C 95 dX9_judge_57 (by decide) (fun q1 => ?_) (fun q1 => ?_)
  · replace h := za_ifp h q1
    refine zt_aload_n C 1 dX9_judge_95 rfl rfl ?_
    refine zt_get C (za_mem (j := 9) rfl (by decide) hi2) pf_X9_265 (za_E_9 g cy M 0 i2) rfl dX9_judge_96 ?_
    refine zt_aload_n C 0 dX9_judge_99 rfl rfl ?_
    refine zt_get C (za_mem (j := 0) rfl (by decide) (by decide)) pf_X9_10 (za_E_0 g cy M 0 0) rfl dX9_judge_100 ?_
    refine zt_get C (za_mem (j := 1) rfl (by decide) (by decide)) pf_X9_57 (za_E_1 g cy M 0 0) rfl dX9_judge_103 ?_
    refine zt_get C (za_mem (j := 2) rfl (by decide) (by decide)) pf_X9_177 (za_E_2 g cy M 0 0) rfl dX9_judge_106 ?_
    refine zt_icmp_ne C 116 dX9_judge_109 (by decide) (fun q2 => ?_) (fun q2 => ?_)
    · replace h := za_ifn h q2
      refine zt_iload_n C 2 dX9_judge_116 rfl rfl ?_
      exact zt_ret C hr hk rfl dX9_judge_117 h
    · replace h := za_ifp h q2
      refine zt_iconst C (v := (-1)) dX9_judge_112 zk_im1 ?_
      refine zt_goto C 117 dX9_judge_113 (by decide) ?_
      exact zt_ret C hr hk rfl dX9_judge_117 h
  · replace h := za_ifn h q1
    refine zt_aload_n C 1 dX9_judge_60 rfl rfl ?_
    refine zt_get C (za_mem (j := 9) rfl (by decide) hi2) pf_X9_315 (za_E_9 g cy M 0 i2) rfl dX9_judge_61 ?_
    refine zt_iload C 3 dX9_judge_64 rfl ?_
    obtain ⟨g3, h⟩ := h
    refine zt_iald C (za_mem (j := 23) rfl (by decide) hi2) (fun W9 => za_E_23 g cy W9 0 i2) g3 dX9_judge_66 ?_
    refine zt_aload_n C 0 dX9_judge_67 rfl rfl ?_
    refine zt_get C (za_mem (j := 0) rfl (by decide) (by decide)) pf_X9_10 (za_E_0 g cy M 0 0) rfl dX9_judge_68 ?_
    refine zt_get C (za_mem (j := 1) rfl (by decide) (by decide)) pf_X9_57 (za_E_1 g cy M 0 0) rfl dX9_judge_71 ?_
    refine zt_get C (za_mem (j := 2) rfl (by decide) (by decide)) pf_X9_187 (za_E_2 g cy M 0 0) rfl dX9_judge_74 ?_
    refine zt_iload C 3 dX9_judge_77 rfl ?_
    obtain ⟨g4, h⟩ := h
    refine zt_aald C (za_mem (j := 12) rfl (by decide) (by decide)) (za_E_12 g cy M 0 0) rfl g4 dX9_judge_79 ?_
    refine zt_get C (za_mem (j := 5) rfl (by decide) (Nat.mod_lt _ (by decide))) pf_X9_202 (za_E_5 g cy M 0 (M.2 0 x4.toNatClampNeg % 10)) rfl dX9_judge_80 ?_
    refine zt_icmp_eq C 89 dX9_judge_83 (by decide) (fun q5 => ?_) (fun q5 => ?_)
    · replace h := za_ifp h q5
      refine zt_iinc C (v := x4 + 1) 3 [(4, .int (x4 + 1)), (0, .ref (g (0, 0, 0))), (2, .ref (g (9, 0, i2))), (3, .int x3)] dX9_judge_89 rfl (zk_n1 _) (by decide) rfl ?_
      refine zt_goto C 54 dX9_judge_92 (by decide) ?_
      refine zt_sub [1, 2, 3, 0] (lv' := [(0, .ref (g (0, 0, 0))), (2, .ref (g (9, 0, i2))), (3, .int x3), (4, .int (x4 + 1))]) rfl ?_
      exact hL54 _ _ h
    · replace h := za_ifn h q5
      refine zt_iload C 3 dX9_judge_86 rfl ?_
      exact zt_ret C hr hk rfl dX9_judge_88 h
theorem p_X9_judge_b54_in (hJ : za_J g) (C : za_C p s m args c cX9_judge 5 RX9 g D cy) (hr : meth.sig.returnType = (some .int)) (hk : meth.locks = false) {i2 : Nat} (hi2 : i2 < 4) {x3 : Int32} {n : Nat} {x4 : Int32} {M : za_M} (h : za_lp1 (f_X9_judge_b54 K i2 x3) n x4 M) : zt p l e (za_rm 3 107) s m args below meth c 0 0 (MQ below (za_Qi g D cy K) args s 0 0 (za_A g)) g D cy 5 M 54 [(0, .ref (g (0, 0, 0))), (2, .ref (g (9, 0, i2))), (3, .int x3), (4, .int x4)] [] := za_lp1_run (Z := fun x4 M => zt p l e (za_rm 3 107) s m args below meth c 0 0 (MQ below (za_Qi g D cy K) args s 0 0 (za_A g)) g D cy 5 M 54 [(0, .ref (g (0, 0, 0))), (2, .ref (g (9, 0, i2))), (3, .int x3), (4, .int x4)] []) (fun L hL => p_X9_judge_b54 hJ C hr hk hi2 hL) n x4 M h
set_option maxRecDepth 100000 in
set_option maxHeartbeats 4000000 in
theorem p_X9_judge (hJ : za_J g) (C : za_C p s m args c cX9_judge 5 RX9 g D cy) (hr : meth.sig.returnType = (some .int)) (hk : meth.locks = false) {x1 : Int32} {M : za_M} (h : f_X9_judge x1 M K) : zt p l e (za_rm 3 107) s m args below meth c 0 0 (MQ below (za_Qi g D cy K) args s 0 0 (za_A g)) g D cy 5 M 0 [(0, .ref (g (0, 0, 0))), (1, .int x1)] [] := by
  unfold f_X9_judge at h
  refine zt_iload_n C 1 dX9_judge_0 rfl rfl ?_
  refine zt_cSi C [.int x1] (m_X9_isSheet hJ  h) py_X9_isSheet ps_X9_258 (Nat.le_of_ble_eq_true rfl) ⟨Nat.le_of_ble_eq_true rfl, Nat.le_of_ble_eq_true rfl⟩ ⟨Nat.zero_le _, Nat.zero_le _⟩ dX9_judge_1 rfl (fun r7 M6 h => ?_)
  refine zt_if_ne C 13 dX9_judge_4 (by decide) (fun q8 => ?_) (fun q8 => ?_)
  · replace h := za_ifn h q8
    refine zt_aload_n C 0 dX9_judge_13 rfl rfl ?_
    refine zt_get C (za_mem (j := 0) rfl (by decide) (by decide)) pf_X9_42 (za_E_0 g cy M6 0 0) rfl dX9_judge_14 ?_
    refine zt_iload_n C 1 dX9_judge_17 rfl rfl ?_
    obtain ⟨g9, h⟩ := h
    refine zt_aald C (za_mem (j := 22) rfl (by decide) (by decide)) (za_E_22 g cy M6 0 0) rfl g9 dX9_judge_18 ?_
    refine zt_astore_n C [(2, .ref (g (9, 0, x1.toNatClampNeg))), (0, .ref (g (0, 0, 0))), (1, .int x1)] dX9_judge_19 rfl (by decide) rfl ?_
    refine zt_aload_n C 0 dX9_judge_20 rfl rfl ?_
    refine zt_cVi C [] (m_X6_isMissing hJ (za_lt g9) h) (za_mem (j := 9) rfl (by decide) (za_lt g9)) (za_E_9 g cy M6 0 x1.toNatClampNeg) rfl py_X6_isMissing pv_X9_261 (Nat.le_of_ble_eq_true rfl) ⟨Nat.le_of_ble_eq_true rfl, Nat.le_of_ble_eq_true rfl⟩ ⟨Nat.zero_le _, Nat.zero_le _⟩ dX9_judge_21 rfl (fun r11 M10 h => ?_)
    refine zt_if_eq C 33 dX9_judge_24 (by decide) (fun q12 => ?_) (fun q12 => ?_)
    · replace h := za_ifp h q12
      refine zt_aload_n C 0 dX9_judge_33 rfl rfl ?_
      refine zt_get C (za_mem (j := 9) rfl (by decide) (za_lt g9)) pf_X9_265 (za_E_9 g cy M10 0 x1.toNatClampNeg) rfl dX9_judge_34 ?_
      refine zt_aload_n C 1 dX9_judge_37 rfl rfl ?_
      refine zt_get C (za_mem (j := 0) rfl (by decide) (by decide)) pf_X9_10 (za_E_0 g cy M10 0 0) rfl dX9_judge_38 ?_
      refine zt_get C (za_mem (j := 1) rfl (by decide) (by decide)) pf_X9_57 (za_E_1 g cy M10 0 0) rfl dX9_judge_41 ?_
      refine zt_get C (za_mem (j := 2) rfl (by decide) (by decide)) pf_X9_177 (za_E_2 g cy M10 0 0) rfl dX9_judge_44 ?_
      refine zt_mmin C w_701 w_702 w_91 w_703 (Nat.le_of_ble_eq_true rfl) (Nat.le_of_ble_eq_true rfl) (Nat.zero_le _) (Nat.zero_le _) dX9_judge_47 ?_
      refine zt_topi (fun y13 e14 => ?_)
      replace h := za_use h e14
      refine zt_istore_n C [(3, .int y13), (2, .ref (g (9, 0, x1.toNatClampNeg))), (0, .ref (g (0, 0, 0))), (1, .int x1)] dX9_judge_50 rfl (by decide) rfl ?_
      refine zt_iconst C (v := 0) dX9_judge_51 zk_i0 ?_
      refine zt_istore C [(4, .int 0), (3, .int y13), (2, .ref (g (9, 0, x1.toNatClampNeg))), (0, .ref (g (0, 0, 0))), (1, .int x1)] dX9_judge_52 (by decide) rfl ?_
      refine zt_sub [3, 2, 1, 0] (lv' := [(0, .ref (g (0, 0, 0))), (2, .ref (g (9, 0, x1.toNatClampNeg))), (3, .int y13), (4, .int 0)]) rfl ?_
      obtain ⟨n, h⟩ := h
      exact p_X9_judge_b54_in hJ C hr hk (za_lt g9) h
    · replace h := za_ifn h q12
      refine zt_aload_n C 1 dX9_judge_27 rfl rfl ?_
      refine zt_iconst C (v := 2) dX9_judge_28 zk_i2 ?_
      refine zt_cVi C [.int 2] (m_X9_fail hJ  h) (za_mem (j := 0) rfl (by decide) (by decide)) (za_E_0 g cy M10 0 0) rfl py_X9_fail pv_X9_64 (Nat.le_of_ble_eq_true rfl) ⟨Nat.le_of_ble_eq_true rfl, Nat.le_of_ble_eq_true rfl⟩ ⟨Nat.zero_le _, Nat.zero_le _⟩ dX9_judge_29 rfl (fun r16 M15 h => ?_)
      exact zt_ret C hr hk rfl dX9_judge_32 h
  · replace h := za_ifp h q8
    refine zt_aload_n C 0 dX9_judge_7 rfl rfl ?_
    refine zt_iconst C (v := 1) dX9_judge_8 zk_i1 ?_
    refine zt_cVi C [.int 1] (m_X9_fail hJ  h) (za_mem (j := 0) rfl (by decide) (by decide)) (za_E_0 g cy M6 0 0) rfl py_X9_fail pv_X9_64 (Nat.le_of_ble_eq_true rfl) ⟨Nat.le_of_ble_eq_true rfl, Nat.le_of_ble_eq_true rfl⟩ ⟨Nat.zero_le _, Nat.zero_le _⟩ dX9_judge_9 rfl (fun r18 M17 h => ?_)
    exact zt_ret C hr hk rfl dX9_judge_12 h
end
theorem m_X9_judge {l : Launch} {g : za_L → Nat} {D : va_G} {cy : Nat → ClassId} (hJ : za_J g)  {x1 : Int32} {M : za_M} {K : Int32 → za_M → Prop} (h : f_X9_judge x1 M K) : za_Mi l g D cy yX9_judge cX9_judge 5 (some .int) 3 107 [.ref (g (0, 0, 0)), .int x1] M K := za_openi hJ (by decide) (Nat.le_of_ble_eq_true rfl) (fun p e s m args below meth c C hr hk => p_X9_judge hJ C hr hk  h)

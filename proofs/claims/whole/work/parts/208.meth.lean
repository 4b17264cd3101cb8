/-! X9_ash -/
def f_X9_ash (x1 : Int32) (M : za_M) (K : Int32 → za_M → Prop) : Prop :=
  f_X9_isKindAndNumber x1 M (fun r2 M1 => if r2 = 0 then (f_X9_fail 1 M1 (fun r15 M14 => K r15 M14)) else (if (M1.1 (2, 0, 0) 3) < 5 then (vp_in (M1.1 (2, 0, 0) 3) 5 ∧ (f_X0_begin 0 ((M1.1 (2, 0, 0) 3).toNatClampNeg) x1 M1 (fun M6 => za_let ((M6.1 (2, 0, 0) 3) + 1) fun y8 => za_let (za_up M6 (2, 0, 0) 3 y8) fun M10 => K ((M10.1 (2, 0, 0) 3) - 1) M10))) else (f_X9_fail 4 M1 (fun r13 M12 => K r13 M12))))
section
variable {p : Program} {l : Launch} {e : Env} {s : State} {m : MethodId} {args : Array Value} {below : List Frame} {meth : Method} {c : Code} {g : za_L → Nat} {D : va_G} {cy : Nat → ClassId} {K : Int32 → za_M → Prop}
set_option maxRecDepth 100000 in
set_option maxHeartbeats 4000000 in
theorem p_X9_ash (hJ : za_J g) (C : za_C p s m args c cX9_ash 3 RX9 g D cy) (hr : meth.sig.returnType = (some .int)) (hk : meth.locks = false) {x1 : Int32} {M : za_M} (h : f_X9_ash x1 M K) : zt p l e (za_rm 3 107) s m args below meth c 0 0 (MQ below (za_Qi g D cy K) args s 0 0 (za_A g)) g D cy 3 M 0 [(0, .ref (g (0, 0, 0))), (1, .int x1)] [] := by
  unfold f_X9_ash at h
  refine zt_aload_n C 0 dX9_ash_0 rfl rfl ?_
  refine zt_get C (za_mem (j := 0) rfl (by decide) (by decide)) pf_X9_10 (za_E_0 g cy M 0 0) rfl dX9_ash_1 ?_
  refine zt_get C (za_mem (j := 1) rfl (by decide) (by decide)) pf_X9_57 (za_E_1 g cy M 0 0) rfl dX9_ash_4 ?_
  refine zt_astore_n C [(2, .ref (g (2, 0, 0))), (0, .ref (g (0, 0, 0))), (1, .int x1)] dX9_ash_7 rfl (by decide) rfl ?_
  refine zt_iload_n C 2 dX9_ash_8 rfl rfl ?_
  refine zt_cSi C [.int x1] (m_X9_isKindAndNumber hJ  h) py_X9_isKindAndNumber ps_X9_60 (Nat.le_of_ble_eq_true rfl) ⟨Nat.le_of_ble_eq_true rfl, Nat.le_of_ble_eq_true rfl⟩ ⟨Nat.zero_le _, Nat.zero_le _⟩ dX9_ash_9 rfl (fun r2 M1 h => ?_)
  refine zt_if_ne C 21 dX9_ash_12 (by decide) (fun q3 => ?_) (fun q3 => ?_)
  · replace h := za_ifn h q3
    refine zt_aload_n C 0 dX9_ash_21 rfl rfl ?_
    refine zt_get C (za_mem (j := 2) rfl (by decide) (by decide)) pf_X9_68 (za_E_2 g cy M1 0 0) rfl dX9_ash_22 ?_
    refine zt_iconst C (v := 5) dX9_ash_25 zk_i5 ?_
    refine zt_icmp_lt C 35 dX9_ash_26 (by decide) (fun q4 => ?_) (fun q4 => ?_)
    · replace h := za_ifp h q4
      refine zt_aload_n C 0 dX9_ash_35 rfl rfl ?_
      refine zt_get C (za_mem (j := 2) rfl (by decide) (by decide)) pf_X9_72 (za_E_2 g cy M1 0 0) rfl dX9_ash_36 ?_
      refine zt_aload_n C 0 dX9_ash_39 rfl rfl ?_
      refine zt_get C (za_mem (j := 2) rfl (by decide) (by decide)) pf_X9_68 (za_E_2 g cy M1 0 0) rfl dX9_ash_40 ?_
      obtain ⟨g5, h⟩ := h
      refine zt_aald C (za_mem (j := 10) rfl (by decide) (by decide)) (za_E_10 g cy M1 0 0) rfl g5 dX9_ash_43 ?_
      refine zt_iload_n C 2 dX9_ash_44 rfl rfl ?_
      refine zt_cVv C [.int x1] (m_X0_begin hJ (by decide) (za_lt g5) h) (za_mem (j := 3) rfl (by decide) (za_lt g5)) (za_E_3 g cy M1 0 ((M1.1 (2, 0, 0) 3).toNatClampNeg)) rfl py_X0_begin pv_X9_76 (Nat.le_of_ble_eq_true rfl) ⟨Nat.le_of_ble_eq_true rfl, Nat.le_of_ble_eq_true rfl⟩ ⟨Nat.zero_le _, Nat.zero_le _⟩ dX9_ash_45 rfl (fun M6 h => ?_)
      refine zt_aload_n C 0 dX9_ash_48 rfl rfl ?_
      refine zt_dup C dX9_ash_49 rfl ?_
      refine zt_get C (za_mem (j := 2) rfl (by decide) (by decide)) pf_X9_68 (za_E_2 g cy M6 0 0) rfl dX9_ash_50 ?_
      refine zt_iconst C (v := 1) dX9_ash_53 zk_i1 ?_
      refine zt_iadd C dX9_ash_54 ?_
      refine zt_topi (fun y8 e9 => ?_)
      replace h := za_use h e9
      refine zt_put C (za_mem (j := 2) rfl (by decide) (by decide)) pf_X9_68 pt_X1_3 rfl rfl (za_E_2 g cy M6 0 0) rfl (Nat.le_of_ble_eq_true rfl) dX9_ash_55 ?_
      refine zt_topM (fun M10 e11 => ?_)
      replace h := za_use h e11
      refine zt_aload_n C 0 dX9_ash_58 rfl rfl ?_
      refine zt_get C (za_mem (j := 2) rfl (by decide) (by decide)) pf_X9_68 (za_E_2 g cy M10 0 0) rfl dX9_ash_59 ?_
      refine zt_iconst C (v := 1) dX9_ash_62 zk_i1 ?_
      refine zt_isub C dX9_ash_63 ?_
      exact zt_ret C hr hk rfl dX9_ash_64 h
    · replace h := za_ifn h q4
      refine zt_aload_n C 1 dX9_ash_29 rfl rfl ?_
      refine zt_iconst C (v := 4) dX9_ash_30 zk_i4 ?_
      refine zt_cVi C [.int 4] (m_X9_fail hJ  h) (za_mem (j := 0) rfl (by decide) (by decide)) (za_E_0 g cy M1 0 0) rfl py_X9_fail pv_X9_64 (Nat.le_of_ble_eq_true rfl) ⟨Nat.le_of_ble_eq_true rfl, Nat.le_of_ble_eq_true rfl⟩ ⟨Nat.zero_le _, Nat.zero_le _⟩ dX9_ash_31 rfl (fun r13 M12 h => ?_)
      exact zt_ret C hr hk rfl dX9_ash_34 h
  · replace h := za_ifp h q3
    refine zt_aload_n C 1 dX9_ash_15 rfl rfl ?_
    refine zt_iconst C (v := 1) dX9_ash_16 zk_i1 ?_
    refine zt_cVi C [.int 1] (m_X9_fail hJ  h) (za_mem (j := 0) rfl (by decide) (by decide)) (za_E_0 g cy M1 0 0) rfl py_X9_fail pv_X9_64 (Nat.le_of_ble_eq_true rfl) ⟨Nat.le_of_ble_eq_true rfl, Nat.le_of_ble_eq_true rfl⟩ ⟨Nat.zero_le _, Nat.zero_le _⟩ dX9_ash_17 rfl (fun r15 M14 h => ?_)
    exact zt_ret C hr hk rfl dX9_ash_20 h
end
theorem m_X9_ash {l : Launch} {g : za_L → Nat} {D : va_G} {cy : Nat → ClassId} (hJ : za_J g)  {x1 : Int32} {M : za_M} {K : Int32 → za_M → Prop} (h : f_X9_ash x1 M K) : za_Mi l g D cy yX9_ash cX9_ash 3 (some .int) 3 107 [.ref (g (0, 0, 0)), .int x1] M K := za_openi hJ (by decide) (Nat.le_of_ble_eq_true rfl) (fun p e s m args below meth c C hr hk => p_X9_ash hJ C hr hk  h)
/-! X9_ofAsh -/
def f_X9_ofAsh (x1 : Int32) (x2 : Int32) (M : za_M) (K : Int32 → za_M → Prop) : Prop :=
  f_X1_hasAsh 0 x1 M (fun r2 M1 => if r2 = 0 then (f_X9_fail 1 M1 (fun r15 M14 => K r15 M14)) else (vp_in x1 5 ∧ (if x2 = 0 then (K (M1.1 (3, 0, x1.toNatClampNeg) 0) M1) else if x2 = 1 then (K (M1.1 (3, 0, x1.toNatClampNeg) 1) M1) else if x2 = 2 then (K (M1.1 (3, 0, x1.toNatClampNeg) 2) M1) else if x2 = 3 then (K (M1.1 (3, 0, x1.toNatClampNeg) 3) M1) else if x2 = 4 then (f_X1_bushelsOfAll 0 x1 M1 (fun r11 M10 => K r11 M10)) else (f_X9_fail 1 M1 (fun r13 M12 => K r13 M12)))))
section
variable {p : Program} {l : Launch} {e : Env} {s : State} {m : MethodId} {args : Array Value} {below : List Frame} {meth : Method} {c : Code} {g : za_L → Nat} {D : va_G} {cy : Nat → ClassId} {K : Int32 → za_M → Prop}
set_option maxRecDepth 100000 in
set_option maxHeartbeats 4000000 in
theorem p_X9_ofAsh (hJ : za_J g) (C : za_C p s m args c cX9_ofAsh 4 RX9 g D cy) (hr : meth.sig.returnType = (some .int)) (hk : meth.locks = false) {x1 : Int32} {x2 : Int32} {M : za_M} (h : f_X9_ofAsh x1 x2 M K) : zt p l e (za_rm 3 107) s m args below meth c 0 0 (MQ below (za_Qi g D cy K) args s 0 0 (za_A g)) g D cy 4 M 0 [(0, .ref (g (0, 0, 0))), (1, .int x1), (2, .int x2)] [] := by
  unfold f_X9_ofAsh at h
  refine zt_aload_n C 0 dX9_ofAsh_0 rfl rfl ?_
  refine zt_get C (za_mem (j := 0) rfl (by decide) (by decide)) pf_X9_10 (za_E_0 g cy M 0 0) rfl dX9_ofAsh_1 ?_
  refine zt_get C (za_mem (j := 1) rfl (by decide) (by decide)) pf_X9_57 (za_E_1 g cy M 0 0) rfl dX9_ofAsh_4 ?_
  refine zt_iload_n C 1 dX9_ofAsh_7 rfl rfl ?_
  refine zt_cVi C [.int x1] (m_X1_hasAsh hJ (by decide) h) (za_mem (j := 2) rfl (by decide) (by decide)) (za_E_2 g cy M 0 0) rfl py_X1_hasAsh pv_X9_82 (Nat.le_of_ble_eq_true rfl) ⟨Nat.le_of_ble_eq_true rfl, Nat.le_of_ble_eq_true rfl⟩ ⟨Nat.zero_le _, Nat.zero_le _⟩ dX9_ofAsh_8 rfl (fun r2 M1 h => ?_)
  refine zt_if_ne C 20 dX9_ofAsh_11 (by decide) (fun q3 => ?_) (fun q3 => ?_)
  · replace h := za_ifn h q3
    refine zt_aload_n C 0 dX9_ofAsh_20 rfl rfl ?_
    refine zt_get C (za_mem (j := 0) rfl (by decide) (by decide)) pf_X9_10 (za_E_0 g cy M1 0 0) rfl dX9_ofAsh_21 ?_
    refine zt_get C (za_mem (j := 1) rfl (by decide) (by decide)) pf_X9_57 (za_E_1 g cy M1 0 0) rfl dX9_ofAsh_24 ?_
    refine zt_get C (za_mem (j := 2) rfl (by decide) (by decide)) pf_X9_72 (za_E_2 g cy M1 0 0) rfl dX9_ofAsh_27 ?_
    refine zt_iload_n C 1 dX9_ofAsh_30 rfl rfl ?_
    obtain ⟨g4, h⟩ := h
    refine zt_aald C (za_mem (j := 10) rfl (by decide) (by decide)) (za_E_10 g cy M1 0 0) rfl g4 dX9_ofAsh_31 ?_
    refine zt_astore_n C [(3, .ref (g (3, 0, x1.toNatClampNeg))), (0, .ref (g (0, 0, 0))), (1, .int x1), (2, .int x2)] dX9_ofAsh_32 rfl (by decide) rfl ?_
    refine zt_iload_n C 3 dX9_ofAsh_33 rfl rfl ?_
    by_cases q5 : x2 = 0
    · replace h := za_ifp h q5
      refine zt_tableIn C (off := 34) 68 dX9_ofAsh_34 (by rw [q5]; decide) (by rw [q5]; decide) (by rw [q5]; decide) (by decide) ?_
      refine zt_aload_n C 0 dX9_ofAsh_68 rfl rfl ?_
      refine zt_get C (za_mem (j := 3) rfl (by decide) (za_lt g4)) pf_X9_85 (za_E_3 g cy M1 0 x1.toNatClampNeg) rfl dX9_ofAsh_69 ?_
      exact zt_ret C hr hk rfl dX9_ofAsh_72 h
    replace h := za_ifn h q5
    by_cases q6 : x2 = 1
    · replace h := za_ifp h q6
      refine zt_tableIn C (off := 39) 73 dX9_ofAsh_34 (by rw [q6]; decide) (by rw [q6]; decide) (by rw [q6]; decide) (by decide) ?_
      refine zt_aload_n C 0 dX9_ofAsh_73 rfl rfl ?_
      refine zt_get C (za_mem (j := 3) rfl (by decide) (za_lt g4)) pf_X9_88 (za_E_3 g cy M1 0 x1.toNatClampNeg) rfl dX9_ofAsh_74 ?_
      exact zt_ret C hr hk rfl dX9_ofAsh_77 h
    replace h := za_ifn h q6
    by_cases q7 : x2 = 2
    · replace h := za_ifp h q7
      refine zt_tableIn C (off := 44) 78 dX9_ofAsh_34 (by rw [q7]; decide) (by rw [q7]; decide) (by rw [q7]; decide) (by decide) ?_
      refine zt_aload_n C 0 dX9_ofAsh_78 rfl rfl ?_
      refine zt_get C (za_mem (j := 3) rfl (by decide) (za_lt g4)) pf_X9_91 (za_E_3 g cy M1 0 x1.toNatClampNeg) rfl dX9_ofAsh_79 ?_
      exact zt_ret C hr hk rfl dX9_ofAsh_82 h
    replace h := za_ifn h q7
    by_cases q8 : x2 = 3
    · replace h := za_ifp h q8
      refine zt_tableIn C (off := 49) 83 dX9_ofAsh_34 (by rw [q8]; decide) (by rw [q8]; decide) (by rw [q8]; decide) (by decide) ?_
      refine zt_aload_n C 0 dX9_ofAsh_83 rfl rfl ?_
      refine zt_get C (za_mem (j := 3) rfl (by decide) (za_lt g4)) pf_X9_94 (za_E_3 g cy M1 0 x1.toNatClampNeg) rfl dX9_ofAsh_84 ?_
      exact zt_ret C hr hk rfl dX9_ofAsh_87 h
    replace h := za_ifn h q8
    by_cases q9 : x2 = 4
    · replace h := za_ifp h q9
      refine zt_tableIn C (off := 54) 88 dX9_ofAsh_34 (by rw [q9]; decide) (by rw [q9]; decide) (by rw [q9]; decide) (by decide) ?_
      refine zt_aload_n C 1 dX9_ofAsh_88 rfl rfl ?_
      refine zt_get C (za_mem (j := 0) rfl (by decide) (by decide)) pf_X9_10 (za_E_0 g cy M1 0 0) rfl dX9_ofAsh_89 ?_
      refine zt_get C (za_mem (j := 1) rfl (by decide) (by decide)) pf_X9_57 (za_E_1 g cy M1 0 0) rfl dX9_ofAsh_92 ?_
      refine zt_iload_n C 2 dX9_ofAsh_95 rfl rfl ?_
      refine zt_cVi C [.int x1] (m_X1_bushelsOfAll hJ (by decide) h) (za_mem (j := 2) rfl (by decide) (by decide)) (za_E_2 g cy M1 0 0) rfl py_X1_bushelsOfAll pv_X9_97 (Nat.le_of_ble_eq_true rfl) ⟨Nat.le_of_ble_eq_true rfl, Nat.le_of_ble_eq_true rfl⟩ ⟨Nat.zero_le _, Nat.zero_le _⟩ dX9_ofAsh_96 rfl (fun r11 M10 h => ?_)
      exact zt_ret C hr hk rfl dX9_ofAsh_99 h
    replace h := za_ifn h q9
    have q5' := lv_neT (a := 0) q5 (by decide)
    have q6' := lv_neT (a := 1) q6 (by decide)
    have q7' := lv_neT (a := 2) q7 (by decide)
    have q8' := lv_neT (a := 3) q8 (by decide)
    have q9' := lv_neT (a := 4) q9 (by decide)
    refine zt_tableOut C 100 dX9_ofAsh_34 (by omega) (by decide) ?_
    refine zt_aload_n C 1 dX9_ofAsh_100 rfl rfl ?_
    refine zt_iconst C (v := 1) dX9_ofAsh_101 zk_i1 ?_
    refine zt_cVi C [.int 1] (m_X9_fail hJ  h) (za_mem (j := 0) rfl (by decide) (by decide)) (za_E_0 g cy M1 0 0) rfl py_X9_fail pv_X9_64 (Nat.le_of_ble_eq_true rfl) ⟨Nat.le_of_ble_eq_true rfl, Nat.le_of_ble_eq_true rfl⟩ ⟨Nat.zero_le _, Nat.zero_le _⟩ dX9_ofAsh_102 rfl (fun r13 M12 h => ?_)
    exact zt_ret C hr hk rfl dX9_ofAsh_105 h
  · replace h := za_ifp h q3
    refine zt_aload_n C 0 dX9_ofAsh_14 rfl rfl ?_
    refine zt_iconst C (v := 1) dX9_ofAsh_15 zk_i1 ?_
    refine zt_cVi C [.int 1] (m_X9_fail hJ  h) (za_mem (j := 0) rfl (by decide) (by decide)) (za_E_0 g cy M1 0 0) rfl py_X9_fail pv_X9_64 (Nat.le_of_ble_eq_true rfl) ⟨Nat.le_of_ble_eq_true rfl, Nat.le_of_ble_eq_true rfl⟩ ⟨Nat.zero_le _, Nat.zero_le _⟩ dX9_ofAsh_16 rfl (fun r15 M14 h => ?_)
    exact zt_ret C hr hk rfl dX9_ofAsh_19 h
end
theorem m_X9_ofAsh {l : Launch} {g : za_L → Nat} {D : va_G} {cy : Nat → ClassId} (hJ : za_J g)  {x1 : Int32} {x2 : Int32} {M : za_M} {K : Int32 → za_M → Prop} (h : f_X9_ofAsh x1 x2 M K) : za_Mi l g D cy yX9_ofAsh cX9_ofAsh 4 (some .int) 3 107 [.ref (g (0, 0, 0)), .int x1, .int x2] M K := za_openi hJ (by decide) (Nat.le_of_ble_eq_true rfl) (fun p e s m args below meth c C hr hk => p_X9_ofAsh hJ C hr hk  h)
/-! X9_hedge -/
def f_X9_hedge_b35 (K : Int32 → za_M → Prop) (x1 : Int32) (x2 : Int32) (x3 : Int32) (s0 : Int32) (s1 : Int32) (s2 : Int32) (M : za_M) : Prop :=
  f_X9_within s0 s1 s2 M (fun r2 M1 => if r2 = 0 then (f_X9_fail 1 M1 (fun r15 M14 => K r15 M14)) else (vp_in x1 5 ∧ (if x2 = 0 then (za_let (M1.1 (3, 0, x1.toNatClampNeg) 2) fun y10 => za_let (za_up M1 (3, 0, x1.toNatClampNeg) 2 x3) fun M12 => K y10 M12) else (za_let (M1.1 (3, 0, x1.toNatClampNeg) 3) fun y6 => za_let (za_up M1 (3, 0, x1.toNatClampNeg) 3 x3) fun M8 => K y6 M8))))
def f_X9_hedge (x1 : Int32) (x2 : Int32) (x3 : Int32) (M : za_M) (K : Int32 → za_M → Prop) : Prop :=
  f_X1_hasAsh 0 x1 M (fun r17 M16 => if r17 = 0 then (f_X9_fail 1 M16 (fun r20 M19 => K r20 M19)) else (f_X9_within x2 0 1 M16 (fun r22 M21 => if r22 = 0 then (f_X9_fail 1 M21 (fun r25 M24 => K r25 M24)) else (if x2 = 0 then (f_X9_hedge_b35 K x1 x2 x3 x3 0 9 M21) else (f_X9_hedge_b35 K x1 x2 x3 x3 0 3 M21)))))
section
variable {p : Program} {l : Launch} {e : Env} {s : State} {m : MethodId} {args : Array Value} {below : List Frame} {meth : Method} {c : Code} {g : za_L → Nat} {D : va_G} {cy : Nat → ClassId} {K : Int32 → za_M → Prop}
set_option maxRecDepth 100000 in
set_option maxHeartbeats 4000000 in
theorem p_X9_hedge_b35 (hJ : za_J g) (C : za_C p s m args c cX9_hedge 6 RX9 g D cy) (hr : meth.sig.returnType = (some .int)) (hk : meth.locks = false) {x1 : Int32} {x2 : Int32} {x3 : Int32} {s0 : Int32} {s1 : Int32} {s2 : Int32} {M : za_M} (h : f_X9_hedge_b35 K x1 x2 x3 s0 s1 s2 M) : zt p l e (za_rm 3 107) s m args below meth c 0 0 (MQ below (za_Qi g D cy K) args s 0 0 (za_A g)) g D cy 6 M 35 [(0, .ref (g (0, 0, 0))), (1, .int x1), (2, .int x2), (3, .int x3)] [.int s2, .int s1, .int s0] := by
  unfold f_X9_hedge_b35 at h
  refine zt_cSi C [.int s0, .int s1, .int s2] (m_X9_within hJ  h) py_X9_within ps_X9_100 (Nat.le_of_ble_eq_true rfl) ⟨Nat.le_of_ble_eq_true rfl, Nat.le_of_ble_eq_true rfl⟩ ⟨Nat.zero_le _, Nat.zero_le _⟩ dX9_hedge_35 rfl (fun r2 M1 h => ?_)
  refine zt_if_ne C 47 dX9_hedge_38 (by decide) (fun q3 => ?_) (fun q3 => ?_)
  · replace h := za_ifn h q3
    refine zt_aload_n C 0 dX9_hedge_47 rfl rfl ?_
    refine zt_get C (za_mem (j := 0) rfl (by decide) (by decide)) pf_X9_10 (za_E_0 g cy M1 0 0) rfl dX9_hedge_48 ?_
    refine zt_get C (za_mem (j := 1) rfl (by decide) (by decide)) pf_X9_57 (za_E_1 g cy M1 0 0) rfl dX9_hedge_51 ?_
    refine zt_get C (za_mem (j := 2) rfl (by decide) (by decide)) pf_X9_72 (za_E_2 g cy M1 0 0) rfl dX9_hedge_54 ?_
    refine zt_iload_n C 1 dX9_hedge_57 rfl rfl ?_
    obtain ⟨g4, h⟩ := h
    refine zt_aald C (za_mem (j := 10) rfl (by decide) (by decide)) (za_E_10 g cy M1 0 0) rfl g4 dX9_hedge_58 ?_
    refine zt_astore C [(4, .ref (g (3, 0, x1.toNatClampNeg))), (0, .ref (g (0, 0, 0))), (1, .int x1), (2, .int x2), (3, .int x3)] dX9_hedge_59 (by decide) rfl ?_
    refine zt_iload_n C 3 dX9_hedge_61 rfl rfl ?_
    refine zt_if_ne C 81 dX9_hedge_62 (by decide) (fun q5 => ?_) (fun q5 => ?_)
    · replace h := za_ifn h q5
      refine zt_aload C 0 dX9_hedge_81 rfl ?_
      refine zt_get C (za_mem (j := 3) rfl (by decide) (za_lt g4)) pf_X9_94 (za_E_3 g cy M1 0 x1.toNatClampNeg) rfl dX9_hedge_83 ?_
      refine zt_topi (fun y6 e7 => ?_)
      replace h := za_use h e7
      refine zt_istore C [(5, .int y6), (4, .ref (g (3, 0, x1.toNatClampNeg))), (0, .ref (g (0, 0, 0))), (1, .int x1), (2, .int x2), (3, .int x3)] dX9_hedge_86 (by decide) rfl ?_
      refine zt_aload C 1 dX9_hedge_88 rfl ?_
      refine zt_iload_n C 5 dX9_hedge_90 rfl rfl ?_
      refine zt_put C (za_mem (j := 3) rfl (by decide) (za_lt g4)) pf_X9_94 pt_X0_3 rfl rfl (za_E_3 g cy M1 0 x1.toNatClampNeg) rfl (Nat.le_of_ble_eq_true rfl) dX9_hedge_91 ?_
      refine zt_topM (fun M8 e9 => ?_)
      replace h := za_use h e9
      refine zt_iload C 0 dX9_hedge_94 rfl ?_
      exact zt_ret C hr hk rfl dX9_hedge_96 h
    · replace h := za_ifp h q5
      refine zt_aload C 0 dX9_hedge_65 rfl ?_
      refine zt_get C (za_mem (j := 3) rfl (by decide) (za_lt g4)) pf_X9_91 (za_E_3 g cy M1 0 x1.toNatClampNeg) rfl dX9_hedge_67 ?_
      refine zt_topi (fun y10 e11 => ?_)
      replace h := za_use h e11
      refine zt_istore C [(5, .int y10), (4, .ref (g (3, 0, x1.toNatClampNeg))), (0, .ref (g (0, 0, 0))), (1, .int x1), (2, .int x2), (3, .int x3)] dX9_hedge_70 (by decide) rfl ?_
      refine zt_aload C 1 dX9_hedge_72 rfl ?_
      refine zt_iload_n C 5 dX9_hedge_74 rfl rfl ?_
      refine zt_put C (za_mem (j := 3) rfl (by decide) (za_lt g4)) pf_X9_91 pt_X0_2 rfl rfl (za_E_3 g cy M1 0 x1.toNatClampNeg) rfl (Nat.le_of_ble_eq_true rfl) dX9_hedge_75 ?_
      refine zt_topM (fun M12 e13 => ?_)
      replace h := za_use h e13
      refine zt_goto C 94 dX9_hedge_78 (by decide) ?_
      refine zt_iload C 0 dX9_hedge_94 rfl ?_
      exact zt_ret C hr hk rfl dX9_hedge_96 h
  · replace h := za_ifp h q3
    refine zt_aload_n C 0 dX9_hedge_41 rfl rfl ?_
    refine zt_iconst C (v := 1) dX9_hedge_42 zk_i1 ?_
    refine zt_cVi C [.int 1] (m_X9_fail hJ  h) (za_mem (j := 0) rfl (by decide) (by decide)) (za_E_0 g cy M1 0 0) rfl py_X9_fail pv_X9_64 (Nat.le_of_ble_eq_true rfl) ⟨Nat.le_of_ble_eq_true rfl, Nat.le_of_ble_eq_true rfl⟩ ⟨Nat.zero_le _, Nat.zero_le _⟩ dX9_hedge_43 rfl (fun r15 M14 h => ?_)
    exact zt_ret C hr hk rfl dX9_hedge_46 h
set_option maxRecDepth 100000 in
set_option maxHeartbeats 4000000 in
theorem p_X9_hedge (hJ : za_J g) (C : za_C p s m args c cX9_hedge 6 RX9 g D cy) (hr : meth.sig.returnType = (some .int)) (hk : meth.locks = false) {x1 : Int32} {x2 : Int32} {x3 : Int32} {M : za_M} (h : f_X9_hedge x1 x2 x3 M K) : zt p l e (za_rm 3 107) s m args below meth c 0 0 (MQ below (za_Qi g D cy K) args s 0 0 (za_A g)) g D cy 6 M 0 [(0, .ref (g (0, 0, 0))), (1, .int x1), (2, .int x2), (3, .int x3)] [] := by
  unfold f_X9_hedge at h
  refine zt_aload_n C 0 dX9_hedge_0 rfl rfl ?_
  refine zt_get C (za_mem (j := 0) rfl (by decide) (by decide)) pf_X9_10 (za_E_0 g cy M 0 0) rfl dX9_hedge_1 ?_
  refine zt_get C (za_mem (j := 1) rfl (by decide) (by decide)) pf_X9_57 (za_E_1 g cy M 0 0) rfl dX9_hedge_4 ?_
  refine zt_iload_n C 1 dX9_hedge_7 rfl rfl ?_
  refine zt_cVi C [.int x1] (m_X1_hasAsh hJ (by decide) h) (za_mem (j := 2) rfl (by decide) (by decide)) (za_E_2 g cy M 0 0) rfl py_X1_hasAsh pv_X9_82 (Nat.le_of_ble_eq_true rfl) ⟨Nat.le_of_ble_eq_true rfl, Nat.le_of_ble_eq_true rfl⟩ ⟨Nat.zero_le _, Nat.zero_le _⟩ dX9_hedge_8 rfl (fun r17 M16 h => ?_)
  refine zt_if_eq C 41 dX9_hedge_11 (by decide) (fun q18 => ?_) (fun q18 => ?_)
  · replace h := za_ifp h q18
    refine zt_aload_n C 0 dX9_hedge_41 rfl rfl ?_
    refine zt_iconst C (v := 1) dX9_hedge_42 zk_i1 ?_
    refine zt_cVi C [.int 1] (m_X9_fail hJ  h) (za_mem (j := 0) rfl (by decide) (by decide)) (za_E_0 g cy M16 0 0) rfl py_X9_fail pv_X9_64 (Nat.le_of_ble_eq_true rfl) ⟨Nat.le_of_ble_eq_true rfl, Nat.le_of_ble_eq_true rfl⟩ ⟨Nat.zero_le _, Nat.zero_le _⟩ dX9_hedge_43 rfl (fun r20 M19 h => ?_)
    exact zt_ret C hr hk rfl dX9_hedge_46 h
  · replace h := za_ifn h q18
    refine zt_iload_n C 2 dX9_hedge_14 rfl rfl ?_
    refine zt_iconst C (v := 0) dX9_hedge_15 zk_i0 ?_
    refine zt_iconst C (v := 1) dX9_hedge_16 zk_i1 ?_
    refine zt_cSi C [.int x2, .int 0, .int 1] (m_X9_within hJ  h) py_X9_within ps_X9_100 (Nat.le_of_ble_eq_true rfl) ⟨Nat.le_of_ble_eq_true rfl, Nat.le_of_ble_eq_true rfl⟩ ⟨Nat.zero_le _, Nat.zero_le _⟩ dX9_hedge_17 rfl (fun r22 M21 h => ?_)
    refine zt_if_eq C 41 dX9_hedge_20 (by decide) (fun q23 => ?_) (fun q23 => ?_)
    · replace h := za_ifp h q23
      refine zt_aload_n C 0 dX9_hedge_41 rfl rfl ?_
      refine zt_iconst C (v := 1) dX9_hedge_42 zk_i1 ?_
      refine zt_cVi C [.int 1] (m_X9_fail hJ  h) (za_mem (j := 0) rfl (by decide) (by decide)) (za_E_0 g cy M21 0 0) rfl py_X9_fail pv_X9_64 (Nat.le_of_ble_eq_true rfl) ⟨Nat.le_of_ble_eq_true rfl, Nat.le_of_ble_eq_true rfl⟩ ⟨Nat.zero_le _, Nat.zero_le _⟩ dX9_hedge_43 rfl (fun r25 M24 h => ?_)
      exact zt_ret C hr hk rfl dX9_hedge_46 h
    · replace h := za_ifn h q23
      refine zt_iload_n C 3 dX9_hedge_23 rfl rfl ?_
      refine zt_iconst C (v := 0) dX9_hedge_24 zk_i0 ?_
      refine zt_iload_n C 2 dX9_hedge_25 rfl rfl ?_
      refine zt_if_ne C 34 dX9_hedge_26 (by decide) (fun q26 => ?_) (fun q26 => ?_)
      · replace h := za_ifn h q26
        refine zt_iconst C (v := 3) dX9_hedge_34 zk_i3 ?_
        exact p_X9_hedge_b35 hJ C hr hk  h
      · replace h := za_ifp h q26
        refine zt_bipush C (v := 9) dX9_hedge_29 zk_b9 ?_
        refine zt_goto C 35 dX9_hedge_31 (by decide) ?_
        exact p_X9_hedge_b35 hJ C hr hk  h
end
theorem m_X9_hedge {l : Launch} {g : za_L → Nat} {D : va_G} {cy : Nat → ClassId} (hJ : za_J g)  {x1 : Int32} {x2 : Int32} {x3 : Int32} {M : za_M} {K : Int32 → za_M → Prop} (h : f_X9_hedge x1 x2 x3 M K) : za_Mi l g D cy yX9_hedge cX9_hedge 6 (some .int) 3 107 [.ref (g (0, 0, 0)), .int x1, .int x2, .int x3] M K := za_openi hJ (by decide) (Nat.le_of_ble_eq_true rfl) (fun p e s m args below meth c C hr hk => p_X9_hedge hJ C hr hk  h)
/-! X9_become -/
def f_X9_become (x1 : Int32) (x2 : Int32) (M : za_M) (K : Int32 → za_M → Prop) : Prop :=
  f_X1_hasAsh 0 x1 M (fun r2 M1 => if r2 = 0 then (f_X9_fail 1 M1 (fun r5 M4 => K r5 M4)) else (f_X9_isKindAndNumber x2 M1 (fun r7 M6 => if r7 = 0 then (f_X9_fail 1 M6 (fun r21 M20 => K r21 M20)) else (vp_in x1 5 ∧ (za_let (M6.1 (3, 0, x1.toNatClampNeg) 0) fun y10 => za_let (x2 / 10) fun y12 => za_let (za_up M6 (3, 0, x1.toNatClampNeg) 0 y12) fun M14 => za_let (x2 - x2 / 10 * 10) fun y16 => za_let (za_up M14 (3, 0, x1.toNatClampNeg) 1 y16) fun M18 => K y10 M18)))))
section
variable {p : Program} {l : Launch} {e : Env} {s : State} {m : MethodId} {args : Array Value} {below : List Frame} {meth : Method} {c : Code} {g : za_L → Nat} {D : va_G} {cy : Nat → ClassId} {K : Int32 → za_M → Prop}
set_option maxRecDepth 100000 in
set_option maxHeartbeats 4000000 in
theorem p_X9_become (hJ : za_J g) (C : za_C p s m args c cX9_become 5 RX9 g D cy) (hr : meth.sig.returnType = (some .int)) (hk : meth.locks = false) {x1 : Int32} {x2 : Int32} {M : za_M} (h : f_X9_become x1 x2 M K) : zt p l e (za_rm 3 107) s m args below meth c 0 0 (MQ below (za_Qi g D cy K) args s 0 0 (za_A g)) g D cy 5 M 0 [(0, .ref (g (0, 0, 0))), (1, .int x1), (2, .int x2)] [] := by
  unfold f_X9_become at h
  refine zt_aload_n C 0 dX9_become_0 rfl rfl ?_
  refine zt_get C (za_mem (j := 0) rfl (by decide) (by decide)) pf_X9_10 (za_E_0 g cy M 0 0) rfl dX9_become_1 ?_
  refine zt_get C (za_mem (j := 1) rfl (by decide) (by decide)) pf_X9_57 (za_E_1 g cy M 0 0) rfl dX9_become_4 ?_
  refine zt_iload_n C 1 dX9_become_7 rfl rfl ?_
  refine zt_cVi C [.int x1] (m_X1_hasAsh hJ (by decide) h) (za_mem (j := 2) rfl (by decide) (by decide)) (za_E_2 g cy M 0 0) rfl py_X1_hasAsh pv_X9_82 (Nat.le_of_ble_eq_true rfl) ⟨Nat.le_of_ble_eq_true rfl, Nat.le_of_ble_eq_true rfl⟩ ⟨Nat.zero_le _, Nat.zero_le _⟩ dX9_become_8 rfl (fun r2 M1 h => ?_)
  refine zt_if_eq C 21 dX9_become_11 (by decide) (fun q3 => ?_) (fun q3 => ?_)
  · replace h := za_ifp h q3
    refine zt_aload_n C 0 dX9_become_21 rfl rfl ?_
    refine zt_iconst C (v := 1) dX9_become_22 zk_i1 ?_
    refine zt_cVi C [.int 1] (m_X9_fail hJ  h) (za_mem (j := 0) rfl (by decide) (by decide)) (za_E_0 g cy M1 0 0) rfl py_X9_fail pv_X9_64 (Nat.le_of_ble_eq_true rfl) ⟨Nat.le_of_ble_eq_true rfl, Nat.le_of_ble_eq_true rfl⟩ ⟨Nat.zero_le _, Nat.zero_le _⟩ dX9_become_23 rfl (fun r5 M4 h => ?_)
    exact zt_ret C hr hk rfl dX9_become_26 h
  · replace h := za_ifn h q3
    refine zt_iload_n C 2 dX9_become_14 rfl rfl ?_
    refine zt_cSi C [.int x2] (m_X9_isKindAndNumber hJ  h) py_X9_isKindAndNumber ps_X9_60 (Nat.le_of_ble_eq_true rfl) ⟨Nat.le_of_ble_eq_true rfl, Nat.le_of_ble_eq_true rfl⟩ ⟨Nat.zero_le _, Nat.zero_le _⟩ dX9_become_15 rfl (fun r7 M6 h => ?_)
    refine zt_if_ne C 27 dX9_become_18 (by decide) (fun q8 => ?_) (fun q8 => ?_)
    · replace h := za_ifn h q8
      refine zt_aload_n C 0 dX9_become_27 rfl rfl ?_
      refine zt_get C (za_mem (j := 0) rfl (by decide) (by decide)) pf_X9_10 (za_E_0 g cy M6 0 0) rfl dX9_become_28 ?_
      refine zt_get C (za_mem (j := 1) rfl (by decide) (by decide)) pf_X9_57 (za_E_1 g cy M6 0 0) rfl dX9_become_31 ?_
      refine zt_get C (za_mem (j := 2) rfl (by decide) (by decide)) pf_X9_72 (za_E_2 g cy M6 0 0) rfl dX9_become_34 ?_
      refine zt_iload_n C 1 dX9_become_37 rfl rfl ?_
      obtain ⟨g9, h⟩ := h
      refine zt_aald C (za_mem (j := 10) rfl (by decide) (by decide)) (za_E_10 g cy M6 0 0) rfl g9 dX9_become_38 ?_
      refine zt_astore_n C [(3, .ref (g (3, 0, x1.toNatClampNeg))), (0, .ref (g (0, 0, 0))), (1, .int x1), (2, .int x2)] dX9_become_39 rfl (by decide) rfl ?_
      refine zt_aload_n C 0 dX9_become_40 rfl rfl ?_
      refine zt_get C (za_mem (j := 3) rfl (by decide) (za_lt g9)) pf_X9_85 (za_E_3 g cy M6 0 x1.toNatClampNeg) rfl dX9_become_41 ?_
      refine zt_topi (fun y10 e11 => ?_)
      replace h := za_use h e11
      refine zt_istore C [(4, .int y10), (3, .ref (g (3, 0, x1.toNatClampNeg))), (0, .ref (g (0, 0, 0))), (1, .int x1), (2, .int x2)] dX9_become_44 (by decide) rfl ?_
      refine zt_aload_n C 1 dX9_become_46 rfl rfl ?_
      refine zt_iload_n C 4 dX9_become_47 rfl rfl ?_
      refine zt_bipush C (v := 10) dX9_become_48 zk_b10 ?_
      refine zt_idiv C dX9_become_50 (by decide) ?_
      refine zt_topi (fun y12 e13 => ?_)
      replace h := za_use h e13
      refine zt_put C (za_mem (j := 3) rfl (by decide) (za_lt g9)) pf_X9_85 pt_X0_0 rfl rfl (za_E_3 g cy M6 0 x1.toNatClampNeg) rfl (Nat.le_of_ble_eq_true rfl) dX9_become_51 ?_
      refine zt_topM (fun M14 e15 => ?_)
      replace h := za_use h e15
      refine zt_aload_n C 1 dX9_become_54 rfl rfl ?_
      refine zt_iload_n C 4 dX9_become_55 rfl rfl ?_
      refine zt_bipush C (v := 10) dX9_become_56 zk_b10 ?_
      refine zt_irem C dX9_become_58 (by decide) ?_
      refine zt_topi (fun y16 e17 => ?_)
      replace h := za_use h e17
      refine zt_put C (za_mem (j := 3) rfl (by decide) (za_lt g9)) pf_X9_88 pt_X0_1 rfl rfl (za_E_3 g cy M14 0 x1.toNatClampNeg) rfl (Nat.le_of_ble_eq_true rfl) dX9_become_59 ?_
      refine zt_topM (fun M18 e19 => ?_)
      replace h := za_use h e19
      refine zt_iload C 0 dX9_become_62 rfl ?_
      exact zt_ret C hr hk rfl dX9_become_64 h
    · replace h := za_ifp h q8
      refine zt_aload_n C 0 dX9_become_21 rfl rfl ?_
      refine zt_iconst C (v := 1) dX9_become_22 zk_i1 ?_
      refine zt_cVi C [.int 1] (m_X9_fail hJ  h) (za_mem (j := 0) rfl (by decide) (by decide)) (za_E_0 g cy M6 0 0) rfl py_X9_fail pv_X9_64 (Nat.le_of_ble_eq_true rfl) ⟨Nat.le_of_ble_eq_true rfl, Nat.le_of_ble_eq_true rfl⟩ ⟨Nat.zero_le _, Nat.zero_le _⟩ dX9_become_23 rfl (fun r21 M20 h => ?_)
      exact zt_ret C hr hk rfl dX9_become_26 h
end
theorem m_X9_become {l : Launch} {g : za_L → Nat} {D : va_G} {cy : Nat → ClassId} (hJ : za_J g)  {x1 : Int32} {x2 : Int32} {M : za_M} {K : Int32 → za_M → Prop} (h : f_X9_become x1 x2 M K) : za_Mi l g D cy yX9_become cX9_become 5 (some .int) 3 107 [.ref (g (0, 0, 0)), .int x1, .int x2] M K := za_openi hJ (by decide) (Nat.le_of_ble_eq_true rfl) (fun p e s m args below meth c C hr hk => p_X9_become hJ C hr hk  h)
/-! X9_isUnder -/
def f_X9_isUnder_b4 (K : Int32 → za_M → Prop) (x1 : Int32) (L4 : Int32 → Int32 → za_M → Prop) (x2 : Int32) (x3 : Int32) (M : za_M) : Prop :=
  if 7 ≤ x3 then (K 0 M) else (f_X9_within x2 0 6 M (fun r3 M2 => if r3 = 0 then (K 0 M2) else (if x2 = x1 then (K 1 M2) else (vp_in x2 7 ∧ (za_let (za_t0 x2.toNatClampNeg) fun y7 => L4 y7 (x3 + 1) M2)))))
def f_X9_isUnder (x0 : Int32) (x1 : Int32) (M : za_M) (K : Int32 → za_M → Prop) : Prop :=
  ∃ n, za_lp2 (f_X9_isUnder_b4 K x1) n x0 0 M
section
variable {p : Program} {l : Launch} {e : Env} {s : State} {m : MethodId} {args : Array Value} {below : List Frame} {meth : Method} {c : Code} {g : za_L → Nat} {D : va_G} {cy : Nat → ClassId} {K : Int32 → za_M → Prop}
set_option maxRecDepth 100000 in
set_option maxHeartbeats 4000000 in
theorem p_X9_isUnder_b4 (hJ : za_J g) (C : za_C p s m args c cX9_isUnder 4 RX9 g D cy) (hr : meth.sig.returnType = (some .boolean)) (hk : meth.locks = false) {x1 : Int32} {L4 : Int32 → Int32 → za_M → Prop} (hL4 : ∀ (x2 : Int32) (x3 : Int32) (M : za_M), L4 x2 x3 M → zt p l e (za_rm 2 86) s m args below meth c 0 0 (MQ below (za_Qi g D cy K) args s 0 0 (za_A g)) g D cy 4 M 4 [(1, .int x1), (2, .int x2), (3, .int x3)] []) : ∀ (x2 : Int32) (x3 : Int32) (M : za_M), f_X9_isUnder_b4 K x1 L4 x2 x3 M → zt p l e (za_rm 2 86) s m args below meth c 0 0 (MQ below (za_Qi g D cy K) args s 0 0 (za_A g)) g D cy 4 M 4 [(1, .int x1), (2, .int x2), (3, .int x3)] [] := by
  intro x2 x3 M h
  unfold f_X9_isUnder_b4 at h
  refine zt_iload_n C 2 dX9_isUnder_4 rfl rfl ?_
  refine zt_bipush C (v := 7) dX9_isUnder_5 zk_b7 ?_
  refine zt_icmp_ge C 39 dX9_isUnder_7 (by decide) (fun q1 => ?_) (fun q1 => ?_)
  · replace h := za_ifp h q1
    refine zt_iconst C (v := 0) dX9_isUnder_39 zk_i0 ?_
    exact zt_ret C hr hk rfl dX9_isUnder_40 h
  · replace h := za_ifn h q1
    refine zt_iload_n C 1 dX9_isUnder_10 rfl rfl ?_
    refine zt_iconst C (v := 0) dX9_isUnder_11 zk_i0 ?_
    refine zt_bipush C (v := 6) dX9_isUnder_12 zk_b6 ?_
    refine zt_cSi C [.int x2, .int 0, .int 6] (m_X9_within hJ  h) py_X9_within ps_X9_100 (Nat.le_of_ble_eq_true rfl) ⟨Nat.le_of_ble_eq_true rfl, Nat.le_of_ble_eq_true rfl⟩ ⟨Nat.zero_le _, Nat.zero_le _⟩ dX9_isUnder_14 rfl (fun r3 M2 h => ?_)
    refine zt_if_eq C 39 dX9_isUnder_17 (by decide) (fun q4 => ?_) (fun q4 => ?_)
    · replace h := za_ifp h q4
      refine zt_iconst C (v := 0) dX9_isUnder_39 zk_i0 ?_
      exact zt_ret C hr hk rfl dX9_isUnder_40 h
    · replace h := za_ifn h q4
      refine zt_iload_n C 1 dX9_isUnder_20 rfl rfl ?_
      refine zt_iload_n C 0 dX9_isUnder_21 rfl rfl ?_
      refine zt_icmp_ne C 27 dX9_isUnder_22 (by decide) (fun q5 => ?_) (fun q5 => ?_)
      · replace h := za_ifn h q5
        refine zt_gets C C.2.2.2.2.2.1.2.2.1.1 w_431 dX9_isUnder_27 ?_
        refine zt_iload_n C 1 dX9_isUnder_30 rfl rfl ?_
        obtain ⟨g6, h⟩ := h
        refine zt_tald C C.2.2.2.2.2.1.2.2.1.2 g6 dX9_isUnder_31 ?_
        refine zt_topi (fun y7 e8 => ?_)
        replace h := za_use h e8
        refine zt_istore_n C [(2, .int y7), (1, .int x1), (3, .int x3)] dX9_isUnder_32 rfl (by decide) rfl ?_
        refine zt_iinc C (v := x3 + 1) 2 [(3, .int (x3 + 1)), (2, .int y7), (1, .int x1)] dX9_isUnder_33 rfl (zk_n1 _) (by decide) rfl ?_
        refine zt_goto C 4 dX9_isUnder_36 (by decide) ?_
        refine zt_sub [2, 1, 0] (lv' := [(1, .int x1), (2, .int y7), (3, .int (x3 + 1))]) rfl ?_
        exact hL4 _ _ _ h
      · replace h := za_ifp h q5
        refine zt_iconst C (v := 1) dX9_isUnder_25 zk_i1 ?_
        exact zt_ret C hr hk rfl dX9_isUnder_26 h
theorem p_X9_isUnder_b4_in (hJ : za_J g) (C : za_C p s m args c cX9_isUnder 4 RX9 g D cy) (hr : meth.sig.returnType = (some .boolean)) (hk : meth.locks = false) {x1 : Int32} {n : Nat} {x2 : Int32} {x3 : Int32} {M : za_M} (h : za_lp2 (f_X9_isUnder_b4 K x1) n x2 x3 M) : zt p l e (za_rm 2 86) s m args below meth c 0 0 (MQ below (za_Qi g D cy K) args s 0 0 (za_A g)) g D cy 4 M 4 [(1, .int x1), (2, .int x2), (3, .int x3)] [] := za_lp2_run (Z := fun x2 x3 M => zt p l e (za_rm 2 86) s m args below meth c 0 0 (MQ below (za_Qi g D cy K) args s 0 0 (za_A g)) g D cy 4 M 4 [(1, .int x1), (2, .int x2), (3, .int x3)] []) (fun L hL => p_X9_isUnder_b4 hJ C hr hk  hL) n x2 x3 M h
set_option maxRecDepth 100000 in
set_option maxHeartbeats 4000000 in
theorem p_X9_isUnder (hJ : za_J g) (C : za_C p s m args c cX9_isUnder 4 RX9 g D cy) (hr : meth.sig.returnType = (some .boolean)) (hk : meth.locks = false) {x0 : Int32} {x1 : Int32} {M : za_M} (h : f_X9_isUnder x0 x1 M K) : zt p l e (za_rm 2 86) s m args below meth c 0 0 (MQ below (za_Qi g D cy K) args s 0 0 (za_A g)) g D cy 4 M 0 [(0, .int x0), (1, .int x1)] [] := by
  unfold f_X9_isUnder at h
  refine zt_iload_n C 0 dX9_isUnder_0 rfl rfl ?_
  refine zt_istore_n C [(2, .int x0), (0, .int x0), (1, .int x1)] dX9_isUnder_1 rfl (by decide) rfl ?_
  refine zt_iconst C (v := 0) dX9_isUnder_2 zk_i0 ?_
  refine zt_istore_n C [(3, .int 0), (2, .int x0), (0, .int x0), (1, .int x1)] dX9_isUnder_3 rfl (by decide) rfl ?_
  refine zt_sub [3, 1, 0] (lv' := [(1, .int x1), (2, .int x0), (3, .int 0)]) rfl ?_
  obtain ⟨n, h⟩ := h
  exact p_X9_isUnder_b4_in hJ C hr hk  h
end
theorem m_X9_isUnder {l : Launch} {g : za_L → Nat} {D : va_G} {cy : Nat → ClassId} (hJ : za_J g)  {x0 : Int32} {x1 : Int32} {M : za_M} {K : Int32 → za_M → Prop} (h : f_X9_isUnder x0 x1 M K) : za_Mi l g D cy yX9_isUnder cX9_isUnder 4 (some .boolean) 2 86 [.int x0, .int x1] M K := za_openi hJ (by decide) (Nat.le_of_ble_eq_true rfl) (fun p e s m args below meth c C hr hk => p_X9_isUnder hJ C hr hk  h)
/-! X9_as -/
def f_X9_as (x1 : Int32) (x2 : Int32) (M : za_M) (K : Int32 → za_M → Prop) : Prop :=
  f_X1_hasAsh 0 x1 M (fun r2 M1 => if r2 = 0 then (f_X9_fail 1 M1 (fun r5 M4 => K r5 M4)) else (f_X9_within x2 0 6 M1 (fun r7 M6 => if r7 = 0 then (f_X9_fail 1 M6 (fun r16 M15 => K r16 M15)) else (vp_in x1 5 ∧ (f_X9_isUnder (M6.1 (3, 0, x1.toNatClampNeg) 0) x2 M6 (fun r11 M10 => if r11 = 0 then (f_X9_fail 5 M10 (fun r14 M13 => K r14 M13)) else (K (M10.1 (3, 0, x1.toNatClampNeg) 1) M10)))))))
section
variable {p : Program} {l : Launch} {e : Env} {s : State} {m : MethodId} {args : Array Value} {below : List Frame} {meth : Method} {c : Code} {g : za_L → Nat} {D : va_G} {cy : Nat → ClassId} {K : Int32 → za_M → Prop}
set_option maxRecDepth 100000 in
set_option maxHeartbeats 4000000 in
theorem p_X9_as (hJ : za_J g) (C : za_C p s m args c cX9_as 4 RX9 g D cy) (hr : meth.sig.returnType = (some .int)) (hk : meth.locks = false) {x1 : Int32} {x2 : Int32} {M : za_M} (h : f_X9_as x1 x2 M K) : zt p l e (za_rm 3 109) s m args below meth c 0 0 (MQ below (za_Qi g D cy K) args s 0 0 (za_A g)) g D cy 4 M 0 [(0, .ref (g (0, 0, 0))), (1, .int x1), (2, .int x2)] [] := by
  unfold f_X9_as at h
  refine zt_aload_n C 0 dX9_as_0 rfl rfl ?_
  refine zt_get C (za_mem (j := 0) rfl (by decide) (by decide)) pf_X9_10 (za_E_0 g cy M 0 0) rfl dX9_as_1 ?_
  refine zt_get C (za_mem (j := 1) rfl (by decide) (by decide)) pf_X9_57 (za_E_1 g cy M 0 0) rfl dX9_as_4 ?_
  refine zt_iload_n C 1 dX9_as_7 rfl rfl ?_
  refine zt_cVi C [.int x1] (m_X1_hasAsh hJ (by decide) h) (za_mem (j := 2) rfl (by decide) (by decide)) (za_E_2 g cy M 0 0) rfl py_X1_hasAsh pv_X9_82 (Nat.le_of_ble_eq_true rfl) ⟨Nat.le_of_ble_eq_true rfl, Nat.le_of_ble_eq_true rfl⟩ ⟨Nat.zero_le _, Nat.zero_le _⟩ dX9_as_8 rfl (fun r2 M1 h => ?_)
  refine zt_if_eq C 24 dX9_as_11 (by decide) (fun q3 => ?_) (fun q3 => ?_)
  · replace h := za_ifp h q3
    refine zt_aload_n C 0 dX9_as_24 rfl rfl ?_
    refine zt_iconst C (v := 1) dX9_as_25 zk_i1 ?_
    refine zt_cVi C [.int 1] (m_X9_fail hJ  h) (za_mem (j := 0) rfl (by decide) (by decide)) (za_E_0 g cy M1 0 0) rfl py_X9_fail pv_X9_64 (Nat.le_of_ble_eq_true rfl) ⟨Nat.le_of_ble_eq_true rfl, Nat.le_of_ble_eq_true rfl⟩ ⟨Nat.zero_le _, Nat.zero_le _⟩ dX9_as_26 rfl (fun r5 M4 h => ?_)
    exact zt_ret C hr hk rfl dX9_as_29 h
  · replace h := za_ifn h q3
    refine zt_iload_n C 2 dX9_as_14 rfl rfl ?_
    refine zt_iconst C (v := 0) dX9_as_15 zk_i0 ?_
    refine zt_bipush C (v := 6) dX9_as_16 zk_b6 ?_
    refine zt_cSi C [.int x2, .int 0, .int 6] (m_X9_within hJ  h) py_X9_within ps_X9_100 (Nat.le_of_ble_eq_true rfl) ⟨Nat.le_of_ble_eq_true rfl, Nat.le_of_ble_eq_true rfl⟩ ⟨Nat.zero_le _, Nat.zero_le _⟩ dX9_as_18 rfl (fun r7 M6 h => ?_)
    refine zt_if_ne C 30 dX9_as_21 (by decide) (fun q8 => ?_) (fun q8 => ?_)
    · replace h := za_ifn h q8
      refine zt_aload_n C 0 dX9_as_30 rfl rfl ?_
      refine zt_get C (za_mem (j := 0) rfl (by decide) (by decide)) pf_X9_10 (za_E_0 g cy M6 0 0) rfl dX9_as_31 ?_
      refine zt_get C (za_mem (j := 1) rfl (by decide) (by decide)) pf_X9_57 (za_E_1 g cy M6 0 0) rfl dX9_as_34 ?_
      refine zt_get C (za_mem (j := 2) rfl (by decide) (by decide)) pf_X9_72 (za_E_2 g cy M6 0 0) rfl dX9_as_37 ?_
      refine zt_iload_n C 1 dX9_as_40 rfl rfl ?_
      obtain ⟨g9, h⟩ := h
      refine zt_aald C (za_mem (j := 10) rfl (by decide) (by decide)) (za_E_10 g cy M6 0 0) rfl g9 dX9_as_41 ?_
      refine zt_astore_n C [(3, .ref (g (3, 0, x1.toNatClampNeg))), (0, .ref (g (0, 0, 0))), (1, .int x1), (2, .int x2)] dX9_as_42 rfl (by decide) rfl ?_
      refine zt_aload_n C 0 dX9_as_43 rfl rfl ?_
      refine zt_get C (za_mem (j := 3) rfl (by decide) (za_lt g9)) pf_X9_85 (za_E_3 g cy M6 0 x1.toNatClampNeg) rfl dX9_as_44 ?_
      refine zt_iload_n C 3 dX9_as_47 rfl rfl ?_
      refine zt_cSi C [.int (M6.1 (3, 0, x1.toNatClampNeg) 0), .int x2] (m_X9_isUnder hJ  h) py_X9_isUnder ps_X9_104 (Nat.le_of_ble_eq_true rfl) ⟨Nat.le_of_ble_eq_true rfl, Nat.le_of_ble_eq_true rfl⟩ ⟨Nat.zero_le _, Nat.zero_le _⟩ dX9_as_48 rfl (fun r11 M10 h => ?_)
      refine zt_if_ne C 60 dX9_as_51 (by decide) (fun q12 => ?_) (fun q12 => ?_)
      · replace h := za_ifn h q12
        refine zt_aload_n C 0 dX9_as_60 rfl rfl ?_
        refine zt_get C (za_mem (j := 3) rfl (by decide) (za_lt g9)) pf_X9_88 (za_E_3 g cy M10 0 x1.toNatClampNeg) rfl dX9_as_61 ?_
        exact zt_ret C hr hk rfl dX9_as_64 h
      · replace h := za_ifp h q12
        refine zt_aload_n C 1 dX9_as_54 rfl rfl ?_
        refine zt_iconst C (v := 5) dX9_as_55 zk_i5 ?_
        refine zt_cVi C [.int 5] (m_X9_fail hJ  h) (za_mem (j := 0) rfl (by decide) (by decide)) (za_E_0 g cy M10 0 0) rfl py_X9_fail pv_X9_64 (Nat.le_of_ble_eq_true rfl) ⟨Nat.le_of_ble_eq_true rfl, Nat.le_of_ble_eq_true rfl⟩ ⟨Nat.zero_le _, Nat.zero_le _⟩ dX9_as_56 rfl (fun r14 M13 h => ?_)
        exact zt_ret C hr hk rfl dX9_as_59 h
    · replace h := za_ifp h q8
      refine zt_aload_n C 0 dX9_as_24 rfl rfl ?_
      refine zt_iconst C (v := 1) dX9_as_25 zk_i1 ?_
      refine zt_cVi C [.int 1] (m_X9_fail hJ  h) (za_mem (j := 0) rfl (by decide) (by decide)) (za_E_0 g cy M6 0 0) rfl py_X9_fail pv_X9_64 (Nat.le_of_ble_eq_true rfl) ⟨Nat.le_of_ble_eq_true rfl, Nat.le_of_ble_eq_true rfl⟩ ⟨Nat.zero_le _, Nat.zero_le _⟩ dX9_as_26 rfl (fun r16 M15 h => ?_)
      exact zt_ret C hr hk rfl dX9_as_29 h
end
theorem m_X9_as {l : Launch} {g : za_L → Nat} {D : va_G} {cy : Nat → ClassId} (hJ : za_J g)  {x1 : Int32} {x2 : Int32} {M : za_M} {K : Int32 → za_M → Prop} (h : f_X9_as x1 x2 M K) : za_Mi l g D cy yX9_as cX9_as 4 (some .int) 3 109 [.ref (g (0, 0, 0)), .int x1, .int x2] M K := za_openi hJ (by decide) (Nat.le_of_ble_eq_true rfl) (fun p e s m args below meth c C hr hk => p_X9_as hJ C hr hk  h)
/-! X9_potter -/
def f_X9_potter (M : za_M) (K : Int32 → za_M → Prop) : Prop :=
  if (M.1 (2, 0, 0) 4) < 4 then (vp_in (M.1 (2, 0, 0) 4) 4 ∧ (f_X4_begin 0 ((M.1 (2, 0, 0) 4).toNatClampNeg) M (fun M3 => za_let ((M3.1 (2, 0, 0) 4) + 1) fun y5 => za_let (za_up M3 (2, 0, 0) 4 y5) fun M7 => K ((M7.1 (2, 0, 0) 4) - 1) M7))) else (f_X9_fail 4 M (fun r10 M9 => K r10 M9))
section
variable {p : Program} {l : Launch} {e : Env} {s : State} {m : MethodId} {args : Array Value} {below : List Frame} {meth : Method} {c : Code} {g : za_L → Nat} {D : va_G} {cy : Nat → ClassId} {K : Int32 → za_M → Prop}
set_option maxRecDepth 100000 in
set_option maxHeartbeats 4000000 in
theorem p_X9_potter (hJ : za_J g) (C : za_C p s m args c cX9_potter 2 RX9 g D cy) (hr : meth.sig.returnType = (some .int)) (hk : meth.locks = false) {M : za_M} (h : f_X9_potter M K) : zt p l e (za_rm 3 107) s m args below meth c 0 0 (MQ below (za_Qi g D cy K) args s 0 0 (za_A g)) g D cy 2 M 0 [(0, .ref (g (0, 0, 0)))] [] := by
  unfold f_X9_potter at h
  refine zt_aload_n C 0 dX9_potter_0 rfl rfl ?_
  refine zt_get C (za_mem (j := 0) rfl (by decide) (by decide)) pf_X9_10 (za_E_0 g cy M 0 0) rfl dX9_potter_1 ?_
  refine zt_get C (za_mem (j := 1) rfl (by decide) (by decide)) pf_X9_57 (za_E_1 g cy M 0 0) rfl dX9_potter_4 ?_
  refine zt_astore_n C [(1, .ref (g (2, 0, 0))), (0, .ref (g (0, 0, 0)))] dX9_potter_7 rfl (by decide) rfl ?_
  refine zt_aload_n C 0 dX9_potter_8 rfl rfl ?_
  refine zt_get C (za_mem (j := 2) rfl (by decide) (by decide)) pf_X9_108 (za_E_2 g cy M 0 0) rfl dX9_potter_9 ?_
  refine zt_iconst C (v := 4) dX9_potter_12 zk_i4 ?_
  refine zt_icmp_lt C 22 dX9_potter_13 (by decide) (fun q1 => ?_) (fun q1 => ?_)
  · replace h := za_ifp h q1
    refine zt_aload_n C 0 dX9_potter_22 rfl rfl ?_
    refine zt_get C (za_mem (j := 2) rfl (by decide) (by decide)) pf_X9_111 (za_E_2 g cy M 0 0) rfl dX9_potter_23 ?_
    refine zt_aload_n C 0 dX9_potter_26 rfl rfl ?_
    refine zt_get C (za_mem (j := 2) rfl (by decide) (by decide)) pf_X9_108 (za_E_2 g cy M 0 0) rfl dX9_potter_27 ?_
    obtain ⟨g2, h⟩ := h
    refine zt_aald C (za_mem (j := 11) rfl (by decide) (by decide)) (za_E_11 g cy M 0 0) rfl g2 dX9_potter_30 ?_
    refine zt_cVv C [] (m_X4_begin hJ (by decide) (za_lt g2) h) (za_mem (j := 4) rfl (by decide) (za_lt g2)) (za_E_4 g cy M 0 ((M.1 (2, 0, 0) 4).toNatClampNeg)) rfl py_X4_begin pv_X9_115 (Nat.le_of_ble_eq_true rfl) ⟨Nat.le_of_ble_eq_true rfl, Nat.le_of_ble_eq_true rfl⟩ ⟨Nat.zero_le _, Nat.zero_le _⟩ dX9_potter_31 rfl (fun M3 h => ?_)
    refine zt_aload_n C 0 dX9_potter_34 rfl rfl ?_
    refine zt_dup C dX9_potter_35 rfl ?_
    refine zt_get C (za_mem (j := 2) rfl (by decide) (by decide)) pf_X9_108 (za_E_2 g cy M3 0 0) rfl dX9_potter_36 ?_
    refine zt_iconst C (v := 1) dX9_potter_39 zk_i1 ?_
    refine zt_iadd C dX9_potter_40 ?_
    refine zt_topi (fun y5 e6 => ?_)
    replace h := za_use h e6
    refine zt_put C (za_mem (j := 2) rfl (by decide) (by decide)) pf_X9_108 pt_X1_4 rfl rfl (za_E_2 g cy M3 0 0) rfl (Nat.le_of_ble_eq_true rfl) dX9_potter_41 ?_
    refine zt_topM (fun M7 e8 => ?_)
    replace h := za_use h e8
    refine zt_aload_n C 0 dX9_potter_44 rfl rfl ?_
    refine zt_get C (za_mem (j := 2) rfl (by decide) (by decide)) pf_X9_108 (za_E_2 g cy M7 0 0) rfl dX9_potter_45 ?_
    refine zt_iconst C (v := 1) dX9_potter_48 zk_i1 ?_
    refine zt_isub C dX9_potter_49 ?_
    exact zt_ret C hr hk rfl dX9_potter_50 h
  · replace h := za_ifn h q1
    refine zt_aload_n C 1 dX9_potter_16 rfl rfl ?_
    refine zt_iconst C (v := 4) dX9_potter_17 zk_i4 ?_
    refine zt_cVi C [.int 4] (m_X9_fail hJ  h) (za_mem (j := 0) rfl (by decide) (by decide)) (za_E_0 g cy M 0 0) rfl py_X9_fail pv_X9_64 (Nat.le_of_ble_eq_true rfl) ⟨Nat.le_of_ble_eq_true rfl, Nat.le_of_ble_eq_true rfl⟩ ⟨Nat.zero_le _, Nat.zero_le _⟩ dX9_potter_18 rfl (fun r10 M9 h => ?_)
    exact zt_ret C hr hk rfl dX9_potter_21 h
end
theorem m_X9_potter {l : Launch} {g : za_L → Nat} {D : va_G} {cy : Nat → ClassId} (hJ : za_J g)  {M : za_M} {K : Int32 → za_M → Prop} (h : f_X9_potter M K) : za_Mi l g D cy yX9_potter cX9_potter 2 (some .int) 3 107 [.ref (g (0, 0, 0))] M K := za_openi hJ (by decide) (Nat.le_of_ble_eq_true rfl) (fun p e s m args below meth c C hr hk => p_X9_potter hJ C hr hk  h)
/-! X9_ofPotter -/
def f_X9_ofPotter (x1 : Int32) (x2 : Int32) (M : za_M) (K : Int32 → za_M → Prop) : Prop :=
  f_X1_hasPotter 0 x1 M (fun r2 M1 => if r2 = 0 then (f_X9_fail 1 M1 (fun r17 M16 => K r17 M16)) else (if x2 = 0 then (vp_in x1 4 ∧ (K (M1.1 (4, 0, x1.toNatClampNeg) 1) M1)) else if x2 = 1 then (vp_in x1 4 ∧ (K (M1.1 (4, 0, x1.toNatClampNeg) 2) M1)) else if x2 = 2 then (f_X1_loansHeldBy 0 x1 M1 (fun r10 M9 => K r10 M9)) else if x2 = 3 then (f_X1_owedTo 0 x1 M1 (fun r13 M12 => K r13 M12)) else (f_X9_fail 1 M1 (fun r15 M14 => K r15 M14))))
section
variable {p : Program} {l : Launch} {e : Env} {s : State} {m : MethodId} {args : Array Value} {below : List Frame} {meth : Method} {c : Code} {g : za_L → Nat} {D : va_G} {cy : Nat → ClassId} {K : Int32 → za_M → Prop}
set_option maxRecDepth 100000 in
set_option maxHeartbeats 4000000 in
theorem p_X9_ofPotter (hJ : za_J g) (C : za_C p s m args c cX9_ofPotter 3 RX9 g D cy) (hr : meth.sig.returnType = (some .int)) (hk : meth.locks = false) {x1 : Int32} {x2 : Int32} {M : za_M} (h : f_X9_ofPotter x1 x2 M K) : zt p l e (za_rm 3 107) s m args below meth c 0 0 (MQ below (za_Qi g D cy K) args s 0 0 (za_A g)) g D cy 3 M 0 [(0, .ref (g (0, 0, 0))), (1, .int x1), (2, .int x2)] [] := by
  unfold f_X9_ofPotter at h
  refine zt_aload_n C 0 dX9_ofPotter_0 rfl rfl ?_
  refine zt_get C (za_mem (j := 0) rfl (by decide) (by decide)) pf_X9_10 (za_E_0 g cy M 0 0) rfl dX9_ofPotter_1 ?_
  refine zt_get C (za_mem (j := 1) rfl (by decide) (by decide)) pf_X9_57 (za_E_1 g cy M 0 0) rfl dX9_ofPotter_4 ?_
  refine zt_iload_n C 1 dX9_ofPotter_7 rfl rfl ?_
  refine zt_cVi C [.int x1] (m_X1_hasPotter hJ (by decide) h) (za_mem (j := 2) rfl (by decide) (by decide)) (za_E_2 g cy M 0 0) rfl py_X1_hasPotter pv_X9_119 (Nat.le_of_ble_eq_true rfl) ⟨Nat.le_of_ble_eq_true rfl, Nat.le_of_ble_eq_true rfl⟩ ⟨Nat.zero_le _, Nat.zero_le _⟩ dX9_ofPotter_8 rfl (fun r2 M1 h => ?_)
  refine zt_if_ne C 20 dX9_ofPotter_11 (by decide) (fun q3 => ?_) (fun q3 => ?_)
  · replace h := za_ifn h q3
    refine zt_iload_n C 2 dX9_ofPotter_20 rfl rfl ?_
    by_cases q4 : x2 = 0
    · replace h := za_ifp h q4
      refine zt_tableIn C (off := 31) 52 dX9_ofPotter_21 (by rw [q4]; decide) (by rw [q4]; decide) (by rw [q4]; decide) (by decide) ?_
      refine zt_aload_n C 0 dX9_ofPotter_52 rfl rfl ?_
      refine zt_get C (za_mem (j := 0) rfl (by decide) (by decide)) pf_X9_10 (za_E_0 g cy M1 0 0) rfl dX9_ofPotter_53 ?_
      refine zt_get C (za_mem (j := 1) rfl (by decide) (by decide)) pf_X9_57 (za_E_1 g cy M1 0 0) rfl dX9_ofPotter_56 ?_
      refine zt_get C (za_mem (j := 2) rfl (by decide) (by decide)) pf_X9_111 (za_E_2 g cy M1 0 0) rfl dX9_ofPotter_59 ?_
      refine zt_iload_n C 1 dX9_ofPotter_62 rfl rfl ?_
      obtain ⟨g5, h⟩ := h
      refine zt_aald C (za_mem (j := 11) rfl (by decide) (by decide)) (za_E_11 g cy M1 0 0) rfl g5 dX9_ofPotter_63 ?_
      refine zt_get C (za_mem (j := 4) rfl (by decide) (za_lt g5)) pf_X9_122 (za_E_4 g cy M1 0 x1.toNatClampNeg) rfl dX9_ofPotter_64 ?_
      exact zt_ret C hr hk rfl dX9_ofPotter_67 h
    replace h := za_ifn h q4
    by_cases q6 : x2 = 1
    · replace h := za_ifp h q6
      refine zt_tableIn C (off := 47) 68 dX9_ofPotter_21 (by rw [q6]; decide) (by rw [q6]; decide) (by rw [q6]; decide) (by decide) ?_
      refine zt_aload_n C 0 dX9_ofPotter_68 rfl rfl ?_
      refine zt_get C (za_mem (j := 0) rfl (by decide) (by decide)) pf_X9_10 (za_E_0 g cy M1 0 0) rfl dX9_ofPotter_69 ?_
      refine zt_get C (za_mem (j := 1) rfl (by decide) (by decide)) pf_X9_57 (za_E_1 g cy M1 0 0) rfl dX9_ofPotter_72 ?_
      refine zt_get C (za_mem (j := 2) rfl (by decide) (by decide)) pf_X9_111 (za_E_2 g cy M1 0 0) rfl dX9_ofPotter_75 ?_
      refine zt_iload_n C 1 dX9_ofPotter_78 rfl rfl ?_
      obtain ⟨g7, h⟩ := h
      refine zt_aald C (za_mem (j := 11) rfl (by decide) (by decide)) (za_E_11 g cy M1 0 0) rfl g7 dX9_ofPotter_79 ?_
      refine zt_get C (za_mem (j := 4) rfl (by decide) (za_lt g7)) pf_X9_125 (za_E_4 g cy M1 0 x1.toNatClampNeg) rfl dX9_ofPotter_80 ?_
      exact zt_ret C hr hk rfl dX9_ofPotter_83 h
    replace h := za_ifn h q6
    by_cases q8 : x2 = 2
    · replace h := za_ifp h q8
      refine zt_tableIn C (off := 63) 84 dX9_ofPotter_21 (by rw [q8]; decide) (by rw [q8]; decide) (by rw [q8]; decide) (by decide) ?_
      refine zt_aload_n C 0 dX9_ofPotter_84 rfl rfl ?_
      refine zt_get C (za_mem (j := 0) rfl (by decide) (by decide)) pf_X9_10 (za_E_0 g cy M1 0 0) rfl dX9_ofPotter_85 ?_
      refine zt_get C (za_mem (j := 1) rfl (by decide) (by decide)) pf_X9_57 (za_E_1 g cy M1 0 0) rfl dX9_ofPotter_88 ?_
      refine zt_iload_n C 1 dX9_ofPotter_91 rfl rfl ?_
      refine zt_cVi C [.int x1] (m_X1_loansHeldBy hJ (by decide) h) (za_mem (j := 2) rfl (by decide) (by decide)) (za_E_2 g cy M1 0 0) rfl py_X1_loansHeldBy pv_X9_128 (Nat.le_of_ble_eq_true rfl) ⟨Nat.le_of_ble_eq_true rfl, Nat.le_of_ble_eq_true rfl⟩ ⟨Nat.zero_le _, Nat.zero_le _⟩ dX9_ofPotter_92 rfl (fun r10 M9 h => ?_)
      exact zt_ret C hr hk rfl dX9_ofPotter_95 h
    replace h := za_ifn h q8
    by_cases q11 : x2 = 3
    · replace h := za_ifp h q11
      refine zt_tableIn C (off := 75) 96 dX9_ofPotter_21 (by rw [q11]; decide) (by rw [q11]; decide) (by rw [q11]; decide) (by decide) ?_
      refine zt_aload_n C 0 dX9_ofPotter_96 rfl rfl ?_
      refine zt_get C (za_mem (j := 0) rfl (by decide) (by decide)) pf_X9_10 (za_E_0 g cy M1 0 0) rfl dX9_ofPotter_97 ?_
      refine zt_get C (za_mem (j := 1) rfl (by decide) (by decide)) pf_X9_57 (za_E_1 g cy M1 0 0) rfl dX9_ofPotter_100 ?_
      refine zt_iload_n C 1 dX9_ofPotter_103 rfl rfl ?_
      refine zt_cVi C [.int x1] (m_X1_owedTo hJ (by decide) h) (za_mem (j := 2) rfl (by decide) (by decide)) (za_E_2 g cy M1 0 0) rfl py_X1_owedTo pv_X9_131 (Nat.le_of_ble_eq_true rfl) ⟨Nat.le_of_ble_eq_true rfl, Nat.le_of_ble_eq_true rfl⟩ ⟨Nat.zero_le _, Nat.zero_le _⟩ dX9_ofPotter_104 rfl (fun r13 M12 h => ?_)
      exact zt_ret C hr hk rfl dX9_ofPotter_107 h
    replace h := za_ifn h q11
    have q4' := lv_neT (a := 0) q4 (by decide)
    have q6' := lv_neT (a := 1) q6 (by decide)
    have q8' := lv_neT (a := 2) q8 (by decide)
    have q11' := lv_neT (a := 3) q11 (by decide)
    refine zt_tableOut C 108 dX9_ofPotter_21 (by omega) (by decide) ?_
    refine zt_aload_n C 0 dX9_ofPotter_108 rfl rfl ?_
    refine zt_iconst C (v := 1) dX9_ofPotter_109 zk_i1 ?_
    refine zt_cVi C [.int 1] (m_X9_fail hJ  h) (za_mem (j := 0) rfl (by decide) (by decide)) (za_E_0 g cy M1 0 0) rfl py_X9_fail pv_X9_64 (Nat.le_of_ble_eq_true rfl) ⟨Nat.le_of_ble_eq_true rfl, Nat.le_of_ble_eq_true rfl⟩ ⟨Nat.zero_le _, Nat.zero_le _⟩ dX9_ofPotter_110 rfl (fun r15 M14 h => ?_)
    exact zt_ret C hr hk rfl dX9_ofPotter_113 h
  · replace h := za_ifp h q3
    refine zt_aload_n C 0 dX9_ofPotter_14 rfl rfl ?_
    refine zt_iconst C (v := 1) dX9_ofPotter_15 zk_i1 ?_
    refine zt_cVi C [.int 1] (m_X9_fail hJ  h) (za_mem (j := 0) rfl (by decide) (by decide)) (za_E_0 g cy M1 0 0) rfl py_X9_fail pv_X9_64 (Nat.le_of_ble_eq_true rfl) ⟨Nat.le_of_ble_eq_true rfl, Nat.le_of_ble_eq_true rfl⟩ ⟨Nat.zero_le _, Nat.zero_le _⟩ dX9_ofPotter_16 rfl (fun r17 M16 h => ?_)
    exact zt_ret C hr hk rfl dX9_ofPotter_19 h
end
theorem m_X9_ofPotter {l : Launch} {g : za_L → Nat} {D : va_G} {cy : Nat → ClassId} (hJ : za_J g)  {x1 : Int32} {x2 : Int32} {M : za_M} {K : Int32 → za_M → Prop} (h : f_X9_ofPotter x1 x2 M K) : za_Mi l g D cy yX9_ofPotter cX9_ofPotter 3 (some .int) 3 107 [.ref (g (0, 0, 0)), .int x1, .int x2] M K := za_openi hJ (by decide) (Nat.le_of_ble_eq_true rfl) (fun p e s m args below meth c C hr hk => p_X9_ofPotter hJ C hr hk  h)
/-! X9_store -/
def f_X9_store (x1 : Int32) (x2 : Int32) (x3 : Int32) (M : za_M) (K : Int32 → za_M → Prop) : Prop :=
  f_X1_hasPotter 0 x1 M (fun r2 M1 => if r2 = 0 then (f_X9_fail 1 M1 (fun r5 M4 => K r5 M4)) else (f_X1_hasAsh 0 x2 M1 (fun r7 M6 => if r7 = 0 then (f_X9_fail 1 M6 (fun r10 M9 => K r10 M9)) else (f_X9_within x3 0 999 M6 (fun r12 M11 => if r12 = 0 then (f_X9_fail 1 M11 (fun r22 M21 => K r22 M21)) else (vp_in x1 4 ∧ (vp_in x2 5 ∧ (za_let (M11.1 (13, 0, x1.toNatClampNeg) x2.toNatClampNeg) fun y16 => vp_in x2 5 ∧ (za_let (za_up M11 (13, 0, x1.toNatClampNeg) x2.toNatClampNeg x3) fun M19 => K y16 M19)))))))))
section
variable {p : Program} {l : Launch} {e : Env} {s : State} {m : MethodId} {args : Array Value} {below : List Frame} {meth : Method} {c : Code} {g : za_L → Nat} {D : va_G} {cy : Nat → ClassId} {K : Int32 → za_M → Prop}
set_option maxRecDepth 100000 in
set_option maxHeartbeats 4000000 in
theorem p_X9_store (hJ : za_J g) (C : za_C p s m args c cX9_store 6 RX9 g D cy) (hr : meth.sig.returnType = (some .int)) (hk : meth.locks = false) {x1 : Int32} {x2 : Int32} {x3 : Int32} {M : za_M} (h : f_X9_store x1 x2 x3 M K) : zt p l e (za_rm 3 107) s m args below meth c 0 0 (MQ below (za_Qi g D cy K) args s 0 0 (za_A g)) g D cy 6 M 0 [(0, .ref (g (0, 0, 0))), (1, .int x1), (2, .int x2), (3, .int x3)] [] := by
  unfold f_X9_store at h
  refine zt_aload_n C 0 dX9_store_0 rfl rfl ?_
  refine zt_get C (za_mem (j := 0) rfl (by decide) (by decide)) pf_X9_10 (za_E_0 g cy M 0 0) rfl dX9_store_1 ?_
  refine zt_get C (za_mem (j := 1) rfl (by decide) (by decide)) pf_X9_57 (za_E_1 g cy M 0 0) rfl dX9_store_4 ?_
  refine zt_iload_n C 1 dX9_store_7 rfl rfl ?_
  refine zt_cVi C [.int x1] (m_X1_hasPotter hJ (by decide) h) (za_mem (j := 2) rfl (by decide) (by decide)) (za_E_2 g cy M 0 0) rfl py_X1_hasPotter pv_X9_119 (Nat.le_of_ble_eq_true rfl) ⟨Nat.le_of_ble_eq_true rfl, Nat.le_of_ble_eq_true rfl⟩ ⟨Nat.zero_le _, Nat.zero_le _⟩ dX9_store_8 rfl (fun r2 M1 h => ?_)
  refine zt_if_eq C 39 dX9_store_11 (by decide) (fun q3 => ?_) (fun q3 => ?_)
  · replace h := za_ifp h q3
    refine zt_aload_n C 0 dX9_store_39 rfl rfl ?_
    refine zt_iconst C (v := 1) dX9_store_40 zk_i1 ?_
    refine zt_cVi C [.int 1] (m_X9_fail hJ  h) (za_mem (j := 0) rfl (by decide) (by decide)) (za_E_0 g cy M1 0 0) rfl py_X9_fail pv_X9_64 (Nat.le_of_ble_eq_true rfl) ⟨Nat.le_of_ble_eq_true rfl, Nat.le_of_ble_eq_true rfl⟩ ⟨Nat.zero_le _, Nat.zero_le _⟩ dX9_store_41 rfl (fun r5 M4 h => ?_)
    exact zt_ret C hr hk rfl dX9_store_44 h
  · replace h := za_ifn h q3
    refine zt_aload_n C 0 dX9_store_14 rfl rfl ?_
    refine zt_get C (za_mem (j := 0) rfl (by decide) (by decide)) pf_X9_10 (za_E_0 g cy M1 0 0) rfl dX9_store_15 ?_
    refine zt_get C (za_mem (j := 1) rfl (by decide) (by decide)) pf_X9_57 (za_E_1 g cy M1 0 0) rfl dX9_store_18 ?_
    refine zt_iload_n C 2 dX9_store_21 rfl rfl ?_
    refine zt_cVi C [.int x2] (m_X1_hasAsh hJ (by decide) h) (za_mem (j := 2) rfl (by decide) (by decide)) (za_E_2 g cy M1 0 0) rfl py_X1_hasAsh pv_X9_82 (Nat.le_of_ble_eq_true rfl) ⟨Nat.le_of_ble_eq_true rfl, Nat.le_of_ble_eq_true rfl⟩ ⟨Nat.zero_le _, Nat.zero_le _⟩ dX9_store_22 rfl (fun r7 M6 h => ?_)
    refine zt_if_eq C 39 dX9_store_25 (by decide) (fun q8 => ?_) (fun q8 => ?_)
    · replace h := za_ifp h q8
      refine zt_aload_n C 0 dX9_store_39 rfl rfl ?_
      refine zt_iconst C (v := 1) dX9_store_40 zk_i1 ?_
      refine zt_cVi C [.int 1] (m_X9_fail hJ  h) (za_mem (j := 0) rfl (by decide) (by decide)) (za_E_0 g cy M6 0 0) rfl py_X9_fail pv_X9_64 (Nat.le_of_ble_eq_true rfl) ⟨Nat.le_of_ble_eq_true rfl, Nat.le_of_ble_eq_true rfl⟩ ⟨Nat.zero_le _, Nat.zero_le _⟩ dX9_store_41 rfl (fun r10 M9 h => ?_)
      exact zt_ret C hr hk rfl dX9_store_44 h
    · replace h := za_ifn h q8
      refine zt_iload_n C 3 dX9_store_28 rfl rfl ?_
      refine zt_iconst C (v := 0) dX9_store_29 zk_i0 ?_
      refine zt_sipush C (v := 999) dX9_store_30 zk_s999 ?_
      refine zt_cSi C [.int x3, .int 0, .int 999] (m_X9_within hJ  h) py_X9_within ps_X9_100 (Nat.le_of_ble_eq_true rfl) ⟨Nat.le_of_ble_eq_true rfl, Nat.le_of_ble_eq_true rfl⟩ ⟨Nat.zero_le _, Nat.zero_le _⟩ dX9_store_33 rfl (fun r12 M11 h => ?_)
      refine zt_if_ne C 45 dX9_store_36 (by decide) (fun q13 => ?_) (fun q13 => ?_)
      · replace h := za_ifn h q13
        refine zt_aload_n C 0 dX9_store_45 rfl rfl ?_
        refine zt_get C (za_mem (j := 0) rfl (by decide) (by decide)) pf_X9_10 (za_E_0 g cy M11 0 0) rfl dX9_store_46 ?_
        refine zt_get C (za_mem (j := 1) rfl (by decide) (by decide)) pf_X9_57 (za_E_1 g cy M11 0 0) rfl dX9_store_49 ?_
        refine zt_get C (za_mem (j := 2) rfl (by decide) (by decide)) pf_X9_111 (za_E_2 g cy M11 0 0) rfl dX9_store_52 ?_
        refine zt_iload_n C 1 dX9_store_55 rfl rfl ?_
        obtain ⟨g14, h⟩ := h
        refine zt_aald C (za_mem (j := 11) rfl (by decide) (by decide)) (za_E_11 g cy M11 0 0) rfl g14 dX9_store_56 ?_
        refine zt_get C (za_mem (j := 4) rfl (by decide) (za_lt g14)) pf_X9_134 (za_E_4 g cy M11 0 x1.toNatClampNeg) rfl dX9_store_57 ?_
        refine zt_astore C [(4, .ref (g (13, 0, x1.toNatClampNeg))), (0, .ref (g (0, 0, 0))), (1, .int x1), (2, .int x2), (3, .int x3)] dX9_store_60 (by decide) rfl ?_
        refine zt_aload C 0 dX9_store_62 rfl ?_
        refine zt_iload_n C 3 dX9_store_64 rfl rfl ?_
        obtain ⟨g15, h⟩ := h
        refine zt_iald C (za_mem (j := 13) rfl (by decide) (za_lt g14)) (fun W9 => za_E_13 g cy W9 0 x1.toNatClampNeg) g15 dX9_store_65 ?_
        refine zt_topi (fun y16 e17 => ?_)
        replace h := za_use h e17
        refine zt_istore C [(5, .int y16), (4, .ref (g (13, 0, x1.toNatClampNeg))), (0, .ref (g (0, 0, 0))), (1, .int x1), (2, .int x2), (3, .int x3)] dX9_store_66 (by decide) rfl ?_
        refine zt_aload C 1 dX9_store_68 rfl ?_
        refine zt_iload_n C 4 dX9_store_70 rfl rfl ?_
        refine zt_iload_n C 5 dX9_store_71 rfl rfl ?_
        obtain ⟨g18, h⟩ := h
        refine zt_iast C (za_mem (j := 13) rfl (by decide) (za_lt g14)) (fun W9 => za_E_13 g cy W9 0 x1.toNatClampNeg) g18 dX9_store_72 ?_
        refine zt_topM (fun M19 e20 => ?_)
        replace h := za_use h e20
        refine zt_iload C 0 dX9_store_73 rfl ?_
        exact zt_ret C hr hk rfl dX9_store_75 h
      · replace h := za_ifp h q13
        refine zt_aload_n C 0 dX9_store_39 rfl rfl ?_
        refine zt_iconst C (v := 1) dX9_store_40 zk_i1 ?_
        refine zt_cVi C [.int 1] (m_X9_fail hJ  h) (za_mem (j := 0) rfl (by decide) (by decide)) (za_E_0 g cy M11 0 0) rfl py_X9_fail pv_X9_64 (Nat.le_of_ble_eq_true rfl) ⟨Nat.le_of_ble_eq_true rfl, Nat.le_of_ble_eq_true rfl⟩ ⟨Nat.zero_le _, Nat.zero_le _⟩ dX9_store_41 rfl (fun r22 M21 h => ?_)
        exact zt_ret C hr hk rfl dX9_store_44 h
end
theorem m_X9_store {l : Launch} {g : za_L → Nat} {D : va_G} {cy : Nat → ClassId} (hJ : za_J g)  {x1 : Int32} {x2 : Int32} {x3 : Int32} {M : za_M} {K : Int32 → za_M → Prop} (h : f_X9_store x1 x2 x3 M K) : za_Mi l g D cy yX9_store cX9_store 6 (some .int) 3 107 [.ref (g (0, 0, 0)), .int x1, .int x2, .int x3] M K := za_openi hJ (by decide) (Nat.le_of_ble_eq_true rfl) (fun p e s m args below meth c C hr hk => p_X9_store hJ C hr hk  h)

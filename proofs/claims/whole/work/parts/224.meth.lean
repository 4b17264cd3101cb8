/-! X10_then -/
def f_X10_then (x1 : Int32) (x2 : Int32) (x3 : Int32) (M : za_M) (K : Int32 → za_M → Prop) : Prop :=
  f_X10_within x1 0 60 M (fun r2 M1 => if r2 = 0 then (f_X10_finding (-1000000001) M1 (fun r5 M4 => K r5 M4)) else (f_X10_isPotter x2 M1 (fun r7 M6 => if r7 = 0 then (f_X10_finding (-1000000001) M6 (fun r10 M9 => K r10 M9)) else (vp_in 1 279 ∧ (f_X10_within x3 (-1) ((M6.1 (28, 0, 0) (Int32.toNatClampNeg 1)) - 1) M6 (fun r13 M12 => if r13 = 0 then (f_X10_finding (-1000000001) M12 (fun r31 M30 => K r31 M30)) else (f_X10_copy (28, 0, 0) (30, 0, 0) M12 (fun M15 => f_X10_daysGo x1 M15 (fun M17 => if 0 ≤ x3 then (f_X10_storeAt x2 x3 M17 (fun r21 M20 => vp_in r21 279 ∧ (f_X10_putBack (M20.1 (28, 0, 0) r21.toNatClampNeg) M20 (fun r24 M23 => K r24 M23)))) else (f_X10_potterAt x2 1 M17 (fun r26 M25 => vp_in r26 279 ∧ (f_X10_putBack (M25.1 (28, 0, 0) r26.toNatClampNeg) M25 (fun r29 M28 => K r29 M28)))))))))))))
section
variable {p : Program} {l : Launch} {e : Env} {s : State} {m : MethodId} {args : Array Value} {below : List Frame} {meth : Method} {c : Code} {g : za_L → Nat} {D : va_G} {cy : Nat → ClassId} {K : Int32 → za_M → Prop}
set_option maxRecDepth 100000 in
set_option maxHeartbeats 4000000 in
theorem p_X10_then (hJ : za_J g) (C : za_C p s m args c cX10_then 4 RX10 g D cy) (hr : meth.sig.returnType = (some .int)) (hk : meth.locks = false) {x1 : Int32} {x2 : Int32} {x3 : Int32} {M : za_M} (h : f_X10_then x1 x2 x3 M K) : zt p l e (za_rm 7 204) s m args below meth c 0 0 (MQ below (za_Qi g D cy K) args s 0 0 (za_A g)) g D cy 4 M 0 [(0, .ref (g (27, 0, 0))), (1, .int x1), (2, .int x2), (3, .int x3)] [] := by
  unfold f_X10_then at h
  refine zt_iload_n C 1 dX10_then_0 rfl rfl ?_
  refine zt_iconst C (v := 0) dX10_then_1 zk_i0 ?_
  refine zt_bipush C (v := 60) dX10_then_2 zk_b60 ?_
  refine zt_cSi C [.int x1, .int 0, .int 60] (m_X10_within hJ  h) py_X10_within ps_X10_70 (Nat.le_of_ble_eq_true rfl) ⟨Nat.le_of_ble_eq_true rfl, Nat.le_of_ble_eq_true rfl⟩ ⟨Nat.zero_le _, Nat.zero_le _⟩ dX10_then_4 rfl (fun r2 M1 h => ?_)
  refine zt_if_eq C 34 dX10_then_7 (by decide) (fun q3 => ?_) (fun q3 => ?_)
  · replace h := za_ifp h q3
    refine zt_aload_n C 0 dX10_then_34 rfl rfl ?_
    refine zt_ldc C w_969 dX10_then_35 ?_
    refine zt_cVi C [.int (-1000000001)] (m_X10_finding hJ  h) (za_mem (j := 27) rfl (by decide) (by decide)) (za_E_27 g cy M1 0 0) rfl py_X10_finding pv_X10_75 (Nat.le_of_ble_eq_true rfl) ⟨Nat.le_of_ble_eq_true rfl, Nat.le_of_ble_eq_true rfl⟩ ⟨Nat.zero_le _, Nat.zero_le _⟩ dX10_then_37 rfl (fun r5 M4 h => ?_)
    exact zt_ret C hr hk rfl dX10_then_40 h
  · replace h := za_ifn h q3
    refine zt_aload_n C 0 dX10_then_10 rfl rfl ?_
    refine zt_iload_n C 2 dX10_then_11 rfl rfl ?_
    refine zt_cVi C [.int x2] (m_X10_isPotter hJ  h) (za_mem (j := 27) rfl (by decide) (by decide)) (za_E_27 g cy M1 0 0) rfl py_X10_isPotter pv_X10_197 (Nat.le_of_ble_eq_true rfl) ⟨Nat.le_of_ble_eq_true rfl, Nat.le_of_ble_eq_true rfl⟩ ⟨Nat.zero_le _, Nat.zero_le _⟩ dX10_then_12 rfl (fun r7 M6 h => ?_)
    refine zt_if_eq C 34 dX10_then_15 (by decide) (fun q8 => ?_) (fun q8 => ?_)
    · replace h := za_ifp h q8
      refine zt_aload_n C 0 dX10_then_34 rfl rfl ?_
      refine zt_ldc C w_969 dX10_then_35 ?_
      refine zt_cVi C [.int (-1000000001)] (m_X10_finding hJ  h) (za_mem (j := 27) rfl (by decide) (by decide)) (za_E_27 g cy M6 0 0) rfl py_X10_finding pv_X10_75 (Nat.le_of_ble_eq_true rfl) ⟨Nat.le_of_ble_eq_true rfl, Nat.le_of_ble_eq_true rfl⟩ ⟨Nat.zero_le _, Nat.zero_le _⟩ dX10_then_37 rfl (fun r10 M9 h => ?_)
      exact zt_ret C hr hk rfl dX10_then_40 h
    · replace h := za_ifn h q8
      refine zt_iload_n C 3 dX10_then_18 rfl rfl ?_
      refine zt_iconst C (v := (-1)) dX10_then_19 zk_im1 ?_
      refine zt_aload_n C 0 dX10_then_20 rfl rfl ?_
      refine zt_get C (za_mem (j := 27) rfl (by decide) (by decide)) pf_X10_9 (za_E_27 g cy M6 0 0) rfl dX10_then_21 ?_
      refine zt_iconst C (v := 1) dX10_then_24 zk_i1 ?_
      obtain ⟨g11, h⟩ := h
      refine zt_iald C (za_mem (j := 28) rfl (by decide) (by decide)) (fun W9 => za_E_28 g cy W9 0 0) g11 dX10_then_25 ?_
      refine zt_iconst C (v := 1) dX10_then_26 zk_i1 ?_
      refine zt_isub C dX10_then_27 ?_
      refine zt_cSi C [.int x3, .int (-1), .int ((M6.1 (28, 0, 0) (Int32.toNatClampNeg 1)) - 1)] (m_X10_within hJ  h) py_X10_within ps_X10_70 (Nat.le_of_ble_eq_true rfl) ⟨Nat.le_of_ble_eq_true rfl, Nat.le_of_ble_eq_true rfl⟩ ⟨Nat.zero_le _, Nat.zero_le _⟩ dX10_then_28 rfl (fun r13 M12 h => ?_)
      refine zt_if_ne C 41 dX10_then_31 (by decide) (fun q14 => ?_) (fun q14 => ?_)
      · replace h := za_ifn h q14
        refine zt_aload_n C 0 dX10_then_41 rfl rfl ?_
        refine zt_get C (za_mem (j := 27) rfl (by decide) (by decide)) pf_X10_9 (za_E_27 g cy M12 0 0) rfl dX10_then_42 ?_
        refine zt_aload_n C 0 dX10_then_45 rfl rfl ?_
        refine zt_get C (za_mem (j := 27) rfl (by decide) (by decide)) pf_X10_16 (za_E_27 g cy M12 0 0) rfl dX10_then_46 ?_
        refine zt_cSv C [.ref (g (28, 0, 0)), .ref (g (30, 0, 0))] (m_X10_copy hJ (za_I_of (za_mem (j := 28) rfl (by decide) (by decide)) (fun g9 cy9 W9 => za_E_28 g9 cy9 W9 0 0)) (za_I_of (za_mem (j := 30) rfl (by decide) (by decide)) (fun g9 cy9 W9 => za_E_30 g9 cy9 W9 0 0)) h) py_X10_copy ps_X10_66 (Nat.le_of_ble_eq_true rfl) ⟨Nat.le_of_ble_eq_true rfl, Nat.le_of_ble_eq_true rfl⟩ ⟨Nat.zero_le _, Nat.zero_le _⟩ dX10_then_49 rfl (fun M15 h => ?_)
        refine zt_aload_n C 0 dX10_then_52 rfl rfl ?_
        refine zt_iload_n C 1 dX10_then_53 rfl rfl ?_
        refine zt_cVv C [.int x1] (m_X10_daysGo hJ  h) (za_mem (j := 27) rfl (by decide) (by decide)) (za_E_27 g cy M15 0 0) rfl py_X10_daysGo pv_X10_259 (Nat.le_of_ble_eq_true rfl) ⟨Nat.le_of_ble_eq_true rfl, Nat.le_of_ble_eq_true rfl⟩ ⟨Nat.zero_le _, Nat.zero_le _⟩ dX10_then_54 rfl (fun M17 h => ?_)
        refine zt_aload_n C 0 dX10_then_57 rfl rfl ?_
        refine zt_aload_n C 0 dX10_then_58 rfl rfl ?_
        refine zt_get C (za_mem (j := 27) rfl (by decide) (by decide)) pf_X10_9 (za_E_27 g cy M17 0 0) rfl dX10_then_59 ?_
        refine zt_iload_n C 3 dX10_then_62 rfl rfl ?_
        refine zt_if_ge C 74 dX10_then_63 (by decide) (fun q19 => ?_) (fun q19 => ?_)
        · replace h := za_ifp h q19
          refine zt_iload_n C 2 dX10_then_74 rfl rfl ?_
          refine zt_iload_n C 3 dX10_then_75 rfl rfl ?_
          refine zt_cSi C [.int x2, .int x3] (m_X10_storeAt hJ  h) py_X10_storeAt ps_X10_162 (Nat.le_of_ble_eq_true rfl) ⟨Nat.le_of_ble_eq_true rfl, Nat.le_of_ble_eq_true rfl⟩ ⟨Nat.zero_le _, Nat.zero_le _⟩ dX10_then_76 rfl (fun r21 M20 h => ?_)
          obtain ⟨g22, h⟩ := h
          refine zt_iald C (za_mem (j := 28) rfl (by decide) (by decide)) (fun W9 => za_E_28 g cy W9 0 0) g22 dX10_then_79 ?_
          refine zt_cVi C [.int (M20.1 (28, 0, 0) r21.toNatClampNeg)] (m_X10_putBack hJ  h) (za_mem (j := 27) rfl (by decide) (by decide)) (za_E_27 g cy M20 0 0) rfl py_X10_putBack pv_X10_266 (Nat.le_of_ble_eq_true rfl) ⟨Nat.le_of_ble_eq_true rfl, Nat.le_of_ble_eq_true rfl⟩ ⟨Nat.zero_le _, Nat.zero_le _⟩ dX10_then_80 rfl (fun r24 M23 h => ?_)
          exact zt_ret C hr hk rfl dX10_then_83 h
        · replace h := za_ifn h q19
          refine zt_iload_n C 2 dX10_then_66 rfl rfl ?_
          refine zt_iconst C (v := 1) dX10_then_67 zk_i1 ?_
          refine zt_cSi C [.int x2, .int 1] (m_X10_potterAt hJ  h) py_X10_potterAt ps_X10_191 (Nat.le_of_ble_eq_true rfl) ⟨Nat.le_of_ble_eq_true rfl, Nat.le_of_ble_eq_true rfl⟩ ⟨Nat.zero_le _, Nat.zero_le _⟩ dX10_then_68 rfl (fun r26 M25 h => ?_)
          refine zt_goto C 79 dX10_then_71 (by decide) ?_
          obtain ⟨g27, h⟩ := h
          refine zt_iald C (za_mem (j := 28) rfl (by decide) (by decide)) (fun W9 => za_E_28 g cy W9 0 0) g27 dX10_then_79 ?_
          refine zt_cVi C [.int (M25.1 (28, 0, 0) r26.toNatClampNeg)] (m_X10_putBack hJ  h) (za_mem (j := 27) rfl (by decide) (by decide)) (za_E_27 g cy M25 0 0) rfl py_X10_putBack pv_X10_266 (Nat.le_of_ble_eq_true rfl) ⟨Nat.le_of_ble_eq_true rfl, Nat.le_of_ble_eq_true rfl⟩ ⟨Nat.zero_le _, Nat.zero_le _⟩ dX10_then_80 rfl (fun r29 M28 h => ?_)
          exact zt_ret C hr hk rfl dX10_then_83 h
      · replace h := za_ifp h q14
        refine zt_aload_n C 0 dX10_then_34 rfl rfl ?_
        refine zt_ldc C w_969 dX10_then_35 ?_
        refine zt_cVi C [.int (-1000000001)] (m_X10_finding hJ  h) (za_mem (j := 27) rfl (by decide) (by decide)) (za_E_27 g cy M12 0 0) rfl py_X10_finding pv_X10_75 (Nat.le_of_ble_eq_true rfl) ⟨Nat.le_of_ble_eq_true rfl, Nat.le_of_ble_eq_true rfl⟩ ⟨Nat.zero_le _, Nat.zero_le _⟩ dX10_then_37 rfl (fun r31 M30 h => ?_)
        exact zt_ret C hr hk rfl dX10_then_40 h
end
theorem m_X10_then {l : Launch} {g : za_L → Nat} {D : va_G} {cy : Nat → ClassId} (hJ : za_J g)  {x1 : Int32} {x2 : Int32} {x3 : Int32} {M : za_M} {K : Int32 → za_M → Prop} (h : f_X10_then x1 x2 x3 M K) : za_Mi l g D cy yX10_then cX10_then 4 (some .int) 7 204 [.ref (g (27, 0, 0)), .int x1, .int x2, .int x3] M K := za_openi hJ (by decide) (Nat.le_of_ble_eq_true rfl) (fun p e s m args below meth c C hr hk => p_X10_then hJ C hr hk  h)
/-! X10_breaks -/
def f_X10_breaks_b85 (K : Int32 → za_M → Prop) (x3 : Int32) (s0 : Int32) (M : za_M) : Prop :=
  f_X10_copy (30, 0, 0) (28, 0, 0) M (fun M1 => if s0 = 0 then (f_X10_finding (-1000000002) M1 (fun r5 M4 => K r5 M4)) else (K x3 M1))
def f_X10_breaks_b65 (K : Int32 → za_M → Prop) (x2 : Int32) (x3 : Int32) (M : za_M) : Prop :=
  vp_in x2 279 ∧ (vp_in x2 279 ∧ (if (M.1 (28, 0, 0) x2.toNatClampNeg) ≤ (M.1 (30, 0, 0) x2.toNatClampNeg) then (f_X10_breaks_b85 K x3 0 M) else (f_X10_breaks_b85 K x3 1 M)))
def f_X10_breaks_b34 (K : Int32 → za_M → Prop) (x2 : Int32) (L34 : Int32 → za_M → Prop) (x3 : Int32) (M : za_M) : Prop :=
  if 60 ≤ x3 then (f_X10_breaks_b65 K x2 x3 M) else (vp_in x2 279 ∧ (vp_in x2 279 ∧ (if (M.1 (28, 0, 0) x2.toNatClampNeg) = (M.1 (30, 0, 0) x2.toNatClampNeg) then (f_X10_day M (fun M13 => L34 (x3 + 1) M13)) else (f_X10_breaks_b65 K x2 x3 M))))
def f_X10_breaks (x1 : Int32) (M : za_M) (K : Int32 → za_M → Prop) : Prop :=
  f_X10_isPotter x1 M (fun r16 M15 => if r16 = 0 then (f_X10_finding (-1000000001) M15 (fun r23 M22 => K r23 M22)) else (f_X10_copy (28, 0, 0) (30, 0, 0) M15 (fun M18 => f_X10_potterAt x1 1 M18 (fun r21 M20 => ∃ n, za_lp1 (f_X10_breaks_b34 K r21) n 0 M20))))
section
variable {p : Program} {l : Launch} {e : Env} {s : State} {m : MethodId} {args : Array Value} {below : List Frame} {meth : Method} {c : Code} {g : za_L → Nat} {D : va_G} {cy : Nat → ClassId} {K : Int32 → za_M → Prop}
set_option maxRecDepth 100000 in
set_option maxHeartbeats 4000000 in
theorem p_X10_breaks_b85 (hJ : za_J g) (C : za_C p s m args c cX10_breaks 5 RX10 g D cy) (hr : meth.sig.returnType = (some .int)) (hk : meth.locks = false) {x3 : Int32} {s0 : Int32} {M : za_M} (h : f_X10_breaks_b85 K x3 s0 M) : zt p l e (za_rm 6 182) s m args below meth c 0 0 (MQ below (za_Qi g D cy K) args s 0 0 (za_A g)) g D cy 5 M 85 [(0, .ref (g (27, 0, 0))), (3, .int x3)] [.int s0] := by
  unfold f_X10_breaks_b85 at h
  refine zt_istore C [(4, .int s0), (0, .ref (g (27, 0, 0))), (3, .int x3)] dX10_breaks_85 (by decide) rfl ?_
  refine zt_aload_n C 1 dX10_breaks_87 rfl rfl ?_
  refine zt_get C (za_mem (j := 27) rfl (by decide) (by decide)) pf_X10_16 (za_E_27 g cy M 0 0) rfl dX10_breaks_88 ?_
  refine zt_aload_n C 1 dX10_breaks_91 rfl rfl ?_
  refine zt_get C (za_mem (j := 27) rfl (by decide) (by decide)) pf_X10_9 (za_E_27 g cy M 0 0) rfl dX10_breaks_92 ?_
  refine zt_cSv C [.ref (g (30, 0, 0)), .ref (g (28, 0, 0))] (m_X10_copy hJ (za_I_of (za_mem (j := 30) rfl (by decide) (by decide)) (fun g9 cy9 W9 => za_E_30 g9 cy9 W9 0 0)) (za_I_of (za_mem (j := 28) rfl (by decide) (by decide)) (fun g9 cy9 W9 => za_E_28 g9 cy9 W9 0 0)) h) py_X10_copy ps_X10_66 (Nat.le_of_ble_eq_true rfl) ⟨Nat.le_of_ble_eq_true rfl, Nat.le_of_ble_eq_true rfl⟩ ⟨Nat.zero_le _, Nat.zero_le _⟩ dX10_breaks_95 rfl (fun M1 h => ?_)
  refine zt_iload C 0 dX10_breaks_98 rfl ?_
  refine zt_if_eq C 107 dX10_breaks_100 (by decide) (fun q3 => ?_) (fun q3 => ?_)
  · replace h := za_ifp h q3
    refine zt_aload_n C 1 dX10_breaks_107 rfl rfl ?_
    refine zt_ldc C w_1219 dX10_breaks_108 ?_
    refine zt_cVi C [.int (-1000000002)] (m_X10_finding hJ  h) (za_mem (j := 27) rfl (by decide) (by decide)) (za_E_27 g cy M1 0 0) rfl py_X10_finding pv_X10_75 (Nat.le_of_ble_eq_true rfl) ⟨Nat.le_of_ble_eq_true rfl, Nat.le_of_ble_eq_true rfl⟩ ⟨Nat.zero_le _, Nat.zero_le _⟩ dX10_breaks_110 rfl (fun r5 M4 h => ?_)
    exact zt_ret C hr hk rfl dX10_breaks_113 h
  · replace h := za_ifn h q3
    refine zt_iload_n C 2 dX10_breaks_103 rfl rfl ?_
    refine zt_goto C 113 dX10_breaks_104 (by decide) ?_
    exact zt_ret C hr hk rfl dX10_breaks_113 h
set_option maxRecDepth 100000 in
set_option maxHeartbeats 4000000 in
theorem p_X10_breaks_b65 (hJ : za_J g) (C : za_C p s m args c cX10_breaks 5 RX10 g D cy) (hr : meth.sig.returnType = (some .int)) (hk : meth.locks = false) {x2 : Int32} {x3 : Int32} {M : za_M} (h : f_X10_breaks_b65 K x2 x3 M) : zt p l e (za_rm 6 182) s m args below meth c 0 0 (MQ below (za_Qi g D cy K) args s 0 0 (za_A g)) g D cy 5 M 65 [(0, .ref (g (27, 0, 0))), (2, .int x2), (3, .int x3)] [] := by
  unfold f_X10_breaks_b65 at h
  refine zt_aload_n C 0 dX10_breaks_65 rfl rfl ?_
  refine zt_get C (za_mem (j := 27) rfl (by decide) (by decide)) pf_X10_9 (za_E_27 g cy M 0 0) rfl dX10_breaks_66 ?_
  refine zt_iload_n C 1 dX10_breaks_69 rfl rfl ?_
  obtain ⟨g6, h⟩ := h
  refine zt_iald C (za_mem (j := 28) rfl (by decide) (by decide)) (fun W9 => za_E_28 g cy W9 0 0) g6 dX10_breaks_70 ?_
  refine zt_aload_n C 0 dX10_breaks_71 rfl rfl ?_
  refine zt_get C (za_mem (j := 27) rfl (by decide) (by decide)) pf_X10_16 (za_E_27 g cy M 0 0) rfl dX10_breaks_72 ?_
  refine zt_iload_n C 1 dX10_breaks_75 rfl rfl ?_
  obtain ⟨g7, h⟩ := h
  refine zt_iald C (za_mem (j := 30) rfl (by decide) (by decide)) (fun W9 => za_E_30 g cy W9 0 0) g7 dX10_breaks_76 ?_
  refine zt_icmp_le C 84 dX10_breaks_77 (by decide) (fun q8 => ?_) (fun q8 => ?_)
  · replace h := za_ifp h q8
    refine zt_iconst C (v := 0) dX10_breaks_84 zk_i0 ?_
    refine zt_sub [0, 2] (lv' := [(0, .ref (g (27, 0, 0))), (3, .int x3)]) rfl ?_
    exact p_X10_breaks_b85 hJ C hr hk  h
  · replace h := za_ifn h q8
    refine zt_iconst C (v := 1) dX10_breaks_80 zk_i1 ?_
    refine zt_goto C 85 dX10_breaks_81 (by decide) ?_
    refine zt_sub [0, 2] (lv' := [(0, .ref (g (27, 0, 0))), (3, .int x3)]) rfl ?_
    exact p_X10_breaks_b85 hJ C hr hk  h
set_option maxRecDepth 100000 in
set_option maxHeartbeats 4000000 in
theorem p_X10_breaks_b34 (hJ : za_J g) (C : za_C p s m args c cX10_breaks 5 RX10 g D cy) (hr : meth.sig.returnType = (some .int)) (hk : meth.locks = false) {x2 : Int32} {L34 : Int32 → za_M → Prop} (hL34 : ∀ (x3 : Int32) (M : za_M), L34 x3 M → zt p l e (za_rm 6 182) s m args below meth c 0 0 (MQ below (za_Qi g D cy K) args s 0 0 (za_A g)) g D cy 5 M 34 [(0, .ref (g (27, 0, 0))), (2, .int x2), (3, .int x3)] []) : ∀ (x3 : Int32) (M : za_M), f_X10_breaks_b34 K x2 L34 x3 M → zt p l e (za_rm 6 182) s m args below meth c 0 0 (MQ below (za_Qi g D cy K) args s 0 0 (za_A g)) g D cy 5 M 34 [(0, .ref (g (27, 0, 0))), (2, .int x2), (3, .int x3)] [] := by
  intro x3 M h
  unfold f_X10_breaks_b34 at h
  refine zt_iload_n C 2 dX10_breaks_34 rfl rfl ?_
  refine zt_bipush C (v := 60) dX10_breaks_35 zk_b60 ?_
  refine zt_icmp_ge C 65 dX10_breaks_37 (by decide) (fun q9 => ?_) (fun q9 => ?_)
  · replace h := za_ifp h q9
    exact p_X10_breaks_b65 hJ C hr hk  h
  · replace h := za_ifn h q9
    refine zt_aload_n C 0 dX10_breaks_40 rfl rfl ?_
    refine zt_get C (za_mem (j := 27) rfl (by decide) (by decide)) pf_X10_9 (za_E_27 g cy M 0 0) rfl dX10_breaks_41 ?_
    refine zt_iload_n C 1 dX10_breaks_44 rfl rfl ?_
    obtain ⟨g10, h⟩ := h
    refine zt_iald C (za_mem (j := 28) rfl (by decide) (by decide)) (fun W9 => za_E_28 g cy W9 0 0) g10 dX10_breaks_45 ?_
    refine zt_aload_n C 0 dX10_breaks_46 rfl rfl ?_
    refine zt_get C (za_mem (j := 27) rfl (by decide) (by decide)) pf_X10_16 (za_E_27 g cy M 0 0) rfl dX10_breaks_47 ?_
    refine zt_iload_n C 1 dX10_breaks_50 rfl rfl ?_
    obtain ⟨g11, h⟩ := h
    refine zt_iald C (za_mem (j := 30) rfl (by decide) (by decide)) (fun W9 => za_E_30 g cy W9 0 0) g11 dX10_breaks_51 ?_
    refine zt_icmp_ne C 65 dX10_breaks_52 (by decide) (fun q12 => ?_) (fun q12 => ?_)
    · replace h := za_ifn h q12
      exact p_X10_breaks_b65 hJ C hr hk  h
    · replace h := za_ifp h q12
      refine zt_aload_n C 0 dX10_breaks_55 rfl rfl ?_
      refine zt_cVv C [] (m_X10_day hJ  h) (za_mem (j := 27) rfl (by decide) (by decide)) (za_E_27 g cy M 0 0) rfl py_X10_day pv_X10_256 (Nat.le_of_ble_eq_true rfl) ⟨Nat.le_of_ble_eq_true rfl, Nat.le_of_ble_eq_true rfl⟩ ⟨Nat.zero_le _, Nat.zero_le _⟩ dX10_breaks_56 rfl (fun M13 h => ?_)
      refine zt_iinc C (v := x3 + 1) 2 [(3, .int (x3 + 1)), (0, .ref (g (27, 0, 0))), (2, .int x2)] dX10_breaks_59 rfl (zk_n1 _) (by decide) rfl ?_
      refine zt_goto C 34 dX10_breaks_62 (by decide) ?_
      refine zt_sub [1, 2, 0] (lv' := [(0, .ref (g (27, 0, 0))), (2, .int x2), (3, .int (x3 + 1))]) rfl ?_
      exact hL34 _ _ h
theorem p_X10_breaks_b34_in (hJ : za_J g) (C : za_C p s m args c cX10_breaks 5 RX10 g D cy) (hr : meth.sig.returnType = (some .int)) (hk : meth.locks = false) {x2 : Int32} {n : Nat} {x3 : Int32} {M : za_M} (h : za_lp1 (f_X10_breaks_b34 K x2) n x3 M) : zt p l e (za_rm 6 182) s m args below meth c 0 0 (MQ below (za_Qi g D cy K) args s 0 0 (za_A g)) g D cy 5 M 34 [(0, .ref (g (27, 0, 0))), (2, .int x2), (3, .int x3)] [] := za_lp1_run (Z := fun x3 M => zt p l e (za_rm 6 182) s m args below meth c 0 0 (MQ below (za_Qi g D cy K) args s 0 0 (za_A g)) g D cy 5 M 34 [(0, .ref (g (27, 0, 0))), (2, .int x2), (3, .int x3)] []) (fun L hL => p_X10_breaks_b34 hJ C hr hk  hL) n x3 M h
set_option maxRecDepth 100000 in
set_option maxHeartbeats 4000000 in
theorem p_X10_breaks (hJ : za_J g) (C : za_C p s m args c cX10_breaks 5 RX10 g D cy) (hr : meth.sig.returnType = (some .int)) (hk : meth.locks = false) {x1 : Int32} {M : za_M} (h : f_X10_breaks x1 M K) : zt p l e (za_rm 6 182) s m args below meth c 0 0 (MQ below (za_Qi g D cy K) args s 0 0 (za_A g)) g D cy 5 M 0 [(0, .ref (g (27, 0, 0))), (1, .int x1)] [] := by
  unfold f_X10_breaks at h
  refine zt_aload_n C 0 dX10_breaks_0 rfl rfl ?_
  refine zt_iload_n C 1 dX10_breaks_1 rfl rfl ?_
  refine zt_cVi C [.int x1] (m_X10_isPotter hJ  h) (za_mem (j := 27) rfl (by decide) (by decide)) (za_E_27 g cy M 0 0) rfl py_X10_isPotter pv_X10_197 (Nat.le_of_ble_eq_true rfl) ⟨Nat.le_of_ble_eq_true rfl, Nat.le_of_ble_eq_true rfl⟩ ⟨Nat.zero_le _, Nat.zero_le _⟩ dX10_breaks_2 rfl (fun r16 M15 h => ?_)
  refine zt_if_ne C 15 dX10_breaks_5 (by decide) (fun q17 => ?_) (fun q17 => ?_)
  · replace h := za_ifn h q17
    refine zt_aload_n C 0 dX10_breaks_15 rfl rfl ?_
    refine zt_get C (za_mem (j := 27) rfl (by decide) (by decide)) pf_X10_9 (za_E_27 g cy M15 0 0) rfl dX10_breaks_16 ?_
    refine zt_aload_n C 0 dX10_breaks_19 rfl rfl ?_
    refine zt_get C (za_mem (j := 27) rfl (by decide) (by decide)) pf_X10_16 (za_E_27 g cy M15 0 0) rfl dX10_breaks_20 ?_
    refine zt_cSv C [.ref (g (28, 0, 0)), .ref (g (30, 0, 0))] (m_X10_copy hJ (za_I_of (za_mem (j := 28) rfl (by decide) (by decide)) (fun g9 cy9 W9 => za_E_28 g9 cy9 W9 0 0)) (za_I_of (za_mem (j := 30) rfl (by decide) (by decide)) (fun g9 cy9 W9 => za_E_30 g9 cy9 W9 0 0)) h) py_X10_copy ps_X10_66 (Nat.le_of_ble_eq_true rfl) ⟨Nat.le_of_ble_eq_true rfl, Nat.le_of_ble_eq_true rfl⟩ ⟨Nat.zero_le _, Nat.zero_le _⟩ dX10_breaks_23 rfl (fun M18 h => ?_)
    refine zt_iload_n C 1 dX10_breaks_26 rfl rfl ?_
    refine zt_iconst C (v := 1) dX10_breaks_27 zk_i1 ?_
    refine zt_cSi C [.int x1, .int 1] (m_X10_potterAt hJ  h) py_X10_potterAt ps_X10_191 (Nat.le_of_ble_eq_true rfl) ⟨Nat.le_of_ble_eq_true rfl, Nat.le_of_ble_eq_true rfl⟩ ⟨Nat.zero_le _, Nat.zero_le _⟩ dX10_breaks_28 rfl (fun r21 M20 h => ?_)
    refine zt_istore_n C [(2, .int r21), (0, .ref (g (27, 0, 0))), (1, .int x1)] dX10_breaks_31 rfl (by decide) rfl ?_
    refine zt_iconst C (v := 0) dX10_breaks_32 zk_i0 ?_
    refine zt_istore_n C [(3, .int 0), (2, .int r21), (0, .ref (g (27, 0, 0))), (1, .int x1)] dX10_breaks_33 rfl (by decide) rfl ?_
    refine zt_sub [2, 1, 0] (lv' := [(0, .ref (g (27, 0, 0))), (2, .int r21), (3, .int 0)]) rfl ?_
    obtain ⟨n, h⟩ := h
    exact p_X10_breaks_b34_in hJ C hr hk  h
  · replace h := za_ifp h q17
    refine zt_aload_n C 0 dX10_breaks_8 rfl rfl ?_
    refine zt_ldc C w_969 dX10_breaks_9 ?_
    refine zt_cVi C [.int (-1000000001)] (m_X10_finding hJ  h) (za_mem (j := 27) rfl (by decide) (by decide)) (za_E_27 g cy M15 0 0) rfl py_X10_finding pv_X10_75 (Nat.le_of_ble_eq_true rfl) ⟨Nat.le_of_ble_eq_true rfl, Nat.le_of_ble_eq_true rfl⟩ ⟨Nat.zero_le _, Nat.zero_le _⟩ dX10_breaks_11 rfl (fun r23 M22 h => ?_)
    exact zt_ret C hr hk rfl dX10_breaks_14 h
end
theorem m_X10_breaks {l : Launch} {g : za_L → Nat} {D : va_G} {cy : Nat → ClassId} (hJ : za_J g)  {x1 : Int32} {M : za_M} {K : Int32 → za_M → Prop} (h : f_X10_breaks x1 M K) : za_Mi l g D cy yX10_breaks cX10_breaks 5 (some .int) 6 182 [.ref (g (27, 0, 0)), .int x1] M K := za_openi hJ (by decide) (Nat.le_of_ble_eq_true rfl) (fun p e s m args below meth c C hr hk => p_X10_breaks hJ C hr hk  h)
/-! X10_bushels -/
def f_X10_bushels_b4 (K : Int32 → za_M → Prop) (x0 : Int32) (L4 : Int32 → Int32 → za_M → Prop) (x1 : Int32) (x2 : Int32) (M : za_M) : Prop :=
  if 5 ≤ x2 then (K x1 M) else (f_X10_digit x0 x2 M (fun r3 M2 => za_let (x1 + r3) fun y4 => L4 y4 (x2 + 1) M2))
def f_X10_bushels (x0 : Int32) (M : za_M) (K : Int32 → za_M → Prop) : Prop :=
  ∃ n, za_lp2 (f_X10_bushels_b4 K x0) n 0 0 M
section
variable {p : Program} {l : Launch} {e : Env} {s : State} {m : MethodId} {args : Array Value} {below : List Frame} {meth : Method} {c : Code} {g : za_L → Nat} {D : va_G} {cy : Nat → ClassId} {K : Int32 → za_M → Prop}
set_option maxRecDepth 100000 in
set_option maxHeartbeats 4000000 in
theorem p_X10_bushels_b4 (hJ : za_J g) (C : za_C p s m args c cX10_bushels 3 RX10 g D cy) (hr : meth.sig.returnType = (some .int)) (hk : meth.locks = false) {x0 : Int32} {L4 : Int32 → Int32 → za_M → Prop} (hL4 : ∀ (x1 : Int32) (x2 : Int32) (M : za_M), L4 x1 x2 M → zt p l e (za_rm 2 87) s m args below meth c 0 0 (MQ below (za_Qi g D cy K) args s 0 0 (za_A g)) g D cy 3 M 4 [(0, .int x0), (1, .int x1), (2, .int x2)] []) : ∀ (x1 : Int32) (x2 : Int32) (M : za_M), f_X10_bushels_b4 K x0 L4 x1 x2 M → zt p l e (za_rm 2 87) s m args below meth c 0 0 (MQ below (za_Qi g D cy K) args s 0 0 (za_A g)) g D cy 3 M 4 [(0, .int x0), (1, .int x1), (2, .int x2)] [] := by
  intro x1 x2 M h
  unfold f_X10_bushels_b4 at h
  refine zt_iload_n C 2 dX10_bushels_4 rfl rfl ?_
  refine zt_iconst C (v := 5) dX10_bushels_5 zk_i5 ?_
  refine zt_icmp_ge C 23 dX10_bushels_6 (by decide) (fun q1 => ?_) (fun q1 => ?_)
  · replace h := za_ifp h q1
    refine zt_iload_n C 1 dX10_bushels_23 rfl rfl ?_
    exact zt_ret C hr hk rfl dX10_bushels_24 h
  · replace h := za_ifn h q1
    refine zt_iload_n C 1 dX10_bushels_9 rfl rfl ?_
    refine zt_iload_n C 0 dX10_bushels_10 rfl rfl ?_
    refine zt_iload_n C 2 dX10_bushels_11 rfl rfl ?_
    refine zt_cSi C [.int x0, .int x2] (m_X10_digit hJ  h) py_X10_digit ps_X10_204 (Nat.le_of_ble_eq_true rfl) ⟨Nat.le_of_ble_eq_true rfl, Nat.le_of_ble_eq_true rfl⟩ ⟨Nat.zero_le _, Nat.zero_le _⟩ dX10_bushels_12 rfl (fun r3 M2 h => ?_)
    refine zt_iadd C dX10_bushels_15 ?_
    refine zt_topi (fun y4 e5 => ?_)
    replace h := za_use h e5
    refine zt_istore_n C [(1, .int y4), (0, .int x0), (2, .int x2)] dX10_bushels_16 rfl (by decide) rfl ?_
    refine zt_iinc C (v := x2 + 1) 2 [(2, .int (x2 + 1)), (1, .int y4), (0, .int x0)] dX10_bushels_17 rfl (zk_n1 _) (by decide) rfl ?_
    refine zt_goto C 4 dX10_bushels_20 (by decide) ?_
    refine zt_sub [2, 1, 0] (lv' := [(0, .int x0), (1, .int y4), (2, .int (x2 + 1))]) rfl ?_
    exact hL4 _ _ _ h
theorem p_X10_bushels_b4_in (hJ : za_J g) (C : za_C p s m args c cX10_bushels 3 RX10 g D cy) (hr : meth.sig.returnType = (some .int)) (hk : meth.locks = false) {x0 : Int32} {n : Nat} {x1 : Int32} {x2 : Int32} {M : za_M} (h : za_lp2 (f_X10_bushels_b4 K x0) n x1 x2 M) : zt p l e (za_rm 2 87) s m args below meth c 0 0 (MQ below (za_Qi g D cy K) args s 0 0 (za_A g)) g D cy 3 M 4 [(0, .int x0), (1, .int x1), (2, .int x2)] [] := za_lp2_run (Z := fun x1 x2 M => zt p l e (za_rm 2 87) s m args below meth c 0 0 (MQ below (za_Qi g D cy K) args s 0 0 (za_A g)) g D cy 3 M 4 [(0, .int x0), (1, .int x1), (2, .int x2)] []) (fun L hL => p_X10_bushels_b4 hJ C hr hk  hL) n x1 x2 M h
set_option maxRecDepth 100000 in
set_option maxHeartbeats 4000000 in
theorem p_X10_bushels (hJ : za_J g) (C : za_C p s m args c cX10_bushels 3 RX10 g D cy) (hr : meth.sig.returnType = (some .int)) (hk : meth.locks = false) {x0 : Int32} {M : za_M} (h : f_X10_bushels x0 M K) : zt p l e (za_rm 2 87) s m args below meth c 0 0 (MQ below (za_Qi g D cy K) args s 0 0 (za_A g)) g D cy 3 M 0 [(0, .int x0)] [] := by
  unfold f_X10_bushels at h
  refine zt_iconst C (v := 0) dX10_bushels_0 zk_i0 ?_
  refine zt_istore_n C [(1, .int 0), (0, .int x0)] dX10_bushels_1 rfl (by decide) rfl ?_
  refine zt_iconst C (v := 0) dX10_bushels_2 zk_i0 ?_
  refine zt_istore_n C [(2, .int 0), (1, .int 0), (0, .int x0)] dX10_bushels_3 rfl (by decide) rfl ?_
  refine zt_sub [2, 1, 0] (lv' := [(0, .int x0), (1, .int 0), (2, .int 0)]) rfl ?_
  obtain ⟨n, h⟩ := h
  exact p_X10_bushels_b4_in hJ C hr hk  h
end
theorem m_X10_bushels {l : Launch} {g : za_L → Nat} {D : va_G} {cy : Nat → ClassId} (hJ : za_J g)  {x0 : Int32} {M : za_M} {K : Int32 → za_M → Prop} (h : f_X10_bushels x0 M K) : za_Mi l g D cy yX10_bushels cX10_bushels 3 (some .int) 2 87 [.int x0] M K := za_openi hJ (by decide) (Nat.le_of_ble_eq_true rfl) (fun p e s m args below meth c C hr hk => p_X10_bushels hJ C hr hk  h)
/-! X10_mixOf -/
def f_X10_mixOf_b6 (K : Int32 → za_M → Prop) (L6 : Int32 → Int32 → Int32 → za_M → Prop) (x1 : Int32) (x2 : Int32) (x3 : Int32) (M : za_M) : Prop :=
  if 100000 ≤ x3 then (K x1 M) else (za_let (x1 + ((x2 - x2 / 4 * 4) * x3)) fun y2 => za_let (x2 / 4) fun y4 => za_let (x3 * 10) fun y6 => L6 y2 y4 y6 M)
def f_X10_mixOf (x0 : Int32) (M : za_M) (K : Int32 → za_M → Prop) : Prop :=
  ∃ n, za_lp3 (f_X10_mixOf_b6 K) n 0 x0 1 M
section
variable {p : Program} {l : Launch} {e : Env} {s : State} {m : MethodId} {args : Array Value} {below : List Frame} {meth : Method} {c : Code} {g : za_L → Nat} {D : va_G} {cy : Nat → ClassId} {K : Int32 → za_M → Prop}
set_option maxRecDepth 100000 in
set_option maxHeartbeats 4000000 in
theorem p_X10_mixOf_b6 (hJ : za_J g) (C : za_C p s m args c cX10_mixOf 4 RX10 g D cy) (hr : meth.sig.returnType = (some .int)) (hk : meth.locks = false) {L6 : Int32 → Int32 → Int32 → za_M → Prop} (hL6 : ∀ (x1 : Int32) (x2 : Int32) (x3 : Int32) (M : za_M), L6 x1 x2 x3 M → zt p l e (za_rm 1 64) s m args below meth c 0 0 (MQ below (za_Qi g D cy K) args s 0 0 (za_A g)) g D cy 4 M 6 [(1, .int x1), (2, .int x2), (3, .int x3)] []) : ∀ (x1 : Int32) (x2 : Int32) (x3 : Int32) (M : za_M), f_X10_mixOf_b6 K L6 x1 x2 x3 M → zt p l e (za_rm 1 64) s m args below meth c 0 0 (MQ below (za_Qi g D cy K) args s 0 0 (za_A g)) g D cy 4 M 6 [(1, .int x1), (2, .int x2), (3, .int x3)] [] := by
  intro x1 x2 x3 M h
  unfold f_X10_mixOf_b6 at h
  refine zt_iload_n C 2 dX10_mixOf_6 rfl rfl ?_
  refine zt_ldcw C w_1312 dX10_mixOf_7 ?_
  refine zt_icmp_ge C 33 dX10_mixOf_10 (by decide) (fun q1 => ?_) (fun q1 => ?_)
  · replace h := za_ifp h q1
    refine zt_iload_n C 0 dX10_mixOf_33 rfl rfl ?_
    exact zt_ret C hr hk rfl dX10_mixOf_34 h
  · replace h := za_ifn h q1
    refine zt_iload_n C 0 dX10_mixOf_13 rfl rfl ?_
    refine zt_iload_n C 1 dX10_mixOf_14 rfl rfl ?_
    refine zt_iconst C (v := 4) dX10_mixOf_15 zk_i4 ?_
    refine zt_irem C dX10_mixOf_16 (by decide) ?_
    refine zt_iload_n C 2 dX10_mixOf_17 rfl rfl ?_
    refine zt_imul C dX10_mixOf_18 ?_
    refine zt_iadd C dX10_mixOf_19 ?_
    refine zt_topi (fun y2 e3 => ?_)
    replace h := za_use h e3
    refine zt_istore_n C [(1, .int y2), (2, .int x2), (3, .int x3)] dX10_mixOf_20 rfl (by decide) rfl ?_
    refine zt_iload_n C 1 dX10_mixOf_21 rfl rfl ?_
    refine zt_iconst C (v := 4) dX10_mixOf_22 zk_i4 ?_
    refine zt_idiv C dX10_mixOf_23 (by decide) ?_
    refine zt_topi (fun y4 e5 => ?_)
    replace h := za_use h e5
    refine zt_istore_n C [(2, .int y4), (1, .int y2), (3, .int x3)] dX10_mixOf_24 rfl (by decide) rfl ?_
    refine zt_iload_n C 2 dX10_mixOf_25 rfl rfl ?_
    refine zt_bipush C (v := 10) dX10_mixOf_26 zk_b10 ?_
    refine zt_imul C dX10_mixOf_28 ?_
    refine zt_topi (fun y6 e7 => ?_)
    replace h := za_use h e7
    refine zt_istore_n C [(3, .int y6), (2, .int y4), (1, .int y2)] dX10_mixOf_29 rfl (by decide) rfl ?_
    refine zt_goto C 6 dX10_mixOf_30 (by decide) ?_
    refine zt_sub [2, 1, 0] (lv' := [(1, .int y2), (2, .int y4), (3, .int y6)]) rfl ?_
    exact hL6 _ _ _ _ h
theorem p_X10_mixOf_b6_in (hJ : za_J g) (C : za_C p s m args c cX10_mixOf 4 RX10 g D cy) (hr : meth.sig.returnType = (some .int)) (hk : meth.locks = false) {n : Nat} {x1 : Int32} {x2 : Int32} {x3 : Int32} {M : za_M} (h : za_lp3 (f_X10_mixOf_b6 K) n x1 x2 x3 M) : zt p l e (za_rm 1 64) s m args below meth c 0 0 (MQ below (za_Qi g D cy K) args s 0 0 (za_A g)) g D cy 4 M 6 [(1, .int x1), (2, .int x2), (3, .int x3)] [] := za_lp3_run (Z := fun x1 x2 x3 M => zt p l e (za_rm 1 64) s m args below meth c 0 0 (MQ below (za_Qi g D cy K) args s 0 0 (za_A g)) g D cy 4 M 6 [(1, .int x1), (2, .int x2), (3, .int x3)] []) (fun L hL => p_X10_mixOf_b6 hJ C hr hk  hL) n x1 x2 x3 M h
set_option maxRecDepth 100000 in
set_option maxHeartbeats 4000000 in
theorem p_X10_mixOf (hJ : za_J g) (C : za_C p s m args c cX10_mixOf 4 RX10 g D cy) (hr : meth.sig.returnType = (some .int)) (hk : meth.locks = false) {x0 : Int32} {M : za_M} (h : f_X10_mixOf x0 M K) : zt p l e (za_rm 1 64) s m args below meth c 0 0 (MQ below (za_Qi g D cy K) args s 0 0 (za_A g)) g D cy 4 M 0 [(0, .int x0)] [] := by
  unfold f_X10_mixOf at h
  refine zt_iconst C (v := 0) dX10_mixOf_0 zk_i0 ?_
  refine zt_istore_n C [(1, .int 0), (0, .int x0)] dX10_mixOf_1 rfl (by decide) rfl ?_
  refine zt_iload_n C 1 dX10_mixOf_2 rfl rfl ?_
  refine zt_istore_n C [(2, .int x0), (1, .int 0), (0, .int x0)] dX10_mixOf_3 rfl (by decide) rfl ?_
  refine zt_iconst C (v := 1) dX10_mixOf_4 zk_i1 ?_
  refine zt_istore_n C [(3, .int 1), (2, .int x0), (1, .int 0), (0, .int x0)] dX10_mixOf_5 rfl (by decide) rfl ?_
  refine zt_sub [2, 1, 0] (lv' := [(1, .int 0), (2, .int x0), (3, .int 1)]) rfl ?_
  obtain ⟨n, h⟩ := h
  exact p_X10_mixOf_b6_in hJ C hr hk  h
end
theorem m_X10_mixOf {l : Launch} {g : za_L → Nat} {D : va_G} {cy : Nat → ClassId} (hJ : za_J g)  {x0 : Int32} {M : za_M} {K : Int32 → za_M → Prop} (h : f_X10_mixOf x0 M K) : za_Mi l g D cy yX10_mixOf cX10_mixOf 4 (some .int) 1 64 [.int x0] M K := za_openi hJ (by decide) (Nat.le_of_ble_eq_true rfl) (fun p e s m args below meth c C hr hk => p_X10_mixOf hJ C hr hk  h)
/-! X10_recipe -/
def f_X10_recipe_b125 (K : Int32 → za_M → Prop) (L35 : Int32 → Int32 → za_M → Prop) (x1 : Int32) (x2 : Int32) (x3 : Int32) (x5 : Int32) (s0 : Int32) (M : za_M) : Prop :=
  L35 s0 (x5 + 1) M
def f_X10_recipe_b123 (K : Int32 → za_M → Prop) (L35 : Int32 → Int32 → za_M → Prop) (x1 : Int32) (x2 : Int32) (x3 : Int32) (x4 : Int32) (x5 : Int32) (M : za_M) : Prop :=
  f_X10_recipe_b125 K L35 x1 x2 x3 x5 x4 M
def f_X10_recipe_b100 (K : Int32 → za_M → Prop) (L35 : Int32 → Int32 → za_M → Prop) (x1 : Int32) (x2 : Int32) (x3 : Int32) (x4 : Int32) (x5 : Int32) (x6 : Int32) (s0 : Int32) (M : za_M) : Prop :=
  if s0 = 0 then (f_X10_recipe_b123 K L35 x1 x2 x3 x4 x5 M) else (f_X10_mixColour x6 x3 M (fun r3 M2 => if r3 = x2 then (f_X10_recipe_b125 K L35 x1 x2 x3 x5 x6 M2) else (f_X10_recipe_b123 K L35 x1 x2 x3 x4 x5 M2)))
def f_X10_recipe_b99 (K : Int32 → za_M → Prop) (L35 : Int32 → Int32 → za_M → Prop) (x1 : Int32) (x2 : Int32) (x3 : Int32) (x4 : Int32) (x5 : Int32) (x6 : Int32) (M : za_M) : Prop :=
  f_X10_recipe_b100 K L35 x1 x2 x3 x4 x5 x6 0 M
def f_X10_recipe_b75 (K : Int32 → za_M → Prop) (L35 : Int32 → Int32 → za_M → Prop) (x1 : Int32) (x2 : Int32) (x3 : Int32) (x4 : Int32) (x5 : Int32) (x6 : Int32) (M : za_M) : Prop :=
  f_X10_hasAll x1 x6 M (fun r6 M5 => if r6 = 0 then (f_X10_recipe_b99 K L35 x1 x2 x3 x4 x5 x6 M5) else (f_X10_isForbidden x6 x3 M5 (fun r9 M8 => if r9 = 0 then (f_X10_recipe_b100 K L35 x1 x2 x3 x4 x5 x6 1 M8) else (f_X10_recipe_b99 K L35 x1 x2 x3 x4 x5 x6 M8))))
def f_X10_recipe_b35 (K : Int32 → za_M → Prop) (x1 : Int32) (x2 : Int32) (x3 : Int32) (L35 : Int32 → Int32 → za_M → Prop) (x4 : Int32) (x5 : Int32) (M : za_M) : Prop :=
  vp_in 1 279 ∧ (if ((1 : Int32) <<< ((2 * (M.1 (28, 0, 0) (Int32.toNatClampNeg 1))) &&& 31)) ≤ x5 then (if 0 ≤ x4 then (K x4 M) else (f_X10_finding (-1000000002) M (fun r15 M14 => K r15 M14))) else (f_X10_mixOf x5 M (fun r17 M16 => if x4 < 0 then (f_X10_recipe_b75 K L35 x1 x2 x3 x4 x5 r17 M16) else (f_X10_bushels r17 M16 (fun r20 M19 => f_X10_bushels x4 M19 (fun r22 M21 => if r22 ≤ r20 then (f_X10_recipe_b99 K L35 x1 x2 x3 x4 x5 r17 M21) else (f_X10_recipe_b75 K L35 x1 x2 x3 x4 x5 r17 M21)))))))
def f_X10_recipe (x1 : Int32) (x2 : Int32) (x3 : Int32) (M : za_M) (K : Int32 → za_M → Prop) : Prop :=
  f_X10_isPotter x1 M (fun r25 M24 => if r25 = 0 then (f_X10_finding (-1000000001) M24 (fun r28 M27 => K r28 M27)) else (f_X10_isDigit x2 M24 (fun r30 M29 => if r30 = 0 then (f_X10_finding (-1000000001) M29 (fun r33 M32 => K r33 M32)) else (f_X10_isDigit x3 M29 (fun r35 M34 => if r35 = 0 then (f_X10_finding (-1000000001) M34 (fun r38 M37 => K r38 M37)) else (∃ n, za_lp2 (f_X10_recipe_b35 K x1 x2 x3) n (-1) 1 M34))))))
section
variable {p : Program} {l : Launch} {e : Env} {s : State} {m : MethodId} {args : Array Value} {below : List Frame} {meth : Method} {c : Code} {g : za_L → Nat} {D : va_G} {cy : Nat → ClassId} {K : Int32 → za_M → Prop}
set_option maxRecDepth 100000 in
set_option maxHeartbeats 4000000 in
theorem p_X10_recipe_b125 (hJ : za_J g) (C : za_C p s m args c cX10_recipe 8 RX10 g D cy) (hr : meth.sig.returnType = (some .int)) (hk : meth.locks = false) {x1 : Int32} {x2 : Int32} {x3 : Int32} {x5 : Int32} {s0 : Int32} {L35 : Int32 → Int32 → za_M → Prop} (hL35 : ∀ (x4 : Int32) (x5 : Int32) (M : za_M), L35 x4 x5 M → zt p l e (za_rm 6 184) s m args below meth c 0 0 (MQ below (za_Qi g D cy K) args s 0 0 (za_A g)) g D cy 8 M 35 [(0, .ref (g (27, 0, 0))), (1, .int x1), (2, .int x2), (3, .int x3), (4, .int x4), (5, .int x5)] []) {M : za_M} (h : f_X10_recipe_b125 K L35 x1 x2 x3 x5 s0 M) : zt p l e (za_rm 6 184) s m args below meth c 0 0 (MQ below (za_Qi g D cy K) args s 0 0 (za_A g)) g D cy 8 M 125 [(0, .ref (g (27, 0, 0))), (1, .int x1), (2, .int x2), (3, .int x3), (5, .int x5)] [.int s0] := by
  unfold f_X10_recipe_b125 at h
  refine zt_istore C [(4, .int s0), (0, .ref (g (27, 0, 0))), (1, .int x1), (2, .int x2), (3, .int x3), (5, .int x5)] dX10_recipe_125 (by decide) rfl ?_
  refine zt_iinc C (v := x5 + 1) 5 [(5, .int (x5 + 1)), (4, .int s0), (0, .ref (g (27, 0, 0))), (1, .int x1), (2, .int x2), (3, .int x3)] dX10_recipe_127 rfl (zk_n1 _) (by decide) rfl ?_
  refine zt_goto C 35 dX10_recipe_130 (by decide) ?_
  refine zt_sub [2, 3, 4, 5, 1, 0] (lv' := [(0, .ref (g (27, 0, 0))), (1, .int x1), (2, .int x2), (3, .int x3), (4, .int s0), (5, .int (x5 + 1))]) rfl ?_
  exact hL35 _ _ _ h
set_option maxRecDepth 100000 in
set_option maxHeartbeats 4000000 in
theorem p_X10_recipe_b123 (hJ : za_J g) (C : za_C p s m args c cX10_recipe 8 RX10 g D cy) (hr : meth.sig.returnType = (some .int)) (hk : meth.locks = false) {x1 : Int32} {x2 : Int32} {x3 : Int32} {x4 : Int32} {x5 : Int32} {L35 : Int32 → Int32 → za_M → Prop} (hL35 : ∀ (x4 : Int32) (x5 : Int32) (M : za_M), L35 x4 x5 M → zt p l e (za_rm 6 184) s m args below meth c 0 0 (MQ below (za_Qi g D cy K) args s 0 0 (za_A g)) g D cy 8 M 35 [(0, .ref (g (27, 0, 0))), (1, .int x1), (2, .int x2), (3, .int x3), (4, .int x4), (5, .int x5)] []) {M : za_M} (h : f_X10_recipe_b123 K L35 x1 x2 x3 x4 x5 M) : zt p l e (za_rm 6 184) s m args below meth c 0 0 (MQ below (za_Qi g D cy K) args s 0 0 (za_A g)) g D cy 8 M 123 [(0, .ref (g (27, 0, 0))), (1, .int x1), (2, .int x2), (3, .int x3), (4, .int x4), (5, .int x5)] [] := by
  unfold f_X10_recipe_b123 at h
  refine zt_iload C 4 dX10_recipe_123 rfl ?_
  refine zt_sub [0, 1, 2, 3, 5] (lv' := [(0, .ref (g (27, 0, 0))), (1, .int x1), (2, .int x2), (3, .int x3), (5, .int x5)]) rfl ?_
  exact p_X10_recipe_b125 hJ C hr hk hL35 h
set_option maxRecDepth 100000 in
set_option maxHeartbeats 4000000 in
theorem p_X10_recipe_b100 (hJ : za_J g) (C : za_C p s m args c cX10_recipe 8 RX10 g D cy) (hr : meth.sig.returnType = (some .int)) (hk : meth.locks = false) {x1 : Int32} {x2 : Int32} {x3 : Int32} {x4 : Int32} {x5 : Int32} {x6 : Int32} {s0 : Int32} {L35 : Int32 → Int32 → za_M → Prop} (hL35 : ∀ (x4 : Int32) (x5 : Int32) (M : za_M), L35 x4 x5 M → zt p l e (za_rm 6 184) s m args below meth c 0 0 (MQ below (za_Qi g D cy K) args s 0 0 (za_A g)) g D cy 8 M 35 [(0, .ref (g (27, 0, 0))), (1, .int x1), (2, .int x2), (3, .int x3), (4, .int x4), (5, .int x5)] []) {M : za_M} (h : f_X10_recipe_b100 K L35 x1 x2 x3 x4 x5 x6 s0 M) : zt p l e (za_rm 6 184) s m args below meth c 0 0 (MQ below (za_Qi g D cy K) args s 0 0 (za_A g)) g D cy 8 M 100 [(0, .ref (g (27, 0, 0))), (1, .int x1), (2, .int x2), (3, .int x3), (4, .int x4), (5, .int x5), (6, .int x6)] [.int s0] := by
  unfold f_X10_recipe_b100 at h
  refine zt_istore C [(7, .int s0), (0, .ref (g (27, 0, 0))), (1, .int x1), (2, .int x2), (3, .int x3), (4, .int x4), (5, .int x5), (6, .int x6)] dX10_recipe_100 (by decide) rfl ?_
  refine zt_iload C 0 dX10_recipe_102 rfl ?_
  refine zt_if_eq C 123 dX10_recipe_104 (by decide) (fun q1 => ?_) (fun q1 => ?_)
  · replace h := za_ifp h q1
    refine zt_sub [1, 2, 3, 4, 5, 6] (lv' := [(0, .ref (g (27, 0, 0))), (1, .int x1), (2, .int x2), (3, .int x3), (4, .int x4), (5, .int x5)]) rfl ?_
    exact p_X10_recipe_b123 hJ C hr hk hL35 h
  · replace h := za_ifn h q1
    refine zt_aload_n C 1 dX10_recipe_107 rfl rfl ?_
    refine zt_iload C 7 dX10_recipe_108 rfl ?_
    refine zt_iload_n C 4 dX10_recipe_110 rfl rfl ?_
    refine zt_cVi C [.int x6, .int x3] (m_X10_mixColour hJ  h) (za_mem (j := 27) rfl (by decide) (by decide)) (za_E_27 g cy M 0 0) rfl py_X10_mixColour pv_X10_222 (Nat.le_of_ble_eq_true rfl) ⟨Nat.le_of_ble_eq_true rfl, Nat.le_of_ble_eq_true rfl⟩ ⟨Nat.zero_le _, Nat.zero_le _⟩ dX10_recipe_111 rfl (fun r3 M2 h => ?_)
    refine zt_iload_n C 3 dX10_recipe_114 rfl rfl ?_
    refine zt_icmp_ne C 123 dX10_recipe_115 (by decide) (fun q4 => ?_) (fun q4 => ?_)
    · replace h := za_ifn h q4
      refine zt_sub [1, 2, 3, 4, 5, 6] (lv' := [(0, .ref (g (27, 0, 0))), (1, .int x1), (2, .int x2), (3, .int x3), (4, .int x4), (5, .int x5)]) rfl ?_
      exact p_X10_recipe_b123 hJ C hr hk hL35 h
    · replace h := za_ifp h q4
      refine zt_iload C 7 dX10_recipe_118 rfl ?_
      refine zt_goto C 125 dX10_recipe_120 (by decide) ?_
      refine zt_sub [1, 2, 3, 4, 6] (lv' := [(0, .ref (g (27, 0, 0))), (1, .int x1), (2, .int x2), (3, .int x3), (5, .int x5)]) rfl ?_
      exact p_X10_recipe_b125 hJ C hr hk hL35 h
set_option maxRecDepth 100000 in
set_option maxHeartbeats 4000000 in
theorem p_X10_recipe_b99 (hJ : za_J g) (C : za_C p s m args c cX10_recipe 8 RX10 g D cy) (hr : meth.sig.returnType = (some .int)) (hk : meth.locks = false) {x1 : Int32} {x2 : Int32} {x3 : Int32} {x4 : Int32} {x5 : Int32} {x6 : Int32} {L35 : Int32 → Int32 → za_M → Prop} (hL35 : ∀ (x4 : Int32) (x5 : Int32) (M : za_M), L35 x4 x5 M → zt p l e (za_rm 6 184) s m args below meth c 0 0 (MQ below (za_Qi g D cy K) args s 0 0 (za_A g)) g D cy 8 M 35 [(0, .ref (g (27, 0, 0))), (1, .int x1), (2, .int x2), (3, .int x3), (4, .int x4), (5, .int x5)] []) {M : za_M} (h : f_X10_recipe_b99 K L35 x1 x2 x3 x4 x5 x6 M) : zt p l e (za_rm 6 184) s m args below meth c 0 0 (MQ below (za_Qi g D cy K) args s 0 0 (za_A g)) g D cy 8 M 99 [(0, .ref (g (27, 0, 0))), (1, .int x1), (2, .int x2), (3, .int x3), (4, .int x4), (5, .int x5), (6, .int x6)] [] := by
  unfold f_X10_recipe_b99 at h
  refine zt_iconst C (v := 0) dX10_recipe_99 zk_i0 ?_
  exact p_X10_recipe_b100 hJ C hr hk hL35 h
set_option maxRecDepth 100000 in
set_option maxHeartbeats 4000000 in
theorem p_X10_recipe_b75 (hJ : za_J g) (C : za_C p s m args c cX10_recipe 8 RX10 g D cy) (hr : meth.sig.returnType = (some .int)) (hk : meth.locks = false) {x1 : Int32} {x2 : Int32} {x3 : Int32} {x4 : Int32} {x5 : Int32} {x6 : Int32} {L35 : Int32 → Int32 → za_M → Prop} (hL35 : ∀ (x4 : Int32) (x5 : Int32) (M : za_M), L35 x4 x5 M → zt p l e (za_rm 6 184) s m args below meth c 0 0 (MQ below (za_Qi g D cy K) args s 0 0 (za_A g)) g D cy 8 M 35 [(0, .ref (g (27, 0, 0))), (1, .int x1), (2, .int x2), (3, .int x3), (4, .int x4), (5, .int x5)] []) {M : za_M} (h : f_X10_recipe_b75 K L35 x1 x2 x3 x4 x5 x6 M) : zt p l e (za_rm 6 184) s m args below meth c 0 0 (MQ below (za_Qi g D cy K) args s 0 0 (za_A g)) g D cy 8 M 75 [(0, .ref (g (27, 0, 0))), (1, .int x1), (2, .int x2), (3, .int x3), (4, .int x4), (5, .int x5), (6, .int x6)] [] := by
  unfold f_X10_recipe_b75 at h
  refine zt_aload_n C 0 dX10_recipe_75 rfl rfl ?_
  refine zt_iload_n C 1 dX10_recipe_76 rfl rfl ?_
  refine zt_iload C 6 dX10_recipe_77 rfl ?_
  refine zt_cVi C [.int x1, .int x6] (m_X10_hasAll hJ  h) (za_mem (j := 27) rfl (by decide) (by decide)) (za_E_27 g cy M 0 0) rfl py_X10_hasAll pv_X10_226 (Nat.le_of_ble_eq_true rfl) ⟨Nat.le_of_ble_eq_true rfl, Nat.le_of_ble_eq_true rfl⟩ ⟨Nat.zero_le _, Nat.zero_le _⟩ dX10_recipe_79 rfl (fun r6 M5 h => ?_)
  refine zt_if_eq C 99 dX10_recipe_82 (by decide) (fun q7 => ?_) (fun q7 => ?_)
  · replace h := za_ifp h q7
    exact p_X10_recipe_b99 hJ C hr hk hL35 h
  · replace h := za_ifn h q7
    refine zt_aload_n C 0 dX10_recipe_85 rfl rfl ?_
    refine zt_iload C 6 dX10_recipe_86 rfl ?_
    refine zt_iload_n C 3 dX10_recipe_88 rfl rfl ?_
    refine zt_cVi C [.int x6, .int x3] (m_X10_isForbidden hJ  h) (za_mem (j := 27) rfl (by decide) (by decide)) (za_E_27 g cy M5 0 0) rfl py_X10_isForbidden pv_X10_219 (Nat.le_of_ble_eq_true rfl) ⟨Nat.le_of_ble_eq_true rfl, Nat.le_of_ble_eq_true rfl⟩ ⟨Nat.zero_le _, Nat.zero_le _⟩ dX10_recipe_89 rfl (fun r9 M8 h => ?_)
    refine zt_if_ne C 99 dX10_recipe_92 (by decide) (fun q10 => ?_) (fun q10 => ?_)
    · replace h := za_ifn h q10
      exact p_X10_recipe_b99 hJ C hr hk hL35 h
    · replace h := za_ifp h q10
      refine zt_iconst C (v := 1) dX10_recipe_95 zk_i1 ?_
      refine zt_goto C 100 dX10_recipe_96 (by decide) ?_
      exact p_X10_recipe_b100 hJ C hr hk hL35 h
set_option maxRecDepth 100000 in
set_option maxHeartbeats 4000000 in
theorem p_X10_recipe_b35 (hJ : za_J g) (C : za_C p s m args c cX10_recipe 8 RX10 g D cy) (hr : meth.sig.returnType = (some .int)) (hk : meth.locks = false) {x1 : Int32} {x2 : Int32} {x3 : Int32} {L35 : Int32 → Int32 → za_M → Prop} (hL35 : ∀ (x4 : Int32) (x5 : Int32) (M : za_M), L35 x4 x5 M → zt p l e (za_rm 6 184) s m args below meth c 0 0 (MQ below (za_Qi g D cy K) args s 0 0 (za_A g)) g D cy 8 M 35 [(0, .ref (g (27, 0, 0))), (1, .int x1), (2, .int x2), (3, .int x3), (4, .int x4), (5, .int x5)] []) : ∀ (x4 : Int32) (x5 : Int32) (M : za_M), f_X10_recipe_b35 K x1 x2 x3 L35 x4 x5 M → zt p l e (za_rm 6 184) s m args below meth c 0 0 (MQ below (za_Qi g D cy K) args s 0 0 (za_A g)) g D cy 8 M 35 [(0, .ref (g (27, 0, 0))), (1, .int x1), (2, .int x2), (3, .int x3), (4, .int x4), (5, .int x5)] [] := by
  intro x4 x5 M h
  unfold f_X10_recipe_b35 at h
  refine zt_iload C 5 dX10_recipe_35 rfl ?_
  refine zt_iconst C (v := 1) dX10_recipe_37 zk_i1 ?_
  refine zt_iconst C (v := 2) dX10_recipe_38 zk_i2 ?_
  refine zt_aload_n C 0 dX10_recipe_39 rfl rfl ?_
  refine zt_get C (za_mem (j := 27) rfl (by decide) (by decide)) pf_X10_9 (za_E_27 g cy M 0 0) rfl dX10_recipe_40 ?_
  refine zt_iconst C (v := 1) dX10_recipe_43 zk_i1 ?_
  obtain ⟨g11, h⟩ := h
  refine zt_iald C (za_mem (j := 28) rfl (by decide) (by decide)) (fun W9 => za_E_28 g cy W9 0 0) g11 dX10_recipe_44 ?_
  refine zt_imul C dX10_recipe_45 ?_
  refine zt_ishl C dX10_recipe_46 ?_
  refine zt_icmp_ge C 133 dX10_recipe_47 (by decide) (fun q12 => ?_) (fun q12 => ?_)
  · replace h := za_ifp h q12
    refine zt_iload C 4 dX10_recipe_133 rfl ?_
    refine zt_if_ge C 147 dX10_recipe_135 (by decide) (fun q13 => ?_) (fun q13 => ?_)
    · replace h := za_ifp h q13
      refine zt_iload C 4 dX10_recipe_147 rfl ?_
      exact zt_ret C hr hk rfl dX10_recipe_149 h
    · replace h := za_ifn h q13
      refine zt_aload_n C 0 dX10_recipe_138 rfl rfl ?_
      refine zt_ldc C w_1219 dX10_recipe_139 ?_
      refine zt_cVi C [.int (-1000000002)] (m_X10_finding hJ  h) (za_mem (j := 27) rfl (by decide) (by decide)) (za_E_27 g cy M 0 0) rfl py_X10_finding pv_X10_75 (Nat.le_of_ble_eq_true rfl) ⟨Nat.le_of_ble_eq_true rfl, Nat.le_of_ble_eq_true rfl⟩ ⟨Nat.zero_le _, Nat.zero_le _⟩ dX10_recipe_141 rfl (fun r15 M14 h => ?_)
      refine zt_goto C 149 dX10_recipe_144 (by decide) ?_
      exact zt_ret C hr hk rfl dX10_recipe_149 h
  · replace h := za_ifn h q12
    refine zt_iload C 5 dX10_recipe_50 rfl ?_
    refine zt_cSi C [.int x5] (m_X10_mixOf hJ  h) py_X10_mixOf ps_X10_270 (Nat.le_of_ble_eq_true rfl) ⟨Nat.le_of_ble_eq_true rfl, Nat.le_of_ble_eq_true rfl⟩ ⟨Nat.zero_le _, Nat.zero_le _⟩ dX10_recipe_52 rfl (fun r17 M16 h => ?_)
    refine zt_istore C [(6, .int r17), (0, .ref (g (27, 0, 0))), (1, .int x1), (2, .int x2), (3, .int x3), (4, .int x4), (5, .int x5)] dX10_recipe_55 (by decide) rfl ?_
    refine zt_iload C 5 dX10_recipe_57 rfl ?_
    refine zt_if_lt C 75 dX10_recipe_59 (by decide) (fun q18 => ?_) (fun q18 => ?_)
    · replace h := za_ifp h q18
      refine zt_sub [1, 2, 3, 4, 5, 6, 0] (lv' := [(0, .ref (g (27, 0, 0))), (1, .int x1), (2, .int x2), (3, .int x3), (4, .int x4), (5, .int x5), (6, .int r17)]) rfl ?_
      exact p_X10_recipe_b75 hJ C hr hk hL35 h
    · replace h := za_ifn h q18
      refine zt_iload C 0 dX10_recipe_62 rfl ?_
      refine zt_cSi C [.int r17] (m_X10_bushels hJ  h) py_X10_bushels ps_X10_273 (Nat.le_of_ble_eq_true rfl) ⟨Nat.le_of_ble_eq_true rfl, Nat.le_of_ble_eq_true rfl⟩ ⟨Nat.zero_le _, Nat.zero_le _⟩ dX10_recipe_64 rfl (fun r20 M19 h => ?_)
      refine zt_iload C 5 dX10_recipe_67 rfl ?_
      refine zt_cSi C [.int x4] (m_X10_bushels hJ  h) py_X10_bushels ps_X10_273 (Nat.le_of_ble_eq_true rfl) ⟨Nat.le_of_ble_eq_true rfl, Nat.le_of_ble_eq_true rfl⟩ ⟨Nat.zero_le _, Nat.zero_le _⟩ dX10_recipe_69 rfl (fun r22 M21 h => ?_)
      refine zt_icmp_ge C 99 dX10_recipe_72 (by decide) (fun q23 => ?_) (fun q23 => ?_)
      · replace h := za_ifp h q23
        refine zt_sub [1, 2, 3, 4, 5, 6, 0] (lv' := [(0, .ref (g (27, 0, 0))), (1, .int x1), (2, .int x2), (3, .int x3), (4, .int x4), (5, .int x5), (6, .int r17)]) rfl ?_
        exact p_X10_recipe_b99 hJ C hr hk hL35 h
      · replace h := za_ifn h q23
        refine zt_sub [1, 2, 3, 4, 5, 6, 0] (lv' := [(0, .ref (g (27, 0, 0))), (1, .int x1), (2, .int x2), (3, .int x3), (4, .int x4), (5, .int x5), (6, .int r17)]) rfl ?_
        exact p_X10_recipe_b75 hJ C hr hk hL35 h
theorem p_X10_recipe_b35_in (hJ : za_J g) (C : za_C p s m args c cX10_recipe 8 RX10 g D cy) (hr : meth.sig.returnType = (some .int)) (hk : meth.locks = false) {x1 : Int32} {x2 : Int32} {x3 : Int32} {n : Nat} {x4 : Int32} {x5 : Int32} {M : za_M} (h : za_lp2 (f_X10_recipe_b35 K x1 x2 x3) n x4 x5 M) : zt p l e (za_rm 6 184) s m args below meth c 0 0 (MQ below (za_Qi g D cy K) args s 0 0 (za_A g)) g D cy 8 M 35 [(0, .ref (g (27, 0, 0))), (1, .int x1), (2, .int x2), (3, .int x3), (4, .int x4), (5, .int x5)] [] := za_lp2_run (Z := fun x4 x5 M => zt p l e (za_rm 6 184) s m args below meth c 0 0 (MQ below (za_Qi g D cy K) args s 0 0 (za_A g)) g D cy 8 M 35 [(0, .ref (g (27, 0, 0))), (1, .int x1), (2, .int x2), (3, .int x3), (4, .int x4), (5, .int x5)] []) (fun L hL => p_X10_recipe_b35 hJ C hr hk  hL) n x4 x5 M h
set_option maxRecDepth 100000 in
set_option maxHeartbeats 4000000 in
theorem p_X10_recipe (hJ : za_J g) (C : za_C p s m args c cX10_recipe 8 RX10 g D cy) (hr : meth.sig.returnType = (some .int)) (hk : meth.locks = false) {x1 : Int32} {x2 : Int32} {x3 : Int32} {M : za_M} (h : f_X10_recipe x1 x2 x3 M K) : zt p l e (za_rm 6 184) s m args below meth c 0 0 (MQ below (za_Qi g D cy K) args s 0 0 (za_A g)) g D cy 8 M 0 [(0, .ref (g (27, 0, 0))), (1, .int x1), (2, .int x2), (3, .int x3)] [] := by
  unfold f_X10_recipe at h
  refine zt_aload_n C 0 dX10_recipe_0 rfl rfl ?_
  refine zt_iload_n C 1 dX10_recipe_1 rfl rfl ?_
  refine zt_cVi C [.int x1] (m_X10_isPotter hJ  h) (za_mem (j := 27) rfl (by decide) (by decide)) (za_E_27 g cy M 0 0) rfl py_X10_isPotter pv_X10_197 (Nat.le_of_ble_eq_true rfl) ⟨Nat.le_of_ble_eq_true rfl, Nat.le_of_ble_eq_true rfl⟩ ⟨Nat.zero_le _, Nat.zero_le _⟩ dX10_recipe_2 rfl (fun r25 M24 h => ?_)
  refine zt_if_eq C 22 dX10_recipe_5 (by decide) (fun q26 => ?_) (fun q26 => ?_)
  · replace h := za_ifp h q26
    refine zt_aload_n C 0 dX10_recipe_22 rfl rfl ?_
    refine zt_ldc C w_969 dX10_recipe_23 ?_
    refine zt_cVi C [.int (-1000000001)] (m_X10_finding hJ  h) (za_mem (j := 27) rfl (by decide) (by decide)) (za_E_27 g cy M24 0 0) rfl py_X10_finding pv_X10_75 (Nat.le_of_ble_eq_true rfl) ⟨Nat.le_of_ble_eq_true rfl, Nat.le_of_ble_eq_true rfl⟩ ⟨Nat.zero_le _, Nat.zero_le _⟩ dX10_recipe_25 rfl (fun r28 M27 h => ?_)
    exact zt_ret C hr hk rfl dX10_recipe_28 h
  · replace h := za_ifn h q26
    refine zt_iload_n C 2 dX10_recipe_8 rfl rfl ?_
    refine zt_cSi C [.int x2] (m_X10_isDigit hJ  h) py_X10_isDigit ps_X10_216 (Nat.le_of_ble_eq_true rfl) ⟨Nat.le_of_ble_eq_true rfl, Nat.le_of_ble_eq_true rfl⟩ ⟨Nat.zero_le _, Nat.zero_le _⟩ dX10_recipe_9 rfl (fun r30 M29 h => ?_)
    refine zt_if_eq C 22 dX10_recipe_12 (by decide) (fun q31 => ?_) (fun q31 => ?_)
    · replace h := za_ifp h q31
      refine zt_aload_n C 0 dX10_recipe_22 rfl rfl ?_
      refine zt_ldc C w_969 dX10_recipe_23 ?_
      refine zt_cVi C [.int (-1000000001)] (m_X10_finding hJ  h) (za_mem (j := 27) rfl (by decide) (by decide)) (za_E_27 g cy M29 0 0) rfl py_X10_finding pv_X10_75 (Nat.le_of_ble_eq_true rfl) ⟨Nat.le_of_ble_eq_true rfl, Nat.le_of_ble_eq_true rfl⟩ ⟨Nat.zero_le _, Nat.zero_le _⟩ dX10_recipe_25 rfl (fun r33 M32 h => ?_)
      exact zt_ret C hr hk rfl dX10_recipe_28 h
    · replace h := za_ifn h q31
      refine zt_iload_n C 3 dX10_recipe_15 rfl rfl ?_
      refine zt_cSi C [.int x3] (m_X10_isDigit hJ  h) py_X10_isDigit ps_X10_216 (Nat.le_of_ble_eq_true rfl) ⟨Nat.le_of_ble_eq_true rfl, Nat.le_of_ble_eq_true rfl⟩ ⟨Nat.zero_le _, Nat.zero_le _⟩ dX10_recipe_16 rfl (fun r35 M34 h => ?_)
      refine zt_if_ne C 29 dX10_recipe_19 (by decide) (fun q36 => ?_) (fun q36 => ?_)
      · replace h := za_ifn h q36
        refine zt_iconst C (v := (-1)) dX10_recipe_29 zk_im1 ?_
        refine zt_istore C [(4, .int (-1)), (0, .ref (g (27, 0, 0))), (1, .int x1), (2, .int x2), (3, .int x3)] dX10_recipe_30 (by decide) rfl ?_
        refine zt_iconst C (v := 1) dX10_recipe_32 zk_i1 ?_
        refine zt_istore C [(5, .int 1), (4, .int (-1)), (0, .ref (g (27, 0, 0))), (1, .int x1), (2, .int x2), (3, .int x3)] dX10_recipe_33 (by decide) rfl ?_
        refine zt_sub [2, 3, 4, 5, 1, 0] (lv' := [(0, .ref (g (27, 0, 0))), (1, .int x1), (2, .int x2), (3, .int x3), (4, .int (-1)), (5, .int 1)]) rfl ?_
        obtain ⟨n, h⟩ := h
        exact p_X10_recipe_b35_in hJ C hr hk  h
      · replace h := za_ifp h q36
        refine zt_aload_n C 0 dX10_recipe_22 rfl rfl ?_
        refine zt_ldc C w_969 dX10_recipe_23 ?_
        refine zt_cVi C [.int (-1000000001)] (m_X10_finding hJ  h) (za_mem (j := 27) rfl (by decide) (by decide)) (za_E_27 g cy M34 0 0) rfl py_X10_finding pv_X10_75 (Nat.le_of_ble_eq_true rfl) ⟨Nat.le_of_ble_eq_true rfl, Nat.le_of_ble_eq_true rfl⟩ ⟨Nat.zero_le _, Nat.zero_le _⟩ dX10_recipe_25 rfl (fun r38 M37 h => ?_)
        exact zt_ret C hr hk rfl dX10_recipe_28 h
end
theorem m_X10_recipe {l : Launch} {g : za_L → Nat} {D : va_G} {cy : Nat → ClassId} (hJ : za_J g)  {x1 : Int32} {x2 : Int32} {x3 : Int32} {M : za_M} {K : Int32 → za_M → Prop} (h : f_X10_recipe x1 x2 x3 M K) : za_Mi l g D cy yX10_recipe cX10_recipe 8 (some .int) 6 184 [.ref (g (27, 0, 0)), .int x1, .int x2, .int x3] M K := za_openi hJ (by decide) (Nat.le_of_ble_eq_true rfl) (fun p e s m args below meth c C hr hk => p_X10_recipe hJ C hr hk  h)

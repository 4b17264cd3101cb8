/-! X9_then -/
def f_X9_then_b55 (K : Int32 → za_M → Prop) (x1 : Int32) (x2 : Int32) (x3 : Int32) (M : za_M) : Prop :=
  f_X1_copy 2 0 M (fun M1 => vp_in 1 2 ∧ (f_X1_passDays 2 x1 0 (Int32.toNatClampNeg 1) M1 (fun M4 => vp_in x2 4 ∧ (if x3 = (-1) then (K (M4.1 (4, 2, x2.toNatClampNeg) 2) M4) else (vp_in x3 5 ∧ (K (M4.1 (13, 2, x2.toNatClampNeg) x3.toNatClampNeg) M4))))))
def f_X9_then (x1 : Int32) (x2 : Int32) (x3 : Int32) (M : za_M) (K : Int32 → za_M → Prop) : Prop :=
  f_X9_within x1 0 60 M (fun r10 M9 => if r10 = 0 then (f_X9_fail 1 M9 (fun r13 M12 => K r13 M12)) else (f_X1_hasPotter 0 x2 M9 (fun r15 M14 => if r15 = 0 then (f_X9_fail 1 M14 (fun r24 M23 => K r24 M23)) else (if x3 = (-1) then (f_X9_then_b55 K x1 x2 x3 M14) else (f_X1_hasAsh 0 x3 M14 (fun r19 M18 => if r19 = 0 then (f_X9_fail 1 M18 (fun r22 M21 => K r22 M21)) else (f_X9_then_b55 K x1 x2 x3 M18)))))))
section
variable {p : Program} {l : Launch} {e : Env} {s : State} {m : MethodId} {args : Array Value} {below : List Frame} {meth : Method} {c : Code} {g : za_L → Nat} {D : va_G} {cy : Nat → ClassId} {K : Int32 → za_M → Prop}
set_option maxRecDepth 100000 in
set_option maxHeartbeats 4000000 in
theorem p_X9_then_b55 (hJ : za_J g) (C : za_C p s m args c cX9_then 5 RX9 g D cy) (hr : meth.sig.returnType = (some .int)) (hk : meth.locks = false) {x1 : Int32} {x2 : Int32} {x3 : Int32} {M : za_M} (h : f_X9_then_b55 K x1 x2 x3 M) : zt p l e (za_rm 7 206) s m args below meth c 0 0 (MQ below (za_Qi g D cy K) args s 0 0 (za_A g)) g D cy 5 M 55 [(0, .ref (g (0, 0, 0))), (1, .int x1), (2, .int x2), (3, .int x3)] [] := by
  unfold f_X9_then_b55 at h
  refine zt_aload_n C 0 dX9_then_55 rfl rfl ?_
  refine zt_get C (za_mem (j := 0) rfl (by decide) (by decide)) pf_X9_22 (za_E_0 g cy M 0 0) rfl dX9_then_56 ?_
  refine zt_aload_n C 0 dX9_then_59 rfl rfl ?_
  refine zt_get C (za_mem (j := 0) rfl (by decide) (by decide)) pf_X9_10 (za_E_0 g cy M 0 0) rfl dX9_then_60 ?_
  refine zt_get C (za_mem (j := 1) rfl (by decide) (by decide)) pf_X9_57 (za_E_1 g cy M 0 0) rfl dX9_then_63 ?_
  refine zt_cVv C [.ref (g (2, 0, 0))] (m_X1_copy hJ (by decide) (by decide) h) (za_mem (j := 2) rfl (by decide) (by decide)) (za_E_2 g cy M 2 0) rfl py_X1_copy pv_X9_241 (Nat.le_of_ble_eq_true rfl) ⟨Nat.le_of_ble_eq_true rfl, Nat.le_of_ble_eq_true rfl⟩ ⟨Nat.zero_le _, Nat.zero_le _⟩ dX9_then_66 rfl (fun M1 h => ?_)
  refine zt_aload_n C 0 dX9_then_69 rfl rfl ?_
  refine zt_get C (za_mem (j := 0) rfl (by decide) (by decide)) pf_X9_22 (za_E_0 g cy M1 0 0) rfl dX9_then_70 ?_
  refine zt_iload_n C 1 dX9_then_73 rfl rfl ?_
  refine zt_aload_n C 0 dX9_then_74 rfl rfl ?_
  refine zt_get C (za_mem (j := 0) rfl (by decide) (by decide)) pf_X9_10 (za_E_0 g cy M1 0 0) rfl dX9_then_75 ?_
  refine zt_get C (za_mem (j := 1) rfl (by decide) (by decide)) pf_X9_153 (za_E_1 g cy M1 0 0) rfl dX9_then_78 ?_
  refine zt_iconst C (v := 1) dX9_then_81 zk_i1 ?_
  obtain ⟨g3, h⟩ := h
  refine zt_aald C (za_mem (j := 14) rfl (by decide) (by decide)) (za_E_14 g cy M1 0 0) rfl g3 dX9_then_82 ?_
  refine zt_cVv C [.int x1, .ref (g (6, 0, (Int32.toNatClampNeg 1)))] (m_X1_passDays hJ (by decide) (by decide) (za_lt g3) h) (za_mem (j := 2) rfl (by decide) (by decide)) (za_E_2 g cy M1 2 0) rfl py_X1_passDays pv_X9_234 (Nat.le_of_ble_eq_true rfl) ⟨Nat.le_of_ble_eq_true rfl, Nat.le_of_ble_eq_true rfl⟩ ⟨Nat.zero_le _, Nat.zero_le _⟩ dX9_then_83 rfl (fun M4 h => ?_)
  refine zt_aload_n C 0 dX9_then_86 rfl rfl ?_
  refine zt_get C (za_mem (j := 0) rfl (by decide) (by decide)) pf_X9_22 (za_E_0 g cy M4 0 0) rfl dX9_then_87 ?_
  refine zt_get C (za_mem (j := 2) rfl (by decide) (by decide)) pf_X9_111 (za_E_2 g cy M4 2 0) rfl dX9_then_90 ?_
  refine zt_iload_n C 2 dX9_then_93 rfl rfl ?_
  obtain ⟨g6, h⟩ := h
  refine zt_aald C (za_mem (j := 11) rfl (by decide) (by decide)) (za_E_11 g cy M4 2 0) rfl g6 dX9_then_94 ?_
  refine zt_astore C [(4, .ref (g (4, 2, x2.toNatClampNeg))), (0, .ref (g (0, 0, 0))), (1, .int x1), (2, .int x2), (3, .int x3)] dX9_then_95 (by decide) rfl ?_
  refine zt_iload_n C 4 dX9_then_97 rfl rfl ?_
  refine zt_iconst C (v := (-1)) dX9_then_98 zk_im1 ?_
  refine zt_icmp_ne C 110 dX9_then_99 (by decide) (fun q7 => ?_) (fun q7 => ?_)
  · replace h := za_ifn h q7
    refine zt_aload C 0 dX9_then_110 rfl ?_
    refine zt_get C (za_mem (j := 4) rfl (by decide) (za_lt g6)) pf_X9_134 (za_E_4 g cy M4 2 x2.toNatClampNeg) rfl dX9_then_112 ?_
    refine zt_iload_n C 4 dX9_then_115 rfl rfl ?_
    obtain ⟨g8, h⟩ := h
    refine zt_iald C (za_mem (j := 13) rfl (by decide) (za_lt g6)) (fun W9 => za_E_13 g cy W9 2 x2.toNatClampNeg) g8 dX9_then_116 ?_
    exact zt_ret C hr hk rfl dX9_then_117 h
  · replace h := za_ifp h q7
    refine zt_aload C 0 dX9_then_102 rfl ?_
    refine zt_get C (za_mem (j := 4) rfl (by decide) (za_lt g6)) pf_X9_125 (za_E_4 g cy M4 2 x2.toNatClampNeg) rfl dX9_then_104 ?_
    refine zt_goto C 117 dX9_then_107 (by decide) ?_
    exact zt_ret C hr hk rfl dX9_then_117 h
set_option maxRecDepth 100000 in
set_option maxHeartbeats 4000000 in
theorem p_X9_then (hJ : za_J g) (C : za_C p s m args c cX9_then 5 RX9 g D cy) (hr : meth.sig.returnType = (some .int)) (hk : meth.locks = false) {x1 : Int32} {x2 : Int32} {x3 : Int32} {M : za_M} (h : f_X9_then x1 x2 x3 M K) : zt p l e (za_rm 7 206) s m args below meth c 0 0 (MQ below (za_Qi g D cy K) args s 0 0 (za_A g)) g D cy 5 M 0 [(0, .ref (g (0, 0, 0))), (1, .int x1), (2, .int x2), (3, .int x3)] [] := by
  unfold f_X9_then at h
  refine zt_iload_n C 1 dX9_then_0 rfl rfl ?_
  refine zt_iconst C (v := 0) dX9_then_1 zk_i0 ?_
  refine zt_bipush C (v := 60) dX9_then_2 zk_b60 ?_
  refine zt_cSi C [.int x1, .int 0, .int 60] (m_X9_within hJ  h) py_X9_within ps_X9_100 (Nat.le_of_ble_eq_true rfl) ⟨Nat.le_of_ble_eq_true rfl, Nat.le_of_ble_eq_true rfl⟩ ⟨Nat.zero_le _, Nat.zero_le _⟩ dX9_then_4 rfl (fun r10 M9 h => ?_)
  refine zt_if_eq C 24 dX9_then_7 (by decide) (fun q11 => ?_) (fun q11 => ?_)
  · replace h := za_ifp h q11
    refine zt_aload_n C 0 dX9_then_24 rfl rfl ?_
    refine zt_iconst C (v := 1) dX9_then_25 zk_i1 ?_
    refine zt_cVi C [.int 1] (m_X9_fail hJ  h) (za_mem (j := 0) rfl (by decide) (by decide)) (za_E_0 g cy M9 0 0) rfl py_X9_fail pv_X9_64 (Nat.le_of_ble_eq_true rfl) ⟨Nat.le_of_ble_eq_true rfl, Nat.le_of_ble_eq_true rfl⟩ ⟨Nat.zero_le _, Nat.zero_le _⟩ dX9_then_26 rfl (fun r13 M12 h => ?_)
    exact zt_ret C hr hk rfl dX9_then_29 h
  · replace h := za_ifn h q11
    refine zt_aload_n C 0 dX9_then_10 rfl rfl ?_
    refine zt_get C (za_mem (j := 0) rfl (by decide) (by decide)) pf_X9_10 (za_E_0 g cy M9 0 0) rfl dX9_then_11 ?_
    refine zt_get C (za_mem (j := 1) rfl (by decide) (by decide)) pf_X9_57 (za_E_1 g cy M9 0 0) rfl dX9_then_14 ?_
    refine zt_iload_n C 2 dX9_then_17 rfl rfl ?_
    refine zt_cVi C [.int x2] (m_X1_hasPotter hJ (by decide) h) (za_mem (j := 2) rfl (by decide) (by decide)) (za_E_2 g cy M9 0 0) rfl py_X1_hasPotter pv_X9_119 (Nat.le_of_ble_eq_true rfl) ⟨Nat.le_of_ble_eq_true rfl, Nat.le_of_ble_eq_true rfl⟩ ⟨Nat.zero_le _, Nat.zero_le _⟩ dX9_then_18 rfl (fun r15 M14 h => ?_)
    refine zt_if_ne C 30 dX9_then_21 (by decide) (fun q16 => ?_) (fun q16 => ?_)
    · replace h := za_ifn h q16
      refine zt_iload_n C 3 dX9_then_30 rfl rfl ?_
      refine zt_iconst C (v := (-1)) dX9_then_31 zk_im1 ?_
      refine zt_icmp_eq C 55 dX9_then_32 (by decide) (fun q17 => ?_) (fun q17 => ?_)
      · replace h := za_ifp h q17
        exact p_X9_then_b55 hJ C hr hk  h
      · replace h := za_ifn h q17
        refine zt_aload_n C 0 dX9_then_35 rfl rfl ?_
        refine zt_get C (za_mem (j := 0) rfl (by decide) (by decide)) pf_X9_10 (za_E_0 g cy M14 0 0) rfl dX9_then_36 ?_
        refine zt_get C (za_mem (j := 1) rfl (by decide) (by decide)) pf_X9_57 (za_E_1 g cy M14 0 0) rfl dX9_then_39 ?_
        refine zt_iload_n C 3 dX9_then_42 rfl rfl ?_
        refine zt_cVi C [.int x3] (m_X1_hasAsh hJ (by decide) h) (za_mem (j := 2) rfl (by decide) (by decide)) (za_E_2 g cy M14 0 0) rfl py_X1_hasAsh pv_X9_82 (Nat.le_of_ble_eq_true rfl) ⟨Nat.le_of_ble_eq_true rfl, Nat.le_of_ble_eq_true rfl⟩ ⟨Nat.zero_le _, Nat.zero_le _⟩ dX9_then_43 rfl (fun r19 M18 h => ?_)
        refine zt_if_ne C 55 dX9_then_46 (by decide) (fun q20 => ?_) (fun q20 => ?_)
        · replace h := za_ifn h q20
          exact p_X9_then_b55 hJ C hr hk  h
        · replace h := za_ifp h q20
          refine zt_aload_n C 0 dX9_then_49 rfl rfl ?_
          refine zt_iconst C (v := 1) dX9_then_50 zk_i1 ?_
          refine zt_cVi C [.int 1] (m_X9_fail hJ  h) (za_mem (j := 0) rfl (by decide) (by decide)) (za_E_0 g cy M18 0 0) rfl py_X9_fail pv_X9_64 (Nat.le_of_ble_eq_true rfl) ⟨Nat.le_of_ble_eq_true rfl, Nat.le_of_ble_eq_true rfl⟩ ⟨Nat.zero_le _, Nat.zero_le _⟩ dX9_then_51 rfl (fun r22 M21 h => ?_)
          exact zt_ret C hr hk rfl dX9_then_54 h
    · replace h := za_ifp h q16
      refine zt_aload_n C 0 dX9_then_24 rfl rfl ?_
      refine zt_iconst C (v := 1) dX9_then_25 zk_i1 ?_
      refine zt_cVi C [.int 1] (m_X9_fail hJ  h) (za_mem (j := 0) rfl (by decide) (by decide)) (za_E_0 g cy M14 0 0) rfl py_X9_fail pv_X9_64 (Nat.le_of_ble_eq_true rfl) ⟨Nat.le_of_ble_eq_true rfl, Nat.le_of_ble_eq_true rfl⟩ ⟨Nat.zero_le _, Nat.zero_le _⟩ dX9_then_26 rfl (fun r24 M23 h => ?_)
      exact zt_ret C hr hk rfl dX9_then_29 h
end
theorem m_X9_then {l : Launch} {g : za_L → Nat} {D : va_G} {cy : Nat → ClassId} (hJ : za_J g)  {x1 : Int32} {x2 : Int32} {x3 : Int32} {M : za_M} {K : Int32 → za_M → Prop} (h : f_X9_then x1 x2 x3 M K) : za_Mi l g D cy yX9_then cX9_then 5 (some .int) 7 206 [.ref (g (0, 0, 0)), .int x1, .int x2, .int x3] M K := za_openi hJ (by decide) (Nat.le_of_ble_eq_true rfl) (fun p e s m args below meth c C hr hk => p_X9_then hJ C hr hk  h)
/-! X9_breaks -/
def f_X9_breaks_b36 (K : Int32 → za_M → Prop) (x1 : Int32) (L36 : Int32 → za_M → Prop) (x2 : Int32) (M : za_M) : Prop :=
  if 60 < x2 then (f_X9_fail 2 M (fun r3 M2 => K r3 M2)) else (vp_in 1 2 ∧ (f_X1_passDays 2 1 0 (Int32.toNatClampNeg 1) M (fun M5 => vp_in x1 4 ∧ (vp_in x1 4 ∧ (if (M5.1 (4, 2, x1.toNatClampNeg) 2) ≤ (M5.1 (4, 0, x1.toNatClampNeg) 2) then (L36 (x2 + 1) M5) else (K x2 M5))))))
def f_X9_breaks (x1 : Int32) (M : za_M) (K : Int32 → za_M → Prop) : Prop :=
  f_X1_hasPotter 0 x1 M (fun r11 M10 => if r11 = 0 then (f_X9_fail 1 M10 (fun r16 M15 => K r16 M15)) else (f_X1_copy 2 0 M10 (fun M13 => ∃ n, za_lp1 (f_X9_breaks_b36 K x1) n 1 M13)))
section
variable {p : Program} {l : Launch} {e : Env} {s : State} {m : MethodId} {args : Array Value} {below : List Frame} {meth : Method} {c : Code} {g : za_L → Nat} {D : va_G} {cy : Nat → ClassId} {K : Int32 → za_M → Prop}
set_option maxRecDepth 100000 in
set_option maxHeartbeats 4000000 in
theorem p_X9_breaks_b36 (hJ : za_J g) (C : za_C p s m args c cX9_breaks 3 RX9 g D cy) (hr : meth.sig.returnType = (some .int)) (hk : meth.locks = false) {x1 : Int32} {L36 : Int32 → za_M → Prop} (hL36 : ∀ (x2 : Int32) (M : za_M), L36 x2 M → zt p l e (za_rm 7 206) s m args below meth c 0 0 (MQ below (za_Qi g D cy K) args s 0 0 (za_A g)) g D cy 3 M 36 [(0, .ref (g (0, 0, 0))), (1, .int x1), (2, .int x2)] []) : ∀ (x2 : Int32) (M : za_M), f_X9_breaks_b36 K x1 L36 x2 M → zt p l e (za_rm 7 206) s m args below meth c 0 0 (MQ below (za_Qi g D cy K) args s 0 0 (za_A g)) g D cy 3 M 36 [(0, .ref (g (0, 0, 0))), (1, .int x1), (2, .int x2)] [] := by
  intro x2 M h
  unfold f_X9_breaks_b36 at h
  refine zt_iload_n C 2 dX9_breaks_36 rfl rfl ?_
  refine zt_bipush C (v := 60) dX9_breaks_37 zk_b60 ?_
  refine zt_icmp_gt C 97 dX9_breaks_39 (by decide) (fun q1 => ?_) (fun q1 => ?_)
  · replace h := za_ifp h q1
    refine zt_aload_n C 0 dX9_breaks_97 rfl rfl ?_
    refine zt_iconst C (v := 2) dX9_breaks_98 zk_i2 ?_
    refine zt_cVi C [.int 2] (m_X9_fail hJ  h) (za_mem (j := 0) rfl (by decide) (by decide)) (za_E_0 g cy M 0 0) rfl py_X9_fail pv_X9_64 (Nat.le_of_ble_eq_true rfl) ⟨Nat.le_of_ble_eq_true rfl, Nat.le_of_ble_eq_true rfl⟩ ⟨Nat.zero_le _, Nat.zero_le _⟩ dX9_breaks_99 rfl (fun r3 M2 h => ?_)
    exact zt_ret C hr hk rfl dX9_breaks_102 h
  · replace h := za_ifn h q1
    refine zt_aload_n C 0 dX9_breaks_42 rfl rfl ?_
    refine zt_get C (za_mem (j := 0) rfl (by decide) (by decide)) pf_X9_22 (za_E_0 g cy M 0 0) rfl dX9_breaks_43 ?_
    refine zt_iconst C (v := 1) dX9_breaks_46 zk_i1 ?_
    refine zt_aload_n C 0 dX9_breaks_47 rfl rfl ?_
    refine zt_get C (za_mem (j := 0) rfl (by decide) (by decide)) pf_X9_10 (za_E_0 g cy M 0 0) rfl dX9_breaks_48 ?_
    refine zt_get C (za_mem (j := 1) rfl (by decide) (by decide)) pf_X9_153 (za_E_1 g cy M 0 0) rfl dX9_breaks_51 ?_
    refine zt_iconst C (v := 1) dX9_breaks_54 zk_i1 ?_
    obtain ⟨g4, h⟩ := h
    refine zt_aald C (za_mem (j := 14) rfl (by decide) (by decide)) (za_E_14 g cy M 0 0) rfl g4 dX9_breaks_55 ?_
    refine zt_cVv C [.int 1, .ref (g (6, 0, (Int32.toNatClampNeg 1)))] (m_X1_passDays hJ (by decide) (by decide) (za_lt g4) h) (za_mem (j := 2) rfl (by decide) (by decide)) (za_E_2 g cy M 2 0) rfl py_X1_passDays pv_X9_234 (Nat.le_of_ble_eq_true rfl) ⟨Nat.le_of_ble_eq_true rfl, Nat.le_of_ble_eq_true rfl⟩ ⟨Nat.zero_le _, Nat.zero_le _⟩ dX9_breaks_56 rfl (fun M5 h => ?_)
    refine zt_aload_n C 0 dX9_breaks_59 rfl rfl ?_
    refine zt_get C (za_mem (j := 0) rfl (by decide) (by decide)) pf_X9_22 (za_E_0 g cy M5 0 0) rfl dX9_breaks_60 ?_
    refine zt_get C (za_mem (j := 2) rfl (by decide) (by decide)) pf_X9_111 (za_E_2 g cy M5 2 0) rfl dX9_breaks_63 ?_
    refine zt_iload_n C 1 dX9_breaks_66 rfl rfl ?_
    obtain ⟨g7, h⟩ := h
    refine zt_aald C (za_mem (j := 11) rfl (by decide) (by decide)) (za_E_11 g cy M5 2 0) rfl g7 dX9_breaks_67 ?_
    refine zt_get C (za_mem (j := 4) rfl (by decide) (za_lt g7)) pf_X9_125 (za_E_4 g cy M5 2 x1.toNatClampNeg) rfl dX9_breaks_68 ?_
    refine zt_aload_n C 0 dX9_breaks_71 rfl rfl ?_
    refine zt_get C (za_mem (j := 0) rfl (by decide) (by decide)) pf_X9_10 (za_E_0 g cy M5 0 0) rfl dX9_breaks_72 ?_
    refine zt_get C (za_mem (j := 1) rfl (by decide) (by decide)) pf_X9_57 (za_E_1 g cy M5 0 0) rfl dX9_breaks_75 ?_
    refine zt_get C (za_mem (j := 2) rfl (by decide) (by decide)) pf_X9_111 (za_E_2 g cy M5 0 0) rfl dX9_breaks_78 ?_
    refine zt_iload_n C 1 dX9_breaks_81 rfl rfl ?_
    obtain ⟨g8, h⟩ := h
    refine zt_aald C (za_mem (j := 11) rfl (by decide) (by decide)) (za_E_11 g cy M5 0 0) rfl g8 dX9_breaks_82 ?_
    refine zt_get C (za_mem (j := 4) rfl (by decide) (za_lt g8)) pf_X9_125 (za_E_4 g cy M5 0 x1.toNatClampNeg) rfl dX9_breaks_83 ?_
    refine zt_icmp_le C 91 dX9_breaks_86 (by decide) (fun q9 => ?_) (fun q9 => ?_)
    · replace h := za_ifp h q9
      refine zt_iinc C (v := x2 + 1) 2 [(2, .int (x2 + 1)), (0, .ref (g (0, 0, 0))), (1, .int x1)] dX9_breaks_91 rfl (zk_n1 _) (by decide) rfl ?_
      refine zt_goto C 36 dX9_breaks_94 (by decide) ?_
      refine zt_sub [1, 2, 0] (lv' := [(0, .ref (g (0, 0, 0))), (1, .int x1), (2, .int (x2 + 1))]) rfl ?_
      exact hL36 _ _ h
    · replace h := za_ifn h q9
      refine zt_iload_n C 2 dX9_breaks_89 rfl rfl ?_
      exact zt_ret C hr hk rfl dX9_breaks_90 h
theorem p_X9_breaks_b36_in (hJ : za_J g) (C : za_C p s m args c cX9_breaks 3 RX9 g D cy) (hr : meth.sig.returnType = (some .int)) (hk : meth.locks = false) {x1 : Int32} {n : Nat} {x2 : Int32} {M : za_M} (h : za_lp1 (f_X9_breaks_b36 K x1) n x2 M) : zt p l e (za_rm 7 206) s m args below meth c 0 0 (MQ below (za_Qi g D cy K) args s 0 0 (za_A g)) g D cy 3 M 36 [(0, .ref (g (0, 0, 0))), (1, .int x1), (2, .int x2)] [] := za_lp1_run (Z := fun x2 M => zt p l e (za_rm 7 206) s m args below meth c 0 0 (MQ below (za_Qi g D cy K) args s 0 0 (za_A g)) g D cy 3 M 36 [(0, .ref (g (0, 0, 0))), (1, .int x1), (2, .int x2)] []) (fun L hL => p_X9_breaks_b36 hJ C hr hk  hL) n x2 M h
set_option maxRecDepth 100000 in
set_option maxHeartbeats 4000000 in
theorem p_X9_breaks (hJ : za_J g) (C : za_C p s m args c cX9_breaks 3 RX9 g D cy) (hr : meth.sig.returnType = (some .int)) (hk : meth.locks = false) {x1 : Int32} {M : za_M} (h : f_X9_breaks x1 M K) : zt p l e (za_rm 7 206) s m args below meth c 0 0 (MQ below (za_Qi g D cy K) args s 0 0 (za_A g)) g D cy 3 M 0 [(0, .ref (g (0, 0, 0))), (1, .int x1)] [] := by
  unfold f_X9_breaks at h
  refine zt_aload_n C 0 dX9_breaks_0 rfl rfl ?_
  refine zt_get C (za_mem (j := 0) rfl (by decide) (by decide)) pf_X9_10 (za_E_0 g cy M 0 0) rfl dX9_breaks_1 ?_
  refine zt_get C (za_mem (j := 1) rfl (by decide) (by decide)) pf_X9_57 (za_E_1 g cy M 0 0) rfl dX9_breaks_4 ?_
  refine zt_iload_n C 1 dX9_breaks_7 rfl rfl ?_
  refine zt_cVi C [.int x1] (m_X1_hasPotter hJ (by decide) h) (za_mem (j := 2) rfl (by decide) (by decide)) (za_E_2 g cy M 0 0) rfl py_X1_hasPotter pv_X9_119 (Nat.le_of_ble_eq_true rfl) ⟨Nat.le_of_ble_eq_true rfl, Nat.le_of_ble_eq_true rfl⟩ ⟨Nat.zero_le _, Nat.zero_le _⟩ dX9_breaks_8 rfl (fun r11 M10 h => ?_)
  refine zt_if_ne C 20 dX9_breaks_11 (by decide) (fun q12 => ?_) (fun q12 => ?_)
  · replace h := za_ifn h q12
    refine zt_aload_n C 0 dX9_breaks_20 rfl rfl ?_
    refine zt_get C (za_mem (j := 0) rfl (by decide) (by decide)) pf_X9_22 (za_E_0 g cy M10 0 0) rfl dX9_breaks_21 ?_
    refine zt_aload_n C 0 dX9_breaks_24 rfl rfl ?_
    refine zt_get C (za_mem (j := 0) rfl (by decide) (by decide)) pf_X9_10 (za_E_0 g cy M10 0 0) rfl dX9_breaks_25 ?_
    refine zt_get C (za_mem (j := 1) rfl (by decide) (by decide)) pf_X9_57 (za_E_1 g cy M10 0 0) rfl dX9_breaks_28 ?_
    refine zt_cVv C [.ref (g (2, 0, 0))] (m_X1_copy hJ (by decide) (by decide) h) (za_mem (j := 2) rfl (by decide) (by decide)) (za_E_2 g cy M10 2 0) rfl py_X1_copy pv_X9_241 (Nat.le_of_ble_eq_true rfl) ⟨Nat.le_of_ble_eq_true rfl, Nat.le_of_ble_eq_true rfl⟩ ⟨Nat.zero_le _, Nat.zero_le _⟩ dX9_breaks_31 rfl (fun M13 h => ?_)
    refine zt_iconst C (v := 1) dX9_breaks_34 zk_i1 ?_
    refine zt_istore_n C [(2, .int 1), (0, .ref (g (0, 0, 0))), (1, .int x1)] dX9_breaks_35 rfl (by decide) rfl ?_
    refine zt_sub [1, 2, 0] (lv' := [(0, .ref (g (0, 0, 0))), (1, .int x1), (2, .int 1)]) rfl ?_
    obtain ⟨n, h⟩ := h
    exact p_X9_breaks_b36_in hJ C hr hk  h
  · replace h := za_ifp h q12
    refine zt_aload_n C 0 dX9_breaks_14 rfl rfl ?_
    refine zt_iconst C (v := 1) dX9_breaks_15 zk_i1 ?_
    refine zt_cVi C [.int 1] (m_X9_fail hJ  h) (za_mem (j := 0) rfl (by decide) (by decide)) (za_E_0 g cy M10 0 0) rfl py_X9_fail pv_X9_64 (Nat.le_of_ble_eq_true rfl) ⟨Nat.le_of_ble_eq_true rfl, Nat.le_of_ble_eq_true rfl⟩ ⟨Nat.zero_le _, Nat.zero_le _⟩ dX9_breaks_16 rfl (fun r16 M15 h => ?_)
    exact zt_ret C hr hk rfl dX9_breaks_19 h
end
theorem m_X9_breaks {l : Launch} {g : za_L → Nat} {D : va_G} {cy : Nat → ClassId} (hJ : za_J g)  {x1 : Int32} {M : za_M} {K : Int32 → za_M → Prop} (h : f_X9_breaks x1 M K) : za_Mi l g D cy yX9_breaks cX9_breaks 3 (some .int) 7 206 [.ref (g (0, 0, 0)), .int x1] M K := za_openi hJ (by decide) (Nat.le_of_ble_eq_true rfl) (fun p e s m args below meth c C hr hk => p_X9_breaks hJ C hr hk  h)
/-! X9_isColour -/
def f_X9_isColour (x0 : Int32) (M : za_M) (K : Int32 → za_M → Prop) : Prop :=
  f_X9_within x0 0 9 M (fun r2 M1 => za_B r2 ∧ (K r2 M1))
section
variable {p : Program} {l : Launch} {e : Env} {s : State} {m : MethodId} {args : Array Value} {below : List Frame} {meth : Method} {c : Code} {g : za_L → Nat} {D : va_G} {cy : Nat → ClassId} {K : Int32 → za_M → Prop}
set_option maxRecDepth 100000 in
set_option maxHeartbeats 4000000 in
theorem p_X9_isColour (hJ : za_J g) (C : za_C p s m args c cX9_isColour 1 RX9 g D cy) (hr : meth.sig.returnType = (some .boolean)) (hk : meth.locks = false) {x0 : Int32} {M : za_M} (h : f_X9_isColour x0 M K) : zt p l e (za_rm 2 86) s m args below meth c 0 0 (MQ below (za_Qi g D cy K) args s 0 0 (za_A g)) g D cy 1 M 0 [(0, .int x0)] [] := by
  unfold f_X9_isColour at h
  refine zt_iload_n C 0 dX9_isColour_0 rfl rfl ?_
  refine zt_iconst C (v := 0) dX9_isColour_1 zk_i0 ?_
  refine zt_bipush C (v := 9) dX9_isColour_2 zk_b9 ?_
  refine zt_cSi C [.int x0, .int 0, .int 9] (m_X9_within hJ  h) py_X9_within ps_X9_100 (Nat.le_of_ble_eq_true rfl) ⟨Nat.le_of_ble_eq_true rfl, Nat.le_of_ble_eq_true rfl⟩ ⟨Nat.zero_le _, Nat.zero_le _⟩ dX9_isColour_4 rfl (fun r2 M1 h => ?_)
  obtain ⟨g3, h⟩ := h
  exact zt_ret C hr hk (za_Bn g3) dX9_isColour_7 h
end
theorem m_X9_isColour {l : Launch} {g : za_L → Nat} {D : va_G} {cy : Nat → ClassId} (hJ : za_J g)  {x0 : Int32} {M : za_M} {K : Int32 → za_M → Prop} (h : f_X9_isColour x0 M K) : za_Mi l g D cy yX9_isColour cX9_isColour 1 (some .boolean) 2 86 [.int x0] M K := za_openi hJ (by decide) (Nat.le_of_ble_eq_true rfl) (fun p e s m args below meth c C hr hk => p_X9_isColour hJ C hr hk  h)
/-! X9_prepareRecipes -/
def f_X9_prepareRecipes_b71 (K : za_M → Prop) (L2 : Int32 → za_M → Prop) (c1 : Nat) (i1 : Nat) (x2 : Int32) (x3 : Int32) (s1 : Int32) (s2 : Int32) (M : za_M) : Prop :=
  vp_in s1 5 ∧ (za_let (za_up M (26, 0, 0) s1.toNatClampNeg s2) fun M2 => L2 (x3 + 1) M2)
def f_X9_prepareRecipes_b2 (K : za_M → Prop) (c1 : Nat) (i1 : Nat) (x2 : Int32) (L2 : Int32 → za_M → Prop) (x3 : Int32) (M : za_M) : Prop :=
  if (M.1 (2, 0, 0) 3) ≤ x3 then (K M) else (vp_in x3 5 ∧ (f_X9_colourOfAsh 0 x3.toNatClampNeg x2 M (fun r7 M6 => vp_in x3 5 ∧ (za_let (za_up M6 (25, 0, 0) x3.toNatClampNeg r7) fun M9 => f_X0_isForbiddenAt 0 x3.toNatClampNeg x2 M9 (fun r12 M11 => if r12 = 0 then (vp_in x3 5 ∧ (f_X9_prepareRecipes_b71 K L2 c1 i1 x2 x3 x3 (za_min 3 (M11.1 (13, c1, i1) x3.toNatClampNeg)) M11)) else (f_X9_prepareRecipes_b71 K L2 c1 i1 x2 x3 x3 0 M11))))))
def f_X9_prepareRecipes (c1 : Nat) (i1 : Nat) (x2 : Int32) (M : za_M) (K : za_M → Prop) : Prop :=
  ∃ n, za_lp1 (f_X9_prepareRecipes_b2 K c1 i1 x2) n 0 M
section
variable {p : Program} {l : Launch} {e : Env} {s : State} {m : MethodId} {args : Array Value} {below : List Frame} {meth : Method} {c : Code} {g : za_L → Nat} {D : va_G} {cy : Nat → ClassId} {K : za_M → Prop}
set_option maxRecDepth 100000 in
set_option maxHeartbeats 4000000 in
theorem p_X9_prepareRecipes_b71 (hJ : za_J g) (C : za_C p s m args c cX9_prepareRecipes 5 RX9 g D cy) (hr : meth.sig.returnType = none) (hk : meth.locks = false) {c1 : Nat} (hc1 : c1 < 3) {i1 : Nat} (hi1 : i1 < 4) {x2 : Int32} {x3 : Int32} {s1 : Int32} {s2 : Int32} {L2 : Int32 → za_M → Prop} (hL2 : ∀ (x3 : Int32) (M : za_M), L2 x3 M → zt p l e (za_rm 5 159) s m args below meth c 0 0 (MQ below (za_Qv g D cy K) args s 0 0 (za_A g)) g D cy 5 M 2 [(0, .ref (g (0, 0, 0))), (1, .ref (g (4, c1, i1))), (2, .int x2), (3, .int x3)] []) {M : za_M} (h : f_X9_prepareRecipes_b71 K L2 c1 i1 x2 x3 s1 s2 M) : zt p l e (za_rm 5 159) s m args below meth c 0 0 (MQ below (za_Qv g D cy K) args s 0 0 (za_A g)) g D cy 5 M 71 [(0, .ref (g (0, 0, 0))), (1, .ref (g (4, c1, i1))), (2, .int x2), (3, .int x3)] [.int s2, .int s1, .ref (g (26, 0, 0))] := by
  unfold f_X9_prepareRecipes_b71 at h
  obtain ⟨g1, h⟩ := h
  refine zt_iast C (za_mem (j := 26) rfl (by decide) (by decide)) (fun W9 => za_E_26 g cy W9 0 0) g1 dX9_prepareRecipes_71 ?_
  refine zt_topM (fun M2 e3 => ?_)
  replace h := za_use h e3
  refine zt_iinc C (v := x3 + 1) 3 [(3, .int (x3 + 1)), (0, .ref (g (0, 0, 0))), (1, .ref (g (4, c1, i1))), (2, .int x2)] dX9_prepareRecipes_72 rfl (zk_n1 _) (by decide) rfl ?_
  refine zt_goto C 2 dX9_prepareRecipes_75 (by decide) ?_
  refine zt_sub [1, 2, 3, 0] (lv' := [(0, .ref (g (0, 0, 0))), (1, .ref (g (4, c1, i1))), (2, .int x2), (3, .int (x3 + 1))]) rfl ?_
  exact hL2 _ _ h
set_option maxRecDepth 100000 in
set_option maxHeartbeats 4000000 in
theorem p_X9_prepareRecipes_b2 (hJ : za_J g) (C : za_C p s m args c cX9_prepareRecipes 5 RX9 g D cy) (hr : meth.sig.returnType = none) (hk : meth.locks = false) {c1 : Nat} (hc1 : c1 < 3) {i1 : Nat} (hi1 : i1 < 4) {x2 : Int32} {L2 : Int32 → za_M → Prop} (hL2 : ∀ (x3 : Int32) (M : za_M), L2 x3 M → zt p l e (za_rm 5 159) s m args below meth c 0 0 (MQ below (za_Qv g D cy K) args s 0 0 (za_A g)) g D cy 5 M 2 [(0, .ref (g (0, 0, 0))), (1, .ref (g (4, c1, i1))), (2, .int x2), (3, .int x3)] []) : ∀ (x3 : Int32) (M : za_M), f_X9_prepareRecipes_b2 K c1 i1 x2 L2 x3 M → zt p l e (za_rm 5 159) s m args below meth c 0 0 (MQ below (za_Qv g D cy K) args s 0 0 (za_A g)) g D cy 5 M 2 [(0, .ref (g (0, 0, 0))), (1, .ref (g (4, c1, i1))), (2, .int x2), (3, .int x3)] [] := by
  intro x3 M h
  unfold f_X9_prepareRecipes_b2 at h
  refine zt_iload_n C 3 dX9_prepareRecipes_2 rfl rfl ?_
  refine zt_aload_n C 0 dX9_prepareRecipes_3 rfl rfl ?_
  refine zt_get C (za_mem (j := 0) rfl (by decide) (by decide)) pf_X9_10 (za_E_0 g cy M 0 0) rfl dX9_prepareRecipes_4 ?_
  refine zt_get C (za_mem (j := 1) rfl (by decide) (by decide)) pf_X9_57 (za_E_1 g cy M 0 0) rfl dX9_prepareRecipes_7 ?_
  refine zt_get C (za_mem (j := 2) rfl (by decide) (by decide)) pf_X9_68 (za_E_2 g cy M 0 0) rfl dX9_prepareRecipes_10 ?_
  refine zt_icmp_ge C 78 dX9_prepareRecipes_13 (by decide) (fun q4 => ?_) (fun q4 => ?_)
  · replace h := za_ifp h q4
    exact zt_vret C hr hk dX9_prepareRecipes_78 h
  · replace h := za_ifn h q4
    refine zt_aload_n C 0 dX9_prepareRecipes_16 rfl rfl ?_
    refine zt_get C (za_mem (j := 0) rfl (by decide) (by decide)) pf_X9_10 (za_E_0 g cy M 0 0) rfl dX9_prepareRecipes_17 ?_
    refine zt_get C (za_mem (j := 1) rfl (by decide) (by decide)) pf_X9_57 (za_E_1 g cy M 0 0) rfl dX9_prepareRecipes_20 ?_
    refine zt_get C (za_mem (j := 2) rfl (by decide) (by decide)) pf_X9_72 (za_E_2 g cy M 0 0) rfl dX9_prepareRecipes_23 ?_
    refine zt_iload_n C 3 dX9_prepareRecipes_26 rfl rfl ?_
    obtain ⟨g5, h⟩ := h
    refine zt_aald C (za_mem (j := 10) rfl (by decide) (by decide)) (za_E_10 g cy M 0 0) rfl g5 dX9_prepareRecipes_27 ?_
    refine zt_astore C [(4, .ref (g (3, 0, x3.toNatClampNeg))), (0, .ref (g (0, 0, 0))), (1, .ref (g (4, c1, i1))), (2, .int x2), (3, .int x3)] dX9_prepareRecipes_28 (by decide) rfl ?_
    refine zt_aload_n C 1 dX9_prepareRecipes_30 rfl rfl ?_
    refine zt_get C (za_mem (j := 0) rfl (by decide) (by decide)) pf_X9_50 (za_E_0 g cy M 0 0) rfl dX9_prepareRecipes_31 ?_
    refine zt_iload_n C 4 dX9_prepareRecipes_34 rfl rfl ?_
    refine zt_aload_n C 1 dX9_prepareRecipes_35 rfl rfl ?_
    refine zt_aload C 0 dX9_prepareRecipes_36 rfl ?_
    refine zt_iload_n C 3 dX9_prepareRecipes_38 rfl rfl ?_
    refine zt_cVi C [.ref (g (3, 0, x3.toNatClampNeg)), .int x2] (m_X9_colourOfAsh hJ (by decide) (za_lt g5) h) (za_mem (j := 0) rfl (by decide) (by decide)) (za_E_0 g cy M 0 0) rfl py_X9_colourOfAsh pv_X9_356 (Nat.le_of_ble_eq_true rfl) ⟨Nat.le_of_ble_eq_true rfl, Nat.le_of_ble_eq_true rfl⟩ ⟨Nat.zero_le _, Nat.zero_le _⟩ dX9_prepareRecipes_39 rfl (fun r7 M6 h => ?_)
    obtain ⟨g8, h⟩ := h
    refine zt_iast C (za_mem (j := 25) rfl (by decide) (by decide)) (fun W9 => za_E_25 g cy W9 0 0) g8 dX9_prepareRecipes_42 ?_
    refine zt_topM (fun M9 e10 => ?_)
    replace h := za_use h e10
    refine zt_aload_n C 1 dX9_prepareRecipes_43 rfl rfl ?_
    refine zt_get C (za_mem (j := 0) rfl (by decide) (by decide)) pf_X9_53 (za_E_0 g cy M9 0 0) rfl dX9_prepareRecipes_44 ?_
    refine zt_iload_n C 4 dX9_prepareRecipes_47 rfl rfl ?_
    refine zt_aload C 0 dX9_prepareRecipes_48 rfl ?_
    refine zt_iload_n C 3 dX9_prepareRecipes_50 rfl rfl ?_
    refine zt_cVi C [.int x2] (m_X0_isForbiddenAt hJ (by decide) (za_lt g5) h) (za_mem (j := 3) rfl (by decide) (za_lt g5)) (za_E_3 g cy M9 0 x3.toNatClampNeg) rfl py_X0_isForbiddenAt pv_X9_353 (Nat.le_of_ble_eq_true rfl) ⟨Nat.le_of_ble_eq_true rfl, Nat.le_of_ble_eq_true rfl⟩ ⟨Nat.zero_le _, Nat.zero_le _⟩ dX9_prepareRecipes_51 rfl (fun r12 M11 h => ?_)
    refine zt_if_eq C 61 dX9_prepareRecipes_54 (by decide) (fun q13 => ?_) (fun q13 => ?_)
    · replace h := za_ifp h q13
      refine zt_iconst C (v := 3) dX9_prepareRecipes_61 zk_i3 ?_
      refine zt_aload_n C 2 dX9_prepareRecipes_62 rfl rfl ?_
      refine zt_get C (za_mem (j := 4) rfl hc1 hi1) pf_X9_134 (za_E_4 g cy M11 c1 i1) rfl dX9_prepareRecipes_63 ?_
      refine zt_iload_n C 4 dX9_prepareRecipes_66 rfl rfl ?_
      obtain ⟨g14, h⟩ := h
      refine zt_iald C (za_mem (j := 13) rfl hc1 hi1) (fun W9 => za_E_13 g cy W9 c1 i1) g14 dX9_prepareRecipes_67 ?_
      refine zt_mmin C w_701 w_702 w_91 w_703 (Nat.le_of_ble_eq_true rfl) (Nat.le_of_ble_eq_true rfl) (Nat.zero_le _) (Nat.zero_le _) dX9_prepareRecipes_68 ?_
      refine zt_sub [1, 2, 3, 4] (lv' := [(0, .ref (g (0, 0, 0))), (1, .ref (g (4, c1, i1))), (2, .int x2), (3, .int x3)]) rfl ?_
      exact p_X9_prepareRecipes_b71 hJ C hr hk hc1 hi1 hL2 h
    · replace h := za_ifn h q13
      refine zt_iconst C (v := 0) dX9_prepareRecipes_57 zk_i0 ?_
      refine zt_goto C 71 dX9_prepareRecipes_58 (by decide) ?_
      refine zt_sub [1, 2, 3, 4] (lv' := [(0, .ref (g (0, 0, 0))), (1, .ref (g (4, c1, i1))), (2, .int x2), (3, .int x3)]) rfl ?_
      exact p_X9_prepareRecipes_b71 hJ C hr hk hc1 hi1 hL2 h
theorem p_X9_prepareRecipes_b2_in (hJ : za_J g) (C : za_C p s m args c cX9_prepareRecipes 5 RX9 g D cy) (hr : meth.sig.returnType = none) (hk : meth.locks = false) {c1 : Nat} (hc1 : c1 < 3) {i1 : Nat} (hi1 : i1 < 4) {x2 : Int32} {n : Nat} {x3 : Int32} {M : za_M} (h : za_lp1 (f_X9_prepareRecipes_b2 K c1 i1 x2) n x3 M) : zt p l e (za_rm 5 159) s m args below meth c 0 0 (MQ below (za_Qv g D cy K) args s 0 0 (za_A g)) g D cy 5 M 2 [(0, .ref (g (0, 0, 0))), (1, .ref (g (4, c1, i1))), (2, .int x2), (3, .int x3)] [] := za_lp1_run (Z := fun x3 M => zt p l e (za_rm 5 159) s m args below meth c 0 0 (MQ below (za_Qv g D cy K) args s 0 0 (za_A g)) g D cy 5 M 2 [(0, .ref (g (0, 0, 0))), (1, .ref (g (4, c1, i1))), (2, .int x2), (3, .int x3)] []) (fun L hL => p_X9_prepareRecipes_b2 hJ C hr hk hc1 hi1 hL) n x3 M h
set_option maxRecDepth 100000 in
set_option maxHeartbeats 4000000 in
theorem p_X9_prepareRecipes (hJ : za_J g) (C : za_C p s m args c cX9_prepareRecipes 5 RX9 g D cy) (hr : meth.sig.returnType = none) (hk : meth.locks = false) {c1 : Nat} (hc1 : c1 < 3) {i1 : Nat} (hi1 : i1 < 4) {x2 : Int32} {M : za_M} (h : f_X9_prepareRecipes c1 i1 x2 M K) : zt p l e (za_rm 5 159) s m args below meth c 0 0 (MQ below (za_Qv g D cy K) args s 0 0 (za_A g)) g D cy 5 M 0 [(0, .ref (g (0, 0, 0))), (1, .ref (g (4, c1, i1))), (2, .int x2)] [] := by
  unfold f_X9_prepareRecipes at h
  refine zt_iconst C (v := 0) dX9_prepareRecipes_0 zk_i0 ?_
  refine zt_istore_n C [(3, .int 0), (0, .ref (g (0, 0, 0))), (1, .ref (g (4, c1, i1))), (2, .int x2)] dX9_prepareRecipes_1 rfl (by decide) rfl ?_
  refine zt_sub [1, 2, 3, 0] (lv' := [(0, .ref (g (0, 0, 0))), (1, .ref (g (4, c1, i1))), (2, .int x2), (3, .int 0)]) rfl ?_
  obtain ⟨n, h⟩ := h
  exact p_X9_prepareRecipes_b2_in hJ C hr hk hc1 hi1 h
end
theorem m_X9_prepareRecipes {l : Launch} {g : za_L → Nat} {D : va_G} {cy : Nat → ClassId} (hJ : za_J g)  {c1 : Nat} (hc1 : c1 < 3) {i1 : Nat} (hi1 : i1 < 4) {x2 : Int32} {M : za_M} {K : za_M → Prop} (h : f_X9_prepareRecipes c1 i1 x2 M K) : za_Mv l g D cy yX9_prepareRecipes cX9_prepareRecipes 5 none 5 159 [.ref (g (0, 0, 0)), .ref (g (4, c1, i1)), .int x2] M K := za_openv hJ (by decide) (Nat.le_of_ble_eq_true rfl) (fun p e s m args below meth c C hr hk => p_X9_prepareRecipes hJ C hr hk hc1 hi1 h)
/-! X9_bushelsOfChoice -/
def f_X9_bushelsOfChoice_b4 (K : Int32 → za_M → Prop) (x1 : Int32) (L4 : Int32 → Int32 → za_M → Prop) (x2 : Int32) (x3 : Int32) (M : za_M) : Prop :=
  if (M.1 (2, 0, 0) 3) ≤ x3 then (K x2 M) else (za_let ((x1 >>> ((2 * x3) &&& 31)) &&& 3) fun y2 => vp_in x3 5 ∧ (if y2 ≤ (M.1 (26, 0, 0) x3.toNatClampNeg) then (za_let (x2 + y2) fun y6 => L4 y6 (x3 + 1) M) else (K 0 M)))
def f_X9_bushelsOfChoice (x1 : Int32) (M : za_M) (K : Int32 → za_M → Prop) : Prop :=
  ∃ n, za_lp2 (f_X9_bushelsOfChoice_b4 K x1) n 0 0 M
section
variable {p : Program} {l : Launch} {e : Env} {s : State} {m : MethodId} {args : Array Value} {below : List Frame} {meth : Method} {c : Code} {g : za_L → Nat} {D : va_G} {cy : Nat → ClassId} {K : Int32 → za_M → Prop}
set_option maxRecDepth 100000 in
set_option maxHeartbeats 4000000 in
theorem p_X9_bushelsOfChoice_b4 (hJ : za_J g) (C : za_C p s m args c cX9_bushelsOfChoice 5 RX9 g D cy) (hr : meth.sig.returnType = (some .int)) (hk : meth.locks = false) {x1 : Int32} {L4 : Int32 → Int32 → za_M → Prop} (hL4 : ∀ (x2 : Int32) (x3 : Int32) (M : za_M), L4 x2 x3 M → zt p l e (za_rm 1 64) s m args below meth c 0 0 (MQ below (za_Qi g D cy K) args s 0 0 (za_A g)) g D cy 5 M 4 [(0, .ref (g (0, 0, 0))), (1, .int x1), (2, .int x2), (3, .int x3)] []) : ∀ (x2 : Int32) (x3 : Int32) (M : za_M), f_X9_bushelsOfChoice_b4 K x1 L4 x2 x3 M → zt p l e (za_rm 1 64) s m args below meth c 0 0 (MQ below (za_Qi g D cy K) args s 0 0 (za_A g)) g D cy 5 M 4 [(0, .ref (g (0, 0, 0))), (1, .int x1), (2, .int x2), (3, .int x3)] [] := by
  intro x2 x3 M h
  unfold f_X9_bushelsOfChoice_b4 at h
  refine zt_iload_n C 3 dX9_bushelsOfChoice_4 rfl rfl ?_
  refine zt_aload_n C 0 dX9_bushelsOfChoice_5 rfl rfl ?_
  refine zt_get C (za_mem (j := 0) rfl (by decide) (by decide)) pf_X9_10 (za_E_0 g cy M 0 0) rfl dX9_bushelsOfChoice_6 ?_
  refine zt_get C (za_mem (j := 1) rfl (by decide) (by decide)) pf_X9_57 (za_E_1 g cy M 0 0) rfl dX9_bushelsOfChoice_9 ?_
  refine zt_get C (za_mem (j := 2) rfl (by decide) (by decide)) pf_X9_68 (za_E_2 g cy M 0 0) rfl dX9_bushelsOfChoice_12 ?_
  refine zt_icmp_ge C 51 dX9_bushelsOfChoice_15 (by decide) (fun q1 => ?_) (fun q1 => ?_)
  · replace h := za_ifp h q1
    refine zt_iload_n C 2 dX9_bushelsOfChoice_51 rfl rfl ?_
    exact zt_ret C hr hk rfl dX9_bushelsOfChoice_52 h
  · replace h := za_ifn h q1
    refine zt_iload_n C 1 dX9_bushelsOfChoice_18 rfl rfl ?_
    refine zt_iconst C (v := 2) dX9_bushelsOfChoice_19 zk_i2 ?_
    refine zt_iload_n C 3 dX9_bushelsOfChoice_20 rfl rfl ?_
    refine zt_imul C dX9_bushelsOfChoice_21 ?_
    refine zt_ishr C dX9_bushelsOfChoice_22 ?_
    refine zt_iconst C (v := 3) dX9_bushelsOfChoice_23 zk_i3 ?_
    refine zt_iand C dX9_bushelsOfChoice_24 ?_
    refine zt_topi (fun y2 e3 => ?_)
    replace h := za_use h e3
    refine zt_istore C [(4, .int y2), (0, .ref (g (0, 0, 0))), (1, .int x1), (2, .int x2), (3, .int x3)] dX9_bushelsOfChoice_25 (by decide) rfl ?_
    refine zt_iload C 0 dX9_bushelsOfChoice_27 rfl ?_
    refine zt_aload_n C 1 dX9_bushelsOfChoice_29 rfl rfl ?_
    refine zt_get C (za_mem (j := 0) rfl (by decide) (by decide)) pf_X9_53 (za_E_0 g cy M 0 0) rfl dX9_bushelsOfChoice_30 ?_
    refine zt_iload_n C 4 dX9_bushelsOfChoice_33 rfl rfl ?_
    obtain ⟨g4, h⟩ := h
    refine zt_iald C (za_mem (j := 26) rfl (by decide) (by decide)) (fun W9 => za_E_26 g cy W9 0 0) g4 dX9_bushelsOfChoice_34 ?_
    refine zt_icmp_le C 40 dX9_bushelsOfChoice_35 (by decide) (fun q5 => ?_) (fun q5 => ?_)
    · replace h := za_ifp h q5
      refine zt_iload_n C 3 dX9_bushelsOfChoice_40 rfl rfl ?_
      refine zt_iload C 0 dX9_bushelsOfChoice_41 rfl ?_
      refine zt_iadd C dX9_bushelsOfChoice_43 ?_
      refine zt_topi (fun y6 e7 => ?_)
      replace h := za_use h e7
      refine zt_istore_n C [(2, .int y6), (4, .int y2), (0, .ref (g (0, 0, 0))), (1, .int x1), (3, .int x3)] dX9_bushelsOfChoice_44 rfl (by decide) rfl ?_
      refine zt_iinc C (v := x3 + 1) 4 [(3, .int (x3 + 1)), (2, .int y6), (4, .int y2), (0, .ref (g (0, 0, 0))), (1, .int x1)] dX9_bushelsOfChoice_45 rfl (zk_n1 _) (by decide) rfl ?_
      refine zt_goto C 4 dX9_bushelsOfChoice_48 (by decide) ?_
      refine zt_sub [3, 4, 1, 0] (lv' := [(0, .ref (g (0, 0, 0))), (1, .int x1), (2, .int y6), (3, .int (x3 + 1))]) rfl ?_
      exact hL4 _ _ _ h
    · replace h := za_ifn h q5
      refine zt_iconst C (v := 0) dX9_bushelsOfChoice_38 zk_i0 ?_
      exact zt_ret C hr hk rfl dX9_bushelsOfChoice_39 h
theorem p_X9_bushelsOfChoice_b4_in (hJ : za_J g) (C : za_C p s m args c cX9_bushelsOfChoice 5 RX9 g D cy) (hr : meth.sig.returnType = (some .int)) (hk : meth.locks = false) {x1 : Int32} {n : Nat} {x2 : Int32} {x3 : Int32} {M : za_M} (h : za_lp2 (f_X9_bushelsOfChoice_b4 K x1) n x2 x3 M) : zt p l e (za_rm 1 64) s m args below meth c 0 0 (MQ below (za_Qi g D cy K) args s 0 0 (za_A g)) g D cy 5 M 4 [(0, .ref (g (0, 0, 0))), (1, .int x1), (2, .int x2), (3, .int x3)] [] := za_lp2_run (Z := fun x2 x3 M => zt p l e (za_rm 1 64) s m args below meth c 0 0 (MQ below (za_Qi g D cy K) args s 0 0 (za_A g)) g D cy 5 M 4 [(0, .ref (g (0, 0, 0))), (1, .int x1), (2, .int x2), (3, .int x3)] []) (fun L hL => p_X9_bushelsOfChoice_b4 hJ C hr hk  hL) n x2 x3 M h
set_option maxRecDepth 100000 in
set_option maxHeartbeats 4000000 in
theorem p_X9_bushelsOfChoice (hJ : za_J g) (C : za_C p s m args c cX9_bushelsOfChoice 5 RX9 g D cy) (hr : meth.sig.returnType = (some .int)) (hk : meth.locks = false) {x1 : Int32} {M : za_M} (h : f_X9_bushelsOfChoice x1 M K) : zt p l e (za_rm 1 64) s m args below meth c 0 0 (MQ below (za_Qi g D cy K) args s 0 0 (za_A g)) g D cy 5 M 0 [(0, .ref (g (0, 0, 0))), (1, .int x1)] [] := by
  unfold f_X9_bushelsOfChoice at h
  refine zt_iconst C (v := 0) dX9_bushelsOfChoice_0 zk_i0 ?_
  refine zt_istore_n C [(2, .int 0), (0, .ref (g (0, 0, 0))), (1, .int x1)] dX9_bushelsOfChoice_1 rfl (by decide) rfl ?_
  refine zt_iconst C (v := 0) dX9_bushelsOfChoice_2 zk_i0 ?_
  refine zt_istore_n C [(3, .int 0), (2, .int 0), (0, .ref (g (0, 0, 0))), (1, .int x1)] dX9_bushelsOfChoice_3 rfl (by decide) rfl ?_
  refine zt_sub [2, 3, 1, 0] (lv' := [(0, .ref (g (0, 0, 0))), (1, .int x1), (2, .int 0), (3, .int 0)]) rfl ?_
  obtain ⟨n, h⟩ := h
  exact p_X9_bushelsOfChoice_b4_in hJ C hr hk  h
end
theorem m_X9_bushelsOfChoice {l : Launch} {g : za_L → Nat} {D : va_G} {cy : Nat → ClassId} (hJ : za_J g)  {x1 : Int32} {M : za_M} {K : Int32 → za_M → Prop} (h : f_X9_bushelsOfChoice x1 M K) : za_Mi l g D cy yX9_bushelsOfChoice cX9_bushelsOfChoice 5 (some .int) 1 64 [.ref (g (0, 0, 0)), .int x1] M K := za_openi hJ (by decide) (Nat.le_of_ble_eq_true rfl) (fun p e s m args below meth c C hr hk => p_X9_bushelsOfChoice hJ C hr hk  h)
/-! X9_colourOfChoice -/
def f_X9_colourOfChoice_b4 (K : Int32 → za_M → Prop) (x1 : Int32) (L4 : Int32 → Int32 → za_M → Prop) (x2 : Int32) (x3 : Int32) (M : za_M) : Prop :=
  if (M.1 (2, 0, 0) 3) ≤ x3 then (f_X9_restByTen x2 M (fun r3 M2 => K r3 M2)) else (vp_in x3 5 ∧ (za_let (x2 + (((x1 >>> ((2 * x3) &&& 31)) &&& 3) * (M.1 (25, 0, 0) x3.toNatClampNeg))) fun y5 => L4 y5 (x3 + 1) M))
def f_X9_colourOfChoice (x1 : Int32) (M : za_M) (K : Int32 → za_M → Prop) : Prop :=
  ∃ n, za_lp2 (f_X9_colourOfChoice_b4 K x1) n 0 0 M
section
variable {p : Program} {l : Launch} {e : Env} {s : State} {m : MethodId} {args : Array Value} {below : List Frame} {meth : Method} {c : Code} {g : za_L → Nat} {D : va_G} {cy : Nat → ClassId} {K : Int32 → za_M → Prop}
set_option maxRecDepth 100000 in
set_option maxHeartbeats 4000000 in
theorem p_X9_colourOfChoice_b4 (hJ : za_J g) (C : za_C p s m args c cX9_colourOfChoice 4 RX9 g D cy) (hr : meth.sig.returnType = (some .int)) (hk : meth.locks = false) {x1 : Int32} {L4 : Int32 → Int32 → za_M → Prop} (hL4 : ∀ (x2 : Int32) (x3 : Int32) (M : za_M), L4 x2 x3 M → zt p l e (za_rm 2 85) s m args below meth c 0 0 (MQ below (za_Qi g D cy K) args s 0 0 (za_A g)) g D cy 4 M 4 [(0, .ref (g (0, 0, 0))), (1, .int x1), (2, .int x2), (3, .int x3)] []) : ∀ (x2 : Int32) (x3 : Int32) (M : za_M), f_X9_colourOfChoice_b4 K x1 L4 x2 x3 M → zt p l e (za_rm 2 85) s m args below meth c 0 0 (MQ below (za_Qi g D cy K) args s 0 0 (za_A g)) g D cy 4 M 4 [(0, .ref (g (0, 0, 0))), (1, .int x1), (2, .int x2), (3, .int x3)] [] := by
  intro x2 x3 M h
  unfold f_X9_colourOfChoice_b4 at h
  refine zt_iload_n C 3 dX9_colourOfChoice_4 rfl rfl ?_
  refine zt_aload_n C 0 dX9_colourOfChoice_5 rfl rfl ?_
  refine zt_get C (za_mem (j := 0) rfl (by decide) (by decide)) pf_X9_10 (za_E_0 g cy M 0 0) rfl dX9_colourOfChoice_6 ?_
  refine zt_get C (za_mem (j := 1) rfl (by decide) (by decide)) pf_X9_57 (za_E_1 g cy M 0 0) rfl dX9_colourOfChoice_9 ?_
  refine zt_get C (za_mem (j := 2) rfl (by decide) (by decide)) pf_X9_68 (za_E_2 g cy M 0 0) rfl dX9_colourOfChoice_12 ?_
  refine zt_icmp_ge C 41 dX9_colourOfChoice_15 (by decide) (fun q1 => ?_) (fun q1 => ?_)
  · replace h := za_ifp h q1
    refine zt_iload_n C 2 dX9_colourOfChoice_41 rfl rfl ?_
    refine zt_cSi C [.int x2] (m_X9_restByTen hJ  h) py_X9_restByTen ps_X9_360 (Nat.le_of_ble_eq_true rfl) ⟨Nat.le_of_ble_eq_true rfl, Nat.le_of_ble_eq_true rfl⟩ ⟨Nat.zero_le _, Nat.zero_le _⟩ dX9_colourOfChoice_42 rfl (fun r3 M2 h => ?_)
    exact zt_ret C hr hk rfl dX9_colourOfChoice_45 h
  · replace h := za_ifn h q1
    refine zt_iload_n C 2 dX9_colourOfChoice_18 rfl rfl ?_
    refine zt_iload_n C 1 dX9_colourOfChoice_19 rfl rfl ?_
    refine zt_iconst C (v := 2) dX9_colourOfChoice_20 zk_i2 ?_
    refine zt_iload_n C 3 dX9_colourOfChoice_21 rfl rfl ?_
    refine zt_imul C dX9_colourOfChoice_22 ?_
    refine zt_ishr C dX9_colourOfChoice_23 ?_
    refine zt_iconst C (v := 3) dX9_colourOfChoice_24 zk_i3 ?_
    refine zt_iand C dX9_colourOfChoice_25 ?_
    refine zt_aload_n C 0 dX9_colourOfChoice_26 rfl rfl ?_
    refine zt_get C (za_mem (j := 0) rfl (by decide) (by decide)) pf_X9_50 (za_E_0 g cy M 0 0) rfl dX9_colourOfChoice_27 ?_
    refine zt_iload_n C 3 dX9_colourOfChoice_30 rfl rfl ?_
    obtain ⟨g4, h⟩ := h
    refine zt_iald C (za_mem (j := 25) rfl (by decide) (by decide)) (fun W9 => za_E_25 g cy W9 0 0) g4 dX9_colourOfChoice_31 ?_
    refine zt_imul C dX9_colourOfChoice_32 ?_
    refine zt_iadd C dX9_colourOfChoice_33 ?_
    refine zt_topi (fun y5 e6 => ?_)
    replace h := za_use h e6
    refine zt_istore_n C [(2, .int y5), (0, .ref (g (0, 0, 0))), (1, .int x1), (3, .int x3)] dX9_colourOfChoice_34 rfl (by decide) rfl ?_
    refine zt_iinc C (v := x3 + 1) 3 [(3, .int (x3 + 1)), (2, .int y5), (0, .ref (g (0, 0, 0))), (1, .int x1)] dX9_colourOfChoice_35 rfl (zk_n1 _) (by decide) rfl ?_
    refine zt_goto C 4 dX9_colourOfChoice_38 (by decide) ?_
    refine zt_sub [2, 3, 1, 0] (lv' := [(0, .ref (g (0, 0, 0))), (1, .int x1), (2, .int y5), (3, .int (x3 + 1))]) rfl ?_
    exact hL4 _ _ _ h
theorem p_X9_colourOfChoice_b4_in (hJ : za_J g) (C : za_C p s m args c cX9_colourOfChoice 4 RX9 g D cy) (hr : meth.sig.returnType = (some .int)) (hk : meth.locks = false) {x1 : Int32} {n : Nat} {x2 : Int32} {x3 : Int32} {M : za_M} (h : za_lp2 (f_X9_colourOfChoice_b4 K x1) n x2 x3 M) : zt p l e (za_rm 2 85) s m args below meth c 0 0 (MQ below (za_Qi g D cy K) args s 0 0 (za_A g)) g D cy 4 M 4 [(0, .ref (g (0, 0, 0))), (1, .int x1), (2, .int x2), (3, .int x3)] [] := za_lp2_run (Z := fun x2 x3 M => zt p l e (za_rm 2 85) s m args below meth c 0 0 (MQ below (za_Qi g D cy K) args s 0 0 (za_A g)) g D cy 4 M 4 [(0, .ref (g (0, 0, 0))), (1, .int x1), (2, .int x2), (3, .int x3)] []) (fun L hL => p_X9_colourOfChoice_b4 hJ C hr hk  hL) n x2 x3 M h
set_option maxRecDepth 100000 in
set_option maxHeartbeats 4000000 in
theorem p_X9_colourOfChoice (hJ : za_J g) (C : za_C p s m args c cX9_colourOfChoice 4 RX9 g D cy) (hr : meth.sig.returnType = (some .int)) (hk : meth.locks = false) {x1 : Int32} {M : za_M} (h : f_X9_colourOfChoice x1 M K) : zt p l e (za_rm 2 85) s m args below meth c 0 0 (MQ below (za_Qi g D cy K) args s 0 0 (za_A g)) g D cy 4 M 0 [(0, .ref (g (0, 0, 0))), (1, .int x1)] [] := by
  unfold f_X9_colourOfChoice at h
  refine zt_iconst C (v := 0) dX9_colourOfChoice_0 zk_i0 ?_
  refine zt_istore_n C [(2, .int 0), (0, .ref (g (0, 0, 0))), (1, .int x1)] dX9_colourOfChoice_1 rfl (by decide) rfl ?_
  refine zt_iconst C (v := 0) dX9_colourOfChoice_2 zk_i0 ?_
  refine zt_istore_n C [(3, .int 0), (2, .int 0), (0, .ref (g (0, 0, 0))), (1, .int x1)] dX9_colourOfChoice_3 rfl (by decide) rfl ?_
  refine zt_sub [2, 3, 1, 0] (lv' := [(0, .ref (g (0, 0, 0))), (1, .int x1), (2, .int 0), (3, .int 0)]) rfl ?_
  obtain ⟨n, h⟩ := h
  exact p_X9_colourOfChoice_b4_in hJ C hr hk  h
end
theorem m_X9_colourOfChoice {l : Launch} {g : za_L → Nat} {D : va_G} {cy : Nat → ClassId} (hJ : za_J g)  {x1 : Int32} {M : za_M} {K : Int32 → za_M → Prop} (h : f_X9_colourOfChoice x1 M K) : za_Mi l g D cy yX9_colourOfChoice cX9_colourOfChoice 4 (some .int) 2 85 [.ref (g (0, 0, 0)), .int x1] M K := za_openi hJ (by decide) (Nat.le_of_ble_eq_true rfl) (fun p e s m args below meth c C hr hk => p_X9_colourOfChoice hJ C hr hk  h)
/-! X9_mixOfChoice -/
def f_X9_mixOfChoice_b4 (K : Int32 → za_M → Prop) (x1 : Int32) (L4 : Int32 → Int32 → za_M → Prop) (x2 : Int32) (x3 : Int32) (M : za_M) : Prop :=
  if (M.1 (2, 0, 0) 3) ≤ x3 then (K x2 M) else (vp_in x3 6 ∧ (za_let (x2 + (((x1 >>> ((2 * x3) &&& 31)) &&& 3) * (za_t2 x3.toNatClampNeg))) fun y3 => L4 y3 (x3 + 1) M))
def f_X9_mixOfChoice (x1 : Int32) (M : za_M) (K : Int32 → za_M → Prop) : Prop :=
  ∃ n, za_lp2 (f_X9_mixOfChoice_b4 K x1) n 0 0 M
section
variable {p : Program} {l : Launch} {e : Env} {s : State} {m : MethodId} {args : Array Value} {below : List Frame} {meth : Method} {c : Code} {g : za_L → Nat} {D : va_G} {cy : Nat → ClassId} {K : Int32 → za_M → Prop}
set_option maxRecDepth 100000 in
set_option maxHeartbeats 4000000 in
theorem p_X9_mixOfChoice_b4 (hJ : za_J g) (C : za_C p s m args c cX9_mixOfChoice 4 RX9 g D cy) (hr : meth.sig.returnType = (some .int)) (hk : meth.locks = false) {x1 : Int32} {L4 : Int32 → Int32 → za_M → Prop} (hL4 : ∀ (x2 : Int32) (x3 : Int32) (M : za_M), L4 x2 x3 M → zt p l e (za_rm 1 64) s m args below meth c 0 0 (MQ below (za_Qi g D cy K) args s 0 0 (za_A g)) g D cy 4 M 4 [(0, .ref (g (0, 0, 0))), (1, .int x1), (2, .int x2), (3, .int x3)] []) : ∀ (x2 : Int32) (x3 : Int32) (M : za_M), f_X9_mixOfChoice_b4 K x1 L4 x2 x3 M → zt p l e (za_rm 1 64) s m args below meth c 0 0 (MQ below (za_Qi g D cy K) args s 0 0 (za_A g)) g D cy 4 M 4 [(0, .ref (g (0, 0, 0))), (1, .int x1), (2, .int x2), (3, .int x3)] [] := by
  intro x2 x3 M h
  unfold f_X9_mixOfChoice_b4 at h
  refine zt_iload_n C 3 dX9_mixOfChoice_4 rfl rfl ?_
  refine zt_aload_n C 0 dX9_mixOfChoice_5 rfl rfl ?_
  refine zt_get C (za_mem (j := 0) rfl (by decide) (by decide)) pf_X9_10 (za_E_0 g cy M 0 0) rfl dX9_mixOfChoice_6 ?_
  refine zt_get C (za_mem (j := 1) rfl (by decide) (by decide)) pf_X9_57 (za_E_1 g cy M 0 0) rfl dX9_mixOfChoice_9 ?_
  refine zt_get C (za_mem (j := 2) rfl (by decide) (by decide)) pf_X9_68 (za_E_2 g cy M 0 0) rfl dX9_mixOfChoice_12 ?_
  refine zt_icmp_ge C 40 dX9_mixOfChoice_15 (by decide) (fun q1 => ?_) (fun q1 => ?_)
  · replace h := za_ifp h q1
    refine zt_iload_n C 2 dX9_mixOfChoice_40 rfl rfl ?_
    exact zt_ret C hr hk rfl dX9_mixOfChoice_41 h
  · replace h := za_ifn h q1
    refine zt_iload_n C 2 dX9_mixOfChoice_18 rfl rfl ?_
    refine zt_iload_n C 1 dX9_mixOfChoice_19 rfl rfl ?_
    refine zt_iconst C (v := 2) dX9_mixOfChoice_20 zk_i2 ?_
    refine zt_iload_n C 3 dX9_mixOfChoice_21 rfl rfl ?_
    refine zt_imul C dX9_mixOfChoice_22 ?_
    refine zt_ishr C dX9_mixOfChoice_23 ?_
    refine zt_iconst C (v := 3) dX9_mixOfChoice_24 zk_i3 ?_
    refine zt_iand C dX9_mixOfChoice_25 ?_
    refine zt_gets C C.2.2.2.2.2.1.2.2.2.2.1.1 w_594 dX9_mixOfChoice_26 ?_
    refine zt_iload_n C 3 dX9_mixOfChoice_29 rfl rfl ?_
    obtain ⟨g2, h⟩ := h
    refine zt_tald C C.2.2.2.2.2.1.2.2.2.2.1.2 g2 dX9_mixOfChoice_30 ?_
    refine zt_imul C dX9_mixOfChoice_31 ?_
    refine zt_iadd C dX9_mixOfChoice_32 ?_
    refine zt_topi (fun y3 e4 => ?_)
    replace h := za_use h e4
    refine zt_istore_n C [(2, .int y3), (0, .ref (g (0, 0, 0))), (1, .int x1), (3, .int x3)] dX9_mixOfChoice_33 rfl (by decide) rfl ?_
    refine zt_iinc C (v := x3 + 1) 3 [(3, .int (x3 + 1)), (2, .int y3), (0, .ref (g (0, 0, 0))), (1, .int x1)] dX9_mixOfChoice_34 rfl (zk_n1 _) (by decide) rfl ?_
    refine zt_goto C 4 dX9_mixOfChoice_37 (by decide) ?_
    refine zt_sub [2, 3, 1, 0] (lv' := [(0, .ref (g (0, 0, 0))), (1, .int x1), (2, .int y3), (3, .int (x3 + 1))]) rfl ?_
    exact hL4 _ _ _ h
theorem p_X9_mixOfChoice_b4_in (hJ : za_J g) (C : za_C p s m args c cX9_mixOfChoice 4 RX9 g D cy) (hr : meth.sig.returnType = (some .int)) (hk : meth.locks = false) {x1 : Int32} {n : Nat} {x2 : Int32} {x3 : Int32} {M : za_M} (h : za_lp2 (f_X9_mixOfChoice_b4 K x1) n x2 x3 M) : zt p l e (za_rm 1 64) s m args below meth c 0 0 (MQ below (za_Qi g D cy K) args s 0 0 (za_A g)) g D cy 4 M 4 [(0, .ref (g (0, 0, 0))), (1, .int x1), (2, .int x2), (3, .int x3)] [] := za_lp2_run (Z := fun x2 x3 M => zt p l e (za_rm 1 64) s m args below meth c 0 0 (MQ below (za_Qi g D cy K) args s 0 0 (za_A g)) g D cy 4 M 4 [(0, .ref (g (0, 0, 0))), (1, .int x1), (2, .int x2), (3, .int x3)] []) (fun L hL => p_X9_mixOfChoice_b4 hJ C hr hk  hL) n x2 x3 M h
set_option maxRecDepth 100000 in
set_option maxHeartbeats 4000000 in
theorem p_X9_mixOfChoice (hJ : za_J g) (C : za_C p s m args c cX9_mixOfChoice 4 RX9 g D cy) (hr : meth.sig.returnType = (some .int)) (hk : meth.locks = false) {x1 : Int32} {M : za_M} (h : f_X9_mixOfChoice x1 M K) : zt p l e (za_rm 1 64) s m args below meth c 0 0 (MQ below (za_Qi g D cy K) args s 0 0 (za_A g)) g D cy 4 M 0 [(0, .ref (g (0, 0, 0))), (1, .int x1)] [] := by
  unfold f_X9_mixOfChoice at h
  refine zt_iconst C (v := 0) dX9_mixOfChoice_0 zk_i0 ?_
  refine zt_istore_n C [(2, .int 0), (0, .ref (g (0, 0, 0))), (1, .int x1)] dX9_mixOfChoice_1 rfl (by decide) rfl ?_
  refine zt_iconst C (v := 0) dX9_mixOfChoice_2 zk_i0 ?_
  refine zt_istore_n C [(3, .int 0), (2, .int 0), (0, .ref (g (0, 0, 0))), (1, .int x1)] dX9_mixOfChoice_3 rfl (by decide) rfl ?_
  refine zt_sub [2, 3, 1, 0] (lv' := [(0, .ref (g (0, 0, 0))), (1, .int x1), (2, .int 0), (3, .int 0)]) rfl ?_
  obtain ⟨n, h⟩ := h
  exact p_X9_mixOfChoice_b4_in hJ C hr hk  h
end
theorem m_X9_mixOfChoice {l : Launch} {g : za_L → Nat} {D : va_G} {cy : Nat → ClassId} (hJ : za_J g)  {x1 : Int32} {M : za_M} {K : Int32 → za_M → Prop} (h : f_X9_mixOfChoice x1 M K) : za_Mi l g D cy yX9_mixOfChoice cX9_mixOfChoice 4 (some .int) 1 64 [.ref (g (0, 0, 0)), .int x1] M K := za_openi hJ (by decide) (Nat.le_of_ble_eq_true rfl) (fun p e s m args below meth c C hr hk => p_X9_mixOfChoice hJ C hr hk  h)

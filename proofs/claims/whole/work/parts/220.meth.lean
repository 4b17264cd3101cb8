/-! X10_isUnder -/
def f_X10_isUnder_b19 (K : Int32 → za_M → Prop) (x2 : Int32) (M : za_M) : Prop :=
  if x2 < 0 then (K 0 M) else (K 1 M)
def f_X10_isUnder_b2 (K : Int32 → za_M → Prop) (x1 : Int32) (L2 : Int32 → za_M → Prop) (x2 : Int32) (M : za_M) : Prop :=
  if x2 < 0 then (f_X10_isUnder_b19 K x2 M) else (if x2 = x1 then (f_X10_isUnder_b19 K x2 M) else (f_X10_above x2 M (fun r5 M4 => L2 r5 M4)))
def f_X10_isUnder (x0 : Int32) (x1 : Int32) (M : za_M) (K : Int32 → za_M → Prop) : Prop :=
  ∃ n, za_lp1 (f_X10_isUnder_b2 K x1) n x0 M
section
variable {p : Program} {l : Launch} {e : Env} {s : State} {m : MethodId} {args : Array Value} {below : List Frame} {meth : Method} {c : Code} {g : za_L → Nat} {D : va_G} {cy : Nat → ClassId} {K : Int32 → za_M → Prop}
set_option maxRecDepth 100000 in
set_option maxHeartbeats 4000000 in
theorem p_X10_isUnder_b19 (hJ : za_J g) (C : za_C p s m args c cX10_isUnder 3 RX10 g D cy) (hr : meth.sig.returnType = (some .boolean)) (hk : meth.locks = false) {x2 : Int32} {M : za_M} (h : f_X10_isUnder_b19 K x2 M) : zt p l e (za_rm 2 84) s m args below meth c 0 0 (MQ below (za_Qi g D cy K) args s 0 0 (za_A g)) g D cy 3 M 19 [(2, .int x2)] [] := by
  unfold f_X10_isUnder_b19 at h
  refine zt_iload_n C 0 dX10_isUnder_19 rfl rfl ?_
  refine zt_if_lt C 27 dX10_isUnder_20 (by decide) (fun q1 => ?_) (fun q1 => ?_)
  · replace h := za_ifp h q1
    refine zt_iconst C (v := 0) dX10_isUnder_27 zk_i0 ?_
    exact zt_ret C hr hk rfl dX10_isUnder_28 h
  · replace h := za_ifn h q1
    refine zt_iconst C (v := 1) dX10_isUnder_23 zk_i1 ?_
    refine zt_goto C 28 dX10_isUnder_24 (by decide) ?_
    exact zt_ret C hr hk rfl dX10_isUnder_28 h
set_option maxRecDepth 100000 in
set_option maxHeartbeats 4000000 in
theorem p_X10_isUnder_b2 (hJ : za_J g) (C : za_C p s m args c cX10_isUnder 3 RX10 g D cy) (hr : meth.sig.returnType = (some .boolean)) (hk : meth.locks = false) {x1 : Int32} {L2 : Int32 → za_M → Prop} (hL2 : ∀ (x2 : Int32) (M : za_M), L2 x2 M → zt p l e (za_rm 2 84) s m args below meth c 0 0 (MQ below (za_Qi g D cy K) args s 0 0 (za_A g)) g D cy 3 M 2 [(1, .int x1), (2, .int x2)] []) : ∀ (x2 : Int32) (M : za_M), f_X10_isUnder_b2 K x1 L2 x2 M → zt p l e (za_rm 2 84) s m args below meth c 0 0 (MQ below (za_Qi g D cy K) args s 0 0 (za_A g)) g D cy 3 M 2 [(1, .int x1), (2, .int x2)] [] := by
  intro x2 M h
  unfold f_X10_isUnder_b2 at h
  refine zt_iload_n C 1 dX10_isUnder_2 rfl rfl ?_
  refine zt_if_lt C 19 dX10_isUnder_3 (by decide) (fun q2 => ?_) (fun q2 => ?_)
  · replace h := za_ifp h q2
    refine zt_sub [1] (lv' := [(2, .int x2)]) rfl ?_
    exact p_X10_isUnder_b19 hJ C hr hk  h
  · replace h := za_ifn h q2
    refine zt_iload_n C 1 dX10_isUnder_6 rfl rfl ?_
    refine zt_iload_n C 0 dX10_isUnder_7 rfl rfl ?_
    refine zt_icmp_eq C 19 dX10_isUnder_8 (by decide) (fun q3 => ?_) (fun q3 => ?_)
    · replace h := za_ifp h q3
      refine zt_sub [1] (lv' := [(2, .int x2)]) rfl ?_
      exact p_X10_isUnder_b19 hJ C hr hk  h
    · replace h := za_ifn h q3
      refine zt_iload_n C 1 dX10_isUnder_11 rfl rfl ?_
      refine zt_cSi C [.int x2] (m_X10_above hJ  h) py_X10_above ps_X10_183 (Nat.le_of_ble_eq_true rfl) ⟨Nat.le_of_ble_eq_true rfl, Nat.le_of_ble_eq_true rfl⟩ ⟨Nat.zero_le _, Nat.zero_le _⟩ dX10_isUnder_12 rfl (fun r5 M4 h => ?_)
      refine zt_istore_n C [(2, .int r5), (1, .int x1)] dX10_isUnder_15 rfl (by decide) rfl ?_
      refine zt_goto C 2 dX10_isUnder_16 (by decide) ?_
      refine zt_sub [1, 0] (lv' := [(1, .int x1), (2, .int r5)]) rfl ?_
      exact hL2 _ _ h
theorem p_X10_isUnder_b2_in (hJ : za_J g) (C : za_C p s m args c cX10_isUnder 3 RX10 g D cy) (hr : meth.sig.returnType = (some .boolean)) (hk : meth.locks = false) {x1 : Int32} {n : Nat} {x2 : Int32} {M : za_M} (h : za_lp1 (f_X10_isUnder_b2 K x1) n x2 M) : zt p l e (za_rm 2 84) s m args below meth c 0 0 (MQ below (za_Qi g D cy K) args s 0 0 (za_A g)) g D cy 3 M 2 [(1, .int x1), (2, .int x2)] [] := za_lp1_run (Z := fun x2 M => zt p l e (za_rm 2 84) s m args below meth c 0 0 (MQ below (za_Qi g D cy K) args s 0 0 (za_A g)) g D cy 3 M 2 [(1, .int x1), (2, .int x2)] []) (fun L hL => p_X10_isUnder_b2 hJ C hr hk  hL) n x2 M h
set_option maxRecDepth 100000 in
set_option maxHeartbeats 4000000 in
theorem p_X10_isUnder (hJ : za_J g) (C : za_C p s m args c cX10_isUnder 3 RX10 g D cy) (hr : meth.sig.returnType = (some .boolean)) (hk : meth.locks = false) {x0 : Int32} {x1 : Int32} {M : za_M} (h : f_X10_isUnder x0 x1 M K) : zt p l e (za_rm 2 84) s m args below meth c 0 0 (MQ below (za_Qi g D cy K) args s 0 0 (za_A g)) g D cy 3 M 0 [(0, .int x0), (1, .int x1)] [] := by
  unfold f_X10_isUnder at h
  refine zt_iload_n C 0 dX10_isUnder_0 rfl rfl ?_
  refine zt_istore_n C [(2, .int x0), (0, .int x0), (1, .int x1)] dX10_isUnder_1 rfl (by decide) rfl ?_
  refine zt_sub [2, 0] (lv' := [(1, .int x1), (2, .int x0)]) rfl ?_
  obtain ⟨n, h⟩ := h
  exact p_X10_isUnder_b2_in hJ C hr hk  h
end
theorem m_X10_isUnder {l : Launch} {g : za_L → Nat} {D : va_G} {cy : Nat → ClassId} (hJ : za_J g)  {x0 : Int32} {x1 : Int32} {M : za_M} {K : Int32 → za_M → Prop} (h : f_X10_isUnder x0 x1 M K) : za_Mi l g D cy yX10_isUnder cX10_isUnder 3 (some .boolean) 2 84 [.int x0, .int x1] M K := za_openi hJ (by decide) (Nat.le_of_ble_eq_true rfl) (fun p e s m args below meth c C hr hk => p_X10_isUnder hJ C hr hk  h)
/-! X10_as -/
def f_X10_as (x1 : Int32) (x2 : Int32) (M : za_M) (K : Int32 → za_M → Prop) : Prop :=
  f_X10_isAsh x1 M (fun r2 M1 => if r2 = 0 then (f_X10_finding (-1000000001) M1 (fun r5 M4 => K r5 M4)) else (f_X10_within x2 0 6 M1 (fun r7 M6 => if r7 = 0 then (f_X10_finding (-1000000001) M6 (fun r19 M18 => K r19 M18)) else (f_X10_ashIs x1 0 M6 (fun r10 M9 => f_X10_isUnder r10 x2 M9 (fun r12 M11 => if r12 = 0 then (f_X10_finding (-1000000005) M11 (fun r15 M14 => K r15 M14)) else (f_X10_ashIs x1 1 M11 (fun r17 M16 => K r17 M16))))))))
section
variable {p : Program} {l : Launch} {e : Env} {s : State} {m : MethodId} {args : Array Value} {below : List Frame} {meth : Method} {c : Code} {g : za_L → Nat} {D : va_G} {cy : Nat → ClassId} {K : Int32 → za_M → Prop}
set_option maxRecDepth 100000 in
set_option maxHeartbeats 4000000 in
theorem p_X10_as (hJ : za_J g) (C : za_C p s m args c cX10_as 3 RX10 g D cy) (hr : meth.sig.returnType = (some .int)) (hk : meth.locks = false) {x1 : Int32} {x2 : Int32} {M : za_M} (h : f_X10_as x1 x2 M K) : zt p l e (za_rm 3 107) s m args below meth c 0 0 (MQ below (za_Qi g D cy K) args s 0 0 (za_A g)) g D cy 3 M 0 [(0, .ref (g (27, 0, 0))), (1, .int x1), (2, .int x2)] [] := by
  unfold f_X10_as at h
  refine zt_aload_n C 0 dX10_as_0 rfl rfl ?_
  refine zt_iload_n C 1 dX10_as_1 rfl rfl ?_
  refine zt_cVi C [.int x1] (m_X10_isAsh hJ  h) (za_mem (j := 27) rfl (by decide) (by decide)) (za_E_27 g cy M 0 0) rfl py_X10_isAsh pv_X10_171 (Nat.le_of_ble_eq_true rfl) ⟨Nat.le_of_ble_eq_true rfl, Nat.le_of_ble_eq_true rfl⟩ ⟨Nat.zero_le _, Nat.zero_le _⟩ dX10_as_2 rfl (fun r2 M1 h => ?_)
  refine zt_if_eq C 18 dX10_as_5 (by decide) (fun q3 => ?_) (fun q3 => ?_)
  · replace h := za_ifp h q3
    refine zt_aload_n C 0 dX10_as_18 rfl rfl ?_
    refine zt_ldc C w_969 dX10_as_19 ?_
    refine zt_cVi C [.int (-1000000001)] (m_X10_finding hJ  h) (za_mem (j := 27) rfl (by decide) (by decide)) (za_E_27 g cy M1 0 0) rfl py_X10_finding pv_X10_75 (Nat.le_of_ble_eq_true rfl) ⟨Nat.le_of_ble_eq_true rfl, Nat.le_of_ble_eq_true rfl⟩ ⟨Nat.zero_le _, Nat.zero_le _⟩ dX10_as_21 rfl (fun r5 M4 h => ?_)
    exact zt_ret C hr hk rfl dX10_as_24 h
  · replace h := za_ifn h q3
    refine zt_iload_n C 2 dX10_as_8 rfl rfl ?_
    refine zt_iconst C (v := 0) dX10_as_9 zk_i0 ?_
    refine zt_bipush C (v := 6) dX10_as_10 zk_b6 ?_
    refine zt_cSi C [.int x2, .int 0, .int 6] (m_X10_within hJ  h) py_X10_within ps_X10_70 (Nat.le_of_ble_eq_true rfl) ⟨Nat.le_of_ble_eq_true rfl, Nat.le_of_ble_eq_true rfl⟩ ⟨Nat.zero_le _, Nat.zero_le _⟩ dX10_as_12 rfl (fun r7 M6 h => ?_)
    refine zt_if_ne C 25 dX10_as_15 (by decide) (fun q8 => ?_) (fun q8 => ?_)
    · replace h := za_ifn h q8
      refine zt_aload_n C 0 dX10_as_25 rfl rfl ?_
      refine zt_iload_n C 1 dX10_as_26 rfl rfl ?_
      refine zt_iconst C (v := 0) dX10_as_27 zk_i0 ?_
      refine zt_cVi C [.int x1, .int 0] (m_X10_ashIs hJ  h) (za_mem (j := 27) rfl (by decide) (by decide)) (za_E_27 g cy M6 0 0) rfl py_X10_ashIs pv_X10_177 (Nat.le_of_ble_eq_true rfl) ⟨Nat.le_of_ble_eq_true rfl, Nat.le_of_ble_eq_true rfl⟩ ⟨Nat.zero_le _, Nat.zero_le _⟩ dX10_as_28 rfl (fun r10 M9 h => ?_)
      refine zt_iload_n C 2 dX10_as_31 rfl rfl ?_
      refine zt_cSi C [.int r10, .int x2] (m_X10_isUnder hJ  h) py_X10_isUnder ps_X10_186 (Nat.le_of_ble_eq_true rfl) ⟨Nat.le_of_ble_eq_true rfl, Nat.le_of_ble_eq_true rfl⟩ ⟨Nat.zero_le _, Nat.zero_le _⟩ dX10_as_32 rfl (fun r12 M11 h => ?_)
      refine zt_if_eq C 47 dX10_as_35 (by decide) (fun q13 => ?_) (fun q13 => ?_)
      · replace h := za_ifp h q13
        refine zt_aload_n C 0 dX10_as_47 rfl rfl ?_
        refine zt_ldc C w_1150 dX10_as_48 ?_
        refine zt_cVi C [.int (-1000000005)] (m_X10_finding hJ  h) (za_mem (j := 27) rfl (by decide) (by decide)) (za_E_27 g cy M11 0 0) rfl py_X10_finding pv_X10_75 (Nat.le_of_ble_eq_true rfl) ⟨Nat.le_of_ble_eq_true rfl, Nat.le_of_ble_eq_true rfl⟩ ⟨Nat.zero_le _, Nat.zero_le _⟩ dX10_as_50 rfl (fun r15 M14 h => ?_)
        exact zt_ret C hr hk rfl dX10_as_53 h
      · replace h := za_ifn h q13
        refine zt_aload_n C 0 dX10_as_38 rfl rfl ?_
        refine zt_iload_n C 1 dX10_as_39 rfl rfl ?_
        refine zt_iconst C (v := 1) dX10_as_40 zk_i1 ?_
        refine zt_cVi C [.int x1, .int 1] (m_X10_ashIs hJ  h) (za_mem (j := 27) rfl (by decide) (by decide)) (za_E_27 g cy M11 0 0) rfl py_X10_ashIs pv_X10_177 (Nat.le_of_ble_eq_true rfl) ⟨Nat.le_of_ble_eq_true rfl, Nat.le_of_ble_eq_true rfl⟩ ⟨Nat.zero_le _, Nat.zero_le _⟩ dX10_as_41 rfl (fun r17 M16 h => ?_)
        refine zt_goto C 53 dX10_as_44 (by decide) ?_
        exact zt_ret C hr hk rfl dX10_as_53 h
    · replace h := za_ifp h q8
      refine zt_aload_n C 0 dX10_as_18 rfl rfl ?_
      refine zt_ldc C w_969 dX10_as_19 ?_
      refine zt_cVi C [.int (-1000000001)] (m_X10_finding hJ  h) (za_mem (j := 27) rfl (by decide) (by decide)) (za_E_27 g cy M6 0 0) rfl py_X10_finding pv_X10_75 (Nat.le_of_ble_eq_true rfl) ⟨Nat.le_of_ble_eq_true rfl, Nat.le_of_ble_eq_true rfl⟩ ⟨Nat.zero_le _, Nat.zero_le _⟩ dX10_as_21 rfl (fun r19 M18 h => ?_)
      exact zt_ret C hr hk rfl dX10_as_24 h
end
theorem m_X10_as {l : Launch} {g : za_L → Nat} {D : va_G} {cy : Nat → ClassId} (hJ : za_J g)  {x1 : Int32} {x2 : Int32} {M : za_M} {K : Int32 → za_M → Prop} (h : f_X10_as x1 x2 M K) : za_Mi l g D cy yX10_as cX10_as 3 (some .int) 3 107 [.ref (g (27, 0, 0)), .int x1, .int x2] M K := za_openi hJ (by decide) (Nat.le_of_ble_eq_true rfl) (fun p e s m args below meth c C hr hk => p_X10_as hJ C hr hk  h)
/-! X10_potter -/
def f_X10_potter_b21 (K : Int32 → za_M → Prop) (x1 : Int32) (L21 : Int32 → za_M → Prop) (x2 : Int32) (M : za_M) : Prop :=
  if 7 ≤ x2 then (vp_in 2 279 ∧ (za_let ((M.1 (28, 0, 0) (Int32.toNatClampNeg 2)) + 1) fun y3 => vp_in 2 279 ∧ (za_let (za_up M (28, 0, 0) (Int32.toNatClampNeg 2) y3) fun M6 => K x1 M6))) else (f_X10_potterAt x1 x2 M (fun r9 M8 => vp_in r9 279 ∧ (za_let (za_up M8 (28, 0, 0) r9.toNatClampNeg 0) fun M11 => L21 (x2 + 1) M11)))
def f_X10_potter (M : za_M) (K : Int32 → za_M → Prop) : Prop :=
  vp_in 2 279 ∧ (za_let (M.1 (28, 0, 0) (Int32.toNatClampNeg 2)) fun y14 => if y14 = 4 then (f_X10_finding (-1000000004) M (fun r18 M17 => K r18 M17)) else (∃ n, za_lp1 (f_X10_potter_b21 K y14) n 0 M))
section
variable {p : Program} {l : Launch} {e : Env} {s : State} {m : MethodId} {args : Array Value} {below : List Frame} {meth : Method} {c : Code} {g : za_L → Nat} {D : va_G} {cy : Nat → ClassId} {K : Int32 → za_M → Prop}
set_option maxRecDepth 100000 in
set_option maxHeartbeats 4000000 in
theorem p_X10_potter_b21 (hJ : za_J g) (C : za_C p s m args c cX10_potter 3 RX10 g D cy) (hr : meth.sig.returnType = (some .int)) (hk : meth.locks = false) {x1 : Int32} {L21 : Int32 → za_M → Prop} (hL21 : ∀ (x2 : Int32) (M : za_M), L21 x2 M → zt p l e (za_rm 2 85) s m args below meth c 0 0 (MQ below (za_Qi g D cy K) args s 0 0 (za_A g)) g D cy 3 M 21 [(0, .ref (g (27, 0, 0))), (1, .int x1), (2, .int x2)] []) : ∀ (x2 : Int32) (M : za_M), f_X10_potter_b21 K x1 L21 x2 M → zt p l e (za_rm 2 85) s m args below meth c 0 0 (MQ below (za_Qi g D cy K) args s 0 0 (za_A g)) g D cy 3 M 21 [(0, .ref (g (27, 0, 0))), (1, .int x1), (2, .int x2)] [] := by
  intro x2 M h
  unfold f_X10_potter_b21 at h
  refine zt_iload_n C 2 dX10_potter_21 rfl rfl ?_
  refine zt_bipush C (v := 7) dX10_potter_22 zk_b7 ?_
  refine zt_icmp_ge C 44 dX10_potter_24 (by decide) (fun q1 => ?_) (fun q1 => ?_)
  · replace h := za_ifp h q1
    refine zt_aload_n C 0 dX10_potter_44 rfl rfl ?_
    refine zt_get C (za_mem (j := 27) rfl (by decide) (by decide)) pf_X10_9 (za_E_27 g cy M 0 0) rfl dX10_potter_45 ?_
    refine zt_iconst C (v := 2) dX10_potter_48 zk_i2 ?_
    refine zt_dup2_11 C dX10_potter_49 rfl rfl ?_
    obtain ⟨g2, h⟩ := h
    refine zt_iald C (za_mem (j := 28) rfl (by decide) (by decide)) (fun W9 => za_E_28 g cy W9 0 0) g2 dX10_potter_50 ?_
    refine zt_iconst C (v := 1) dX10_potter_51 zk_i1 ?_
    refine zt_iadd C dX10_potter_52 ?_
    refine zt_topi (fun y3 e4 => ?_)
    replace h := za_use h e4
    obtain ⟨g5, h⟩ := h
    refine zt_iast C (za_mem (j := 28) rfl (by decide) (by decide)) (fun W9 => za_E_28 g cy W9 0 0) g5 dX10_potter_53 ?_
    refine zt_topM (fun M6 e7 => ?_)
    replace h := za_use h e7
    refine zt_iload_n C 1 dX10_potter_54 rfl rfl ?_
    exact zt_ret C hr hk rfl dX10_potter_55 h
  · replace h := za_ifn h q1
    refine zt_aload_n C 0 dX10_potter_27 rfl rfl ?_
    refine zt_get C (za_mem (j := 27) rfl (by decide) (by decide)) pf_X10_9 (za_E_27 g cy M 0 0) rfl dX10_potter_28 ?_
    refine zt_iload_n C 1 dX10_potter_31 rfl rfl ?_
    refine zt_iload_n C 2 dX10_potter_32 rfl rfl ?_
    refine zt_cSi C [.int x1, .int x2] (m_X10_potterAt hJ  h) py_X10_potterAt ps_X10_191 (Nat.le_of_ble_eq_true rfl) ⟨Nat.le_of_ble_eq_true rfl, Nat.le_of_ble_eq_true rfl⟩ ⟨Nat.zero_le _, Nat.zero_le _⟩ dX10_potter_33 rfl (fun r9 M8 h => ?_)
    refine zt_iconst C (v := 0) dX10_potter_36 zk_i0 ?_
    obtain ⟨g10, h⟩ := h
    refine zt_iast C (za_mem (j := 28) rfl (by decide) (by decide)) (fun W9 => za_E_28 g cy W9 0 0) g10 dX10_potter_37 ?_
    refine zt_topM (fun M11 e12 => ?_)
    replace h := za_use h e12
    refine zt_iinc C (v := x2 + 1) 2 [(2, .int (x2 + 1)), (0, .ref (g (27, 0, 0))), (1, .int x1)] dX10_potter_38 rfl (zk_n1 _) (by decide) rfl ?_
    refine zt_goto C 21 dX10_potter_41 (by decide) ?_
    refine zt_sub [1, 2, 0] (lv' := [(0, .ref (g (27, 0, 0))), (1, .int x1), (2, .int (x2 + 1))]) rfl ?_
    exact hL21 _ _ h
theorem p_X10_potter_b21_in (hJ : za_J g) (C : za_C p s m args c cX10_potter 3 RX10 g D cy) (hr : meth.sig.returnType = (some .int)) (hk : meth.locks = false) {x1 : Int32} {n : Nat} {x2 : Int32} {M : za_M} (h : za_lp1 (f_X10_potter_b21 K x1) n x2 M) : zt p l e (za_rm 2 85) s m args below meth c 0 0 (MQ below (za_Qi g D cy K) args s 0 0 (za_A g)) g D cy 3 M 21 [(0, .ref (g (27, 0, 0))), (1, .int x1), (2, .int x2)] [] := za_lp1_run (Z := fun x2 M => zt p l e (za_rm 2 85) s m args below meth c 0 0 (MQ below (za_Qi g D cy K) args s 0 0 (za_A g)) g D cy 3 M 21 [(0, .ref (g (27, 0, 0))), (1, .int x1), (2, .int x2)] []) (fun L hL => p_X10_potter_b21 hJ C hr hk  hL) n x2 M h
set_option maxRecDepth 100000 in
set_option maxHeartbeats 4000000 in
theorem p_X10_potter (hJ : za_J g) (C : za_C p s m args c cX10_potter 3 RX10 g D cy) (hr : meth.sig.returnType = (some .int)) (hk : meth.locks = false) {M : za_M} (h : f_X10_potter M K) : zt p l e (za_rm 2 85) s m args below meth c 0 0 (MQ below (za_Qi g D cy K) args s 0 0 (za_A g)) g D cy 3 M 0 [(0, .ref (g (27, 0, 0)))] [] := by
  unfold f_X10_potter at h
  refine zt_aload_n C 0 dX10_potter_0 rfl rfl ?_
  refine zt_get C (za_mem (j := 27) rfl (by decide) (by decide)) pf_X10_9 (za_E_27 g cy M 0 0) rfl dX10_potter_1 ?_
  refine zt_iconst C (v := 2) dX10_potter_4 zk_i2 ?_
  obtain ⟨g13, h⟩ := h
  refine zt_iald C (za_mem (j := 28) rfl (by decide) (by decide)) (fun W9 => za_E_28 g cy W9 0 0) g13 dX10_potter_5 ?_
  refine zt_topi (fun y14 e15 => ?_)
  replace h := za_use h e15
  refine zt_istore_n C [(1, .int y14), (0, .ref (g (27, 0, 0)))] dX10_potter_6 rfl (by decide) rfl ?_
  refine zt_iload_n C 0 dX10_potter_7 rfl rfl ?_
  refine zt_iconst C (v := 4) dX10_potter_8 zk_i4 ?_
  refine zt_icmp_ne C 19 dX10_potter_9 (by decide) (fun q16 => ?_) (fun q16 => ?_)
  · replace h := za_ifn h q16
    refine zt_iconst C (v := 0) dX10_potter_19 zk_i0 ?_
    refine zt_istore_n C [(2, .int 0), (1, .int y14), (0, .ref (g (27, 0, 0)))] dX10_potter_20 rfl (by decide) rfl ?_
    refine zt_sub [2, 1, 0] (lv' := [(0, .ref (g (27, 0, 0))), (1, .int y14), (2, .int 0)]) rfl ?_
    obtain ⟨n, h⟩ := h
    exact p_X10_potter_b21_in hJ C hr hk  h
  · replace h := za_ifp h q16
    refine zt_aload_n C 1 dX10_potter_12 rfl rfl ?_
    refine zt_ldc C w_975 dX10_potter_13 ?_
    refine zt_cVi C [.int (-1000000004)] (m_X10_finding hJ  h) (za_mem (j := 27) rfl (by decide) (by decide)) (za_E_27 g cy M 0 0) rfl py_X10_finding pv_X10_75 (Nat.le_of_ble_eq_true rfl) ⟨Nat.le_of_ble_eq_true rfl, Nat.le_of_ble_eq_true rfl⟩ ⟨Nat.zero_le _, Nat.zero_le _⟩ dX10_potter_15 rfl (fun r18 M17 h => ?_)
    exact zt_ret C hr hk rfl dX10_potter_18 h
end
theorem m_X10_potter {l : Launch} {g : za_L → Nat} {D : va_G} {cy : Nat → ClassId} (hJ : za_J g)  {M : za_M} {K : Int32 → za_M → Prop} (h : f_X10_potter M K) : za_Mi l g D cy yX10_potter cX10_potter 3 (some .int) 2 85 [.ref (g (27, 0, 0))] M K := za_openi hJ (by decide) (Nat.le_of_ble_eq_true rfl) (fun p e s m args below meth c C hr hk => p_X10_potter hJ C hr hk  h)
/-! X10_loansOf -/
def f_X10_loansOf_b48 (K : Int32 → za_M → Prop) (L5 : Int32 → Int32 → za_M → Prop) (x1 : Int32) (x2 : Int32) (x4 : Int32) (s0 : Int32) (s1 : Int32) (M : za_M) : Prop :=
  za_let (s0 + s1) fun y1 => L5 y1 (x4 + 1) M
def f_X10_loansOf_b5 (K : Int32 → za_M → Prop) (x1 : Int32) (x2 : Int32) (L5 : Int32 → Int32 → za_M → Prop) (x3 : Int32) (x4 : Int32) (M : za_M) : Prop :=
  vp_in 3 279 ∧ (if (M.1 (28, 0, 0) (Int32.toNatClampNeg 3)) ≤ x4 then (K x3 M) else (f_X10_loanIs x4 x2 M (fun r6 M5 => if r6 = x1 then (if x2 = 1 then (f_X10_loansOf_b48 K L5 x1 x2 x4 x3 1 M5) else (f_X10_loanIs x4 3 M5 (fun r10 M9 => f_X10_loansOf_b48 K L5 x1 x2 x4 x3 r10 M9))) else (f_X10_loansOf_b48 K L5 x1 x2 x4 x3 0 M5))))
def f_X10_loansOf (x1 : Int32) (x2 : Int32) (M : za_M) (K : Int32 → za_M → Prop) : Prop :=
  ∃ n, za_lp2 (f_X10_loansOf_b5 K x1 x2) n 0 0 M
section
variable {p : Program} {l : Launch} {e : Env} {s : State} {m : MethodId} {args : Array Value} {below : List Frame} {meth : Method} {c : Code} {g : za_L → Nat} {D : va_G} {cy : Nat → ClassId} {K : Int32 → za_M → Prop}
set_option maxRecDepth 100000 in
set_option maxHeartbeats 4000000 in
theorem p_X10_loansOf_b48 (hJ : za_J g) (C : za_C p s m args c cX10_loansOf 5 RX10 g D cy) (hr : meth.sig.returnType = (some .int)) (hk : meth.locks = false) {x1 : Int32} {x2 : Int32} {x4 : Int32} {s0 : Int32} {s1 : Int32} {L5 : Int32 → Int32 → za_M → Prop} (hL5 : ∀ (x3 : Int32) (x4 : Int32) (M : za_M), L5 x3 x4 M → zt p l e (za_rm 3 107) s m args below meth c 0 0 (MQ below (za_Qi g D cy K) args s 0 0 (za_A g)) g D cy 5 M 5 [(0, .ref (g (27, 0, 0))), (1, .int x1), (2, .int x2), (3, .int x3), (4, .int x4)] []) {M : za_M} (h : f_X10_loansOf_b48 K L5 x1 x2 x4 s0 s1 M) : zt p l e (za_rm 3 107) s m args below meth c 0 0 (MQ below (za_Qi g D cy K) args s 0 0 (za_A g)) g D cy 5 M 48 [(0, .ref (g (27, 0, 0))), (1, .int x1), (2, .int x2), (4, .int x4)] [.int s1, .int s0] := by
  unfold f_X10_loansOf_b48 at h
  refine zt_iadd C dX10_loansOf_48 ?_
  refine zt_topi (fun y1 e2 => ?_)
  replace h := za_use h e2
  refine zt_istore_n C [(3, .int y1), (0, .ref (g (27, 0, 0))), (1, .int x1), (2, .int x2), (4, .int x4)] dX10_loansOf_49 rfl (by decide) rfl ?_
  refine zt_iinc C (v := x4 + 1) 4 [(4, .int (x4 + 1)), (3, .int y1), (0, .ref (g (27, 0, 0))), (1, .int x1), (2, .int x2)] dX10_loansOf_50 rfl (zk_n1 _) (by decide) rfl ?_
  refine zt_goto C 5 dX10_loansOf_53 (by decide) ?_
  refine zt_sub [2, 3, 4, 1, 0] (lv' := [(0, .ref (g (27, 0, 0))), (1, .int x1), (2, .int x2), (3, .int y1), (4, .int (x4 + 1))]) rfl ?_
  exact hL5 _ _ _ h
set_option maxRecDepth 100000 in
set_option maxHeartbeats 4000000 in
theorem p_X10_loansOf_b5 (hJ : za_J g) (C : za_C p s m args c cX10_loansOf 5 RX10 g D cy) (hr : meth.sig.returnType = (some .int)) (hk : meth.locks = false) {x1 : Int32} {x2 : Int32} {L5 : Int32 → Int32 → za_M → Prop} (hL5 : ∀ (x3 : Int32) (x4 : Int32) (M : za_M), L5 x3 x4 M → zt p l e (za_rm 3 107) s m args below meth c 0 0 (MQ below (za_Qi g D cy K) args s 0 0 (za_A g)) g D cy 5 M 5 [(0, .ref (g (27, 0, 0))), (1, .int x1), (2, .int x2), (3, .int x3), (4, .int x4)] []) : ∀ (x3 : Int32) (x4 : Int32) (M : za_M), f_X10_loansOf_b5 K x1 x2 L5 x3 x4 M → zt p l e (za_rm 3 107) s m args below meth c 0 0 (MQ below (za_Qi g D cy K) args s 0 0 (za_A g)) g D cy 5 M 5 [(0, .ref (g (27, 0, 0))), (1, .int x1), (2, .int x2), (3, .int x3), (4, .int x4)] [] := by
  intro x3 x4 M h
  unfold f_X10_loansOf_b5 at h
  refine zt_iload C 4 dX10_loansOf_5 rfl ?_
  refine zt_aload_n C 0 dX10_loansOf_7 rfl rfl ?_
  refine zt_get C (za_mem (j := 27) rfl (by decide) (by decide)) pf_X10_9 (za_E_27 g cy M 0 0) rfl dX10_loansOf_8 ?_
  refine zt_iconst C (v := 3) dX10_loansOf_11 zk_i3 ?_
  obtain ⟨g3, h⟩ := h
  refine zt_iald C (za_mem (j := 28) rfl (by decide) (by decide)) (fun W9 => za_E_28 g cy W9 0 0) g3 dX10_loansOf_12 ?_
  refine zt_icmp_ge C 56 dX10_loansOf_13 (by decide) (fun q4 => ?_) (fun q4 => ?_)
  · replace h := za_ifp h q4
    refine zt_iload_n C 3 dX10_loansOf_56 rfl rfl ?_
    exact zt_ret C hr hk rfl dX10_loansOf_57 h
  · replace h := za_ifn h q4
    refine zt_iload_n C 3 dX10_loansOf_16 rfl rfl ?_
    refine zt_aload_n C 0 dX10_loansOf_17 rfl rfl ?_
    refine zt_iload C 4 dX10_loansOf_18 rfl ?_
    refine zt_iload_n C 2 dX10_loansOf_20 rfl rfl ?_
    refine zt_cVi C [.int x4, .int x2] (m_X10_loanIs hJ  h) (za_mem (j := 27) rfl (by decide) (by decide)) (za_E_27 g cy M 0 0) rfl py_X10_loanIs pv_X10_194 (Nat.le_of_ble_eq_true rfl) ⟨Nat.le_of_ble_eq_true rfl, Nat.le_of_ble_eq_true rfl⟩ ⟨Nat.zero_le _, Nat.zero_le _⟩ dX10_loansOf_21 rfl (fun r6 M5 h => ?_)
    refine zt_iload_n C 1 dX10_loansOf_24 rfl rfl ?_
    refine zt_icmp_eq C 32 dX10_loansOf_25 (by decide) (fun q7 => ?_) (fun q7 => ?_)
    · replace h := za_ifp h q7
      refine zt_iload_n C 2 dX10_loansOf_32 rfl rfl ?_
      refine zt_iconst C (v := 1) dX10_loansOf_33 zk_i1 ?_
      refine zt_icmp_ne C 41 dX10_loansOf_34 (by decide) (fun q8 => ?_) (fun q8 => ?_)
      · replace h := za_ifn h q8
        refine zt_aload_n C 0 dX10_loansOf_41 rfl rfl ?_
        refine zt_iload C 4 dX10_loansOf_42 rfl ?_
        refine zt_iconst C (v := 3) dX10_loansOf_44 zk_i3 ?_
        refine zt_cVi C [.int x4, .int 3] (m_X10_loanIs hJ  h) (za_mem (j := 27) rfl (by decide) (by decide)) (za_E_27 g cy M5 0 0) rfl py_X10_loanIs pv_X10_194 (Nat.le_of_ble_eq_true rfl) ⟨Nat.le_of_ble_eq_true rfl, Nat.le_of_ble_eq_true rfl⟩ ⟨Nat.zero_le _, Nat.zero_le _⟩ dX10_loansOf_45 rfl (fun r10 M9 h => ?_)
        refine zt_sub [0, 1, 2, 4] (lv' := [(0, .ref (g (27, 0, 0))), (1, .int x1), (2, .int x2), (4, .int x4)]) rfl ?_
        exact p_X10_loansOf_b48 hJ C hr hk hL5 h
      · replace h := za_ifp h q8
        refine zt_iconst C (v := 1) dX10_loansOf_37 zk_i1 ?_
        refine zt_goto C 48 dX10_loansOf_38 (by decide) ?_
        refine zt_sub [0, 1, 2, 4] (lv' := [(0, .ref (g (27, 0, 0))), (1, .int x1), (2, .int x2), (4, .int x4)]) rfl ?_
        exact p_X10_loansOf_b48 hJ C hr hk hL5 h
    · replace h := za_ifn h q7
      refine zt_iconst C (v := 0) dX10_loansOf_28 zk_i0 ?_
      refine zt_goto C 48 dX10_loansOf_29 (by decide) ?_
      refine zt_sub [0, 1, 2, 4] (lv' := [(0, .ref (g (27, 0, 0))), (1, .int x1), (2, .int x2), (4, .int x4)]) rfl ?_
      exact p_X10_loansOf_b48 hJ C hr hk hL5 h
theorem p_X10_loansOf_b5_in (hJ : za_J g) (C : za_C p s m args c cX10_loansOf 5 RX10 g D cy) (hr : meth.sig.returnType = (some .int)) (hk : meth.locks = false) {x1 : Int32} {x2 : Int32} {n : Nat} {x3 : Int32} {x4 : Int32} {M : za_M} (h : za_lp2 (f_X10_loansOf_b5 K x1 x2) n x3 x4 M) : zt p l e (za_rm 3 107) s m args below meth c 0 0 (MQ below (za_Qi g D cy K) args s 0 0 (za_A g)) g D cy 5 M 5 [(0, .ref (g (27, 0, 0))), (1, .int x1), (2, .int x2), (3, .int x3), (4, .int x4)] [] := za_lp2_run (Z := fun x3 x4 M => zt p l e (za_rm 3 107) s m args below meth c 0 0 (MQ below (za_Qi g D cy K) args s 0 0 (za_A g)) g D cy 5 M 5 [(0, .ref (g (27, 0, 0))), (1, .int x1), (2, .int x2), (3, .int x3), (4, .int x4)] []) (fun L hL => p_X10_loansOf_b5 hJ C hr hk  hL) n x3 x4 M h
set_option maxRecDepth 100000 in
set_option maxHeartbeats 4000000 in
theorem p_X10_loansOf (hJ : za_J g) (C : za_C p s m args c cX10_loansOf 5 RX10 g D cy) (hr : meth.sig.returnType = (some .int)) (hk : meth.locks = false) {x1 : Int32} {x2 : Int32} {M : za_M} (h : f_X10_loansOf x1 x2 M K) : zt p l e (za_rm 3 107) s m args below meth c 0 0 (MQ below (za_Qi g D cy K) args s 0 0 (za_A g)) g D cy 5 M 0 [(0, .ref (g (27, 0, 0))), (1, .int x1), (2, .int x2)] [] := by
  unfold f_X10_loansOf at h
  refine zt_iconst C (v := 0) dX10_loansOf_0 zk_i0 ?_
  refine zt_istore_n C [(3, .int 0), (0, .ref (g (27, 0, 0))), (1, .int x1), (2, .int x2)] dX10_loansOf_1 rfl (by decide) rfl ?_
  refine zt_iconst C (v := 0) dX10_loansOf_2 zk_i0 ?_
  refine zt_istore C [(4, .int 0), (3, .int 0), (0, .ref (g (27, 0, 0))), (1, .int x1), (2, .int x2)] dX10_loansOf_3 (by decide) rfl ?_
  refine zt_sub [2, 3, 4, 1, 0] (lv' := [(0, .ref (g (27, 0, 0))), (1, .int x1), (2, .int x2), (3, .int 0), (4, .int 0)]) rfl ?_
  obtain ⟨n, h⟩ := h
  exact p_X10_loansOf_b5_in hJ C hr hk  h
end
theorem m_X10_loansOf {l : Launch} {g : za_L → Nat} {D : va_G} {cy : Nat → ClassId} (hJ : za_J g)  {x1 : Int32} {x2 : Int32} {M : za_M} {K : Int32 → za_M → Prop} (h : f_X10_loansOf x1 x2 M K) : za_Mi l g D cy yX10_loansOf cX10_loansOf 5 (some .int) 3 107 [.ref (g (27, 0, 0)), .int x1, .int x2] M K := za_openi hJ (by decide) (Nat.le_of_ble_eq_true rfl) (fun p e s m args below meth c C hr hk => p_X10_loansOf hJ C hr hk  h)
/-! X10_ofPotter -/
def f_X10_ofPotter_b54 (K : Int32 → za_M → Prop) (s1 : Int32) (s2 : Int32) (M : za_M) : Prop :=
  f_X10_loansOf s1 s2 M (fun r2 M1 => K r2 M1)
def f_X10_ofPotter (x1 : Int32) (x2 : Int32) (M : za_M) (K : Int32 → za_M → Prop) : Prop :=
  f_X10_isPotter x1 M (fun r4 M3 => if r4 = 0 then (f_X10_finding (-1000000001) M3 (fun r7 M6 => K r7 M6)) else (f_X10_within x2 0 3 M3 (fun r9 M8 => if r9 = 0 then (f_X10_finding (-1000000001) M8 (fun r17 M16 => K r17 M16)) else (if 2 ≤ x2 then (if x2 = 2 then (f_X10_ofPotter_b54 K x1 1 M8) else (f_X10_ofPotter_b54 K x1 0 M8)) else (f_X10_potterAt x1 x2 M8 (fun r14 M13 => vp_in r14 279 ∧ (K (M13.1 (28, 0, 0) r14.toNatClampNeg) M13)))))))
section
variable {p : Program} {l : Launch} {e : Env} {s : State} {m : MethodId} {args : Array Value} {below : List Frame} {meth : Method} {c : Code} {g : za_L → Nat} {D : va_G} {cy : Nat → ClassId} {K : Int32 → za_M → Prop}
set_option maxRecDepth 100000 in
set_option maxHeartbeats 4000000 in
theorem p_X10_ofPotter_b54 (hJ : za_J g) (C : za_C p s m args c cX10_ofPotter 3 RX10 g D cy) (hr : meth.sig.returnType = (some .int)) (hk : meth.locks = false) {s1 : Int32} {s2 : Int32} {M : za_M} (h : f_X10_ofPotter_b54 K s1 s2 M) : zt p l e (za_rm 4 131) s m args below meth c 0 0 (MQ below (za_Qi g D cy K) args s 0 0 (za_A g)) g D cy 3 M 54 [] [.int s2, .int s1, .ref (g (27, 0, 0))] := by
  unfold f_X10_ofPotter_b54 at h
  refine zt_cVi C [.int s1, .int s2] (m_X10_loansOf hJ  h) (za_mem (j := 27) rfl (by decide) (by decide)) (za_E_27 g cy M 0 0) rfl py_X10_loansOf pv_X10_200 (Nat.le_of_ble_eq_true rfl) ⟨Nat.le_of_ble_eq_true rfl, Nat.le_of_ble_eq_true rfl⟩ ⟨Nat.zero_le _, Nat.zero_le _⟩ dX10_ofPotter_54 rfl (fun r2 M1 h => ?_)
  exact zt_ret C hr hk rfl dX10_ofPotter_57 h
set_option maxRecDepth 100000 in
set_option maxHeartbeats 4000000 in
theorem p_X10_ofPotter (hJ : za_J g) (C : za_C p s m args c cX10_ofPotter 3 RX10 g D cy) (hr : meth.sig.returnType = (some .int)) (hk : meth.locks = false) {x1 : Int32} {x2 : Int32} {M : za_M} (h : f_X10_ofPotter x1 x2 M K) : zt p l e (za_rm 4 131) s m args below meth c 0 0 (MQ below (za_Qi g D cy K) args s 0 0 (za_A g)) g D cy 3 M 0 [(0, .ref (g (27, 0, 0))), (1, .int x1), (2, .int x2)] [] := by
  unfold f_X10_ofPotter at h
  refine zt_aload_n C 0 dX10_ofPotter_0 rfl rfl ?_
  refine zt_iload_n C 1 dX10_ofPotter_1 rfl rfl ?_
  refine zt_cVi C [.int x1] (m_X10_isPotter hJ  h) (za_mem (j := 27) rfl (by decide) (by decide)) (za_E_27 g cy M 0 0) rfl py_X10_isPotter pv_X10_197 (Nat.le_of_ble_eq_true rfl) ⟨Nat.le_of_ble_eq_true rfl, Nat.le_of_ble_eq_true rfl⟩ ⟨Nat.zero_le _, Nat.zero_le _⟩ dX10_ofPotter_2 rfl (fun r4 M3 h => ?_)
  refine zt_if_eq C 17 dX10_ofPotter_5 (by decide) (fun q5 => ?_) (fun q5 => ?_)
  · replace h := za_ifp h q5
    refine zt_aload_n C 0 dX10_ofPotter_17 rfl rfl ?_
    refine zt_ldc C w_969 dX10_ofPotter_18 ?_
    refine zt_cVi C [.int (-1000000001)] (m_X10_finding hJ  h) (za_mem (j := 27) rfl (by decide) (by decide)) (za_E_27 g cy M3 0 0) rfl py_X10_finding pv_X10_75 (Nat.le_of_ble_eq_true rfl) ⟨Nat.le_of_ble_eq_true rfl, Nat.le_of_ble_eq_true rfl⟩ ⟨Nat.zero_le _, Nat.zero_le _⟩ dX10_ofPotter_20 rfl (fun r7 M6 h => ?_)
    exact zt_ret C hr hk rfl dX10_ofPotter_23 h
  · replace h := za_ifn h q5
    refine zt_iload_n C 2 dX10_ofPotter_8 rfl rfl ?_
    refine zt_iconst C (v := 0) dX10_ofPotter_9 zk_i0 ?_
    refine zt_iconst C (v := 3) dX10_ofPotter_10 zk_i3 ?_
    refine zt_cSi C [.int x2, .int 0, .int 3] (m_X10_within hJ  h) py_X10_within ps_X10_70 (Nat.le_of_ble_eq_true rfl) ⟨Nat.le_of_ble_eq_true rfl, Nat.le_of_ble_eq_true rfl⟩ ⟨Nat.zero_le _, Nat.zero_le _⟩ dX10_ofPotter_11 rfl (fun r9 M8 h => ?_)
    refine zt_if_ne C 24 dX10_ofPotter_14 (by decide) (fun q10 => ?_) (fun q10 => ?_)
    · replace h := za_ifn h q10
      refine zt_iload_n C 2 dX10_ofPotter_24 rfl rfl ?_
      refine zt_iconst C (v := 2) dX10_ofPotter_25 zk_i2 ?_
      refine zt_icmp_ge C 42 dX10_ofPotter_26 (by decide) (fun q11 => ?_) (fun q11 => ?_)
      · replace h := za_ifp h q11
        refine zt_aload_n C 0 dX10_ofPotter_42 rfl rfl ?_
        refine zt_iload_n C 1 dX10_ofPotter_43 rfl rfl ?_
        refine zt_iload_n C 2 dX10_ofPotter_44 rfl rfl ?_
        refine zt_iconst C (v := 2) dX10_ofPotter_45 zk_i2 ?_
        refine zt_icmp_ne C 53 dX10_ofPotter_46 (by decide) (fun q12 => ?_) (fun q12 => ?_)
        · replace h := za_ifn h q12
          refine zt_iconst C (v := 0) dX10_ofPotter_53 zk_i0 ?_
          refine zt_sub [] (lv' := []) rfl ?_
          exact p_X10_ofPotter_b54 hJ C hr hk  h
        · replace h := za_ifp h q12
          refine zt_iconst C (v := 1) dX10_ofPotter_49 zk_i1 ?_
          refine zt_goto C 54 dX10_ofPotter_50 (by decide) ?_
          refine zt_sub [] (lv' := []) rfl ?_
          exact p_X10_ofPotter_b54 hJ C hr hk  h
      · replace h := za_ifn h q11
        refine zt_aload_n C 0 dX10_ofPotter_29 rfl rfl ?_
        refine zt_get C (za_mem (j := 27) rfl (by decide) (by decide)) pf_X10_9 (za_E_27 g cy M8 0 0) rfl dX10_ofPotter_30 ?_
        refine zt_iload_n C 1 dX10_ofPotter_33 rfl rfl ?_
        refine zt_iload_n C 2 dX10_ofPotter_34 rfl rfl ?_
        refine zt_cSi C [.int x1, .int x2] (m_X10_potterAt hJ  h) py_X10_potterAt ps_X10_191 (Nat.le_of_ble_eq_true rfl) ⟨Nat.le_of_ble_eq_true rfl, Nat.le_of_ble_eq_true rfl⟩ ⟨Nat.zero_le _, Nat.zero_le _⟩ dX10_ofPotter_35 rfl (fun r14 M13 h => ?_)
        obtain ⟨g15, h⟩ := h
        refine zt_iald C (za_mem (j := 28) rfl (by decide) (by decide)) (fun W9 => za_E_28 g cy W9 0 0) g15 dX10_ofPotter_38 ?_
        refine zt_goto C 57 dX10_ofPotter_39 (by decide) ?_
        exact zt_ret C hr hk rfl dX10_ofPotter_57 h
    · replace h := za_ifp h q10
      refine zt_aload_n C 0 dX10_ofPotter_17 rfl rfl ?_
      refine zt_ldc C w_969 dX10_ofPotter_18 ?_
      refine zt_cVi C [.int (-1000000001)] (m_X10_finding hJ  h) (za_mem (j := 27) rfl (by decide) (by decide)) (za_E_27 g cy M8 0 0) rfl py_X10_finding pv_X10_75 (Nat.le_of_ble_eq_true rfl) ⟨Nat.le_of_ble_eq_true rfl, Nat.le_of_ble_eq_true rfl⟩ ⟨Nat.zero_le _, Nat.zero_le _⟩ dX10_ofPotter_20 rfl (fun r17 M16 h => ?_)
      exact zt_ret C hr hk rfl dX10_ofPotter_23 h
end
theorem m_X10_ofPotter {l : Launch} {g : za_L → Nat} {D : va_G} {cy : Nat → ClassId} (hJ : za_J g)  {x1 : Int32} {x2 : Int32} {M : za_M} {K : Int32 → za_M → Prop} (h : f_X10_ofPotter x1 x2 M K) : za_Mi l g D cy yX10_ofPotter cX10_ofPotter 3 (some .int) 4 131 [.ref (g (27, 0, 0)), .int x1, .int x2] M K := za_openi hJ (by decide) (Nat.le_of_ble_eq_true rfl) (fun p e s m args below meth c C hr hk => p_X10_ofPotter hJ C hr hk  h)
/-! X10_store -/
def f_X10_store (x1 : Int32) (x2 : Int32) (x3 : Int32) (M : za_M) (K : Int32 → za_M → Prop) : Prop :=
  f_X10_isPotter x1 M (fun r2 M1 => if r2 = 0 then (f_X10_finding (-1000000001) M1 (fun r5 M4 => K r5 M4)) else (f_X10_isAsh x2 M1 (fun r7 M6 => if r7 = 0 then (f_X10_finding (-1000000001) M6 (fun r10 M9 => K r10 M9)) else (f_X10_within x3 0 999 M6 (fun r12 M11 => if r12 = 0 then (f_X10_finding (-1000000001) M11 (fun r19 M18 => K r19 M18)) else (f_X10_storeAt x1 x2 M11 (fun r15 M14 => f_X10_turn r15 x3 M14 (fun r17 M16 => K r17 M16))))))))
section
variable {p : Program} {l : Launch} {e : Env} {s : State} {m : MethodId} {args : Array Value} {below : List Frame} {meth : Method} {c : Code} {g : za_L → Nat} {D : va_G} {cy : Nat → ClassId} {K : Int32 → za_M → Prop}
set_option maxRecDepth 100000 in
set_option maxHeartbeats 4000000 in
theorem p_X10_store (hJ : za_J g) (C : za_C p s m args c cX10_store 4 RX10 g D cy) (hr : meth.sig.returnType = (some .int)) (hk : meth.locks = false) {x1 : Int32} {x2 : Int32} {x3 : Int32} {M : za_M} (h : f_X10_store x1 x2 x3 M K) : zt p l e (za_rm 3 107) s m args below meth c 0 0 (MQ below (za_Qi g D cy K) args s 0 0 (za_A g)) g D cy 4 M 0 [(0, .ref (g (27, 0, 0))), (1, .int x1), (2, .int x2), (3, .int x3)] [] := by
  unfold f_X10_store at h
  refine zt_aload_n C 0 dX10_store_0 rfl rfl ?_
  refine zt_iload_n C 1 dX10_store_1 rfl rfl ?_
  refine zt_cVi C [.int x1] (m_X10_isPotter hJ  h) (za_mem (j := 27) rfl (by decide) (by decide)) (za_E_27 g cy M 0 0) rfl py_X10_isPotter pv_X10_197 (Nat.le_of_ble_eq_true rfl) ⟨Nat.le_of_ble_eq_true rfl, Nat.le_of_ble_eq_true rfl⟩ ⟨Nat.zero_le _, Nat.zero_le _⟩ dX10_store_2 rfl (fun r2 M1 h => ?_)
  refine zt_if_eq C 27 dX10_store_5 (by decide) (fun q3 => ?_) (fun q3 => ?_)
  · replace h := za_ifp h q3
    refine zt_aload_n C 0 dX10_store_27 rfl rfl ?_
    refine zt_ldc C w_969 dX10_store_28 ?_
    refine zt_cVi C [.int (-1000000001)] (m_X10_finding hJ  h) (za_mem (j := 27) rfl (by decide) (by decide)) (za_E_27 g cy M1 0 0) rfl py_X10_finding pv_X10_75 (Nat.le_of_ble_eq_true rfl) ⟨Nat.le_of_ble_eq_true rfl, Nat.le_of_ble_eq_true rfl⟩ ⟨Nat.zero_le _, Nat.zero_le _⟩ dX10_store_30 rfl (fun r5 M4 h => ?_)
    exact zt_ret C hr hk rfl dX10_store_33 h
  · replace h := za_ifn h q3
    refine zt_aload_n C 0 dX10_store_8 rfl rfl ?_
    refine zt_iload_n C 2 dX10_store_9 rfl rfl ?_
    refine zt_cVi C [.int x2] (m_X10_isAsh hJ  h) (za_mem (j := 27) rfl (by decide) (by decide)) (za_E_27 g cy M1 0 0) rfl py_X10_isAsh pv_X10_171 (Nat.le_of_ble_eq_true rfl) ⟨Nat.le_of_ble_eq_true rfl, Nat.le_of_ble_eq_true rfl⟩ ⟨Nat.zero_le _, Nat.zero_le _⟩ dX10_store_10 rfl (fun r7 M6 h => ?_)
    refine zt_if_eq C 27 dX10_store_13 (by decide) (fun q8 => ?_) (fun q8 => ?_)
    · replace h := za_ifp h q8
      refine zt_aload_n C 0 dX10_store_27 rfl rfl ?_
      refine zt_ldc C w_969 dX10_store_28 ?_
      refine zt_cVi C [.int (-1000000001)] (m_X10_finding hJ  h) (za_mem (j := 27) rfl (by decide) (by decide)) (za_E_27 g cy M6 0 0) rfl py_X10_finding pv_X10_75 (Nat.le_of_ble_eq_true rfl) ⟨Nat.le_of_ble_eq_true rfl, Nat.le_of_ble_eq_true rfl⟩ ⟨Nat.zero_le _, Nat.zero_le _⟩ dX10_store_30 rfl (fun r10 M9 h => ?_)
      exact zt_ret C hr hk rfl dX10_store_33 h
    · replace h := za_ifn h q8
      refine zt_iload_n C 3 dX10_store_16 rfl rfl ?_
      refine zt_iconst C (v := 0) dX10_store_17 zk_i0 ?_
      refine zt_sipush C (v := 999) dX10_store_18 zk_s999 ?_
      refine zt_cSi C [.int x3, .int 0, .int 999] (m_X10_within hJ  h) py_X10_within ps_X10_70 (Nat.le_of_ble_eq_true rfl) ⟨Nat.le_of_ble_eq_true rfl, Nat.le_of_ble_eq_true rfl⟩ ⟨Nat.zero_le _, Nat.zero_le _⟩ dX10_store_21 rfl (fun r12 M11 h => ?_)
      refine zt_if_ne C 34 dX10_store_24 (by decide) (fun q13 => ?_) (fun q13 => ?_)
      · replace h := za_ifn h q13
        refine zt_aload_n C 0 dX10_store_34 rfl rfl ?_
        refine zt_iload_n C 1 dX10_store_35 rfl rfl ?_
        refine zt_iload_n C 2 dX10_store_36 rfl rfl ?_
        refine zt_cSi C [.int x1, .int x2] (m_X10_storeAt hJ  h) py_X10_storeAt ps_X10_162 (Nat.le_of_ble_eq_true rfl) ⟨Nat.le_of_ble_eq_true rfl, Nat.le_of_ble_eq_true rfl⟩ ⟨Nat.zero_le _, Nat.zero_le _⟩ dX10_store_37 rfl (fun r15 M14 h => ?_)
        refine zt_iload_n C 3 dX10_store_40 rfl rfl ?_
        refine zt_cVi C [.int r15, .int x3] (m_X10_turn hJ  h) (za_mem (j := 27) rfl (by decide) (by decide)) (za_E_27 g cy M14 0 0) rfl py_X10_turn pv_X10_180 (Nat.le_of_ble_eq_true rfl) ⟨Nat.le_of_ble_eq_true rfl, Nat.le_of_ble_eq_true rfl⟩ ⟨Nat.zero_le _, Nat.zero_le _⟩ dX10_store_41 rfl (fun r17 M16 h => ?_)
        exact zt_ret C hr hk rfl dX10_store_44 h
      · replace h := za_ifp h q13
        refine zt_aload_n C 0 dX10_store_27 rfl rfl ?_
        refine zt_ldc C w_969 dX10_store_28 ?_
        refine zt_cVi C [.int (-1000000001)] (m_X10_finding hJ  h) (za_mem (j := 27) rfl (by decide) (by decide)) (za_E_27 g cy M11 0 0) rfl py_X10_finding pv_X10_75 (Nat.le_of_ble_eq_true rfl) ⟨Nat.le_of_ble_eq_true rfl, Nat.le_of_ble_eq_true rfl⟩ ⟨Nat.zero_le _, Nat.zero_le _⟩ dX10_store_30 rfl (fun r19 M18 h => ?_)
        exact zt_ret C hr hk rfl dX10_store_33 h
end
theorem m_X10_store {l : Launch} {g : za_L → Nat} {D : va_G} {cy : Nat → ClassId} (hJ : za_J g)  {x1 : Int32} {x2 : Int32} {x3 : Int32} {M : za_M} {K : Int32 → za_M → Prop} (h : f_X10_store x1 x2 x3 M K) : za_Mi l g D cy yX10_store cX10_store 4 (some .int) 3 107 [.ref (g (27, 0, 0)), .int x1, .int x2, .int x3] M K := za_openi hJ (by decide) (Nat.le_of_ble_eq_true rfl) (fun p e s m args below meth c C hr hk => p_X10_store hJ C hr hk  h)
/-! X10_stored -/
def f_X10_stored_b29 (K : Int32 → za_M → Prop) (M : za_M) : Prop :=
  f_X10_finding (-1000000001) M (fun r2 M1 => K r2 M1)
def f_X10_stored (x1 : Int32) (x2 : Int32) (M : za_M) (K : Int32 → za_M → Prop) : Prop :=
  f_X10_isPotter x1 M (fun r4 M3 => if r4 = 0 then (f_X10_stored_b29 K M3) else (f_X10_isAsh x2 M3 (fun r7 M6 => if r7 = 0 then (f_X10_stored_b29 K M6) else (f_X10_storeAt x1 x2 M6 (fun r10 M9 => vp_in r10 279 ∧ (K (M9.1 (28, 0, 0) r10.toNatClampNeg) M9))))))
section
variable {p : Program} {l : Launch} {e : Env} {s : State} {m : MethodId} {args : Array Value} {below : List Frame} {meth : Method} {c : Code} {g : za_L → Nat} {D : va_G} {cy : Nat → ClassId} {K : Int32 → za_M → Prop}
set_option maxRecDepth 100000 in
set_option maxHeartbeats 4000000 in
theorem p_X10_stored_b29 (hJ : za_J g) (C : za_C p s m args c cX10_stored 3 RX10 g D cy) (hr : meth.sig.returnType = (some .int)) (hk : meth.locks = false) {M : za_M} (h : f_X10_stored_b29 K M) : zt p l e (za_rm 3 107) s m args below meth c 0 0 (MQ below (za_Qi g D cy K) args s 0 0 (za_A g)) g D cy 3 M 29 [(0, .ref (g (27, 0, 0)))] [] := by
  unfold f_X10_stored_b29 at h
  refine zt_aload_n C 0 dX10_stored_29 rfl rfl ?_
  refine zt_ldc C w_969 dX10_stored_30 ?_
  refine zt_cVi C [.int (-1000000001)] (m_X10_finding hJ  h) (za_mem (j := 27) rfl (by decide) (by decide)) (za_E_27 g cy M 0 0) rfl py_X10_finding pv_X10_75 (Nat.le_of_ble_eq_true rfl) ⟨Nat.le_of_ble_eq_true rfl, Nat.le_of_ble_eq_true rfl⟩ ⟨Nat.zero_le _, Nat.zero_le _⟩ dX10_stored_32 rfl (fun r2 M1 h => ?_)
  exact zt_ret C hr hk rfl dX10_stored_35 h
set_option maxRecDepth 100000 in
set_option maxHeartbeats 4000000 in
theorem p_X10_stored (hJ : za_J g) (C : za_C p s m args c cX10_stored 3 RX10 g D cy) (hr : meth.sig.returnType = (some .int)) (hk : meth.locks = false) {x1 : Int32} {x2 : Int32} {M : za_M} (h : f_X10_stored x1 x2 M K) : zt p l e (za_rm 3 107) s m args below meth c 0 0 (MQ below (za_Qi g D cy K) args s 0 0 (za_A g)) g D cy 3 M 0 [(0, .ref (g (27, 0, 0))), (1, .int x1), (2, .int x2)] [] := by
  unfold f_X10_stored at h
  refine zt_aload_n C 0 dX10_stored_0 rfl rfl ?_
  refine zt_iload_n C 1 dX10_stored_1 rfl rfl ?_
  refine zt_cVi C [.int x1] (m_X10_isPotter hJ  h) (za_mem (j := 27) rfl (by decide) (by decide)) (za_E_27 g cy M 0 0) rfl py_X10_isPotter pv_X10_197 (Nat.le_of_ble_eq_true rfl) ⟨Nat.le_of_ble_eq_true rfl, Nat.le_of_ble_eq_true rfl⟩ ⟨Nat.zero_le _, Nat.zero_le _⟩ dX10_stored_2 rfl (fun r4 M3 h => ?_)
  refine zt_if_eq C 29 dX10_stored_5 (by decide) (fun q5 => ?_) (fun q5 => ?_)
  · replace h := za_ifp h q5
    refine zt_sub [0] (lv' := [(0, .ref (g (27, 0, 0)))]) rfl ?_
    exact p_X10_stored_b29 hJ C hr hk  h
  · replace h := za_ifn h q5
    refine zt_aload_n C 0 dX10_stored_8 rfl rfl ?_
    refine zt_iload_n C 2 dX10_stored_9 rfl rfl ?_
    refine zt_cVi C [.int x2] (m_X10_isAsh hJ  h) (za_mem (j := 27) rfl (by decide) (by decide)) (za_E_27 g cy M3 0 0) rfl py_X10_isAsh pv_X10_171 (Nat.le_of_ble_eq_true rfl) ⟨Nat.le_of_ble_eq_true rfl, Nat.le_of_ble_eq_true rfl⟩ ⟨Nat.zero_le _, Nat.zero_le _⟩ dX10_stored_10 rfl (fun r7 M6 h => ?_)
    refine zt_if_eq C 29 dX10_stored_13 (by decide) (fun q8 => ?_) (fun q8 => ?_)
    · replace h := za_ifp h q8
      refine zt_sub [0] (lv' := [(0, .ref (g (27, 0, 0)))]) rfl ?_
      exact p_X10_stored_b29 hJ C hr hk  h
    · replace h := za_ifn h q8
      refine zt_aload_n C 0 dX10_stored_16 rfl rfl ?_
      refine zt_get C (za_mem (j := 27) rfl (by decide) (by decide)) pf_X10_9 (za_E_27 g cy M6 0 0) rfl dX10_stored_17 ?_
      refine zt_iload_n C 1 dX10_stored_20 rfl rfl ?_
      refine zt_iload_n C 2 dX10_stored_21 rfl rfl ?_
      refine zt_cSi C [.int x1, .int x2] (m_X10_storeAt hJ  h) py_X10_storeAt ps_X10_162 (Nat.le_of_ble_eq_true rfl) ⟨Nat.le_of_ble_eq_true rfl, Nat.le_of_ble_eq_true rfl⟩ ⟨Nat.zero_le _, Nat.zero_le _⟩ dX10_stored_22 rfl (fun r10 M9 h => ?_)
      obtain ⟨g11, h⟩ := h
      refine zt_iald C (za_mem (j := 28) rfl (by decide) (by decide)) (fun W9 => za_E_28 g cy W9 0 0) g11 dX10_stored_25 ?_
      refine zt_goto C 35 dX10_stored_26 (by decide) ?_
      exact zt_ret C hr hk rfl dX10_stored_35 h
end
theorem m_X10_stored {l : Launch} {g : za_L → Nat} {D : va_G} {cy : Nat → ClassId} (hJ : za_J g)  {x1 : Int32} {x2 : Int32} {M : za_M} {K : Int32 → za_M → Prop} (h : f_X10_stored x1 x2 M K) : za_Mi l g D cy yX10_stored cX10_stored 3 (some .int) 3 107 [.ref (g (27, 0, 0)), .int x1, .int x2] M K := za_openi hJ (by decide) (Nat.le_of_ble_eq_true rfl) (fun p e s m args below meth c C hr hk => p_X10_stored hJ C hr hk  h)
/-! X10_colourOf -/
def f_X10_colourOf_b33 (K : Int32 → za_M → Prop) (x1 : Int32) (x2 : Int32) (x3 : Int32) (x4 : Int32) (s0 : Int32) (M : za_M) : Prop :=
  f_X10_ashIs x1 0 M (fun r2 M1 => if r2 = 1 then (K (x4 + 1) M1) else if r2 = 2 then (K (2 * x4) M1) else if r2 = 3 then (K s0 M1) else if r2 = 4 then (K ((x4 + 1) + x2) M1) else if r2 = 5 then (K ((2 * x4) - x3) M1) else if r2 = 6 then (K (9 - s0) M1) else (K x4 M1))
def f_X10_colourOf (x1 : Int32) (x2 : Int32) (M : za_M) (K : Int32 → za_M → Prop) : Prop :=
  f_X10_ashIs x1 1 M (fun r10 M9 => f_X10_ashIs x1 0 M9 (fun r12 M11 => f_X10_given 0 r10 r12 x2 M11 (fun r14 M13 => if 5 ≤ x2 then (f_X10_colourOf_b33 K x1 x2 r10 r14 r10 M13) else (f_X10_colourOf_b33 K x1 x2 r10 r14 r14 M13))))
section
variable {p : Program} {l : Launch} {e : Env} {s : State} {m : MethodId} {args : Array Value} {below : List Frame} {meth : Method} {c : Code} {g : za_L → Nat} {D : va_G} {cy : Nat → ClassId} {K : Int32 → za_M → Prop}
set_option maxRecDepth 100000 in
set_option maxHeartbeats 4000000 in
theorem p_X10_colourOf_b33 (hJ : za_J g) (C : za_C p s m args c cX10_colourOf 6 RX10 g D cy) (hr : meth.sig.returnType = (some .int)) (hk : meth.locks = false) {x1 : Int32} {x2 : Int32} {x3 : Int32} {x4 : Int32} {s0 : Int32} {M : za_M} (h : f_X10_colourOf_b33 K x1 x2 x3 x4 s0 M) : zt p l e (za_rm 4 135) s m args below meth c 0 0 (MQ below (za_Qi g D cy K) args s 0 0 (za_A g)) g D cy 6 M 33 [(0, .ref (g (27, 0, 0))), (1, .int x1), (2, .int x2), (3, .int x3), (4, .int x4)] [.int s0] := by
  unfold f_X10_colourOf_b33 at h
  refine zt_istore C [(5, .int s0), (0, .ref (g (27, 0, 0))), (1, .int x1), (2, .int x2), (3, .int x3), (4, .int x4)] dX10_colourOf_33 (by decide) rfl ?_
  refine zt_aload_n C 1 dX10_colourOf_35 rfl rfl ?_
  refine zt_iload_n C 2 dX10_colourOf_36 rfl rfl ?_
  refine zt_iconst C (v := 0) dX10_colourOf_37 zk_i0 ?_
  refine zt_cVi C [.int x1, .int 0] (m_X10_ashIs hJ  h) (za_mem (j := 27) rfl (by decide) (by decide)) (za_E_27 g cy M 0 0) rfl py_X10_ashIs pv_X10_177 (Nat.le_of_ble_eq_true rfl) ⟨Nat.le_of_ble_eq_true rfl, Nat.le_of_ble_eq_true rfl⟩ ⟨Nat.zero_le _, Nat.zero_le _⟩ dX10_colourOf_38 rfl (fun r2 M1 h => ?_)
  by_cases q3 : r2 = 1
  · replace h := za_ifp h q3
    refine zt_tableIn C (off := 39) 80 dX10_colourOf_41 (by rw [q3]; decide) (by rw [q3]; decide) (by rw [q3]; decide) (by decide) ?_
    refine zt_iload C 5 dX10_colourOf_80 rfl ?_
    refine zt_iconst C (v := 1) dX10_colourOf_82 zk_i1 ?_
    refine zt_iadd C dX10_colourOf_83 ?_
    exact zt_ret C hr hk rfl dX10_colourOf_84 h
  replace h := za_ifn h q3
  by_cases q4 : r2 = 2
  · replace h := za_ifp h q4
    refine zt_tableIn C (off := 44) 85 dX10_colourOf_41 (by rw [q4]; decide) (by rw [q4]; decide) (by rw [q4]; decide) (by decide) ?_
    refine zt_iconst C (v := 2) dX10_colourOf_85 zk_i2 ?_
    refine zt_iload C 5 dX10_colourOf_86 rfl ?_
    refine zt_imul C dX10_colourOf_88 ?_
    exact zt_ret C hr hk rfl dX10_colourOf_89 h
  replace h := za_ifn h q4
  by_cases q5 : r2 = 3
  · replace h := za_ifp h q5
    refine zt_tableIn C (off := 49) 90 dX10_colourOf_41 (by rw [q5]; decide) (by rw [q5]; decide) (by rw [q5]; decide) (by decide) ?_
    refine zt_iload C 0 dX10_colourOf_90 rfl ?_
    exact zt_ret C hr hk rfl dX10_colourOf_92 h
  replace h := za_ifn h q5
  by_cases q6 : r2 = 4
  · replace h := za_ifp h q6
    refine zt_tableIn C (off := 52) 93 dX10_colourOf_41 (by rw [q6]; decide) (by rw [q6]; decide) (by rw [q6]; decide) (by decide) ?_
    refine zt_iload C 5 dX10_colourOf_93 rfl ?_
    refine zt_iconst C (v := 1) dX10_colourOf_95 zk_i1 ?_
    refine zt_iadd C dX10_colourOf_96 ?_
    refine zt_iload_n C 3 dX10_colourOf_97 rfl rfl ?_
    refine zt_iadd C dX10_colourOf_98 ?_
    exact zt_ret C hr hk rfl dX10_colourOf_99 h
  replace h := za_ifn h q6
  by_cases q7 : r2 = 5
  · replace h := za_ifp h q7
    refine zt_tableIn C (off := 59) 100 dX10_colourOf_41 (by rw [q7]; decide) (by rw [q7]; decide) (by rw [q7]; decide) (by decide) ?_
    refine zt_iconst C (v := 2) dX10_colourOf_100 zk_i2 ?_
    refine zt_iload C 5 dX10_colourOf_101 rfl ?_
    refine zt_imul C dX10_colourOf_103 ?_
    refine zt_iload_n C 4 dX10_colourOf_104 rfl rfl ?_
    refine zt_isub C dX10_colourOf_105 ?_
    exact zt_ret C hr hk rfl dX10_colourOf_106 h
  replace h := za_ifn h q7
  by_cases q8 : r2 = 6
  · replace h := za_ifp h q8
    refine zt_tableIn C (off := 66) 107 dX10_colourOf_41 (by rw [q8]; decide) (by rw [q8]; decide) (by rw [q8]; decide) (by decide) ?_
    refine zt_bipush C (v := 9) dX10_colourOf_107 zk_b9 ?_
    refine zt_iload C 0 dX10_colourOf_109 rfl ?_
    refine zt_isub C dX10_colourOf_111 ?_
    exact zt_ret C hr hk rfl dX10_colourOf_112 h
  replace h := za_ifn h q8
  have q3' := lv_neT (a := 1) q3 (by decide)
  have q4' := lv_neT (a := 2) q4 (by decide)
  have q5' := lv_neT (a := 3) q5 (by decide)
  have q6' := lv_neT (a := 4) q6 (by decide)
  have q7' := lv_neT (a := 5) q7 (by decide)
  have q8' := lv_neT (a := 6) q8 (by decide)
  refine zt_tableOut C 113 dX10_colourOf_41 (by omega) (by decide) ?_
  refine zt_iload C 5 dX10_colourOf_113 rfl ?_
  exact zt_ret C hr hk rfl dX10_colourOf_115 h
set_option maxRecDepth 100000 in
set_option maxHeartbeats 4000000 in
theorem p_X10_colourOf (hJ : za_J g) (C : za_C p s m args c cX10_colourOf 6 RX10 g D cy) (hr : meth.sig.returnType = (some .int)) (hk : meth.locks = false) {x1 : Int32} {x2 : Int32} {M : za_M} (h : f_X10_colourOf x1 x2 M K) : zt p l e (za_rm 4 135) s m args below meth c 0 0 (MQ below (za_Qi g D cy K) args s 0 0 (za_A g)) g D cy 6 M 0 [(0, .ref (g (27, 0, 0))), (1, .int x1), (2, .int x2)] [] := by
  unfold f_X10_colourOf at h
  refine zt_aload_n C 0 dX10_colourOf_0 rfl rfl ?_
  refine zt_iload_n C 1 dX10_colourOf_1 rfl rfl ?_
  refine zt_iconst C (v := 1) dX10_colourOf_2 zk_i1 ?_
  refine zt_cVi C [.int x1, .int 1] (m_X10_ashIs hJ  h) (za_mem (j := 27) rfl (by decide) (by decide)) (za_E_27 g cy M 0 0) rfl py_X10_ashIs pv_X10_177 (Nat.le_of_ble_eq_true rfl) ⟨Nat.le_of_ble_eq_true rfl, Nat.le_of_ble_eq_true rfl⟩ ⟨Nat.zero_le _, Nat.zero_le _⟩ dX10_colourOf_3 rfl (fun r10 M9 h => ?_)
  refine zt_istore_n C [(3, .int r10), (0, .ref (g (27, 0, 0))), (1, .int x1), (2, .int x2)] dX10_colourOf_6 rfl (by decide) rfl ?_
  refine zt_aload_n C 1 dX10_colourOf_7 rfl rfl ?_
  refine zt_iconst C (v := 0) dX10_colourOf_8 zk_i0 ?_
  refine zt_iload_n C 0 dX10_colourOf_9 rfl rfl ?_
  refine zt_aload_n C 1 dX10_colourOf_10 rfl rfl ?_
  refine zt_iload_n C 2 dX10_colourOf_11 rfl rfl ?_
  refine zt_iconst C (v := 0) dX10_colourOf_12 zk_i0 ?_
  refine zt_cVi C [.int x1, .int 0] (m_X10_ashIs hJ  h) (za_mem (j := 27) rfl (by decide) (by decide)) (za_E_27 g cy M9 0 0) rfl py_X10_ashIs pv_X10_177 (Nat.le_of_ble_eq_true rfl) ⟨Nat.le_of_ble_eq_true rfl, Nat.le_of_ble_eq_true rfl⟩ ⟨Nat.zero_le _, Nat.zero_le _⟩ dX10_colourOf_13 rfl (fun r12 M11 h => ?_)
  refine zt_iload_n C 3 dX10_colourOf_16 rfl rfl ?_
  refine zt_cVi C [.int 0, .int r10, .int r12, .int x2] (m_X10_given hJ  h) (za_mem (j := 27) rfl (by decide) (by decide)) (za_E_27 g cy M11 0 0) rfl py_X10_given pv_X10_152 (Nat.le_of_ble_eq_true rfl) ⟨Nat.le_of_ble_eq_true rfl, Nat.le_of_ble_eq_true rfl⟩ ⟨Nat.zero_le _, Nat.zero_le _⟩ dX10_colourOf_17 rfl (fun r14 M13 h => ?_)
  refine zt_istore C [(4, .int r14), (3, .int r10), (0, .ref (g (27, 0, 0))), (1, .int x1), (2, .int x2)] dX10_colourOf_20 (by decide) rfl ?_
  refine zt_iload_n C 4 dX10_colourOf_22 rfl rfl ?_
  refine zt_iconst C (v := 5) dX10_colourOf_23 zk_i5 ?_
  refine zt_icmp_ge C 32 dX10_colourOf_24 (by decide) (fun q15 => ?_) (fun q15 => ?_)
  · replace h := za_ifp h q15
    refine zt_iload_n C 1 dX10_colourOf_32 rfl rfl ?_
    refine zt_sub [2, 3, 4, 1, 0] (lv' := [(0, .ref (g (27, 0, 0))), (1, .int x1), (2, .int x2), (3, .int r10), (4, .int r14)]) rfl ?_
    exact p_X10_colourOf_b33 hJ C hr hk  h
  · replace h := za_ifn h q15
    refine zt_iload C 0 dX10_colourOf_27 rfl ?_
    refine zt_goto C 33 dX10_colourOf_29 (by decide) ?_
    refine zt_sub [2, 3, 4, 1, 0] (lv' := [(0, .ref (g (27, 0, 0))), (1, .int x1), (2, .int x2), (3, .int r10), (4, .int r14)]) rfl ?_
    exact p_X10_colourOf_b33 hJ C hr hk  h
end
theorem m_X10_colourOf {l : Launch} {g : za_L → Nat} {D : va_G} {cy : Nat → ClassId} (hJ : za_J g)  {x1 : Int32} {x2 : Int32} {M : za_M} {K : Int32 → za_M → Prop} (h : f_X10_colourOf x1 x2 M K) : za_Mi l g D cy yX10_colourOf cX10_colourOf 6 (some .int) 4 135 [.ref (g (27, 0, 0)), .int x1, .int x2] M K := za_openi hJ (by decide) (Nat.le_of_ble_eq_true rfl) (fun p e s m args below meth c C hr hk => p_X10_colourOf hJ C hr hk  h)
/-! X10_rest -/
def f_X10_rest (x0 : Int32) (M : za_M) (K : Int32 → za_M → Prop) : Prop :=
  if 0 ≤ (x0 - x0 / 10 * 10) then (K (x0 - x0 / 10 * 10) M) else (K ((x0 - x0 / 10 * 10) + 10) M)
section
variable {p : Program} {l : Launch} {e : Env} {s : State} {m : MethodId} {args : Array Value} {below : List Frame} {meth : Method} {c : Code} {g : za_L → Nat} {D : va_G} {cy : Nat → ClassId} {K : Int32 → za_M → Prop}
set_option maxRecDepth 100000 in
set_option maxHeartbeats 4000000 in
theorem p_X10_rest (hJ : za_J g) (C : za_C p s m args c cX10_rest 1 RX10 g D cy) (hr : meth.sig.returnType = (some .int)) (hk : meth.locks = false) {x0 : Int32} {M : za_M} (h : f_X10_rest x0 M K) : zt p l e (za_rm 1 64) s m args below meth c 0 0 (MQ below (za_Qi g D cy K) args s 0 0 (za_A g)) g D cy 1 M 0 [(0, .int x0)] [] := by
  unfold f_X10_rest at h
  refine zt_iload_n C 0 dX10_rest_0 rfl rfl ?_
  refine zt_bipush C (v := 10) dX10_rest_1 zk_b10 ?_
  refine zt_irem C dX10_rest_3 (by decide) ?_
  refine zt_if_ge C 17 dX10_rest_4 (by decide) (fun q1 => ?_) (fun q1 => ?_)
  · replace h := za_ifp h q1
    refine zt_iload_n C 0 dX10_rest_17 rfl rfl ?_
    refine zt_bipush C (v := 10) dX10_rest_18 zk_b10 ?_
    refine zt_irem C dX10_rest_20 (by decide) ?_
    exact zt_ret C hr hk rfl dX10_rest_21 h
  · replace h := za_ifn h q1
    refine zt_iload_n C 0 dX10_rest_7 rfl rfl ?_
    refine zt_bipush C (v := 10) dX10_rest_8 zk_b10 ?_
    refine zt_irem C dX10_rest_10 (by decide) ?_
    refine zt_bipush C (v := 10) dX10_rest_11 zk_b10 ?_
    refine zt_iadd C dX10_rest_13 ?_
    refine zt_goto C 21 dX10_rest_14 (by decide) ?_
    exact zt_ret C hr hk rfl dX10_rest_21 h
end
theorem m_X10_rest {l : Launch} {g : za_L → Nat} {D : va_G} {cy : Nat → ClassId} (hJ : za_J g)  {x0 : Int32} {M : za_M} {K : Int32 → za_M → Prop} (h : f_X10_rest x0 M K) : za_Mi l g D cy yX10_rest cX10_rest 1 (some .int) 1 64 [.int x0] M K := za_openi hJ (by decide) (Nat.le_of_ble_eq_true rfl) (fun p e s m args below meth c C hr hk => p_X10_rest hJ C hr hk  h)
/-! X10_digit -/
def f_X10_digit_b4 (K : Int32 → za_M → Prop) (x1 : Int32) (L4 : Int32 → Int32 → za_M → Prop) (x2 : Int32) (x3 : Int32) (M : za_M) : Prop :=
  if x1 ≤ x3 then (K (x2 - x2 / 10 * 10) M) else (za_let (x2 / 10) fun y2 => L4 y2 (x3 + 1) M)
def f_X10_digit (x0 : Int32) (x1 : Int32) (M : za_M) (K : Int32 → za_M → Prop) : Prop :=
  ∃ n, za_lp2 (f_X10_digit_b4 K x1) n x0 0 M
section
variable {p : Program} {l : Launch} {e : Env} {s : State} {m : MethodId} {args : Array Value} {below : List Frame} {meth : Method} {c : Code} {g : za_L → Nat} {D : va_G} {cy : Nat → ClassId} {K : Int32 → za_M → Prop}
set_option maxRecDepth 100000 in
set_option maxHeartbeats 4000000 in
theorem p_X10_digit_b4 (hJ : za_J g) (C : za_C p s m args c cX10_digit 4 RX10 g D cy) (hr : meth.sig.returnType = (some .int)) (hk : meth.locks = false) {x1 : Int32} {L4 : Int32 → Int32 → za_M → Prop} (hL4 : ∀ (x2 : Int32) (x3 : Int32) (M : za_M), L4 x2 x3 M → zt p l e (za_rm 1 64) s m args below meth c 0 0 (MQ below (za_Qi g D cy K) args s 0 0 (za_A g)) g D cy 4 M 4 [(1, .int x1), (2, .int x2), (3, .int x3)] []) : ∀ (x2 : Int32) (x3 : Int32) (M : za_M), f_X10_digit_b4 K x1 L4 x2 x3 M → zt p l e (za_rm 1 64) s m args below meth c 0 0 (MQ below (za_Qi g D cy K) args s 0 0 (za_A g)) g D cy 4 M 4 [(1, .int x1), (2, .int x2), (3, .int x3)] [] := by
  intro x2 x3 M h
  unfold f_X10_digit_b4 at h
  refine zt_iload_n C 2 dX10_digit_4 rfl rfl ?_
  refine zt_iload_n C 0 dX10_digit_5 rfl rfl ?_
  refine zt_icmp_ge C 20 dX10_digit_6 (by decide) (fun q1 => ?_) (fun q1 => ?_)
  · replace h := za_ifp h q1
    refine zt_iload_n C 1 dX10_digit_20 rfl rfl ?_
    refine zt_bipush C (v := 10) dX10_digit_21 zk_b10 ?_
    refine zt_irem C dX10_digit_23 (by decide) ?_
    exact zt_ret C hr hk rfl dX10_digit_24 h
  · replace h := za_ifn h q1
    refine zt_iload_n C 1 dX10_digit_9 rfl rfl ?_
    refine zt_bipush C (v := 10) dX10_digit_10 zk_b10 ?_
    refine zt_idiv C dX10_digit_12 (by decide) ?_
    refine zt_topi (fun y2 e3 => ?_)
    replace h := za_use h e3
    refine zt_istore_n C [(2, .int y2), (1, .int x1), (3, .int x3)] dX10_digit_13 rfl (by decide) rfl ?_
    refine zt_iinc C (v := x3 + 1) 2 [(3, .int (x3 + 1)), (2, .int y2), (1, .int x1)] dX10_digit_14 rfl (zk_n1 _) (by decide) rfl ?_
    refine zt_goto C 4 dX10_digit_17 (by decide) ?_
    refine zt_sub [2, 1, 0] (lv' := [(1, .int x1), (2, .int y2), (3, .int (x3 + 1))]) rfl ?_
    exact hL4 _ _ _ h
theorem p_X10_digit_b4_in (hJ : za_J g) (C : za_C p s m args c cX10_digit 4 RX10 g D cy) (hr : meth.sig.returnType = (some .int)) (hk : meth.locks = false) {x1 : Int32} {n : Nat} {x2 : Int32} {x3 : Int32} {M : za_M} (h : za_lp2 (f_X10_digit_b4 K x1) n x2 x3 M) : zt p l e (za_rm 1 64) s m args below meth c 0 0 (MQ below (za_Qi g D cy K) args s 0 0 (za_A g)) g D cy 4 M 4 [(1, .int x1), (2, .int x2), (3, .int x3)] [] := za_lp2_run (Z := fun x2 x3 M => zt p l e (za_rm 1 64) s m args below meth c 0 0 (MQ below (za_Qi g D cy K) args s 0 0 (za_A g)) g D cy 4 M 4 [(1, .int x1), (2, .int x2), (3, .int x3)] []) (fun L hL => p_X10_digit_b4 hJ C hr hk  hL) n x2 x3 M h
set_option maxRecDepth 100000 in
set_option maxHeartbeats 4000000 in
theorem p_X10_digit (hJ : za_J g) (C : za_C p s m args c cX10_digit 4 RX10 g D cy) (hr : meth.sig.returnType = (some .int)) (hk : meth.locks = false) {x0 : Int32} {x1 : Int32} {M : za_M} (h : f_X10_digit x0 x1 M K) : zt p l e (za_rm 1 64) s m args below meth c 0 0 (MQ below (za_Qi g D cy K) args s 0 0 (za_A g)) g D cy 4 M 0 [(0, .int x0), (1, .int x1)] [] := by
  unfold f_X10_digit at h
  refine zt_iload_n C 0 dX10_digit_0 rfl rfl ?_
  refine zt_istore_n C [(2, .int x0), (0, .int x0), (1, .int x1)] dX10_digit_1 rfl (by decide) rfl ?_
  refine zt_iconst C (v := 0) dX10_digit_2 zk_i0 ?_
  refine zt_istore_n C [(3, .int 0), (2, .int x0), (0, .int x0), (1, .int x1)] dX10_digit_3 rfl (by decide) rfl ?_
  refine zt_sub [3, 1, 0] (lv' := [(1, .int x1), (2, .int x0), (3, .int 0)]) rfl ?_
  obtain ⟨n, h⟩ := h
  exact p_X10_digit_b4_in hJ C hr hk  h
end
theorem m_X10_digit {l : Launch} {g : za_L → Nat} {D : va_G} {cy : Nat → ClassId} (hJ : za_J g)  {x0 : Int32} {x1 : Int32} {M : za_M} {K : Int32 → za_M → Prop} (h : f_X10_digit x0 x1 M K) : za_Mi l g D cy yX10_digit cX10_digit 4 (some .int) 1 64 [.int x0, .int x1] M K := za_openi hJ (by decide) (Nat.le_of_ble_eq_true rfl) (fun p e s m args below meth c C hr hk => p_X10_digit hJ C hr hk  h)

/-! X5_readNumber -/
def f_X5_readNumber_b4 (K : Int32 → za_M → Prop) (L4 : Int32 → Int32 → za_M → Prop) (x1 : Int32) (x2 : Int32) (M : za_M) : Prop :=
  if 4 ≤ x2 then (f_X5_add x1 M (fun M2 => K 1 M2)) else (f_X5_next M (fun r5 M4 => f_X5_isDigit r5 M4 (fun r7 M6 => if r7 = 0 then (f_X5_add x1 M6 (fun M9 => K 1 M9)) else (f_X5_next M6 (fun r12 M11 => za_let (((x1 * 10) + r12) - 48) fun y13 => za_let ((M11.1 (7, 0, 0) 5) + 1) fun y15 => za_let (za_up M11 (7, 0, 0) 5 y15) fun M17 => L4 y13 (x2 + 1) M17)))))
def f_X5_readNumber (M : za_M) (K : Int32 → za_M → Prop) : Prop :=
  ∃ n, za_lp2 (f_X5_readNumber_b4 K) n 0 0 M
section
variable {p : Program} {l : Launch} {e : Env} {s : State} {m : MethodId} {args : Array Value} {below : List Frame} {meth : Method} {c : Code} {g : za_L → Nat} {D : va_G} {cy : Nat → ClassId} {K : Int32 → za_M → Prop}
set_option maxRecDepth 100000 in
set_option maxHeartbeats 4000000 in
theorem p_X5_readNumber_b4 (hJ : za_J g) (C : za_C p s m args c cX5_readNumber 3 RX5 g D cy) (hr : meth.sig.returnType = (some .boolean)) (hk : meth.locks = false) {L4 : Int32 → Int32 → za_M → Prop} (hL4 : ∀ (x1 : Int32) (x2 : Int32) (M : za_M), L4 x1 x2 M → zt p l e (za_rm 3 106) s m args below meth c 0 0 (MQ below (za_Qi g D cy K) args s 0 0 (za_A g)) g D cy 3 M 4 [(0, .ref (g (7, 0, 0))), (1, .int x1), (2, .int x2)] []) : ∀ (x1 : Int32) (x2 : Int32) (M : za_M), f_X5_readNumber_b4 K L4 x1 x2 M → zt p l e (za_rm 3 106) s m args below meth c 0 0 (MQ below (za_Qi g D cy K) args s 0 0 (za_A g)) g D cy 3 M 4 [(0, .ref (g (7, 0, 0))), (1, .int x1), (2, .int x2)] [] := by
  intro x1 x2 M h
  unfold f_X5_readNumber_b4 at h
  refine zt_iload_n C 2 dX5_readNumber_4 rfl rfl ?_
  refine zt_iconst C (v := 4) dX5_readNumber_5 zk_i4 ?_
  refine zt_icmp_ge C 48 dX5_readNumber_6 (by decide) (fun q1 => ?_) (fun q1 => ?_)
  · replace h := za_ifp h q1
    refine zt_aload_n C 0 dX5_readNumber_48 rfl rfl ?_
    refine zt_iload_n C 1 dX5_readNumber_49 rfl rfl ?_
    refine zt_cVv C [.int x1] (m_X5_add hJ  h) (za_mem (j := 7) rfl (by decide) (by decide)) (za_E_7 g cy M 0 0) rfl py_X5_add pv_X5_57 (Nat.le_of_ble_eq_true rfl) ⟨Nat.le_of_ble_eq_true rfl, Nat.le_of_ble_eq_true rfl⟩ ⟨Nat.zero_le _, Nat.zero_le _⟩ dX5_readNumber_50 rfl (fun M2 h => ?_)
    refine zt_iconst C (v := 1) dX5_readNumber_53 zk_i1 ?_
    exact zt_ret C hr hk rfl dX5_readNumber_54 h
  · replace h := za_ifn h q1
    refine zt_aload_n C 0 dX5_readNumber_9 rfl rfl ?_
    refine zt_cVi C [] (m_X5_next hJ  h) (za_mem (j := 7) rfl (by decide) (by decide)) (za_E_7 g cy M 0 0) rfl py_X5_next pv_X5_49 (Nat.le_of_ble_eq_true rfl) ⟨Nat.le_of_ble_eq_true rfl, Nat.le_of_ble_eq_true rfl⟩ ⟨Nat.zero_le _, Nat.zero_le _⟩ dX5_readNumber_10 rfl (fun r5 M4 h => ?_)
    refine zt_cSi C [.int r5] (m_X5_isDigit hJ  h) py_X5_isDigit ps_X5_61 (Nat.le_of_ble_eq_true rfl) ⟨Nat.le_of_ble_eq_true rfl, Nat.le_of_ble_eq_true rfl⟩ ⟨Nat.zero_le _, Nat.zero_le _⟩ dX5_readNumber_13 rfl (fun r7 M6 h => ?_)
    refine zt_if_eq C 48 dX5_readNumber_16 (by decide) (fun q8 => ?_) (fun q8 => ?_)
    · replace h := za_ifp h q8
      refine zt_aload_n C 0 dX5_readNumber_48 rfl rfl ?_
      refine zt_iload_n C 1 dX5_readNumber_49 rfl rfl ?_
      refine zt_cVv C [.int x1] (m_X5_add hJ  h) (za_mem (j := 7) rfl (by decide) (by decide)) (za_E_7 g cy M6 0 0) rfl py_X5_add pv_X5_57 (Nat.le_of_ble_eq_true rfl) ⟨Nat.le_of_ble_eq_true rfl, Nat.le_of_ble_eq_true rfl⟩ ⟨Nat.zero_le _, Nat.zero_le _⟩ dX5_readNumber_50 rfl (fun M9 h => ?_)
      refine zt_iconst C (v := 1) dX5_readNumber_53 zk_i1 ?_
      exact zt_ret C hr hk rfl dX5_readNumber_54 h
    · replace h := za_ifn h q8
      refine zt_iload_n C 1 dX5_readNumber_19 rfl rfl ?_
      refine zt_bipush C (v := 10) dX5_readNumber_20 zk_b10 ?_
      refine zt_imul C dX5_readNumber_22 ?_
      refine zt_aload_n C 0 dX5_readNumber_23 rfl rfl ?_
      refine zt_cVi C [] (m_X5_next hJ  h) (za_mem (j := 7) rfl (by decide) (by decide)) (za_E_7 g cy M6 0 0) rfl py_X5_next pv_X5_49 (Nat.le_of_ble_eq_true rfl) ⟨Nat.le_of_ble_eq_true rfl, Nat.le_of_ble_eq_true rfl⟩ ⟨Nat.zero_le _, Nat.zero_le _⟩ dX5_readNumber_24 rfl (fun r12 M11 h => ?_)
      refine zt_iadd C dX5_readNumber_27 ?_
      refine zt_bipush C (v := 48) dX5_readNumber_28 zk_b48 ?_
      refine zt_isub C dX5_readNumber_30 ?_
      refine zt_topi (fun y13 e14 => ?_)
      replace h := za_use h e14
      refine zt_istore_n C [(1, .int y13), (0, .ref (g (7, 0, 0))), (2, .int x2)] dX5_readNumber_31 rfl (by decide) rfl ?_
      refine zt_aload_n C 1 dX5_readNumber_32 rfl rfl ?_
      refine zt_dup C dX5_readNumber_33 rfl ?_
      refine zt_get C (za_mem (j := 7) rfl (by decide) (by decide)) pf_X5_35 (za_E_7 g cy M11 0 0) rfl dX5_readNumber_34 ?_
      refine zt_iconst C (v := 1) dX5_readNumber_37 zk_i1 ?_
      refine zt_iadd C dX5_readNumber_38 ?_
      refine zt_topi (fun y15 e16 => ?_)
      replace h := za_use h e16
      refine zt_put C (za_mem (j := 7) rfl (by decide) (by decide)) pf_X5_35 pt_X5_5 rfl rfl (za_E_7 g cy M11 0 0) rfl (Nat.le_of_ble_eq_true rfl) dX5_readNumber_39 ?_
      refine zt_topM (fun M17 e18 => ?_)
      replace h := za_use h e18
      refine zt_iinc C (v := x2 + 1) 2 [(2, .int (x2 + 1)), (1, .int y13), (0, .ref (g (7, 0, 0)))] dX5_readNumber_42 rfl (zk_n1 _) (by decide) rfl ?_
      refine zt_goto C 4 dX5_readNumber_45 (by decide) ?_
      refine zt_sub [2, 1, 0] (lv' := [(0, .ref (g (7, 0, 0))), (1, .int y13), (2, .int (x2 + 1))]) rfl ?_
      exact hL4 _ _ _ h
theorem p_X5_readNumber_b4_in (hJ : za_J g) (C : za_C p s m args c cX5_readNumber 3 RX5 g D cy) (hr : meth.sig.returnType = (some .boolean)) (hk : meth.locks = false) {n : Nat} {x1 : Int32} {x2 : Int32} {M : za_M} (h : za_lp2 (f_X5_readNumber_b4 K) n x1 x2 M) : zt p l e (za_rm 3 106) s m args below meth c 0 0 (MQ below (za_Qi g D cy K) args s 0 0 (za_A g)) g D cy 3 M 4 [(0, .ref (g (7, 0, 0))), (1, .int x1), (2, .int x2)] [] := za_lp2_run (Z := fun x1 x2 M => zt p l e (za_rm 3 106) s m args below meth c 0 0 (MQ below (za_Qi g D cy K) args s 0 0 (za_A g)) g D cy 3 M 4 [(0, .ref (g (7, 0, 0))), (1, .int x1), (2, .int x2)] []) (fun L hL => p_X5_readNumber_b4 hJ C hr hk  hL) n x1 x2 M h
set_option maxRecDepth 100000 in
set_option maxHeartbeats 4000000 in
theorem p_X5_readNumber (hJ : za_J g) (C : za_C p s m args c cX5_readNumber 3 RX5 g D cy) (hr : meth.sig.returnType = (some .boolean)) (hk : meth.locks = false) {M : za_M} (h : f_X5_readNumber M K) : zt p l e (za_rm 3 106) s m args below meth c 0 0 (MQ below (za_Qi g D cy K) args s 0 0 (za_A g)) g D cy 3 M 0 [(0, .ref (g (7, 0, 0)))] [] := by
  unfold f_X5_readNumber at h
  refine zt_iconst C (v := 0) dX5_readNumber_0 zk_i0 ?_
  refine zt_istore_n C [(1, .int 0), (0, .ref (g (7, 0, 0)))] dX5_readNumber_1 rfl (by decide) rfl ?_
  refine zt_iconst C (v := 0) dX5_readNumber_2 zk_i0 ?_
  refine zt_istore_n C [(2, .int 0), (1, .int 0), (0, .ref (g (7, 0, 0)))] dX5_readNumber_3 rfl (by decide) rfl ?_
  refine zt_sub [2, 1, 0] (lv' := [(0, .ref (g (7, 0, 0))), (1, .int 0), (2, .int 0)]) rfl ?_
  obtain ⟨n, h⟩ := h
  exact p_X5_readNumber_b4_in hJ C hr hk  h
end
theorem m_X5_readNumber {l : Launch} {g : za_L → Nat} {D : va_G} {cy : Nat → ClassId} (hJ : za_J g)  {M : za_M} {K : Int32 → za_M → Prop} (h : f_X5_readNumber M K) : za_Mi l g D cy yX5_readNumber cX5_readNumber 3 (some .boolean) 3 106 [.ref (g (7, 0, 0))] M K := za_openi hJ (by decide) (Nat.le_of_ble_eq_true rfl) (fun p e s m args below meth c C hr hk => p_X5_readNumber hJ C hr hk  h)
/-! X5_readName -/
def f_X5_readName_b2 (K : Int32 → za_M → Prop) (x1 : Int32) (L2 : Int32 → za_M → Prop) (x2 : Int32) (M : za_M) : Prop :=
  if 3 ≤ x2 then (K 0 M) else (vp_in (((M.1 (7, 0, 0) 4) * 3) + x2) 6 ∧ (if (za_t1 (((M.1 (7, 0, 0) 4) * 3) + x2).toNatClampNeg) = x1 then (za_let ((M.1 (7, 0, 0) 5) + 1) fun y4 => za_let (za_up M (7, 0, 0) 5 y4) fun M6 => f_X5_add ((-1) - x2) M6 (fun M8 => K 1 M8)) else (L2 (x2 + 1) M)))
def f_X5_readName (x1 : Int32) (M : za_M) (K : Int32 → za_M → Prop) : Prop :=
  ∃ n, za_lp1 (f_X5_readName_b2 K x1) n 0 M
section
variable {p : Program} {l : Launch} {e : Env} {s : State} {m : MethodId} {args : Array Value} {below : List Frame} {meth : Method} {c : Code} {g : za_L → Nat} {D : va_G} {cy : Nat → ClassId} {K : Int32 → za_M → Prop}
set_option maxRecDepth 100000 in
set_option maxHeartbeats 4000000 in
theorem p_X5_readName_b2 (hJ : za_J g) (C : za_C p s m args c cX5_readName 3 RX5 g D cy) (hr : meth.sig.returnType = (some .boolean)) (hk : meth.locks = false) {x1 : Int32} {L2 : Int32 → za_M → Prop} (hL2 : ∀ (x2 : Int32) (M : za_M), L2 x2 M → zt p l e (za_rm 2 85) s m args below meth c 0 0 (MQ below (za_Qi g D cy K) args s 0 0 (za_A g)) g D cy 3 M 2 [(0, .ref (g (7, 0, 0))), (1, .int x1), (2, .int x2)] []) : ∀ (x2 : Int32) (M : za_M), f_X5_readName_b2 K x1 L2 x2 M → zt p l e (za_rm 2 85) s m args below meth c 0 0 (MQ below (za_Qi g D cy K) args s 0 0 (za_A g)) g D cy 3 M 2 [(0, .ref (g (7, 0, 0))), (1, .int x1), (2, .int x2)] [] := by
  intro x2 M h
  unfold f_X5_readName_b2 at h
  refine zt_iload_n C 2 dX5_readName_2 rfl rfl ?_
  refine zt_iconst C (v := 3) dX5_readName_3 zk_i3 ?_
  refine zt_icmp_ge C 48 dX5_readName_4 (by decide) (fun q1 => ?_) (fun q1 => ?_)
  · replace h := za_ifp h q1
    refine zt_iconst C (v := 0) dX5_readName_48 zk_i0 ?_
    exact zt_ret C hr hk rfl dX5_readName_49 h
  · replace h := za_ifn h q1
    refine zt_getsN C (host := "AshLoans") C.2.2.2.2.2.1.2.2.2.1.1 (by decide +kernel) dX5_readName_7 ?_
    refine zt_aload_n C 0 dX5_readName_10 rfl rfl ?_
    refine zt_get C (za_mem (j := 7) rfl (by decide) (by decide)) pf_X5_32 (za_E_7 g cy M 0 0) rfl dX5_readName_11 ?_
    refine zt_iconst C (v := 3) dX5_readName_14 zk_i3 ?_
    refine zt_imul C dX5_readName_15 ?_
    refine zt_iload_n C 2 dX5_readName_16 rfl rfl ?_
    refine zt_iadd C dX5_readName_17 ?_
    obtain ⟨g2, h⟩ := h
    refine zt_tcald C C.2.2.2.2.2.1.2.2.2.1.2 g2 dX5_readName_18 ?_
    refine zt_iload_n C 1 dX5_readName_19 rfl rfl ?_
    refine zt_icmp_ne C 42 dX5_readName_20 (by decide) (fun q3 => ?_) (fun q3 => ?_)
    · replace h := za_ifn h q3
      refine zt_iinc C (v := x2 + 1) 2 [(2, .int (x2 + 1)), (0, .ref (g (7, 0, 0))), (1, .int x1)] dX5_readName_42 rfl (zk_n1 _) (by decide) rfl ?_
      refine zt_goto C 2 dX5_readName_45 (by decide) ?_
      refine zt_sub [1, 2, 0] (lv' := [(0, .ref (g (7, 0, 0))), (1, .int x1), (2, .int (x2 + 1))]) rfl ?_
      exact hL2 _ _ h
    · replace h := za_ifp h q3
      refine zt_aload_n C 0 dX5_readName_23 rfl rfl ?_
      refine zt_dup C dX5_readName_24 rfl ?_
      refine zt_get C (za_mem (j := 7) rfl (by decide) (by decide)) pf_X5_35 (za_E_7 g cy M 0 0) rfl dX5_readName_25 ?_
      refine zt_iconst C (v := 1) dX5_readName_28 zk_i1 ?_
      refine zt_iadd C dX5_readName_29 ?_
      refine zt_topi (fun y4 e5 => ?_)
      replace h := za_use h e5
      refine zt_put C (za_mem (j := 7) rfl (by decide) (by decide)) pf_X5_35 pt_X5_5 rfl rfl (za_E_7 g cy M 0 0) rfl (Nat.le_of_ble_eq_true rfl) dX5_readName_30 ?_
      refine zt_topM (fun M6 e7 => ?_)
      replace h := za_use h e7
      refine zt_aload_n C 0 dX5_readName_33 rfl rfl ?_
      refine zt_iconst C (v := (-1)) dX5_readName_34 zk_im1 ?_
      refine zt_iload_n C 2 dX5_readName_35 rfl rfl ?_
      refine zt_isub C dX5_readName_36 ?_
      refine zt_cVv C [.int ((-1) - x2)] (m_X5_add hJ  h) (za_mem (j := 7) rfl (by decide) (by decide)) (za_E_7 g cy M6 0 0) rfl py_X5_add pv_X5_57 (Nat.le_of_ble_eq_true rfl) ⟨Nat.le_of_ble_eq_true rfl, Nat.le_of_ble_eq_true rfl⟩ ⟨Nat.zero_le _, Nat.zero_le _⟩ dX5_readName_37 rfl (fun M8 h => ?_)
      refine zt_iconst C (v := 1) dX5_readName_40 zk_i1 ?_
      exact zt_ret C hr hk rfl dX5_readName_41 h
theorem p_X5_readName_b2_in (hJ : za_J g) (C : za_C p s m args c cX5_readName 3 RX5 g D cy) (hr : meth.sig.returnType = (some .boolean)) (hk : meth.locks = false) {x1 : Int32} {n : Nat} {x2 : Int32} {M : za_M} (h : za_lp1 (f_X5_readName_b2 K x1) n x2 M) : zt p l e (za_rm 2 85) s m args below meth c 0 0 (MQ below (za_Qi g D cy K) args s 0 0 (za_A g)) g D cy 3 M 2 [(0, .ref (g (7, 0, 0))), (1, .int x1), (2, .int x2)] [] := za_lp1_run (Z := fun x2 M => zt p l e (za_rm 2 85) s m args below meth c 0 0 (MQ below (za_Qi g D cy K) args s 0 0 (za_A g)) g D cy 3 M 2 [(0, .ref (g (7, 0, 0))), (1, .int x1), (2, .int x2)] []) (fun L hL => p_X5_readName_b2 hJ C hr hk  hL) n x2 M h
set_option maxRecDepth 100000 in
set_option maxHeartbeats 4000000 in
theorem p_X5_readName (hJ : za_J g) (C : za_C p s m args c cX5_readName 3 RX5 g D cy) (hr : meth.sig.returnType = (some .boolean)) (hk : meth.locks = false) {x1 : Int32} {M : za_M} (h : f_X5_readName x1 M K) : zt p l e (za_rm 2 85) s m args below meth c 0 0 (MQ below (za_Qi g D cy K) args s 0 0 (za_A g)) g D cy 3 M 0 [(0, .ref (g (7, 0, 0))), (1, .int x1)] [] := by
  unfold f_X5_readName at h
  refine zt_iconst C (v := 0) dX5_readName_0 zk_i0 ?_
  refine zt_istore_n C [(2, .int 0), (0, .ref (g (7, 0, 0))), (1, .int x1)] dX5_readName_1 rfl (by decide) rfl ?_
  refine zt_sub [1, 2, 0] (lv' := [(0, .ref (g (7, 0, 0))), (1, .int x1), (2, .int 0)]) rfl ?_
  obtain ⟨n, h⟩ := h
  exact p_X5_readName_b2_in hJ C hr hk  h
end
theorem m_X5_readName {l : Launch} {g : za_L → Nat} {D : va_G} {cy : Nat → ClassId} (hJ : za_J g)  {x1 : Int32} {M : za_M} {K : Int32 → za_M → Prop} (h : f_X5_readName x1 M K) : za_Mi l g D cy yX5_readName cX5_readName 3 (some .boolean) 2 85 [.ref (g (7, 0, 0)), .int x1] M K := za_openi hJ (by decide) (Nat.le_of_ble_eq_true rfl) (fun p e s m args below meth c C hr hk => p_X5_readName hJ C hr hk  h)
/-! X5 -/
def f_X5_readLevel_b39 (R_X5_readLevel : Int32 → Int32 → za_M → (Int32 → za_M → Prop) → Prop) (R_X5_readPart : Int32 → za_M → (Int32 → za_M → Prop) → Prop) (K : Int32 → za_M → Prop) (x1 : Int32) (x2 : Int32) (x3 : Int32) (L39 : Int32 → za_M → Prop) (x4 : Int32) (M : za_M) : Prop :=
  if x3 ≤ x4 then (K 1 M) else (f_X5_next M (fun r3 M2 => f_X5_levelOf r3 M2 (fun r5 M4 => if r5 = x1 then (f_X5_next M4 (fun r8 M7 => za_let ((M7.1 (7, 0, 0) 5) + 1) fun y9 => za_let (za_up M7 (7, 0, 0) 5 y9) fun M11 => R_X5_readLevel (x1 + 1) x2 M11 (fun r14 M13 => if r14 = 0 then (K 0 M13) else (f_X5_add (-r8) M13 (fun M16 => L39 (x4 + 1) M16))))) else (K 1 M4))))
def f_X5_readLevel_b35 (R_X5_readLevel : Int32 → Int32 → za_M → (Int32 → za_M → Prop) → Prop) (R_X5_readPart : Int32 → za_M → (Int32 → za_M → Prop) → Prop) (K : Int32 → za_M → Prop) (x1 : Int32) (x2 : Int32) (s0 : Int32) (M : za_M) : Prop :=
  ∃ n, za_lp1 (f_X5_readLevel_b39 R_X5_readLevel R_X5_readPart K x1 x2 s0) n 0 M
def fb_X5_readLevel (R_X5_readLevel : Int32 → Int32 → za_M → (Int32 → za_M → Prop) → Prop) (R_X5_readPart : Int32 → za_M → (Int32 → za_M → Prop) → Prop) (x1 : Int32) (x2 : Int32) (M : za_M) (K : Int32 → za_M → Prop) : Prop :=
  if x1 < 5 then (R_X5_readLevel (x1 + 1) x2 M (fun r20 M19 => if r20 = 0 then (K 0 M19) else (if x1 = 2 then (f_X5_readLevel_b35 R_X5_readLevel R_X5_readPart K x1 x2 1 M19) else (f_X5_readLevel_b35 R_X5_readLevel R_X5_readPart K x1 x2 50 M19)))) else (R_X5_readPart x2 M (fun r24 M23 => za_B r24 ∧ (K r24 M23)))
section
variable {p : Program} {l : Launch} {e : Env} {s : State} {m : MethodId} {args : Array Value} {below : List Frame} {meth : Method} {c : Code} {g : za_L → Nat} {D : va_G} {cy : Nat → ClassId} {K : Int32 → za_M → Prop} {d : Nat} {R_X5_readLevel : Int32 → Int32 → za_M → (Int32 → za_M → Prop) → Prop} {R_X5_readPart : Int32 → za_M → (Int32 → za_M → Prop) → Prop} 
set_option maxRecDepth 100000 in
set_option maxHeartbeats 4000000 in
theorem p_X5_readLevel_b39 (hJ : za_J g) (C : za_C p s m args c cX5_readLevel 6 RX5 g D cy) (hr : meth.sig.returnType = (some .boolean)) (hk : meth.locks = false) (hR_X5_readLevel : ∀ {x1 : Int32} {x2 : Int32} {M : za_M} {K : Int32 → za_M → Prop}, R_X5_readLevel x1 x2 M K → za_Mi l g D cy yX5_readLevel cX5_readLevel 6 (some .boolean) (4 + d) (128 + 60 * d) [.ref (g (7, 0, 0)), .int x1, .int x2] M K) (hR_X5_readPart : ∀ {x1 : Int32} {M : za_M} {K : Int32 → za_M → Prop}, R_X5_readPart x1 M K → za_Mi l g D cy yX5_readPart cX5_readPart 4 (some .boolean) (4 + d) (128 + 60 * d) [.ref (g (7, 0, 0)), .int x1] M K) {x1 : Int32} {x2 : Int32} {x3 : Int32} {L39 : Int32 → za_M → Prop} (hL39 : ∀ (x4 : Int32) (M : za_M), L39 x4 M → zt p l e (za_rm (4 + (d + 1)) (128 + 60 * (d + 1))) s m args below meth c 0 0 (MQ below (za_Qi g D cy K) args s 0 0 (za_A g)) g D cy 6 M 39 [(0, .ref (g (7, 0, 0))), (1, .int x1), (2, .int x2), (3, .int x3), (4, .int x4)] []) : ∀ (x4 : Int32) (M : za_M), f_X5_readLevel_b39 R_X5_readLevel R_X5_readPart K x1 x2 x3 L39 x4 M → zt p l e (za_rm (4 + (d + 1)) (128 + 60 * (d + 1))) s m args below meth c 0 0 (MQ below (za_Qi g D cy K) args s 0 0 (za_A g)) g D cy 6 M 39 [(0, .ref (g (7, 0, 0))), (1, .int x1), (2, .int x2), (3, .int x3), (4, .int x4)] [] := by
  intro x4 M h
  unfold f_X5_readLevel_b39 at h
  refine zt_iload C 4 dX5_readLevel_39 rfl ?_
  refine zt_iload_n C 3 dX5_readLevel_41 rfl rfl ?_
  refine zt_icmp_ge C 98 dX5_readLevel_42 (by decide) (fun q1 => ?_) (fun q1 => ?_)
  · replace h := za_ifp h q1
    refine zt_iconst C (v := 1) dX5_readLevel_98 zk_i1 ?_
    exact zt_ret C hr hk rfl dX5_readLevel_99 h
  · replace h := za_ifn h q1
    refine zt_aload_n C 0 dX5_readLevel_45 rfl rfl ?_
    refine zt_cVi C [] (m_X5_next hJ  h) (za_mem (j := 7) rfl (by decide) (by decide)) (za_E_7 g cy M 0 0) rfl py_X5_next pv_X5_49 (Nat.le_of_ble_eq_true rfl) ⟨by dsimp only [za_rm]; omega, by dsimp only [za_rm]; omega⟩ ⟨Nat.zero_le _, Nat.zero_le _⟩ dX5_readLevel_46 rfl (fun r3 M2 h => ?_)
    refine zt_cSi C [.int r3] (m_X5_levelOf hJ  h) py_X5_levelOf ps_X5_53 (Nat.le_of_ble_eq_true rfl) ⟨by dsimp only [za_rm]; omega, by dsimp only [za_rm]; omega⟩ ⟨Nat.zero_le _, Nat.zero_le _⟩ dX5_readLevel_49 rfl (fun r5 M4 h => ?_)
    refine zt_iload_n C 1 dX5_readLevel_52 rfl rfl ?_
    refine zt_icmp_ne C 98 dX5_readLevel_53 (by decide) (fun q6 => ?_) (fun q6 => ?_)
    · replace h := za_ifn h q6
      refine zt_iconst C (v := 1) dX5_readLevel_98 zk_i1 ?_
      exact zt_ret C hr hk rfl dX5_readLevel_99 h
    · replace h := za_ifp h q6
      refine zt_aload_n C 0 dX5_readLevel_56 rfl rfl ?_
      refine zt_cVi C [] (m_X5_next hJ  h) (za_mem (j := 7) rfl (by decide) (by decide)) (za_E_7 g cy M4 0 0) rfl py_X5_next pv_X5_49 (Nat.le_of_ble_eq_true rfl) ⟨by dsimp only [za_rm]; omega, by dsimp only [za_rm]; omega⟩ ⟨Nat.zero_le _, Nat.zero_le _⟩ dX5_readLevel_57 rfl (fun r8 M7 h => ?_)
      refine zt_istore C [(5, .int r8), (0, .ref (g (7, 0, 0))), (1, .int x1), (2, .int x2), (3, .int x3), (4, .int x4)] dX5_readLevel_60 (by decide) rfl ?_
      refine zt_aload_n C 1 dX5_readLevel_62 rfl rfl ?_
      refine zt_dup C dX5_readLevel_63 rfl ?_
      refine zt_get C (za_mem (j := 7) rfl (by decide) (by decide)) pf_X5_35 (za_E_7 g cy M7 0 0) rfl dX5_readLevel_64 ?_
      refine zt_iconst C (v := 1) dX5_readLevel_67 zk_i1 ?_
      refine zt_iadd C dX5_readLevel_68 ?_
      refine zt_topi (fun y9 e10 => ?_)
      replace h := za_use h e10
      refine zt_put C (za_mem (j := 7) rfl (by decide) (by decide)) pf_X5_35 pt_X5_5 rfl rfl (za_E_7 g cy M7 0 0) rfl (Nat.le_of_ble_eq_true rfl) dX5_readLevel_69 ?_
      refine zt_topM (fun M11 e12 => ?_)
      replace h := za_use h e12
      refine zt_aload_n C 1 dX5_readLevel_72 rfl rfl ?_
      refine zt_iload_n C 2 dX5_readLevel_73 rfl rfl ?_
      refine zt_iconst C (v := 1) dX5_readLevel_74 zk_i1 ?_
      refine zt_iadd C dX5_readLevel_75 ?_
      refine zt_iload_n C 3 dX5_readLevel_76 rfl rfl ?_
      refine zt_cVi C [.int (x1 + 1), .int x2] (hR_X5_readLevel  h) (za_mem (j := 7) rfl (by decide) (by decide)) (za_E_7 g cy M11 0 0) rfl py_X5_readLevel pv_X5_41 (Nat.le_of_ble_eq_true rfl) ⟨by dsimp only [za_rm]; omega, by dsimp only [za_rm]; omega⟩ ⟨Nat.zero_le _, Nat.zero_le _⟩ dX5_readLevel_77 rfl (fun r14 M13 h => ?_)
      refine zt_if_ne C 85 dX5_readLevel_80 (by decide) (fun q15 => ?_) (fun q15 => ?_)
      · replace h := za_ifn h q15
        refine zt_aload_n C 1 dX5_readLevel_85 rfl rfl ?_
        refine zt_iload C 0 dX5_readLevel_86 rfl ?_
        refine zt_ineg C dX5_readLevel_88 ?_
        refine zt_cVv C [.int (-r8)] (m_X5_add hJ  h) (za_mem (j := 7) rfl (by decide) (by decide)) (za_E_7 g cy M13 0 0) rfl py_X5_add pv_X5_57 (Nat.le_of_ble_eq_true rfl) ⟨by dsimp only [za_rm]; omega, by dsimp only [za_rm]; omega⟩ ⟨Nat.zero_le _, Nat.zero_le _⟩ dX5_readLevel_89 rfl (fun M16 h => ?_)
        refine zt_iinc C (v := x4 + 1) 5 [(4, .int (x4 + 1)), (5, .int r8), (0, .ref (g (7, 0, 0))), (1, .int x1), (2, .int x2), (3, .int x3)] dX5_readLevel_92 rfl (zk_n1 _) (by decide) rfl ?_
        refine zt_goto C 39 dX5_readLevel_95 (by decide) ?_
        refine zt_sub [2, 3, 4, 5, 0] (lv' := [(0, .ref (g (7, 0, 0))), (1, .int x1), (2, .int x2), (3, .int x3), (4, .int (x4 + 1))]) rfl ?_
        exact hL39 _ _ h
      · replace h := za_ifp h q15
        refine zt_iconst C (v := 0) dX5_readLevel_83 zk_i0 ?_
        exact zt_ret C hr hk rfl dX5_readLevel_84 h
theorem p_X5_readLevel_b39_in (hJ : za_J g) (C : za_C p s m args c cX5_readLevel 6 RX5 g D cy) (hr : meth.sig.returnType = (some .boolean)) (hk : meth.locks = false) (hR_X5_readLevel : ∀ {x1 : Int32} {x2 : Int32} {M : za_M} {K : Int32 → za_M → Prop}, R_X5_readLevel x1 x2 M K → za_Mi l g D cy yX5_readLevel cX5_readLevel 6 (some .boolean) (4 + d) (128 + 60 * d) [.ref (g (7, 0, 0)), .int x1, .int x2] M K) (hR_X5_readPart : ∀ {x1 : Int32} {M : za_M} {K : Int32 → za_M → Prop}, R_X5_readPart x1 M K → za_Mi l g D cy yX5_readPart cX5_readPart 4 (some .boolean) (4 + d) (128 + 60 * d) [.ref (g (7, 0, 0)), .int x1] M K) {x1 : Int32} {x2 : Int32} {x3 : Int32} {n : Nat} {x4 : Int32} {M : za_M} (h : za_lp1 (f_X5_readLevel_b39 R_X5_readLevel R_X5_readPart K x1 x2 x3) n x4 M) : zt p l e (za_rm (4 + (d + 1)) (128 + 60 * (d + 1))) s m args below meth c 0 0 (MQ below (za_Qi g D cy K) args s 0 0 (za_A g)) g D cy 6 M 39 [(0, .ref (g (7, 0, 0))), (1, .int x1), (2, .int x2), (3, .int x3), (4, .int x4)] [] := za_lp1_run (Z := fun x4 M => zt p l e (za_rm (4 + (d + 1)) (128 + 60 * (d + 1))) s m args below meth c 0 0 (MQ below (za_Qi g D cy K) args s 0 0 (za_A g)) g D cy 6 M 39 [(0, .ref (g (7, 0, 0))), (1, .int x1), (2, .int x2), (3, .int x3), (4, .int x4)] []) (fun L hL => p_X5_readLevel_b39 hJ C hr hk hR_X5_readLevel hR_X5_readPart  hL) n x4 M h
set_option maxRecDepth 100000 in
set_option maxHeartbeats 4000000 in
theorem p_X5_readLevel_b35 (hJ : za_J g) (C : za_C p s m args c cX5_readLevel 6 RX5 g D cy) (hr : meth.sig.returnType = (some .boolean)) (hk : meth.locks = false) (hR_X5_readLevel : ∀ {x1 : Int32} {x2 : Int32} {M : za_M} {K : Int32 → za_M → Prop}, R_X5_readLevel x1 x2 M K → za_Mi l g D cy yX5_readLevel cX5_readLevel 6 (some .boolean) (4 + d) (128 + 60 * d) [.ref (g (7, 0, 0)), .int x1, .int x2] M K) (hR_X5_readPart : ∀ {x1 : Int32} {M : za_M} {K : Int32 → za_M → Prop}, R_X5_readPart x1 M K → za_Mi l g D cy yX5_readPart cX5_readPart 4 (some .boolean) (4 + d) (128 + 60 * d) [.ref (g (7, 0, 0)), .int x1] M K) {x1 : Int32} {x2 : Int32} {s0 : Int32} {M : za_M} (h : f_X5_readLevel_b35 R_X5_readLevel R_X5_readPart K x1 x2 s0 M) : zt p l e (za_rm (4 + (d + 1)) (128 + 60 * (d + 1))) s m args below meth c 0 0 (MQ below (za_Qi g D cy K) args s 0 0 (za_A g)) g D cy 6 M 35 [(0, .ref (g (7, 0, 0))), (1, .int x1), (2, .int x2)] [.int s0] := by
  unfold f_X5_readLevel_b35 at h
  refine zt_istore_n C [(3, .int s0), (0, .ref (g (7, 0, 0))), (1, .int x1), (2, .int x2)] dX5_readLevel_35 rfl (by decide) rfl ?_
  refine zt_iconst C (v := 0) dX5_readLevel_36 zk_i0 ?_
  refine zt_istore C [(4, .int 0), (3, .int s0), (0, .ref (g (7, 0, 0))), (1, .int x1), (2, .int x2)] dX5_readLevel_37 (by decide) rfl ?_
  refine zt_sub [2, 3, 4, 1, 0] (lv' := [(0, .ref (g (7, 0, 0))), (1, .int x1), (2, .int x2), (3, .int s0), (4, .int 0)]) rfl ?_
  obtain ⟨n, h⟩ := h
  exact p_X5_readLevel_b39_in hJ C hr hk hR_X5_readLevel hR_X5_readPart  h
set_option maxRecDepth 100000 in
set_option maxHeartbeats 4000000 in
theorem p_X5_readLevel (hJ : za_J g) (C : za_C p s m args c cX5_readLevel 6 RX5 g D cy) (hr : meth.sig.returnType = (some .boolean)) (hk : meth.locks = false) (hR_X5_readLevel : ∀ {x1 : Int32} {x2 : Int32} {M : za_M} {K : Int32 → za_M → Prop}, R_X5_readLevel x1 x2 M K → za_Mi l g D cy yX5_readLevel cX5_readLevel 6 (some .boolean) (4 + d) (128 + 60 * d) [.ref (g (7, 0, 0)), .int x1, .int x2] M K) (hR_X5_readPart : ∀ {x1 : Int32} {M : za_M} {K : Int32 → za_M → Prop}, R_X5_readPart x1 M K → za_Mi l g D cy yX5_readPart cX5_readPart 4 (some .boolean) (4 + d) (128 + 60 * d) [.ref (g (7, 0, 0)), .int x1] M K) {x1 : Int32} {x2 : Int32} {M : za_M} (h : fb_X5_readLevel R_X5_readLevel R_X5_readPart x1 x2 M K) : zt p l e (za_rm (4 + (d + 1)) (128 + 60 * (d + 1))) s m args below meth c 0 0 (MQ below (za_Qi g D cy K) args s 0 0 (za_A g)) g D cy 6 M 0 [(0, .ref (g (7, 0, 0))), (1, .int x1), (2, .int x2)] [] := by
  unfold fb_X5_readLevel at h
  refine zt_iload_n C 1 dX5_readLevel_0 rfl rfl ?_
  refine zt_iconst C (v := 5) dX5_readLevel_1 zk_i5 ?_
  refine zt_icmp_lt C 11 dX5_readLevel_2 (by decide) (fun q18 => ?_) (fun q18 => ?_)
  · replace h := za_ifp h q18
    refine zt_aload_n C 0 dX5_readLevel_11 rfl rfl ?_
    refine zt_iload_n C 1 dX5_readLevel_12 rfl rfl ?_
    refine zt_iconst C (v := 1) dX5_readLevel_13 zk_i1 ?_
    refine zt_iadd C dX5_readLevel_14 ?_
    refine zt_iload_n C 2 dX5_readLevel_15 rfl rfl ?_
    refine zt_cVi C [.int (x1 + 1), .int x2] (hR_X5_readLevel  h) (za_mem (j := 7) rfl (by decide) (by decide)) (za_E_7 g cy M 0 0) rfl py_X5_readLevel pv_X5_41 (Nat.le_of_ble_eq_true rfl) ⟨by dsimp only [za_rm]; omega, by dsimp only [za_rm]; omega⟩ ⟨Nat.zero_le _, Nat.zero_le _⟩ dX5_readLevel_16 rfl (fun r20 M19 h => ?_)
    refine zt_if_ne C 24 dX5_readLevel_19 (by decide) (fun q21 => ?_) (fun q21 => ?_)
    · replace h := za_ifn h q21
      refine zt_iload_n C 1 dX5_readLevel_24 rfl rfl ?_
      refine zt_iconst C (v := 2) dX5_readLevel_25 zk_i2 ?_
      refine zt_icmp_ne C 33 dX5_readLevel_26 (by decide) (fun q22 => ?_) (fun q22 => ?_)
      · replace h := za_ifn h q22
        refine zt_bipush C (v := 50) dX5_readLevel_33 zk_b50 ?_
        exact p_X5_readLevel_b35 hJ C hr hk hR_X5_readLevel hR_X5_readPart  h
      · replace h := za_ifp h q22
        refine zt_iconst C (v := 1) dX5_readLevel_29 zk_i1 ?_
        refine zt_goto C 35 dX5_readLevel_30 (by decide) ?_
        exact p_X5_readLevel_b35 hJ C hr hk hR_X5_readLevel hR_X5_readPart  h
    · replace h := za_ifp h q21
      refine zt_iconst C (v := 0) dX5_readLevel_22 zk_i0 ?_
      exact zt_ret C hr hk rfl dX5_readLevel_23 h
  · replace h := za_ifn h q18
    refine zt_aload_n C 0 dX5_readLevel_5 rfl rfl ?_
    refine zt_iload_n C 2 dX5_readLevel_6 rfl rfl ?_
    refine zt_cVi C [.int x2] (hR_X5_readPart  h) (za_mem (j := 7) rfl (by decide) (by decide)) (za_E_7 g cy M 0 0) rfl py_X5_readPart pv_X5_45 (Nat.le_of_ble_eq_true rfl) ⟨by dsimp only [za_rm]; omega, by dsimp only [za_rm]; omega⟩ ⟨Nat.zero_le _, Nat.zero_le _⟩ dX5_readLevel_7 rfl (fun r24 M23 h => ?_)
    obtain ⟨g25, h⟩ := h
    exact zt_ret C hr hk (za_Bn g25) dX5_readLevel_10 h
end
theorem mb_X5_readLevel {l : Launch} {g : za_L → Nat} {D : va_G} {cy : Nat → ClassId} {d : Nat} {R_X5_readLevel : Int32 → Int32 → za_M → (Int32 → za_M → Prop) → Prop} {R_X5_readPart : Int32 → za_M → (Int32 → za_M → Prop) → Prop} (hJ : za_J g) (hR_X5_readLevel : ∀ {x1 : Int32} {x2 : Int32} {M : za_M} {K : Int32 → za_M → Prop}, R_X5_readLevel x1 x2 M K → za_Mi l g D cy yX5_readLevel cX5_readLevel 6 (some .boolean) (4 + d) (128 + 60 * d) [.ref (g (7, 0, 0)), .int x1, .int x2] M K) (hR_X5_readPart : ∀ {x1 : Int32} {M : za_M} {K : Int32 → za_M → Prop}, R_X5_readPart x1 M K → za_Mi l g D cy yX5_readPart cX5_readPart 4 (some .boolean) (4 + d) (128 + 60 * d) [.ref (g (7, 0, 0)), .int x1] M K) {x1 : Int32} {x2 : Int32} {M : za_M} {K : Int32 → za_M → Prop} (h : fb_X5_readLevel R_X5_readLevel R_X5_readPart x1 x2 M K) : za_Mi l g D cy yX5_readLevel cX5_readLevel 6 (some .boolean) (4 + (d + 1)) (128 + 60 * (d + 1)) [.ref (g (7, 0, 0)), .int x1, .int x2] M K := za_openi hJ (by decide) (Nat.le_of_ble_eq_true rfl) (fun p e s m args below meth c C hr hk => p_X5_readLevel hJ C hr hk hR_X5_readLevel hR_X5_readPart  h)
def f_X5_readPart_b54 (R_X5_readLevel : Int32 → Int32 → za_M → (Int32 → za_M → Prop) → Prop) (R_X5_readPart : Int32 → za_M → (Int32 → za_M → Prop) → Prop) (K : Int32 → za_M → Prop) (x1 : Int32) (x2 : Int32) (M : za_M) : Prop :=
  if x2 = 40 then (if 5 ≤ x1 then (f_X5_readName x2 M (fun r7 M6 => za_B r7 ∧ (K r7 M6))) else (za_let ((M.1 (7, 0, 0) 5) + 1) fun y9 => za_let (za_up M (7, 0, 0) 5 y9) fun M11 => R_X5_readLevel 0 (x1 + 1) M11 (fun r14 M13 => if r14 = 0 then (K 0 M13) else (f_X5_next M13 (fun r17 M16 => if r17 = 41 then (za_let ((M16.1 (7, 0, 0) 5) + 1) fun y19 => za_let (za_up M16 (7, 0, 0) 5 y19) fun M21 => K 1 M21) else (K 0 M16)))))) else (f_X5_readName x2 M (fun r3 M2 => za_B r3 ∧ (K r3 M2)))
def fb_X5_readPart (R_X5_readLevel : Int32 → Int32 → za_M → (Int32 → za_M → Prop) → Prop) (R_X5_readPart : Int32 → za_M → (Int32 → za_M → Prop) → Prop) (x1 : Int32) (M : za_M) (K : Int32 → za_M → Prop) : Prop :=
  f_X5_next M (fun r24 M23 => f_X5_isDigit r24 M23 (fun r26 M25 => if r26 = 0 then (if r24 = 33 then (if 5 ≤ x1 then (f_X5_readPart_b54 R_X5_readLevel R_X5_readPart K x1 r24 M25) else (za_let ((M25.1 (7, 0, 0) 5) + 1) fun y30 => za_let (za_up M25 (7, 0, 0) 5 y30) fun M32 => R_X5_readPart (x1 + 1) M32 (fun r35 M34 => f_X5_add (-33) M34 (fun M36 => za_B r35 ∧ (K r35 M36))))) else (f_X5_readPart_b54 R_X5_readLevel R_X5_readPart K x1 r24 M25)) else (f_X5_readNumber M25 (fun r40 M39 => za_B r40 ∧ (K r40 M39)))))
section
variable {p : Program} {l : Launch} {e : Env} {s : State} {m : MethodId} {args : Array Value} {below : List Frame} {meth : Method} {c : Code} {g : za_L → Nat} {D : va_G} {cy : Nat → ClassId} {K : Int32 → za_M → Prop} {d : Nat} {R_X5_readLevel : Int32 → Int32 → za_M → (Int32 → za_M → Prop) → Prop} {R_X5_readPart : Int32 → za_M → (Int32 → za_M → Prop) → Prop} 
set_option maxRecDepth 100000 in
set_option maxHeartbeats 4000000 in
theorem p_X5_readPart_b54 (hJ : za_J g) (C : za_C p s m args c cX5_readPart 4 RX5 g D cy) (hr : meth.sig.returnType = (some .boolean)) (hk : meth.locks = false) (hR_X5_readLevel : ∀ {x1 : Int32} {x2 : Int32} {M : za_M} {K : Int32 → za_M → Prop}, R_X5_readLevel x1 x2 M K → za_Mi l g D cy yX5_readLevel cX5_readLevel 6 (some .boolean) (4 + d) (128 + 60 * d) [.ref (g (7, 0, 0)), .int x1, .int x2] M K) (hR_X5_readPart : ∀ {x1 : Int32} {M : za_M} {K : Int32 → za_M → Prop}, R_X5_readPart x1 M K → za_Mi l g D cy yX5_readPart cX5_readPart 4 (some .boolean) (4 + d) (128 + 60 * d) [.ref (g (7, 0, 0)), .int x1] M K) {x1 : Int32} {x2 : Int32} {M : za_M} (h : f_X5_readPart_b54 R_X5_readLevel R_X5_readPart K x1 x2 M) : zt p l e (za_rm (4 + (d + 1)) (128 + 60 * (d + 1))) s m args below meth c 0 0 (MQ below (za_Qi g D cy K) args s 0 0 (za_A g)) g D cy 4 M 54 [(0, .ref (g (7, 0, 0))), (1, .int x1), (2, .int x2)] [] := by
  unfold f_X5_readPart_b54 at h
  refine zt_iload_n C 2 dX5_readPart_54 rfl rfl ?_
  refine zt_bipush C (v := 40) dX5_readPart_55 zk_b40 ?_
  refine zt_icmp_ne C 109 dX5_readPart_57 (by decide) (fun q1 => ?_) (fun q1 => ?_)
  · replace h := za_ifn h q1
    refine zt_aload_n C 0 dX5_readPart_109 rfl rfl ?_
    refine zt_iload_n C 2 dX5_readPart_110 rfl rfl ?_
    refine zt_cVi C [.int x2] (m_X5_readName hJ  h) (za_mem (j := 7) rfl (by decide) (by decide)) (za_E_7 g cy M 0 0) rfl py_X5_readName pv_X5_68 (Nat.le_of_ble_eq_true rfl) ⟨by dsimp only [za_rm]; omega, by dsimp only [za_rm]; omega⟩ ⟨Nat.zero_le _, Nat.zero_le _⟩ dX5_readPart_111 rfl (fun r3 M2 h => ?_)
    obtain ⟨g4, h⟩ := h
    exact zt_ret C hr hk (za_Bn g4) dX5_readPart_114 h
  · replace h := za_ifp h q1
    refine zt_iload_n C 1 dX5_readPart_60 rfl rfl ?_
    refine zt_iconst C (v := 5) dX5_readPart_61 zk_i5 ?_
    refine zt_icmp_ge C 109 dX5_readPart_62 (by decide) (fun q5 => ?_) (fun q5 => ?_)
    · replace h := za_ifp h q5
      refine zt_aload_n C 0 dX5_readPart_109 rfl rfl ?_
      refine zt_iload_n C 2 dX5_readPart_110 rfl rfl ?_
      refine zt_cVi C [.int x2] (m_X5_readName hJ  h) (za_mem (j := 7) rfl (by decide) (by decide)) (za_E_7 g cy M 0 0) rfl py_X5_readName pv_X5_68 (Nat.le_of_ble_eq_true rfl) ⟨by dsimp only [za_rm]; omega, by dsimp only [za_rm]; omega⟩ ⟨Nat.zero_le _, Nat.zero_le _⟩ dX5_readPart_111 rfl (fun r7 M6 h => ?_)
      obtain ⟨g8, h⟩ := h
      exact zt_ret C hr hk (za_Bn g8) dX5_readPart_114 h
    · replace h := za_ifn h q5
      refine zt_aload_n C 0 dX5_readPart_65 rfl rfl ?_
      refine zt_dup C dX5_readPart_66 rfl ?_
      refine zt_get C (za_mem (j := 7) rfl (by decide) (by decide)) pf_X5_35 (za_E_7 g cy M 0 0) rfl dX5_readPart_67 ?_
      refine zt_iconst C (v := 1) dX5_readPart_70 zk_i1 ?_
      refine zt_iadd C dX5_readPart_71 ?_
      refine zt_topi (fun y9 e10 => ?_)
      replace h := za_use h e10
      refine zt_put C (za_mem (j := 7) rfl (by decide) (by decide)) pf_X5_35 pt_X5_5 rfl rfl (za_E_7 g cy M 0 0) rfl (Nat.le_of_ble_eq_true rfl) dX5_readPart_72 ?_
      refine zt_topM (fun M11 e12 => ?_)
      replace h := za_use h e12
      refine zt_aload_n C 0 dX5_readPart_75 rfl rfl ?_
      refine zt_iconst C (v := 0) dX5_readPart_76 zk_i0 ?_
      refine zt_iload_n C 1 dX5_readPart_77 rfl rfl ?_
      refine zt_iconst C (v := 1) dX5_readPart_78 zk_i1 ?_
      refine zt_iadd C dX5_readPart_79 ?_
      refine zt_cVi C [.int 0, .int (x1 + 1)] (hR_X5_readLevel  h) (za_mem (j := 7) rfl (by decide) (by decide)) (za_E_7 g cy M11 0 0) rfl py_X5_readLevel pv_X5_41 (Nat.le_of_ble_eq_true rfl) ⟨by dsimp only [za_rm]; omega, by dsimp only [za_rm]; omega⟩ ⟨Nat.zero_le _, Nat.zero_le _⟩ dX5_readPart_80 rfl (fun r14 M13 h => ?_)
      refine zt_if_eq C 95 dX5_readPart_83 (by decide) (fun q15 => ?_) (fun q15 => ?_)
      · replace h := za_ifp h q15
        refine zt_iconst C (v := 0) dX5_readPart_95 zk_i0 ?_
        exact zt_ret C hr hk rfl dX5_readPart_96 h
      · replace h := za_ifn h q15
        refine zt_aload_n C 0 dX5_readPart_86 rfl rfl ?_
        refine zt_cVi C [] (m_X5_next hJ  h) (za_mem (j := 7) rfl (by decide) (by decide)) (za_E_7 g cy M13 0 0) rfl py_X5_next pv_X5_49 (Nat.le_of_ble_eq_true rfl) ⟨by dsimp only [za_rm]; omega, by dsimp only [za_rm]; omega⟩ ⟨Nat.zero_le _, Nat.zero_le _⟩ dX5_readPart_87 rfl (fun r17 M16 h => ?_)
        refine zt_bipush C (v := 41) dX5_readPart_90 zk_b41 ?_
        refine zt_icmp_eq C 97 dX5_readPart_92 (by decide) (fun q18 => ?_) (fun q18 => ?_)
        · replace h := za_ifp h q18
          refine zt_aload_n C 0 dX5_readPart_97 rfl rfl ?_
          refine zt_dup C dX5_readPart_98 rfl ?_
          refine zt_get C (za_mem (j := 7) rfl (by decide) (by decide)) pf_X5_35 (za_E_7 g cy M16 0 0) rfl dX5_readPart_99 ?_
          refine zt_iconst C (v := 1) dX5_readPart_102 zk_i1 ?_
          refine zt_iadd C dX5_readPart_103 ?_
          refine zt_topi (fun y19 e20 => ?_)
          replace h := za_use h e20
          refine zt_put C (za_mem (j := 7) rfl (by decide) (by decide)) pf_X5_35 pt_X5_5 rfl rfl (za_E_7 g cy M16 0 0) rfl (Nat.le_of_ble_eq_true rfl) dX5_readPart_104 ?_
          refine zt_topM (fun M21 e22 => ?_)
          replace h := za_use h e22
          refine zt_iconst C (v := 1) dX5_readPart_107 zk_i1 ?_
          exact zt_ret C hr hk rfl dX5_readPart_108 h
        · replace h := za_ifn h q18
          refine zt_iconst C (v := 0) dX5_readPart_95 zk_i0 ?_
          exact zt_ret C hr hk rfl dX5_readPart_96 h
set_option maxRecDepth 100000 in
set_option maxHeartbeats 4000000 in
theorem p_X5_readPart (hJ : za_J g) (C : za_C p s m args c cX5_readPart 4 RX5 g D cy) (hr : meth.sig.returnType = (some .boolean)) (hk : meth.locks = false) (hR_X5_readLevel : ∀ {x1 : Int32} {x2 : Int32} {M : za_M} {K : Int32 → za_M → Prop}, R_X5_readLevel x1 x2 M K → za_Mi l g D cy yX5_readLevel cX5_readLevel 6 (some .boolean) (4 + d) (128 + 60 * d) [.ref (g (7, 0, 0)), .int x1, .int x2] M K) (hR_X5_readPart : ∀ {x1 : Int32} {M : za_M} {K : Int32 → za_M → Prop}, R_X5_readPart x1 M K → za_Mi l g D cy yX5_readPart cX5_readPart 4 (some .boolean) (4 + d) (128 + 60 * d) [.ref (g (7, 0, 0)), .int x1] M K) {x1 : Int32} {M : za_M} (h : fb_X5_readPart R_X5_readLevel R_X5_readPart x1 M K) : zt p l e (za_rm (4 + (d + 1)) (128 + 60 * (d + 1))) s m args below meth c 0 0 (MQ below (za_Qi g D cy K) args s 0 0 (za_A g)) g D cy 4 M 0 [(0, .ref (g (7, 0, 0))), (1, .int x1)] [] := by
  unfold fb_X5_readPart at h
  refine zt_aload_n C 0 dX5_readPart_0 rfl rfl ?_
  refine zt_cVi C [] (m_X5_next hJ  h) (za_mem (j := 7) rfl (by decide) (by decide)) (za_E_7 g cy M 0 0) rfl py_X5_next pv_X5_49 (Nat.le_of_ble_eq_true rfl) ⟨by dsimp only [za_rm]; omega, by dsimp only [za_rm]; omega⟩ ⟨Nat.zero_le _, Nat.zero_le _⟩ dX5_readPart_1 rfl (fun r24 M23 h => ?_)
  refine zt_istore_n C [(2, .int r24), (0, .ref (g (7, 0, 0))), (1, .int x1)] dX5_readPart_4 rfl (by decide) rfl ?_
  refine zt_iload_n C 0 dX5_readPart_5 rfl rfl ?_
  refine zt_cSi C [.int r24] (m_X5_isDigit hJ  h) py_X5_isDigit ps_X5_61 (Nat.le_of_ble_eq_true rfl) ⟨by dsimp only [za_rm]; omega, by dsimp only [za_rm]; omega⟩ ⟨Nat.zero_le _, Nat.zero_le _⟩ dX5_readPart_6 rfl (fun r26 M25 h => ?_)
  refine zt_if_eq C 17 dX5_readPart_9 (by decide) (fun q27 => ?_) (fun q27 => ?_)
  · replace h := za_ifp h q27
    refine zt_iload_n C 0 dX5_readPart_17 rfl rfl ?_
    refine zt_bipush C (v := 33) dX5_readPart_18 zk_b33 ?_
    refine zt_icmp_ne C 54 dX5_readPart_20 (by decide) (fun q28 => ?_) (fun q28 => ?_)
    · replace h := za_ifn h q28
      refine zt_sub [1, 2, 0] (lv' := [(0, .ref (g (7, 0, 0))), (1, .int x1), (2, .int r24)]) rfl ?_
      exact p_X5_readPart_b54 hJ C hr hk hR_X5_readLevel hR_X5_readPart  h
    · replace h := za_ifp h q28
      refine zt_iload_n C 2 dX5_readPart_23 rfl rfl ?_
      refine zt_iconst C (v := 5) dX5_readPart_24 zk_i5 ?_
      refine zt_icmp_ge C 54 dX5_readPart_25 (by decide) (fun q29 => ?_) (fun q29 => ?_)
      · replace h := za_ifp h q29
        refine zt_sub [1, 2, 0] (lv' := [(0, .ref (g (7, 0, 0))), (1, .int x1), (2, .int r24)]) rfl ?_
        exact p_X5_readPart_b54 hJ C hr hk hR_X5_readLevel hR_X5_readPart  h
      · replace h := za_ifn h q29
        refine zt_aload_n C 1 dX5_readPart_28 rfl rfl ?_
        refine zt_dup C dX5_readPart_29 rfl ?_
        refine zt_get C (za_mem (j := 7) rfl (by decide) (by decide)) pf_X5_35 (za_E_7 g cy M25 0 0) rfl dX5_readPart_30 ?_
        refine zt_iconst C (v := 1) dX5_readPart_33 zk_i1 ?_
        refine zt_iadd C dX5_readPart_34 ?_
        refine zt_topi (fun y30 e31 => ?_)
        replace h := za_use h e31
        refine zt_put C (za_mem (j := 7) rfl (by decide) (by decide)) pf_X5_35 pt_X5_5 rfl rfl (za_E_7 g cy M25 0 0) rfl (Nat.le_of_ble_eq_true rfl) dX5_readPart_35 ?_
        refine zt_topM (fun M32 e33 => ?_)
        replace h := za_use h e33
        refine zt_aload_n C 1 dX5_readPart_38 rfl rfl ?_
        refine zt_iload_n C 2 dX5_readPart_39 rfl rfl ?_
        refine zt_iconst C (v := 1) dX5_readPart_40 zk_i1 ?_
        refine zt_iadd C dX5_readPart_41 ?_
        refine zt_cVi C [.int (x1 + 1)] (hR_X5_readPart  h) (za_mem (j := 7) rfl (by decide) (by decide)) (za_E_7 g cy M32 0 0) rfl py_X5_readPart pv_X5_45 (Nat.le_of_ble_eq_true rfl) ⟨by dsimp only [za_rm]; omega, by dsimp only [za_rm]; omega⟩ ⟨Nat.zero_le _, Nat.zero_le _⟩ dX5_readPart_42 rfl (fun r35 M34 h => ?_)
        refine zt_istore_n C [(3, .int r35), (2, .int r24), (0, .ref (g (7, 0, 0))), (1, .int x1)] dX5_readPart_45 rfl (by decide) rfl ?_
        refine zt_aload_n C 2 dX5_readPart_46 rfl rfl ?_
        refine zt_bipush C (v := (-33)) dX5_readPart_47 zk_bm33 ?_
        refine zt_cVv C [.int (-33)] (m_X5_add hJ  h) (za_mem (j := 7) rfl (by decide) (by decide)) (za_E_7 g cy M34 0 0) rfl py_X5_add pv_X5_57 (Nat.le_of_ble_eq_true rfl) ⟨by dsimp only [za_rm]; omega, by dsimp only [za_rm]; omega⟩ ⟨Nat.zero_le _, Nat.zero_le _⟩ dX5_readPart_49 rfl (fun M36 h => ?_)
        refine zt_iload_n C 0 dX5_readPart_52 rfl rfl ?_
        obtain ⟨g38, h⟩ := h
        exact zt_ret C hr hk (za_Bn g38) dX5_readPart_53 h
  · replace h := za_ifn h q27
    refine zt_aload_n C 1 dX5_readPart_12 rfl rfl ?_
    refine zt_cVi C [] (m_X5_readNumber hJ  h) (za_mem (j := 7) rfl (by decide) (by decide)) (za_E_7 g cy M25 0 0) rfl py_X5_readNumber pv_X5_64 (Nat.le_of_ble_eq_true rfl) ⟨by dsimp only [za_rm]; omega, by dsimp only [za_rm]; omega⟩ ⟨Nat.zero_le _, Nat.zero_le _⟩ dX5_readPart_13 rfl (fun r40 M39 h => ?_)
    obtain ⟨g41, h⟩ := h
    exact zt_ret C hr hk (za_Bn g41) dX5_readPart_16 h
end
theorem mb_X5_readPart {l : Launch} {g : za_L → Nat} {D : va_G} {cy : Nat → ClassId} {d : Nat} {R_X5_readLevel : Int32 → Int32 → za_M → (Int32 → za_M → Prop) → Prop} {R_X5_readPart : Int32 → za_M → (Int32 → za_M → Prop) → Prop} (hJ : za_J g) (hR_X5_readLevel : ∀ {x1 : Int32} {x2 : Int32} {M : za_M} {K : Int32 → za_M → Prop}, R_X5_readLevel x1 x2 M K → za_Mi l g D cy yX5_readLevel cX5_readLevel 6 (some .boolean) (4 + d) (128 + 60 * d) [.ref (g (7, 0, 0)), .int x1, .int x2] M K) (hR_X5_readPart : ∀ {x1 : Int32} {M : za_M} {K : Int32 → za_M → Prop}, R_X5_readPart x1 M K → za_Mi l g D cy yX5_readPart cX5_readPart 4 (some .boolean) (4 + d) (128 + 60 * d) [.ref (g (7, 0, 0)), .int x1] M K) {x1 : Int32} {M : za_M} {K : Int32 → za_M → Prop} (h : fb_X5_readPart R_X5_readLevel R_X5_readPart x1 M K) : za_Mi l g D cy yX5_readPart cX5_readPart 4 (some .boolean) (4 + (d + 1)) (128 + 60 * (d + 1)) [.ref (g (7, 0, 0)), .int x1] M K := za_openi hJ (by decide) (Nat.le_of_ble_eq_true rfl) (fun p e s m args below meth c C hr hk => p_X5_readPart hJ C hr hk hR_X5_readLevel hR_X5_readPart  h)
def fg_X5 : Nat → (Int32 → Int32 → za_M → (Int32 → za_M → Prop) → Prop) × (Int32 → za_M → (Int32 → za_M → Prop) → Prop)
  | 0 => (fun _ _ _ _ => False, fun _ _ _ => False)
  | d+1 => (fb_X5_readLevel ((fg_X5 d).1) ((fg_X5 d).2), fb_X5_readPart ((fg_X5 d).1) ((fg_X5 d).2))
def f_X5_readLevel (d : Nat) : Int32 → Int32 → za_M → (Int32 → za_M → Prop) → Prop := (fg_X5 d).1
def f_X5_readPart (d : Nat) : Int32 → za_M → (Int32 → za_M → Prop) → Prop := (fg_X5 d).2
set_option maxHeartbeats 4000000 in
theorem mg_X5 {l : Launch} {g : za_L → Nat} {D : va_G} {cy : Nat → ClassId} (hJ : za_J g) : ∀ d : Nat, (∀ {x1 : Int32} {x2 : Int32} {M : za_M} {K : Int32 → za_M → Prop}, ((fg_X5 d).1) x1 x2 M K → za_Mi l g D cy yX5_readLevel cX5_readLevel 6 (some .boolean) (4 + d) (128 + 60 * d) [.ref (g (7, 0, 0)), .int x1, .int x2] M K) ∧ (∀ {x1 : Int32} {M : za_M} {K : Int32 → za_M → Prop}, ((fg_X5 d).2) x1 M K → za_Mi l g D cy yX5_readPart cX5_readPart 4 (some .boolean) (4 + d) (128 + 60 * d) [.ref (g (7, 0, 0)), .int x1] M K) := by
  intro d
  induction d with
  | zero => exact ⟨fun h => h.elim, fun h => h.elim⟩
  | succ d ih => exact ⟨fun h => mb_X5_readLevel hJ (ih.1) (ih.2)  h, fun h => mb_X5_readPart hJ (ih.1) (ih.2)  h⟩
theorem m_X5_readLevel {l : Launch} {g : za_L → Nat} {D : va_G} {cy : Nat → ClassId} (hJ : za_J g) {x1 : Int32} {x2 : Int32} {M : za_M} {K : Int32 → za_M → Prop} (h : f_X5_readLevel 100 x1 x2 M K) : za_Mi l g D cy yX5_readLevel cX5_readLevel 6 (some .boolean) 104 6128 [.ref (g (7, 0, 0)), .int x1, .int x2] M K := (mg_X5 hJ 100).1  h
theorem m_X5_readPart {l : Launch} {g : za_L → Nat} {D : va_G} {cy : Nat → ClassId} (hJ : za_J g) {x1 : Int32} {M : za_M} {K : Int32 → za_M → Prop} (h : f_X5_readPart 100 x1 M K) : za_Mi l g D cy yX5_readPart cX5_readPart 4 (some .boolean) 104 6128 [.ref (g (7, 0, 0)), .int x1] M K := (mg_X5 hJ 100).2  h
/-! X5_reads -/
def f_X5_reads_b63 (K : Int32 → za_M → Prop) (M : za_M) : Prop :=
  K 0 M
def f_X5_reads (z1 : za_L) (x2 : Int32) (x3 : Int32) (M : za_M) (K : Int32 → za_M → Prop) : Prop :=
  f_X9_held x2 50 M (fun r2 M1 => za_let (za_up M1 (7, 0, 0) 2 r2) fun M3 => za_cok 0 0 (M3.1 (7, 0, 0) 2) 50 50 ∧ (za_let (za_uf M3 (19, 0, 0) (va_cpy (M3.1 z1) (M3.1 (19, 0, 0)) (Int32.toNatClampNeg 0) (Int32.toNatClampNeg 0) (Int32.toNatClampNeg (M3.1 (7, 0, 0) 2)))) fun M6 => za_let (za_up M6 (7, 0, 0) 4 x3) fun M8 => za_let (za_up M8 (7, 0, 0) 5 0) fun M10 => za_let (za_up M10 (7, 0, 0) 3 0) fun M12 => f_X5_readLevel 100 0 0 M12 (fun r15 M14 => if r15 = 0 then (f_X5_reads_b63 K M14) else (if (M14.1 (7, 0, 0) 5) = (M14.1 (7, 0, 0) 2) then (K 1 M14) else (f_X5_reads_b63 K M14)))))
section
variable {p : Program} {l : Launch} {e : Env} {s : State} {m : MethodId} {args : Array Value} {below : List Frame} {meth : Method} {c : Code} {g : za_L → Nat} {D : va_G} {cy : Nat → ClassId} {K : Int32 → za_M → Prop}
set_option maxRecDepth 100000 in
set_option maxHeartbeats 4000000 in
theorem p_X5_reads_b63 (hJ : za_J g) (C : za_C p s m args c cX5_reads 4 RX5 g D cy) (hr : meth.sig.returnType = (some .boolean)) (hk : meth.locks = false) {M : za_M} (h : f_X5_reads_b63 K M) : zt p l e (za_rm 105 6153) s m args below meth c 0 0 (MQ below (za_Qi g D cy K) args s 0 0 (za_A g)) g D cy 4 M 63 [] [] := by
  unfold f_X5_reads_b63 at h
  refine zt_iconst C (v := 0) dX5_reads_63 zk_i0 ?_
  exact zt_ret C hr hk rfl dX5_reads_64 h
set_option maxRecDepth 100000 in
set_option maxHeartbeats 4000000 in
theorem p_X5_reads (hJ : za_J g) (C : za_C p s m args c cX5_reads 4 RX5 g D cy) (hr : meth.sig.returnType = (some .boolean)) (hk : meth.locks = false) {z1 : za_L} (hz1 : za_I 50 z1) {x2 : Int32} {x3 : Int32} {M : za_M} (h : f_X5_reads z1 x2 x3 M K) : zt p l e (za_rm 105 6153) s m args below meth c 0 0 (MQ below (za_Qi g D cy K) args s 0 0 (za_A g)) g D cy 4 M 0 [(0, .ref (g (7, 0, 0))), (1, .ref (g z1)), (2, .int x2), (3, .int x3)] [] := by
  unfold f_X5_reads at h
  refine zt_aload_n C 0 dX5_reads_0 rfl rfl ?_
  refine zt_iload_n C 2 dX5_reads_1 rfl rfl ?_
  refine zt_bipush C (v := 50) dX5_reads_2 zk_b50 ?_
  refine zt_cNi C [.int x2, .int 50] (m_X9_held hJ  h) py_X9_held pn_X5_18 (Nat.le_of_ble_eq_true rfl) ⟨Nat.le_of_ble_eq_true rfl, Nat.le_of_ble_eq_true rfl⟩ ⟨Nat.zero_le _, Nat.zero_le _⟩ dX5_reads_4 rfl (fun r2 M1 h => ?_)
  refine zt_put C (za_mem (j := 7) rfl (by decide) (by decide)) pf_X5_22 pt_X5_2 rfl rfl (za_E_7 g cy M1 0 0) rfl (Nat.le_of_ble_eq_true rfl) dX5_reads_7 ?_
  refine zt_topM (fun M3 e4 => ?_)
  replace h := za_use h e4
  refine zt_aload_n C 1 dX5_reads_10 rfl rfl ?_
  refine zt_iconst C (v := 0) dX5_reads_11 zk_i0 ?_
  refine zt_aload_n C 0 dX5_reads_12 rfl rfl ?_
  refine zt_get C (za_mem (j := 7) rfl (by decide) (by decide)) pf_X5_9 (za_E_7 g cy M3 0 0) rfl dX5_reads_13 ?_
  refine zt_iconst C (v := 0) dX5_reads_16 zk_i0 ?_
  refine zt_aload_n C 0 dX5_reads_17 rfl rfl ?_
  refine zt_get C (za_mem (j := 7) rfl (by decide) (by decide)) pf_X5_22 (za_E_7 g cy M3 0 0) rfl dX5_reads_18 ?_
  obtain ⟨g5, h⟩ := h
  refine zt_copy C hz1.1 (za_mem (j := 19) rfl (by decide) (by decide)) (fun W9 => hz1.2 g cy W9) (fun W9 => za_E_19 g cy W9 0 0) g5 w_483 w_485 w_484 w_86 (Nat.le_of_ble_eq_true rfl) (Nat.le_of_ble_eq_true rfl) dX5_reads_21 ?_
  refine zt_topM (fun M6 e7 => ?_)
  replace h := za_use h e7
  refine zt_aload_n C 0 dX5_reads_24 rfl rfl ?_
  refine zt_iload_n C 3 dX5_reads_25 rfl rfl ?_
  refine zt_put C (za_mem (j := 7) rfl (by decide) (by decide)) pf_X5_32 pt_X5_4 rfl rfl (za_E_7 g cy M6 0 0) rfl (Nat.le_of_ble_eq_true rfl) dX5_reads_26 ?_
  refine zt_topM (fun M8 e9 => ?_)
  replace h := za_use h e9
  refine zt_aload_n C 0 dX5_reads_29 rfl rfl ?_
  refine zt_iconst C (v := 0) dX5_reads_30 zk_i0 ?_
  refine zt_put C (za_mem (j := 7) rfl (by decide) (by decide)) pf_X5_35 pt_X5_5 rfl rfl (za_E_7 g cy M8 0 0) rfl (Nat.le_of_ble_eq_true rfl) dX5_reads_31 ?_
  refine zt_topM (fun M10 e11 => ?_)
  replace h := za_use h e11
  refine zt_aload_n C 0 dX5_reads_34 rfl rfl ?_
  refine zt_iconst C (v := 0) dX5_reads_35 zk_i0 ?_
  refine zt_put C (za_mem (j := 7) rfl (by decide) (by decide)) pf_X5_38 pt_X5_3 rfl rfl (za_E_7 g cy M10 0 0) rfl (Nat.le_of_ble_eq_true rfl) dX5_reads_36 ?_
  refine zt_topM (fun M12 e13 => ?_)
  replace h := za_use h e13
  refine zt_aload_n C 0 dX5_reads_39 rfl rfl ?_
  refine zt_iconst C (v := 0) dX5_reads_40 zk_i0 ?_
  refine zt_iconst C (v := 0) dX5_reads_41 zk_i0 ?_
  refine zt_cVi C [.int 0, .int 0] (m_X5_readLevel hJ  h) (za_mem (j := 7) rfl (by decide) (by decide)) (za_E_7 g cy M12 0 0) rfl py_X5_readLevel pv_X5_41 (Nat.le_of_ble_eq_true rfl) ⟨Nat.le_of_ble_eq_true rfl, Nat.le_of_ble_eq_true rfl⟩ ⟨Nat.zero_le _, Nat.zero_le _⟩ dX5_reads_42 rfl (fun r15 M14 h => ?_)
  refine zt_if_eq C 63 dX5_reads_45 (by decide) (fun q16 => ?_) (fun q16 => ?_)
  · replace h := za_ifp h q16
    refine zt_sub [] (lv' := []) rfl ?_
    exact p_X5_reads_b63 hJ C hr hk  h
  · replace h := za_ifn h q16
    refine zt_aload_n C 0 dX5_reads_48 rfl rfl ?_
    refine zt_get C (za_mem (j := 7) rfl (by decide) (by decide)) pf_X5_35 (za_E_7 g cy M14 0 0) rfl dX5_reads_49 ?_
    refine zt_aload_n C 0 dX5_reads_52 rfl rfl ?_
    refine zt_get C (za_mem (j := 7) rfl (by decide) (by decide)) pf_X5_22 (za_E_7 g cy M14 0 0) rfl dX5_reads_53 ?_
    refine zt_icmp_ne C 63 dX5_reads_56 (by decide) (fun q17 => ?_) (fun q17 => ?_)
    · replace h := za_ifn h q17
      refine zt_sub [] (lv' := []) rfl ?_
      exact p_X5_reads_b63 hJ C hr hk  h
    · replace h := za_ifp h q17
      refine zt_iconst C (v := 1) dX5_reads_59 zk_i1 ?_
      refine zt_goto C 64 dX5_reads_60 (by decide) ?_
      exact zt_ret C hr hk rfl dX5_reads_64 h
end
theorem m_X5_reads {l : Launch} {g : za_L → Nat} {D : va_G} {cy : Nat → ClassId} (hJ : za_J g)  {z1 : za_L} (hz1 : za_I 50 z1) {x2 : Int32} {x3 : Int32} {M : za_M} {K : Int32 → za_M → Prop} (h : f_X5_reads z1 x2 x3 M K) : za_Mi l g D cy yX5_reads cX5_reads 4 (some .boolean) 105 6153 [.ref (g (7, 0, 0)), .ref (g z1), .int x2, .int x3] M K := za_openi hJ (by decide) (Nat.le_of_ble_eq_true rfl) (fun p e s m args below meth c C hr hk => p_X5_reads hJ C hr hk hz1 h)
/-! X6_begin -/
def f_X6_begin_b17 (K : za_M → Prop) (i0 : Nat) (L17 : Int32 → za_M → Prop) (x3 : Int32) (M : za_M) : Prop :=
  if (M.1 (9, 0, i0) 2) ≤ x3 then (K M) else (vp_in x3 40 ∧ (za_let (za_up M (23, 0, i0) x3.toNatClampNeg 0) fun M3 => L17 (x3 + 1) M3))
def f_X6_begin (i0 : Nat) (x1 : Int32) (x2 : Int32) (M : za_M) (K : za_M → Prop) : Prop :=
  za_let (za_up M (9, 0, i0) 1 x1) fun M5 => f_X9_held x2 40 M5 (fun r8 M7 => za_let (za_up M7 (9, 0, i0) 2 r8) fun M9 => ∃ n, za_lp1 (f_X6_begin_b17 K i0) n 0 M9)
section
variable {p : Program} {l : Launch} {e : Env} {s : State} {m : MethodId} {args : Array Value} {below : List Frame} {meth : Method} {c : Code} {g : za_L → Nat} {D : va_G} {cy : Nat → ClassId} {K : za_M → Prop}
set_option maxRecDepth 100000 in
set_option maxHeartbeats 4000000 in
theorem p_X6_begin_b17 (hJ : za_J g) (C : za_C p s m args c cX6_begin 4 RX6 g D cy) (hr : meth.sig.returnType = none) (hk : meth.locks = false) {i0 : Nat} (hi0 : i0 < 4) {L17 : Int32 → za_M → Prop} (hL17 : ∀ (x3 : Int32) (M : za_M), L17 x3 M → zt p l e (za_rm 2 85) s m args below meth c 0 0 (MQ below (za_Qv g D cy K) args s 0 0 (za_A g)) g D cy 4 M 17 [(0, .ref (g (9, 0, i0))), (3, .int x3)] []) : ∀ (x3 : Int32) (M : za_M), f_X6_begin_b17 K i0 L17 x3 M → zt p l e (za_rm 2 85) s m args below meth c 0 0 (MQ below (za_Qv g D cy K) args s 0 0 (za_A g)) g D cy 4 M 17 [(0, .ref (g (9, 0, i0))), (3, .int x3)] [] := by
  intro x3 M h
  unfold f_X6_begin_b17 at h
  refine zt_iload_n C 1 dX6_begin_17 rfl rfl ?_
  refine zt_aload_n C 0 dX6_begin_18 rfl rfl ?_
  refine zt_get C (za_mem (j := 9) rfl (by decide) hi0) pf_X6_23 (za_E_9 g cy M 0 i0) rfl dX6_begin_19 ?_
  refine zt_icmp_ge C 38 dX6_begin_22 (by decide) (fun q1 => ?_) (fun q1 => ?_)
  · replace h := za_ifp h q1
    exact zt_vret C hr hk dX6_begin_38 h
  · replace h := za_ifn h q1
    refine zt_aload_n C 0 dX6_begin_25 rfl rfl ?_
    refine zt_get C (za_mem (j := 9) rfl (by decide) hi0) pf_X6_9 (za_E_9 g cy M 0 i0) rfl dX6_begin_26 ?_
    refine zt_iload_n C 1 dX6_begin_29 rfl rfl ?_
    refine zt_iconst C (v := 0) dX6_begin_30 zk_i0 ?_
    obtain ⟨g2, h⟩ := h
    refine zt_iast C (za_mem (j := 23) rfl (by decide) hi0) (fun W9 => za_E_23 g cy W9 0 i0) g2 dX6_begin_31 ?_
    refine zt_topM (fun M3 e4 => ?_)
    replace h := za_use h e4
    refine zt_iinc C (v := x3 + 1) 1 [(3, .int (x3 + 1)), (0, .ref (g (9, 0, i0)))] dX6_begin_32 rfl (zk_n1 _) (by decide) rfl ?_
    refine zt_goto C 17 dX6_begin_35 (by decide) ?_
    refine zt_sub [1, 0] (lv' := [(0, .ref (g (9, 0, i0))), (3, .int (x3 + 1))]) rfl ?_
    exact hL17 _ _ h
theorem p_X6_begin_b17_in (hJ : za_J g) (C : za_C p s m args c cX6_begin 4 RX6 g D cy) (hr : meth.sig.returnType = none) (hk : meth.locks = false) {i0 : Nat} (hi0 : i0 < 4) {n : Nat} {x3 : Int32} {M : za_M} (h : za_lp1 (f_X6_begin_b17 K i0) n x3 M) : zt p l e (za_rm 2 85) s m args below meth c 0 0 (MQ below (za_Qv g D cy K) args s 0 0 (za_A g)) g D cy 4 M 17 [(0, .ref (g (9, 0, i0))), (3, .int x3)] [] := za_lp1_run (Z := fun x3 M => zt p l e (za_rm 2 85) s m args below meth c 0 0 (MQ below (za_Qv g D cy K) args s 0 0 (za_A g)) g D cy 4 M 17 [(0, .ref (g (9, 0, i0))), (3, .int x3)] []) (fun L hL => p_X6_begin_b17 hJ C hr hk hi0 hL) n x3 M h
set_option maxRecDepth 100000 in
set_option maxHeartbeats 4000000 in
theorem p_X6_begin (hJ : za_J g) (C : za_C p s m args c cX6_begin 4 RX6 g D cy) (hr : meth.sig.returnType = none) (hk : meth.locks = false) {i0 : Nat} (hi0 : i0 < 4) {x1 : Int32} {x2 : Int32} {M : za_M} (h : f_X6_begin i0 x1 x2 M K) : zt p l e (za_rm 2 85) s m args below meth c 0 0 (MQ below (za_Qv g D cy K) args s 0 0 (za_A g)) g D cy 4 M 0 [(0, .ref (g (9, 0, i0))), (1, .int x1), (2, .int x2)] [] := by
  unfold f_X6_begin at h
  refine zt_aload_n C 0 dX6_begin_0 rfl rfl ?_
  refine zt_iload_n C 1 dX6_begin_1 rfl rfl ?_
  refine zt_put C (za_mem (j := 9) rfl (by decide) hi0) pf_X6_15 pt_X6_1 rfl rfl (za_E_9 g cy M 0 i0) rfl (Nat.le_of_ble_eq_true rfl) dX6_begin_2 ?_
  refine zt_topM (fun M5 e6 => ?_)
  replace h := za_use h e6
  refine zt_aload_n C 0 dX6_begin_5 rfl rfl ?_
  refine zt_iload_n C 2 dX6_begin_6 rfl rfl ?_
  refine zt_bipush C (v := 40) dX6_begin_7 zk_b40 ?_
  refine zt_cNi C [.int x2, .int 40] (m_X9_held hJ  h) py_X9_held pn_X6_19 (Nat.le_of_ble_eq_true rfl) ⟨Nat.le_of_ble_eq_true rfl, Nat.le_of_ble_eq_true rfl⟩ ⟨Nat.zero_le _, Nat.zero_le _⟩ dX6_begin_9 rfl (fun r8 M7 h => ?_)
  refine zt_put C (za_mem (j := 9) rfl (by decide) hi0) pf_X6_23 pt_X6_2 rfl rfl (za_E_9 g cy M7 0 i0) rfl (Nat.le_of_ble_eq_true rfl) dX6_begin_12 ?_
  refine zt_topM (fun M9 e10 => ?_)
  replace h := za_use h e10
  refine zt_iconst C (v := 0) dX6_begin_15 zk_i0 ?_
  refine zt_istore_n C [(3, .int 0), (0, .ref (g (9, 0, i0))), (1, .int x1), (2, .int x2)] dX6_begin_16 rfl (by decide) rfl ?_
  refine zt_sub [1, 0] (lv' := [(0, .ref (g (9, 0, i0))), (3, .int 0)]) rfl ?_
  obtain ⟨n, h⟩ := h
  exact p_X6_begin_b17_in hJ C hr hk hi0 h
end
theorem m_X6_begin {l : Launch} {g : za_L → Nat} {D : va_G} {cy : Nat → ClassId} (hJ : za_J g)  {i0 : Nat} (hi0 : i0 < 4) {x1 : Int32} {x2 : Int32} {M : za_M} {K : za_M → Prop} (h : f_X6_begin i0 x1 x2 M K) : za_Mv l g D cy yX6_begin cX6_begin 4 none 2 85 [.ref (g (9, 0, i0)), .int x1, .int x2] M K := za_openv hJ (by decide) (Nat.le_of_ble_eq_true rfl) (fun p e s m args below meth c C hr hk => p_X6_begin hJ C hr hk hi0 h)
/-! X6_isMissing -/
def f_X6_isMissing (i0 : Nat) (M : za_M) (K : Int32 → za_M → Prop) : Prop :=
  if (M.1 (9, 0, i0) 1) = 0 then (K 1 M) else (K 0 M)
section
variable {p : Program} {l : Launch} {e : Env} {s : State} {m : MethodId} {args : Array Value} {below : List Frame} {meth : Method} {c : Code} {g : za_L → Nat} {D : va_G} {cy : Nat → ClassId} {K : Int32 → za_M → Prop}
set_option maxRecDepth 100000 in
set_option maxHeartbeats 4000000 in
theorem p_X6_isMissing (hJ : za_J g) (C : za_C p s m args c cX6_isMissing 1 RX6 g D cy) (hr : meth.sig.returnType = (some .boolean)) (hk : meth.locks = false) {i0 : Nat} (hi0 : i0 < 4) {M : za_M} (h : f_X6_isMissing i0 M K) : zt p l e (za_rm 1 64) s m args below meth c 0 0 (MQ below (za_Qi g D cy K) args s 0 0 (za_A g)) g D cy 1 M 0 [(0, .ref (g (9, 0, i0)))] [] := by
  unfold f_X6_isMissing at h
  refine zt_aload_n C 0 dX6_isMissing_0 rfl rfl ?_
  refine zt_get C (za_mem (j := 9) rfl (by decide) hi0) pf_X6_15 (za_E_9 g cy M 0 i0) rfl dX6_isMissing_1 ?_
  refine zt_if_ne C 11 dX6_isMissing_4 (by decide) (fun q1 => ?_) (fun q1 => ?_)
  · replace h := za_ifn h q1
    refine zt_iconst C (v := 0) dX6_isMissing_11 zk_i0 ?_
    exact zt_ret C hr hk rfl dX6_isMissing_12 h
  · replace h := za_ifp h q1
    refine zt_iconst C (v := 1) dX6_isMissing_7 zk_i1 ?_
    refine zt_goto C 12 dX6_isMissing_8 (by decide) ?_
    exact zt_ret C hr hk rfl dX6_isMissing_12 h
end
theorem m_X6_isMissing {l : Launch} {g : za_L → Nat} {D : va_G} {cy : Nat → ClassId} (hJ : za_J g)  {i0 : Nat} (hi0 : i0 < 4) {M : za_M} {K : Int32 → za_M → Prop} (h : f_X6_isMissing i0 M K) : za_Mi l g D cy yX6_isMissing cX6_isMissing 1 (some .boolean) 1 64 [.ref (g (9, 0, i0))] M K := za_openi hJ (by decide) (Nat.le_of_ble_eq_true rfl) (fun p e s m args below meth c C hr hk => p_X6_isMissing hJ C hr hk hi0 h)

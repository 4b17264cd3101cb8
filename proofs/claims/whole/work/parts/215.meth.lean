/-! X9_image -/
def f_X9_image (M : za_M) (K : Int32 → za_M → Prop) : Prop :=
  f_X7_copy 1 0 M (fun M1 => za_let ((M1.1 (0, 0, 0) 9) + 1) fun y3 => za_let (za_up M1 (0, 0, 0) 9 y3) fun M5 => K (M5.1 (0, 0, 0) 9) M5)
section
variable {p : Program} {l : Launch} {e : Env} {s : State} {m : MethodId} {args : Array Value} {below : List Frame} {meth : Method} {c : Code} {g : za_L → Nat} {D : va_G} {cy : Nat → ClassId} {K : Int32 → za_M → Prop}
set_option maxRecDepth 100000 in
set_option maxHeartbeats 4000000 in
theorem p_X9_image (hJ : za_J g) (C : za_C p s m args c cX9_image 1 RX9 g D cy) (hr : meth.sig.returnType = (some .int)) (hk : meth.locks = false) {M : za_M} (h : f_X9_image M K) : zt p l e (za_rm 4 129) s m args below meth c 0 0 (MQ below (za_Qi g D cy K) args s 0 0 (za_A g)) g D cy 1 M 0 [(0, .ref (g (0, 0, 0)))] [] := by
  unfold f_X9_image at h
  refine zt_aload_n C 0 dX9_image_0 rfl rfl ?_
  refine zt_get C (za_mem (j := 0) rfl (by decide) (by decide)) pf_X9_16 (za_E_0 g cy M 0 0) rfl dX9_image_1 ?_
  refine zt_aload_n C 0 dX9_image_4 rfl rfl ?_
  refine zt_get C (za_mem (j := 0) rfl (by decide) (by decide)) pf_X9_10 (za_E_0 g cy M 0 0) rfl dX9_image_5 ?_
  refine zt_cVv C [.ref (g (1, 0, 0))] (m_X7_copy hJ (by decide) (by decide) h) (za_mem (j := 1) rfl (by decide) (by decide)) (za_E_1 g cy M 1 0) rfl py_X7_copy pv_X9_324 (Nat.le_of_ble_eq_true rfl) ⟨Nat.le_of_ble_eq_true rfl, Nat.le_of_ble_eq_true rfl⟩ ⟨Nat.zero_le _, Nat.zero_le _⟩ dX9_image_8 rfl (fun M1 h => ?_)
  refine zt_aload_n C 0 dX9_image_11 rfl rfl ?_
  refine zt_dup C dX9_image_12 rfl ?_
  refine zt_get C (za_mem (j := 0) rfl (by decide) (by decide)) pf_X9_327 (za_E_0 g cy M1 0 0) rfl dX9_image_13 ?_
  refine zt_iconst C (v := 1) dX9_image_16 zk_i1 ?_
  refine zt_iadd C dX9_image_17 ?_
  refine zt_topi (fun y3 e4 => ?_)
  replace h := za_use h e4
  refine zt_put C (za_mem (j := 0) rfl (by decide) (by decide)) pf_X9_327 pt_X9_9 rfl rfl (za_E_0 g cy M1 0 0) rfl (Nat.le_of_ble_eq_true rfl) dX9_image_18 ?_
  refine zt_topM (fun M5 e6 => ?_)
  replace h := za_use h e6
  refine zt_aload_n C 0 dX9_image_21 rfl rfl ?_
  refine zt_get C (za_mem (j := 0) rfl (by decide) (by decide)) pf_X9_327 (za_E_0 g cy M5 0 0) rfl dX9_image_22 ?_
  exact zt_ret C hr hk rfl dX9_image_25 h
end
theorem m_X9_image {l : Launch} {g : za_L → Nat} {D : va_G} {cy : Nat → ClassId} (hJ : za_J g)  {M : za_M} {K : Int32 → za_M → Prop} (h : f_X9_image M K) : za_Mi l g D cy yX9_image cX9_image 1 (some .int) 4 129 [.ref (g (0, 0, 0))] M K := za_openi hJ (by decide) (Nat.le_of_ble_eq_true rfl) (fun p e s m args below meth c C hr hk => p_X9_image hJ C hr hk  h)
/-! X9_restore -/
def f_X9_restore (M : za_M) (K : Int32 → za_M → Prop) : Prop :=
  if (M.1 (0, 0, 0) 9) = 0 then (f_X9_fail 2 M (fun r5 M4 => K r5 M4)) else (f_X7_copy 0 1 M (fun M2 => K (M2.1 (2, 0, 0) 6) M2))
section
variable {p : Program} {l : Launch} {e : Env} {s : State} {m : MethodId} {args : Array Value} {below : List Frame} {meth : Method} {c : Code} {g : za_L → Nat} {D : va_G} {cy : Nat → ClassId} {K : Int32 → za_M → Prop}
set_option maxRecDepth 100000 in
set_option maxHeartbeats 4000000 in
theorem p_X9_restore (hJ : za_J g) (C : za_C p s m args c cX9_restore 1 RX9 g D cy) (hr : meth.sig.returnType = (some .int)) (hk : meth.locks = false) {M : za_M} (h : f_X9_restore M K) : zt p l e (za_rm 4 129) s m args below meth c 0 0 (MQ below (za_Qi g D cy K) args s 0 0 (za_A g)) g D cy 1 M 0 [(0, .ref (g (0, 0, 0)))] [] := by
  unfold f_X9_restore at h
  refine zt_aload_n C 0 dX9_restore_0 rfl rfl ?_
  refine zt_get C (za_mem (j := 0) rfl (by decide) (by decide)) pf_X9_327 (za_E_0 g cy M 0 0) rfl dX9_restore_1 ?_
  refine zt_if_ne C 13 dX9_restore_4 (by decide) (fun q1 => ?_) (fun q1 => ?_)
  · replace h := za_ifn h q1
    refine zt_aload_n C 0 dX9_restore_13 rfl rfl ?_
    refine zt_get C (za_mem (j := 0) rfl (by decide) (by decide)) pf_X9_10 (za_E_0 g cy M 0 0) rfl dX9_restore_14 ?_
    refine zt_aload_n C 0 dX9_restore_17 rfl rfl ?_
    refine zt_get C (za_mem (j := 0) rfl (by decide) (by decide)) pf_X9_16 (za_E_0 g cy M 0 0) rfl dX9_restore_18 ?_
    refine zt_cVv C [.ref (g (1, 1, 0))] (m_X7_copy hJ (by decide) (by decide) h) (za_mem (j := 1) rfl (by decide) (by decide)) (za_E_1 g cy M 0 0) rfl py_X7_copy pv_X9_324 (Nat.le_of_ble_eq_true rfl) ⟨Nat.le_of_ble_eq_true rfl, Nat.le_of_ble_eq_true rfl⟩ ⟨Nat.zero_le _, Nat.zero_le _⟩ dX9_restore_21 rfl (fun M2 h => ?_)
    refine zt_aload_n C 0 dX9_restore_24 rfl rfl ?_
    refine zt_get C (za_mem (j := 0) rfl (by decide) (by decide)) pf_X9_10 (za_E_0 g cy M2 0 0) rfl dX9_restore_25 ?_
    refine zt_get C (za_mem (j := 1) rfl (by decide) (by decide)) pf_X9_57 (za_E_1 g cy M2 0 0) rfl dX9_restore_28 ?_
    refine zt_get C (za_mem (j := 2) rfl (by decide) (by decide)) pf_X9_231 (za_E_2 g cy M2 0 0) rfl dX9_restore_31 ?_
    exact zt_ret C hr hk rfl dX9_restore_34 h
  · replace h := za_ifp h q1
    refine zt_aload_n C 0 dX9_restore_7 rfl rfl ?_
    refine zt_iconst C (v := 2) dX9_restore_8 zk_i2 ?_
    refine zt_cVi C [.int 2] (m_X9_fail hJ  h) (za_mem (j := 0) rfl (by decide) (by decide)) (za_E_0 g cy M 0 0) rfl py_X9_fail pv_X9_64 (Nat.le_of_ble_eq_true rfl) ⟨Nat.le_of_ble_eq_true rfl, Nat.le_of_ble_eq_true rfl⟩ ⟨Nat.zero_le _, Nat.zero_le _⟩ dX9_restore_9 rfl (fun r5 M4 h => ?_)
    exact zt_ret C hr hk rfl dX9_restore_12 h
end
theorem m_X9_restore {l : Launch} {g : za_L → Nat} {D : va_G} {cy : Nat → ClassId} (hJ : za_J g)  {M : za_M} {K : Int32 → za_M → Prop} (h : f_X9_restore M K) : za_Mi l g D cy yX9_restore cX9_restore 1 (some .int) 4 129 [.ref (g (0, 0, 0))] M K := za_openi hJ (by decide) (Nat.le_of_ble_eq_true rfl) (fun p e s m args below meth c C hr hk => p_X9_restore hJ C hr hk  h)
/-! X9_tell -/
def f_X9_tell (x1 : Int32) (M : za_M) (K : Int32 → za_M → Prop) : Prop :=
  if (M.1 (1, 0, 0) 5) < 20 then (vp_in (M.1 (1, 0, 0) 5) 20 ∧ (za_let (za_up M (16, 0, 0) (M.1 (1, 0, 0) 5).toNatClampNeg x1) fun M3 => za_let ((M3.1 (1, 0, 0) 5) + 1) fun y5 => za_let (za_up M3 (1, 0, 0) 5 y5) fun M7 => K (M7.1 (1, 0, 0) 5) M7)) else (f_X9_fail 4 M (fun r10 M9 => K r10 M9))
section
variable {p : Program} {l : Launch} {e : Env} {s : State} {m : MethodId} {args : Array Value} {below : List Frame} {meth : Method} {c : Code} {g : za_L → Nat} {D : va_G} {cy : Nat → ClassId} {K : Int32 → za_M → Prop}
set_option maxRecDepth 100000 in
set_option maxHeartbeats 4000000 in
theorem p_X9_tell (hJ : za_J g) (C : za_C p s m args c cX9_tell 2 RX9 g D cy) (hr : meth.sig.returnType = (some .int)) (hk : meth.locks = false) {x1 : Int32} {M : za_M} (h : f_X9_tell x1 M K) : zt p l e (za_rm 3 107) s m args below meth c 0 0 (MQ below (za_Qi g D cy K) args s 0 0 (za_A g)) g D cy 2 M 0 [(0, .ref (g (0, 0, 0))), (1, .int x1)] [] := by
  unfold f_X9_tell at h
  refine zt_aload_n C 0 dX9_tell_0 rfl rfl ?_
  refine zt_get C (za_mem (j := 0) rfl (by decide) (by decide)) pf_X9_10 (za_E_0 g cy M 0 0) rfl dX9_tell_1 ?_
  refine zt_get C (za_mem (j := 1) rfl (by decide) (by decide)) pf_X9_330 (za_E_1 g cy M 0 0) rfl dX9_tell_4 ?_
  refine zt_bipush C (v := 20) dX9_tell_7 zk_b20 ?_
  refine zt_icmp_lt C 18 dX9_tell_9 (by decide) (fun q1 => ?_) (fun q1 => ?_)
  · replace h := za_ifp h q1
    refine zt_aload_n C 0 dX9_tell_18 rfl rfl ?_
    refine zt_get C (za_mem (j := 0) rfl (by decide) (by decide)) pf_X9_10 (za_E_0 g cy M 0 0) rfl dX9_tell_19 ?_
    refine zt_get C (za_mem (j := 1) rfl (by decide) (by decide)) pf_X9_333 (za_E_1 g cy M 0 0) rfl dX9_tell_22 ?_
    refine zt_aload_n C 0 dX9_tell_25 rfl rfl ?_
    refine zt_get C (za_mem (j := 0) rfl (by decide) (by decide)) pf_X9_10 (za_E_0 g cy M 0 0) rfl dX9_tell_26 ?_
    refine zt_get C (za_mem (j := 1) rfl (by decide) (by decide)) pf_X9_330 (za_E_1 g cy M 0 0) rfl dX9_tell_29 ?_
    refine zt_iload_n C 1 dX9_tell_32 rfl rfl ?_
    obtain ⟨g2, h⟩ := h
    refine zt_iast C (za_mem (j := 16) rfl (by decide) (by decide)) (fun W9 => za_E_16 g cy W9 0 0) g2 dX9_tell_33 ?_
    refine zt_topM (fun M3 e4 => ?_)
    replace h := za_use h e4
    refine zt_aload_n C 0 dX9_tell_34 rfl rfl ?_
    refine zt_get C (za_mem (j := 0) rfl (by decide) (by decide)) pf_X9_10 (za_E_0 g cy M3 0 0) rfl dX9_tell_35 ?_
    refine zt_dup C dX9_tell_38 rfl ?_
    refine zt_get C (za_mem (j := 1) rfl (by decide) (by decide)) pf_X9_330 (za_E_1 g cy M3 0 0) rfl dX9_tell_39 ?_
    refine zt_iconst C (v := 1) dX9_tell_42 zk_i1 ?_
    refine zt_iadd C dX9_tell_43 ?_
    refine zt_topi (fun y5 e6 => ?_)
    replace h := za_use h e6
    refine zt_put C (za_mem (j := 1) rfl (by decide) (by decide)) pf_X9_330 pt_X7_5 rfl rfl (za_E_1 g cy M3 0 0) rfl (Nat.le_of_ble_eq_true rfl) dX9_tell_44 ?_
    refine zt_topM (fun M7 e8 => ?_)
    replace h := za_use h e8
    refine zt_aload_n C 0 dX9_tell_47 rfl rfl ?_
    refine zt_get C (za_mem (j := 0) rfl (by decide) (by decide)) pf_X9_10 (za_E_0 g cy M7 0 0) rfl dX9_tell_48 ?_
    refine zt_get C (za_mem (j := 1) rfl (by decide) (by decide)) pf_X9_330 (za_E_1 g cy M7 0 0) rfl dX9_tell_51 ?_
    exact zt_ret C hr hk rfl dX9_tell_54 h
  · replace h := za_ifn h q1
    refine zt_aload_n C 0 dX9_tell_12 rfl rfl ?_
    refine zt_iconst C (v := 4) dX9_tell_13 zk_i4 ?_
    refine zt_cVi C [.int 4] (m_X9_fail hJ  h) (za_mem (j := 0) rfl (by decide) (by decide)) (za_E_0 g cy M 0 0) rfl py_X9_fail pv_X9_64 (Nat.le_of_ble_eq_true rfl) ⟨Nat.le_of_ble_eq_true rfl, Nat.le_of_ble_eq_true rfl⟩ ⟨Nat.zero_le _, Nat.zero_le _⟩ dX9_tell_14 rfl (fun r10 M9 h => ?_)
    exact zt_ret C hr hk rfl dX9_tell_17 h
end
theorem m_X9_tell {l : Launch} {g : za_L → Nat} {D : va_G} {cy : Nat → ClassId} (hJ : za_J g)  {x1 : Int32} {M : za_M} {K : Int32 → za_M → Prop} (h : f_X9_tell x1 M K) : za_Mi l g D cy yX9_tell cX9_tell 2 (some .int) 3 107 [.ref (g (0, 0, 0)), .int x1] M K := za_openi hJ (by decide) (Nat.le_of_ble_eq_true rfl) (fun p e s m args below meth c C hr hk => p_X9_tell hJ C hr hk  h)
/-! X9_check -/
def f_X9_check_b32 (K : Int32 → za_M → Prop) (x1 : Int32) (L32 : Int32 → za_M → Prop) (x2 : Int32) (M : za_M) : Prop :=
  if x1 ≤ x2 then (K 0 M) else (vp_in 1 2 ∧ (f_X1_passDays 2 1 0 (Int32.toNatClampNeg 1) M (fun M3 => vp_in x2 20 ∧ (if (M3.1 (2, 2, 0) 5) = (M3.1 (16, 0, 0) x2.toNatClampNeg) then (L32 (x2 + 1) M3) else (K (1 + x2) M3)))))
def f_X9_check (M : za_M) (K : Int32 → za_M → Prop) : Prop :=
  za_let (M.1 (1, 0, 0) 5) fun y7 => za_let (za_up M (1, 0, 0) 5 0) fun M9 => f_X1_copy 2 0 M9 (fun M11 => ∃ n, za_lp1 (f_X9_check_b32 K y7) n 0 M11)
section
variable {p : Program} {l : Launch} {e : Env} {s : State} {m : MethodId} {args : Array Value} {below : List Frame} {meth : Method} {c : Code} {g : za_L → Nat} {D : va_G} {cy : Nat → ClassId} {K : Int32 → za_M → Prop}
set_option maxRecDepth 100000 in
set_option maxHeartbeats 4000000 in
theorem p_X9_check_b32 (hJ : za_J g) (C : za_C p s m args c cX9_check 3 RX9 g D cy) (hr : meth.sig.returnType = (some .int)) (hk : meth.locks = false) {x1 : Int32} {L32 : Int32 → za_M → Prop} (hL32 : ∀ (x2 : Int32) (M : za_M), L32 x2 M → zt p l e (za_rm 7 206) s m args below meth c 0 0 (MQ below (za_Qi g D cy K) args s 0 0 (za_A g)) g D cy 3 M 32 [(0, .ref (g (0, 0, 0))), (1, .int x1), (2, .int x2)] []) : ∀ (x2 : Int32) (M : za_M), f_X9_check_b32 K x1 L32 x2 M → zt p l e (za_rm 7 206) s m args below meth c 0 0 (MQ below (za_Qi g D cy K) args s 0 0 (za_A g)) g D cy 3 M 32 [(0, .ref (g (0, 0, 0))), (1, .int x1), (2, .int x2)] [] := by
  intro x2 M h
  unfold f_X9_check_b32 at h
  refine zt_iload_n C 2 dX9_check_32 rfl rfl ?_
  refine zt_iload_n C 1 dX9_check_33 rfl rfl ?_
  refine zt_icmp_ge C 83 dX9_check_34 (by decide) (fun q1 => ?_) (fun q1 => ?_)
  · replace h := za_ifp h q1
    refine zt_iconst C (v := 0) dX9_check_83 zk_i0 ?_
    exact zt_ret C hr hk rfl dX9_check_84 h
  · replace h := za_ifn h q1
    refine zt_aload_n C 0 dX9_check_37 rfl rfl ?_
    refine zt_get C (za_mem (j := 0) rfl (by decide) (by decide)) pf_X9_22 (za_E_0 g cy M 0 0) rfl dX9_check_38 ?_
    refine zt_iconst C (v := 1) dX9_check_41 zk_i1 ?_
    refine zt_aload_n C 0 dX9_check_42 rfl rfl ?_
    refine zt_get C (za_mem (j := 0) rfl (by decide) (by decide)) pf_X9_10 (za_E_0 g cy M 0 0) rfl dX9_check_43 ?_
    refine zt_get C (za_mem (j := 1) rfl (by decide) (by decide)) pf_X9_153 (za_E_1 g cy M 0 0) rfl dX9_check_46 ?_
    refine zt_iconst C (v := 1) dX9_check_49 zk_i1 ?_
    obtain ⟨g2, h⟩ := h
    refine zt_aald C (za_mem (j := 14) rfl (by decide) (by decide)) (za_E_14 g cy M 0 0) rfl g2 dX9_check_50 ?_
    refine zt_cVv C [.int 1, .ref (g (6, 0, (Int32.toNatClampNeg 1)))] (m_X1_passDays hJ (by decide) (by decide) (za_lt g2) h) (za_mem (j := 2) rfl (by decide) (by decide)) (za_E_2 g cy M 2 0) rfl py_X1_passDays pv_X9_234 (Nat.le_of_ble_eq_true rfl) ⟨Nat.le_of_ble_eq_true rfl, Nat.le_of_ble_eq_true rfl⟩ ⟨Nat.zero_le _, Nat.zero_le _⟩ dX9_check_51 rfl (fun M3 h => ?_)
    refine zt_aload_n C 0 dX9_check_54 rfl rfl ?_
    refine zt_get C (za_mem (j := 0) rfl (by decide) (by decide)) pf_X9_22 (za_E_0 g cy M3 0 0) rfl dX9_check_55 ?_
    refine zt_get C (za_mem (j := 2) rfl (by decide) (by decide)) pf_X9_177 (za_E_2 g cy M3 2 0) rfl dX9_check_58 ?_
    refine zt_aload_n C 0 dX9_check_61 rfl rfl ?_
    refine zt_get C (za_mem (j := 0) rfl (by decide) (by decide)) pf_X9_10 (za_E_0 g cy M3 0 0) rfl dX9_check_62 ?_
    refine zt_get C (za_mem (j := 1) rfl (by decide) (by decide)) pf_X9_333 (za_E_1 g cy M3 0 0) rfl dX9_check_65 ?_
    refine zt_iload_n C 2 dX9_check_68 rfl rfl ?_
    obtain ⟨g5, h⟩ := h
    refine zt_iald C (za_mem (j := 16) rfl (by decide) (by decide)) (fun W9 => za_E_16 g cy W9 0 0) g5 dX9_check_69 ?_
    refine zt_icmp_eq C 77 dX9_check_70 (by decide) (fun q6 => ?_) (fun q6 => ?_)
    · replace h := za_ifp h q6
      refine zt_iinc C (v := x2 + 1) 2 [(2, .int (x2 + 1)), (0, .ref (g (0, 0, 0))), (1, .int x1)] dX9_check_77 rfl (zk_n1 _) (by decide) rfl ?_
      refine zt_goto C 32 dX9_check_80 (by decide) ?_
      refine zt_sub [1, 2, 0] (lv' := [(0, .ref (g (0, 0, 0))), (1, .int x1), (2, .int (x2 + 1))]) rfl ?_
      exact hL32 _ _ h
    · replace h := za_ifn h q6
      refine zt_iconst C (v := 1) dX9_check_73 zk_i1 ?_
      refine zt_iload_n C 2 dX9_check_74 rfl rfl ?_
      refine zt_iadd C dX9_check_75 ?_
      exact zt_ret C hr hk rfl dX9_check_76 h
theorem p_X9_check_b32_in (hJ : za_J g) (C : za_C p s m args c cX9_check 3 RX9 g D cy) (hr : meth.sig.returnType = (some .int)) (hk : meth.locks = false) {x1 : Int32} {n : Nat} {x2 : Int32} {M : za_M} (h : za_lp1 (f_X9_check_b32 K x1) n x2 M) : zt p l e (za_rm 7 206) s m args below meth c 0 0 (MQ below (za_Qi g D cy K) args s 0 0 (za_A g)) g D cy 3 M 32 [(0, .ref (g (0, 0, 0))), (1, .int x1), (2, .int x2)] [] := za_lp1_run (Z := fun x2 M => zt p l e (za_rm 7 206) s m args below meth c 0 0 (MQ below (za_Qi g D cy K) args s 0 0 (za_A g)) g D cy 3 M 32 [(0, .ref (g (0, 0, 0))), (1, .int x1), (2, .int x2)] []) (fun L hL => p_X9_check_b32 hJ C hr hk  hL) n x2 M h
set_option maxRecDepth 100000 in
set_option maxHeartbeats 4000000 in
theorem p_X9_check (hJ : za_J g) (C : za_C p s m args c cX9_check 3 RX9 g D cy) (hr : meth.sig.returnType = (some .int)) (hk : meth.locks = false) {M : za_M} (h : f_X9_check M K) : zt p l e (za_rm 7 206) s m args below meth c 0 0 (MQ below (za_Qi g D cy K) args s 0 0 (za_A g)) g D cy 3 M 0 [(0, .ref (g (0, 0, 0)))] [] := by
  unfold f_X9_check at h
  refine zt_aload_n C 0 dX9_check_0 rfl rfl ?_
  refine zt_get C (za_mem (j := 0) rfl (by decide) (by decide)) pf_X9_10 (za_E_0 g cy M 0 0) rfl dX9_check_1 ?_
  refine zt_get C (za_mem (j := 1) rfl (by decide) (by decide)) pf_X9_330 (za_E_1 g cy M 0 0) rfl dX9_check_4 ?_
  refine zt_topi (fun y7 e8 => ?_)
  replace h := za_use h e8
  refine zt_istore_n C [(1, .int y7), (0, .ref (g (0, 0, 0)))] dX9_check_7 rfl (by decide) rfl ?_
  refine zt_aload_n C 1 dX9_check_8 rfl rfl ?_
  refine zt_get C (za_mem (j := 0) rfl (by decide) (by decide)) pf_X9_10 (za_E_0 g cy M 0 0) rfl dX9_check_9 ?_
  refine zt_iconst C (v := 0) dX9_check_12 zk_i0 ?_
  refine zt_put C (za_mem (j := 1) rfl (by decide) (by decide)) pf_X9_330 pt_X7_5 rfl rfl (za_E_1 g cy M 0 0) rfl (Nat.le_of_ble_eq_true rfl) dX9_check_13 ?_
  refine zt_topM (fun M9 e10 => ?_)
  replace h := za_use h e10
  refine zt_aload_n C 1 dX9_check_16 rfl rfl ?_
  refine zt_get C (za_mem (j := 0) rfl (by decide) (by decide)) pf_X9_22 (za_E_0 g cy M9 0 0) rfl dX9_check_17 ?_
  refine zt_aload_n C 1 dX9_check_20 rfl rfl ?_
  refine zt_get C (za_mem (j := 0) rfl (by decide) (by decide)) pf_X9_10 (za_E_0 g cy M9 0 0) rfl dX9_check_21 ?_
  refine zt_get C (za_mem (j := 1) rfl (by decide) (by decide)) pf_X9_57 (za_E_1 g cy M9 0 0) rfl dX9_check_24 ?_
  refine zt_cVv C [.ref (g (2, 0, 0))] (m_X1_copy hJ (by decide) (by decide) h) (za_mem (j := 2) rfl (by decide) (by decide)) (za_E_2 g cy M9 2 0) rfl py_X1_copy pv_X9_241 (Nat.le_of_ble_eq_true rfl) ⟨Nat.le_of_ble_eq_true rfl, Nat.le_of_ble_eq_true rfl⟩ ⟨Nat.zero_le _, Nat.zero_le _⟩ dX9_check_27 rfl (fun M11 h => ?_)
  refine zt_iconst C (v := 0) dX9_check_30 zk_i0 ?_
  refine zt_istore_n C [(2, .int 0), (1, .int y7), (0, .ref (g (0, 0, 0)))] dX9_check_31 rfl (by decide) rfl ?_
  refine zt_sub [2, 1, 0] (lv' := [(0, .ref (g (0, 0, 0))), (1, .int y7), (2, .int 0)]) rfl ?_
  obtain ⟨n, h⟩ := h
  exact p_X9_check_b32_in hJ C hr hk  h
end
theorem m_X9_check {l : Launch} {g : za_L → Nat} {D : va_G} {cy : Nat → ClassId} (hJ : za_J g)  {M : za_M} {K : Int32 → za_M → Prop} (h : f_X9_check M K) : za_Mi l g D cy yX9_check cX9_check 3 (some .int) 7 206 [.ref (g (0, 0, 0))] M K := za_openi hJ (by decide) (Nat.le_of_ble_eq_true rfl) (fun p e s m args below meth c C hr hk => p_X9_check hJ C hr hk  h)
/-! X9_count -/
def f_X9_count (x1 : Int32) (M : za_M) (K : Int32 → za_M → Prop) : Prop :=
  if x1 = 0 then (K (M.1 (2, 0, 0) 3) M) else if x1 = 1 then (K (M.1 (2, 0, 0) 4) M) else if x1 = 2 then (K (M.1 (2, 0, 0) 5) M) else if x1 = 3 then (K (M.1 (2, 0, 0) 6) M) else if x1 = 4 then (f_X1_potsOfAll 0 M (fun r7 M6 => K r7 M6)) else if x1 = 5 then (f_X1_brokenOfAll 0 M (fun r10 M9 => K r10 M9)) else if x1 = 6 then (K (M.1 (1, 0, 0) 4) M) else if x1 = 7 then (K (M.1 (1, 0, 0) 5) M) else if x1 = 8 then (K (M.1 (8, 0, 0) 1) M) else if x1 = 9 then (K (M.1 (1, 0, 0) 6) M) else (f_X9_fail 1 M (fun r16 M15 => K r16 M15))
section
variable {p : Program} {l : Launch} {e : Env} {s : State} {m : MethodId} {args : Array Value} {below : List Frame} {meth : Method} {c : Code} {g : za_L → Nat} {D : va_G} {cy : Nat → ClassId} {K : Int32 → za_M → Prop}
set_option maxRecDepth 100000 in
set_option maxHeartbeats 4000000 in
theorem p_X9_count (hJ : za_J g) (C : za_C p s m args c cX9_count 2 RX9 g D cy) (hr : meth.sig.returnType = (some .int)) (hk : meth.locks = false) {x1 : Int32} {M : za_M} (h : f_X9_count x1 M K) : zt p l e (za_rm 3 107) s m args below meth c 0 0 (MQ below (za_Qi g D cy K) args s 0 0 (za_A g)) g D cy 2 M 0 [(0, .ref (g (0, 0, 0))), (1, .int x1)] [] := by
  unfold f_X9_count at h
  refine zt_iload_n C 1 dX9_count_0 rfl rfl ?_
  by_cases q1 : x1 = 0
  · replace h := za_ifp h q1
    refine zt_tableIn C (off := 55) 56 dX9_count_1 (by rw [q1]; decide) (by rw [q1]; decide) (by rw [q1]; decide) (by decide) ?_
    refine zt_aload_n C 0 dX9_count_56 rfl rfl ?_
    refine zt_get C (za_mem (j := 0) rfl (by decide) (by decide)) pf_X9_10 (za_E_0 g cy M 0 0) rfl dX9_count_57 ?_
    refine zt_get C (za_mem (j := 1) rfl (by decide) (by decide)) pf_X9_57 (za_E_1 g cy M 0 0) rfl dX9_count_60 ?_
    refine zt_get C (za_mem (j := 2) rfl (by decide) (by decide)) pf_X9_68 (za_E_2 g cy M 0 0) rfl dX9_count_63 ?_
    exact zt_ret C hr hk rfl dX9_count_66 h
  replace h := za_ifn h q1
  by_cases q2 : x1 = 1
  · replace h := za_ifp h q2
    refine zt_tableIn C (off := 66) 67 dX9_count_1 (by rw [q2]; decide) (by rw [q2]; decide) (by rw [q2]; decide) (by decide) ?_
    refine zt_aload_n C 0 dX9_count_67 rfl rfl ?_
    refine zt_get C (za_mem (j := 0) rfl (by decide) (by decide)) pf_X9_10 (za_E_0 g cy M 0 0) rfl dX9_count_68 ?_
    refine zt_get C (za_mem (j := 1) rfl (by decide) (by decide)) pf_X9_57 (za_E_1 g cy M 0 0) rfl dX9_count_71 ?_
    refine zt_get C (za_mem (j := 2) rfl (by decide) (by decide)) pf_X9_108 (za_E_2 g cy M 0 0) rfl dX9_count_74 ?_
    exact zt_ret C hr hk rfl dX9_count_77 h
  replace h := za_ifn h q2
  by_cases q3 : x1 = 2
  · replace h := za_ifp h q3
    refine zt_tableIn C (off := 77) 78 dX9_count_1 (by rw [q3]; decide) (by rw [q3]; decide) (by rw [q3]; decide) (by decide) ?_
    refine zt_aload_n C 0 dX9_count_78 rfl rfl ?_
    refine zt_get C (za_mem (j := 0) rfl (by decide) (by decide)) pf_X9_10 (za_E_0 g cy M 0 0) rfl dX9_count_79 ?_
    refine zt_get C (za_mem (j := 1) rfl (by decide) (by decide)) pf_X9_57 (za_E_1 g cy M 0 0) rfl dX9_count_82 ?_
    refine zt_get C (za_mem (j := 2) rfl (by decide) (by decide)) pf_X9_177 (za_E_2 g cy M 0 0) rfl dX9_count_85 ?_
    exact zt_ret C hr hk rfl dX9_count_88 h
  replace h := za_ifn h q3
  by_cases q4 : x1 = 3
  · replace h := za_ifp h q4
    refine zt_tableIn C (off := 88) 89 dX9_count_1 (by rw [q4]; decide) (by rw [q4]; decide) (by rw [q4]; decide) (by decide) ?_
    refine zt_aload_n C 0 dX9_count_89 rfl rfl ?_
    refine zt_get C (za_mem (j := 0) rfl (by decide) (by decide)) pf_X9_10 (za_E_0 g cy M 0 0) rfl dX9_count_90 ?_
    refine zt_get C (za_mem (j := 1) rfl (by decide) (by decide)) pf_X9_57 (za_E_1 g cy M 0 0) rfl dX9_count_93 ?_
    refine zt_get C (za_mem (j := 2) rfl (by decide) (by decide)) pf_X9_231 (za_E_2 g cy M 0 0) rfl dX9_count_96 ?_
    exact zt_ret C hr hk rfl dX9_count_99 h
  replace h := za_ifn h q4
  by_cases q5 : x1 = 4
  · replace h := za_ifp h q5
    refine zt_tableIn C (off := 99) 100 dX9_count_1 (by rw [q5]; decide) (by rw [q5]; decide) (by rw [q5]; decide) (by decide) ?_
    refine zt_aload_n C 0 dX9_count_100 rfl rfl ?_
    refine zt_get C (za_mem (j := 0) rfl (by decide) (by decide)) pf_X9_10 (za_E_0 g cy M 0 0) rfl dX9_count_101 ?_
    refine zt_get C (za_mem (j := 1) rfl (by decide) (by decide)) pf_X9_57 (za_E_1 g cy M 0 0) rfl dX9_count_104 ?_
    refine zt_cVi C [] (m_X1_potsOfAll hJ (by decide) h) (za_mem (j := 2) rfl (by decide) (by decide)) (za_E_2 g cy M 0 0) rfl py_X1_potsOfAll pv_X9_336 (Nat.le_of_ble_eq_true rfl) ⟨Nat.le_of_ble_eq_true rfl, Nat.le_of_ble_eq_true rfl⟩ ⟨Nat.zero_le _, Nat.zero_le _⟩ dX9_count_107 rfl (fun r7 M6 h => ?_)
    exact zt_ret C hr hk rfl dX9_count_110 h
  replace h := za_ifn h q5
  by_cases q8 : x1 = 5
  · replace h := za_ifp h q8
    refine zt_tableIn C (off := 110) 111 dX9_count_1 (by rw [q8]; decide) (by rw [q8]; decide) (by rw [q8]; decide) (by decide) ?_
    refine zt_aload_n C 0 dX9_count_111 rfl rfl ?_
    refine zt_get C (za_mem (j := 0) rfl (by decide) (by decide)) pf_X9_10 (za_E_0 g cy M 0 0) rfl dX9_count_112 ?_
    refine zt_get C (za_mem (j := 1) rfl (by decide) (by decide)) pf_X9_57 (za_E_1 g cy M 0 0) rfl dX9_count_115 ?_
    refine zt_cVi C [] (m_X1_brokenOfAll hJ (by decide) h) (za_mem (j := 2) rfl (by decide) (by decide)) (za_E_2 g cy M 0 0) rfl py_X1_brokenOfAll pv_X9_278 (Nat.le_of_ble_eq_true rfl) ⟨Nat.le_of_ble_eq_true rfl, Nat.le_of_ble_eq_true rfl⟩ ⟨Nat.zero_le _, Nat.zero_le _⟩ dX9_count_118 rfl (fun r10 M9 h => ?_)
    exact zt_ret C hr hk rfl dX9_count_121 h
  replace h := za_ifn h q8
  by_cases q11 : x1 = 6
  · replace h := za_ifp h q11
    refine zt_tableIn C (off := 121) 122 dX9_count_1 (by rw [q11]; decide) (by rw [q11]; decide) (by rw [q11]; decide) (by decide) ?_
    refine zt_aload_n C 0 dX9_count_122 rfl rfl ?_
    refine zt_get C (za_mem (j := 0) rfl (by decide) (by decide)) pf_X9_10 (za_E_0 g cy M 0 0) rfl dX9_count_123 ?_
    refine zt_get C (za_mem (j := 1) rfl (by decide) (by decide)) pf_X9_137 (za_E_1 g cy M 0 0) rfl dX9_count_126 ?_
    exact zt_ret C hr hk rfl dX9_count_129 h
  replace h := za_ifn h q11
  by_cases q12 : x1 = 7
  · replace h := za_ifp h q12
    refine zt_tableIn C (off := 129) 130 dX9_count_1 (by rw [q12]; decide) (by rw [q12]; decide) (by rw [q12]; decide) (by decide) ?_
    refine zt_aload_n C 0 dX9_count_130 rfl rfl ?_
    refine zt_get C (za_mem (j := 0) rfl (by decide) (by decide)) pf_X9_10 (za_E_0 g cy M 0 0) rfl dX9_count_131 ?_
    refine zt_get C (za_mem (j := 1) rfl (by decide) (by decide)) pf_X9_330 (za_E_1 g cy M 0 0) rfl dX9_count_134 ?_
    exact zt_ret C hr hk rfl dX9_count_137 h
  replace h := za_ifn h q12
  by_cases q13 : x1 = 8
  · replace h := za_ifp h q13
    refine zt_tableIn C (off := 137) 138 dX9_count_1 (by rw [q13]; decide) (by rw [q13]; decide) (by rw [q13]; decide) (by decide) ?_
    refine zt_aload_n C 0 dX9_count_138 rfl rfl ?_
    refine zt_get C (za_mem (j := 0) rfl (by decide) (by decide)) pf_X9_36 (za_E_0 g cy M 0 0) rfl dX9_count_139 ?_
    refine zt_get C (za_mem (j := 8) rfl (by decide) (by decide)) pf_X9_297 (za_E_8 g cy M 0 0) rfl dX9_count_142 ?_
    exact zt_ret C hr hk rfl dX9_count_145 h
  replace h := za_ifn h q13
  by_cases q14 : x1 = 9
  · replace h := za_ifp h q14
    refine zt_tableIn C (off := 145) 146 dX9_count_1 (by rw [q14]; decide) (by rw [q14]; decide) (by rw [q14]; decide) (by decide) ?_
    refine zt_aload_n C 0 dX9_count_146 rfl rfl ?_
    refine zt_get C (za_mem (j := 0) rfl (by decide) (by decide)) pf_X9_10 (za_E_0 g cy M 0 0) rfl dX9_count_147 ?_
    refine zt_get C (za_mem (j := 1) rfl (by decide) (by decide)) pf_X9_290 (za_E_1 g cy M 0 0) rfl dX9_count_150 ?_
    exact zt_ret C hr hk rfl dX9_count_153 h
  replace h := za_ifn h q14
  have q1' := lv_neT (a := 0) q1 (by decide)
  have q2' := lv_neT (a := 1) q2 (by decide)
  have q3' := lv_neT (a := 2) q3 (by decide)
  have q4' := lv_neT (a := 3) q4 (by decide)
  have q5' := lv_neT (a := 4) q5 (by decide)
  have q8' := lv_neT (a := 5) q8 (by decide)
  have q11' := lv_neT (a := 6) q11 (by decide)
  have q12' := lv_neT (a := 7) q12 (by decide)
  have q13' := lv_neT (a := 8) q13 (by decide)
  have q14' := lv_neT (a := 9) q14 (by decide)
  refine zt_tableOut C 154 dX9_count_1 (by omega) (by decide) ?_
  refine zt_aload_n C 0 dX9_count_154 rfl rfl ?_
  refine zt_iconst C (v := 1) dX9_count_155 zk_i1 ?_
  refine zt_cVi C [.int 1] (m_X9_fail hJ  h) (za_mem (j := 0) rfl (by decide) (by decide)) (za_E_0 g cy M 0 0) rfl py_X9_fail pv_X9_64 (Nat.le_of_ble_eq_true rfl) ⟨Nat.le_of_ble_eq_true rfl, Nat.le_of_ble_eq_true rfl⟩ ⟨Nat.zero_le _, Nat.zero_le _⟩ dX9_count_156 rfl (fun r16 M15 h => ?_)
  exact zt_ret C hr hk rfl dX9_count_159 h
end
theorem m_X9_count {l : Launch} {g : za_L → Nat} {D : va_G} {cy : Nat → ClassId} (hJ : za_J g)  {x1 : Int32} {M : za_M} {K : Int32 → za_M → Prop} (h : f_X9_count x1 M K) : za_Mi l g D cy yX9_count cX9_count 2 (some .int) 3 107 [.ref (g (0, 0, 0)), .int x1] M K := za_openi hJ (by decide) (Nat.le_of_ble_eq_true rfl) (fun p e s m args below meth c C hr hk => p_X9_count hJ C hr hk  h)
/-! X9_told -/
def f_X9_told (x1 : Int32) (M : za_M) (K : Int32 → za_M → Prop) : Prop :=
  f_X9_within x1 1 5 M (fun r2 M1 => if r2 = 0 then (f_X9_fail 1 M1 (fun r6 M5 => K r6 M5)) else (vp_in x1 6 ∧ (K (M1.1 (24, 0, 0) x1.toNatClampNeg) M1)))
section
variable {p : Program} {l : Launch} {e : Env} {s : State} {m : MethodId} {args : Array Value} {below : List Frame} {meth : Method} {c : Code} {g : za_L → Nat} {D : va_G} {cy : Nat → ClassId} {K : Int32 → za_M → Prop}
set_option maxRecDepth 100000 in
set_option maxHeartbeats 4000000 in
theorem p_X9_told (hJ : za_J g) (C : za_C p s m args c cX9_told 2 RX9 g D cy) (hr : meth.sig.returnType = (some .int)) (hk : meth.locks = false) {x1 : Int32} {M : za_M} (h : f_X9_told x1 M K) : zt p l e (za_rm 3 107) s m args below meth c 0 0 (MQ below (za_Qi g D cy K) args s 0 0 (za_A g)) g D cy 2 M 0 [(0, .ref (g (0, 0, 0))), (1, .int x1)] [] := by
  unfold f_X9_told at h
  refine zt_iload_n C 1 dX9_told_0 rfl rfl ?_
  refine zt_iconst C (v := 1) dX9_told_1 zk_i1 ?_
  refine zt_iconst C (v := 5) dX9_told_2 zk_i5 ?_
  refine zt_cSi C [.int x1, .int 1, .int 5] (m_X9_within hJ  h) py_X9_within ps_X9_100 (Nat.le_of_ble_eq_true rfl) ⟨Nat.le_of_ble_eq_true rfl, Nat.le_of_ble_eq_true rfl⟩ ⟨Nat.zero_le _, Nat.zero_le _⟩ dX9_told_3 rfl (fun r2 M1 h => ?_)
  refine zt_if_ne C 15 dX9_told_6 (by decide) (fun q3 => ?_) (fun q3 => ?_)
  · replace h := za_ifn h q3
    refine zt_aload_n C 0 dX9_told_15 rfl rfl ?_
    refine zt_get C (za_mem (j := 0) rfl (by decide) (by decide)) pf_X9_46 (za_E_0 g cy M1 0 0) rfl dX9_told_16 ?_
    refine zt_iload_n C 1 dX9_told_19 rfl rfl ?_
    obtain ⟨g4, h⟩ := h
    refine zt_iald C (za_mem (j := 24) rfl (by decide) (by decide)) (fun W9 => za_E_24 g cy W9 0 0) g4 dX9_told_20 ?_
    exact zt_ret C hr hk rfl dX9_told_21 h
  · replace h := za_ifp h q3
    refine zt_aload_n C 0 dX9_told_9 rfl rfl ?_
    refine zt_iconst C (v := 1) dX9_told_10 zk_i1 ?_
    refine zt_cVi C [.int 1] (m_X9_fail hJ  h) (za_mem (j := 0) rfl (by decide) (by decide)) (za_E_0 g cy M1 0 0) rfl py_X9_fail pv_X9_64 (Nat.le_of_ble_eq_true rfl) ⟨Nat.le_of_ble_eq_true rfl, Nat.le_of_ble_eq_true rfl⟩ ⟨Nat.zero_le _, Nat.zero_le _⟩ dX9_told_11 rfl (fun r6 M5 h => ?_)
    exact zt_ret C hr hk rfl dX9_told_14 h
end
theorem m_X9_told {l : Launch} {g : za_L → Nat} {D : va_G} {cy : Nat → ClassId} (hJ : za_J g)  {x1 : Int32} {M : za_M} {K : Int32 → za_M → Prop} (h : f_X9_told x1 M K) : za_Mi l g D cy yX9_told cX9_told 2 (some .int) 3 107 [.ref (g (0, 0, 0)), .int x1] M K := za_openi hJ (by decide) (Nat.le_of_ble_eq_true rfl) (fun p e s m args below meth c C hr hk => p_X9_told hJ C hr hk  h)
/-! X10_finding -/
def f_X10_finding (x1 : Int32) (M : za_M) (K : Int32 → za_M → Prop) : Prop :=
  vp_in ((-1000000000) - x1) 6 ∧ (za_let ((M.1 (31, 0, 0) ((-1000000000) - x1).toNatClampNeg) + 1) fun y2 => vp_in ((-1000000000) - x1) 6 ∧ (za_let (za_up M (31, 0, 0) ((-1000000000) - x1).toNatClampNeg y2) fun M5 => K x1 M5))
section
variable {p : Program} {l : Launch} {e : Env} {s : State} {m : MethodId} {args : Array Value} {below : List Frame} {meth : Method} {c : Code} {g : za_L → Nat} {D : va_G} {cy : Nat → ClassId} {K : Int32 → za_M → Prop}
set_option maxRecDepth 100000 in
set_option maxHeartbeats 4000000 in
theorem p_X10_finding (hJ : za_J g) (C : za_C p s m args c cX10_finding 2 RX10 g D cy) (hr : meth.sig.returnType = (some .int)) (hk : meth.locks = false) {x1 : Int32} {M : za_M} (h : f_X10_finding x1 M K) : zt p l e (za_rm 1 64) s m args below meth c 0 0 (MQ below (za_Qi g D cy K) args s 0 0 (za_A g)) g D cy 2 M 0 [(0, .ref (g (27, 0, 0))), (1, .int x1)] [] := by
  unfold f_X10_finding at h
  refine zt_aload_n C 0 dX10_finding_0 rfl rfl ?_
  refine zt_get C (za_mem (j := 27) rfl (by decide) (by decide)) pf_X10_19 (za_E_27 g cy M 0 0) rfl dX10_finding_1 ?_
  refine zt_ldc C w_974 dX10_finding_4 ?_
  refine zt_iload_n C 1 dX10_finding_6 rfl rfl ?_
  refine zt_isub C dX10_finding_7 ?_
  refine zt_dup2_11 C dX10_finding_8 rfl rfl ?_
  obtain ⟨g1, h⟩ := h
  refine zt_iald C (za_mem (j := 31) rfl (by decide) (by decide)) (fun W9 => za_E_31 g cy W9 0 0) g1 dX10_finding_9 ?_
  refine zt_iconst C (v := 1) dX10_finding_10 zk_i1 ?_
  refine zt_iadd C dX10_finding_11 ?_
  refine zt_topi (fun y2 e3 => ?_)
  replace h := za_use h e3
  obtain ⟨g4, h⟩ := h
  refine zt_iast C (za_mem (j := 31) rfl (by decide) (by decide)) (fun W9 => za_E_31 g cy W9 0 0) g4 dX10_finding_12 ?_
  refine zt_topM (fun M5 e6 => ?_)
  replace h := za_use h e6
  refine zt_iload_n C 1 dX10_finding_13 rfl rfl ?_
  exact zt_ret C hr hk rfl dX10_finding_14 h
end
theorem m_X10_finding {l : Launch} {g : za_L → Nat} {D : va_G} {cy : Nat → ClassId} (hJ : za_J g)  {x1 : Int32} {M : za_M} {K : Int32 → za_M → Prop} (h : f_X10_finding x1 M K) : za_Mi l g D cy yX10_finding cX10_finding 2 (some .int) 1 64 [.ref (g (27, 0, 0)), .int x1] M K := za_openi hJ (by decide) (Nat.le_of_ble_eq_true rfl) (fun p e s m args below meth c C hr hk => p_X10_finding hJ C hr hk  h)
/-! X10_within -/
def f_X10_within_b14 (K : Int32 → za_M → Prop) (M : za_M) : Prop :=
  K 0 M
def f_X10_within (x0 : Int32) (x1 : Int32) (x2 : Int32) (M : za_M) (K : Int32 → za_M → Prop) : Prop :=
  if x0 < x1 then (f_X10_within_b14 K M) else (if x2 < x0 then (f_X10_within_b14 K M) else (K 1 M))
section
variable {p : Program} {l : Launch} {e : Env} {s : State} {m : MethodId} {args : Array Value} {below : List Frame} {meth : Method} {c : Code} {g : za_L → Nat} {D : va_G} {cy : Nat → ClassId} {K : Int32 → za_M → Prop}
set_option maxRecDepth 100000 in
set_option maxHeartbeats 4000000 in
theorem p_X10_within_b14 (hJ : za_J g) (C : za_C p s m args c cX10_within 3 RX10 g D cy) (hr : meth.sig.returnType = (some .boolean)) (hk : meth.locks = false) {M : za_M} (h : f_X10_within_b14 K M) : zt p l e (za_rm 1 64) s m args below meth c 0 0 (MQ below (za_Qi g D cy K) args s 0 0 (za_A g)) g D cy 3 M 14 [] [] := by
  unfold f_X10_within_b14 at h
  refine zt_iconst C (v := 0) dX10_within_14 zk_i0 ?_
  exact zt_ret C hr hk rfl dX10_within_15 h
set_option maxRecDepth 100000 in
set_option maxHeartbeats 4000000 in
theorem p_X10_within (hJ : za_J g) (C : za_C p s m args c cX10_within 3 RX10 g D cy) (hr : meth.sig.returnType = (some .boolean)) (hk : meth.locks = false) {x0 : Int32} {x1 : Int32} {x2 : Int32} {M : za_M} (h : f_X10_within x0 x1 x2 M K) : zt p l e (za_rm 1 64) s m args below meth c 0 0 (MQ below (za_Qi g D cy K) args s 0 0 (za_A g)) g D cy 3 M 0 [(0, .int x0), (1, .int x1), (2, .int x2)] [] := by
  unfold f_X10_within at h
  refine zt_iload_n C 0 dX10_within_0 rfl rfl ?_
  refine zt_iload_n C 1 dX10_within_1 rfl rfl ?_
  refine zt_icmp_lt C 14 dX10_within_2 (by decide) (fun q1 => ?_) (fun q1 => ?_)
  · replace h := za_ifp h q1
    refine zt_sub [] (lv' := []) rfl ?_
    exact p_X10_within_b14 hJ C hr hk  h
  · replace h := za_ifn h q1
    refine zt_iload_n C 0 dX10_within_5 rfl rfl ?_
    refine zt_iload_n C 2 dX10_within_6 rfl rfl ?_
    refine zt_icmp_gt C 14 dX10_within_7 (by decide) (fun q2 => ?_) (fun q2 => ?_)
    · replace h := za_ifp h q2
      refine zt_sub [] (lv' := []) rfl ?_
      exact p_X10_within_b14 hJ C hr hk  h
    · replace h := za_ifn h q2
      refine zt_iconst C (v := 1) dX10_within_10 zk_i1 ?_
      refine zt_goto C 15 dX10_within_11 (by decide) ?_
      exact zt_ret C hr hk rfl dX10_within_15 h
end
theorem m_X10_within {l : Launch} {g : za_L → Nat} {D : va_G} {cy : Nat → ClassId} (hJ : za_J g)  {x0 : Int32} {x1 : Int32} {x2 : Int32} {M : za_M} {K : Int32 → za_M → Prop} (h : f_X10_within x0 x1 x2 M K) : za_Mi l g D cy yX10_within cX10_within 3 (some .boolean) 1 64 [.int x0, .int x1, .int x2] M K := za_openi hJ (by decide) (Nat.le_of_ble_eq_true rfl) (fun p e s m args below meth c C hr hk => p_X10_within hJ C hr hk  h)
/-! X10_held -/
def f_X10_held (x0 : Int32) (x1 : Int32) (x2 : Int32) (M : za_M) (K : Int32 → za_M → Prop) : Prop :=
  K (za_max x1 (za_min x2 x0)) M
section
variable {p : Program} {l : Launch} {e : Env} {s : State} {m : MethodId} {args : Array Value} {below : List Frame} {meth : Method} {c : Code} {g : za_L → Nat} {D : va_G} {cy : Nat → ClassId} {K : Int32 → za_M → Prop}
set_option maxRecDepth 100000 in
set_option maxHeartbeats 4000000 in
theorem p_X10_held (hJ : za_J g) (C : za_C p s m args c cX10_held 3 RX10 g D cy) (hr : meth.sig.returnType = (some .int)) (hk : meth.locks = false) {x0 : Int32} {x1 : Int32} {x2 : Int32} {M : za_M} (h : f_X10_held x0 x1 x2 M K) : zt p l e (za_rm 1 64) s m args below meth c 0 0 (MQ below (za_Qi g D cy K) args s 0 0 (za_A g)) g D cy 3 M 0 [(0, .int x0), (1, .int x1), (2, .int x2)] [] := by
  unfold f_X10_held at h
  refine zt_iload_n C 1 dX10_held_0 rfl rfl ?_
  refine zt_iload_n C 2 dX10_held_1 rfl rfl ?_
  refine zt_iload_n C 0 dX10_held_2 rfl rfl ?_
  refine zt_mmin C w_1091 w_702 w_91 w_703 (Nat.le_of_ble_eq_true rfl) (Nat.le_of_ble_eq_true rfl) (Nat.zero_le _) (Nat.zero_le _) dX10_held_3 ?_
  refine zt_mmax C w_1092 w_1093 w_91 w_1094 (Nat.le_of_ble_eq_true rfl) (Nat.le_of_ble_eq_true rfl) (Nat.zero_le _) (Nat.zero_le _) dX10_held_6 ?_
  exact zt_ret C hr hk rfl dX10_held_9 h
end
theorem m_X10_held {l : Launch} {g : za_L → Nat} {D : va_G} {cy : Nat → ClassId} (hJ : za_J g)  {x0 : Int32} {x1 : Int32} {x2 : Int32} {M : za_M} {K : Int32 → za_M → Prop} (h : f_X10_held x0 x1 x2 M K) : za_Mi l g D cy yX10_held cX10_held 3 (some .int) 1 64 [.int x0, .int x1, .int x2] M K := za_openi hJ (by decide) (Nat.le_of_ble_eq_true rfl) (fun p e s m args below meth c C hr hk => p_X10_held hJ C hr hk  h)
/-! X10_copy -/
def f_X10_copy_b2 (K : za_M → Prop) (z0 : za_L) (z1 : za_L) (L2 : Int32 → za_M → Prop) (x2 : Int32) (M : za_M) : Prop :=
  if 279 ≤ x2 then (K M) else (vp_in x2 279 ∧ (za_let (M.1 z0 x2.toNatClampNeg) fun y3 => vp_in x2 279 ∧ (za_let (za_up M z1 x2.toNatClampNeg y3) fun M6 => L2 (x2 + 1) M6)))
def f_X10_copy (z0 : za_L) (z1 : za_L) (M : za_M) (K : za_M → Prop) : Prop :=
  ∃ n, za_lp1 (f_X10_copy_b2 K z0 z1) n 0 M
section
variable {p : Program} {l : Launch} {e : Env} {s : State} {m : MethodId} {args : Array Value} {below : List Frame} {meth : Method} {c : Code} {g : za_L → Nat} {D : va_G} {cy : Nat → ClassId} {K : za_M → Prop}
set_option maxRecDepth 100000 in
set_option maxHeartbeats 4000000 in
theorem p_X10_copy_b2 (hJ : za_J g) (C : za_C p s m args c cX10_copy 3 RX10 g D cy) (hr : meth.sig.returnType = none) (hk : meth.locks = false) {z0 : za_L} (hz0 : za_I 279 z0) {z1 : za_L} (hz1 : za_I 279 z1) {L2 : Int32 → za_M → Prop} (hL2 : ∀ (x2 : Int32) (M : za_M), L2 x2 M → zt p l e (za_rm 1 64) s m args below meth c 0 0 (MQ below (za_Qv g D cy K) args s 0 0 (za_A g)) g D cy 3 M 2 [(0, .ref (g z0)), (1, .ref (g z1)), (2, .int x2)] []) : ∀ (x2 : Int32) (M : za_M), f_X10_copy_b2 K z0 z1 L2 x2 M → zt p l e (za_rm 1 64) s m args below meth c 0 0 (MQ below (za_Qv g D cy K) args s 0 0 (za_A g)) g D cy 3 M 2 [(0, .ref (g z0)), (1, .ref (g z1)), (2, .int x2)] [] := by
  intro x2 M h
  unfold f_X10_copy_b2 at h
  refine zt_iload_n C 2 dX10_copy_2 rfl rfl ?_
  refine zt_sipush C (v := 279) dX10_copy_3 zk_s279 ?_
  refine zt_icmp_ge C 21 dX10_copy_6 (by decide) (fun q1 => ?_) (fun q1 => ?_)
  · replace h := za_ifp h q1
    exact zt_vret C hr hk dX10_copy_21 h
  · replace h := za_ifn h q1
    refine zt_aload_n C 1 dX10_copy_9 rfl rfl ?_
    refine zt_iload_n C 2 dX10_copy_10 rfl rfl ?_
    refine zt_aload_n C 0 dX10_copy_11 rfl rfl ?_
    refine zt_iload_n C 2 dX10_copy_12 rfl rfl ?_
    obtain ⟨g2, h⟩ := h
    refine zt_iald C hz0.1 (fun W9 => hz0.2 g cy W9) g2 dX10_copy_13 ?_
    refine zt_topi (fun y3 e4 => ?_)
    replace h := za_use h e4
    obtain ⟨g5, h⟩ := h
    refine zt_iast C hz1.1 (fun W9 => hz1.2 g cy W9) g5 dX10_copy_14 ?_
    refine zt_topM (fun M6 e7 => ?_)
    replace h := za_use h e7
    refine zt_iinc C (v := x2 + 1) 2 [(2, .int (x2 + 1)), (0, .ref (g z0)), (1, .ref (g z1))] dX10_copy_15 rfl (zk_n1 _) (by decide) rfl ?_
    refine zt_goto C 2 dX10_copy_18 (by decide) ?_
    refine zt_sub [1, 2, 0] (lv' := [(0, .ref (g z0)), (1, .ref (g z1)), (2, .int (x2 + 1))]) rfl ?_
    exact hL2 _ _ h
theorem p_X10_copy_b2_in (hJ : za_J g) (C : za_C p s m args c cX10_copy 3 RX10 g D cy) (hr : meth.sig.returnType = none) (hk : meth.locks = false) {z0 : za_L} (hz0 : za_I 279 z0) {z1 : za_L} (hz1 : za_I 279 z1) {n : Nat} {x2 : Int32} {M : za_M} (h : za_lp1 (f_X10_copy_b2 K z0 z1) n x2 M) : zt p l e (za_rm 1 64) s m args below meth c 0 0 (MQ below (za_Qv g D cy K) args s 0 0 (za_A g)) g D cy 3 M 2 [(0, .ref (g z0)), (1, .ref (g z1)), (2, .int x2)] [] := za_lp1_run (Z := fun x2 M => zt p l e (za_rm 1 64) s m args below meth c 0 0 (MQ below (za_Qv g D cy K) args s 0 0 (za_A g)) g D cy 3 M 2 [(0, .ref (g z0)), (1, .ref (g z1)), (2, .int x2)] []) (fun L hL => p_X10_copy_b2 hJ C hr hk hz0 hz1 hL) n x2 M h
set_option maxRecDepth 100000 in
set_option maxHeartbeats 4000000 in
theorem p_X10_copy (hJ : za_J g) (C : za_C p s m args c cX10_copy 3 RX10 g D cy) (hr : meth.sig.returnType = none) (hk : meth.locks = false) {z0 : za_L} (hz0 : za_I 279 z0) {z1 : za_L} (hz1 : za_I 279 z1) {M : za_M} (h : f_X10_copy z0 z1 M K) : zt p l e (za_rm 1 64) s m args below meth c 0 0 (MQ below (za_Qv g D cy K) args s 0 0 (za_A g)) g D cy 3 M 0 [(0, .ref (g z0)), (1, .ref (g z1))] [] := by
  unfold f_X10_copy at h
  refine zt_iconst C (v := 0) dX10_copy_0 zk_i0 ?_
  refine zt_istore_n C [(2, .int 0), (0, .ref (g z0)), (1, .ref (g z1))] dX10_copy_1 rfl (by decide) rfl ?_
  refine zt_sub [1, 2, 0] (lv' := [(0, .ref (g z0)), (1, .ref (g z1)), (2, .int 0)]) rfl ?_
  obtain ⟨n, h⟩ := h
  exact p_X10_copy_b2_in hJ C hr hk hz0 hz1 h
end
theorem m_X10_copy {l : Launch} {g : za_L → Nat} {D : va_G} {cy : Nat → ClassId} (hJ : za_J g)  {z0 : za_L} (hz0 : za_I 279 z0) {z1 : za_L} (hz1 : za_I 279 z1) {M : za_M} {K : za_M → Prop} (h : f_X10_copy z0 z1 M K) : za_Mv l g D cy yX10_copy cX10_copy 3 none 1 64 [.ref (g z0), .ref (g z1)] M K := za_openv hJ (by decide) (Nat.le_of_ble_eq_true rfl) (fun p e s m args below meth c C hr hk => p_X10_copy hJ C hr hk hz0 hz1 h)
/-! X10_turn -/
def f_X10_turn (x1 : Int32) (x2 : Int32) (M : za_M) (K : Int32 → za_M → Prop) : Prop :=
  vp_in x1 279 ∧ (za_let (M.1 (28, 0, 0) x1.toNatClampNeg) fun y2 => vp_in x1 279 ∧ (za_let (za_up M (28, 0, 0) x1.toNatClampNeg x2) fun M5 => K y2 M5))
section
variable {p : Program} {l : Launch} {e : Env} {s : State} {m : MethodId} {args : Array Value} {below : List Frame} {meth : Method} {c : Code} {g : za_L → Nat} {D : va_G} {cy : Nat → ClassId} {K : Int32 → za_M → Prop}
set_option maxRecDepth 100000 in
set_option maxHeartbeats 4000000 in
theorem p_X10_turn (hJ : za_J g) (C : za_C p s m args c cX10_turn 4 RX10 g D cy) (hr : meth.sig.returnType = (some .int)) (hk : meth.locks = false) {x1 : Int32} {x2 : Int32} {M : za_M} (h : f_X10_turn x1 x2 M K) : zt p l e (za_rm 1 64) s m args below meth c 0 0 (MQ below (za_Qi g D cy K) args s 0 0 (za_A g)) g D cy 4 M 0 [(0, .ref (g (27, 0, 0))), (1, .int x1), (2, .int x2)] [] := by
  unfold f_X10_turn at h
  refine zt_aload_n C 0 dX10_turn_0 rfl rfl ?_
  refine zt_get C (za_mem (j := 27) rfl (by decide) (by decide)) pf_X10_9 (za_E_27 g cy M 0 0) rfl dX10_turn_1 ?_
  refine zt_iload_n C 1 dX10_turn_4 rfl rfl ?_
  obtain ⟨g1, h⟩ := h
  refine zt_iald C (za_mem (j := 28) rfl (by decide) (by decide)) (fun W9 => za_E_28 g cy W9 0 0) g1 dX10_turn_5 ?_
  refine zt_topi (fun y2 e3 => ?_)
  replace h := za_use h e3
  refine zt_istore_n C [(3, .int y2), (0, .ref (g (27, 0, 0))), (1, .int x1), (2, .int x2)] dX10_turn_6 rfl (by decide) rfl ?_
  refine zt_aload_n C 1 dX10_turn_7 rfl rfl ?_
  refine zt_get C (za_mem (j := 27) rfl (by decide) (by decide)) pf_X10_9 (za_E_27 g cy M 0 0) rfl dX10_turn_8 ?_
  refine zt_iload_n C 2 dX10_turn_11 rfl rfl ?_
  refine zt_iload_n C 3 dX10_turn_12 rfl rfl ?_
  obtain ⟨g4, h⟩ := h
  refine zt_iast C (za_mem (j := 28) rfl (by decide) (by decide)) (fun W9 => za_E_28 g cy W9 0 0) g4 dX10_turn_13 ?_
  refine zt_topM (fun M5 e6 => ?_)
  replace h := za_use h e6
  refine zt_iload_n C 0 dX10_turn_14 rfl rfl ?_
  exact zt_ret C hr hk rfl dX10_turn_15 h
end
theorem m_X10_turn {l : Launch} {g : za_L → Nat} {D : va_G} {cy : Nat → ClassId} (hJ : za_J g)  {x1 : Int32} {x2 : Int32} {M : za_M} {K : Int32 → za_M → Prop} (h : f_X10_turn x1 x2 M K) : za_Mi l g D cy yX10_turn cX10_turn 4 (some .int) 1 64 [.ref (g (27, 0, 0)), .int x1, .int x2] M K := za_openi hJ (by decide) (Nat.le_of_ble_eq_true rfl) (fun p e s m args below meth c C hr hk => p_X10_turn hJ C hr hk  h)
/-! X10_putBack -/
def f_X10_putBack (x1 : Int32) (M : za_M) (K : Int32 → za_M → Prop) : Prop :=
  f_X10_copy (30, 0, 0) (28, 0, 0) M (fun M1 => K x1 M1)
section
variable {p : Program} {l : Launch} {e : Env} {s : State} {m : MethodId} {args : Array Value} {below : List Frame} {meth : Method} {c : Code} {g : za_L → Nat} {D : va_G} {cy : Nat → ClassId} {K : Int32 → za_M → Prop}
set_option maxRecDepth 100000 in
set_option maxHeartbeats 4000000 in
theorem p_X10_putBack (hJ : za_J g) (C : za_C p s m args c cX10_putBack 2 RX10 g D cy) (hr : meth.sig.returnType = (some .int)) (hk : meth.locks = false) {x1 : Int32} {M : za_M} (h : f_X10_putBack x1 M K) : zt p l e (za_rm 2 86) s m args below meth c 0 0 (MQ below (za_Qi g D cy K) args s 0 0 (za_A g)) g D cy 2 M 0 [(0, .ref (g (27, 0, 0))), (1, .int x1)] [] := by
  unfold f_X10_putBack at h
  refine zt_aload_n C 0 dX10_putBack_0 rfl rfl ?_
  refine zt_get C (za_mem (j := 27) rfl (by decide) (by decide)) pf_X10_16 (za_E_27 g cy M 0 0) rfl dX10_putBack_1 ?_
  refine zt_aload_n C 0 dX10_putBack_4 rfl rfl ?_
  refine zt_get C (za_mem (j := 27) rfl (by decide) (by decide)) pf_X10_9 (za_E_27 g cy M 0 0) rfl dX10_putBack_5 ?_
  refine zt_cSv C [.ref (g (30, 0, 0)), .ref (g (28, 0, 0))] (m_X10_copy hJ (za_I_of (za_mem (j := 30) rfl (by decide) (by decide)) (fun g9 cy9 W9 => za_E_30 g9 cy9 W9 0 0)) (za_I_of (za_mem (j := 28) rfl (by decide) (by decide)) (fun g9 cy9 W9 => za_E_28 g9 cy9 W9 0 0)) h) py_X10_copy ps_X10_66 (Nat.le_of_ble_eq_true rfl) ⟨Nat.le_of_ble_eq_true rfl, Nat.le_of_ble_eq_true rfl⟩ ⟨Nat.zero_le _, Nat.zero_le _⟩ dX10_putBack_8 rfl (fun M1 h => ?_)
  refine zt_iload_n C 1 dX10_putBack_11 rfl rfl ?_
  exact zt_ret C hr hk rfl dX10_putBack_12 h
end
theorem m_X10_putBack {l : Launch} {g : za_L → Nat} {D : va_G} {cy : Nat → ClassId} (hJ : za_J g)  {x1 : Int32} {M : za_M} {K : Int32 → za_M → Prop} (h : f_X10_putBack x1 M K) : za_Mi l g D cy yX10_putBack cX10_putBack 2 (some .int) 2 86 [.ref (g (27, 0, 0)), .int x1] M K := za_openi hJ (by decide) (Nat.le_of_ble_eq_true rfl) (fun p e s m args below meth c C hr hk => p_X10_putBack hJ C hr hk  h)
/-! X10_feed -/
def f_X10_feed_b40 (K : Int32 → za_M → Prop) (x1 : Int64) (x3 : Int32) (L40 : Int32 → za_M → Prop) (x4 : Int32) (M : za_M) : Prop :=
  if x3 ≤ x4 then (vp_in 5 279 ∧ (K (M.1 (28, 0, 0) (Int32.toNatClampNeg 5)) M)) else (vp_in 5 279 ∧ (za_let (((x1 >>> ((8 * x4).toInt64 &&& 63)) &&& 255).toInt32) fun y4 => vp_in (105 + (M.1 (28, 0, 0) (Int32.toNatClampNeg 5))) 279 ∧ (za_let (za_up M (28, 0, 0) (105 + (M.1 (28, 0, 0) (Int32.toNatClampNeg 5))).toNatClampNeg y4) fun M7 => vp_in 5 279 ∧ (za_let ((M7.1 (28, 0, 0) (Int32.toNatClampNeg 5)) + 1) fun y10 => vp_in 5 279 ∧ (za_let (za_up M7 (28, 0, 0) (Int32.toNatClampNeg 5) y10) fun M13 => L40 (x4 + 1) M13)))))
def f_X10_feed (x1 : Int64) (x3 : Int32) (M : za_M) (K : Int32 → za_M → Prop) : Prop :=
  f_X10_within x3 1 8 M (fun r16 M15 => if r16 = 0 then (f_X10_finding (-1000000001) M15 (fun r23 M22 => K r23 M22)) else (vp_in 5 279 ∧ (if ((M15.1 (28, 0, 0) (Int32.toNatClampNeg 5)) + x3) ≤ 50 then (∃ n, za_lp1 (f_X10_feed_b40 K x1 x3) n 0 M15) else (f_X10_finding (-1000000004) M15 (fun r21 M20 => K r21 M20)))))
section
variable {p : Program} {l : Launch} {e : Env} {s : State} {m : MethodId} {args : Array Value} {below : List Frame} {meth : Method} {c : Code} {g : za_L → Nat} {D : va_G} {cy : Nat → ClassId} {K : Int32 → za_M → Prop}
set_option maxRecDepth 100000 in
set_option maxHeartbeats 4000000 in
theorem p_X10_feed_b40 (hJ : za_J g) (C : za_C p s m args c cX10_feed 5 RX10 g D cy) (hr : meth.sig.returnType = (some .int)) (hk : meth.locks = false) {x1 : Int64} {x3 : Int32} {L40 : Int32 → za_M → Prop} (hL40 : ∀ (x4 : Int32) (M : za_M), L40 x4 M → zt p l e (za_rm 2 86) s m args below meth c 0 0 (MQ below (za_Qi g D cy K) args s 0 0 (za_A g)) g D cy 5 M 40 [(0, .ref (g (27, 0, 0))), (1, .long x1), (3, .int x3), (4, .int x4)] []) : ∀ (x4 : Int32) (M : za_M), f_X10_feed_b40 K x1 x3 L40 x4 M → zt p l e (za_rm 2 86) s m args below meth c 0 0 (MQ below (za_Qi g D cy K) args s 0 0 (za_A g)) g D cy 5 M 40 [(0, .ref (g (27, 0, 0))), (1, .long x1), (3, .int x3), (4, .int x4)] [] := by
  intro x4 M h
  unfold f_X10_feed_b40 at h
  refine zt_iload C 3 dX10_feed_40 rfl ?_
  refine zt_iload_n C 2 dX10_feed_42 rfl rfl ?_
  refine zt_icmp_ge C 88 dX10_feed_43 (by decide) (fun q1 => ?_) (fun q1 => ?_)
  · replace h := za_ifp h q1
    refine zt_aload_n C 0 dX10_feed_88 rfl rfl ?_
    refine zt_get C (za_mem (j := 27) rfl (by decide) (by decide)) pf_X10_9 (za_E_27 g cy M 0 0) rfl dX10_feed_89 ?_
    refine zt_iconst C (v := 5) dX10_feed_92 zk_i5 ?_
    obtain ⟨g2, h⟩ := h
    refine zt_iald C (za_mem (j := 28) rfl (by decide) (by decide)) (fun W9 => za_E_28 g cy W9 0 0) g2 dX10_feed_93 ?_
    exact zt_ret C hr hk rfl dX10_feed_94 h
  · replace h := za_ifn h q1
    refine zt_aload_n C 0 dX10_feed_46 rfl rfl ?_
    refine zt_get C (za_mem (j := 27) rfl (by decide) (by decide)) pf_X10_9 (za_E_27 g cy M 0 0) rfl dX10_feed_47 ?_
    refine zt_bipush C (v := 105) dX10_feed_50 zk_b105 ?_
    refine zt_aload_n C 0 dX10_feed_52 rfl rfl ?_
    refine zt_get C (za_mem (j := 27) rfl (by decide) (by decide)) pf_X10_9 (za_E_27 g cy M 0 0) rfl dX10_feed_53 ?_
    refine zt_iconst C (v := 5) dX10_feed_56 zk_i5 ?_
    obtain ⟨g3, h⟩ := h
    refine zt_iald C (za_mem (j := 28) rfl (by decide) (by decide)) (fun W9 => za_E_28 g cy W9 0 0) g3 dX10_feed_57 ?_
    refine zt_iadd C dX10_feed_58 ?_
    refine zt_lload_n C 1 dX10_feed_59 rfl rfl ?_
    refine zt_bipush C (v := 8) dX10_feed_60 zk_b8 ?_
    refine zt_iload C 3 dX10_feed_62 rfl ?_
    refine zt_imul C dX10_feed_64 ?_
    refine zt_lshr C dX10_feed_65 ?_
    refine zt_ldc2 C w_976 dX10_feed_66 ?_
    refine zt_land C dX10_feed_69 ?_
    refine zt_l2i C dX10_feed_70 ?_
    refine zt_topi (fun y4 e5 => ?_)
    replace h := za_use h e5
    obtain ⟨g6, h⟩ := h
    refine zt_iast C (za_mem (j := 28) rfl (by decide) (by decide)) (fun W9 => za_E_28 g cy W9 0 0) g6 dX10_feed_71 ?_
    refine zt_topM (fun M7 e8 => ?_)
    replace h := za_use h e8
    refine zt_aload_n C 0 dX10_feed_72 rfl rfl ?_
    refine zt_get C (za_mem (j := 27) rfl (by decide) (by decide)) pf_X10_9 (za_E_27 g cy M7 0 0) rfl dX10_feed_73 ?_
    refine zt_iconst C (v := 5) dX10_feed_76 zk_i5 ?_
    refine zt_dup2_11 C dX10_feed_77 rfl rfl ?_
    obtain ⟨g9, h⟩ := h
    refine zt_iald C (za_mem (j := 28) rfl (by decide) (by decide)) (fun W9 => za_E_28 g cy W9 0 0) g9 dX10_feed_78 ?_
    refine zt_iconst C (v := 1) dX10_feed_79 zk_i1 ?_
    refine zt_iadd C dX10_feed_80 ?_
    refine zt_topi (fun y10 e11 => ?_)
    replace h := za_use h e11
    obtain ⟨g12, h⟩ := h
    refine zt_iast C (za_mem (j := 28) rfl (by decide) (by decide)) (fun W9 => za_E_28 g cy W9 0 0) g12 dX10_feed_81 ?_
    refine zt_topM (fun M13 e14 => ?_)
    replace h := za_use h e14
    refine zt_iinc C (v := x4 + 1) 3 [(4, .int (x4 + 1)), (0, .ref (g (27, 0, 0))), (1, .long x1), (3, .int x3)] dX10_feed_82 rfl (zk_n1 _) (by decide) rfl ?_
    refine zt_goto C 40 dX10_feed_85 (by decide) ?_
    refine zt_sub [1, 2, 3, 0] (lv' := [(0, .ref (g (27, 0, 0))), (1, .long x1), (3, .int x3), (4, .int (x4 + 1))]) rfl ?_
    exact hL40 _ _ h
theorem p_X10_feed_b40_in (hJ : za_J g) (C : za_C p s m args c cX10_feed 5 RX10 g D cy) (hr : meth.sig.returnType = (some .int)) (hk : meth.locks = false) {x1 : Int64} {x3 : Int32} {n : Nat} {x4 : Int32} {M : za_M} (h : za_lp1 (f_X10_feed_b40 K x1 x3) n x4 M) : zt p l e (za_rm 2 86) s m args below meth c 0 0 (MQ below (za_Qi g D cy K) args s 0 0 (za_A g)) g D cy 5 M 40 [(0, .ref (g (27, 0, 0))), (1, .long x1), (3, .int x3), (4, .int x4)] [] := za_lp1_run (Z := fun x4 M => zt p l e (za_rm 2 86) s m args below meth c 0 0 (MQ below (za_Qi g D cy K) args s 0 0 (za_A g)) g D cy 5 M 40 [(0, .ref (g (27, 0, 0))), (1, .long x1), (3, .int x3), (4, .int x4)] []) (fun L hL => p_X10_feed_b40 hJ C hr hk  hL) n x4 M h
set_option maxRecDepth 100000 in
set_option maxHeartbeats 4000000 in
theorem p_X10_feed (hJ : za_J g) (C : za_C p s m args c cX10_feed 5 RX10 g D cy) (hr : meth.sig.returnType = (some .int)) (hk : meth.locks = false) {x1 : Int64} {x3 : Int32} {M : za_M} (h : f_X10_feed x1 x3 M K) : zt p l e (za_rm 2 86) s m args below meth c 0 0 (MQ below (za_Qi g D cy K) args s 0 0 (za_A g)) g D cy 5 M 0 [(0, .ref (g (27, 0, 0))), (1, .long x1), (3, .int x3)] [] := by
  unfold f_X10_feed at h
  refine zt_iload_n C 2 dX10_feed_0 rfl rfl ?_
  refine zt_iconst C (v := 1) dX10_feed_1 zk_i1 ?_
  refine zt_bipush C (v := 8) dX10_feed_2 zk_b8 ?_
  refine zt_cSi C [.int x3, .int 1, .int 8] (m_X10_within hJ  h) py_X10_within ps_X10_70 (Nat.le_of_ble_eq_true rfl) ⟨Nat.le_of_ble_eq_true rfl, Nat.le_of_ble_eq_true rfl⟩ ⟨Nat.zero_le _, Nat.zero_le _⟩ dX10_feed_4 rfl (fun r16 M15 h => ?_)
  refine zt_if_ne C 17 dX10_feed_7 (by decide) (fun q17 => ?_) (fun q17 => ?_)
  · replace h := za_ifn h q17
    refine zt_aload_n C 0 dX10_feed_17 rfl rfl ?_
    refine zt_get C (za_mem (j := 27) rfl (by decide) (by decide)) pf_X10_9 (za_E_27 g cy M15 0 0) rfl dX10_feed_18 ?_
    refine zt_iconst C (v := 5) dX10_feed_21 zk_i5 ?_
    obtain ⟨g18, h⟩ := h
    refine zt_iald C (za_mem (j := 28) rfl (by decide) (by decide)) (fun W9 => za_E_28 g cy W9 0 0) g18 dX10_feed_22 ?_
    refine zt_iload_n C 2 dX10_feed_23 rfl rfl ?_
    refine zt_iadd C dX10_feed_24 ?_
    refine zt_bipush C (v := 50) dX10_feed_25 zk_b50 ?_
    refine zt_icmp_le C 37 dX10_feed_27 (by decide) (fun q19 => ?_) (fun q19 => ?_)
    · replace h := za_ifp h q19
      refine zt_iconst C (v := 0) dX10_feed_37 zk_i0 ?_
      refine zt_istore C [(4, .int 0), (0, .ref (g (27, 0, 0))), (1, .long x1), (3, .int x3)] dX10_feed_38 (by decide) rfl ?_
      refine zt_sub [1, 2, 3, 0] (lv' := [(0, .ref (g (27, 0, 0))), (1, .long x1), (3, .int x3), (4, .int 0)]) rfl ?_
      obtain ⟨n, h⟩ := h
      exact p_X10_feed_b40_in hJ C hr hk  h
    · replace h := za_ifn h q19
      refine zt_aload_n C 0 dX10_feed_30 rfl rfl ?_
      refine zt_ldc C w_975 dX10_feed_31 ?_
      refine zt_cVi C [.int (-1000000004)] (m_X10_finding hJ  h) (za_mem (j := 27) rfl (by decide) (by decide)) (za_E_27 g cy M15 0 0) rfl py_X10_finding pv_X10_75 (Nat.le_of_ble_eq_true rfl) ⟨Nat.le_of_ble_eq_true rfl, Nat.le_of_ble_eq_true rfl⟩ ⟨Nat.zero_le _, Nat.zero_le _⟩ dX10_feed_33 rfl (fun r21 M20 h => ?_)
      exact zt_ret C hr hk rfl dX10_feed_36 h
  · replace h := za_ifp h q17
    refine zt_aload_n C 0 dX10_feed_10 rfl rfl ?_
    refine zt_ldc C w_969 dX10_feed_11 ?_
    refine zt_cVi C [.int (-1000000001)] (m_X10_finding hJ  h) (za_mem (j := 27) rfl (by decide) (by decide)) (za_E_27 g cy M15 0 0) rfl py_X10_finding pv_X10_75 (Nat.le_of_ble_eq_true rfl) ⟨Nat.le_of_ble_eq_true rfl, Nat.le_of_ble_eq_true rfl⟩ ⟨Nat.zero_le _, Nat.zero_le _⟩ dX10_feed_13 rfl (fun r23 M22 h => ?_)
    exact zt_ret C hr hk rfl dX10_feed_16 h
end
theorem m_X10_feed {l : Launch} {g : za_L → Nat} {D : va_G} {cy : Nat → ClassId} (hJ : za_J g)  {x1 : Int64} {x3 : Int32} {M : za_M} {K : Int32 → za_M → Prop} (h : f_X10_feed x1 x3 M K) : za_Mi l g D cy yX10_feed cX10_feed 5 (some .int) 2 86 [.ref (g (27, 0, 0)), .long x1, .int x3] M K := za_openi hJ (by decide) (Nat.le_of_ble_eq_true rfl) (fun p e s m args below meth c C hr hk => p_X10_feed hJ C hr hk  h)
/-! X10_here -/
def f_X10_here_b35 (K : Int32 → za_M → Prop) (M : za_M) : Prop :=
  K (-1) M
def f_X10_here (M : za_M) (K : Int32 → za_M → Prop) : Prop :=
  if (M.1 (27, 0, 0) 9) = 0 then (vp_in 5 279 ∧ (if (M.1 (28, 0, 0) (Int32.toNatClampNeg 5)) ≤ (M.1 (27, 0, 0) 6) then (f_X10_here_b35 K M) else (vp_in (105 + (M.1 (27, 0, 0) 6)) 279 ∧ (K (M.1 (28, 0, 0) (105 + (M.1 (27, 0, 0) 6)).toNatClampNeg) M)))) else (f_X10_here_b35 K M)
section
variable {p : Program} {l : Launch} {e : Env} {s : State} {m : MethodId} {args : Array Value} {below : List Frame} {meth : Method} {c : Code} {g : za_L → Nat} {D : va_G} {cy : Nat → ClassId} {K : Int32 → za_M → Prop}
set_option maxRecDepth 100000 in
set_option maxHeartbeats 4000000 in
theorem p_X10_here_b35 (hJ : za_J g) (C : za_C p s m args c cX10_here 1 RX10 g D cy) (hr : meth.sig.returnType = (some .int)) (hk : meth.locks = false) {M : za_M} (h : f_X10_here_b35 K M) : zt p l e (za_rm 1 64) s m args below meth c 0 0 (MQ below (za_Qi g D cy K) args s 0 0 (za_A g)) g D cy 1 M 35 [] [] := by
  unfold f_X10_here_b35 at h
  refine zt_iconst C (v := (-1)) dX10_here_35 zk_im1 ?_
  exact zt_ret C hr hk rfl dX10_here_36 h
set_option maxRecDepth 100000 in
set_option maxHeartbeats 4000000 in
theorem p_X10_here (hJ : za_J g) (C : za_C p s m args c cX10_here 1 RX10 g D cy) (hr : meth.sig.returnType = (some .int)) (hk : meth.locks = false) {M : za_M} (h : f_X10_here M K) : zt p l e (za_rm 1 64) s m args below meth c 0 0 (MQ below (za_Qi g D cy K) args s 0 0 (za_A g)) g D cy 1 M 0 [(0, .ref (g (27, 0, 0)))] [] := by
  unfold f_X10_here at h
  refine zt_aload_n C 0 dX10_here_0 rfl rfl ?_
  refine zt_get C (za_mem (j := 27) rfl (by decide) (by decide)) pf_X10_82 (za_E_27 g cy M 0 0) rfl dX10_here_1 ?_
  refine zt_if_ne C 35 dX10_here_4 (by decide) (fun q1 => ?_) (fun q1 => ?_)
  · replace h := za_ifn h q1
    refine zt_sub [] (lv' := []) rfl ?_
    exact p_X10_here_b35 hJ C hr hk  h
  · replace h := za_ifp h q1
    refine zt_aload_n C 0 dX10_here_7 rfl rfl ?_
    refine zt_get C (za_mem (j := 27) rfl (by decide) (by decide)) pf_X10_86 (za_E_27 g cy M 0 0) rfl dX10_here_8 ?_
    refine zt_aload_n C 0 dX10_here_11 rfl rfl ?_
    refine zt_get C (za_mem (j := 27) rfl (by decide) (by decide)) pf_X10_9 (za_E_27 g cy M 0 0) rfl dX10_here_12 ?_
    refine zt_iconst C (v := 5) dX10_here_15 zk_i5 ?_
    obtain ⟨g2, h⟩ := h
    refine zt_iald C (za_mem (j := 28) rfl (by decide) (by decide)) (fun W9 => za_E_28 g cy W9 0 0) g2 dX10_here_16 ?_
    refine zt_icmp_ge C 35 dX10_here_17 (by decide) (fun q3 => ?_) (fun q3 => ?_)
    · replace h := za_ifp h q3
      refine zt_sub [] (lv' := []) rfl ?_
      exact p_X10_here_b35 hJ C hr hk  h
    · replace h := za_ifn h q3
      refine zt_aload_n C 0 dX10_here_20 rfl rfl ?_
      refine zt_get C (za_mem (j := 27) rfl (by decide) (by decide)) pf_X10_9 (za_E_27 g cy M 0 0) rfl dX10_here_21 ?_
      refine zt_bipush C (v := 105) dX10_here_24 zk_b105 ?_
      refine zt_aload_n C 0 dX10_here_26 rfl rfl ?_
      refine zt_get C (za_mem (j := 27) rfl (by decide) (by decide)) pf_X10_86 (za_E_27 g cy M 0 0) rfl dX10_here_27 ?_
      refine zt_iadd C dX10_here_30 ?_
      obtain ⟨g4, h⟩ := h
      refine zt_iald C (za_mem (j := 28) rfl (by decide) (by decide)) (fun W9 => za_E_28 g cy W9 0 0) g4 dX10_here_31 ?_
      refine zt_goto C 36 dX10_here_32 (by decide) ?_
      exact zt_ret C hr hk rfl dX10_here_36 h
end
theorem m_X10_here {l : Launch} {g : za_L → Nat} {D : va_G} {cy : Nat → ClassId} (hJ : za_J g)  {M : za_M} {K : Int32 → za_M → Prop} (h : f_X10_here M K) : za_Mi l g D cy yX10_here cX10_here 1 (some .int) 1 64 [.ref (g (27, 0, 0))] M K := za_openi hJ (by decide) (Nat.le_of_ble_eq_true rfl) (fun p e s m args below meth c C hr hk => p_X10_here hJ C hr hk  h)

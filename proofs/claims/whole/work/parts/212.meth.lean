/-! X9_fewestFor -/
def f_X9_fewestFor_b79 (K : Int32 → za_M → Prop) (L26 : Int32 → Int32 → Int32 → za_M → Prop) (x1 : Int32) (x3 : Int32) (x4 : Int32) (x5 : Int32) (x6 : Int32) (M : za_M) : Prop :=
  L26 x4 x5 (x6 + 1) M
def f_X9_fewestFor_b57 (K : Int32 → za_M → Prop) (L26 : Int32 → Int32 → Int32 → za_M → Prop) (x1 : Int32) (x3 : Int32) (x4 : Int32) (x5 : Int32) (x6 : Int32) (x7 : Int32) (M : za_M) : Prop :=
  f_X9_colourOfChoice x6 M (fun r2 M1 => if r2 = x1 then (f_X9_mixOfChoice x6 M1 (fun r5 M4 => f_X9_fewestFor_b79 K L26 x1 x3 r5 x7 x6 M4)) else (f_X9_fewestFor_b79 K L26 x1 x3 x4 x5 x6 M1))
def f_X9_fewestFor_b26 (K : Int32 → za_M → Prop) (x1 : Int32) (x3 : Int32) (L26 : Int32 → Int32 → Int32 → za_M → Prop) (x4 : Int32) (x5 : Int32) (x6 : Int32) (M : za_M) : Prop :=
  if x3 ≤ x6 then (K x4 M) else (f_X9_bushelsOfChoice x6 M (fun r8 M7 => if r8 ≤ 0 then (f_X9_fewestFor_b79 K L26 x1 x3 x4 x5 x6 M7) else (if x4 = 0 then (f_X9_fewestFor_b57 K L26 x1 x3 x4 x5 x6 r8 M7) else (if x5 ≤ r8 then (f_X9_fewestFor_b79 K L26 x1 x3 x4 x5 x6 M7) else (f_X9_fewestFor_b57 K L26 x1 x3 x4 x5 x6 r8 M7)))))
def f_X9_fewestFor (x1 : Int32) (M : za_M) (K : Int32 → za_M → Prop) : Prop :=
  za_let (M.1 (2, 0, 0) 3) fun y12 => za_let ((1 : Int32) <<< ((2 * y12) &&& 31)) fun y14 => ∃ n, za_lp3 (f_X9_fewestFor_b26 K x1 y14) n 0 0 1 M
section
variable {p : Program} {l : Launch} {e : Env} {s : State} {m : MethodId} {args : Array Value} {below : List Frame} {meth : Method} {c : Code} {g : za_L → Nat} {D : va_G} {cy : Nat → ClassId} {K : Int32 → za_M → Prop}
set_option maxRecDepth 100000 in
set_option maxHeartbeats 4000000 in
theorem p_X9_fewestFor_b79 (hJ : za_J g) (C : za_C p s m args c cX9_fewestFor 8 RX9 g D cy) (hr : meth.sig.returnType = (some .int)) (hk : meth.locks = false) {x1 : Int32} {x3 : Int32} {x4 : Int32} {x5 : Int32} {x6 : Int32} {L26 : Int32 → Int32 → Int32 → za_M → Prop} (hL26 : ∀ (x4 : Int32) (x5 : Int32) (x6 : Int32) (M : za_M), L26 x4 x5 x6 M → zt p l e (za_rm 3 108) s m args below meth c 0 0 (MQ below (za_Qi g D cy K) args s 0 0 (za_A g)) g D cy 8 M 26 [(0, .ref (g (0, 0, 0))), (1, .int x1), (3, .int x3), (4, .int x4), (5, .int x5), (6, .int x6)] []) {M : za_M} (h : f_X9_fewestFor_b79 K L26 x1 x3 x4 x5 x6 M) : zt p l e (za_rm 3 108) s m args below meth c 0 0 (MQ below (za_Qi g D cy K) args s 0 0 (za_A g)) g D cy 8 M 79 [(0, .ref (g (0, 0, 0))), (1, .int x1), (3, .int x3), (4, .int x4), (5, .int x5), (6, .int x6)] [] := by
  unfold f_X9_fewestFor_b79 at h
  refine zt_iinc C (v := x6 + 1) 5 [(6, .int (x6 + 1)), (0, .ref (g (0, 0, 0))), (1, .int x1), (3, .int x3), (4, .int x4), (5, .int x5)] dX9_fewestFor_79 rfl (zk_n1 _) (by decide) rfl ?_
  refine zt_goto C 26 dX9_fewestFor_82 (by decide) ?_
  refine zt_sub [1, 2, 3, 4, 5, 0] (lv' := [(0, .ref (g (0, 0, 0))), (1, .int x1), (3, .int x3), (4, .int x4), (5, .int x5), (6, .int (x6 + 1))]) rfl ?_
  exact hL26 _ _ _ _ h
set_option maxRecDepth 100000 in
set_option maxHeartbeats 4000000 in
theorem p_X9_fewestFor_b57 (hJ : za_J g) (C : za_C p s m args c cX9_fewestFor 8 RX9 g D cy) (hr : meth.sig.returnType = (some .int)) (hk : meth.locks = false) {x1 : Int32} {x3 : Int32} {x4 : Int32} {x5 : Int32} {x6 : Int32} {x7 : Int32} {L26 : Int32 → Int32 → Int32 → za_M → Prop} (hL26 : ∀ (x4 : Int32) (x5 : Int32) (x6 : Int32) (M : za_M), L26 x4 x5 x6 M → zt p l e (za_rm 3 108) s m args below meth c 0 0 (MQ below (za_Qi g D cy K) args s 0 0 (za_A g)) g D cy 8 M 26 [(0, .ref (g (0, 0, 0))), (1, .int x1), (3, .int x3), (4, .int x4), (5, .int x5), (6, .int x6)] []) {M : za_M} (h : f_X9_fewestFor_b57 K L26 x1 x3 x4 x5 x6 x7 M) : zt p l e (za_rm 3 108) s m args below meth c 0 0 (MQ below (za_Qi g D cy K) args s 0 0 (za_A g)) g D cy 8 M 57 [(0, .ref (g (0, 0, 0))), (1, .int x1), (3, .int x3), (4, .int x4), (5, .int x5), (6, .int x6), (7, .int x7)] [] := by
  unfold f_X9_fewestFor_b57 at h
  refine zt_aload_n C 0 dX9_fewestFor_57 rfl rfl ?_
  refine zt_iload C 5 dX9_fewestFor_58 rfl ?_
  refine zt_cVi C [.int x6] (m_X9_colourOfChoice hJ  h) (za_mem (j := 0) rfl (by decide) (by decide)) (za_E_0 g cy M 0 0) rfl py_X9_colourOfChoice pv_X9_366 (Nat.le_of_ble_eq_true rfl) ⟨Nat.le_of_ble_eq_true rfl, Nat.le_of_ble_eq_true rfl⟩ ⟨Nat.zero_le _, Nat.zero_le _⟩ dX9_fewestFor_60 rfl (fun r2 M1 h => ?_)
  refine zt_iload_n C 1 dX9_fewestFor_63 rfl rfl ?_
  refine zt_icmp_ne C 79 dX9_fewestFor_64 (by decide) (fun q3 => ?_) (fun q3 => ?_)
  · replace h := za_ifn h q3
    refine zt_sub [0, 1, 2, 3, 4, 5] (lv' := [(0, .ref (g (0, 0, 0))), (1, .int x1), (3, .int x3), (4, .int x4), (5, .int x5), (6, .int x6)]) rfl ?_
    exact p_X9_fewestFor_b79 hJ C hr hk hL26 h
  · replace h := za_ifp h q3
    refine zt_aload_n C 0 dX9_fewestFor_67 rfl rfl ?_
    refine zt_iload C 5 dX9_fewestFor_68 rfl ?_
    refine zt_cVi C [.int x6] (m_X9_mixOfChoice hJ  h) (za_mem (j := 0) rfl (by decide) (by decide)) (za_E_0 g cy M1 0 0) rfl py_X9_mixOfChoice pv_X9_369 (Nat.le_of_ble_eq_true rfl) ⟨Nat.le_of_ble_eq_true rfl, Nat.le_of_ble_eq_true rfl⟩ ⟨Nat.zero_le _, Nat.zero_le _⟩ dX9_fewestFor_70 rfl (fun r5 M4 h => ?_)
    refine zt_istore C [(4, .int r5), (0, .ref (g (0, 0, 0))), (1, .int x1), (3, .int x3), (5, .int x5), (6, .int x6), (7, .int x7)] dX9_fewestFor_73 (by decide) rfl ?_
    refine zt_iload C 6 dX9_fewestFor_75 rfl ?_
    refine zt_istore C [(5, .int x7), (4, .int r5), (0, .ref (g (0, 0, 0))), (1, .int x1), (3, .int x3), (6, .int x6), (7, .int x7)] dX9_fewestFor_77 (by decide) rfl ?_
    refine zt_sub [2, 3, 4, 1, 0, 5] (lv' := [(0, .ref (g (0, 0, 0))), (1, .int x1), (3, .int x3), (4, .int r5), (5, .int x7), (6, .int x6)]) rfl ?_
    exact p_X9_fewestFor_b79 hJ C hr hk hL26 h
set_option maxRecDepth 100000 in
set_option maxHeartbeats 4000000 in
theorem p_X9_fewestFor_b26 (hJ : za_J g) (C : za_C p s m args c cX9_fewestFor 8 RX9 g D cy) (hr : meth.sig.returnType = (some .int)) (hk : meth.locks = false) {x1 : Int32} {x3 : Int32} {L26 : Int32 → Int32 → Int32 → za_M → Prop} (hL26 : ∀ (x4 : Int32) (x5 : Int32) (x6 : Int32) (M : za_M), L26 x4 x5 x6 M → zt p l e (za_rm 3 108) s m args below meth c 0 0 (MQ below (za_Qi g D cy K) args s 0 0 (za_A g)) g D cy 8 M 26 [(0, .ref (g (0, 0, 0))), (1, .int x1), (3, .int x3), (4, .int x4), (5, .int x5), (6, .int x6)] []) : ∀ (x4 : Int32) (x5 : Int32) (x6 : Int32) (M : za_M), f_X9_fewestFor_b26 K x1 x3 L26 x4 x5 x6 M → zt p l e (za_rm 3 108) s m args below meth c 0 0 (MQ below (za_Qi g D cy K) args s 0 0 (za_A g)) g D cy 8 M 26 [(0, .ref (g (0, 0, 0))), (1, .int x1), (3, .int x3), (4, .int x4), (5, .int x5), (6, .int x6)] [] := by
  intro x4 x5 x6 M h
  unfold f_X9_fewestFor_b26 at h
  refine zt_iload C 5 dX9_fewestFor_26 rfl ?_
  refine zt_iload_n C 2 dX9_fewestFor_28 rfl rfl ?_
  refine zt_icmp_ge C 85 dX9_fewestFor_29 (by decide) (fun q6 => ?_) (fun q6 => ?_)
  · replace h := za_ifp h q6
    refine zt_iload C 3 dX9_fewestFor_85 rfl ?_
    exact zt_ret C hr hk rfl dX9_fewestFor_87 h
  · replace h := za_ifn h q6
    refine zt_aload_n C 0 dX9_fewestFor_32 rfl rfl ?_
    refine zt_iload C 5 dX9_fewestFor_33 rfl ?_
    refine zt_cVi C [.int x6] (m_X9_bushelsOfChoice hJ  h) (za_mem (j := 0) rfl (by decide) (by decide)) (za_E_0 g cy M 0 0) rfl py_X9_bushelsOfChoice pv_X9_363 (Nat.le_of_ble_eq_true rfl) ⟨Nat.le_of_ble_eq_true rfl, Nat.le_of_ble_eq_true rfl⟩ ⟨Nat.zero_le _, Nat.zero_le _⟩ dX9_fewestFor_35 rfl (fun r8 M7 h => ?_)
    refine zt_istore C [(7, .int r8), (0, .ref (g (0, 0, 0))), (1, .int x1), (3, .int x3), (4, .int x4), (5, .int x5), (6, .int x6)] dX9_fewestFor_38 (by decide) rfl ?_
    refine zt_iload C 0 dX9_fewestFor_40 rfl ?_
    refine zt_if_le C 79 dX9_fewestFor_42 (by decide) (fun q9 => ?_) (fun q9 => ?_)
    · replace h := za_ifp h q9
      refine zt_sub [1, 2, 3, 4, 5, 6] (lv' := [(0, .ref (g (0, 0, 0))), (1, .int x1), (3, .int x3), (4, .int x4), (5, .int x5), (6, .int x6)]) rfl ?_
      exact p_X9_fewestFor_b79 hJ C hr hk hL26 h
    · replace h := za_ifn h q9
      refine zt_iload C 4 dX9_fewestFor_45 rfl ?_
      refine zt_if_eq C 57 dX9_fewestFor_47 (by decide) (fun q10 => ?_) (fun q10 => ?_)
      · replace h := za_ifp h q10
        refine zt_sub [1, 2, 3, 4, 5, 6, 0] (lv' := [(0, .ref (g (0, 0, 0))), (1, .int x1), (3, .int x3), (4, .int x4), (5, .int x5), (6, .int x6), (7, .int r8)]) rfl ?_
        exact p_X9_fewestFor_b57 hJ C hr hk hL26 h
      · replace h := za_ifn h q10
        refine zt_iload C 0 dX9_fewestFor_50 rfl ?_
        refine zt_iload C 5 dX9_fewestFor_52 rfl ?_
        refine zt_icmp_ge C 79 dX9_fewestFor_54 (by decide) (fun q11 => ?_) (fun q11 => ?_)
        · replace h := za_ifp h q11
          refine zt_sub [1, 2, 3, 4, 5, 6] (lv' := [(0, .ref (g (0, 0, 0))), (1, .int x1), (3, .int x3), (4, .int x4), (5, .int x5), (6, .int x6)]) rfl ?_
          exact p_X9_fewestFor_b79 hJ C hr hk hL26 h
        · replace h := za_ifn h q11
          refine zt_sub [1, 2, 3, 4, 5, 6, 0] (lv' := [(0, .ref (g (0, 0, 0))), (1, .int x1), (3, .int x3), (4, .int x4), (5, .int x5), (6, .int x6), (7, .int r8)]) rfl ?_
          exact p_X9_fewestFor_b57 hJ C hr hk hL26 h
theorem p_X9_fewestFor_b26_in (hJ : za_J g) (C : za_C p s m args c cX9_fewestFor 8 RX9 g D cy) (hr : meth.sig.returnType = (some .int)) (hk : meth.locks = false) {x1 : Int32} {x3 : Int32} {n : Nat} {x4 : Int32} {x5 : Int32} {x6 : Int32} {M : za_M} (h : za_lp3 (f_X9_fewestFor_b26 K x1 x3) n x4 x5 x6 M) : zt p l e (za_rm 3 108) s m args below meth c 0 0 (MQ below (za_Qi g D cy K) args s 0 0 (za_A g)) g D cy 8 M 26 [(0, .ref (g (0, 0, 0))), (1, .int x1), (3, .int x3), (4, .int x4), (5, .int x5), (6, .int x6)] [] := za_lp3_run (Z := fun x4 x5 x6 M => zt p l e (za_rm 3 108) s m args below meth c 0 0 (MQ below (za_Qi g D cy K) args s 0 0 (za_A g)) g D cy 8 M 26 [(0, .ref (g (0, 0, 0))), (1, .int x1), (3, .int x3), (4, .int x4), (5, .int x5), (6, .int x6)] []) (fun L hL => p_X9_fewestFor_b26 hJ C hr hk  hL) n x4 x5 x6 M h
set_option maxRecDepth 100000 in
set_option maxHeartbeats 4000000 in
theorem p_X9_fewestFor (hJ : za_J g) (C : za_C p s m args c cX9_fewestFor 8 RX9 g D cy) (hr : meth.sig.returnType = (some .int)) (hk : meth.locks = false) {x1 : Int32} {M : za_M} (h : f_X9_fewestFor x1 M K) : zt p l e (za_rm 3 108) s m args below meth c 0 0 (MQ below (za_Qi g D cy K) args s 0 0 (za_A g)) g D cy 8 M 0 [(0, .ref (g (0, 0, 0))), (1, .int x1)] [] := by
  unfold f_X9_fewestFor at h
  refine zt_aload_n C 0 dX9_fewestFor_0 rfl rfl ?_
  refine zt_get C (za_mem (j := 0) rfl (by decide) (by decide)) pf_X9_10 (za_E_0 g cy M 0 0) rfl dX9_fewestFor_1 ?_
  refine zt_get C (za_mem (j := 1) rfl (by decide) (by decide)) pf_X9_57 (za_E_1 g cy M 0 0) rfl dX9_fewestFor_4 ?_
  refine zt_get C (za_mem (j := 2) rfl (by decide) (by decide)) pf_X9_68 (za_E_2 g cy M 0 0) rfl dX9_fewestFor_7 ?_
  refine zt_topi (fun y12 e13 => ?_)
  replace h := za_use h e13
  refine zt_istore_n C [(2, .int y12), (0, .ref (g (0, 0, 0))), (1, .int x1)] dX9_fewestFor_10 rfl (by decide) rfl ?_
  refine zt_iconst C (v := 1) dX9_fewestFor_11 zk_i1 ?_
  refine zt_iconst C (v := 2) dX9_fewestFor_12 zk_i2 ?_
  refine zt_iload_n C 0 dX9_fewestFor_13 rfl rfl ?_
  refine zt_imul C dX9_fewestFor_14 ?_
  refine zt_ishl C dX9_fewestFor_15 ?_
  refine zt_topi (fun y14 e15 => ?_)
  replace h := za_use h e15
  refine zt_istore_n C [(3, .int y14), (2, .int y12), (0, .ref (g (0, 0, 0))), (1, .int x1)] dX9_fewestFor_16 rfl (by decide) rfl ?_
  refine zt_iconst C (v := 0) dX9_fewestFor_17 zk_i0 ?_
  refine zt_istore C [(4, .int 0), (3, .int y14), (2, .int y12), (0, .ref (g (0, 0, 0))), (1, .int x1)] dX9_fewestFor_18 (by decide) rfl ?_
  refine zt_iconst C (v := 0) dX9_fewestFor_20 zk_i0 ?_
  refine zt_istore C [(5, .int 0), (4, .int 0), (3, .int y14), (2, .int y12), (0, .ref (g (0, 0, 0))), (1, .int x1)] dX9_fewestFor_21 (by decide) rfl ?_
  refine zt_iconst C (v := 1) dX9_fewestFor_23 zk_i1 ?_
  refine zt_istore C [(6, .int 1), (5, .int 0), (4, .int 0), (3, .int y14), (2, .int y12), (0, .ref (g (0, 0, 0))), (1, .int x1)] dX9_fewestFor_24 (by decide) rfl ?_
  refine zt_sub [5, 6, 3, 2, 1, 0] (lv' := [(0, .ref (g (0, 0, 0))), (1, .int x1), (3, .int y14), (4, .int 0), (5, .int 0), (6, .int 1)]) rfl ?_
  obtain ⟨n, h⟩ := h
  exact p_X9_fewestFor_b26_in hJ C hr hk  h
end
theorem m_X9_fewestFor {l : Launch} {g : za_L → Nat} {D : va_G} {cy : Nat → ClassId} (hJ : za_J g)  {x1 : Int32} {M : za_M} {K : Int32 → za_M → Prop} (h : f_X9_fewestFor x1 M K) : za_Mi l g D cy yX9_fewestFor cX9_fewestFor 8 (some .int) 3 108 [.ref (g (0, 0, 0)), .int x1] M K := za_openi hJ (by decide) (Nat.le_of_ble_eq_true rfl) (fun p e s m args below meth c C hr hk => p_X9_fewestFor hJ C hr hk  h)
/-! X9_recipe -/
def f_X9_recipe (x1 : Int32) (x2 : Int32) (x3 : Int32) (M : za_M) (K : Int32 → za_M → Prop) : Prop :=
  f_X1_hasPotter 0 x1 M (fun r2 M1 => if r2 = 0 then (f_X9_fail 1 M1 (fun r5 M4 => K r5 M4)) else (f_X9_isColour x2 M1 (fun r7 M6 => if r7 = 0 then (f_X9_fail 1 M6 (fun r10 M9 => K r10 M9)) else (f_X9_isHeat x3 M6 (fun r12 M11 => if r12 = 0 then (f_X9_fail 1 M11 (fun r23 M22 => K r23 M22)) else (vp_in x1 4 ∧ (f_X9_prepareRecipes 0 x1.toNatClampNeg x3 M11 (fun M15 => f_X9_fewestFor x2 M15 (fun r18 M17 => if r18 = 0 then (f_X9_fail 2 M17 (fun r21 M20 => K r21 M20)) else (K r18 M17))))))))))
section
variable {p : Program} {l : Launch} {e : Env} {s : State} {m : MethodId} {args : Array Value} {below : List Frame} {meth : Method} {c : Code} {g : za_L → Nat} {D : va_G} {cy : Nat → ClassId} {K : Int32 → za_M → Prop}
set_option maxRecDepth 100000 in
set_option maxHeartbeats 4000000 in
theorem p_X9_recipe (hJ : za_J g) (C : za_C p s m args c cX9_recipe 5 RX9 g D cy) (hr : meth.sig.returnType = (some .int)) (hk : meth.locks = false) {x1 : Int32} {x2 : Int32} {x3 : Int32} {M : za_M} (h : f_X9_recipe x1 x2 x3 M K) : zt p l e (za_rm 6 183) s m args below meth c 0 0 (MQ below (za_Qi g D cy K) args s 0 0 (za_A g)) g D cy 5 M 0 [(0, .ref (g (0, 0, 0))), (1, .int x1), (2, .int x2), (3, .int x3)] [] := by
  unfold f_X9_recipe at h
  refine zt_aload_n C 0 dX9_recipe_0 rfl rfl ?_
  refine zt_get C (za_mem (j := 0) rfl (by decide) (by decide)) pf_X9_10 (za_E_0 g cy M 0 0) rfl dX9_recipe_1 ?_
  refine zt_get C (za_mem (j := 1) rfl (by decide) (by decide)) pf_X9_57 (za_E_1 g cy M 0 0) rfl dX9_recipe_4 ?_
  refine zt_iload_n C 1 dX9_recipe_7 rfl rfl ?_
  refine zt_cVi C [.int x1] (m_X1_hasPotter hJ (by decide) h) (za_mem (j := 2) rfl (by decide) (by decide)) (za_E_2 g cy M 0 0) rfl py_X1_hasPotter pv_X9_119 (Nat.le_of_ble_eq_true rfl) ⟨Nat.le_of_ble_eq_true rfl, Nat.le_of_ble_eq_true rfl⟩ ⟨Nat.zero_le _, Nat.zero_le _⟩ dX9_recipe_8 rfl (fun r2 M1 h => ?_)
  refine zt_if_eq C 28 dX9_recipe_11 (by decide) (fun q3 => ?_) (fun q3 => ?_)
  · replace h := za_ifp h q3
    refine zt_aload_n C 0 dX9_recipe_28 rfl rfl ?_
    refine zt_iconst C (v := 1) dX9_recipe_29 zk_i1 ?_
    refine zt_cVi C [.int 1] (m_X9_fail hJ  h) (za_mem (j := 0) rfl (by decide) (by decide)) (za_E_0 g cy M1 0 0) rfl py_X9_fail pv_X9_64 (Nat.le_of_ble_eq_true rfl) ⟨Nat.le_of_ble_eq_true rfl, Nat.le_of_ble_eq_true rfl⟩ ⟨Nat.zero_le _, Nat.zero_le _⟩ dX9_recipe_30 rfl (fun r5 M4 h => ?_)
    exact zt_ret C hr hk rfl dX9_recipe_33 h
  · replace h := za_ifn h q3
    refine zt_iload_n C 2 dX9_recipe_14 rfl rfl ?_
    refine zt_cSi C [.int x2] (m_X9_isColour hJ  h) py_X9_isColour ps_X9_245 (Nat.le_of_ble_eq_true rfl) ⟨Nat.le_of_ble_eq_true rfl, Nat.le_of_ble_eq_true rfl⟩ ⟨Nat.zero_le _, Nat.zero_le _⟩ dX9_recipe_15 rfl (fun r7 M6 h => ?_)
    refine zt_if_eq C 28 dX9_recipe_18 (by decide) (fun q8 => ?_) (fun q8 => ?_)
    · replace h := za_ifp h q8
      refine zt_aload_n C 0 dX9_recipe_28 rfl rfl ?_
      refine zt_iconst C (v := 1) dX9_recipe_29 zk_i1 ?_
      refine zt_cVi C [.int 1] (m_X9_fail hJ  h) (za_mem (j := 0) rfl (by decide) (by decide)) (za_E_0 g cy M6 0 0) rfl py_X9_fail pv_X9_64 (Nat.le_of_ble_eq_true rfl) ⟨Nat.le_of_ble_eq_true rfl, Nat.le_of_ble_eq_true rfl⟩ ⟨Nat.zero_le _, Nat.zero_le _⟩ dX9_recipe_30 rfl (fun r10 M9 h => ?_)
      exact zt_ret C hr hk rfl dX9_recipe_33 h
    · replace h := za_ifn h q8
      refine zt_iload_n C 3 dX9_recipe_21 rfl rfl ?_
      refine zt_cSi C [.int x3] (m_X9_isHeat hJ  h) py_X9_isHeat ps_X9_218 (Nat.le_of_ble_eq_true rfl) ⟨Nat.le_of_ble_eq_true rfl, Nat.le_of_ble_eq_true rfl⟩ ⟨Nat.zero_le _, Nat.zero_le _⟩ dX9_recipe_22 rfl (fun r12 M11 h => ?_)
      refine zt_if_ne C 34 dX9_recipe_25 (by decide) (fun q13 => ?_) (fun q13 => ?_)
      · replace h := za_ifn h q13
        refine zt_aload_n C 0 dX9_recipe_34 rfl rfl ?_
        refine zt_aload_n C 0 dX9_recipe_35 rfl rfl ?_
        refine zt_get C (za_mem (j := 0) rfl (by decide) (by decide)) pf_X9_10 (za_E_0 g cy M11 0 0) rfl dX9_recipe_36 ?_
        refine zt_get C (za_mem (j := 1) rfl (by decide) (by decide)) pf_X9_57 (za_E_1 g cy M11 0 0) rfl dX9_recipe_39 ?_
        refine zt_get C (za_mem (j := 2) rfl (by decide) (by decide)) pf_X9_111 (za_E_2 g cy M11 0 0) rfl dX9_recipe_42 ?_
        refine zt_iload_n C 1 dX9_recipe_45 rfl rfl ?_
        obtain ⟨g14, h⟩ := h
        refine zt_aald C (za_mem (j := 11) rfl (by decide) (by decide)) (za_E_11 g cy M11 0 0) rfl g14 dX9_recipe_46 ?_
        refine zt_iload_n C 3 dX9_recipe_47 rfl rfl ?_
        refine zt_cVv C [.ref (g (4, 0, x1.toNatClampNeg)), .int x3] (m_X9_prepareRecipes hJ (by decide) (za_lt g14) h) (za_mem (j := 0) rfl (by decide) (by decide)) (za_E_0 g cy M11 0 0) rfl py_X9_prepareRecipes pv_X9_248 (Nat.le_of_ble_eq_true rfl) ⟨Nat.le_of_ble_eq_true rfl, Nat.le_of_ble_eq_true rfl⟩ ⟨Nat.zero_le _, Nat.zero_le _⟩ dX9_recipe_48 rfl (fun M15 h => ?_)
        refine zt_aload_n C 0 dX9_recipe_51 rfl rfl ?_
        refine zt_iload_n C 2 dX9_recipe_52 rfl rfl ?_
        refine zt_cVi C [.int x2] (m_X9_fewestFor hJ  h) (za_mem (j := 0) rfl (by decide) (by decide)) (za_E_0 g cy M15 0 0) rfl py_X9_fewestFor pv_X9_252 (Nat.le_of_ble_eq_true rfl) ⟨Nat.le_of_ble_eq_true rfl, Nat.le_of_ble_eq_true rfl⟩ ⟨Nat.zero_le _, Nat.zero_le _⟩ dX9_recipe_53 rfl (fun r18 M17 h => ?_)
        refine zt_istore C [(4, .int r18), (0, .ref (g (0, 0, 0))), (1, .int x1), (2, .int x2), (3, .int x3)] dX9_recipe_56 (by decide) rfl ?_
        refine zt_iload C 0 dX9_recipe_58 rfl ?_
        refine zt_if_ne C 71 dX9_recipe_60 (by decide) (fun q19 => ?_) (fun q19 => ?_)
        · replace h := za_ifn h q19
          refine zt_iload C 0 dX9_recipe_71 rfl ?_
          exact zt_ret C hr hk rfl dX9_recipe_73 h
        · replace h := za_ifp h q19
          refine zt_aload_n C 1 dX9_recipe_63 rfl rfl ?_
          refine zt_iconst C (v := 2) dX9_recipe_64 zk_i2 ?_
          refine zt_cVi C [.int 2] (m_X9_fail hJ  h) (za_mem (j := 0) rfl (by decide) (by decide)) (za_E_0 g cy M17 0 0) rfl py_X9_fail pv_X9_64 (Nat.le_of_ble_eq_true rfl) ⟨Nat.le_of_ble_eq_true rfl, Nat.le_of_ble_eq_true rfl⟩ ⟨Nat.zero_le _, Nat.zero_le _⟩ dX9_recipe_65 rfl (fun r21 M20 h => ?_)
          refine zt_goto C 73 dX9_recipe_68 (by decide) ?_
          exact zt_ret C hr hk rfl dX9_recipe_73 h
      · replace h := za_ifp h q13
        refine zt_aload_n C 0 dX9_recipe_28 rfl rfl ?_
        refine zt_iconst C (v := 1) dX9_recipe_29 zk_i1 ?_
        refine zt_cVi C [.int 1] (m_X9_fail hJ  h) (za_mem (j := 0) rfl (by decide) (by decide)) (za_E_0 g cy M11 0 0) rfl py_X9_fail pv_X9_64 (Nat.le_of_ble_eq_true rfl) ⟨Nat.le_of_ble_eq_true rfl, Nat.le_of_ble_eq_true rfl⟩ ⟨Nat.zero_le _, Nat.zero_le _⟩ dX9_recipe_30 rfl (fun r23 M22 h => ?_)
        exact zt_ret C hr hk rfl dX9_recipe_33 h
end
theorem m_X9_recipe {l : Launch} {g : za_L → Nat} {D : va_G} {cy : Nat → ClassId} (hJ : za_J g)  {x1 : Int32} {x2 : Int32} {x3 : Int32} {M : za_M} {K : Int32 → za_M → Prop} (h : f_X9_recipe x1 x2 x3 M K) : za_Mi l g D cy yX9_recipe cX9_recipe 5 (some .int) 6 183 [.ref (g (0, 0, 0)), .int x1, .int x2, .int x3] M K := za_openi hJ (by decide) (Nat.le_of_ble_eq_true rfl) (fun p e s m args below meth c C hr hk => p_X9_recipe hJ C hr hk  h)
/-! X9_heatsGiving -/
def f_X9_heatsGiving_b30 (K : Int32 → za_M → Prop) (L5 : Int32 → Int32 → za_M → Prop) (x1 : Int32) (x2 : Int32) (x3 : Int32) (x4 : Int32) (M : za_M) : Prop :=
  L5 x3 (x4 + 1) M
def f_X9_heatsGiving_b5 (K : Int32 → za_M → Prop) (x1 : Int32) (x2 : Int32) (L5 : Int32 → Int32 → za_M → Prop) (x3 : Int32) (x4 : Int32) (M : za_M) : Prop :=
  if 10 ≤ x4 then (K x3 M) else (f_X9_colourOfMix x1 x4 M (fun r3 M2 => if r3 = x2 then (za_let (x3 ||| ((1 : Int32) <<< (x4 &&& 31))) fun y5 => f_X9_heatsGiving_b30 K L5 x1 x2 y5 x4 M2) else (f_X9_heatsGiving_b30 K L5 x1 x2 x3 x4 M2)))
def f_X9_heatsGiving (x1 : Int32) (x2 : Int32) (M : za_M) (K : Int32 → za_M → Prop) : Prop :=
  ∃ n, za_lp2 (f_X9_heatsGiving_b5 K x1 x2) n 0 0 M
section
variable {p : Program} {l : Launch} {e : Env} {s : State} {m : MethodId} {args : Array Value} {below : List Frame} {meth : Method} {c : Code} {g : za_L → Nat} {D : va_G} {cy : Nat → ClassId} {K : Int32 → za_M → Prop}
set_option maxRecDepth 100000 in
set_option maxHeartbeats 4000000 in
theorem p_X9_heatsGiving_b30 (hJ : za_J g) (C : za_C p s m args c cX9_heatsGiving 5 RX9 g D cy) (hr : meth.sig.returnType = (some .int)) (hk : meth.locks = false) {x1 : Int32} {x2 : Int32} {x3 : Int32} {x4 : Int32} {L5 : Int32 → Int32 → za_M → Prop} (hL5 : ∀ (x3 : Int32) (x4 : Int32) (M : za_M), L5 x3 x4 M → zt p l e (za_rm 6 186) s m args below meth c 0 0 (MQ below (za_Qi g D cy K) args s 0 0 (za_A g)) g D cy 5 M 5 [(0, .ref (g (0, 0, 0))), (1, .int x1), (2, .int x2), (3, .int x3), (4, .int x4)] []) {M : za_M} (h : f_X9_heatsGiving_b30 K L5 x1 x2 x3 x4 M) : zt p l e (za_rm 6 186) s m args below meth c 0 0 (MQ below (za_Qi g D cy K) args s 0 0 (za_A g)) g D cy 5 M 30 [(0, .ref (g (0, 0, 0))), (1, .int x1), (2, .int x2), (3, .int x3), (4, .int x4)] [] := by
  unfold f_X9_heatsGiving_b30 at h
  refine zt_iinc C (v := x4 + 1) 4 [(4, .int (x4 + 1)), (0, .ref (g (0, 0, 0))), (1, .int x1), (2, .int x2), (3, .int x3)] dX9_heatsGiving_30 rfl (zk_n1 _) (by decide) rfl ?_
  refine zt_goto C 5 dX9_heatsGiving_33 (by decide) ?_
  refine zt_sub [1, 2, 3, 4, 0] (lv' := [(0, .ref (g (0, 0, 0))), (1, .int x1), (2, .int x2), (3, .int x3), (4, .int (x4 + 1))]) rfl ?_
  exact hL5 _ _ _ h
set_option maxRecDepth 100000 in
set_option maxHeartbeats 4000000 in
theorem p_X9_heatsGiving_b5 (hJ : za_J g) (C : za_C p s m args c cX9_heatsGiving 5 RX9 g D cy) (hr : meth.sig.returnType = (some .int)) (hk : meth.locks = false) {x1 : Int32} {x2 : Int32} {L5 : Int32 → Int32 → za_M → Prop} (hL5 : ∀ (x3 : Int32) (x4 : Int32) (M : za_M), L5 x3 x4 M → zt p l e (za_rm 6 186) s m args below meth c 0 0 (MQ below (za_Qi g D cy K) args s 0 0 (za_A g)) g D cy 5 M 5 [(0, .ref (g (0, 0, 0))), (1, .int x1), (2, .int x2), (3, .int x3), (4, .int x4)] []) : ∀ (x3 : Int32) (x4 : Int32) (M : za_M), f_X9_heatsGiving_b5 K x1 x2 L5 x3 x4 M → zt p l e (za_rm 6 186) s m args below meth c 0 0 (MQ below (za_Qi g D cy K) args s 0 0 (za_A g)) g D cy 5 M 5 [(0, .ref (g (0, 0, 0))), (1, .int x1), (2, .int x2), (3, .int x3), (4, .int x4)] [] := by
  intro x3 x4 M h
  unfold f_X9_heatsGiving_b5 at h
  refine zt_iload C 4 dX9_heatsGiving_5 rfl ?_
  refine zt_bipush C (v := 10) dX9_heatsGiving_7 zk_b10 ?_
  refine zt_icmp_ge C 36 dX9_heatsGiving_9 (by decide) (fun q1 => ?_) (fun q1 => ?_)
  · replace h := za_ifp h q1
    refine zt_iload_n C 3 dX9_heatsGiving_36 rfl rfl ?_
    exact zt_ret C hr hk rfl dX9_heatsGiving_37 h
  · replace h := za_ifn h q1
    refine zt_aload_n C 0 dX9_heatsGiving_12 rfl rfl ?_
    refine zt_iload_n C 1 dX9_heatsGiving_13 rfl rfl ?_
    refine zt_iload C 4 dX9_heatsGiving_14 rfl ?_
    refine zt_cVi C [.int x1, .int x4] (m_X9_colourOfMix hJ  h) (za_mem (j := 0) rfl (by decide) (by decide)) (za_E_0 g cy M 0 0) rfl py_X9_colourOfMix pv_X9_224 (Nat.le_of_ble_eq_true rfl) ⟨Nat.le_of_ble_eq_true rfl, Nat.le_of_ble_eq_true rfl⟩ ⟨Nat.zero_le _, Nat.zero_le _⟩ dX9_heatsGiving_16 rfl (fun r3 M2 h => ?_)
    refine zt_iload_n C 2 dX9_heatsGiving_19 rfl rfl ?_
    refine zt_icmp_ne C 30 dX9_heatsGiving_20 (by decide) (fun q4 => ?_) (fun q4 => ?_)
    · replace h := za_ifn h q4
      exact p_X9_heatsGiving_b30 hJ C hr hk hL5 h
    · replace h := za_ifp h q4
      refine zt_iload_n C 3 dX9_heatsGiving_23 rfl rfl ?_
      refine zt_iconst C (v := 1) dX9_heatsGiving_24 zk_i1 ?_
      refine zt_iload C 4 dX9_heatsGiving_25 rfl ?_
      refine zt_ishl C dX9_heatsGiving_27 ?_
      refine zt_ior C dX9_heatsGiving_28 ?_
      refine zt_topi (fun y5 e6 => ?_)
      replace h := za_use h e6
      refine zt_istore_n C [(3, .int y5), (0, .ref (g (0, 0, 0))), (1, .int x1), (2, .int x2), (4, .int x4)] dX9_heatsGiving_29 rfl (by decide) rfl ?_
      refine zt_sub [1, 2, 3, 0, 4] (lv' := [(0, .ref (g (0, 0, 0))), (1, .int x1), (2, .int x2), (3, .int y5), (4, .int x4)]) rfl ?_
      exact p_X9_heatsGiving_b30 hJ C hr hk hL5 h
theorem p_X9_heatsGiving_b5_in (hJ : za_J g) (C : za_C p s m args c cX9_heatsGiving 5 RX9 g D cy) (hr : meth.sig.returnType = (some .int)) (hk : meth.locks = false) {x1 : Int32} {x2 : Int32} {n : Nat} {x3 : Int32} {x4 : Int32} {M : za_M} (h : za_lp2 (f_X9_heatsGiving_b5 K x1 x2) n x3 x4 M) : zt p l e (za_rm 6 186) s m args below meth c 0 0 (MQ below (za_Qi g D cy K) args s 0 0 (za_A g)) g D cy 5 M 5 [(0, .ref (g (0, 0, 0))), (1, .int x1), (2, .int x2), (3, .int x3), (4, .int x4)] [] := za_lp2_run (Z := fun x3 x4 M => zt p l e (za_rm 6 186) s m args below meth c 0 0 (MQ below (za_Qi g D cy K) args s 0 0 (za_A g)) g D cy 5 M 5 [(0, .ref (g (0, 0, 0))), (1, .int x1), (2, .int x2), (3, .int x3), (4, .int x4)] []) (fun L hL => p_X9_heatsGiving_b5 hJ C hr hk  hL) n x3 x4 M h
set_option maxRecDepth 100000 in
set_option maxHeartbeats 4000000 in
theorem p_X9_heatsGiving (hJ : za_J g) (C : za_C p s m args c cX9_heatsGiving 5 RX9 g D cy) (hr : meth.sig.returnType = (some .int)) (hk : meth.locks = false) {x1 : Int32} {x2 : Int32} {M : za_M} (h : f_X9_heatsGiving x1 x2 M K) : zt p l e (za_rm 6 186) s m args below meth c 0 0 (MQ below (za_Qi g D cy K) args s 0 0 (za_A g)) g D cy 5 M 0 [(0, .ref (g (0, 0, 0))), (1, .int x1), (2, .int x2)] [] := by
  unfold f_X9_heatsGiving at h
  refine zt_iconst C (v := 0) dX9_heatsGiving_0 zk_i0 ?_
  refine zt_istore_n C [(3, .int 0), (0, .ref (g (0, 0, 0))), (1, .int x1), (2, .int x2)] dX9_heatsGiving_1 rfl (by decide) rfl ?_
  refine zt_iconst C (v := 0) dX9_heatsGiving_2 zk_i0 ?_
  refine zt_istore C [(4, .int 0), (3, .int 0), (0, .ref (g (0, 0, 0))), (1, .int x1), (2, .int x2)] dX9_heatsGiving_3 (by decide) rfl ?_
  refine zt_sub [2, 3, 4, 1, 0] (lv' := [(0, .ref (g (0, 0, 0))), (1, .int x1), (2, .int x2), (3, .int 0), (4, .int 0)]) rfl ?_
  obtain ⟨n, h⟩ := h
  exact p_X9_heatsGiving_b5_in hJ C hr hk  h
end
theorem m_X9_heatsGiving {l : Launch} {g : za_L → Nat} {D : va_G} {cy : Nat → ClassId} (hJ : za_J g)  {x1 : Int32} {x2 : Int32} {M : za_M} {K : Int32 → za_M → Prop} (h : f_X9_heatsGiving x1 x2 M K) : za_Mi l g D cy yX9_heatsGiving cX9_heatsGiving 5 (some .int) 6 186 [.ref (g (0, 0, 0)), .int x1, .int x2] M K := za_openi hJ (by decide) (Nat.le_of_ble_eq_true rfl) (fun p e s m args below meth c C hr hk => p_X9_heatsGiving hJ C hr hk  h)
/-! X9_heats -/
def f_X9_heats (x1 : Int32) (x2 : Int32) (M : za_M) (K : Int32 → za_M → Prop) : Prop :=
  f_X9_isMix x1 M (fun r2 M1 => if r2 = 0 then (f_X9_fail 1 M1 (fun r5 M4 => K r5 M4)) else (f_X9_isColour x2 M1 (fun r7 M6 => if r7 = 0 then (f_X9_fail 1 M6 (fun r12 M11 => K r12 M11)) else (f_X9_heatsGiving x1 x2 M6 (fun r10 M9 => K r10 M9)))))
section
variable {p : Program} {l : Launch} {e : Env} {s : State} {m : MethodId} {args : Array Value} {below : List Frame} {meth : Method} {c : Code} {g : za_L → Nat} {D : va_G} {cy : Nat → ClassId} {K : Int32 → za_M → Prop}
set_option maxRecDepth 100000 in
set_option maxHeartbeats 4000000 in
theorem p_X9_heats (hJ : za_J g) (C : za_C p s m args c cX9_heats 3 RX9 g D cy) (hr : meth.sig.returnType = (some .int)) (hk : meth.locks = false) {x1 : Int32} {x2 : Int32} {M : za_M} (h : f_X9_heats x1 x2 M K) : zt p l e (za_rm 7 210) s m args below meth c 0 0 (MQ below (za_Qi g D cy K) args s 0 0 (za_A g)) g D cy 3 M 0 [(0, .ref (g (0, 0, 0))), (1, .int x1), (2, .int x2)] [] := by
  unfold f_X9_heats at h
  refine zt_aload_n C 0 dX9_heats_0 rfl rfl ?_
  refine zt_iload_n C 1 dX9_heats_1 rfl rfl ?_
  refine zt_cVi C [.int x1] (m_X9_isMix hJ  h) (za_mem (j := 0) rfl (by decide) (by decide)) (za_E_0 g cy M 0 0) rfl py_X9_isMix pv_X9_215 (Nat.le_of_ble_eq_true rfl) ⟨Nat.le_of_ble_eq_true rfl, Nat.le_of_ble_eq_true rfl⟩ ⟨Nat.zero_le _, Nat.zero_le _⟩ dX9_heats_2 rfl (fun r2 M1 h => ?_)
  refine zt_if_eq C 15 dX9_heats_5 (by decide) (fun q3 => ?_) (fun q3 => ?_)
  · replace h := za_ifp h q3
    refine zt_aload_n C 0 dX9_heats_15 rfl rfl ?_
    refine zt_iconst C (v := 1) dX9_heats_16 zk_i1 ?_
    refine zt_cVi C [.int 1] (m_X9_fail hJ  h) (za_mem (j := 0) rfl (by decide) (by decide)) (za_E_0 g cy M1 0 0) rfl py_X9_fail pv_X9_64 (Nat.le_of_ble_eq_true rfl) ⟨Nat.le_of_ble_eq_true rfl, Nat.le_of_ble_eq_true rfl⟩ ⟨Nat.zero_le _, Nat.zero_le _⟩ dX9_heats_17 rfl (fun r5 M4 h => ?_)
    exact zt_ret C hr hk rfl dX9_heats_20 h
  · replace h := za_ifn h q3
    refine zt_iload_n C 2 dX9_heats_8 rfl rfl ?_
    refine zt_cSi C [.int x2] (m_X9_isColour hJ  h) py_X9_isColour ps_X9_245 (Nat.le_of_ble_eq_true rfl) ⟨Nat.le_of_ble_eq_true rfl, Nat.le_of_ble_eq_true rfl⟩ ⟨Nat.zero_le _, Nat.zero_le _⟩ dX9_heats_9 rfl (fun r7 M6 h => ?_)
    refine zt_if_ne C 21 dX9_heats_12 (by decide) (fun q8 => ?_) (fun q8 => ?_)
    · replace h := za_ifn h q8
      refine zt_aload_n C 0 dX9_heats_21 rfl rfl ?_
      refine zt_iload_n C 1 dX9_heats_22 rfl rfl ?_
      refine zt_iload_n C 2 dX9_heats_23 rfl rfl ?_
      refine zt_cVi C [.int x1, .int x2] (m_X9_heatsGiving hJ  h) (za_mem (j := 0) rfl (by decide) (by decide)) (za_E_0 g cy M6 0 0) rfl py_X9_heatsGiving pv_X9_255 (Nat.le_of_ble_eq_true rfl) ⟨Nat.le_of_ble_eq_true rfl, Nat.le_of_ble_eq_true rfl⟩ ⟨Nat.zero_le _, Nat.zero_le _⟩ dX9_heats_24 rfl (fun r10 M9 h => ?_)
      exact zt_ret C hr hk rfl dX9_heats_27 h
    · replace h := za_ifp h q8
      refine zt_aload_n C 0 dX9_heats_15 rfl rfl ?_
      refine zt_iconst C (v := 1) dX9_heats_16 zk_i1 ?_
      refine zt_cVi C [.int 1] (m_X9_fail hJ  h) (za_mem (j := 0) rfl (by decide) (by decide)) (za_E_0 g cy M6 0 0) rfl py_X9_fail pv_X9_64 (Nat.le_of_ble_eq_true rfl) ⟨Nat.le_of_ble_eq_true rfl, Nat.le_of_ble_eq_true rfl⟩ ⟨Nat.zero_le _, Nat.zero_le _⟩ dX9_heats_17 rfl (fun r12 M11 h => ?_)
      exact zt_ret C hr hk rfl dX9_heats_20 h
end
theorem m_X9_heats {l : Launch} {g : za_L → Nat} {D : va_G} {cy : Nat → ClassId} (hJ : za_J g)  {x1 : Int32} {x2 : Int32} {M : za_M} {K : Int32 → za_M → Prop} (h : f_X9_heats x1 x2 M K) : za_Mi l g D cy yX9_heats cX9_heats 3 (some .int) 7 210 [.ref (g (0, 0, 0)), .int x1, .int x2] M K := za_openi hJ (by decide) (Nat.le_of_ble_eq_true rfl) (fun p e s m args below meth c C hr hk => p_X9_heats hJ C hr hk  h)
/-! X9_isSheet -/
def f_X9_isSheet (x0 : Int32) (M : za_M) (K : Int32 → za_M → Prop) : Prop :=
  f_X9_within x0 0 3 M (fun r2 M1 => za_B r2 ∧ (K r2 M1))
section
variable {p : Program} {l : Launch} {e : Env} {s : State} {m : MethodId} {args : Array Value} {below : List Frame} {meth : Method} {c : Code} {g : za_L → Nat} {D : va_G} {cy : Nat → ClassId} {K : Int32 → za_M → Prop}
set_option maxRecDepth 100000 in
set_option maxHeartbeats 4000000 in
theorem p_X9_isSheet (hJ : za_J g) (C : za_C p s m args c cX9_isSheet 1 RX9 g D cy) (hr : meth.sig.returnType = (some .boolean)) (hk : meth.locks = false) {x0 : Int32} {M : za_M} (h : f_X9_isSheet x0 M K) : zt p l e (za_rm 2 86) s m args below meth c 0 0 (MQ below (za_Qi g D cy K) args s 0 0 (za_A g)) g D cy 1 M 0 [(0, .int x0)] [] := by
  unfold f_X9_isSheet at h
  refine zt_iload_n C 0 dX9_isSheet_0 rfl rfl ?_
  refine zt_iconst C (v := 0) dX9_isSheet_1 zk_i0 ?_
  refine zt_iconst C (v := 3) dX9_isSheet_2 zk_i3 ?_
  refine zt_cSi C [.int x0, .int 0, .int 3] (m_X9_within hJ  h) py_X9_within ps_X9_100 (Nat.le_of_ble_eq_true rfl) ⟨Nat.le_of_ble_eq_true rfl, Nat.le_of_ble_eq_true rfl⟩ ⟨Nat.zero_le _, Nat.zero_le _⟩ dX9_isSheet_3 rfl (fun r2 M1 h => ?_)
  obtain ⟨g3, h⟩ := h
  exact zt_ret C hr hk (za_Bn g3) dX9_isSheet_6 h
end
theorem m_X9_isSheet {l : Launch} {g : za_L → Nat} {D : va_G} {cy : Nat → ClassId} (hJ : za_J g)  {x0 : Int32} {M : za_M} {K : Int32 → za_M → Prop} (h : f_X9_isSheet x0 M K) : za_Mi l g D cy yX9_isSheet cX9_isSheet 1 (some .boolean) 2 86 [.int x0] M K := za_openi hJ (by decide) (Nat.le_of_ble_eq_true rfl) (fun p e s m args below meth c C hr hk => p_X9_isSheet hJ C hr hk  h)
/-! X9_canHaveGiven -/
def f_X9_canHaveGiven_b39 (K : Int32 → za_M → Prop) (L2 : Int32 → za_M → Prop) (c1 : Nat) (i1 : Nat) (i2 : Nat) (x3 : Int32) (M : za_M) : Prop :=
  L2 (x3 + 1) M
def f_X9_canHaveGiven_b2 (K : Int32 → za_M → Prop) (c1 : Nat) (i1 : Nat) (i2 : Nat) (L2 : Int32 → za_M → Prop) (x3 : Int32) (M : za_M) : Prop :=
  if (M.1 (9, 0, i2) 2) ≤ x3 then (K 1 M) else (vp_in x3 40 ∧ (za_let (M.1 (23, 0, i2) x3.toNatClampNeg) fun y3 => if y3 < 0 then (f_X9_canHaveGiven_b39 K L2 c1 i1 i2 x3 M) else (f_X9_colourOfAsh c1 i1 x3 M (fun r7 M6 => f_X9_restByTen r7 M6 (fun r9 M8 => if y3 = r9 then (f_X9_canHaveGiven_b39 K L2 c1 i1 i2 x3 M8) else (K 0 M8))))))
def f_X9_canHaveGiven (c1 : Nat) (i1 : Nat) (i2 : Nat) (M : za_M) (K : Int32 → za_M → Prop) : Prop :=
  ∃ n, za_lp1 (f_X9_canHaveGiven_b2 K c1 i1 i2) n 0 M
section
variable {p : Program} {l : Launch} {e : Env} {s : State} {m : MethodId} {args : Array Value} {below : List Frame} {meth : Method} {c : Code} {g : za_L → Nat} {D : va_G} {cy : Nat → ClassId} {K : Int32 → za_M → Prop}
set_option maxRecDepth 100000 in
set_option maxHeartbeats 4000000 in
theorem p_X9_canHaveGiven_b39 (hJ : za_J g) (C : za_C p s m args c cX9_canHaveGiven 5 RX9 g D cy) (hr : meth.sig.returnType = (some .boolean)) (hk : meth.locks = false) {c1 : Nat} (hc1 : c1 < 3) {i1 : Nat} (hi1 : i1 < 5) {i2 : Nat} (hi2 : i2 < 4) {x3 : Int32} {L2 : Int32 → za_M → Prop} (hL2 : ∀ (x3 : Int32) (M : za_M), L2 x3 M → zt p l e (za_rm 5 159) s m args below meth c 0 0 (MQ below (za_Qi g D cy K) args s 0 0 (za_A g)) g D cy 5 M 2 [(0, .ref (g (0, 0, 0))), (1, .ref (g (3, c1, i1))), (2, .ref (g (9, 0, i2))), (3, .int x3)] []) {M : za_M} (h : f_X9_canHaveGiven_b39 K L2 c1 i1 i2 x3 M) : zt p l e (za_rm 5 159) s m args below meth c 0 0 (MQ below (za_Qi g D cy K) args s 0 0 (za_A g)) g D cy 5 M 39 [(0, .ref (g (0, 0, 0))), (1, .ref (g (3, c1, i1))), (2, .ref (g (9, 0, i2))), (3, .int x3)] [] := by
  unfold f_X9_canHaveGiven_b39 at h
  refine zt_iinc C (v := x3 + 1) 3 [(3, .int (x3 + 1)), (0, .ref (g (0, 0, 0))), (1, .ref (g (3, c1, i1))), (2, .ref (g (9, 0, i2)))] dX9_canHaveGiven_39 rfl (zk_n1 _) (by decide) rfl ?_
  refine zt_goto C 2 dX9_canHaveGiven_42 (by decide) ?_
  refine zt_sub [1, 2, 3, 0] (lv' := [(0, .ref (g (0, 0, 0))), (1, .ref (g (3, c1, i1))), (2, .ref (g (9, 0, i2))), (3, .int (x3 + 1))]) rfl ?_
  exact hL2 _ _ h
set_option maxRecDepth 100000 in
set_option maxHeartbeats 4000000 in
theorem p_X9_canHaveGiven_b2 (hJ : za_J g) (C : za_C p s m args c cX9_canHaveGiven 5 RX9 g D cy) (hr : meth.sig.returnType = (some .boolean)) (hk : meth.locks = false) {c1 : Nat} (hc1 : c1 < 3) {i1 : Nat} (hi1 : i1 < 5) {i2 : Nat} (hi2 : i2 < 4) {L2 : Int32 → za_M → Prop} (hL2 : ∀ (x3 : Int32) (M : za_M), L2 x3 M → zt p l e (za_rm 5 159) s m args below meth c 0 0 (MQ below (za_Qi g D cy K) args s 0 0 (za_A g)) g D cy 5 M 2 [(0, .ref (g (0, 0, 0))), (1, .ref (g (3, c1, i1))), (2, .ref (g (9, 0, i2))), (3, .int x3)] []) : ∀ (x3 : Int32) (M : za_M), f_X9_canHaveGiven_b2 K c1 i1 i2 L2 x3 M → zt p l e (za_rm 5 159) s m args below meth c 0 0 (MQ below (za_Qi g D cy K) args s 0 0 (za_A g)) g D cy 5 M 2 [(0, .ref (g (0, 0, 0))), (1, .ref (g (3, c1, i1))), (2, .ref (g (9, 0, i2))), (3, .int x3)] [] := by
  intro x3 M h
  unfold f_X9_canHaveGiven_b2 at h
  refine zt_iload_n C 3 dX9_canHaveGiven_2 rfl rfl ?_
  refine zt_aload_n C 2 dX9_canHaveGiven_3 rfl rfl ?_
  refine zt_get C (za_mem (j := 9) rfl (by decide) hi2) pf_X9_265 (za_E_9 g cy M 0 i2) rfl dX9_canHaveGiven_4 ?_
  refine zt_icmp_ge C 45 dX9_canHaveGiven_7 (by decide) (fun q1 => ?_) (fun q1 => ?_)
  · replace h := za_ifp h q1
    refine zt_iconst C (v := 1) dX9_canHaveGiven_45 zk_i1 ?_
    exact zt_ret C hr hk rfl dX9_canHaveGiven_46 h
  · replace h := za_ifn h q1
    refine zt_aload_n C 2 dX9_canHaveGiven_10 rfl rfl ?_
    refine zt_get C (za_mem (j := 9) rfl (by decide) hi2) pf_X9_315 (za_E_9 g cy M 0 i2) rfl dX9_canHaveGiven_11 ?_
    refine zt_iload_n C 3 dX9_canHaveGiven_14 rfl rfl ?_
    obtain ⟨g2, h⟩ := h
    refine zt_iald C (za_mem (j := 23) rfl (by decide) hi2) (fun W9 => za_E_23 g cy W9 0 i2) g2 dX9_canHaveGiven_15 ?_
    refine zt_topi (fun y3 e4 => ?_)
    replace h := za_use h e4
    refine zt_istore C [(4, .int y3), (0, .ref (g (0, 0, 0))), (1, .ref (g (3, c1, i1))), (2, .ref (g (9, 0, i2))), (3, .int x3)] dX9_canHaveGiven_16 (by decide) rfl ?_
    refine zt_iload C 0 dX9_canHaveGiven_18 rfl ?_
    refine zt_if_lt C 39 dX9_canHaveGiven_20 (by decide) (fun q5 => ?_) (fun q5 => ?_)
    · replace h := za_ifp h q5
      refine zt_sub [1, 2, 3, 4] (lv' := [(0, .ref (g (0, 0, 0))), (1, .ref (g (3, c1, i1))), (2, .ref (g (9, 0, i2))), (3, .int x3)]) rfl ?_
      exact p_X9_canHaveGiven_b39 hJ C hr hk hc1 hi1 hi2 hL2 h
    · replace h := za_ifn h q5
      refine zt_iload C 0 dX9_canHaveGiven_23 rfl ?_
      refine zt_aload_n C 1 dX9_canHaveGiven_25 rfl rfl ?_
      refine zt_aload_n C 2 dX9_canHaveGiven_26 rfl rfl ?_
      refine zt_iload_n C 4 dX9_canHaveGiven_27 rfl rfl ?_
      refine zt_cVi C [.ref (g (3, c1, i1)), .int x3] (m_X9_colourOfAsh hJ hc1 hi1 h) (za_mem (j := 0) rfl (by decide) (by decide)) (za_E_0 g cy M 0 0) rfl py_X9_colourOfAsh pv_X9_356 (Nat.le_of_ble_eq_true rfl) ⟨Nat.le_of_ble_eq_true rfl, Nat.le_of_ble_eq_true rfl⟩ ⟨Nat.zero_le _, Nat.zero_le _⟩ dX9_canHaveGiven_28 rfl (fun r7 M6 h => ?_)
      refine zt_cSi C [.int r7] (m_X9_restByTen hJ  h) py_X9_restByTen ps_X9_360 (Nat.le_of_ble_eq_true rfl) ⟨Nat.le_of_ble_eq_true rfl, Nat.le_of_ble_eq_true rfl⟩ ⟨Nat.zero_le _, Nat.zero_le _⟩ dX9_canHaveGiven_31 rfl (fun r9 M8 h => ?_)
      refine zt_icmp_eq C 39 dX9_canHaveGiven_34 (by decide) (fun q10 => ?_) (fun q10 => ?_)
      · replace h := za_ifp h q10
        refine zt_sub [1, 2, 3, 4] (lv' := [(0, .ref (g (0, 0, 0))), (1, .ref (g (3, c1, i1))), (2, .ref (g (9, 0, i2))), (3, .int x3)]) rfl ?_
        exact p_X9_canHaveGiven_b39 hJ C hr hk hc1 hi1 hi2 hL2 h
      · replace h := za_ifn h q10
        refine zt_iconst C (v := 0) dX9_canHaveGiven_37 zk_i0 ?_
        exact zt_ret C hr hk rfl dX9_canHaveGiven_38 h
theorem p_X9_canHaveGiven_b2_in (hJ : za_J g) (C : za_C p s m args c cX9_canHaveGiven 5 RX9 g D cy) (hr : meth.sig.returnType = (some .boolean)) (hk : meth.locks = false) {c1 : Nat} (hc1 : c1 < 3) {i1 : Nat} (hi1 : i1 < 5) {i2 : Nat} (hi2 : i2 < 4) {n : Nat} {x3 : Int32} {M : za_M} (h : za_lp1 (f_X9_canHaveGiven_b2 K c1 i1 i2) n x3 M) : zt p l e (za_rm 5 159) s m args below meth c 0 0 (MQ below (za_Qi g D cy K) args s 0 0 (za_A g)) g D cy 5 M 2 [(0, .ref (g (0, 0, 0))), (1, .ref (g (3, c1, i1))), (2, .ref (g (9, 0, i2))), (3, .int x3)] [] := za_lp1_run (Z := fun x3 M => zt p l e (za_rm 5 159) s m args below meth c 0 0 (MQ below (za_Qi g D cy K) args s 0 0 (za_A g)) g D cy 5 M 2 [(0, .ref (g (0, 0, 0))), (1, .ref (g (3, c1, i1))), (2, .ref (g (9, 0, i2))), (3, .int x3)] []) (fun L hL => p_X9_canHaveGiven_b2 hJ C hr hk hc1 hi1 hi2 hL) n x3 M h
set_option maxRecDepth 100000 in
set_option maxHeartbeats 4000000 in
theorem p_X9_canHaveGiven (hJ : za_J g) (C : za_C p s m args c cX9_canHaveGiven 5 RX9 g D cy) (hr : meth.sig.returnType = (some .boolean)) (hk : meth.locks = false) {c1 : Nat} (hc1 : c1 < 3) {i1 : Nat} (hi1 : i1 < 5) {i2 : Nat} (hi2 : i2 < 4) {M : za_M} (h : f_X9_canHaveGiven c1 i1 i2 M K) : zt p l e (za_rm 5 159) s m args below meth c 0 0 (MQ below (za_Qi g D cy K) args s 0 0 (za_A g)) g D cy 5 M 0 [(0, .ref (g (0, 0, 0))), (1, .ref (g (3, c1, i1))), (2, .ref (g (9, 0, i2)))] [] := by
  unfold f_X9_canHaveGiven at h
  refine zt_iconst C (v := 0) dX9_canHaveGiven_0 zk_i0 ?_
  refine zt_istore_n C [(3, .int 0), (0, .ref (g (0, 0, 0))), (1, .ref (g (3, c1, i1))), (2, .ref (g (9, 0, i2)))] dX9_canHaveGiven_1 rfl (by decide) rfl ?_
  refine zt_sub [1, 2, 3, 0] (lv' := [(0, .ref (g (0, 0, 0))), (1, .ref (g (3, c1, i1))), (2, .ref (g (9, 0, i2))), (3, .int 0)]) rfl ?_
  obtain ⟨n, h⟩ := h
  exact p_X9_canHaveGiven_b2_in hJ C hr hk hc1 hi1 hi2 h
end
theorem m_X9_canHaveGiven {l : Launch} {g : za_L → Nat} {D : va_G} {cy : Nat → ClassId} (hJ : za_J g)  {c1 : Nat} (hc1 : c1 < 3) {i1 : Nat} (hi1 : i1 < 5) {i2 : Nat} (hi2 : i2 < 4) {M : za_M} {K : Int32 → za_M → Prop} (h : f_X9_canHaveGiven c1 i1 i2 M K) : za_Mi l g D cy yX9_canHaveGiven cX9_canHaveGiven 5 (some .boolean) 5 159 [.ref (g (0, 0, 0)), .ref (g (3, c1, i1)), .ref (g (9, 0, i2))] M K := za_openi hJ (by decide) (Nat.le_of_ble_eq_true rfl) (fun p e s m args below meth c C hr hk => p_X9_canHaveGiven hJ C hr hk hc1 hi1 hi2 h)
/-! X9_burnt -/
def f_X9_burnt_b94 (K : Int32 → za_M → Prop) (L49 : Int32 → Int32 → za_M → Prop) (x1 : Int32) (x2 : Int32) (x3 : Int32) (M : za_M) : Prop :=
  L49 x2 (x3 + 1) M
def f_X9_burnt_b49 (K : Int32 → za_M → Prop) (x1 : Int32) (L49 : Int32 → Int32 → za_M → Prop) (x2 : Int32) (x3 : Int32) (M : za_M) : Prop :=
  if (M.1 (2, 0, 0) 3) ≤ x3 then (K x2 M) else (vp_in x3 5 ∧ (vp_in x1 4 ∧ (f_X9_canHaveGiven 0 x3.toNatClampNeg x1.toNatClampNeg M (fun r5 M4 => if r5 = 0 then (f_X9_burnt_b94 K L49 x1 x2 x3 M4) else (za_let (x2 ||| ((1 : Int32) <<< (x3 &&& 31))) fun y7 => f_X9_burnt_b94 K L49 x1 y7 x3 M4)))))
def f_X9_burnt (x1 : Int32) (M : za_M) (K : Int32 → za_M → Prop) : Prop :=
  f_X9_isSheet x1 M (fun r10 M9 => if r10 = 0 then (f_X9_fail 1 M9 (fun r23 M22 => K r23 M22)) else (vp_in x1 4 ∧ (f_X6_isMissing x1.toNatClampNeg M9 (fun r14 M13 => if r14 = 0 then (vp_in x1 4 ∧ (if (M13.1 (9, 0, x1.toNatClampNeg) 2) ≤ 10 then (∃ n, za_lp2 (f_X9_burnt_b49 K x1) n 0 0 M13) else (f_X9_fail 2 M13 (fun r21 M20 => K r21 M20)))) else (f_X9_fail 2 M13 (fun r17 M16 => K r17 M16))))))
section
variable {p : Program} {l : Launch} {e : Env} {s : State} {m : MethodId} {args : Array Value} {below : List Frame} {meth : Method} {c : Code} {g : za_L → Nat} {D : va_G} {cy : Nat → ClassId} {K : Int32 → za_M → Prop}
set_option maxRecDepth 100000 in
set_option maxHeartbeats 4000000 in
theorem p_X9_burnt_b94 (hJ : za_J g) (C : za_C p s m args c cX9_burnt 4 RX9 g D cy) (hr : meth.sig.returnType = (some .int)) (hk : meth.locks = false) {x1 : Int32} {x2 : Int32} {x3 : Int32} {L49 : Int32 → Int32 → za_M → Prop} (hL49 : ∀ (x2 : Int32) (x3 : Int32) (M : za_M), L49 x2 x3 M → zt p l e (za_rm 6 183) s m args below meth c 0 0 (MQ below (za_Qi g D cy K) args s 0 0 (za_A g)) g D cy 4 M 49 [(0, .ref (g (0, 0, 0))), (1, .int x1), (2, .int x2), (3, .int x3)] []) {M : za_M} (h : f_X9_burnt_b94 K L49 x1 x2 x3 M) : zt p l e (za_rm 6 183) s m args below meth c 0 0 (MQ below (za_Qi g D cy K) args s 0 0 (za_A g)) g D cy 4 M 94 [(0, .ref (g (0, 0, 0))), (1, .int x1), (2, .int x2), (3, .int x3)] [] := by
  unfold f_X9_burnt_b94 at h
  refine zt_iinc C (v := x3 + 1) 3 [(3, .int (x3 + 1)), (0, .ref (g (0, 0, 0))), (1, .int x1), (2, .int x2)] dX9_burnt_94 rfl (zk_n1 _) (by decide) rfl ?_
  refine zt_goto C 49 dX9_burnt_97 (by decide) ?_
  refine zt_sub [1, 2, 3, 0] (lv' := [(0, .ref (g (0, 0, 0))), (1, .int x1), (2, .int x2), (3, .int (x3 + 1))]) rfl ?_
  exact hL49 _ _ _ h
set_option maxRecDepth 100000 in
set_option maxHeartbeats 4000000 in
theorem p_X9_burnt_b49 (hJ : za_J g) (C : za_C p s m args c cX9_burnt 4 RX9 g D cy) (hr : meth.sig.returnType = (some .int)) (hk : meth.locks = false) {x1 : Int32} {L49 : Int32 → Int32 → za_M → Prop} (hL49 : ∀ (x2 : Int32) (x3 : Int32) (M : za_M), L49 x2 x3 M → zt p l e (za_rm 6 183) s m args below meth c 0 0 (MQ below (za_Qi g D cy K) args s 0 0 (za_A g)) g D cy 4 M 49 [(0, .ref (g (0, 0, 0))), (1, .int x1), (2, .int x2), (3, .int x3)] []) : ∀ (x2 : Int32) (x3 : Int32) (M : za_M), f_X9_burnt_b49 K x1 L49 x2 x3 M → zt p l e (za_rm 6 183) s m args below meth c 0 0 (MQ below (za_Qi g D cy K) args s 0 0 (za_A g)) g D cy 4 M 49 [(0, .ref (g (0, 0, 0))), (1, .int x1), (2, .int x2), (3, .int x3)] [] := by
  intro x2 x3 M h
  unfold f_X9_burnt_b49 at h
  refine zt_iload_n C 3 dX9_burnt_49 rfl rfl ?_
  refine zt_aload_n C 0 dX9_burnt_50 rfl rfl ?_
  refine zt_get C (za_mem (j := 0) rfl (by decide) (by decide)) pf_X9_10 (za_E_0 g cy M 0 0) rfl dX9_burnt_51 ?_
  refine zt_get C (za_mem (j := 1) rfl (by decide) (by decide)) pf_X9_57 (za_E_1 g cy M 0 0) rfl dX9_burnt_54 ?_
  refine zt_get C (za_mem (j := 2) rfl (by decide) (by decide)) pf_X9_68 (za_E_2 g cy M 0 0) rfl dX9_burnt_57 ?_
  refine zt_icmp_ge C 100 dX9_burnt_60 (by decide) (fun q1 => ?_) (fun q1 => ?_)
  · replace h := za_ifp h q1
    refine zt_iload_n C 2 dX9_burnt_100 rfl rfl ?_
    exact zt_ret C hr hk rfl dX9_burnt_101 h
  · replace h := za_ifn h q1
    refine zt_aload_n C 0 dX9_burnt_63 rfl rfl ?_
    refine zt_aload_n C 0 dX9_burnt_64 rfl rfl ?_
    refine zt_get C (za_mem (j := 0) rfl (by decide) (by decide)) pf_X9_10 (za_E_0 g cy M 0 0) rfl dX9_burnt_65 ?_
    refine zt_get C (za_mem (j := 1) rfl (by decide) (by decide)) pf_X9_57 (za_E_1 g cy M 0 0) rfl dX9_burnt_68 ?_
    refine zt_get C (za_mem (j := 2) rfl (by decide) (by decide)) pf_X9_72 (za_E_2 g cy M 0 0) rfl dX9_burnt_71 ?_
    refine zt_iload_n C 3 dX9_burnt_74 rfl rfl ?_
    obtain ⟨g2, h⟩ := h
    refine zt_aald C (za_mem (j := 10) rfl (by decide) (by decide)) (za_E_10 g cy M 0 0) rfl g2 dX9_burnt_75 ?_
    refine zt_aload_n C 0 dX9_burnt_76 rfl rfl ?_
    refine zt_get C (za_mem (j := 0) rfl (by decide) (by decide)) pf_X9_42 (za_E_0 g cy M 0 0) rfl dX9_burnt_77 ?_
    refine zt_iload_n C 1 dX9_burnt_80 rfl rfl ?_
    obtain ⟨g3, h⟩ := h
    refine zt_aald C (za_mem (j := 22) rfl (by decide) (by decide)) (za_E_22 g cy M 0 0) rfl g3 dX9_burnt_81 ?_
    refine zt_cVi C [.ref (g (3, 0, x3.toNatClampNeg)), .ref (g (9, 0, x1.toNatClampNeg))] (m_X9_canHaveGiven hJ (by decide) (za_lt g2) (za_lt g3) h) (za_mem (j := 0) rfl (by decide) (by decide)) (za_E_0 g cy M 0 0) rfl py_X9_canHaveGiven pv_X9_266 (Nat.le_of_ble_eq_true rfl) ⟨Nat.le_of_ble_eq_true rfl, Nat.le_of_ble_eq_true rfl⟩ ⟨Nat.zero_le _, Nat.zero_le _⟩ dX9_burnt_82 rfl (fun r5 M4 h => ?_)
    refine zt_if_eq C 94 dX9_burnt_85 (by decide) (fun q6 => ?_) (fun q6 => ?_)
    · replace h := za_ifp h q6
      exact p_X9_burnt_b94 hJ C hr hk hL49 h
    · replace h := za_ifn h q6
      refine zt_iload_n C 2 dX9_burnt_88 rfl rfl ?_
      refine zt_iconst C (v := 1) dX9_burnt_89 zk_i1 ?_
      refine zt_iload_n C 3 dX9_burnt_90 rfl rfl ?_
      refine zt_ishl C dX9_burnt_91 ?_
      refine zt_ior C dX9_burnt_92 ?_
      refine zt_topi (fun y7 e8 => ?_)
      replace h := za_use h e8
      refine zt_istore_n C [(2, .int y7), (0, .ref (g (0, 0, 0))), (1, .int x1), (3, .int x3)] dX9_burnt_93 rfl (by decide) rfl ?_
      refine zt_sub [1, 2, 0, 3] (lv' := [(0, .ref (g (0, 0, 0))), (1, .int x1), (2, .int y7), (3, .int x3)]) rfl ?_
      exact p_X9_burnt_b94 hJ C hr hk hL49 h
theorem p_X9_burnt_b49_in (hJ : za_J g) (C : za_C p s m args c cX9_burnt 4 RX9 g D cy) (hr : meth.sig.returnType = (some .int)) (hk : meth.locks = false) {x1 : Int32} {n : Nat} {x2 : Int32} {x3 : Int32} {M : za_M} (h : za_lp2 (f_X9_burnt_b49 K x1) n x2 x3 M) : zt p l e (za_rm 6 183) s m args below meth c 0 0 (MQ below (za_Qi g D cy K) args s 0 0 (za_A g)) g D cy 4 M 49 [(0, .ref (g (0, 0, 0))), (1, .int x1), (2, .int x2), (3, .int x3)] [] := za_lp2_run (Z := fun x2 x3 M => zt p l e (za_rm 6 183) s m args below meth c 0 0 (MQ below (za_Qi g D cy K) args s 0 0 (za_A g)) g D cy 4 M 49 [(0, .ref (g (0, 0, 0))), (1, .int x1), (2, .int x2), (3, .int x3)] []) (fun L hL => p_X9_burnt_b49 hJ C hr hk  hL) n x2 x3 M h
set_option maxRecDepth 100000 in
set_option maxHeartbeats 4000000 in
theorem p_X9_burnt (hJ : za_J g) (C : za_C p s m args c cX9_burnt 4 RX9 g D cy) (hr : meth.sig.returnType = (some .int)) (hk : meth.locks = false) {x1 : Int32} {M : za_M} (h : f_X9_burnt x1 M K) : zt p l e (za_rm 6 183) s m args below meth c 0 0 (MQ below (za_Qi g D cy K) args s 0 0 (za_A g)) g D cy 4 M 0 [(0, .ref (g (0, 0, 0))), (1, .int x1)] [] := by
  unfold f_X9_burnt at h
  refine zt_iload_n C 1 dX9_burnt_0 rfl rfl ?_
  refine zt_cSi C [.int x1] (m_X9_isSheet hJ  h) py_X9_isSheet ps_X9_258 (Nat.le_of_ble_eq_true rfl) ⟨Nat.le_of_ble_eq_true rfl, Nat.le_of_ble_eq_true rfl⟩ ⟨Nat.zero_le _, Nat.zero_le _⟩ dX9_burnt_1 rfl (fun r10 M9 h => ?_)
  refine zt_if_ne C 13 dX9_burnt_4 (by decide) (fun q11 => ?_) (fun q11 => ?_)
  · replace h := za_ifn h q11
    refine zt_aload_n C 0 dX9_burnt_13 rfl rfl ?_
    refine zt_get C (za_mem (j := 0) rfl (by decide) (by decide)) pf_X9_42 (za_E_0 g cy M9 0 0) rfl dX9_burnt_14 ?_
    refine zt_iload_n C 1 dX9_burnt_17 rfl rfl ?_
    obtain ⟨g12, h⟩ := h
    refine zt_aald C (za_mem (j := 22) rfl (by decide) (by decide)) (za_E_22 g cy M9 0 0) rfl g12 dX9_burnt_18 ?_
    refine zt_cVi C [] (m_X6_isMissing hJ (za_lt g12) h) (za_mem (j := 9) rfl (by decide) (za_lt g12)) (za_E_9 g cy M9 0 x1.toNatClampNeg) rfl py_X6_isMissing pv_X9_261 (Nat.le_of_ble_eq_true rfl) ⟨Nat.le_of_ble_eq_true rfl, Nat.le_of_ble_eq_true rfl⟩ ⟨Nat.zero_le _, Nat.zero_le _⟩ dX9_burnt_19 rfl (fun r14 M13 h => ?_)
    refine zt_if_ne C 39 dX9_burnt_22 (by decide) (fun q15 => ?_) (fun q15 => ?_)
    · replace h := za_ifn h q15
      refine zt_aload_n C 0 dX9_burnt_39 rfl rfl ?_
      refine zt_iconst C (v := 2) dX9_burnt_40 zk_i2 ?_
      refine zt_cVi C [.int 2] (m_X9_fail hJ  h) (za_mem (j := 0) rfl (by decide) (by decide)) (za_E_0 g cy M13 0 0) rfl py_X9_fail pv_X9_64 (Nat.le_of_ble_eq_true rfl) ⟨Nat.le_of_ble_eq_true rfl, Nat.le_of_ble_eq_true rfl⟩ ⟨Nat.zero_le _, Nat.zero_le _⟩ dX9_burnt_41 rfl (fun r17 M16 h => ?_)
      exact zt_ret C hr hk rfl dX9_burnt_44 h
    · replace h := za_ifp h q15
      refine zt_aload_n C 0 dX9_burnt_25 rfl rfl ?_
      refine zt_get C (za_mem (j := 0) rfl (by decide) (by decide)) pf_X9_42 (za_E_0 g cy M13 0 0) rfl dX9_burnt_26 ?_
      refine zt_iload_n C 1 dX9_burnt_29 rfl rfl ?_
      obtain ⟨g18, h⟩ := h
      refine zt_aald C (za_mem (j := 22) rfl (by decide) (by decide)) (za_E_22 g cy M13 0 0) rfl g18 dX9_burnt_30 ?_
      refine zt_get C (za_mem (j := 9) rfl (by decide) (za_lt g18)) pf_X9_265 (za_E_9 g cy M13 0 x1.toNatClampNeg) rfl dX9_burnt_31 ?_
      refine zt_bipush C (v := 10) dX9_burnt_34 zk_b10 ?_
      refine zt_icmp_le C 45 dX9_burnt_36 (by decide) (fun q19 => ?_) (fun q19 => ?_)
      · replace h := za_ifp h q19
        refine zt_iconst C (v := 0) dX9_burnt_45 zk_i0 ?_
        refine zt_istore_n C [(2, .int 0), (0, .ref (g (0, 0, 0))), (1, .int x1)] dX9_burnt_46 rfl (by decide) rfl ?_
        refine zt_iconst C (v := 0) dX9_burnt_47 zk_i0 ?_
        refine zt_istore_n C [(3, .int 0), (2, .int 0), (0, .ref (g (0, 0, 0))), (1, .int x1)] dX9_burnt_48 rfl (by decide) rfl ?_
        refine zt_sub [2, 3, 1, 0] (lv' := [(0, .ref (g (0, 0, 0))), (1, .int x1), (2, .int 0), (3, .int 0)]) rfl ?_
        obtain ⟨n, h⟩ := h
        exact p_X9_burnt_b49_in hJ C hr hk  h
      · replace h := za_ifn h q19
        refine zt_aload_n C 0 dX9_burnt_39 rfl rfl ?_
        refine zt_iconst C (v := 2) dX9_burnt_40 zk_i2 ?_
        refine zt_cVi C [.int 2] (m_X9_fail hJ  h) (za_mem (j := 0) rfl (by decide) (by decide)) (za_E_0 g cy M13 0 0) rfl py_X9_fail pv_X9_64 (Nat.le_of_ble_eq_true rfl) ⟨Nat.le_of_ble_eq_true rfl, Nat.le_of_ble_eq_true rfl⟩ ⟨Nat.zero_le _, Nat.zero_le _⟩ dX9_burnt_41 rfl (fun r21 M20 h => ?_)
        exact zt_ret C hr hk rfl dX9_burnt_44 h
  · replace h := za_ifp h q11
    refine zt_aload_n C 0 dX9_burnt_7 rfl rfl ?_
    refine zt_iconst C (v := 1) dX9_burnt_8 zk_i1 ?_
    refine zt_cVi C [.int 1] (m_X9_fail hJ  h) (za_mem (j := 0) rfl (by decide) (by decide)) (za_E_0 g cy M9 0 0) rfl py_X9_fail pv_X9_64 (Nat.le_of_ble_eq_true rfl) ⟨Nat.le_of_ble_eq_true rfl, Nat.le_of_ble_eq_true rfl⟩ ⟨Nat.zero_le _, Nat.zero_le _⟩ dX9_burnt_9 rfl (fun r23 M22 h => ?_)
    exact zt_ret C hr hk rfl dX9_burnt_12 h
end
theorem m_X9_burnt {l : Launch} {g : za_L → Nat} {D : va_G} {cy : Nat → ClassId} (hJ : za_J g)  {x1 : Int32} {M : za_M} {K : Int32 → za_M → Prop} (h : f_X9_burnt x1 M K) : za_Mi l g D cy yX9_burnt cX9_burnt 4 (some .int) 6 183 [.ref (g (0, 0, 0)), .int x1] M K := za_openi hJ (by decide) (Nat.le_of_ble_eq_true rfl) (fun p e s m args below meth c C hr hk => p_X9_burnt hJ C hr hk  h)

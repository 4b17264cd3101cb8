/-! X0_begin -/
def f_X0_begin (c0 : Nat) (i0 : Nat) (x1 : Int32) (M : za_M) (K : za_M → Prop) : Prop :=
  za_let (x1 / 10) fun y1 => za_let (za_up M (3, c0, i0) 0 y1) fun M3 => za_let (x1 - x1 / 10 * 10) fun y5 => za_let (za_up M3 (3, c0, i0) 1 y5) fun M7 => za_let (za_up M7 (3, c0, i0) 2 0) fun M9 => za_let (za_up M9 (3, c0, i0) 3 0) fun M11 => K M11
section
variable {p : Program} {l : Launch} {e : Env} {s : State} {m : MethodId} {args : Array Value} {below : List Frame} {meth : Method} {c : Code} {g : za_L → Nat} {D : va_G} {cy : Nat → ClassId} {K : za_M → Prop}
set_option maxRecDepth 100000 in
set_option maxHeartbeats 4000000 in
theorem p_X0_begin (hJ : za_J g) (C : za_C p s m args c cX0_begin 2 RX0 g D cy) (hr : meth.sig.returnType = none) (hk : meth.locks = false) {c0 : Nat} (hc0 : c0 < 3) {i0 : Nat} (hi0 : i0 < 5) {x1 : Int32} {M : za_M} (h : f_X0_begin c0 i0 x1 M K) : zt p l e (za_rm 1 64) s m args below meth c 0 0 (MQ below (za_Qv g D cy K) args s 0 0 (za_A g)) g D cy 2 M 0 [(0, .ref (g (3, c0, i0))), (1, .int x1)] [] := by
  unfold f_X0_begin at h
  refine zt_aload_n C 0 dX0_begin_0 rfl rfl ?_
  refine zt_iload_n C 1 dX0_begin_1 rfl rfl ?_
  refine zt_bipush C (v := 10) dX0_begin_2 zk_b10 ?_
  refine zt_idiv C dX0_begin_4 (by decide) ?_
  refine zt_topi (fun y1 e2 => ?_)
  replace h := za_use h e2
  refine zt_put C (za_mem (j := 3) rfl hc0 hi0) pf_X0_9 pt_X0_0 rfl rfl (za_E_3 g cy M c0 i0) rfl (Nat.le_of_ble_eq_true rfl) dX0_begin_5 ?_
  refine zt_topM (fun M3 e4 => ?_)
  replace h := za_use h e4
  refine zt_aload_n C 0 dX0_begin_8 rfl rfl ?_
  refine zt_iload_n C 1 dX0_begin_9 rfl rfl ?_
  refine zt_bipush C (v := 10) dX0_begin_10 zk_b10 ?_
  refine zt_irem C dX0_begin_12 (by decide) ?_
  refine zt_topi (fun y5 e6 => ?_)
  replace h := za_use h e6
  refine zt_put C (za_mem (j := 3) rfl hc0 hi0) pf_X0_15 pt_X0_1 rfl rfl (za_E_3 g cy M3 c0 i0) rfl (Nat.le_of_ble_eq_true rfl) dX0_begin_13 ?_
  refine zt_topM (fun M7 e8 => ?_)
  replace h := za_use h e8
  refine zt_aload_n C 0 dX0_begin_16 rfl rfl ?_
  refine zt_iconst C (v := 0) dX0_begin_17 zk_i0 ?_
  refine zt_put C (za_mem (j := 3) rfl hc0 hi0) pf_X0_18 pt_X0_2 rfl rfl (za_E_3 g cy M7 c0 i0) rfl (Nat.le_of_ble_eq_true rfl) dX0_begin_18 ?_
  refine zt_topM (fun M9 e10 => ?_)
  replace h := za_use h e10
  refine zt_aload_n C 0 dX0_begin_21 rfl rfl ?_
  refine zt_iconst C (v := 0) dX0_begin_22 zk_i0 ?_
  refine zt_put C (za_mem (j := 3) rfl hc0 hi0) pf_X0_21 pt_X0_3 rfl rfl (za_E_3 g cy M9 c0 i0) rfl (Nat.le_of_ble_eq_true rfl) dX0_begin_23 ?_
  refine zt_topM (fun M11 e12 => ?_)
  replace h := za_use h e12
  exact zt_vret C hr hk dX0_begin_26 h
end
theorem m_X0_begin {l : Launch} {g : za_L → Nat} {D : va_G} {cy : Nat → ClassId} (hJ : za_J g)  {c0 : Nat} (hc0 : c0 < 3) {i0 : Nat} (hi0 : i0 < 5) {x1 : Int32} {M : za_M} {K : za_M → Prop} (h : f_X0_begin c0 i0 x1 M K) : za_Mv l g D cy yX0_begin cX0_begin 2 none 1 64 [.ref (g (3, c0, i0)), .int x1] M K := za_openv hJ (by decide) (Nat.le_of_ble_eq_true rfl) (fun p e s m args below meth c C hr hk => p_X0_begin hJ C hr hk hc0 hi0 h)
/-! X0_copy -/
def f_X0_copy (c0 : Nat) (i0 : Nat) (c1 : Nat) (i1 : Nat) (M : za_M) (K : za_M → Prop) : Prop :=
  za_let (M.1 (3, c1, i1) 0) fun y1 => za_let (za_up M (3, c0, i0) 0 y1) fun M3 => za_let (M3.1 (3, c1, i1) 1) fun y5 => za_let (za_up M3 (3, c0, i0) 1 y5) fun M7 => za_let (M7.1 (3, c1, i1) 2) fun y9 => za_let (za_up M7 (3, c0, i0) 2 y9) fun M11 => za_let (M11.1 (3, c1, i1) 3) fun y13 => za_let (za_up M11 (3, c0, i0) 3 y13) fun M15 => K M15
section
variable {p : Program} {l : Launch} {e : Env} {s : State} {m : MethodId} {args : Array Value} {below : List Frame} {meth : Method} {c : Code} {g : za_L → Nat} {D : va_G} {cy : Nat → ClassId} {K : za_M → Prop}
set_option maxRecDepth 100000 in
set_option maxHeartbeats 4000000 in
theorem p_X0_copy (hJ : za_J g) (C : za_C p s m args c cX0_copy 2 RX0 g D cy) (hr : meth.sig.returnType = none) (hk : meth.locks = false) {c0 : Nat} (hc0 : c0 < 3) {i0 : Nat} (hi0 : i0 < 5) {c1 : Nat} (hc1 : c1 < 3) {i1 : Nat} (hi1 : i1 < 5) {M : za_M} (h : f_X0_copy c0 i0 c1 i1 M K) : zt p l e (za_rm 1 64) s m args below meth c 0 0 (MQ below (za_Qv g D cy K) args s 0 0 (za_A g)) g D cy 2 M 0 [(0, .ref (g (3, c0, i0))), (1, .ref (g (3, c1, i1)))] [] := by
  unfold f_X0_copy at h
  refine zt_aload_n C 0 dX0_copy_0 rfl rfl ?_
  refine zt_aload_n C 1 dX0_copy_1 rfl rfl ?_
  refine zt_get C (za_mem (j := 3) rfl hc1 hi1) pf_X0_9 (za_E_3 g cy M c1 i1) rfl dX0_copy_2 ?_
  refine zt_topi (fun y1 e2 => ?_)
  replace h := za_use h e2
  refine zt_put C (za_mem (j := 3) rfl hc0 hi0) pf_X0_9 pt_X0_0 rfl rfl (za_E_3 g cy M c0 i0) rfl (Nat.le_of_ble_eq_true rfl) dX0_copy_5 ?_
  refine zt_topM (fun M3 e4 => ?_)
  replace h := za_use h e4
  refine zt_aload_n C 0 dX0_copy_8 rfl rfl ?_
  refine zt_aload_n C 1 dX0_copy_9 rfl rfl ?_
  refine zt_get C (za_mem (j := 3) rfl hc1 hi1) pf_X0_15 (za_E_3 g cy M3 c1 i1) rfl dX0_copy_10 ?_
  refine zt_topi (fun y5 e6 => ?_)
  replace h := za_use h e6
  refine zt_put C (za_mem (j := 3) rfl hc0 hi0) pf_X0_15 pt_X0_1 rfl rfl (za_E_3 g cy M3 c0 i0) rfl (Nat.le_of_ble_eq_true rfl) dX0_copy_13 ?_
  refine zt_topM (fun M7 e8 => ?_)
  replace h := za_use h e8
  refine zt_aload_n C 0 dX0_copy_16 rfl rfl ?_
  refine zt_aload_n C 1 dX0_copy_17 rfl rfl ?_
  refine zt_get C (za_mem (j := 3) rfl hc1 hi1) pf_X0_18 (za_E_3 g cy M7 c1 i1) rfl dX0_copy_18 ?_
  refine zt_topi (fun y9 e10 => ?_)
  replace h := za_use h e10
  refine zt_put C (za_mem (j := 3) rfl hc0 hi0) pf_X0_18 pt_X0_2 rfl rfl (za_E_3 g cy M7 c0 i0) rfl (Nat.le_of_ble_eq_true rfl) dX0_copy_21 ?_
  refine zt_topM (fun M11 e12 => ?_)
  replace h := za_use h e12
  refine zt_aload_n C 0 dX0_copy_24 rfl rfl ?_
  refine zt_aload_n C 1 dX0_copy_25 rfl rfl ?_
  refine zt_get C (za_mem (j := 3) rfl hc1 hi1) pf_X0_21 (za_E_3 g cy M11 c1 i1) rfl dX0_copy_26 ?_
  refine zt_topi (fun y13 e14 => ?_)
  replace h := za_use h e14
  refine zt_put C (za_mem (j := 3) rfl hc0 hi0) pf_X0_21 pt_X0_3 rfl rfl (za_E_3 g cy M11 c0 i0) rfl (Nat.le_of_ble_eq_true rfl) dX0_copy_29 ?_
  refine zt_topM (fun M15 e16 => ?_)
  replace h := za_use h e16
  exact zt_vret C hr hk dX0_copy_32 h
end
theorem m_X0_copy {l : Launch} {g : za_L → Nat} {D : va_G} {cy : Nat → ClassId} (hJ : za_J g)  {c0 : Nat} (hc0 : c0 < 3) {i0 : Nat} (hi0 : i0 < 5) {c1 : Nat} (hc1 : c1 < 3) {i1 : Nat} (hi1 : i1 < 5) {M : za_M} {K : za_M → Prop} (h : f_X0_copy c0 i0 c1 i1 M K) : za_Mv l g D cy yX0_copy cX0_copy 2 none 1 64 [.ref (g (3, c0, i0)), .ref (g (3, c1, i1))] M K := za_openv hJ (by decide) (Nat.le_of_ble_eq_true rfl) (fun p e s m args below meth c C hr hk => p_X0_copy hJ C hr hk hc0 hi0 hc1 hi1 h)
/-! X0_isForbiddenAt -/
def f_X0_isForbiddenAt_b34 (K : Int32 → za_M → Prop) (M : za_M) : Prop :=
  K 0 M
def f_X0_isForbiddenAt_b30 (K : Int32 → za_M → Prop) (M : za_M) : Prop :=
  K 1 M
def f_X0_isForbiddenAt_b14 (K : Int32 → za_M → Prop) (c0 : Nat) (i0 : Nat) (M : za_M) : Prop :=
  if (M.1 (3, c0, i0) 0) = 6 then (if (M.1 (3, c0, i0) 1) = 0 then (f_X0_isForbiddenAt_b30 K M) else (f_X0_isForbiddenAt_b34 K M)) else (f_X0_isForbiddenAt_b34 K M)
def f_X0_isForbiddenAt (c0 : Nat) (i0 : Nat) (x1 : Int32) (M : za_M) (K : Int32 → za_M → Prop) : Prop :=
  if (M.1 (3, c0, i0) 0) = 4 then (if 8 ≤ x1 then (f_X0_isForbiddenAt_b30 K M) else (f_X0_isForbiddenAt_b14 K c0 i0 M)) else (f_X0_isForbiddenAt_b14 K c0 i0 M)
section
variable {p : Program} {l : Launch} {e : Env} {s : State} {m : MethodId} {args : Array Value} {below : List Frame} {meth : Method} {c : Code} {g : za_L → Nat} {D : va_G} {cy : Nat → ClassId} {K : Int32 → za_M → Prop}
set_option maxRecDepth 100000 in
set_option maxHeartbeats 4000000 in
theorem p_X0_isForbiddenAt_b34 (hJ : za_J g) (C : za_C p s m args c cX0_isForbiddenAt 2 RX0 g D cy) (hr : meth.sig.returnType = (some .boolean)) (hk : meth.locks = false) {M : za_M} (h : f_X0_isForbiddenAt_b34 K M) : zt p l e (za_rm 1 64) s m args below meth c 0 0 (MQ below (za_Qi g D cy K) args s 0 0 (za_A g)) g D cy 2 M 34 [] [] := by
  unfold f_X0_isForbiddenAt_b34 at h
  refine zt_iconst C (v := 0) dX0_isForbiddenAt_34 zk_i0 ?_
  exact zt_ret C hr hk rfl dX0_isForbiddenAt_35 h
set_option maxRecDepth 100000 in
set_option maxHeartbeats 4000000 in
theorem p_X0_isForbiddenAt_b30 (hJ : za_J g) (C : za_C p s m args c cX0_isForbiddenAt 2 RX0 g D cy) (hr : meth.sig.returnType = (some .boolean)) (hk : meth.locks = false) {M : za_M} (h : f_X0_isForbiddenAt_b30 K M) : zt p l e (za_rm 1 64) s m args below meth c 0 0 (MQ below (za_Qi g D cy K) args s 0 0 (za_A g)) g D cy 2 M 30 [] [] := by
  unfold f_X0_isForbiddenAt_b30 at h
  refine zt_iconst C (v := 1) dX0_isForbiddenAt_30 zk_i1 ?_
  refine zt_goto C 35 dX0_isForbiddenAt_31 (by decide) ?_
  exact zt_ret C hr hk rfl dX0_isForbiddenAt_35 h
set_option maxRecDepth 100000 in
set_option maxHeartbeats 4000000 in
theorem p_X0_isForbiddenAt_b14 (hJ : za_J g) (C : za_C p s m args c cX0_isForbiddenAt 2 RX0 g D cy) (hr : meth.sig.returnType = (some .boolean)) (hk : meth.locks = false) {c0 : Nat} (hc0 : c0 < 3) {i0 : Nat} (hi0 : i0 < 5) {M : za_M} (h : f_X0_isForbiddenAt_b14 K c0 i0 M) : zt p l e (za_rm 1 64) s m args below meth c 0 0 (MQ below (za_Qi g D cy K) args s 0 0 (za_A g)) g D cy 2 M 14 [(0, .ref (g (3, c0, i0)))] [] := by
  unfold f_X0_isForbiddenAt_b14 at h
  refine zt_aload_n C 0 dX0_isForbiddenAt_14 rfl rfl ?_
  refine zt_get C (za_mem (j := 3) rfl hc0 hi0) pf_X0_9 (za_E_3 g cy M c0 i0) rfl dX0_isForbiddenAt_15 ?_
  refine zt_bipush C (v := 6) dX0_isForbiddenAt_18 zk_b6 ?_
  refine zt_icmp_ne C 34 dX0_isForbiddenAt_20 (by decide) (fun q1 => ?_) (fun q1 => ?_)
  · replace h := za_ifn h q1
    refine zt_sub [] (lv' := []) rfl ?_
    exact p_X0_isForbiddenAt_b34 hJ C hr hk  h
  · replace h := za_ifp h q1
    refine zt_aload_n C 0 dX0_isForbiddenAt_23 rfl rfl ?_
    refine zt_get C (za_mem (j := 3) rfl hc0 hi0) pf_X0_15 (za_E_3 g cy M c0 i0) rfl dX0_isForbiddenAt_24 ?_
    refine zt_if_ne C 34 dX0_isForbiddenAt_27 (by decide) (fun q2 => ?_) (fun q2 => ?_)
    · replace h := za_ifn h q2
      refine zt_sub [] (lv' := []) rfl ?_
      exact p_X0_isForbiddenAt_b34 hJ C hr hk  h
    · replace h := za_ifp h q2
      refine zt_sub [] (lv' := []) rfl ?_
      exact p_X0_isForbiddenAt_b30 hJ C hr hk  h
set_option maxRecDepth 100000 in
set_option maxHeartbeats 4000000 in
theorem p_X0_isForbiddenAt (hJ : za_J g) (C : za_C p s m args c cX0_isForbiddenAt 2 RX0 g D cy) (hr : meth.sig.returnType = (some .boolean)) (hk : meth.locks = false) {c0 : Nat} (hc0 : c0 < 3) {i0 : Nat} (hi0 : i0 < 5) {x1 : Int32} {M : za_M} (h : f_X0_isForbiddenAt c0 i0 x1 M K) : zt p l e (za_rm 1 64) s m args below meth c 0 0 (MQ below (za_Qi g D cy K) args s 0 0 (za_A g)) g D cy 2 M 0 [(0, .ref (g (3, c0, i0))), (1, .int x1)] [] := by
  unfold f_X0_isForbiddenAt at h
  refine zt_aload_n C 0 dX0_isForbiddenAt_0 rfl rfl ?_
  refine zt_get C (za_mem (j := 3) rfl hc0 hi0) pf_X0_9 (za_E_3 g cy M c0 i0) rfl dX0_isForbiddenAt_1 ?_
  refine zt_iconst C (v := 4) dX0_isForbiddenAt_4 zk_i4 ?_
  refine zt_icmp_ne C 14 dX0_isForbiddenAt_5 (by decide) (fun q3 => ?_) (fun q3 => ?_)
  · replace h := za_ifn h q3
    refine zt_sub [0] (lv' := [(0, .ref (g (3, c0, i0)))]) rfl ?_
    exact p_X0_isForbiddenAt_b14 hJ C hr hk hc0 hi0 h
  · replace h := za_ifp h q3
    refine zt_iload_n C 1 dX0_isForbiddenAt_8 rfl rfl ?_
    refine zt_bipush C (v := 8) dX0_isForbiddenAt_9 zk_b8 ?_
    refine zt_icmp_ge C 30 dX0_isForbiddenAt_11 (by decide) (fun q4 => ?_) (fun q4 => ?_)
    · replace h := za_ifp h q4
      refine zt_sub [] (lv' := []) rfl ?_
      exact p_X0_isForbiddenAt_b30 hJ C hr hk  h
    · replace h := za_ifn h q4
      refine zt_sub [0] (lv' := [(0, .ref (g (3, c0, i0)))]) rfl ?_
      exact p_X0_isForbiddenAt_b14 hJ C hr hk hc0 hi0 h
end
theorem m_X0_isForbiddenAt {l : Launch} {g : za_L → Nat} {D : va_G} {cy : Nat → ClassId} (hJ : za_J g)  {c0 : Nat} (hc0 : c0 < 3) {i0 : Nat} (hi0 : i0 < 5) {x1 : Int32} {M : za_M} {K : Int32 → za_M → Prop} (h : f_X0_isForbiddenAt c0 i0 x1 M K) : za_Mi l g D cy yX0_isForbiddenAt cX0_isForbiddenAt 2 (some .boolean) 1 64 [.ref (g (3, c0, i0)), .int x1] M K := za_openi hJ (by decide) (Nat.le_of_ble_eq_true rfl) (fun p e s m args below meth c C hr hk => p_X0_isForbiddenAt hJ C hr hk hc0 hi0 h)
/-! X4_copy -/
def f_X4_copy (c0 : Nat) (i0 : Nat) (c1 : Nat) (i1 : Nat) (M : za_M) (K : za_M → Prop) : Prop :=
  za_cok 0 0 5 5 5 ∧ (za_let (za_uf M (13, c0, i0) (va_cpy (M.1 (13, c1, i1)) (M.1 (13, c0, i0)) (Int32.toNatClampNeg 0) (Int32.toNatClampNeg 0) (Int32.toNatClampNeg 5))) fun M2 => za_let (M2.1 (4, c1, i1) 1) fun y4 => za_let (za_up M2 (4, c0, i0) 1 y4) fun M6 => za_let (M6.1 (4, c1, i1) 2) fun y8 => za_let (za_up M6 (4, c0, i0) 2 y8) fun M10 => K M10)
section
variable {p : Program} {l : Launch} {e : Env} {s : State} {m : MethodId} {args : Array Value} {below : List Frame} {meth : Method} {c : Code} {g : za_L → Nat} {D : va_G} {cy : Nat → ClassId} {K : za_M → Prop}
set_option maxRecDepth 100000 in
set_option maxHeartbeats 4000000 in
theorem p_X4_copy (hJ : za_J g) (C : za_C p s m args c cX4_copy 2 RX4 g D cy) (hr : meth.sig.returnType = none) (hk : meth.locks = false) {c0 : Nat} (hc0 : c0 < 3) {i0 : Nat} (hi0 : i0 < 4) {c1 : Nat} (hc1 : c1 < 3) {i1 : Nat} (hi1 : i1 < 4) {M : za_M} (h : f_X4_copy c0 i0 c1 i1 M K) : zt p l e (za_rm 1 64) s m args below meth c 0 0 (MQ below (za_Qv g D cy K) args s 0 0 (za_A g)) g D cy 2 M 0 [(0, .ref (g (4, c0, i0))), (1, .ref (g (4, c1, i1)))] [] := by
  unfold f_X4_copy at h
  refine zt_aload_n C 1 dX4_copy_0 rfl rfl ?_
  refine zt_get C (za_mem (j := 4) rfl hc1 hi1) pf_X4_9 (za_E_4 g cy M c1 i1) rfl dX4_copy_1 ?_
  refine zt_iconst C (v := 0) dX4_copy_4 zk_i0 ?_
  refine zt_aload_n C 0 dX4_copy_5 rfl rfl ?_
  refine zt_get C (za_mem (j := 4) rfl hc0 hi0) pf_X4_9 (za_E_4 g cy M c0 i0) rfl dX4_copy_6 ?_
  refine zt_iconst C (v := 0) dX4_copy_9 zk_i0 ?_
  refine zt_iconst C (v := 5) dX4_copy_10 zk_i5 ?_
  obtain ⟨g1, h⟩ := h
  refine zt_copy C (za_mem (j := 13) rfl hc1 hi1) (za_mem (j := 13) rfl hc0 hi0) (fun W9 => za_E_13 g cy W9 c1 i1) (fun W9 => za_E_13 g cy W9 c0 i0) g1 w_681 w_485 w_484 w_86 (Nat.le_of_ble_eq_true rfl) (Nat.le_of_ble_eq_true rfl) dX4_copy_11 ?_
  refine zt_topM (fun M2 e3 => ?_)
  replace h := za_use h e3
  refine zt_aload_n C 0 dX4_copy_14 rfl rfl ?_
  refine zt_aload_n C 1 dX4_copy_15 rfl rfl ?_
  refine zt_get C (za_mem (j := 4) rfl hc1 hi1) pf_X4_15 (za_E_4 g cy M2 c1 i1) rfl dX4_copy_16 ?_
  refine zt_topi (fun y4 e5 => ?_)
  replace h := za_use h e5
  refine zt_put C (za_mem (j := 4) rfl hc0 hi0) pf_X4_15 pt_X4_1 rfl rfl (za_E_4 g cy M2 c0 i0) rfl (Nat.le_of_ble_eq_true rfl) dX4_copy_19 ?_
  refine zt_topM (fun M6 e7 => ?_)
  replace h := za_use h e7
  refine zt_aload_n C 0 dX4_copy_22 rfl rfl ?_
  refine zt_aload_n C 1 dX4_copy_23 rfl rfl ?_
  refine zt_get C (za_mem (j := 4) rfl hc1 hi1) pf_X4_19 (za_E_4 g cy M6 c1 i1) rfl dX4_copy_24 ?_
  refine zt_topi (fun y8 e9 => ?_)
  replace h := za_use h e9
  refine zt_put C (za_mem (j := 4) rfl hc0 hi0) pf_X4_19 pt_X4_2 rfl rfl (za_E_4 g cy M6 c0 i0) rfl (Nat.le_of_ble_eq_true rfl) dX4_copy_27 ?_
  refine zt_topM (fun M10 e11 => ?_)
  replace h := za_use h e11
  exact zt_vret C hr hk dX4_copy_30 h
end
theorem m_X4_copy {l : Launch} {g : za_L → Nat} {D : va_G} {cy : Nat → ClassId} (hJ : za_J g)  {c0 : Nat} (hc0 : c0 < 3) {i0 : Nat} (hi0 : i0 < 4) {c1 : Nat} (hc1 : c1 < 3) {i1 : Nat} (hi1 : i1 < 4) {M : za_M} {K : za_M → Prop} (h : f_X4_copy c0 i0 c1 i1 M K) : za_Mv l g D cy yX4_copy cX4_copy 2 none 1 64 [.ref (g (4, c0, i0)), .ref (g (4, c1, i1))] M K := za_openv hJ (by decide) (Nat.le_of_ble_eq_true rfl) (fun p e s m args below meth c C hr hk => p_X4_copy hJ C hr hk hc0 hi0 hc1 hi1 h)
/-! X3_copy -/
def f_X3_copy (c0 : Nat) (i0 : Nat) (c1 : Nat) (i1 : Nat) (M : za_M) (K : za_M → Prop) : Prop :=
  za_let (M.1 (5, c1, i1) 0) fun y1 => za_let (za_up M (5, c0, i0) 0 y1) fun M3 => za_let (M3.1 (5, c1, i1) 1) fun y5 => za_let (za_up M3 (5, c0, i0) 1 y5) fun M7 => za_let (M7.1 (5, c1, i1) 2) fun y9 => za_let (za_up M7 (5, c0, i0) 2 y9) fun M11 => za_let (M11.1 (5, c1, i1) 3) fun y13 => za_let (za_up M11 (5, c0, i0) 3 y13) fun M15 => za_let (M15.1 (5, c1, i1) 4) fun y17 => za_let (za_up M15 (5, c0, i0) 4 y17) fun M19 => K M19
section
variable {p : Program} {l : Launch} {e : Env} {s : State} {m : MethodId} {args : Array Value} {below : List Frame} {meth : Method} {c : Code} {g : za_L → Nat} {D : va_G} {cy : Nat → ClassId} {K : za_M → Prop}
set_option maxRecDepth 100000 in
set_option maxHeartbeats 4000000 in
theorem p_X3_copy (hJ : za_J g) (C : za_C p s m args c cX3_copy 2 RX3 g D cy) (hr : meth.sig.returnType = none) (hk : meth.locks = false) {c0 : Nat} (hc0 : c0 < 3) {i0 : Nat} (hi0 : i0 < 10) {c1 : Nat} (hc1 : c1 < 3) {i1 : Nat} (hi1 : i1 < 10) {M : za_M} (h : f_X3_copy c0 i0 c1 i1 M K) : zt p l e (za_rm 1 64) s m args below meth c 0 0 (MQ below (za_Qv g D cy K) args s 0 0 (za_A g)) g D cy 2 M 0 [(0, .ref (g (5, c0, i0))), (1, .ref (g (5, c1, i1)))] [] := by
  unfold f_X3_copy at h
  refine zt_aload_n C 0 dX3_copy_0 rfl rfl ?_
  refine zt_aload_n C 1 dX3_copy_1 rfl rfl ?_
  refine zt_get C (za_mem (j := 5) rfl hc1 hi1) pf_X3_7 (za_E_5 g cy M c1 i1) rfl dX3_copy_2 ?_
  refine zt_topi (fun y1 e2 => ?_)
  replace h := za_use h e2
  refine zt_put C (za_mem (j := 5) rfl hc0 hi0) pf_X3_7 pt_X3_0 rfl rfl (za_E_5 g cy M c0 i0) rfl (Nat.le_of_ble_eq_true rfl) dX3_copy_5 ?_
  refine zt_topM (fun M3 e4 => ?_)
  replace h := za_use h e4
  refine zt_aload_n C 0 dX3_copy_8 rfl rfl ?_
  refine zt_aload_n C 1 dX3_copy_9 rfl rfl ?_
  refine zt_get C (za_mem (j := 5) rfl hc1 hi1) pf_X3_13 (za_E_5 g cy M3 c1 i1) rfl dX3_copy_10 ?_
  refine zt_topi (fun y5 e6 => ?_)
  replace h := za_use h e6
  refine zt_put C (za_mem (j := 5) rfl hc0 hi0) pf_X3_13 pt_X3_1 rfl rfl (za_E_5 g cy M3 c0 i0) rfl (Nat.le_of_ble_eq_true rfl) dX3_copy_13 ?_
  refine zt_topM (fun M7 e8 => ?_)
  replace h := za_use h e8
  refine zt_aload_n C 0 dX3_copy_16 rfl rfl ?_
  refine zt_aload_n C 1 dX3_copy_17 rfl rfl ?_
  refine zt_get C (za_mem (j := 5) rfl hc1 hi1) pf_X3_16 (za_E_5 g cy M7 c1 i1) rfl dX3_copy_18 ?_
  refine zt_topi (fun y9 e10 => ?_)
  replace h := za_use h e10
  refine zt_put C (za_mem (j := 5) rfl hc0 hi0) pf_X3_16 pt_X3_2 rfl rfl (za_E_5 g cy M7 c0 i0) rfl (Nat.le_of_ble_eq_true rfl) dX3_copy_21 ?_
  refine zt_topM (fun M11 e12 => ?_)
  replace h := za_use h e12
  refine zt_aload_n C 0 dX3_copy_24 rfl rfl ?_
  refine zt_aload_n C 1 dX3_copy_25 rfl rfl ?_
  refine zt_get C (za_mem (j := 5) rfl hc1 hi1) pf_X3_19 (za_E_5 g cy M11 c1 i1) rfl dX3_copy_26 ?_
  refine zt_topi (fun y13 e14 => ?_)
  replace h := za_use h e14
  refine zt_put C (za_mem (j := 5) rfl hc0 hi0) pf_X3_19 pt_X3_3 rfl rfl (za_E_5 g cy M11 c0 i0) rfl (Nat.le_of_ble_eq_true rfl) dX3_copy_29 ?_
  refine zt_topM (fun M15 e16 => ?_)
  replace h := za_use h e16
  refine zt_aload_n C 0 dX3_copy_32 rfl rfl ?_
  refine zt_aload_n C 1 dX3_copy_33 rfl rfl ?_
  refine zt_get C (za_mem (j := 5) rfl hc1 hi1) pf_X3_22 (za_E_5 g cy M15 c1 i1) rfl dX3_copy_34 ?_
  refine zt_topi (fun y17 e18 => ?_)
  replace h := za_use h e18
  refine zt_put C (za_mem (j := 5) rfl hc0 hi0) pf_X3_22 pt_X3_4 rfl rfl (za_E_5 g cy M15 c0 i0) rfl (Nat.le_of_ble_eq_true rfl) dX3_copy_37 ?_
  refine zt_topM (fun M19 e20 => ?_)
  replace h := za_use h e20
  exact zt_vret C hr hk dX3_copy_40 h
end
theorem m_X3_copy {l : Launch} {g : za_L → Nat} {D : va_G} {cy : Nat → ClassId} (hJ : za_J g)  {c0 : Nat} (hc0 : c0 < 3) {i0 : Nat} (hi0 : i0 < 10) {c1 : Nat} (hc1 : c1 < 3) {i1 : Nat} (hi1 : i1 < 10) {M : za_M} {K : za_M → Prop} (h : f_X3_copy c0 i0 c1 i1 M K) : za_Mv l g D cy yX3_copy cX3_copy 2 none 1 64 [.ref (g (5, c0, i0)), .ref (g (5, c1, i1))] M K := za_openv hJ (by decide) (Nat.le_of_ble_eq_true rfl) (fun p e s m args below meth c C hr hk => p_X3_copy hJ C hr hk hc0 hi0 hc1 hi1 h)
/-! X1_copy -/
def f_X1_copy_b96 (K : za_M → Prop) (c0 : Nat) (c1 : Nat) (L96 : Int32 → za_M → Prop) (x2 : Int32) (M : za_M) : Prop :=
  if (M.1 (2, c0, 0) 5) ≤ x2 then (K M) else (vp_in x2 10 ∧ (vp_in x2 10 ∧ (f_X3_copy c0 (M.2 c0 x2.toNatClampNeg % 10) c1 (M.2 c1 x2.toNatClampNeg % 10) M (fun M4 => L96 (x2 + 1) M4))))
def f_X1_copy_b65 (K : za_M → Prop) (c0 : Nat) (c1 : Nat) (L65 : Int32 → za_M → Prop) (x2 : Int32) (M : za_M) : Prop :=
  if (M.1 (2, c0, 0) 4) ≤ x2 then (∃ n, za_lp1 (f_X1_copy_b96 K c0 c1) n 0 M) else (vp_in x2 4 ∧ (vp_in x2 4 ∧ (f_X4_copy c0 x2.toNatClampNeg c1 x2.toNatClampNeg M (fun M9 => L65 (x2 + 1) M9))))
def f_X1_copy_b34 (K : za_M → Prop) (c0 : Nat) (c1 : Nat) (L34 : Int32 → za_M → Prop) (x2 : Int32) (M : za_M) : Prop :=
  if (M.1 (2, c0, 0) 3) ≤ x2 then (∃ n, za_lp1 (f_X1_copy_b65 K c0 c1) n 0 M) else (vp_in x2 5 ∧ (vp_in x2 5 ∧ (f_X0_copy c0 x2.toNatClampNeg c1 x2.toNatClampNeg M (fun M14 => L34 (x2 + 1) M14))))
def f_X1_copy (c0 : Nat) (c1 : Nat) (M : za_M) (K : za_M → Prop) : Prop :=
  za_let (M.1 (2, c1, 0) 3) fun y16 => za_let (za_up M (2, c0, 0) 3 y16) fun M18 => za_let (M18.1 (2, c1, 0) 4) fun y20 => za_let (za_up M18 (2, c0, 0) 4 y20) fun M22 => za_let (M22.1 (2, c1, 0) 5) fun y24 => za_let (za_up M22 (2, c0, 0) 5 y24) fun M26 => za_let (M26.1 (2, c1, 0) 6) fun y28 => za_let (za_up M26 (2, c0, 0) 6 y28) fun M30 => ∃ n, za_lp1 (f_X1_copy_b34 K c0 c1) n 0 M30
section
variable {p : Program} {l : Launch} {e : Env} {s : State} {m : MethodId} {args : Array Value} {below : List Frame} {meth : Method} {c : Code} {g : za_L → Nat} {D : va_G} {cy : Nat → ClassId} {K : za_M → Prop}
set_option maxRecDepth 100000 in
set_option maxHeartbeats 4000000 in
theorem p_X1_copy_b96 (hJ : za_J g) (C : za_C p s m args c cX1_copy 3 RX1 g D cy) (hr : meth.sig.returnType = none) (hk : meth.locks = false) {c0 : Nat} (hc0 : c0 < 3) {c1 : Nat} (hc1 : c1 < 3) {L96 : Int32 → za_M → Prop} (hL96 : ∀ (x2 : Int32) (M : za_M), L96 x2 M → zt p l e (za_rm 2 85) s m args below meth c 0 0 (MQ below (za_Qv g D cy K) args s 0 0 (za_A g)) g D cy 3 M 96 [(0, .ref (g (2, c0, 0))), (1, .ref (g (2, c1, 0))), (2, .int x2)] []) : ∀ (x2 : Int32) (M : za_M), f_X1_copy_b96 K c0 c1 L96 x2 M → zt p l e (za_rm 2 85) s m args below meth c 0 0 (MQ below (za_Qv g D cy K) args s 0 0 (za_A g)) g D cy 3 M 96 [(0, .ref (g (2, c0, 0))), (1, .ref (g (2, c1, 0))), (2, .int x2)] [] := by
  intro x2 M h
  unfold f_X1_copy_b96 at h
  refine zt_iload_n C 2 dX1_copy_96 rfl rfl ?_
  refine zt_aload_n C 0 dX1_copy_97 rfl rfl ?_
  refine zt_get C (za_mem (j := 2) rfl hc0 (by decide)) pf_X1_39 (za_E_2 g cy M c0 0) rfl dX1_copy_98 ?_
  refine zt_icmp_ge C 125 dX1_copy_101 (by decide) (fun q1 => ?_) (fun q1 => ?_)
  · replace h := za_ifp h q1
    exact zt_vret C hr hk dX1_copy_125 h
  · replace h := za_ifn h q1
    refine zt_aload_n C 0 dX1_copy_104 rfl rfl ?_
    refine zt_get C (za_mem (j := 2) rfl hc0 (by decide)) pf_X1_25 (za_E_2 g cy M c0 0) rfl dX1_copy_105 ?_
    refine zt_iload_n C 2 dX1_copy_108 rfl rfl ?_
    obtain ⟨g2, h⟩ := h
    refine zt_aald C (za_mem (j := 12) rfl hc0 (by decide)) (za_E_12 g cy M c0 0) rfl g2 dX1_copy_109 ?_
    refine zt_aload_n C 1 dX1_copy_110 rfl rfl ?_
    refine zt_get C (za_mem (j := 2) rfl hc1 (by decide)) pf_X1_25 (za_E_2 g cy M c1 0) rfl dX1_copy_111 ?_
    refine zt_iload_n C 2 dX1_copy_114 rfl rfl ?_
    obtain ⟨g3, h⟩ := h
    refine zt_aald C (za_mem (j := 12) rfl hc1 (by decide)) (za_E_12 g cy M c1 0) rfl g3 dX1_copy_115 ?_
    refine zt_cVv C [.ref (g (5, c1, (M.2 c1 x2.toNatClampNeg % 10)))] (m_X3_copy hJ hc0 (Nat.mod_lt _ (by decide)) hc1 (Nat.mod_lt _ (by decide)) h) (za_mem (j := 5) rfl hc0 (Nat.mod_lt _ (by decide))) (za_E_5 g cy M c0 (M.2 c0 x2.toNatClampNeg % 10)) rfl py_X3_copy pv_X1_52 (Nat.le_of_ble_eq_true rfl) ⟨Nat.le_of_ble_eq_true rfl, Nat.le_of_ble_eq_true rfl⟩ ⟨Nat.zero_le _, Nat.zero_le _⟩ dX1_copy_116 rfl (fun M4 h => ?_)
    refine zt_iinc C (v := x2 + 1) 2 [(2, .int (x2 + 1)), (0, .ref (g (2, c0, 0))), (1, .ref (g (2, c1, 0)))] dX1_copy_119 rfl (zk_n1 _) (by decide) rfl ?_
    refine zt_goto C 96 dX1_copy_122 (by decide) ?_
    refine zt_sub [1, 2, 0] (lv' := [(0, .ref (g (2, c0, 0))), (1, .ref (g (2, c1, 0))), (2, .int (x2 + 1))]) rfl ?_
    exact hL96 _ _ h
theorem p_X1_copy_b96_in (hJ : za_J g) (C : za_C p s m args c cX1_copy 3 RX1 g D cy) (hr : meth.sig.returnType = none) (hk : meth.locks = false) {c0 : Nat} (hc0 : c0 < 3) {c1 : Nat} (hc1 : c1 < 3) {n : Nat} {x2 : Int32} {M : za_M} (h : za_lp1 (f_X1_copy_b96 K c0 c1) n x2 M) : zt p l e (za_rm 2 85) s m args below meth c 0 0 (MQ below (za_Qv g D cy K) args s 0 0 (za_A g)) g D cy 3 M 96 [(0, .ref (g (2, c0, 0))), (1, .ref (g (2, c1, 0))), (2, .int x2)] [] := za_lp1_run (Z := fun x2 M => zt p l e (za_rm 2 85) s m args below meth c 0 0 (MQ below (za_Qv g D cy K) args s 0 0 (za_A g)) g D cy 3 M 96 [(0, .ref (g (2, c0, 0))), (1, .ref (g (2, c1, 0))), (2, .int x2)] []) (fun L hL => p_X1_copy_b96 hJ C hr hk hc0 hc1 hL) n x2 M h
set_option maxRecDepth 100000 in
set_option maxHeartbeats 4000000 in
theorem p_X1_copy_b65 (hJ : za_J g) (C : za_C p s m args c cX1_copy 3 RX1 g D cy) (hr : meth.sig.returnType = none) (hk : meth.locks = false) {c0 : Nat} (hc0 : c0 < 3) {c1 : Nat} (hc1 : c1 < 3) {L65 : Int32 → za_M → Prop} (hL65 : ∀ (x2 : Int32) (M : za_M), L65 x2 M → zt p l e (za_rm 2 85) s m args below meth c 0 0 (MQ below (za_Qv g D cy K) args s 0 0 (za_A g)) g D cy 3 M 65 [(0, .ref (g (2, c0, 0))), (1, .ref (g (2, c1, 0))), (2, .int x2)] []) : ∀ (x2 : Int32) (M : za_M), f_X1_copy_b65 K c0 c1 L65 x2 M → zt p l e (za_rm 2 85) s m args below meth c 0 0 (MQ below (za_Qv g D cy K) args s 0 0 (za_A g)) g D cy 3 M 65 [(0, .ref (g (2, c0, 0))), (1, .ref (g (2, c1, 0))), (2, .int x2)] [] := by
  intro x2 M h
  unfold f_X1_copy_b65 at h
  refine zt_iload_n C 2 dX1_copy_65 rfl rfl ?_
  refine zt_aload_n C 0 dX1_copy_66 rfl rfl ?_
  refine zt_get C (za_mem (j := 2) rfl hc0 (by decide)) pf_X1_36 (za_E_2 g cy M c0 0) rfl dX1_copy_67 ?_
  refine zt_icmp_ge C 94 dX1_copy_70 (by decide) (fun q6 => ?_) (fun q6 => ?_)
  · replace h := za_ifp h q6
    refine zt_iconst C (v := 0) dX1_copy_94 zk_i0 ?_
    refine zt_istore_n C [(2, .int 0), (0, .ref (g (2, c0, 0))), (1, .ref (g (2, c1, 0)))] dX1_copy_95 rfl (by decide) rfl ?_
    refine zt_sub [1, 2, 0] (lv' := [(0, .ref (g (2, c0, 0))), (1, .ref (g (2, c1, 0))), (2, .int 0)]) rfl ?_
    obtain ⟨n, h⟩ := h
    exact p_X1_copy_b96_in hJ C hr hk hc0 hc1 h
  · replace h := za_ifn h q6
    refine zt_aload_n C 0 dX1_copy_73 rfl rfl ?_
    refine zt_get C (za_mem (j := 2) rfl hc0 (by decide)) pf_X1_19 (za_E_2 g cy M c0 0) rfl dX1_copy_74 ?_
    refine zt_iload_n C 2 dX1_copy_77 rfl rfl ?_
    obtain ⟨g7, h⟩ := h
    refine zt_aald C (za_mem (j := 11) rfl hc0 (by decide)) (za_E_11 g cy M c0 0) rfl g7 dX1_copy_78 ?_
    refine zt_aload_n C 1 dX1_copy_79 rfl rfl ?_
    refine zt_get C (za_mem (j := 2) rfl hc1 (by decide)) pf_X1_19 (za_E_2 g cy M c1 0) rfl dX1_copy_80 ?_
    refine zt_iload_n C 2 dX1_copy_83 rfl rfl ?_
    obtain ⟨g8, h⟩ := h
    refine zt_aald C (za_mem (j := 11) rfl hc1 (by decide)) (za_E_11 g cy M c1 0) rfl g8 dX1_copy_84 ?_
    refine zt_cVv C [.ref (g (4, c1, x2.toNatClampNeg))] (m_X4_copy hJ hc0 (za_lt g7) hc1 (za_lt g8) h) (za_mem (j := 4) rfl hc0 (za_lt g7)) (za_E_4 g cy M c0 x2.toNatClampNeg) rfl py_X4_copy pv_X1_49 (Nat.le_of_ble_eq_true rfl) ⟨Nat.le_of_ble_eq_true rfl, Nat.le_of_ble_eq_true rfl⟩ ⟨Nat.zero_le _, Nat.zero_le _⟩ dX1_copy_85 rfl (fun M9 h => ?_)
    refine zt_iinc C (v := x2 + 1) 2 [(2, .int (x2 + 1)), (0, .ref (g (2, c0, 0))), (1, .ref (g (2, c1, 0)))] dX1_copy_88 rfl (zk_n1 _) (by decide) rfl ?_
    refine zt_goto C 65 dX1_copy_91 (by decide) ?_
    refine zt_sub [1, 2, 0] (lv' := [(0, .ref (g (2, c0, 0))), (1, .ref (g (2, c1, 0))), (2, .int (x2 + 1))]) rfl ?_
    exact hL65 _ _ h
theorem p_X1_copy_b65_in (hJ : za_J g) (C : za_C p s m args c cX1_copy 3 RX1 g D cy) (hr : meth.sig.returnType = none) (hk : meth.locks = false) {c0 : Nat} (hc0 : c0 < 3) {c1 : Nat} (hc1 : c1 < 3) {n : Nat} {x2 : Int32} {M : za_M} (h : za_lp1 (f_X1_copy_b65 K c0 c1) n x2 M) : zt p l e (za_rm 2 85) s m args below meth c 0 0 (MQ below (za_Qv g D cy K) args s 0 0 (za_A g)) g D cy 3 M 65 [(0, .ref (g (2, c0, 0))), (1, .ref (g (2, c1, 0))), (2, .int x2)] [] := za_lp1_run (Z := fun x2 M => zt p l e (za_rm 2 85) s m args below meth c 0 0 (MQ below (za_Qv g D cy K) args s 0 0 (za_A g)) g D cy 3 M 65 [(0, .ref (g (2, c0, 0))), (1, .ref (g (2, c1, 0))), (2, .int x2)] []) (fun L hL => p_X1_copy_b65 hJ C hr hk hc0 hc1 hL) n x2 M h
set_option maxRecDepth 100000 in
set_option maxHeartbeats 4000000 in
theorem p_X1_copy_b34 (hJ : za_J g) (C : za_C p s m args c cX1_copy 3 RX1 g D cy) (hr : meth.sig.returnType = none) (hk : meth.locks = false) {c0 : Nat} (hc0 : c0 < 3) {c1 : Nat} (hc1 : c1 < 3) {L34 : Int32 → za_M → Prop} (hL34 : ∀ (x2 : Int32) (M : za_M), L34 x2 M → zt p l e (za_rm 2 85) s m args below meth c 0 0 (MQ below (za_Qv g D cy K) args s 0 0 (za_A g)) g D cy 3 M 34 [(0, .ref (g (2, c0, 0))), (1, .ref (g (2, c1, 0))), (2, .int x2)] []) : ∀ (x2 : Int32) (M : za_M), f_X1_copy_b34 K c0 c1 L34 x2 M → zt p l e (za_rm 2 85) s m args below meth c 0 0 (MQ below (za_Qv g D cy K) args s 0 0 (za_A g)) g D cy 3 M 34 [(0, .ref (g (2, c0, 0))), (1, .ref (g (2, c1, 0))), (2, .int x2)] [] := by
  intro x2 M h
  unfold f_X1_copy_b34 at h
  refine zt_iload_n C 2 dX1_copy_34 rfl rfl ?_
  refine zt_aload_n C 0 dX1_copy_35 rfl rfl ?_
  refine zt_get C (za_mem (j := 2) rfl hc0 (by decide)) pf_X1_32 (za_E_2 g cy M c0 0) rfl dX1_copy_36 ?_
  refine zt_icmp_ge C 63 dX1_copy_39 (by decide) (fun q11 => ?_) (fun q11 => ?_)
  · replace h := za_ifp h q11
    refine zt_iconst C (v := 0) dX1_copy_63 zk_i0 ?_
    refine zt_istore_n C [(2, .int 0), (0, .ref (g (2, c0, 0))), (1, .ref (g (2, c1, 0)))] dX1_copy_64 rfl (by decide) rfl ?_
    refine zt_sub [1, 2, 0] (lv' := [(0, .ref (g (2, c0, 0))), (1, .ref (g (2, c1, 0))), (2, .int 0)]) rfl ?_
    obtain ⟨n, h⟩ := h
    exact p_X1_copy_b65_in hJ C hr hk hc0 hc1 h
  · replace h := za_ifn h q11
    refine zt_aload_n C 0 dX1_copy_42 rfl rfl ?_
    refine zt_get C (za_mem (j := 2) rfl hc0 (by decide)) pf_X1_11 (za_E_2 g cy M c0 0) rfl dX1_copy_43 ?_
    refine zt_iload_n C 2 dX1_copy_46 rfl rfl ?_
    obtain ⟨g12, h⟩ := h
    refine zt_aald C (za_mem (j := 10) rfl hc0 (by decide)) (za_E_10 g cy M c0 0) rfl g12 dX1_copy_47 ?_
    refine zt_aload_n C 1 dX1_copy_48 rfl rfl ?_
    refine zt_get C (za_mem (j := 2) rfl hc1 (by decide)) pf_X1_11 (za_E_2 g cy M c1 0) rfl dX1_copy_49 ?_
    refine zt_iload_n C 2 dX1_copy_52 rfl rfl ?_
    obtain ⟨g13, h⟩ := h
    refine zt_aald C (za_mem (j := 10) rfl hc1 (by decide)) (za_E_10 g cy M c1 0) rfl g13 dX1_copy_53 ?_
    refine zt_cVv C [.ref (g (3, c1, x2.toNatClampNeg))] (m_X0_copy hJ hc0 (za_lt g12) hc1 (za_lt g13) h) (za_mem (j := 3) rfl hc0 (za_lt g12)) (za_E_3 g cy M c0 x2.toNatClampNeg) rfl py_X0_copy pv_X1_45 (Nat.le_of_ble_eq_true rfl) ⟨Nat.le_of_ble_eq_true rfl, Nat.le_of_ble_eq_true rfl⟩ ⟨Nat.zero_le _, Nat.zero_le _⟩ dX1_copy_54 rfl (fun M14 h => ?_)
    refine zt_iinc C (v := x2 + 1) 2 [(2, .int (x2 + 1)), (0, .ref (g (2, c0, 0))), (1, .ref (g (2, c1, 0)))] dX1_copy_57 rfl (zk_n1 _) (by decide) rfl ?_
    refine zt_goto C 34 dX1_copy_60 (by decide) ?_
    refine zt_sub [1, 2, 0] (lv' := [(0, .ref (g (2, c0, 0))), (1, .ref (g (2, c1, 0))), (2, .int (x2 + 1))]) rfl ?_
    exact hL34 _ _ h
theorem p_X1_copy_b34_in (hJ : za_J g) (C : za_C p s m args c cX1_copy 3 RX1 g D cy) (hr : meth.sig.returnType = none) (hk : meth.locks = false) {c0 : Nat} (hc0 : c0 < 3) {c1 : Nat} (hc1 : c1 < 3) {n : Nat} {x2 : Int32} {M : za_M} (h : za_lp1 (f_X1_copy_b34 K c0 c1) n x2 M) : zt p l e (za_rm 2 85) s m args below meth c 0 0 (MQ below (za_Qv g D cy K) args s 0 0 (za_A g)) g D cy 3 M 34 [(0, .ref (g (2, c0, 0))), (1, .ref (g (2, c1, 0))), (2, .int x2)] [] := za_lp1_run (Z := fun x2 M => zt p l e (za_rm 2 85) s m args below meth c 0 0 (MQ below (za_Qv g D cy K) args s 0 0 (za_A g)) g D cy 3 M 34 [(0, .ref (g (2, c0, 0))), (1, .ref (g (2, c1, 0))), (2, .int x2)] []) (fun L hL => p_X1_copy_b34 hJ C hr hk hc0 hc1 hL) n x2 M h
set_option maxRecDepth 100000 in
set_option maxHeartbeats 4000000 in
theorem p_X1_copy (hJ : za_J g) (C : za_C p s m args c cX1_copy 3 RX1 g D cy) (hr : meth.sig.returnType = none) (hk : meth.locks = false) {c0 : Nat} (hc0 : c0 < 3) {c1 : Nat} (hc1 : c1 < 3) {M : za_M} (h : f_X1_copy c0 c1 M K) : zt p l e (za_rm 2 85) s m args below meth c 0 0 (MQ below (za_Qv g D cy K) args s 0 0 (za_A g)) g D cy 3 M 0 [(0, .ref (g (2, c0, 0))), (1, .ref (g (2, c1, 0)))] [] := by
  unfold f_X1_copy at h
  refine zt_aload_n C 0 dX1_copy_0 rfl rfl ?_
  refine zt_aload_n C 1 dX1_copy_1 rfl rfl ?_
  refine zt_get C (za_mem (j := 2) rfl hc1 (by decide)) pf_X1_32 (za_E_2 g cy M c1 0) rfl dX1_copy_2 ?_
  refine zt_topi (fun y16 e17 => ?_)
  replace h := za_use h e17
  refine zt_put C (za_mem (j := 2) rfl hc0 (by decide)) pf_X1_32 pt_X1_3 rfl rfl (za_E_2 g cy M c0 0) rfl (Nat.le_of_ble_eq_true rfl) dX1_copy_5 ?_
  refine zt_topM (fun M18 e19 => ?_)
  replace h := za_use h e19
  refine zt_aload_n C 0 dX1_copy_8 rfl rfl ?_
  refine zt_aload_n C 1 dX1_copy_9 rfl rfl ?_
  refine zt_get C (za_mem (j := 2) rfl hc1 (by decide)) pf_X1_36 (za_E_2 g cy M18 c1 0) rfl dX1_copy_10 ?_
  refine zt_topi (fun y20 e21 => ?_)
  replace h := za_use h e21
  refine zt_put C (za_mem (j := 2) rfl hc0 (by decide)) pf_X1_36 pt_X1_4 rfl rfl (za_E_2 g cy M18 c0 0) rfl (Nat.le_of_ble_eq_true rfl) dX1_copy_13 ?_
  refine zt_topM (fun M22 e23 => ?_)
  replace h := za_use h e23
  refine zt_aload_n C 0 dX1_copy_16 rfl rfl ?_
  refine zt_aload_n C 1 dX1_copy_17 rfl rfl ?_
  refine zt_get C (za_mem (j := 2) rfl hc1 (by decide)) pf_X1_39 (za_E_2 g cy M22 c1 0) rfl dX1_copy_18 ?_
  refine zt_topi (fun y24 e25 => ?_)
  replace h := za_use h e25
  refine zt_put C (za_mem (j := 2) rfl hc0 (by decide)) pf_X1_39 pt_X1_5 rfl rfl (za_E_2 g cy M22 c0 0) rfl (Nat.le_of_ble_eq_true rfl) dX1_copy_21 ?_
  refine zt_topM (fun M26 e27 => ?_)
  replace h := za_use h e27
  refine zt_aload_n C 0 dX1_copy_24 rfl rfl ?_
  refine zt_aload_n C 1 dX1_copy_25 rfl rfl ?_
  refine zt_get C (za_mem (j := 2) rfl hc1 (by decide)) pf_X1_42 (za_E_2 g cy M26 c1 0) rfl dX1_copy_26 ?_
  refine zt_topi (fun y28 e29 => ?_)
  replace h := za_use h e29
  refine zt_put C (za_mem (j := 2) rfl hc0 (by decide)) pf_X1_42 pt_X1_6 rfl rfl (za_E_2 g cy M26 c0 0) rfl (Nat.le_of_ble_eq_true rfl) dX1_copy_29 ?_
  refine zt_topM (fun M30 e31 => ?_)
  replace h := za_use h e31
  refine zt_iconst C (v := 0) dX1_copy_32 zk_i0 ?_
  refine zt_istore_n C [(2, .int 0), (0, .ref (g (2, c0, 0))), (1, .ref (g (2, c1, 0)))] dX1_copy_33 rfl (by decide) rfl ?_
  refine zt_sub [1, 2, 0] (lv' := [(0, .ref (g (2, c0, 0))), (1, .ref (g (2, c1, 0))), (2, .int 0)]) rfl ?_
  obtain ⟨n, h⟩ := h
  exact p_X1_copy_b34_in hJ C hr hk hc0 hc1 h
end
theorem m_X1_copy {l : Launch} {g : za_L → Nat} {D : va_G} {cy : Nat → ClassId} (hJ : za_J g)  {c0 : Nat} (hc0 : c0 < 3) {c1 : Nat} (hc1 : c1 < 3) {M : za_M} {K : za_M → Prop} (h : f_X1_copy c0 c1 M K) : za_Mv l g D cy yX1_copy cX1_copy 3 none 2 85 [.ref (g (2, c0, 0)), .ref (g (2, c1, 0))] M K := za_openv hJ (by decide) (Nat.le_of_ble_eq_true rfl) (fun p e s m args below meth c C hr hk => p_X1_copy hJ C hr hk hc0 hc1 h)
/-! X9_within -/
def f_X9_within_b14 (K : Int32 → za_M → Prop) (M : za_M) : Prop :=
  K 0 M
def f_X9_within (x0 : Int32) (x1 : Int32) (x2 : Int32) (M : za_M) (K : Int32 → za_M → Prop) : Prop :=
  if x0 < x1 then (f_X9_within_b14 K M) else (if x2 < x0 then (f_X9_within_b14 K M) else (K 1 M))
section
variable {p : Program} {l : Launch} {e : Env} {s : State} {m : MethodId} {args : Array Value} {below : List Frame} {meth : Method} {c : Code} {g : za_L → Nat} {D : va_G} {cy : Nat → ClassId} {K : Int32 → za_M → Prop}
set_option maxRecDepth 100000 in
set_option maxHeartbeats 4000000 in
theorem p_X9_within_b14 (hJ : za_J g) (C : za_C p s m args c cX9_within 3 RX9 g D cy) (hr : meth.sig.returnType = (some .boolean)) (hk : meth.locks = false) {M : za_M} (h : f_X9_within_b14 K M) : zt p l e (za_rm 1 64) s m args below meth c 0 0 (MQ below (za_Qi g D cy K) args s 0 0 (za_A g)) g D cy 3 M 14 [] [] := by
  unfold f_X9_within_b14 at h
  refine zt_iconst C (v := 0) dX9_within_14 zk_i0 ?_
  exact zt_ret C hr hk rfl dX9_within_15 h
set_option maxRecDepth 100000 in
set_option maxHeartbeats 4000000 in
theorem p_X9_within (hJ : za_J g) (C : za_C p s m args c cX9_within 3 RX9 g D cy) (hr : meth.sig.returnType = (some .boolean)) (hk : meth.locks = false) {x0 : Int32} {x1 : Int32} {x2 : Int32} {M : za_M} (h : f_X9_within x0 x1 x2 M K) : zt p l e (za_rm 1 64) s m args below meth c 0 0 (MQ below (za_Qi g D cy K) args s 0 0 (za_A g)) g D cy 3 M 0 [(0, .int x0), (1, .int x1), (2, .int x2)] [] := by
  unfold f_X9_within at h
  refine zt_iload_n C 0 dX9_within_0 rfl rfl ?_
  refine zt_iload_n C 1 dX9_within_1 rfl rfl ?_
  refine zt_icmp_lt C 14 dX9_within_2 (by decide) (fun q1 => ?_) (fun q1 => ?_)
  · replace h := za_ifp h q1
    refine zt_sub [] (lv' := []) rfl ?_
    exact p_X9_within_b14 hJ C hr hk  h
  · replace h := za_ifn h q1
    refine zt_iload_n C 0 dX9_within_5 rfl rfl ?_
    refine zt_iload_n C 2 dX9_within_6 rfl rfl ?_
    refine zt_icmp_gt C 14 dX9_within_7 (by decide) (fun q2 => ?_) (fun q2 => ?_)
    · replace h := za_ifp h q2
      refine zt_sub [] (lv' := []) rfl ?_
      exact p_X9_within_b14 hJ C hr hk  h
    · replace h := za_ifn h q2
      refine zt_iconst C (v := 1) dX9_within_10 zk_i1 ?_
      refine zt_goto C 15 dX9_within_11 (by decide) ?_
      exact zt_ret C hr hk rfl dX9_within_15 h
end
theorem m_X9_within {l : Launch} {g : za_L → Nat} {D : va_G} {cy : Nat → ClassId} (hJ : za_J g)  {x0 : Int32} {x1 : Int32} {x2 : Int32} {M : za_M} {K : Int32 → za_M → Prop} (h : f_X9_within x0 x1 x2 M K) : za_Mi l g D cy yX9_within cX9_within 3 (some .boolean) 1 64 [.int x0, .int x1, .int x2] M K := za_openi hJ (by decide) (Nat.le_of_ble_eq_true rfl) (fun p e s m args below meth c C hr hk => p_X9_within hJ C hr hk  h)
/-! X1_hasAsh -/
def f_X1_hasAsh (c0 : Nat) (x1 : Int32) (M : za_M) (K : Int32 → za_M → Prop) : Prop :=
  f_X9_within x1 0 ((M.1 (2, c0, 0) 3) - 1) M (fun r2 M1 => za_B r2 ∧ (K r2 M1))
section
variable {p : Program} {l : Launch} {e : Env} {s : State} {m : MethodId} {args : Array Value} {below : List Frame} {meth : Method} {c : Code} {g : za_L → Nat} {D : va_G} {cy : Nat → ClassId} {K : Int32 → za_M → Prop}
set_option maxRecDepth 100000 in
set_option maxHeartbeats 4000000 in
theorem p_X1_hasAsh (hJ : za_J g) (C : za_C p s m args c cX1_hasAsh 2 RX1 g D cy) (hr : meth.sig.returnType = (some .boolean)) (hk : meth.locks = false) {c0 : Nat} (hc0 : c0 < 3) {x1 : Int32} {M : za_M} (h : f_X1_hasAsh c0 x1 M K) : zt p l e (za_rm 2 86) s m args below meth c 0 0 (MQ below (za_Qi g D cy K) args s 0 0 (za_A g)) g D cy 2 M 0 [(0, .ref (g (2, c0, 0))), (1, .int x1)] [] := by
  unfold f_X1_hasAsh at h
  refine zt_iload_n C 1 dX1_hasAsh_0 rfl rfl ?_
  refine zt_iconst C (v := 0) dX1_hasAsh_1 zk_i0 ?_
  refine zt_aload_n C 0 dX1_hasAsh_2 rfl rfl ?_
  refine zt_get C (za_mem (j := 2) rfl hc0 (by decide)) pf_X1_32 (za_E_2 g cy M c0 0) rfl dX1_hasAsh_3 ?_
  refine zt_iconst C (v := 1) dX1_hasAsh_6 zk_i1 ?_
  refine zt_isub C dX1_hasAsh_7 ?_
  refine zt_cNi C [.int x1, .int 0, .int ((M.1 (2, c0, 0) 3) - 1)] (m_X9_within hJ  h) py_X9_within pn_X1_55 (Nat.le_of_ble_eq_true rfl) ⟨Nat.le_of_ble_eq_true rfl, Nat.le_of_ble_eq_true rfl⟩ ⟨Nat.zero_le _, Nat.zero_le _⟩ dX1_hasAsh_8 rfl (fun r2 M1 h => ?_)
  obtain ⟨g3, h⟩ := h
  exact zt_ret C hr hk (za_Bn g3) dX1_hasAsh_11 h
end
theorem m_X1_hasAsh {l : Launch} {g : za_L → Nat} {D : va_G} {cy : Nat → ClassId} (hJ : za_J g)  {c0 : Nat} (hc0 : c0 < 3) {x1 : Int32} {M : za_M} {K : Int32 → za_M → Prop} (h : f_X1_hasAsh c0 x1 M K) : za_Mi l g D cy yX1_hasAsh cX1_hasAsh 2 (some .boolean) 2 86 [.ref (g (2, c0, 0)), .int x1] M K := za_openi hJ (by decide) (Nat.le_of_ble_eq_true rfl) (fun p e s m args below meth c C hr hk => p_X1_hasAsh hJ C hr hk hc0 h)
/-! X1_hasPotter -/
def f_X1_hasPotter (c0 : Nat) (x1 : Int32) (M : za_M) (K : Int32 → za_M → Prop) : Prop :=
  f_X9_within x1 0 ((M.1 (2, c0, 0) 4) - 1) M (fun r2 M1 => za_B r2 ∧ (K r2 M1))
section
variable {p : Program} {l : Launch} {e : Env} {s : State} {m : MethodId} {args : Array Value} {below : List Frame} {meth : Method} {c : Code} {g : za_L → Nat} {D : va_G} {cy : Nat → ClassId} {K : Int32 → za_M → Prop}
set_option maxRecDepth 100000 in
set_option maxHeartbeats 4000000 in
theorem p_X1_hasPotter (hJ : za_J g) (C : za_C p s m args c cX1_hasPotter 2 RX1 g D cy) (hr : meth.sig.returnType = (some .boolean)) (hk : meth.locks = false) {c0 : Nat} (hc0 : c0 < 3) {x1 : Int32} {M : za_M} (h : f_X1_hasPotter c0 x1 M K) : zt p l e (za_rm 2 86) s m args below meth c 0 0 (MQ below (za_Qi g D cy K) args s 0 0 (za_A g)) g D cy 2 M 0 [(0, .ref (g (2, c0, 0))), (1, .int x1)] [] := by
  unfold f_X1_hasPotter at h
  refine zt_iload_n C 1 dX1_hasPotter_0 rfl rfl ?_
  refine zt_iconst C (v := 0) dX1_hasPotter_1 zk_i0 ?_
  refine zt_aload_n C 0 dX1_hasPotter_2 rfl rfl ?_
  refine zt_get C (za_mem (j := 2) rfl hc0 (by decide)) pf_X1_36 (za_E_2 g cy M c0 0) rfl dX1_hasPotter_3 ?_
  refine zt_iconst C (v := 1) dX1_hasPotter_6 zk_i1 ?_
  refine zt_isub C dX1_hasPotter_7 ?_
  refine zt_cNi C [.int x1, .int 0, .int ((M.1 (2, c0, 0) 4) - 1)] (m_X9_within hJ  h) py_X9_within pn_X1_55 (Nat.le_of_ble_eq_true rfl) ⟨Nat.le_of_ble_eq_true rfl, Nat.le_of_ble_eq_true rfl⟩ ⟨Nat.zero_le _, Nat.zero_le _⟩ dX1_hasPotter_8 rfl (fun r2 M1 h => ?_)
  obtain ⟨g3, h⟩ := h
  exact zt_ret C hr hk (za_Bn g3) dX1_hasPotter_11 h
end
theorem m_X1_hasPotter {l : Launch} {g : za_L → Nat} {D : va_G} {cy : Nat → ClassId} (hJ : za_J g)  {c0 : Nat} (hc0 : c0 < 3) {x1 : Int32} {M : za_M} {K : Int32 → za_M → Prop} (h : f_X1_hasPotter c0 x1 M K) : za_Mi l g D cy yX1_hasPotter cX1_hasPotter 2 (some .boolean) 2 86 [.ref (g (2, c0, 0)), .int x1] M K := za_openi hJ (by decide) (Nat.le_of_ble_eq_true rfl) (fun p e s m args below meth c C hr hk => p_X1_hasPotter hJ C hr hk hc0 h)
/-! X1_hasLoan -/
def f_X1_hasLoan (c0 : Nat) (x1 : Int32) (M : za_M) (K : Int32 → za_M → Prop) : Prop :=
  f_X9_within x1 0 ((M.1 (2, c0, 0) 5) - 1) M (fun r2 M1 => za_B r2 ∧ (K r2 M1))
section
variable {p : Program} {l : Launch} {e : Env} {s : State} {m : MethodId} {args : Array Value} {below : List Frame} {meth : Method} {c : Code} {g : za_L → Nat} {D : va_G} {cy : Nat → ClassId} {K : Int32 → za_M → Prop}
set_option maxRecDepth 100000 in
set_option maxHeartbeats 4000000 in
theorem p_X1_hasLoan (hJ : za_J g) (C : za_C p s m args c cX1_hasLoan 2 RX1 g D cy) (hr : meth.sig.returnType = (some .boolean)) (hk : meth.locks = false) {c0 : Nat} (hc0 : c0 < 3) {x1 : Int32} {M : za_M} (h : f_X1_hasLoan c0 x1 M K) : zt p l e (za_rm 2 86) s m args below meth c 0 0 (MQ below (za_Qi g D cy K) args s 0 0 (za_A g)) g D cy 2 M 0 [(0, .ref (g (2, c0, 0))), (1, .int x1)] [] := by
  unfold f_X1_hasLoan at h
  refine zt_iload_n C 1 dX1_hasLoan_0 rfl rfl ?_
  refine zt_iconst C (v := 0) dX1_hasLoan_1 zk_i0 ?_
  refine zt_aload_n C 0 dX1_hasLoan_2 rfl rfl ?_
  refine zt_get C (za_mem (j := 2) rfl hc0 (by decide)) pf_X1_39 (za_E_2 g cy M c0 0) rfl dX1_hasLoan_3 ?_
  refine zt_iconst C (v := 1) dX1_hasLoan_6 zk_i1 ?_
  refine zt_isub C dX1_hasLoan_7 ?_
  refine zt_cNi C [.int x1, .int 0, .int ((M.1 (2, c0, 0) 5) - 1)] (m_X9_within hJ  h) py_X9_within pn_X1_55 (Nat.le_of_ble_eq_true rfl) ⟨Nat.le_of_ble_eq_true rfl, Nat.le_of_ble_eq_true rfl⟩ ⟨Nat.zero_le _, Nat.zero_le _⟩ dX1_hasLoan_8 rfl (fun r2 M1 h => ?_)
  obtain ⟨g3, h⟩ := h
  exact zt_ret C hr hk (za_Bn g3) dX1_hasLoan_11 h
end
theorem m_X1_hasLoan {l : Launch} {g : za_L → Nat} {D : va_G} {cy : Nat → ClassId} (hJ : za_J g)  {c0 : Nat} (hc0 : c0 < 3) {x1 : Int32} {M : za_M} {K : Int32 → za_M → Prop} (h : f_X1_hasLoan c0 x1 M K) : za_Mi l g D cy yX1_hasLoan cX1_hasLoan 2 (some .boolean) 2 86 [.ref (g (2, c0, 0)), .int x1] M K := za_openi hJ (by decide) (Nat.le_of_ble_eq_true rfl) (fun p e s m args below meth c C hr hk => p_X1_hasLoan hJ C hr hk hc0 h)
/-! X1_bushelsOfAll -/
def f_X1_bushelsOfAll_b4 (K : Int32 → za_M → Prop) (c0 : Nat) (x1 : Int32) (L4 : Int32 → Int32 → za_M → Prop) (x2 : Int32) (x3 : Int32) (M : za_M) : Prop :=
  if (M.1 (2, c0, 0) 4) ≤ x3 then (K x2 M) else (vp_in x3 4 ∧ (vp_in x1 5 ∧ (za_let (x2 + (M.1 (13, c0, x3.toNatClampNeg) x1.toNatClampNeg)) fun y4 => L4 y4 (x3 + 1) M)))
def f_X1_bushelsOfAll (c0 : Nat) (x1 : Int32) (M : za_M) (K : Int32 → za_M → Prop) : Prop :=
  ∃ n, za_lp2 (f_X1_bushelsOfAll_b4 K c0 x1) n 0 0 M
section
variable {p : Program} {l : Launch} {e : Env} {s : State} {m : MethodId} {args : Array Value} {below : List Frame} {meth : Method} {c : Code} {g : za_L → Nat} {D : va_G} {cy : Nat → ClassId} {K : Int32 → za_M → Prop}
set_option maxRecDepth 100000 in
set_option maxHeartbeats 4000000 in
theorem p_X1_bushelsOfAll_b4 (hJ : za_J g) (C : za_C p s m args c cX1_bushelsOfAll 4 RX1 g D cy) (hr : meth.sig.returnType = (some .int)) (hk : meth.locks = false) {c0 : Nat} (hc0 : c0 < 3) {x1 : Int32} {L4 : Int32 → Int32 → za_M → Prop} (hL4 : ∀ (x2 : Int32) (x3 : Int32) (M : za_M), L4 x2 x3 M → zt p l e (za_rm 1 64) s m args below meth c 0 0 (MQ below (za_Qi g D cy K) args s 0 0 (za_A g)) g D cy 4 M 4 [(0, .ref (g (2, c0, 0))), (1, .int x1), (2, .int x2), (3, .int x3)] []) : ∀ (x2 : Int32) (x3 : Int32) (M : za_M), f_X1_bushelsOfAll_b4 K c0 x1 L4 x2 x3 M → zt p l e (za_rm 1 64) s m args below meth c 0 0 (MQ below (za_Qi g D cy K) args s 0 0 (za_A g)) g D cy 4 M 4 [(0, .ref (g (2, c0, 0))), (1, .int x1), (2, .int x2), (3, .int x3)] [] := by
  intro x2 x3 M h
  unfold f_X1_bushelsOfAll_b4 at h
  refine zt_iload_n C 3 dX1_bushelsOfAll_4 rfl rfl ?_
  refine zt_aload_n C 0 dX1_bushelsOfAll_5 rfl rfl ?_
  refine zt_get C (za_mem (j := 2) rfl hc0 (by decide)) pf_X1_36 (za_E_2 g cy M c0 0) rfl dX1_bushelsOfAll_6 ?_
  refine zt_icmp_ge C 32 dX1_bushelsOfAll_9 (by decide) (fun q1 => ?_) (fun q1 => ?_)
  · replace h := za_ifp h q1
    refine zt_iload_n C 2 dX1_bushelsOfAll_32 rfl rfl ?_
    exact zt_ret C hr hk rfl dX1_bushelsOfAll_33 h
  · replace h := za_ifn h q1
    refine zt_iload_n C 2 dX1_bushelsOfAll_12 rfl rfl ?_
    refine zt_aload_n C 0 dX1_bushelsOfAll_13 rfl rfl ?_
    refine zt_get C (za_mem (j := 2) rfl hc0 (by decide)) pf_X1_19 (za_E_2 g cy M c0 0) rfl dX1_bushelsOfAll_14 ?_
    refine zt_iload_n C 3 dX1_bushelsOfAll_17 rfl rfl ?_
    obtain ⟨g2, h⟩ := h
    refine zt_aald C (za_mem (j := 11) rfl hc0 (by decide)) (za_E_11 g cy M c0 0) rfl g2 dX1_bushelsOfAll_18 ?_
    refine zt_get C (za_mem (j := 4) rfl hc0 (za_lt g2)) pf_X1_59 (za_E_4 g cy M c0 x3.toNatClampNeg) rfl dX1_bushelsOfAll_19 ?_
    refine zt_iload_n C 1 dX1_bushelsOfAll_22 rfl rfl ?_
    obtain ⟨g3, h⟩ := h
    refine zt_iald C (za_mem (j := 13) rfl hc0 (za_lt g2)) (fun W9 => za_E_13 g cy W9 c0 x3.toNatClampNeg) g3 dX1_bushelsOfAll_23 ?_
    refine zt_iadd C dX1_bushelsOfAll_24 ?_
    refine zt_topi (fun y4 e5 => ?_)
    replace h := za_use h e5
    refine zt_istore_n C [(2, .int y4), (0, .ref (g (2, c0, 0))), (1, .int x1), (3, .int x3)] dX1_bushelsOfAll_25 rfl (by decide) rfl ?_
    refine zt_iinc C (v := x3 + 1) 3 [(3, .int (x3 + 1)), (2, .int y4), (0, .ref (g (2, c0, 0))), (1, .int x1)] dX1_bushelsOfAll_26 rfl (zk_n1 _) (by decide) rfl ?_
    refine zt_goto C 4 dX1_bushelsOfAll_29 (by decide) ?_
    refine zt_sub [2, 3, 1, 0] (lv' := [(0, .ref (g (2, c0, 0))), (1, .int x1), (2, .int y4), (3, .int (x3 + 1))]) rfl ?_
    exact hL4 _ _ _ h
theorem p_X1_bushelsOfAll_b4_in (hJ : za_J g) (C : za_C p s m args c cX1_bushelsOfAll 4 RX1 g D cy) (hr : meth.sig.returnType = (some .int)) (hk : meth.locks = false) {c0 : Nat} (hc0 : c0 < 3) {x1 : Int32} {n : Nat} {x2 : Int32} {x3 : Int32} {M : za_M} (h : za_lp2 (f_X1_bushelsOfAll_b4 K c0 x1) n x2 x3 M) : zt p l e (za_rm 1 64) s m args below meth c 0 0 (MQ below (za_Qi g D cy K) args s 0 0 (za_A g)) g D cy 4 M 4 [(0, .ref (g (2, c0, 0))), (1, .int x1), (2, .int x2), (3, .int x3)] [] := za_lp2_run (Z := fun x2 x3 M => zt p l e (za_rm 1 64) s m args below meth c 0 0 (MQ below (za_Qi g D cy K) args s 0 0 (za_A g)) g D cy 4 M 4 [(0, .ref (g (2, c0, 0))), (1, .int x1), (2, .int x2), (3, .int x3)] []) (fun L hL => p_X1_bushelsOfAll_b4 hJ C hr hk hc0 hL) n x2 x3 M h
set_option maxRecDepth 100000 in
set_option maxHeartbeats 4000000 in
theorem p_X1_bushelsOfAll (hJ : za_J g) (C : za_C p s m args c cX1_bushelsOfAll 4 RX1 g D cy) (hr : meth.sig.returnType = (some .int)) (hk : meth.locks = false) {c0 : Nat} (hc0 : c0 < 3) {x1 : Int32} {M : za_M} (h : f_X1_bushelsOfAll c0 x1 M K) : zt p l e (za_rm 1 64) s m args below meth c 0 0 (MQ below (za_Qi g D cy K) args s 0 0 (za_A g)) g D cy 4 M 0 [(0, .ref (g (2, c0, 0))), (1, .int x1)] [] := by
  unfold f_X1_bushelsOfAll at h
  refine zt_iconst C (v := 0) dX1_bushelsOfAll_0 zk_i0 ?_
  refine zt_istore_n C [(2, .int 0), (0, .ref (g (2, c0, 0))), (1, .int x1)] dX1_bushelsOfAll_1 rfl (by decide) rfl ?_
  refine zt_iconst C (v := 0) dX1_bushelsOfAll_2 zk_i0 ?_
  refine zt_istore_n C [(3, .int 0), (2, .int 0), (0, .ref (g (2, c0, 0))), (1, .int x1)] dX1_bushelsOfAll_3 rfl (by decide) rfl ?_
  refine zt_sub [2, 3, 1, 0] (lv' := [(0, .ref (g (2, c0, 0))), (1, .int x1), (2, .int 0), (3, .int 0)]) rfl ?_
  obtain ⟨n, h⟩ := h
  exact p_X1_bushelsOfAll_b4_in hJ C hr hk hc0 h
end
theorem m_X1_bushelsOfAll {l : Launch} {g : za_L → Nat} {D : va_G} {cy : Nat → ClassId} (hJ : za_J g)  {c0 : Nat} (hc0 : c0 < 3) {x1 : Int32} {M : za_M} {K : Int32 → za_M → Prop} (h : f_X1_bushelsOfAll c0 x1 M K) : za_Mi l g D cy yX1_bushelsOfAll cX1_bushelsOfAll 4 (some .int) 1 64 [.ref (g (2, c0, 0)), .int x1] M K := za_openi hJ (by decide) (Nat.le_of_ble_eq_true rfl) (fun p e s m args below meth c C hr hk => p_X1_bushelsOfAll hJ C hr hk hc0 h)
/-! X1_potsOfAll -/
def f_X1_potsOfAll_b4 (K : Int32 → za_M → Prop) (c0 : Nat) (L4 : Int32 → Int32 → za_M → Prop) (x1 : Int32) (x2 : Int32) (M : za_M) : Prop :=
  if (M.1 (2, c0, 0) 4) ≤ x2 then (K x1 M) else (vp_in x2 4 ∧ (za_let (x1 + (M.1 (4, c0, x2.toNatClampNeg) 1)) fun y3 => L4 y3 (x2 + 1) M))
def f_X1_potsOfAll (c0 : Nat) (M : za_M) (K : Int32 → za_M → Prop) : Prop :=
  ∃ n, za_lp2 (f_X1_potsOfAll_b4 K c0) n 0 0 M
section
variable {p : Program} {l : Launch} {e : Env} {s : State} {m : MethodId} {args : Array Value} {below : List Frame} {meth : Method} {c : Code} {g : za_L → Nat} {D : va_G} {cy : Nat → ClassId} {K : Int32 → za_M → Prop}
set_option maxRecDepth 100000 in
set_option maxHeartbeats 4000000 in
theorem p_X1_potsOfAll_b4 (hJ : za_J g) (C : za_C p s m args c cX1_potsOfAll 3 RX1 g D cy) (hr : meth.sig.returnType = (some .int)) (hk : meth.locks = false) {c0 : Nat} (hc0 : c0 < 3) {L4 : Int32 → Int32 → za_M → Prop} (hL4 : ∀ (x1 : Int32) (x2 : Int32) (M : za_M), L4 x1 x2 M → zt p l e (za_rm 1 64) s m args below meth c 0 0 (MQ below (za_Qi g D cy K) args s 0 0 (za_A g)) g D cy 3 M 4 [(0, .ref (g (2, c0, 0))), (1, .int x1), (2, .int x2)] []) : ∀ (x1 : Int32) (x2 : Int32) (M : za_M), f_X1_potsOfAll_b4 K c0 L4 x1 x2 M → zt p l e (za_rm 1 64) s m args below meth c 0 0 (MQ below (za_Qi g D cy K) args s 0 0 (za_A g)) g D cy 3 M 4 [(0, .ref (g (2, c0, 0))), (1, .int x1), (2, .int x2)] [] := by
  intro x1 x2 M h
  unfold f_X1_potsOfAll_b4 at h
  refine zt_iload_n C 2 dX1_potsOfAll_4 rfl rfl ?_
  refine zt_aload_n C 0 dX1_potsOfAll_5 rfl rfl ?_
  refine zt_get C (za_mem (j := 2) rfl hc0 (by decide)) pf_X1_36 (za_E_2 g cy M c0 0) rfl dX1_potsOfAll_6 ?_
  refine zt_icmp_ge C 30 dX1_potsOfAll_9 (by decide) (fun q1 => ?_) (fun q1 => ?_)
  · replace h := za_ifp h q1
    refine zt_iload_n C 1 dX1_potsOfAll_30 rfl rfl ?_
    exact zt_ret C hr hk rfl dX1_potsOfAll_31 h
  · replace h := za_ifn h q1
    refine zt_iload_n C 1 dX1_potsOfAll_12 rfl rfl ?_
    refine zt_aload_n C 0 dX1_potsOfAll_13 rfl rfl ?_
    refine zt_get C (za_mem (j := 2) rfl hc0 (by decide)) pf_X1_19 (za_E_2 g cy M c0 0) rfl dX1_potsOfAll_14 ?_
    refine zt_iload_n C 2 dX1_potsOfAll_17 rfl rfl ?_
    obtain ⟨g2, h⟩ := h
    refine zt_aald C (za_mem (j := 11) rfl hc0 (by decide)) (za_E_11 g cy M c0 0) rfl g2 dX1_potsOfAll_18 ?_
    refine zt_get C (za_mem (j := 4) rfl hc0 (za_lt g2)) pf_X1_63 (za_E_4 g cy M c0 x2.toNatClampNeg) rfl dX1_potsOfAll_19 ?_
    refine zt_iadd C dX1_potsOfAll_22 ?_
    refine zt_topi (fun y3 e4 => ?_)
    replace h := za_use h e4
    refine zt_istore_n C [(1, .int y3), (0, .ref (g (2, c0, 0))), (2, .int x2)] dX1_potsOfAll_23 rfl (by decide) rfl ?_
    refine zt_iinc C (v := x2 + 1) 2 [(2, .int (x2 + 1)), (1, .int y3), (0, .ref (g (2, c0, 0)))] dX1_potsOfAll_24 rfl (zk_n1 _) (by decide) rfl ?_
    refine zt_goto C 4 dX1_potsOfAll_27 (by decide) ?_
    refine zt_sub [2, 1, 0] (lv' := [(0, .ref (g (2, c0, 0))), (1, .int y3), (2, .int (x2 + 1))]) rfl ?_
    exact hL4 _ _ _ h
theorem p_X1_potsOfAll_b4_in (hJ : za_J g) (C : za_C p s m args c cX1_potsOfAll 3 RX1 g D cy) (hr : meth.sig.returnType = (some .int)) (hk : meth.locks = false) {c0 : Nat} (hc0 : c0 < 3) {n : Nat} {x1 : Int32} {x2 : Int32} {M : za_M} (h : za_lp2 (f_X1_potsOfAll_b4 K c0) n x1 x2 M) : zt p l e (za_rm 1 64) s m args below meth c 0 0 (MQ below (za_Qi g D cy K) args s 0 0 (za_A g)) g D cy 3 M 4 [(0, .ref (g (2, c0, 0))), (1, .int x1), (2, .int x2)] [] := za_lp2_run (Z := fun x1 x2 M => zt p l e (za_rm 1 64) s m args below meth c 0 0 (MQ below (za_Qi g D cy K) args s 0 0 (za_A g)) g D cy 3 M 4 [(0, .ref (g (2, c0, 0))), (1, .int x1), (2, .int x2)] []) (fun L hL => p_X1_potsOfAll_b4 hJ C hr hk hc0 hL) n x1 x2 M h
set_option maxRecDepth 100000 in
set_option maxHeartbeats 4000000 in
theorem p_X1_potsOfAll (hJ : za_J g) (C : za_C p s m args c cX1_potsOfAll 3 RX1 g D cy) (hr : meth.sig.returnType = (some .int)) (hk : meth.locks = false) {c0 : Nat} (hc0 : c0 < 3) {M : za_M} (h : f_X1_potsOfAll c0 M K) : zt p l e (za_rm 1 64) s m args below meth c 0 0 (MQ below (za_Qi g D cy K) args s 0 0 (za_A g)) g D cy 3 M 0 [(0, .ref (g (2, c0, 0)))] [] := by
  unfold f_X1_potsOfAll at h
  refine zt_iconst C (v := 0) dX1_potsOfAll_0 zk_i0 ?_
  refine zt_istore_n C [(1, .int 0), (0, .ref (g (2, c0, 0)))] dX1_potsOfAll_1 rfl (by decide) rfl ?_
  refine zt_iconst C (v := 0) dX1_potsOfAll_2 zk_i0 ?_
  refine zt_istore_n C [(2, .int 0), (1, .int 0), (0, .ref (g (2, c0, 0)))] dX1_potsOfAll_3 rfl (by decide) rfl ?_
  refine zt_sub [2, 1, 0] (lv' := [(0, .ref (g (2, c0, 0))), (1, .int 0), (2, .int 0)]) rfl ?_
  obtain ⟨n, h⟩ := h
  exact p_X1_potsOfAll_b4_in hJ C hr hk hc0 h
end
theorem m_X1_potsOfAll {l : Launch} {g : za_L → Nat} {D : va_G} {cy : Nat → ClassId} (hJ : za_J g)  {c0 : Nat} (hc0 : c0 < 3) {M : za_M} {K : Int32 → za_M → Prop} (h : f_X1_potsOfAll c0 M K) : za_Mi l g D cy yX1_potsOfAll cX1_potsOfAll 3 (some .int) 1 64 [.ref (g (2, c0, 0))] M K := za_openi hJ (by decide) (Nat.le_of_ble_eq_true rfl) (fun p e s m args below meth c C hr hk => p_X1_potsOfAll hJ C hr hk hc0 h)

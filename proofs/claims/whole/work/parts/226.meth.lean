/-! X10_round -/
def f_X10_round_b31 (K : Int32 → za_M → Prop) (L4 : Int32 → Int32 → za_M → Prop) (L18 : Int32 → Int32 → za_M → Prop) (x2 : Int32) (x3 : Int32) (L31 : Int32 → Int32 → za_M → Prop) (x1 : Int32) (x4 : Int32) (M : za_M) : Prop :=
  vp_in 1 279 ∧ (if (M.1 (28, 0, 0) (Int32.toNatClampNeg 1)) ≤ x4 then (L18 x1 (x3 + 1) M) else (f_X10_has x2 x3 x4 M (fun r4 M3 => f_X10_has x3 x2 x4 M3 (fun r6 M5 => za_let (x1 + (za_min r4 r6)) fun y7 => L31 y7 (x4 + 1) M5))))
def f_X10_round_b18 (K : Int32 → za_M → Prop) (L4 : Int32 → Int32 → za_M → Prop) (x2 : Int32) (L18 : Int32 → Int32 → za_M → Prop) (x1 : Int32) (x3 : Int32) (M : za_M) : Prop :=
  vp_in 2 279 ∧ (if (M.1 (28, 0, 0) (Int32.toNatClampNeg 2)) ≤ x3 then (L4 x1 (x2 + 1) M) else (∃ n, za_lp2 (f_X10_round_b31 K L4 L18 x2 x3) n x1 0 M))
def f_X10_round_b4 (K : Int32 → za_M → Prop) (L4 : Int32 → Int32 → za_M → Prop) (x1 : Int32) (x2 : Int32) (M : za_M) : Prop :=
  vp_in 2 279 ∧ (if (M.1 (28, 0, 0) (Int32.toNatClampNeg 2)) ≤ x2 then (K x1 M) else (za_let (x2 + 1) fun y13 => ∃ n, za_lp2 (f_X10_round_b18 K L4 x2) n x1 y13 M))
def f_X10_round (M : za_M) (K : Int32 → za_M → Prop) : Prop :=
  ∃ n, za_lp2 (f_X10_round_b4 K) n 0 0 M
section
variable {p : Program} {l : Launch} {e : Env} {s : State} {m : MethodId} {args : Array Value} {below : List Frame} {meth : Method} {c : Code} {g : za_L → Nat} {D : va_G} {cy : Nat → ClassId} {K : Int32 → za_M → Prop}
set_option maxRecDepth 100000 in
set_option maxHeartbeats 4000000 in
theorem p_X10_round_b31 (hJ : za_J g) (C : za_C p s m args c cX10_round 5 RX10 g D cy) (hr : meth.sig.returnType = (some .int)) (hk : meth.locks = false) {x2 : Int32} {x3 : Int32} {L4 : Int32 → Int32 → za_M → Prop} (hL4 : ∀ (x1 : Int32) (x2 : Int32) (M : za_M), L4 x1 x2 M → zt p l e (za_rm 4 132) s m args below meth c 0 0 (MQ below (za_Qi g D cy K) args s 0 0 (za_A g)) g D cy 5 M 4 [(0, .ref (g (27, 0, 0))), (1, .int x1), (2, .int x2)] []) {L18 : Int32 → Int32 → za_M → Prop} (hL18 : ∀ (x1 : Int32) (x3 : Int32) (M : za_M), L18 x1 x3 M → zt p l e (za_rm 4 132) s m args below meth c 0 0 (MQ below (za_Qi g D cy K) args s 0 0 (za_A g)) g D cy 5 M 18 [(0, .ref (g (27, 0, 0))), (1, .int x1), (2, .int x2), (3, .int x3)] []) {L31 : Int32 → Int32 → za_M → Prop} (hL31 : ∀ (x1 : Int32) (x4 : Int32) (M : za_M), L31 x1 x4 M → zt p l e (za_rm 4 132) s m args below meth c 0 0 (MQ below (za_Qi g D cy K) args s 0 0 (za_A g)) g D cy 5 M 31 [(0, .ref (g (27, 0, 0))), (1, .int x1), (2, .int x2), (3, .int x3), (4, .int x4)] []) : ∀ (x1 : Int32) (x4 : Int32) (M : za_M), f_X10_round_b31 K L4 L18 x2 x3 L31 x1 x4 M → zt p l e (za_rm 4 132) s m args below meth c 0 0 (MQ below (za_Qi g D cy K) args s 0 0 (za_A g)) g D cy 5 M 31 [(0, .ref (g (27, 0, 0))), (1, .int x1), (2, .int x2), (3, .int x3), (4, .int x4)] [] := by
  intro x1 x4 M h
  unfold f_X10_round_b31 at h
  refine zt_iload C 4 dX10_round_31 rfl ?_
  refine zt_aload_n C 0 dX10_round_33 rfl rfl ?_
  refine zt_get C (za_mem (j := 27) rfl (by decide) (by decide)) pf_X10_9 (za_E_27 g cy M 0 0) rfl dX10_round_34 ?_
  refine zt_iconst C (v := 1) dX10_round_37 zk_i1 ?_
  obtain ⟨g1, h⟩ := h
  refine zt_iald C (za_mem (j := 28) rfl (by decide) (by decide)) (fun W9 => za_E_28 g cy W9 0 0) g1 dX10_round_38 ?_
  refine zt_icmp_ge C 70 dX10_round_39 (by decide) (fun q2 => ?_) (fun q2 => ?_)
  · replace h := za_ifp h q2
    refine zt_iinc C (v := x3 + 1) 3 [(3, .int (x3 + 1)), (0, .ref (g (27, 0, 0))), (1, .int x1), (2, .int x2), (4, .int x4)] dX10_round_70 rfl (zk_n1 _) (by decide) rfl ?_
    refine zt_goto C 18 dX10_round_73 (by decide) ?_
    refine zt_sub [1, 2, 3, 0] (lv' := [(0, .ref (g (27, 0, 0))), (1, .int x1), (2, .int x2), (3, .int (x3 + 1))]) rfl ?_
    exact hL18 _ _ _ h
  · replace h := za_ifn h q2
    refine zt_iload_n C 1 dX10_round_42 rfl rfl ?_
    refine zt_aload_n C 0 dX10_round_43 rfl rfl ?_
    refine zt_iload_n C 2 dX10_round_44 rfl rfl ?_
    refine zt_iload_n C 3 dX10_round_45 rfl rfl ?_
    refine zt_iload C 4 dX10_round_46 rfl ?_
    refine zt_cVi C [.int x2, .int x3, .int x4] (m_X10_has hJ  h) (za_mem (j := 27) rfl (by decide) (by decide)) (za_E_27 g cy M 0 0) rfl py_X10_has pv_X10_282 (Nat.le_of_ble_eq_true rfl) ⟨Nat.le_of_ble_eq_true rfl, Nat.le_of_ble_eq_true rfl⟩ ⟨Nat.zero_le _, Nat.zero_le _⟩ dX10_round_48 rfl (fun r4 M3 h => ?_)
    refine zt_aload_n C 0 dX10_round_51 rfl rfl ?_
    refine zt_iload_n C 3 dX10_round_52 rfl rfl ?_
    refine zt_iload_n C 2 dX10_round_53 rfl rfl ?_
    refine zt_iload C 4 dX10_round_54 rfl ?_
    refine zt_cVi C [.int x3, .int x2, .int x4] (m_X10_has hJ  h) (za_mem (j := 27) rfl (by decide) (by decide)) (za_E_27 g cy M3 0 0) rfl py_X10_has pv_X10_282 (Nat.le_of_ble_eq_true rfl) ⟨Nat.le_of_ble_eq_true rfl, Nat.le_of_ble_eq_true rfl⟩ ⟨Nat.zero_le _, Nat.zero_le _⟩ dX10_round_56 rfl (fun r6 M5 h => ?_)
    refine zt_mmin C w_1091 w_702 w_91 w_703 (Nat.le_of_ble_eq_true rfl) (Nat.le_of_ble_eq_true rfl) (Nat.zero_le _) (Nat.zero_le _) dX10_round_59 ?_
    refine zt_iadd C dX10_round_62 ?_
    refine zt_topi (fun y7 e8 => ?_)
    replace h := za_use h e8
    refine zt_istore_n C [(1, .int y7), (0, .ref (g (27, 0, 0))), (2, .int x2), (3, .int x3), (4, .int x4)] dX10_round_63 rfl (by decide) rfl ?_
    refine zt_iinc C (v := x4 + 1) 4 [(4, .int (x4 + 1)), (1, .int y7), (0, .ref (g (27, 0, 0))), (2, .int x2), (3, .int x3)] dX10_round_64 rfl (zk_n1 _) (by decide) rfl ?_
    refine zt_goto C 31 dX10_round_67 (by decide) ?_
    refine zt_sub [2, 1, 3, 4, 0] (lv' := [(0, .ref (g (27, 0, 0))), (1, .int y7), (2, .int x2), (3, .int x3), (4, .int (x4 + 1))]) rfl ?_
    exact hL31 _ _ _ h
theorem p_X10_round_b31_in (hJ : za_J g) (C : za_C p s m args c cX10_round 5 RX10 g D cy) (hr : meth.sig.returnType = (some .int)) (hk : meth.locks = false) {x2 : Int32} {x3 : Int32} {L4 : Int32 → Int32 → za_M → Prop} (hL4 : ∀ (x1 : Int32) (x2 : Int32) (M : za_M), L4 x1 x2 M → zt p l e (za_rm 4 132) s m args below meth c 0 0 (MQ below (za_Qi g D cy K) args s 0 0 (za_A g)) g D cy 5 M 4 [(0, .ref (g (27, 0, 0))), (1, .int x1), (2, .int x2)] []) {L18 : Int32 → Int32 → za_M → Prop} (hL18 : ∀ (x1 : Int32) (x3 : Int32) (M : za_M), L18 x1 x3 M → zt p l e (za_rm 4 132) s m args below meth c 0 0 (MQ below (za_Qi g D cy K) args s 0 0 (za_A g)) g D cy 5 M 18 [(0, .ref (g (27, 0, 0))), (1, .int x1), (2, .int x2), (3, .int x3)] []) {n : Nat} {x1 : Int32} {x4 : Int32} {M : za_M} (h : za_lp2 (f_X10_round_b31 K L4 L18 x2 x3) n x1 x4 M) : zt p l e (za_rm 4 132) s m args below meth c 0 0 (MQ below (za_Qi g D cy K) args s 0 0 (za_A g)) g D cy 5 M 31 [(0, .ref (g (27, 0, 0))), (1, .int x1), (2, .int x2), (3, .int x3), (4, .int x4)] [] := za_lp2_run (Z := fun x1 x4 M => zt p l e (za_rm 4 132) s m args below meth c 0 0 (MQ below (za_Qi g D cy K) args s 0 0 (za_A g)) g D cy 5 M 31 [(0, .ref (g (27, 0, 0))), (1, .int x1), (2, .int x2), (3, .int x3), (4, .int x4)] []) (fun L hL => p_X10_round_b31 hJ C hr hk hL4 hL18 hL) n x1 x4 M h
set_option maxRecDepth 100000 in
set_option maxHeartbeats 4000000 in
theorem p_X10_round_b18 (hJ : za_J g) (C : za_C p s m args c cX10_round 5 RX10 g D cy) (hr : meth.sig.returnType = (some .int)) (hk : meth.locks = false) {x2 : Int32} {L4 : Int32 → Int32 → za_M → Prop} (hL4 : ∀ (x1 : Int32) (x2 : Int32) (M : za_M), L4 x1 x2 M → zt p l e (za_rm 4 132) s m args below meth c 0 0 (MQ below (za_Qi g D cy K) args s 0 0 (za_A g)) g D cy 5 M 4 [(0, .ref (g (27, 0, 0))), (1, .int x1), (2, .int x2)] []) {L18 : Int32 → Int32 → za_M → Prop} (hL18 : ∀ (x1 : Int32) (x3 : Int32) (M : za_M), L18 x1 x3 M → zt p l e (za_rm 4 132) s m args below meth c 0 0 (MQ below (za_Qi g D cy K) args s 0 0 (za_A g)) g D cy 5 M 18 [(0, .ref (g (27, 0, 0))), (1, .int x1), (2, .int x2), (3, .int x3)] []) : ∀ (x1 : Int32) (x3 : Int32) (M : za_M), f_X10_round_b18 K L4 x2 L18 x1 x3 M → zt p l e (za_rm 4 132) s m args below meth c 0 0 (MQ below (za_Qi g D cy K) args s 0 0 (za_A g)) g D cy 5 M 18 [(0, .ref (g (27, 0, 0))), (1, .int x1), (2, .int x2), (3, .int x3)] [] := by
  intro x1 x3 M h
  unfold f_X10_round_b18 at h
  refine zt_iload_n C 3 dX10_round_18 rfl rfl ?_
  refine zt_aload_n C 0 dX10_round_19 rfl rfl ?_
  refine zt_get C (za_mem (j := 27) rfl (by decide) (by decide)) pf_X10_9 (za_E_27 g cy M 0 0) rfl dX10_round_20 ?_
  refine zt_iconst C (v := 2) dX10_round_23 zk_i2 ?_
  obtain ⟨g9, h⟩ := h
  refine zt_iald C (za_mem (j := 28) rfl (by decide) (by decide)) (fun W9 => za_E_28 g cy W9 0 0) g9 dX10_round_24 ?_
  refine zt_icmp_ge C 76 dX10_round_25 (by decide) (fun q10 => ?_) (fun q10 => ?_)
  · replace h := za_ifp h q10
    refine zt_iinc C (v := x2 + 1) 2 [(2, .int (x2 + 1)), (0, .ref (g (27, 0, 0))), (1, .int x1), (3, .int x3)] dX10_round_76 rfl (zk_n1 _) (by decide) rfl ?_
    refine zt_goto C 4 dX10_round_79 (by decide) ?_
    refine zt_sub [1, 2, 0] (lv' := [(0, .ref (g (27, 0, 0))), (1, .int x1), (2, .int (x2 + 1))]) rfl ?_
    exact hL4 _ _ _ h
  · replace h := za_ifn h q10
    refine zt_iconst C (v := 0) dX10_round_28 zk_i0 ?_
    refine zt_istore C [(4, .int 0), (0, .ref (g (27, 0, 0))), (1, .int x1), (2, .int x2), (3, .int x3)] dX10_round_29 (by decide) rfl ?_
    refine zt_sub [1, 2, 3, 4, 0] (lv' := [(0, .ref (g (27, 0, 0))), (1, .int x1), (2, .int x2), (3, .int x3), (4, .int 0)]) rfl ?_
    obtain ⟨n, h⟩ := h
    exact p_X10_round_b31_in hJ C hr hk hL4 hL18 h
theorem p_X10_round_b18_in (hJ : za_J g) (C : za_C p s m args c cX10_round 5 RX10 g D cy) (hr : meth.sig.returnType = (some .int)) (hk : meth.locks = false) {x2 : Int32} {L4 : Int32 → Int32 → za_M → Prop} (hL4 : ∀ (x1 : Int32) (x2 : Int32) (M : za_M), L4 x1 x2 M → zt p l e (za_rm 4 132) s m args below meth c 0 0 (MQ below (za_Qi g D cy K) args s 0 0 (za_A g)) g D cy 5 M 4 [(0, .ref (g (27, 0, 0))), (1, .int x1), (2, .int x2)] []) {n : Nat} {x1 : Int32} {x3 : Int32} {M : za_M} (h : za_lp2 (f_X10_round_b18 K L4 x2) n x1 x3 M) : zt p l e (za_rm 4 132) s m args below meth c 0 0 (MQ below (za_Qi g D cy K) args s 0 0 (za_A g)) g D cy 5 M 18 [(0, .ref (g (27, 0, 0))), (1, .int x1), (2, .int x2), (3, .int x3)] [] := za_lp2_run (Z := fun x1 x3 M => zt p l e (za_rm 4 132) s m args below meth c 0 0 (MQ below (za_Qi g D cy K) args s 0 0 (za_A g)) g D cy 5 M 18 [(0, .ref (g (27, 0, 0))), (1, .int x1), (2, .int x2), (3, .int x3)] []) (fun L hL => p_X10_round_b18 hJ C hr hk hL4 hL) n x1 x3 M h
set_option maxRecDepth 100000 in
set_option maxHeartbeats 4000000 in
theorem p_X10_round_b4 (hJ : za_J g) (C : za_C p s m args c cX10_round 5 RX10 g D cy) (hr : meth.sig.returnType = (some .int)) (hk : meth.locks = false) {L4 : Int32 → Int32 → za_M → Prop} (hL4 : ∀ (x1 : Int32) (x2 : Int32) (M : za_M), L4 x1 x2 M → zt p l e (za_rm 4 132) s m args below meth c 0 0 (MQ below (za_Qi g D cy K) args s 0 0 (za_A g)) g D cy 5 M 4 [(0, .ref (g (27, 0, 0))), (1, .int x1), (2, .int x2)] []) : ∀ (x1 : Int32) (x2 : Int32) (M : za_M), f_X10_round_b4 K L4 x1 x2 M → zt p l e (za_rm 4 132) s m args below meth c 0 0 (MQ below (za_Qi g D cy K) args s 0 0 (za_A g)) g D cy 5 M 4 [(0, .ref (g (27, 0, 0))), (1, .int x1), (2, .int x2)] [] := by
  intro x1 x2 M h
  unfold f_X10_round_b4 at h
  refine zt_iload_n C 2 dX10_round_4 rfl rfl ?_
  refine zt_aload_n C 0 dX10_round_5 rfl rfl ?_
  refine zt_get C (za_mem (j := 27) rfl (by decide) (by decide)) pf_X10_9 (za_E_27 g cy M 0 0) rfl dX10_round_6 ?_
  refine zt_iconst C (v := 2) dX10_round_9 zk_i2 ?_
  obtain ⟨g11, h⟩ := h
  refine zt_iald C (za_mem (j := 28) rfl (by decide) (by decide)) (fun W9 => za_E_28 g cy W9 0 0) g11 dX10_round_10 ?_
  refine zt_icmp_ge C 82 dX10_round_11 (by decide) (fun q12 => ?_) (fun q12 => ?_)
  · replace h := za_ifp h q12
    refine zt_iload_n C 1 dX10_round_82 rfl rfl ?_
    exact zt_ret C hr hk rfl dX10_round_83 h
  · replace h := za_ifn h q12
    refine zt_iload_n C 2 dX10_round_14 rfl rfl ?_
    refine zt_iconst C (v := 1) dX10_round_15 zk_i1 ?_
    refine zt_iadd C dX10_round_16 ?_
    refine zt_topi (fun y13 e14 => ?_)
    replace h := za_use h e14
    refine zt_istore_n C [(3, .int y13), (0, .ref (g (27, 0, 0))), (1, .int x1), (2, .int x2)] dX10_round_17 rfl (by decide) rfl ?_
    refine zt_sub [1, 2, 3, 0] (lv' := [(0, .ref (g (27, 0, 0))), (1, .int x1), (2, .int x2), (3, .int y13)]) rfl ?_
    obtain ⟨n, h⟩ := h
    exact p_X10_round_b18_in hJ C hr hk hL4 h
theorem p_X10_round_b4_in (hJ : za_J g) (C : za_C p s m args c cX10_round 5 RX10 g D cy) (hr : meth.sig.returnType = (some .int)) (hk : meth.locks = false) {n : Nat} {x1 : Int32} {x2 : Int32} {M : za_M} (h : za_lp2 (f_X10_round_b4 K) n x1 x2 M) : zt p l e (za_rm 4 132) s m args below meth c 0 0 (MQ below (za_Qi g D cy K) args s 0 0 (za_A g)) g D cy 5 M 4 [(0, .ref (g (27, 0, 0))), (1, .int x1), (2, .int x2)] [] := za_lp2_run (Z := fun x1 x2 M => zt p l e (za_rm 4 132) s m args below meth c 0 0 (MQ below (za_Qi g D cy K) args s 0 0 (za_A g)) g D cy 5 M 4 [(0, .ref (g (27, 0, 0))), (1, .int x1), (2, .int x2)] []) (fun L hL => p_X10_round_b4 hJ C hr hk  hL) n x1 x2 M h
set_option maxRecDepth 100000 in
set_option maxHeartbeats 4000000 in
theorem p_X10_round (hJ : za_J g) (C : za_C p s m args c cX10_round 5 RX10 g D cy) (hr : meth.sig.returnType = (some .int)) (hk : meth.locks = false) {M : za_M} (h : f_X10_round M K) : zt p l e (za_rm 4 132) s m args below meth c 0 0 (MQ below (za_Qi g D cy K) args s 0 0 (za_A g)) g D cy 5 M 0 [(0, .ref (g (27, 0, 0)))] [] := by
  unfold f_X10_round at h
  refine zt_iconst C (v := 0) dX10_round_0 zk_i0 ?_
  refine zt_istore_n C [(1, .int 0), (0, .ref (g (27, 0, 0)))] dX10_round_1 rfl (by decide) rfl ?_
  refine zt_iconst C (v := 0) dX10_round_2 zk_i0 ?_
  refine zt_istore_n C [(2, .int 0), (1, .int 0), (0, .ref (g (27, 0, 0)))] dX10_round_3 rfl (by decide) rfl ?_
  refine zt_sub [2, 1, 0] (lv' := [(0, .ref (g (27, 0, 0))), (1, .int 0), (2, .int 0)]) rfl ?_
  obtain ⟨n, h⟩ := h
  exact p_X10_round_b4_in hJ C hr hk  h
end
theorem m_X10_round {l : Launch} {g : za_L → Nat} {D : va_G} {cy : Nat → ClassId} (hJ : za_J g)  {M : za_M} {K : Int32 → za_M → Prop} (h : f_X10_round M K) : za_Mi l g D cy yX10_round cX10_round 5 (some .int) 4 132 [.ref (g (27, 0, 0))] M K := za_openi hJ (by decide) (Nat.le_of_ble_eq_true rfl) (fun p e s m args below meth c C hr hk => p_X10_round hJ C hr hk  h)
/-! X10_brokenAll -/
def f_X10_brokenAll_b4 (K : Int32 → za_M → Prop) (L4 : Int32 → Int32 → za_M → Prop) (x1 : Int32) (x2 : Int32) (M : za_M) : Prop :=
  vp_in 2 279 ∧ (if (M.1 (28, 0, 0) (Int32.toNatClampNeg 2)) ≤ x2 then (K x1 M) else (f_X10_potterAt x2 1 M (fun r4 M3 => vp_in r4 279 ∧ (za_let (x1 + (M3.1 (28, 0, 0) r4.toNatClampNeg)) fun y6 => L4 y6 (x2 + 1) M3))))
def f_X10_brokenAll (M : za_M) (K : Int32 → za_M → Prop) : Prop :=
  ∃ n, za_lp2 (f_X10_brokenAll_b4 K) n 0 0 M
section
variable {p : Program} {l : Launch} {e : Env} {s : State} {m : MethodId} {args : Array Value} {below : List Frame} {meth : Method} {c : Code} {g : za_L → Nat} {D : va_G} {cy : Nat → ClassId} {K : Int32 → za_M → Prop}
set_option maxRecDepth 100000 in
set_option maxHeartbeats 4000000 in
theorem p_X10_brokenAll_b4 (hJ : za_J g) (C : za_C p s m args c cX10_brokenAll 3 RX10 g D cy) (hr : meth.sig.returnType = (some .int)) (hk : meth.locks = false) {L4 : Int32 → Int32 → za_M → Prop} (hL4 : ∀ (x1 : Int32) (x2 : Int32) (M : za_M), L4 x1 x2 M → zt p l e (za_rm 2 85) s m args below meth c 0 0 (MQ below (za_Qi g D cy K) args s 0 0 (za_A g)) g D cy 3 M 4 [(0, .ref (g (27, 0, 0))), (1, .int x1), (2, .int x2)] []) : ∀ (x1 : Int32) (x2 : Int32) (M : za_M), f_X10_brokenAll_b4 K L4 x1 x2 M → zt p l e (za_rm 2 85) s m args below meth c 0 0 (MQ below (za_Qi g D cy K) args s 0 0 (za_A g)) g D cy 3 M 4 [(0, .ref (g (27, 0, 0))), (1, .int x1), (2, .int x2)] [] := by
  intro x1 x2 M h
  unfold f_X10_brokenAll_b4 at h
  refine zt_iload_n C 2 dX10_brokenAll_4 rfl rfl ?_
  refine zt_aload_n C 0 dX10_brokenAll_5 rfl rfl ?_
  refine zt_get C (za_mem (j := 27) rfl (by decide) (by decide)) pf_X10_9 (za_E_27 g cy M 0 0) rfl dX10_brokenAll_6 ?_
  refine zt_iconst C (v := 2) dX10_brokenAll_9 zk_i2 ?_
  obtain ⟨g1, h⟩ := h
  refine zt_iald C (za_mem (j := 28) rfl (by decide) (by decide)) (fun W9 => za_E_28 g cy W9 0 0) g1 dX10_brokenAll_10 ?_
  refine zt_icmp_ge C 33 dX10_brokenAll_11 (by decide) (fun q2 => ?_) (fun q2 => ?_)
  · replace h := za_ifp h q2
    refine zt_iload_n C 1 dX10_brokenAll_33 rfl rfl ?_
    exact zt_ret C hr hk rfl dX10_brokenAll_34 h
  · replace h := za_ifn h q2
    refine zt_iload_n C 1 dX10_brokenAll_14 rfl rfl ?_
    refine zt_aload_n C 0 dX10_brokenAll_15 rfl rfl ?_
    refine zt_get C (za_mem (j := 27) rfl (by decide) (by decide)) pf_X10_9 (za_E_27 g cy M 0 0) rfl dX10_brokenAll_16 ?_
    refine zt_iload_n C 2 dX10_brokenAll_19 rfl rfl ?_
    refine zt_iconst C (v := 1) dX10_brokenAll_20 zk_i1 ?_
    refine zt_cSi C [.int x2, .int 1] (m_X10_potterAt hJ  h) py_X10_potterAt ps_X10_191 (Nat.le_of_ble_eq_true rfl) ⟨Nat.le_of_ble_eq_true rfl, Nat.le_of_ble_eq_true rfl⟩ ⟨Nat.zero_le _, Nat.zero_le _⟩ dX10_brokenAll_21 rfl (fun r4 M3 h => ?_)
    obtain ⟨g5, h⟩ := h
    refine zt_iald C (za_mem (j := 28) rfl (by decide) (by decide)) (fun W9 => za_E_28 g cy W9 0 0) g5 dX10_brokenAll_24 ?_
    refine zt_iadd C dX10_brokenAll_25 ?_
    refine zt_topi (fun y6 e7 => ?_)
    replace h := za_use h e7
    refine zt_istore_n C [(1, .int y6), (0, .ref (g (27, 0, 0))), (2, .int x2)] dX10_brokenAll_26 rfl (by decide) rfl ?_
    refine zt_iinc C (v := x2 + 1) 2 [(2, .int (x2 + 1)), (1, .int y6), (0, .ref (g (27, 0, 0)))] dX10_brokenAll_27 rfl (zk_n1 _) (by decide) rfl ?_
    refine zt_goto C 4 dX10_brokenAll_30 (by decide) ?_
    refine zt_sub [2, 1, 0] (lv' := [(0, .ref (g (27, 0, 0))), (1, .int y6), (2, .int (x2 + 1))]) rfl ?_
    exact hL4 _ _ _ h
theorem p_X10_brokenAll_b4_in (hJ : za_J g) (C : za_C p s m args c cX10_brokenAll 3 RX10 g D cy) (hr : meth.sig.returnType = (some .int)) (hk : meth.locks = false) {n : Nat} {x1 : Int32} {x2 : Int32} {M : za_M} (h : za_lp2 (f_X10_brokenAll_b4 K) n x1 x2 M) : zt p l e (za_rm 2 85) s m args below meth c 0 0 (MQ below (za_Qi g D cy K) args s 0 0 (za_A g)) g D cy 3 M 4 [(0, .ref (g (27, 0, 0))), (1, .int x1), (2, .int x2)] [] := za_lp2_run (Z := fun x1 x2 M => zt p l e (za_rm 2 85) s m args below meth c 0 0 (MQ below (za_Qi g D cy K) args s 0 0 (za_A g)) g D cy 3 M 4 [(0, .ref (g (27, 0, 0))), (1, .int x1), (2, .int x2)] []) (fun L hL => p_X10_brokenAll_b4 hJ C hr hk  hL) n x1 x2 M h
set_option maxRecDepth 100000 in
set_option maxHeartbeats 4000000 in
theorem p_X10_brokenAll (hJ : za_J g) (C : za_C p s m args c cX10_brokenAll 3 RX10 g D cy) (hr : meth.sig.returnType = (some .int)) (hk : meth.locks = false) {M : za_M} (h : f_X10_brokenAll M K) : zt p l e (za_rm 2 85) s m args below meth c 0 0 (MQ below (za_Qi g D cy K) args s 0 0 (za_A g)) g D cy 3 M 0 [(0, .ref (g (27, 0, 0)))] [] := by
  unfold f_X10_brokenAll at h
  refine zt_iconst C (v := 0) dX10_brokenAll_0 zk_i0 ?_
  refine zt_istore_n C [(1, .int 0), (0, .ref (g (27, 0, 0)))] dX10_brokenAll_1 rfl (by decide) rfl ?_
  refine zt_iconst C (v := 0) dX10_brokenAll_2 zk_i0 ?_
  refine zt_istore_n C [(2, .int 0), (1, .int 0), (0, .ref (g (27, 0, 0)))] dX10_brokenAll_3 rfl (by decide) rfl ?_
  refine zt_sub [2, 1, 0] (lv' := [(0, .ref (g (27, 0, 0))), (1, .int 0), (2, .int 0)]) rfl ?_
  obtain ⟨n, h⟩ := h
  exact p_X10_brokenAll_b4_in hJ C hr hk  h
end
theorem m_X10_brokenAll {l : Launch} {g : za_L → Nat} {D : va_G} {cy : Nat → ClassId} (hJ : za_J g)  {M : za_M} {K : Int32 → za_M → Prop} (h : f_X10_brokenAll M K) : za_Mi l g D cy yX10_brokenAll cX10_brokenAll 3 (some .int) 2 85 [.ref (g (27, 0, 0))] M K := za_openi hJ (by decide) (Nat.le_of_ble_eq_true rfl) (fun p e s m args below meth c C hr hk => p_X10_brokenAll hJ C hr hk  h)
/-! X10_brokenIfLent -/
def f_X10_brokenIfLent (x1 : Int32) (x2 : Int32) (x3 : Int32) (x4 : Int32) (x5 : Int32) (M : za_M) (K : Int32 → za_M → Prop) : Prop :=
  f_X10_copy (28, 0, 0) (30, 0, 0) M (fun M1 => f_X10_lendNow x1 x2 x3 x4 x5 M1 (fun r4 M3 => f_X10_daysGo 60 M3 (fun M5 => if 0 ≤ r4 then (f_X10_brokenAll M5 (fun r9 M8 => f_X10_putBack r9 M8 (fun r11 M10 => K r11 M10))) else (f_X10_putBack r4 M5 (fun r13 M12 => K r13 M12)))))
section
variable {p : Program} {l : Launch} {e : Env} {s : State} {m : MethodId} {args : Array Value} {below : List Frame} {meth : Method} {c : Code} {g : za_L → Nat} {D : va_G} {cy : Nat → ClassId} {K : Int32 → za_M → Prop}
set_option maxRecDepth 100000 in
set_option maxHeartbeats 4000000 in
theorem p_X10_brokenIfLent (hJ : za_J g) (C : za_C p s m args c cX10_brokenIfLent 7 RX10 g D cy) (hr : meth.sig.returnType = (some .int)) (hk : meth.locks = false) {x1 : Int32} {x2 : Int32} {x3 : Int32} {x4 : Int32} {x5 : Int32} {M : za_M} (h : f_X10_brokenIfLent x1 x2 x3 x4 x5 M K) : zt p l e (za_rm 7 204) s m args below meth c 0 0 (MQ below (za_Qi g D cy K) args s 0 0 (za_A g)) g D cy 7 M 0 [(0, .ref (g (27, 0, 0))), (1, .int x1), (2, .int x2), (3, .int x3), (4, .int x4), (5, .int x5)] [] := by
  unfold f_X10_brokenIfLent at h
  refine zt_aload_n C 0 dX10_brokenIfLent_0 rfl rfl ?_
  refine zt_get C (za_mem (j := 27) rfl (by decide) (by decide)) pf_X10_9 (za_E_27 g cy M 0 0) rfl dX10_brokenIfLent_1 ?_
  refine zt_aload_n C 0 dX10_brokenIfLent_4 rfl rfl ?_
  refine zt_get C (za_mem (j := 27) rfl (by decide) (by decide)) pf_X10_16 (za_E_27 g cy M 0 0) rfl dX10_brokenIfLent_5 ?_
  refine zt_cSv C [.ref (g (28, 0, 0)), .ref (g (30, 0, 0))] (m_X10_copy hJ (za_I_of (za_mem (j := 28) rfl (by decide) (by decide)) (fun g9 cy9 W9 => za_E_28 g9 cy9 W9 0 0)) (za_I_of (za_mem (j := 30) rfl (by decide) (by decide)) (fun g9 cy9 W9 => za_E_30 g9 cy9 W9 0 0)) h) py_X10_copy ps_X10_66 (Nat.le_of_ble_eq_true rfl) ⟨Nat.le_of_ble_eq_true rfl, Nat.le_of_ble_eq_true rfl⟩ ⟨Nat.zero_le _, Nat.zero_le _⟩ dX10_brokenIfLent_8 rfl (fun M1 h => ?_)
  refine zt_aload_n C 0 dX10_brokenIfLent_11 rfl rfl ?_
  refine zt_iload_n C 1 dX10_brokenIfLent_12 rfl rfl ?_
  refine zt_iload_n C 2 dX10_brokenIfLent_13 rfl rfl ?_
  refine zt_iload_n C 3 dX10_brokenIfLent_14 rfl rfl ?_
  refine zt_iload C 4 dX10_brokenIfLent_15 rfl ?_
  refine zt_iload C 5 dX10_brokenIfLent_17 rfl ?_
  refine zt_cVi C [.int x1, .int x2, .int x3, .int x4, .int x5] (m_X10_lendNow hJ  h) (za_mem (j := 27) rfl (by decide) (by decide)) (za_E_27 g cy M1 0 0) rfl py_X10_lendNow pv_X10_237 (Nat.le_of_ble_eq_true rfl) ⟨Nat.le_of_ble_eq_true rfl, Nat.le_of_ble_eq_true rfl⟩ ⟨Nat.zero_le _, Nat.zero_le _⟩ dX10_brokenIfLent_19 rfl (fun r4 M3 h => ?_)
  refine zt_istore C [(6, .int r4), (0, .ref (g (27, 0, 0))), (1, .int x1), (2, .int x2), (3, .int x3), (4, .int x4), (5, .int x5)] dX10_brokenIfLent_22 (by decide) rfl ?_
  refine zt_aload_n C 1 dX10_brokenIfLent_24 rfl rfl ?_
  refine zt_bipush C (v := 60) dX10_brokenIfLent_25 zk_b60 ?_
  refine zt_cVv C [.int 60] (m_X10_daysGo hJ  h) (za_mem (j := 27) rfl (by decide) (by decide)) (za_E_27 g cy M3 0 0) rfl py_X10_daysGo pv_X10_259 (Nat.le_of_ble_eq_true rfl) ⟨Nat.le_of_ble_eq_true rfl, Nat.le_of_ble_eq_true rfl⟩ ⟨Nat.zero_le _, Nat.zero_le _⟩ dX10_brokenIfLent_27 rfl (fun M5 h => ?_)
  refine zt_aload_n C 1 dX10_brokenIfLent_30 rfl rfl ?_
  refine zt_iload C 0 dX10_brokenIfLent_31 rfl ?_
  refine zt_if_ge C 41 dX10_brokenIfLent_33 (by decide) (fun q7 => ?_) (fun q7 => ?_)
  · replace h := za_ifp h q7
    refine zt_aload_n C 1 dX10_brokenIfLent_41 rfl rfl ?_
    refine zt_cVi C [] (m_X10_brokenAll hJ  h) (za_mem (j := 27) rfl (by decide) (by decide)) (za_E_27 g cy M5 0 0) rfl py_X10_brokenAll pv_X10_285 (Nat.le_of_ble_eq_true rfl) ⟨Nat.le_of_ble_eq_true rfl, Nat.le_of_ble_eq_true rfl⟩ ⟨Nat.zero_le _, Nat.zero_le _⟩ dX10_brokenIfLent_42 rfl (fun r9 M8 h => ?_)
    refine zt_cVi C [.int r9] (m_X10_putBack hJ  h) (za_mem (j := 27) rfl (by decide) (by decide)) (za_E_27 g cy M8 0 0) rfl py_X10_putBack pv_X10_266 (Nat.le_of_ble_eq_true rfl) ⟨Nat.le_of_ble_eq_true rfl, Nat.le_of_ble_eq_true rfl⟩ ⟨Nat.zero_le _, Nat.zero_le _⟩ dX10_brokenIfLent_45 rfl (fun r11 M10 h => ?_)
    exact zt_ret C hr hk rfl dX10_brokenIfLent_48 h
  · replace h := za_ifn h q7
    refine zt_iload C 0 dX10_brokenIfLent_36 rfl ?_
    refine zt_goto C 45 dX10_brokenIfLent_38 (by decide) ?_
    refine zt_cVi C [.int r4] (m_X10_putBack hJ  h) (za_mem (j := 27) rfl (by decide) (by decide)) (za_E_27 g cy M5 0 0) rfl py_X10_putBack pv_X10_266 (Nat.le_of_ble_eq_true rfl) ⟨Nat.le_of_ble_eq_true rfl, Nat.le_of_ble_eq_true rfl⟩ ⟨Nat.zero_le _, Nat.zero_le _⟩ dX10_brokenIfLent_45 rfl (fun r13 M12 h => ?_)
    exact zt_ret C hr hk rfl dX10_brokenIfLent_48 h
end
theorem m_X10_brokenIfLent {l : Launch} {g : za_L → Nat} {D : va_G} {cy : Nat → ClassId} (hJ : za_J g)  {x1 : Int32} {x2 : Int32} {x3 : Int32} {x4 : Int32} {x5 : Int32} {M : za_M} {K : Int32 → za_M → Prop} (h : f_X10_brokenIfLent x1 x2 x3 x4 x5 M K) : za_Mi l g D cy yX10_brokenIfLent cX10_brokenIfLent 7 (some .int) 7 204 [.ref (g (27, 0, 0)), .int x1, .int x2, .int x3, .int x4, .int x5] M K := za_openi hJ (by decide) (Nat.le_of_ble_eq_true rfl) (fun p e s m args below meth c C hr hk => p_X10_brokenIfLent hJ C hr hk  h)
/-! X10_lender -/
def f_X10_lender_b134 (K : Int32 → za_M → Prop) (L73 : Int32 → Int32 → Int32 → za_M → Prop) (x1 : Int32) (x2 : Int32) (x3 : Int32) (x4 : Int32) (x6 : Int32) (x7 : Int32) (x8 : Int32) (s0 : Int32) (M : za_M) : Prop :=
  za_let (za_min x6 x8) fun y1 => L73 s0 y1 (x7 + 1) M
def f_X10_lender_b118 (K : Int32 → za_M → Prop) (L73 : Int32 → Int32 → Int32 → za_M → Prop) (x1 : Int32) (x2 : Int32) (x3 : Int32) (x4 : Int32) (x5 : Int32) (x6 : Int32) (x7 : Int32) (s0 : Int32) (M : za_M) : Prop :=
  if x6 ≤ s0 then (f_X10_lender_b134 K L73 x1 x2 x3 x4 x6 x7 s0 x5 M) else (f_X10_lender_b134 K L73 x1 x2 x3 x4 x6 x7 s0 x7 M)
def f_X10_lender_b116 (K : Int32 → za_M → Prop) (L73 : Int32 → Int32 → Int32 → za_M → Prop) (x1 : Int32) (x2 : Int32) (x3 : Int32) (x4 : Int32) (x5 : Int32) (x6 : Int32) (x7 : Int32) (M : za_M) : Prop :=
  f_X10_lender_b118 K L73 x1 x2 x3 x4 x5 x6 x7 x6 M
def f_X10_lender_b73 (K : Int32 → za_M → Prop) (x1 : Int32) (x2 : Int32) (x3 : Int32) (x4 : Int32) (L73 : Int32 → Int32 → Int32 → za_M → Prop) (x5 : Int32) (x6 : Int32) (x7 : Int32) (M : za_M) : Prop :=
  vp_in 2 279 ∧ (if (M.1 (28, 0, 0) (Int32.toNatClampNeg 2)) ≤ x7 then (if 0 ≤ x5 then (K x5 M) else (f_X10_finding (-1000000002) M (fun r8 M7 => K r8 M7))) else (if x7 = x1 then (f_X10_lender_b116 K L73 x1 x2 x3 x4 x5 x6 x7 M) else (f_X10_canLend x7 x1 x2 x3 M (fun r11 M10 => if r11 = 0 then (f_X10_lender_b116 K L73 x1 x2 x3 x4 x5 x6 x7 M10) else (f_X10_brokenIfLent x7 x1 x2 x3 x4 M10 (fun r14 M13 => f_X10_lender_b118 K L73 x1 x2 x3 x4 x5 x6 x7 r14 M13))))))
def f_X10_lender (x1 : Int32) (x2 : Int32) (x3 : Int32) (x4 : Int32) (M : za_M) (K : Int32 → za_M → Prop) : Prop :=
  f_X10_isPotter x1 M (fun r16 M15 => if r16 = 0 then (f_X10_finding (-1000000001) M15 (fun r19 M18 => K r19 M18)) else (f_X10_isAsh x2 M15 (fun r21 M20 => if r21 = 0 then (f_X10_finding (-1000000001) M20 (fun r24 M23 => K r24 M23)) else (f_X10_within x3 1 99 M20 (fun r26 M25 => if r26 = 0 then (f_X10_finding (-1000000001) M25 (fun r29 M28 => K r29 M28)) else (f_X10_within x4 1 20 M25 (fun r31 M30 => if r31 = 0 then (f_X10_finding (-1000000001) M30 (fun r38 M37 => K r38 M37)) else (vp_in 3 279 ∧ (if (M30.1 (28, 0, 0) (Int32.toNatClampNeg 3)) = 10 then (f_X10_finding (-1000000004) M30 (fun r36 M35 => K r36 M35)) else (∃ n, za_lp3 (f_X10_lender_b73 K x1 x2 x3 x4) n (-1) 397 0 M30))))))))))
section
variable {p : Program} {l : Launch} {e : Env} {s : State} {m : MethodId} {args : Array Value} {below : List Frame} {meth : Method} {c : Code} {g : za_L → Nat} {D : va_G} {cy : Nat → ClassId} {K : Int32 → za_M → Prop}
set_option maxRecDepth 100000 in
set_option maxHeartbeats 4000000 in
theorem p_X10_lender_b134 (hJ : za_J g) (C : za_C p s m args c cX10_lender 9 RX10 g D cy) (hr : meth.sig.returnType = (some .int)) (hk : meth.locks = false) {x1 : Int32} {x2 : Int32} {x3 : Int32} {x4 : Int32} {x6 : Int32} {x7 : Int32} {x8 : Int32} {s0 : Int32} {L73 : Int32 → Int32 → Int32 → za_M → Prop} (hL73 : ∀ (x5 : Int32) (x6 : Int32) (x7 : Int32) (M : za_M), L73 x5 x6 x7 M → zt p l e (za_rm 8 230) s m args below meth c 0 0 (MQ below (za_Qi g D cy K) args s 0 0 (za_A g)) g D cy 9 M 73 [(0, .ref (g (27, 0, 0))), (1, .int x1), (2, .int x2), (3, .int x3), (4, .int x4), (5, .int x5), (6, .int x6), (7, .int x7)] []) {M : za_M} (h : f_X10_lender_b134 K L73 x1 x2 x3 x4 x6 x7 x8 s0 M) : zt p l e (za_rm 8 230) s m args below meth c 0 0 (MQ below (za_Qi g D cy K) args s 0 0 (za_A g)) g D cy 9 M 134 [(0, .ref (g (27, 0, 0))), (1, .int x1), (2, .int x2), (3, .int x3), (4, .int x4), (6, .int x6), (7, .int x7), (8, .int x8)] [.int s0] := by
  unfold f_X10_lender_b134 at h
  refine zt_istore C [(5, .int s0), (0, .ref (g (27, 0, 0))), (1, .int x1), (2, .int x2), (3, .int x3), (4, .int x4), (6, .int x6), (7, .int x7), (8, .int x8)] dX10_lender_134 (by decide) rfl ?_
  refine zt_iload C 6 dX10_lender_136 rfl ?_
  refine zt_iload C 8 dX10_lender_138 rfl ?_
  refine zt_mmin C w_1091 w_702 w_91 w_703 (Nat.le_of_ble_eq_true rfl) (Nat.le_of_ble_eq_true rfl) (Nat.zero_le _) (Nat.zero_le _) dX10_lender_140 ?_
  refine zt_topi (fun y1 e2 => ?_)
  replace h := za_use h e2
  refine zt_istore C [(6, .int y1), (5, .int s0), (0, .ref (g (27, 0, 0))), (1, .int x1), (2, .int x2), (3, .int x3), (4, .int x4), (7, .int x7), (8, .int x8)] dX10_lender_143 (by decide) rfl ?_
  refine zt_iinc C (v := x7 + 1) 7 [(7, .int (x7 + 1)), (6, .int y1), (5, .int s0), (0, .ref (g (27, 0, 0))), (1, .int x1), (2, .int x2), (3, .int x3), (4, .int x4), (8, .int x8)] dX10_lender_145 rfl (zk_n1 _) (by decide) rfl ?_
  refine zt_goto C 73 dX10_lender_148 (by decide) ?_
  refine zt_sub [3, 4, 5, 6, 7, 2, 1, 0] (lv' := [(0, .ref (g (27, 0, 0))), (1, .int x1), (2, .int x2), (3, .int x3), (4, .int x4), (5, .int s0), (6, .int y1), (7, .int (x7 + 1))]) rfl ?_
  exact hL73 _ _ _ _ h
set_option maxRecDepth 100000 in
set_option maxHeartbeats 4000000 in
theorem p_X10_lender_b118 (hJ : za_J g) (C : za_C p s m args c cX10_lender 9 RX10 g D cy) (hr : meth.sig.returnType = (some .int)) (hk : meth.locks = false) {x1 : Int32} {x2 : Int32} {x3 : Int32} {x4 : Int32} {x5 : Int32} {x6 : Int32} {x7 : Int32} {s0 : Int32} {L73 : Int32 → Int32 → Int32 → za_M → Prop} (hL73 : ∀ (x5 : Int32) (x6 : Int32) (x7 : Int32) (M : za_M), L73 x5 x6 x7 M → zt p l e (za_rm 8 230) s m args below meth c 0 0 (MQ below (za_Qi g D cy K) args s 0 0 (za_A g)) g D cy 9 M 73 [(0, .ref (g (27, 0, 0))), (1, .int x1), (2, .int x2), (3, .int x3), (4, .int x4), (5, .int x5), (6, .int x6), (7, .int x7)] []) {M : za_M} (h : f_X10_lender_b118 K L73 x1 x2 x3 x4 x5 x6 x7 s0 M) : zt p l e (za_rm 8 230) s m args below meth c 0 0 (MQ below (za_Qi g D cy K) args s 0 0 (za_A g)) g D cy 9 M 118 [(0, .ref (g (27, 0, 0))), (1, .int x1), (2, .int x2), (3, .int x3), (4, .int x4), (5, .int x5), (6, .int x6), (7, .int x7)] [.int s0] := by
  unfold f_X10_lender_b118 at h
  refine zt_istore C [(8, .int s0), (0, .ref (g (27, 0, 0))), (1, .int x1), (2, .int x2), (3, .int x3), (4, .int x4), (5, .int x5), (6, .int x6), (7, .int x7)] dX10_lender_118 (by decide) rfl ?_
  refine zt_iload C 0 dX10_lender_120 rfl ?_
  refine zt_iload C 7 dX10_lender_122 rfl ?_
  refine zt_icmp_ge C 132 dX10_lender_124 (by decide) (fun q3 => ?_) (fun q3 => ?_)
  · replace h := za_ifp h q3
    refine zt_iload C 6 dX10_lender_132 rfl ?_
    refine zt_sub [1, 2, 3, 4, 5, 7, 8, 0] (lv' := [(0, .ref (g (27, 0, 0))), (1, .int x1), (2, .int x2), (3, .int x3), (4, .int x4), (6, .int x6), (7, .int x7), (8, .int s0)]) rfl ?_
    exact p_X10_lender_b134 hJ C hr hk hL73 h
  · replace h := za_ifn h q3
    refine zt_iload C 8 dX10_lender_127 rfl ?_
    refine zt_goto C 134 dX10_lender_129 (by decide) ?_
    refine zt_sub [1, 2, 3, 4, 5, 7, 8, 0] (lv' := [(0, .ref (g (27, 0, 0))), (1, .int x1), (2, .int x2), (3, .int x3), (4, .int x4), (6, .int x6), (7, .int x7), (8, .int s0)]) rfl ?_
    exact p_X10_lender_b134 hJ C hr hk hL73 h
set_option maxRecDepth 100000 in
set_option maxHeartbeats 4000000 in
theorem p_X10_lender_b116 (hJ : za_J g) (C : za_C p s m args c cX10_lender 9 RX10 g D cy) (hr : meth.sig.returnType = (some .int)) (hk : meth.locks = false) {x1 : Int32} {x2 : Int32} {x3 : Int32} {x4 : Int32} {x5 : Int32} {x6 : Int32} {x7 : Int32} {L73 : Int32 → Int32 → Int32 → za_M → Prop} (hL73 : ∀ (x5 : Int32) (x6 : Int32) (x7 : Int32) (M : za_M), L73 x5 x6 x7 M → zt p l e (za_rm 8 230) s m args below meth c 0 0 (MQ below (za_Qi g D cy K) args s 0 0 (za_A g)) g D cy 9 M 73 [(0, .ref (g (27, 0, 0))), (1, .int x1), (2, .int x2), (3, .int x3), (4, .int x4), (5, .int x5), (6, .int x6), (7, .int x7)] []) {M : za_M} (h : f_X10_lender_b116 K L73 x1 x2 x3 x4 x5 x6 x7 M) : zt p l e (za_rm 8 230) s m args below meth c 0 0 (MQ below (za_Qi g D cy K) args s 0 0 (za_A g)) g D cy 9 M 116 [(0, .ref (g (27, 0, 0))), (1, .int x1), (2, .int x2), (3, .int x3), (4, .int x4), (5, .int x5), (6, .int x6), (7, .int x7)] [] := by
  unfold f_X10_lender_b116 at h
  refine zt_iload C 6 dX10_lender_116 rfl ?_
  exact p_X10_lender_b118 hJ C hr hk hL73 h
set_option maxRecDepth 100000 in
set_option maxHeartbeats 4000000 in
theorem p_X10_lender_b73 (hJ : za_J g) (C : za_C p s m args c cX10_lender 9 RX10 g D cy) (hr : meth.sig.returnType = (some .int)) (hk : meth.locks = false) {x1 : Int32} {x2 : Int32} {x3 : Int32} {x4 : Int32} {L73 : Int32 → Int32 → Int32 → za_M → Prop} (hL73 : ∀ (x5 : Int32) (x6 : Int32) (x7 : Int32) (M : za_M), L73 x5 x6 x7 M → zt p l e (za_rm 8 230) s m args below meth c 0 0 (MQ below (za_Qi g D cy K) args s 0 0 (za_A g)) g D cy 9 M 73 [(0, .ref (g (27, 0, 0))), (1, .int x1), (2, .int x2), (3, .int x3), (4, .int x4), (5, .int x5), (6, .int x6), (7, .int x7)] []) : ∀ (x5 : Int32) (x6 : Int32) (x7 : Int32) (M : za_M), f_X10_lender_b73 K x1 x2 x3 x4 L73 x5 x6 x7 M → zt p l e (za_rm 8 230) s m args below meth c 0 0 (MQ below (za_Qi g D cy K) args s 0 0 (za_A g)) g D cy 9 M 73 [(0, .ref (g (27, 0, 0))), (1, .int x1), (2, .int x2), (3, .int x3), (4, .int x4), (5, .int x5), (6, .int x6), (7, .int x7)] [] := by
  intro x5 x6 x7 M h
  unfold f_X10_lender_b73 at h
  refine zt_iload C 7 dX10_lender_73 rfl ?_
  refine zt_aload_n C 0 dX10_lender_75 rfl rfl ?_
  refine zt_get C (za_mem (j := 27) rfl (by decide) (by decide)) pf_X10_9 (za_E_27 g cy M 0 0) rfl dX10_lender_76 ?_
  refine zt_iconst C (v := 2) dX10_lender_79 zk_i2 ?_
  obtain ⟨g4, h⟩ := h
  refine zt_iald C (za_mem (j := 28) rfl (by decide) (by decide)) (fun W9 => za_E_28 g cy W9 0 0) g4 dX10_lender_80 ?_
  refine zt_icmp_ge C 151 dX10_lender_81 (by decide) (fun q5 => ?_) (fun q5 => ?_)
  · replace h := za_ifp h q5
    refine zt_iload C 5 dX10_lender_151 rfl ?_
    refine zt_if_ge C 165 dX10_lender_153 (by decide) (fun q6 => ?_) (fun q6 => ?_)
    · replace h := za_ifp h q6
      refine zt_iload C 5 dX10_lender_165 rfl ?_
      exact zt_ret C hr hk rfl dX10_lender_167 h
    · replace h := za_ifn h q6
      refine zt_aload_n C 0 dX10_lender_156 rfl rfl ?_
      refine zt_ldc C w_1219 dX10_lender_157 ?_
      refine zt_cVi C [.int (-1000000002)] (m_X10_finding hJ  h) (za_mem (j := 27) rfl (by decide) (by decide)) (za_E_27 g cy M 0 0) rfl py_X10_finding pv_X10_75 (Nat.le_of_ble_eq_true rfl) ⟨Nat.le_of_ble_eq_true rfl, Nat.le_of_ble_eq_true rfl⟩ ⟨Nat.zero_le _, Nat.zero_le _⟩ dX10_lender_159 rfl (fun r8 M7 h => ?_)
      refine zt_goto C 167 dX10_lender_162 (by decide) ?_
      exact zt_ret C hr hk rfl dX10_lender_167 h
  · replace h := za_ifn h q5
    refine zt_iload C 7 dX10_lender_84 rfl ?_
    refine zt_iload_n C 1 dX10_lender_86 rfl rfl ?_
    refine zt_icmp_eq C 116 dX10_lender_87 (by decide) (fun q9 => ?_) (fun q9 => ?_)
    · replace h := za_ifp h q9
      exact p_X10_lender_b116 hJ C hr hk hL73 h
    · replace h := za_ifn h q9
      refine zt_aload_n C 0 dX10_lender_90 rfl rfl ?_
      refine zt_iload C 7 dX10_lender_91 rfl ?_
      refine zt_iload_n C 1 dX10_lender_93 rfl rfl ?_
      refine zt_iload_n C 2 dX10_lender_94 rfl rfl ?_
      refine zt_iload_n C 3 dX10_lender_95 rfl rfl ?_
      refine zt_cVi C [.int x7, .int x1, .int x2, .int x3] (m_X10_canLend hJ  h) (za_mem (j := 27) rfl (by decide) (by decide)) (za_E_27 g cy M 0 0) rfl py_X10_canLend pv_X10_233 (Nat.le_of_ble_eq_true rfl) ⟨Nat.le_of_ble_eq_true rfl, Nat.le_of_ble_eq_true rfl⟩ ⟨Nat.zero_le _, Nat.zero_le _⟩ dX10_lender_96 rfl (fun r11 M10 h => ?_)
      refine zt_if_eq C 116 dX10_lender_99 (by decide) (fun q12 => ?_) (fun q12 => ?_)
      · replace h := za_ifp h q12
        exact p_X10_lender_b116 hJ C hr hk hL73 h
      · replace h := za_ifn h q12
        refine zt_aload_n C 0 dX10_lender_102 rfl rfl ?_
        refine zt_iload C 7 dX10_lender_103 rfl ?_
        refine zt_iload_n C 1 dX10_lender_105 rfl rfl ?_
        refine zt_iload_n C 2 dX10_lender_106 rfl rfl ?_
        refine zt_iload_n C 3 dX10_lender_107 rfl rfl ?_
        refine zt_iload C 4 dX10_lender_108 rfl ?_
        refine zt_cVi C [.int x7, .int x1, .int x2, .int x3, .int x4] (m_X10_brokenIfLent hJ  h) (za_mem (j := 27) rfl (by decide) (by decide)) (za_E_27 g cy M10 0 0) rfl py_X10_brokenIfLent pv_X10_288 (Nat.le_of_ble_eq_true rfl) ⟨Nat.le_of_ble_eq_true rfl, Nat.le_of_ble_eq_true rfl⟩ ⟨Nat.zero_le _, Nat.zero_le _⟩ dX10_lender_110 rfl (fun r14 M13 h => ?_)
        refine zt_goto C 118 dX10_lender_113 (by decide) ?_
        exact p_X10_lender_b118 hJ C hr hk hL73 h
theorem p_X10_lender_b73_in (hJ : za_J g) (C : za_C p s m args c cX10_lender 9 RX10 g D cy) (hr : meth.sig.returnType = (some .int)) (hk : meth.locks = false) {x1 : Int32} {x2 : Int32} {x3 : Int32} {x4 : Int32} {n : Nat} {x5 : Int32} {x6 : Int32} {x7 : Int32} {M : za_M} (h : za_lp3 (f_X10_lender_b73 K x1 x2 x3 x4) n x5 x6 x7 M) : zt p l e (za_rm 8 230) s m args below meth c 0 0 (MQ below (za_Qi g D cy K) args s 0 0 (za_A g)) g D cy 9 M 73 [(0, .ref (g (27, 0, 0))), (1, .int x1), (2, .int x2), (3, .int x3), (4, .int x4), (5, .int x5), (6, .int x6), (7, .int x7)] [] := za_lp3_run (Z := fun x5 x6 x7 M => zt p l e (za_rm 8 230) s m args below meth c 0 0 (MQ below (za_Qi g D cy K) args s 0 0 (za_A g)) g D cy 9 M 73 [(0, .ref (g (27, 0, 0))), (1, .int x1), (2, .int x2), (3, .int x3), (4, .int x4), (5, .int x5), (6, .int x6), (7, .int x7)] []) (fun L hL => p_X10_lender_b73 hJ C hr hk  hL) n x5 x6 x7 M h
set_option maxRecDepth 100000 in
set_option maxHeartbeats 4000000 in
theorem p_X10_lender (hJ : za_J g) (C : za_C p s m args c cX10_lender 9 RX10 g D cy) (hr : meth.sig.returnType = (some .int)) (hk : meth.locks = false) {x1 : Int32} {x2 : Int32} {x3 : Int32} {x4 : Int32} {M : za_M} (h : f_X10_lender x1 x2 x3 x4 M K) : zt p l e (za_rm 8 230) s m args below meth c 0 0 (MQ below (za_Qi g D cy K) args s 0 0 (za_A g)) g D cy 9 M 0 [(0, .ref (g (27, 0, 0))), (1, .int x1), (2, .int x2), (3, .int x3), (4, .int x4)] [] := by
  unfold f_X10_lender at h
  refine zt_aload_n C 0 dX10_lender_0 rfl rfl ?_
  refine zt_iload_n C 1 dX10_lender_1 rfl rfl ?_
  refine zt_cVi C [.int x1] (m_X10_isPotter hJ  h) (za_mem (j := 27) rfl (by decide) (by decide)) (za_E_27 g cy M 0 0) rfl py_X10_isPotter pv_X10_197 (Nat.le_of_ble_eq_true rfl) ⟨Nat.le_of_ble_eq_true rfl, Nat.le_of_ble_eq_true rfl⟩ ⟨Nat.zero_le _, Nat.zero_le _⟩ dX10_lender_2 rfl (fun r16 M15 h => ?_)
  refine zt_if_eq C 37 dX10_lender_5 (by decide) (fun q17 => ?_) (fun q17 => ?_)
  · replace h := za_ifp h q17
    refine zt_aload_n C 0 dX10_lender_37 rfl rfl ?_
    refine zt_ldc C w_969 dX10_lender_38 ?_
    refine zt_cVi C [.int (-1000000001)] (m_X10_finding hJ  h) (za_mem (j := 27) rfl (by decide) (by decide)) (za_E_27 g cy M15 0 0) rfl py_X10_finding pv_X10_75 (Nat.le_of_ble_eq_true rfl) ⟨Nat.le_of_ble_eq_true rfl, Nat.le_of_ble_eq_true rfl⟩ ⟨Nat.zero_le _, Nat.zero_le _⟩ dX10_lender_40 rfl (fun r19 M18 h => ?_)
    exact zt_ret C hr hk rfl dX10_lender_43 h
  · replace h := za_ifn h q17
    refine zt_aload_n C 0 dX10_lender_8 rfl rfl ?_
    refine zt_iload_n C 2 dX10_lender_9 rfl rfl ?_
    refine zt_cVi C [.int x2] (m_X10_isAsh hJ  h) (za_mem (j := 27) rfl (by decide) (by decide)) (za_E_27 g cy M15 0 0) rfl py_X10_isAsh pv_X10_171 (Nat.le_of_ble_eq_true rfl) ⟨Nat.le_of_ble_eq_true rfl, Nat.le_of_ble_eq_true rfl⟩ ⟨Nat.zero_le _, Nat.zero_le _⟩ dX10_lender_10 rfl (fun r21 M20 h => ?_)
    refine zt_if_eq C 37 dX10_lender_13 (by decide) (fun q22 => ?_) (fun q22 => ?_)
    · replace h := za_ifp h q22
      refine zt_aload_n C 0 dX10_lender_37 rfl rfl ?_
      refine zt_ldc C w_969 dX10_lender_38 ?_
      refine zt_cVi C [.int (-1000000001)] (m_X10_finding hJ  h) (za_mem (j := 27) rfl (by decide) (by decide)) (za_E_27 g cy M20 0 0) rfl py_X10_finding pv_X10_75 (Nat.le_of_ble_eq_true rfl) ⟨Nat.le_of_ble_eq_true rfl, Nat.le_of_ble_eq_true rfl⟩ ⟨Nat.zero_le _, Nat.zero_le _⟩ dX10_lender_40 rfl (fun r24 M23 h => ?_)
      exact zt_ret C hr hk rfl dX10_lender_43 h
    · replace h := za_ifn h q22
      refine zt_iload_n C 3 dX10_lender_16 rfl rfl ?_
      refine zt_iconst C (v := 1) dX10_lender_17 zk_i1 ?_
      refine zt_bipush C (v := 99) dX10_lender_18 zk_b99 ?_
      refine zt_cSi C [.int x3, .int 1, .int 99] (m_X10_within hJ  h) py_X10_within ps_X10_70 (Nat.le_of_ble_eq_true rfl) ⟨Nat.le_of_ble_eq_true rfl, Nat.le_of_ble_eq_true rfl⟩ ⟨Nat.zero_le _, Nat.zero_le _⟩ dX10_lender_20 rfl (fun r26 M25 h => ?_)
      refine zt_if_eq C 37 dX10_lender_23 (by decide) (fun q27 => ?_) (fun q27 => ?_)
      · replace h := za_ifp h q27
        refine zt_aload_n C 0 dX10_lender_37 rfl rfl ?_
        refine zt_ldc C w_969 dX10_lender_38 ?_
        refine zt_cVi C [.int (-1000000001)] (m_X10_finding hJ  h) (za_mem (j := 27) rfl (by decide) (by decide)) (za_E_27 g cy M25 0 0) rfl py_X10_finding pv_X10_75 (Nat.le_of_ble_eq_true rfl) ⟨Nat.le_of_ble_eq_true rfl, Nat.le_of_ble_eq_true rfl⟩ ⟨Nat.zero_le _, Nat.zero_le _⟩ dX10_lender_40 rfl (fun r29 M28 h => ?_)
        exact zt_ret C hr hk rfl dX10_lender_43 h
      · replace h := za_ifn h q27
        refine zt_iload C 4 dX10_lender_26 rfl ?_
        refine zt_iconst C (v := 1) dX10_lender_28 zk_i1 ?_
        refine zt_bipush C (v := 20) dX10_lender_29 zk_b20 ?_
        refine zt_cSi C [.int x4, .int 1, .int 20] (m_X10_within hJ  h) py_X10_within ps_X10_70 (Nat.le_of_ble_eq_true rfl) ⟨Nat.le_of_ble_eq_true rfl, Nat.le_of_ble_eq_true rfl⟩ ⟨Nat.zero_le _, Nat.zero_le _⟩ dX10_lender_31 rfl (fun r31 M30 h => ?_)
        refine zt_if_ne C 44 dX10_lender_34 (by decide) (fun q32 => ?_) (fun q32 => ?_)
        · replace h := za_ifn h q32
          refine zt_aload_n C 0 dX10_lender_44 rfl rfl ?_
          refine zt_get C (za_mem (j := 27) rfl (by decide) (by decide)) pf_X10_9 (za_E_27 g cy M30 0 0) rfl dX10_lender_45 ?_
          refine zt_iconst C (v := 3) dX10_lender_48 zk_i3 ?_
          obtain ⟨g33, h⟩ := h
          refine zt_iald C (za_mem (j := 28) rfl (by decide) (by decide)) (fun W9 => za_E_28 g cy W9 0 0) g33 dX10_lender_49 ?_
          refine zt_bipush C (v := 10) dX10_lender_50 zk_b10 ?_
          refine zt_icmp_ne C 62 dX10_lender_52 (by decide) (fun q34 => ?_) (fun q34 => ?_)
          · replace h := za_ifn h q34
            refine zt_iconst C (v := (-1)) dX10_lender_62 zk_im1 ?_
            refine zt_istore C [(5, .int (-1)), (0, .ref (g (27, 0, 0))), (1, .int x1), (2, .int x2), (3, .int x3), (4, .int x4)] dX10_lender_63 (by decide) rfl ?_
            refine zt_sipush C (v := 397) dX10_lender_65 zk_s397 ?_
            refine zt_istore C [(6, .int 397), (5, .int (-1)), (0, .ref (g (27, 0, 0))), (1, .int x1), (2, .int x2), (3, .int x3), (4, .int x4)] dX10_lender_68 (by decide) rfl ?_
            refine zt_iconst C (v := 0) dX10_lender_70 zk_i0 ?_
            refine zt_istore C [(7, .int 0), (6, .int 397), (5, .int (-1)), (0, .ref (g (27, 0, 0))), (1, .int x1), (2, .int x2), (3, .int x3), (4, .int x4)] dX10_lender_71 (by decide) rfl ?_
            refine zt_sub [3, 4, 5, 6, 7, 2, 1, 0] (lv' := [(0, .ref (g (27, 0, 0))), (1, .int x1), (2, .int x2), (3, .int x3), (4, .int x4), (5, .int (-1)), (6, .int 397), (7, .int 0)]) rfl ?_
            obtain ⟨n, h⟩ := h
            exact p_X10_lender_b73_in hJ C hr hk  h
          · replace h := za_ifp h q34
            refine zt_aload_n C 0 dX10_lender_55 rfl rfl ?_
            refine zt_ldc C w_975 dX10_lender_56 ?_
            refine zt_cVi C [.int (-1000000004)] (m_X10_finding hJ  h) (za_mem (j := 27) rfl (by decide) (by decide)) (za_E_27 g cy M30 0 0) rfl py_X10_finding pv_X10_75 (Nat.le_of_ble_eq_true rfl) ⟨Nat.le_of_ble_eq_true rfl, Nat.le_of_ble_eq_true rfl⟩ ⟨Nat.zero_le _, Nat.zero_le _⟩ dX10_lender_58 rfl (fun r36 M35 h => ?_)
            exact zt_ret C hr hk rfl dX10_lender_61 h
        · replace h := za_ifp h q32
          refine zt_aload_n C 0 dX10_lender_37 rfl rfl ?_
          refine zt_ldc C w_969 dX10_lender_38 ?_
          refine zt_cVi C [.int (-1000000001)] (m_X10_finding hJ  h) (za_mem (j := 27) rfl (by decide) (by decide)) (za_E_27 g cy M30 0 0) rfl py_X10_finding pv_X10_75 (Nat.le_of_ble_eq_true rfl) ⟨Nat.le_of_ble_eq_true rfl, Nat.le_of_ble_eq_true rfl⟩ ⟨Nat.zero_le _, Nat.zero_le _⟩ dX10_lender_40 rfl (fun r38 M37 h => ?_)
          exact zt_ret C hr hk rfl dX10_lender_43 h
end
theorem m_X10_lender {l : Launch} {g : za_L → Nat} {D : va_G} {cy : Nat → ClassId} (hJ : za_J g)  {x1 : Int32} {x2 : Int32} {x3 : Int32} {x4 : Int32} {M : za_M} {K : Int32 → za_M → Prop} (h : f_X10_lender x1 x2 x3 x4 M K) : za_Mi l g D cy yX10_lender cX10_lender 9 (some .int) 8 230 [.ref (g (27, 0, 0)), .int x1, .int x2, .int x3, .int x4] M K := za_openi hJ (by decide) (Nat.le_of_ble_eq_true rfl) (fun p e s m args below meth c C hr hk => p_X10_lender hJ C hr hk  h)
/-! X10_odds -/
def f_X10_odds_b70 (K : Int32 → za_M → Prop) (x3 : Int32) (x4 : Int32) (L70 : Int32 → Int32 → za_M → Prop) (x5 : Int32) (x6 : Int32) (M : za_M) : Prop :=
  if x6 = 0 then (if x3 = 0 then (¬ x5 = 0 ∧ (K (x4 / x5) M)) else (¬ x5 = 0 ∧ (K (10 / x5) M))) else (¬ x6 = 0 ∧ (za_let (x5 - x5 / x6 * x6) fun y6 => L70 x6 y6 M))
def f_X10_odds_b42 (K : Int32 → za_M → Prop) (x3 : Int32) (L42 : Int32 → Int32 → za_M → Prop) (x4 : Int32) (x5 : Int32) (M : za_M) : Prop :=
  if x5 = 0 then (∃ n, za_lp2 (f_X10_odds_b70 K x3 x4) n 10 x4 M) else (za_let (x5 &&& (x5 - 1)) fun y9 => L42 (x4 + 1) y9 M)
def f_X10_odds (x1 : Int32) (x2 : Int32) (x3 : Int32) (M : za_M) (K : Int32 → za_M → Prop) : Prop :=
  f_X10_isMix x1 M (fun r12 M11 => if r12 = 0 then (f_X10_finding (-1000000001) M11 (fun r15 M14 => K r15 M14)) else (f_X10_isDigit x2 M11 (fun r17 M16 => if r17 = 0 then (f_X10_finding (-1000000001) M16 (fun r20 M19 => K r20 M19)) else (f_X10_within x3 0 1 M16 (fun r22 M21 => if r22 = 0 then (f_X10_finding (-1000000001) M21 (fun r27 M26 => K r27 M26)) else (f_X10_heatsOf x1 x2 M21 (fun r25 M24 => ∃ n, za_lp2 (f_X10_odds_b42 K x3) n 0 r25 M24)))))))
section
variable {p : Program} {l : Launch} {e : Env} {s : State} {m : MethodId} {args : Array Value} {below : List Frame} {meth : Method} {c : Code} {g : za_L → Nat} {D : va_G} {cy : Nat → ClassId} {K : Int32 → za_M → Prop}
set_option maxRecDepth 100000 in
set_option maxHeartbeats 4000000 in
theorem p_X10_odds_b70 (hJ : za_J g) (C : za_C p s m args c cX10_odds 8 RX10 g D cy) (hr : meth.sig.returnType = (some .int)) (hk : meth.locks = false) {x3 : Int32} {x4 : Int32} {L70 : Int32 → Int32 → za_M → Prop} (hL70 : ∀ (x5 : Int32) (x6 : Int32) (M : za_M), L70 x5 x6 M → zt p l e (za_rm 7 208) s m args below meth c 0 0 (MQ below (za_Qi g D cy K) args s 0 0 (za_A g)) g D cy 8 M 70 [(3, .int x3), (4, .int x4), (5, .int x5), (6, .int x6)] []) : ∀ (x5 : Int32) (x6 : Int32) (M : za_M), f_X10_odds_b70 K x3 x4 L70 x5 x6 M → zt p l e (za_rm 7 208) s m args below meth c 0 0 (MQ below (za_Qi g D cy K) args s 0 0 (za_A g)) g D cy 8 M 70 [(3, .int x3), (4, .int x4), (5, .int x5), (6, .int x6)] [] := by
  intro x5 x6 M h
  unfold f_X10_odds_b70 at h
  refine zt_iload C 3 dX10_odds_70 rfl ?_
  refine zt_if_eq C 93 dX10_odds_72 (by decide) (fun q1 => ?_) (fun q1 => ?_)
  · replace h := za_ifp h q1
    refine zt_iload_n C 0 dX10_odds_93 rfl rfl ?_
    refine zt_if_ne C 102 dX10_odds_94 (by decide) (fun q2 => ?_) (fun q2 => ?_)
    · replace h := za_ifn h q2
      refine zt_bipush C (v := 10) dX10_odds_102 zk_b10 ?_
      refine zt_iload C 2 dX10_odds_104 rfl ?_
      obtain ⟨g3, h⟩ := h
      refine zt_idiv C dX10_odds_106 g3 ?_
      exact zt_ret C hr hk rfl dX10_odds_107 h
    · replace h := za_ifp h q2
      refine zt_iload C 1 dX10_odds_97 rfl ?_
      refine zt_goto C 104 dX10_odds_99 (by decide) ?_
      refine zt_iload C 2 dX10_odds_104 rfl ?_
      obtain ⟨g4, h⟩ := h
      refine zt_idiv C dX10_odds_106 g4 ?_
      exact zt_ret C hr hk rfl dX10_odds_107 h
  · replace h := za_ifn h q1
    refine zt_iload C 2 dX10_odds_75 rfl ?_
    refine zt_iload C 3 dX10_odds_77 rfl ?_
    obtain ⟨g5, h⟩ := h
    refine zt_irem C dX10_odds_79 g5 ?_
    refine zt_topi (fun y6 e7 => ?_)
    replace h := za_use h e7
    refine zt_istore C [(7, .int y6), (3, .int x3), (4, .int x4), (5, .int x5), (6, .int x6)] dX10_odds_80 (by decide) rfl ?_
    refine zt_iload C 4 dX10_odds_82 rfl ?_
    refine zt_istore C [(5, .int x6), (7, .int y6), (3, .int x3), (4, .int x4), (6, .int x6)] dX10_odds_84 (by decide) rfl ?_
    refine zt_iload C 1 dX10_odds_86 rfl ?_
    refine zt_istore C [(6, .int y6), (5, .int x6), (7, .int y6), (3, .int x3), (4, .int x4)] dX10_odds_88 (by decide) rfl ?_
    refine zt_goto C 70 dX10_odds_90 (by decide) ?_
    refine zt_sub [3, 4, 1, 0] (lv' := [(3, .int x3), (4, .int x4), (5, .int x6), (6, .int y6)]) rfl ?_
    exact hL70 _ _ _ h
theorem p_X10_odds_b70_in (hJ : za_J g) (C : za_C p s m args c cX10_odds 8 RX10 g D cy) (hr : meth.sig.returnType = (some .int)) (hk : meth.locks = false) {x3 : Int32} {x4 : Int32} {n : Nat} {x5 : Int32} {x6 : Int32} {M : za_M} (h : za_lp2 (f_X10_odds_b70 K x3 x4) n x5 x6 M) : zt p l e (za_rm 7 208) s m args below meth c 0 0 (MQ below (za_Qi g D cy K) args s 0 0 (za_A g)) g D cy 8 M 70 [(3, .int x3), (4, .int x4), (5, .int x5), (6, .int x6)] [] := za_lp2_run (Z := fun x5 x6 M => zt p l e (za_rm 7 208) s m args below meth c 0 0 (MQ below (za_Qi g D cy K) args s 0 0 (za_A g)) g D cy 8 M 70 [(3, .int x3), (4, .int x4), (5, .int x5), (6, .int x6)] []) (fun L hL => p_X10_odds_b70 hJ C hr hk  hL) n x5 x6 M h
set_option maxRecDepth 100000 in
set_option maxHeartbeats 4000000 in
theorem p_X10_odds_b42 (hJ : za_J g) (C : za_C p s m args c cX10_odds 8 RX10 g D cy) (hr : meth.sig.returnType = (some .int)) (hk : meth.locks = false) {x3 : Int32} {L42 : Int32 → Int32 → za_M → Prop} (hL42 : ∀ (x4 : Int32) (x5 : Int32) (M : za_M), L42 x4 x5 M → zt p l e (za_rm 7 208) s m args below meth c 0 0 (MQ below (za_Qi g D cy K) args s 0 0 (za_A g)) g D cy 8 M 42 [(3, .int x3), (4, .int x4), (5, .int x5)] []) : ∀ (x4 : Int32) (x5 : Int32) (M : za_M), f_X10_odds_b42 K x3 L42 x4 x5 M → zt p l e (za_rm 7 208) s m args below meth c 0 0 (MQ below (za_Qi g D cy K) args s 0 0 (za_A g)) g D cy 8 M 42 [(3, .int x3), (4, .int x4), (5, .int x5)] [] := by
  intro x4 x5 M h
  unfold f_X10_odds_b42 at h
  refine zt_iload C 2 dX10_odds_42 rfl ?_
  refine zt_if_eq C 62 dX10_odds_44 (by decide) (fun q8 => ?_) (fun q8 => ?_)
  · replace h := za_ifp h q8
    refine zt_bipush C (v := 10) dX10_odds_62 zk_b10 ?_
    refine zt_istore C [(5, .int 10), (3, .int x3), (4, .int x4)] dX10_odds_64 (by decide) rfl ?_
    refine zt_iload C 2 dX10_odds_66 rfl ?_
    refine zt_istore C [(6, .int x4), (5, .int 10), (3, .int x3), (4, .int x4)] dX10_odds_68 (by decide) rfl ?_
    refine zt_sub [2, 3, 1, 0] (lv' := [(3, .int x3), (4, .int x4), (5, .int 10), (6, .int x4)]) rfl ?_
    obtain ⟨n, h⟩ := h
    exact p_X10_odds_b70_in hJ C hr hk  h
  · replace h := za_ifn h q8
    refine zt_iinc C (v := x4 + 1) 1 [(4, .int (x4 + 1)), (3, .int x3), (5, .int x5)] dX10_odds_47 rfl (zk_n1 _) (by decide) rfl ?_
    refine zt_iload C 2 dX10_odds_50 rfl ?_
    refine zt_iload C 2 dX10_odds_52 rfl ?_
    refine zt_iconst C (v := 1) dX10_odds_54 zk_i1 ?_
    refine zt_isub C dX10_odds_55 ?_
    refine zt_iand C dX10_odds_56 ?_
    refine zt_topi (fun y9 e10 => ?_)
    replace h := za_use h e10
    refine zt_istore C [(5, .int y9), (4, .int (x4 + 1)), (3, .int x3)] dX10_odds_57 (by decide) rfl ?_
    refine zt_goto C 42 dX10_odds_59 (by decide) ?_
    refine zt_sub [2, 1, 0] (lv' := [(3, .int x3), (4, .int (x4 + 1)), (5, .int y9)]) rfl ?_
    exact hL42 _ _ _ h
theorem p_X10_odds_b42_in (hJ : za_J g) (C : za_C p s m args c cX10_odds 8 RX10 g D cy) (hr : meth.sig.returnType = (some .int)) (hk : meth.locks = false) {x3 : Int32} {n : Nat} {x4 : Int32} {x5 : Int32} {M : za_M} (h : za_lp2 (f_X10_odds_b42 K x3) n x4 x5 M) : zt p l e (za_rm 7 208) s m args below meth c 0 0 (MQ below (za_Qi g D cy K) args s 0 0 (za_A g)) g D cy 8 M 42 [(3, .int x3), (4, .int x4), (5, .int x5)] [] := za_lp2_run (Z := fun x4 x5 M => zt p l e (za_rm 7 208) s m args below meth c 0 0 (MQ below (za_Qi g D cy K) args s 0 0 (za_A g)) g D cy 8 M 42 [(3, .int x3), (4, .int x4), (5, .int x5)] []) (fun L hL => p_X10_odds_b42 hJ C hr hk  hL) n x4 x5 M h
set_option maxRecDepth 100000 in
set_option maxHeartbeats 4000000 in
theorem p_X10_odds (hJ : za_J g) (C : za_C p s m args c cX10_odds 8 RX10 g D cy) (hr : meth.sig.returnType = (some .int)) (hk : meth.locks = false) {x1 : Int32} {x2 : Int32} {x3 : Int32} {M : za_M} (h : f_X10_odds x1 x2 x3 M K) : zt p l e (za_rm 7 208) s m args below meth c 0 0 (MQ below (za_Qi g D cy K) args s 0 0 (za_A g)) g D cy 8 M 0 [(0, .ref (g (27, 0, 0))), (1, .int x1), (2, .int x2), (3, .int x3)] [] := by
  unfold f_X10_odds at h
  refine zt_aload_n C 0 dX10_odds_0 rfl rfl ?_
  refine zt_iload_n C 1 dX10_odds_1 rfl rfl ?_
  refine zt_cVi C [.int x1] (m_X10_isMix hJ  h) (za_mem (j := 27) rfl (by decide) (by decide)) (za_E_27 g cy M 0 0) rfl py_X10_isMix pv_X10_213 (Nat.le_of_ble_eq_true rfl) ⟨Nat.le_of_ble_eq_true rfl, Nat.le_of_ble_eq_true rfl⟩ ⟨Nat.zero_le _, Nat.zero_le _⟩ dX10_odds_2 rfl (fun r12 M11 h => ?_)
  refine zt_if_eq C 24 dX10_odds_5 (by decide) (fun q13 => ?_) (fun q13 => ?_)
  · replace h := za_ifp h q13
    refine zt_aload_n C 0 dX10_odds_24 rfl rfl ?_
    refine zt_ldc C w_969 dX10_odds_25 ?_
    refine zt_cVi C [.int (-1000000001)] (m_X10_finding hJ  h) (za_mem (j := 27) rfl (by decide) (by decide)) (za_E_27 g cy M11 0 0) rfl py_X10_finding pv_X10_75 (Nat.le_of_ble_eq_true rfl) ⟨Nat.le_of_ble_eq_true rfl, Nat.le_of_ble_eq_true rfl⟩ ⟨Nat.zero_le _, Nat.zero_le _⟩ dX10_odds_27 rfl (fun r15 M14 h => ?_)
    exact zt_ret C hr hk rfl dX10_odds_30 h
  · replace h := za_ifn h q13
    refine zt_iload_n C 2 dX10_odds_8 rfl rfl ?_
    refine zt_cSi C [.int x2] (m_X10_isDigit hJ  h) py_X10_isDigit ps_X10_216 (Nat.le_of_ble_eq_true rfl) ⟨Nat.le_of_ble_eq_true rfl, Nat.le_of_ble_eq_true rfl⟩ ⟨Nat.zero_le _, Nat.zero_le _⟩ dX10_odds_9 rfl (fun r17 M16 h => ?_)
    refine zt_if_eq C 24 dX10_odds_12 (by decide) (fun q18 => ?_) (fun q18 => ?_)
    · replace h := za_ifp h q18
      refine zt_aload_n C 0 dX10_odds_24 rfl rfl ?_
      refine zt_ldc C w_969 dX10_odds_25 ?_
      refine zt_cVi C [.int (-1000000001)] (m_X10_finding hJ  h) (za_mem (j := 27) rfl (by decide) (by decide)) (za_E_27 g cy M16 0 0) rfl py_X10_finding pv_X10_75 (Nat.le_of_ble_eq_true rfl) ⟨Nat.le_of_ble_eq_true rfl, Nat.le_of_ble_eq_true rfl⟩ ⟨Nat.zero_le _, Nat.zero_le _⟩ dX10_odds_27 rfl (fun r20 M19 h => ?_)
      exact zt_ret C hr hk rfl dX10_odds_30 h
    · replace h := za_ifn h q18
      refine zt_iload_n C 3 dX10_odds_15 rfl rfl ?_
      refine zt_iconst C (v := 0) dX10_odds_16 zk_i0 ?_
      refine zt_iconst C (v := 1) dX10_odds_17 zk_i1 ?_
      refine zt_cSi C [.int x3, .int 0, .int 1] (m_X10_within hJ  h) py_X10_within ps_X10_70 (Nat.le_of_ble_eq_true rfl) ⟨Nat.le_of_ble_eq_true rfl, Nat.le_of_ble_eq_true rfl⟩ ⟨Nat.zero_le _, Nat.zero_le _⟩ dX10_odds_18 rfl (fun r22 M21 h => ?_)
      refine zt_if_ne C 31 dX10_odds_21 (by decide) (fun q23 => ?_) (fun q23 => ?_)
      · replace h := za_ifn h q23
        refine zt_iconst C (v := 0) dX10_odds_31 zk_i0 ?_
        refine zt_istore C [(4, .int 0), (0, .ref (g (27, 0, 0))), (1, .int x1), (2, .int x2), (3, .int x3)] dX10_odds_32 (by decide) rfl ?_
        refine zt_aload_n C 1 dX10_odds_34 rfl rfl ?_
        refine zt_iload_n C 2 dX10_odds_35 rfl rfl ?_
        refine zt_iload_n C 3 dX10_odds_36 rfl rfl ?_
        refine zt_cVi C [.int x1, .int x2] (m_X10_heatsOf hJ  h) (za_mem (j := 27) rfl (by decide) (by decide)) (za_E_27 g cy M21 0 0) rfl py_X10_heatsOf pv_X10_276 (Nat.le_of_ble_eq_true rfl) ⟨Nat.le_of_ble_eq_true rfl, Nat.le_of_ble_eq_true rfl⟩ ⟨Nat.zero_le _, Nat.zero_le _⟩ dX10_odds_37 rfl (fun r25 M24 h => ?_)
        refine zt_istore C [(5, .int r25), (4, .int 0), (0, .ref (g (27, 0, 0))), (1, .int x1), (2, .int x2), (3, .int x3)] dX10_odds_40 (by decide) rfl ?_
        refine zt_sub [5, 1, 0] (lv' := [(3, .int x3), (4, .int 0), (5, .int r25)]) rfl ?_
        obtain ⟨n, h⟩ := h
        exact p_X10_odds_b42_in hJ C hr hk  h
      · replace h := za_ifp h q23
        refine zt_aload_n C 0 dX10_odds_24 rfl rfl ?_
        refine zt_ldc C w_969 dX10_odds_25 ?_
        refine zt_cVi C [.int (-1000000001)] (m_X10_finding hJ  h) (za_mem (j := 27) rfl (by decide) (by decide)) (za_E_27 g cy M21 0 0) rfl py_X10_finding pv_X10_75 (Nat.le_of_ble_eq_true rfl) ⟨Nat.le_of_ble_eq_true rfl, Nat.le_of_ble_eq_true rfl⟩ ⟨Nat.zero_le _, Nat.zero_le _⟩ dX10_odds_27 rfl (fun r27 M26 h => ?_)
        exact zt_ret C hr hk rfl dX10_odds_30 h
end
theorem m_X10_odds {l : Launch} {g : za_L → Nat} {D : va_G} {cy : Nat → ClassId} (hJ : za_J g)  {x1 : Int32} {x2 : Int32} {x3 : Int32} {M : za_M} {K : Int32 → za_M → Prop} (h : f_X10_odds x1 x2 x3 M K) : za_Mi l g D cy yX10_odds cX10_odds 8 (some .int) 7 208 [.ref (g (27, 0, 0)), .int x1, .int x2, .int x3] M K := za_openi hJ (by decide) (Nat.le_of_ble_eq_true rfl) (fun p e s m args below meth c C hr hk => p_X10_odds hJ C hr hk  h)
/-! X10_seed -/
def f_X10_seed (x1 : Int32) (M : za_M) (K : Int32 → za_M → Prop) : Prop :=
  f_X10_turn 4 x1 M (fun r2 M1 => K r2 M1)
section
variable {p : Program} {l : Launch} {e : Env} {s : State} {m : MethodId} {args : Array Value} {below : List Frame} {meth : Method} {c : Code} {g : za_L → Nat} {D : va_G} {cy : Nat → ClassId} {K : Int32 → za_M → Prop}
set_option maxRecDepth 100000 in
set_option maxHeartbeats 4000000 in
theorem p_X10_seed (hJ : za_J g) (C : za_C p s m args c cX10_seed 2 RX10 g D cy) (hr : meth.sig.returnType = (some .int)) (hk : meth.locks = false) {x1 : Int32} {M : za_M} (h : f_X10_seed x1 M K) : zt p l e (za_rm 2 87) s m args below meth c 0 0 (MQ below (za_Qi g D cy K) args s 0 0 (za_A g)) g D cy 2 M 0 [(0, .ref (g (27, 0, 0))), (1, .int x1)] [] := by
  unfold f_X10_seed at h
  refine zt_aload_n C 0 dX10_seed_0 rfl rfl ?_
  refine zt_iconst C (v := 4) dX10_seed_1 zk_i4 ?_
  refine zt_iload_n C 1 dX10_seed_2 rfl rfl ?_
  refine zt_cVi C [.int 4, .int x1] (m_X10_turn hJ  h) (za_mem (j := 27) rfl (by decide) (by decide)) (za_E_27 g cy M 0 0) rfl py_X10_turn pv_X10_180 (Nat.le_of_ble_eq_true rfl) ⟨Nat.le_of_ble_eq_true rfl, Nat.le_of_ble_eq_true rfl⟩ ⟨Nat.zero_le _, Nat.zero_le _⟩ dX10_seed_3 rfl (fun r2 M1 h => ?_)
  exact zt_ret C hr hk rfl dX10_seed_6 h
end
theorem m_X10_seed {l : Launch} {g : za_L → Nat} {D : va_G} {cy : Nat → ClassId} (hJ : za_J g)  {x1 : Int32} {M : za_M} {K : Int32 → za_M → Prop} (h : f_X10_seed x1 M K) : za_Mi l g D cy yX10_seed cX10_seed 2 (some .int) 2 87 [.ref (g (27, 0, 0)), .int x1] M K := za_openi hJ (by decide) (Nat.le_of_ble_eq_true rfl) (fun p e s m args below meth c C hr hk => p_X10_seed hJ C hr hk  h)

/-! X9_round -/
def f_X9_round_b35 (K : Int32 → za_M → Prop) (L12 : Int32 → Int32 → za_M → Prop) (L23 : Int32 → Int32 → za_M → Prop) (x3 : Int32) (x4 : Int32) (L35 : Int32 → Int32 → za_M → Prop) (x2 : Int32) (x5 : Int32) (M : za_M) : Prop :=
  if x4 ≤ x5 then (L23 x2 (x4 + 1) M) else (f_X1_lentBetween 0 x5 x4 x3 M (fun r3 M2 => f_X1_lentBetween 0 x4 x5 x3 M2 (fun r5 M4 => za_let (x2 + (za_min r3 r5)) fun y6 => L35 y6 (x5 + 1) M4)))
def f_X9_round_b23 (K : Int32 → za_M → Prop) (L12 : Int32 → Int32 → za_M → Prop) (x3 : Int32) (L23 : Int32 → Int32 → za_M → Prop) (x2 : Int32) (x4 : Int32) (M : za_M) : Prop :=
  if (M.1 (2, 0, 0) 4) ≤ x4 then (L12 x2 (x3 + 1) M) else (∃ n, za_lp2 (f_X9_round_b35 K L12 L23 x3 x4) n x2 0 M)
def f_X9_round_b12 (K : Int32 → za_M → Prop) (L12 : Int32 → Int32 → za_M → Prop) (x2 : Int32) (x3 : Int32) (M : za_M) : Prop :=
  if (M.1 (2, 0, 0) 3) ≤ x3 then (K x2 M) else (∃ n, za_lp2 (f_X9_round_b23 K L12 x3) n x2 1 M)
def f_X9_round (M : za_M) (K : Int32 → za_M → Prop) : Prop :=
  ∃ n, za_lp2 (f_X9_round_b12 K) n 0 0 M
section
variable {p : Program} {l : Launch} {e : Env} {s : State} {m : MethodId} {args : Array Value} {below : List Frame} {meth : Method} {c : Code} {g : za_L → Nat} {D : va_G} {cy : Nat → ClassId} {K : Int32 → za_M → Prop}
set_option maxRecDepth 100000 in
set_option maxHeartbeats 4000000 in
theorem p_X9_round_b35 (hJ : za_J g) (C : za_C p s m args c cX9_round 6 RX9 g D cy) (hr : meth.sig.returnType = (some .int)) (hk : meth.locks = false) {x3 : Int32} {x4 : Int32} {L12 : Int32 → Int32 → za_M → Prop} (hL12 : ∀ (x2 : Int32) (x3 : Int32) (M : za_M), L12 x2 x3 M → zt p l e (za_rm 2 90) s m args below meth c 0 0 (MQ below (za_Qi g D cy K) args s 0 0 (za_A g)) g D cy 6 M 12 [(1, .ref (g (2, 0, 0))), (2, .int x2), (3, .int x3)] []) {L23 : Int32 → Int32 → za_M → Prop} (hL23 : ∀ (x2 : Int32) (x4 : Int32) (M : za_M), L23 x2 x4 M → zt p l e (za_rm 2 90) s m args below meth c 0 0 (MQ below (za_Qi g D cy K) args s 0 0 (za_A g)) g D cy 6 M 23 [(1, .ref (g (2, 0, 0))), (2, .int x2), (3, .int x3), (4, .int x4)] []) {L35 : Int32 → Int32 → za_M → Prop} (hL35 : ∀ (x2 : Int32) (x5 : Int32) (M : za_M), L35 x2 x5 M → zt p l e (za_rm 2 90) s m args below meth c 0 0 (MQ below (za_Qi g D cy K) args s 0 0 (za_A g)) g D cy 6 M 35 [(1, .ref (g (2, 0, 0))), (2, .int x2), (3, .int x3), (4, .int x4), (5, .int x5)] []) : ∀ (x2 : Int32) (x5 : Int32) (M : za_M), f_X9_round_b35 K L12 L23 x3 x4 L35 x2 x5 M → zt p l e (za_rm 2 90) s m args below meth c 0 0 (MQ below (za_Qi g D cy K) args s 0 0 (za_A g)) g D cy 6 M 35 [(1, .ref (g (2, 0, 0))), (2, .int x2), (3, .int x3), (4, .int x4), (5, .int x5)] [] := by
  intro x2 x5 M h
  unfold f_X9_round_b35 at h
  refine zt_iload C 4 dX9_round_35 rfl ?_
  refine zt_iload C 3 dX9_round_37 rfl ?_
  refine zt_icmp_ge C 72 dX9_round_39 (by decide) (fun q1 => ?_) (fun q1 => ?_)
  · replace h := za_ifp h q1
    refine zt_iinc C (v := x4 + 1) 3 [(4, .int (x4 + 1)), (1, .ref (g (2, 0, 0))), (2, .int x2), (3, .int x3), (5, .int x5)] dX9_round_72 rfl (zk_n1 _) (by decide) rfl ?_
    refine zt_goto C 23 dX9_round_75 (by decide) ?_
    refine zt_sub [1, 2, 3, 0] (lv' := [(1, .ref (g (2, 0, 0))), (2, .int x2), (3, .int x3), (4, .int (x4 + 1))]) rfl ?_
    exact hL23 _ _ _ h
  · replace h := za_ifn h q1
    refine zt_iload_n C 1 dX9_round_42 rfl rfl ?_
    refine zt_aload_n C 0 dX9_round_43 rfl rfl ?_
    refine zt_iload C 4 dX9_round_44 rfl ?_
    refine zt_iload C 3 dX9_round_46 rfl ?_
    refine zt_iload_n C 2 dX9_round_48 rfl rfl ?_
    refine zt_cVi C [.int x5, .int x4, .int x3] (m_X1_lentBetween hJ (by decide) h) (za_mem (j := 2) rfl (by decide) (by decide)) (za_E_2 g cy M 0 0) rfl py_X1_lentBetween pv_X9_270 (Nat.le_of_ble_eq_true rfl) ⟨Nat.le_of_ble_eq_true rfl, Nat.le_of_ble_eq_true rfl⟩ ⟨Nat.zero_le _, Nat.zero_le _⟩ dX9_round_49 rfl (fun r3 M2 h => ?_)
    refine zt_aload_n C 0 dX9_round_52 rfl rfl ?_
    refine zt_iload C 3 dX9_round_53 rfl ?_
    refine zt_iload C 4 dX9_round_55 rfl ?_
    refine zt_iload_n C 2 dX9_round_57 rfl rfl ?_
    refine zt_cVi C [.int x4, .int x5, .int x3] (m_X1_lentBetween hJ (by decide) h) (za_mem (j := 2) rfl (by decide) (by decide)) (za_E_2 g cy M2 0 0) rfl py_X1_lentBetween pv_X9_270 (Nat.le_of_ble_eq_true rfl) ⟨Nat.le_of_ble_eq_true rfl, Nat.le_of_ble_eq_true rfl⟩ ⟨Nat.zero_le _, Nat.zero_le _⟩ dX9_round_58 rfl (fun r5 M4 h => ?_)
    refine zt_mmin C w_701 w_702 w_91 w_703 (Nat.le_of_ble_eq_true rfl) (Nat.le_of_ble_eq_true rfl) (Nat.zero_le _) (Nat.zero_le _) dX9_round_61 ?_
    refine zt_iadd C dX9_round_64 ?_
    refine zt_topi (fun y6 e7 => ?_)
    replace h := za_use h e7
    refine zt_istore_n C [(2, .int y6), (1, .ref (g (2, 0, 0))), (3, .int x3), (4, .int x4), (5, .int x5)] dX9_round_65 rfl (by decide) rfl ?_
    refine zt_iinc C (v := x5 + 1) 4 [(5, .int (x5 + 1)), (2, .int y6), (1, .ref (g (2, 0, 0))), (3, .int x3), (4, .int x4)] dX9_round_66 rfl (zk_n1 _) (by decide) rfl ?_
    refine zt_goto C 35 dX9_round_69 (by decide) ?_
    refine zt_sub [2, 1, 3, 4, 0] (lv' := [(1, .ref (g (2, 0, 0))), (2, .int y6), (3, .int x3), (4, .int x4), (5, .int (x5 + 1))]) rfl ?_
    exact hL35 _ _ _ h
theorem p_X9_round_b35_in (hJ : za_J g) (C : za_C p s m args c cX9_round 6 RX9 g D cy) (hr : meth.sig.returnType = (some .int)) (hk : meth.locks = false) {x3 : Int32} {x4 : Int32} {L12 : Int32 → Int32 → za_M → Prop} (hL12 : ∀ (x2 : Int32) (x3 : Int32) (M : za_M), L12 x2 x3 M → zt p l e (za_rm 2 90) s m args below meth c 0 0 (MQ below (za_Qi g D cy K) args s 0 0 (za_A g)) g D cy 6 M 12 [(1, .ref (g (2, 0, 0))), (2, .int x2), (3, .int x3)] []) {L23 : Int32 → Int32 → za_M → Prop} (hL23 : ∀ (x2 : Int32) (x4 : Int32) (M : za_M), L23 x2 x4 M → zt p l e (za_rm 2 90) s m args below meth c 0 0 (MQ below (za_Qi g D cy K) args s 0 0 (za_A g)) g D cy 6 M 23 [(1, .ref (g (2, 0, 0))), (2, .int x2), (3, .int x3), (4, .int x4)] []) {n : Nat} {x2 : Int32} {x5 : Int32} {M : za_M} (h : za_lp2 (f_X9_round_b35 K L12 L23 x3 x4) n x2 x5 M) : zt p l e (za_rm 2 90) s m args below meth c 0 0 (MQ below (za_Qi g D cy K) args s 0 0 (za_A g)) g D cy 6 M 35 [(1, .ref (g (2, 0, 0))), (2, .int x2), (3, .int x3), (4, .int x4), (5, .int x5)] [] := za_lp2_run (Z := fun x2 x5 M => zt p l e (za_rm 2 90) s m args below meth c 0 0 (MQ below (za_Qi g D cy K) args s 0 0 (za_A g)) g D cy 6 M 35 [(1, .ref (g (2, 0, 0))), (2, .int x2), (3, .int x3), (4, .int x4), (5, .int x5)] []) (fun L hL => p_X9_round_b35 hJ C hr hk hL12 hL23 hL) n x2 x5 M h
set_option maxRecDepth 100000 in
set_option maxHeartbeats 4000000 in
theorem p_X9_round_b23 (hJ : za_J g) (C : za_C p s m args c cX9_round 6 RX9 g D cy) (hr : meth.sig.returnType = (some .int)) (hk : meth.locks = false) {x3 : Int32} {L12 : Int32 → Int32 → za_M → Prop} (hL12 : ∀ (x2 : Int32) (x3 : Int32) (M : za_M), L12 x2 x3 M → zt p l e (za_rm 2 90) s m args below meth c 0 0 (MQ below (za_Qi g D cy K) args s 0 0 (za_A g)) g D cy 6 M 12 [(1, .ref (g (2, 0, 0))), (2, .int x2), (3, .int x3)] []) {L23 : Int32 → Int32 → za_M → Prop} (hL23 : ∀ (x2 : Int32) (x4 : Int32) (M : za_M), L23 x2 x4 M → zt p l e (za_rm 2 90) s m args below meth c 0 0 (MQ below (za_Qi g D cy K) args s 0 0 (za_A g)) g D cy 6 M 23 [(1, .ref (g (2, 0, 0))), (2, .int x2), (3, .int x3), (4, .int x4)] []) : ∀ (x2 : Int32) (x4 : Int32) (M : za_M), f_X9_round_b23 K L12 x3 L23 x2 x4 M → zt p l e (za_rm 2 90) s m args below meth c 0 0 (MQ below (za_Qi g D cy K) args s 0 0 (za_A g)) g D cy 6 M 23 [(1, .ref (g (2, 0, 0))), (2, .int x2), (3, .int x3), (4, .int x4)] [] := by
  intro x2 x4 M h
  unfold f_X9_round_b23 at h
  refine zt_iload C 3 dX9_round_23 rfl ?_
  refine zt_aload_n C 0 dX9_round_25 rfl rfl ?_
  refine zt_get C (za_mem (j := 2) rfl (by decide) (by decide)) pf_X9_108 (za_E_2 g cy M 0 0) rfl dX9_round_26 ?_
  refine zt_icmp_ge C 78 dX9_round_29 (by decide) (fun q8 => ?_) (fun q8 => ?_)
  · replace h := za_ifp h q8
    refine zt_iinc C (v := x3 + 1) 2 [(3, .int (x3 + 1)), (1, .ref (g (2, 0, 0))), (2, .int x2), (4, .int x4)] dX9_round_78 rfl (zk_n1 _) (by decide) rfl ?_
    refine zt_goto C 12 dX9_round_81 (by decide) ?_
    refine zt_sub [1, 2, 0] (lv' := [(1, .ref (g (2, 0, 0))), (2, .int x2), (3, .int (x3 + 1))]) rfl ?_
    exact hL12 _ _ _ h
  · replace h := za_ifn h q8
    refine zt_iconst C (v := 0) dX9_round_32 zk_i0 ?_
    refine zt_istore C [(5, .int 0), (1, .ref (g (2, 0, 0))), (2, .int x2), (3, .int x3), (4, .int x4)] dX9_round_33 (by decide) rfl ?_
    refine zt_sub [1, 2, 3, 4, 0] (lv' := [(1, .ref (g (2, 0, 0))), (2, .int x2), (3, .int x3), (4, .int x4), (5, .int 0)]) rfl ?_
    obtain ⟨n, h⟩ := h
    exact p_X9_round_b35_in hJ C hr hk hL12 hL23 h
theorem p_X9_round_b23_in (hJ : za_J g) (C : za_C p s m args c cX9_round 6 RX9 g D cy) (hr : meth.sig.returnType = (some .int)) (hk : meth.locks = false) {x3 : Int32} {L12 : Int32 → Int32 → za_M → Prop} (hL12 : ∀ (x2 : Int32) (x3 : Int32) (M : za_M), L12 x2 x3 M → zt p l e (za_rm 2 90) s m args below meth c 0 0 (MQ below (za_Qi g D cy K) args s 0 0 (za_A g)) g D cy 6 M 12 [(1, .ref (g (2, 0, 0))), (2, .int x2), (3, .int x3)] []) {n : Nat} {x2 : Int32} {x4 : Int32} {M : za_M} (h : za_lp2 (f_X9_round_b23 K L12 x3) n x2 x4 M) : zt p l e (za_rm 2 90) s m args below meth c 0 0 (MQ below (za_Qi g D cy K) args s 0 0 (za_A g)) g D cy 6 M 23 [(1, .ref (g (2, 0, 0))), (2, .int x2), (3, .int x3), (4, .int x4)] [] := za_lp2_run (Z := fun x2 x4 M => zt p l e (za_rm 2 90) s m args below meth c 0 0 (MQ below (za_Qi g D cy K) args s 0 0 (za_A g)) g D cy 6 M 23 [(1, .ref (g (2, 0, 0))), (2, .int x2), (3, .int x3), (4, .int x4)] []) (fun L hL => p_X9_round_b23 hJ C hr hk hL12 hL) n x2 x4 M h
set_option maxRecDepth 100000 in
set_option maxHeartbeats 4000000 in
theorem p_X9_round_b12 (hJ : za_J g) (C : za_C p s m args c cX9_round 6 RX9 g D cy) (hr : meth.sig.returnType = (some .int)) (hk : meth.locks = false) {L12 : Int32 → Int32 → za_M → Prop} (hL12 : ∀ (x2 : Int32) (x3 : Int32) (M : za_M), L12 x2 x3 M → zt p l e (za_rm 2 90) s m args below meth c 0 0 (MQ below (za_Qi g D cy K) args s 0 0 (za_A g)) g D cy 6 M 12 [(1, .ref (g (2, 0, 0))), (2, .int x2), (3, .int x3)] []) : ∀ (x2 : Int32) (x3 : Int32) (M : za_M), f_X9_round_b12 K L12 x2 x3 M → zt p l e (za_rm 2 90) s m args below meth c 0 0 (MQ below (za_Qi g D cy K) args s 0 0 (za_A g)) g D cy 6 M 12 [(1, .ref (g (2, 0, 0))), (2, .int x2), (3, .int x3)] [] := by
  intro x2 x3 M h
  unfold f_X9_round_b12 at h
  refine zt_iload_n C 2 dX9_round_12 rfl rfl ?_
  refine zt_aload_n C 0 dX9_round_13 rfl rfl ?_
  refine zt_get C (za_mem (j := 2) rfl (by decide) (by decide)) pf_X9_68 (za_E_2 g cy M 0 0) rfl dX9_round_14 ?_
  refine zt_icmp_ge C 84 dX9_round_17 (by decide) (fun q9 => ?_) (fun q9 => ?_)
  · replace h := za_ifp h q9
    refine zt_iload_n C 1 dX9_round_84 rfl rfl ?_
    exact zt_ret C hr hk rfl dX9_round_85 h
  · replace h := za_ifn h q9
    refine zt_iconst C (v := 1) dX9_round_20 zk_i1 ?_
    refine zt_istore C [(4, .int 1), (1, .ref (g (2, 0, 0))), (2, .int x2), (3, .int x3)] dX9_round_21 (by decide) rfl ?_
    refine zt_sub [1, 2, 3, 0] (lv' := [(1, .ref (g (2, 0, 0))), (2, .int x2), (3, .int x3), (4, .int 1)]) rfl ?_
    obtain ⟨n, h⟩ := h
    exact p_X9_round_b23_in hJ C hr hk hL12 h
theorem p_X9_round_b12_in (hJ : za_J g) (C : za_C p s m args c cX9_round 6 RX9 g D cy) (hr : meth.sig.returnType = (some .int)) (hk : meth.locks = false) {n : Nat} {x2 : Int32} {x3 : Int32} {M : za_M} (h : za_lp2 (f_X9_round_b12 K) n x2 x3 M) : zt p l e (za_rm 2 90) s m args below meth c 0 0 (MQ below (za_Qi g D cy K) args s 0 0 (za_A g)) g D cy 6 M 12 [(1, .ref (g (2, 0, 0))), (2, .int x2), (3, .int x3)] [] := za_lp2_run (Z := fun x2 x3 M => zt p l e (za_rm 2 90) s m args below meth c 0 0 (MQ below (za_Qi g D cy K) args s 0 0 (za_A g)) g D cy 6 M 12 [(1, .ref (g (2, 0, 0))), (2, .int x2), (3, .int x3)] []) (fun L hL => p_X9_round_b12 hJ C hr hk  hL) n x2 x3 M h
set_option maxRecDepth 100000 in
set_option maxHeartbeats 4000000 in
theorem p_X9_round (hJ : za_J g) (C : za_C p s m args c cX9_round 6 RX9 g D cy) (hr : meth.sig.returnType = (some .int)) (hk : meth.locks = false) {M : za_M} (h : f_X9_round M K) : zt p l e (za_rm 2 90) s m args below meth c 0 0 (MQ below (za_Qi g D cy K) args s 0 0 (za_A g)) g D cy 6 M 0 [(0, .ref (g (0, 0, 0)))] [] := by
  unfold f_X9_round at h
  refine zt_aload_n C 0 dX9_round_0 rfl rfl ?_
  refine zt_get C (za_mem (j := 0) rfl (by decide) (by decide)) pf_X9_10 (za_E_0 g cy M 0 0) rfl dX9_round_1 ?_
  refine zt_get C (za_mem (j := 1) rfl (by decide) (by decide)) pf_X9_57 (za_E_1 g cy M 0 0) rfl dX9_round_4 ?_
  refine zt_astore_n C [(1, .ref (g (2, 0, 0))), (0, .ref (g (0, 0, 0)))] dX9_round_7 rfl (by decide) rfl ?_
  refine zt_iconst C (v := 0) dX9_round_8 zk_i0 ?_
  refine zt_istore_n C [(2, .int 0), (1, .ref (g (2, 0, 0))), (0, .ref (g (0, 0, 0)))] dX9_round_9 rfl (by decide) rfl ?_
  refine zt_iconst C (v := 0) dX9_round_10 zk_i0 ?_
  refine zt_istore_n C [(3, .int 0), (2, .int 0), (1, .ref (g (2, 0, 0))), (0, .ref (g (0, 0, 0)))] dX9_round_11 rfl (by decide) rfl ?_
  refine zt_sub [2, 1, 0] (lv' := [(1, .ref (g (2, 0, 0))), (2, .int 0), (3, .int 0)]) rfl ?_
  obtain ⟨n, h⟩ := h
  exact p_X9_round_b12_in hJ C hr hk  h
end
theorem m_X9_round {l : Launch} {g : za_L → Nat} {D : va_G} {cy : Nat → ClassId} (hJ : za_J g)  {M : za_M} {K : Int32 → za_M → Prop} (h : f_X9_round M K) : za_Mi l g D cy yX9_round cX9_round 6 (some .int) 2 90 [.ref (g (0, 0, 0))] M K := za_openi hJ (by decide) (Nat.le_of_ble_eq_true rfl) (fun p e s m args below meth c C hr hk => p_X9_round hJ C hr hk  h)
/-! X9_lender -/
def f_X9_lender_b190 (K : Int32 → za_M → Prop) (L91 : Int32 → Int32 → Int32 → za_M → Prop) (x1 : Int32) (x2 : Int32) (x3 : Int32) (x4 : Int32) (x7 : Int32) (x8 : Int32) (x9 : Int32) (M : za_M) : Prop :=
  L91 x7 x8 (x9 + 1) M
def f_X9_lender_b182 (K : Int32 → za_M → Prop) (L91 : Int32 → Int32 → Int32 → za_M → Prop) (x1 : Int32) (x2 : Int32) (x3 : Int32) (x4 : Int32) (x9 : Int32) (x10 : Int32) (M : za_M) : Prop :=
  f_X9_lender_b190 K L91 x1 x2 x3 x4 x9 x10 x9 M
def f_X9_lender_b91 (K : Int32 → za_M → Prop) (x1 : Int32) (x2 : Int32) (x3 : Int32) (x4 : Int32) (L91 : Int32 → Int32 → Int32 → za_M → Prop) (x7 : Int32) (x8 : Int32) (x9 : Int32) (M : za_M) : Prop :=
  if (M.1 (2, 0, 0) 4) ≤ x9 then (if 0 ≤ x7 then (K x7 M) else (f_X9_fail 2 M (fun r4 M3 => K r4 M3))) else (if x9 = x1 then (f_X9_lender_b190 K L91 x1 x2 x3 x4 x7 x8 x9 M) else (f_X1_canLend 0 x9 x1 x2 x3 M (fun r7 M6 => if r7 = 0 then (f_X9_lender_b190 K L91 x1 x2 x3 x4 x7 x8 x9 M6) else (f_X1_copy 2 0 M6 (fun M9 => f_X1_addLoan 2 x9 x1 x2 x3 x4 M9 (fun M11 => vp_in 1 2 ∧ (f_X1_passDays 2 60 0 (Int32.toNatClampNeg 1) M11 (fun M14 => f_X1_brokenOfAll 2 M14 (fun r17 M16 => if x7 < 0 then (f_X9_lender_b182 K L91 x1 x2 x3 x4 x9 r17 M16) else (if x8 ≤ r17 then (f_X9_lender_b190 K L91 x1 x2 x3 x4 x7 x8 x9 M16) else (f_X9_lender_b182 K L91 x1 x2 x3 x4 x9 r17 M16)))))))))))
def f_X9_lender_b32 (K : Int32 → za_M → Prop) (x1 : Int32) (x2 : Int32) (x3 : Int32) (x4 : Int32) (s0 : Int32) (M : za_M) : Prop :=
  if s0 = 0 then (f_X9_fail 1 M (fun r22 M21 => K r22 M21)) else (f_X9_within x3 1 99 M (fun r24 M23 => if r24 = 0 then (f_X9_fail 1 M23 (fun r27 M26 => K r27 M26)) else (f_X9_within x4 1 20 M23 (fun r29 M28 => if r29 = 0 then (f_X9_fail 1 M28 (fun r35 M34 => K r35 M34)) else (if (M28.1 (2, 0, 0) 5) < 10 then (∃ n, za_lp3 (f_X9_lender_b91 K x1 x2 x3 x4) n (-1) 0 0 M28) else (f_X9_fail 4 M28 (fun r33 M32 => K r33 M32)))))))
def f_X9_lender_b31 (K : Int32 → za_M → Prop) (x1 : Int32) (x2 : Int32) (x3 : Int32) (x4 : Int32) (M : za_M) : Prop :=
  f_X9_lender_b32 K x1 x2 x3 x4 0 M
def f_X9_lender (x1 : Int32) (x2 : Int32) (x3 : Int32) (x4 : Int32) (M : za_M) (K : Int32 → za_M → Prop) : Prop :=
  f_X1_hasPotter 0 x1 M (fun r37 M36 => if r37 = 0 then (f_X9_lender_b31 K x1 x2 x3 x4 M36) else (f_X1_hasAsh 0 x2 M36 (fun r40 M39 => if r40 = 0 then (f_X9_lender_b31 K x1 x2 x3 x4 M39) else (f_X9_lender_b32 K x1 x2 x3 x4 1 M39))))
section
variable {p : Program} {l : Launch} {e : Env} {s : State} {m : MethodId} {args : Array Value} {below : List Frame} {meth : Method} {c : Code} {g : za_L → Nat} {D : va_G} {cy : Nat → ClassId} {K : Int32 → za_M → Prop}
set_option maxRecDepth 100000 in
set_option maxHeartbeats 4000000 in
theorem p_X9_lender_b190 (hJ : za_J g) (C : za_C p s m args c cX9_lender 11 RX9 g D cy) (hr : meth.sig.returnType = (some .int)) (hk : meth.locks = false) {x1 : Int32} {x2 : Int32} {x3 : Int32} {x4 : Int32} {x7 : Int32} {x8 : Int32} {x9 : Int32} {L91 : Int32 → Int32 → Int32 → za_M → Prop} (hL91 : ∀ (x7 : Int32) (x8 : Int32) (x9 : Int32) (M : za_M), L91 x7 x8 x9 M → zt p l e (za_rm 7 206) s m args below meth c 0 0 (MQ below (za_Qi g D cy K) args s 0 0 (za_A g)) g D cy 11 M 91 [(0, .ref (g (0, 0, 0))), (1, .int x1), (2, .int x2), (3, .int x3), (4, .int x4), (5, .ref (g (2, 0, 0))), (7, .int x7), (8, .int x8), (9, .int x9)] []) {M : za_M} (h : f_X9_lender_b190 K L91 x1 x2 x3 x4 x7 x8 x9 M) : zt p l e (za_rm 7 206) s m args below meth c 0 0 (MQ below (za_Qi g D cy K) args s 0 0 (za_A g)) g D cy 11 M 190 [(0, .ref (g (0, 0, 0))), (1, .int x1), (2, .int x2), (3, .int x3), (4, .int x4), (5, .ref (g (2, 0, 0))), (7, .int x7), (8, .int x8), (9, .int x9)] [] := by
  unfold f_X9_lender_b190 at h
  refine zt_iinc C (v := x9 + 1) 8 [(9, .int (x9 + 1)), (0, .ref (g (0, 0, 0))), (1, .int x1), (2, .int x2), (3, .int x3), (4, .int x4), (5, .ref (g (2, 0, 0))), (7, .int x7), (8, .int x8)] dX9_lender_190 rfl (zk_n1 _) (by decide) rfl ?_
  refine zt_goto C 91 dX9_lender_193 (by decide) ?_
  refine zt_sub [1, 2, 3, 4, 5, 6, 7, 8, 0] (lv' := [(0, .ref (g (0, 0, 0))), (1, .int x1), (2, .int x2), (3, .int x3), (4, .int x4), (5, .ref (g (2, 0, 0))), (7, .int x7), (8, .int x8), (9, .int (x9 + 1))]) rfl ?_
  exact hL91 _ _ _ _ h
set_option maxRecDepth 100000 in
set_option maxHeartbeats 4000000 in
theorem p_X9_lender_b182 (hJ : za_J g) (C : za_C p s m args c cX9_lender 11 RX9 g D cy) (hr : meth.sig.returnType = (some .int)) (hk : meth.locks = false) {x1 : Int32} {x2 : Int32} {x3 : Int32} {x4 : Int32} {x9 : Int32} {x10 : Int32} {L91 : Int32 → Int32 → Int32 → za_M → Prop} (hL91 : ∀ (x7 : Int32) (x8 : Int32) (x9 : Int32) (M : za_M), L91 x7 x8 x9 M → zt p l e (za_rm 7 206) s m args below meth c 0 0 (MQ below (za_Qi g D cy K) args s 0 0 (za_A g)) g D cy 11 M 91 [(0, .ref (g (0, 0, 0))), (1, .int x1), (2, .int x2), (3, .int x3), (4, .int x4), (5, .ref (g (2, 0, 0))), (7, .int x7), (8, .int x8), (9, .int x9)] []) {M : za_M} (h : f_X9_lender_b182 K L91 x1 x2 x3 x4 x9 x10 M) : zt p l e (za_rm 7 206) s m args below meth c 0 0 (MQ below (za_Qi g D cy K) args s 0 0 (za_A g)) g D cy 11 M 182 [(0, .ref (g (0, 0, 0))), (1, .int x1), (2, .int x2), (3, .int x3), (4, .int x4), (5, .ref (g (2, 0, 0))), (9, .int x9), (10, .int x10)] [] := by
  unfold f_X9_lender_b182 at h
  refine zt_iload C 6 dX9_lender_182 rfl ?_
  refine zt_istore C [(7, .int x9), (0, .ref (g (0, 0, 0))), (1, .int x1), (2, .int x2), (3, .int x3), (4, .int x4), (5, .ref (g (2, 0, 0))), (9, .int x9), (10, .int x10)] dX9_lender_184 (by decide) rfl ?_
  refine zt_iload C 8 dX9_lender_186 rfl ?_
  refine zt_istore C [(8, .int x10), (7, .int x9), (0, .ref (g (0, 0, 0))), (1, .int x1), (2, .int x2), (3, .int x3), (4, .int x4), (5, .ref (g (2, 0, 0))), (9, .int x9), (10, .int x10)] dX9_lender_188 (by decide) rfl ?_
  refine zt_sub [2, 3, 4, 5, 6, 7, 1, 0, 8] (lv' := [(0, .ref (g (0, 0, 0))), (1, .int x1), (2, .int x2), (3, .int x3), (4, .int x4), (5, .ref (g (2, 0, 0))), (7, .int x9), (8, .int x10), (9, .int x9)]) rfl ?_
  exact p_X9_lender_b190 hJ C hr hk hL91 h
set_option maxRecDepth 100000 in
set_option maxHeartbeats 4000000 in
theorem p_X9_lender_b91 (hJ : za_J g) (C : za_C p s m args c cX9_lender 11 RX9 g D cy) (hr : meth.sig.returnType = (some .int)) (hk : meth.locks = false) {x1 : Int32} {x2 : Int32} {x3 : Int32} {x4 : Int32} {L91 : Int32 → Int32 → Int32 → za_M → Prop} (hL91 : ∀ (x7 : Int32) (x8 : Int32) (x9 : Int32) (M : za_M), L91 x7 x8 x9 M → zt p l e (za_rm 7 206) s m args below meth c 0 0 (MQ below (za_Qi g D cy K) args s 0 0 (za_A g)) g D cy 11 M 91 [(0, .ref (g (0, 0, 0))), (1, .int x1), (2, .int x2), (3, .int x3), (4, .int x4), (5, .ref (g (2, 0, 0))), (7, .int x7), (8, .int x8), (9, .int x9)] []) : ∀ (x7 : Int32) (x8 : Int32) (x9 : Int32) (M : za_M), f_X9_lender_b91 K x1 x2 x3 x4 L91 x7 x8 x9 M → zt p l e (za_rm 7 206) s m args below meth c 0 0 (MQ below (za_Qi g D cy K) args s 0 0 (za_A g)) g D cy 11 M 91 [(0, .ref (g (0, 0, 0))), (1, .int x1), (2, .int x2), (3, .int x3), (4, .int x4), (5, .ref (g (2, 0, 0))), (7, .int x7), (8, .int x8), (9, .int x9)] [] := by
  intro x7 x8 x9 M h
  unfold f_X9_lender_b91 at h
  refine zt_iload C 8 dX9_lender_91 rfl ?_
  refine zt_aload C 5 dX9_lender_93 rfl ?_
  refine zt_get C (za_mem (j := 2) rfl (by decide) (by decide)) pf_X9_108 (za_E_2 g cy M 0 0) rfl dX9_lender_95 ?_
  refine zt_icmp_ge C 196 dX9_lender_98 (by decide) (fun q1 => ?_) (fun q1 => ?_)
  · replace h := za_ifp h q1
    refine zt_iload C 6 dX9_lender_196 rfl ?_
    refine zt_if_ge C 209 dX9_lender_198 (by decide) (fun q2 => ?_) (fun q2 => ?_)
    · replace h := za_ifp h q2
      refine zt_iload C 6 dX9_lender_209 rfl ?_
      exact zt_ret C hr hk rfl dX9_lender_211 h
    · replace h := za_ifn h q2
      refine zt_aload_n C 0 dX9_lender_201 rfl rfl ?_
      refine zt_iconst C (v := 2) dX9_lender_202 zk_i2 ?_
      refine zt_cVi C [.int 2] (m_X9_fail hJ  h) (za_mem (j := 0) rfl (by decide) (by decide)) (za_E_0 g cy M 0 0) rfl py_X9_fail pv_X9_64 (Nat.le_of_ble_eq_true rfl) ⟨Nat.le_of_ble_eq_true rfl, Nat.le_of_ble_eq_true rfl⟩ ⟨Nat.zero_le _, Nat.zero_le _⟩ dX9_lender_203 rfl (fun r4 M3 h => ?_)
      refine zt_goto C 211 dX9_lender_206 (by decide) ?_
      exact zt_ret C hr hk rfl dX9_lender_211 h
  · replace h := za_ifn h q1
    refine zt_iload C 8 dX9_lender_101 rfl ?_
    refine zt_iload_n C 1 dX9_lender_103 rfl rfl ?_
    refine zt_icmp_eq C 190 dX9_lender_104 (by decide) (fun q5 => ?_) (fun q5 => ?_)
    · replace h := za_ifp h q5
      exact p_X9_lender_b190 hJ C hr hk hL91 h
    · replace h := za_ifn h q5
      refine zt_aload C 5 dX9_lender_107 rfl ?_
      refine zt_iload C 8 dX9_lender_109 rfl ?_
      refine zt_iload_n C 1 dX9_lender_111 rfl rfl ?_
      refine zt_iload_n C 2 dX9_lender_112 rfl rfl ?_
      refine zt_iload_n C 3 dX9_lender_113 rfl rfl ?_
      refine zt_cVi C [.int x9, .int x1, .int x2, .int x3] (m_X1_canLend hJ (by decide) h) (za_mem (j := 2) rfl (by decide) (by decide)) (za_E_2 g cy M 0 0) rfl py_X1_canLend pv_X9_173 (Nat.le_of_ble_eq_true rfl) ⟨Nat.le_of_ble_eq_true rfl, Nat.le_of_ble_eq_true rfl⟩ ⟨Nat.zero_le _, Nat.zero_le _⟩ dX9_lender_114 rfl (fun r7 M6 h => ?_)
      refine zt_if_eq C 190 dX9_lender_117 (by decide) (fun q8 => ?_) (fun q8 => ?_)
      · replace h := za_ifp h q8
        exact p_X9_lender_b190 hJ C hr hk hL91 h
      · replace h := za_ifn h q8
        refine zt_aload_n C 0 dX9_lender_120 rfl rfl ?_
        refine zt_get C (za_mem (j := 0) rfl (by decide) (by decide)) pf_X9_22 (za_E_0 g cy M6 0 0) rfl dX9_lender_121 ?_
        refine zt_aload C 5 dX9_lender_124 rfl ?_
        refine zt_cVv C [.ref (g (2, 0, 0))] (m_X1_copy hJ (by decide) (by decide) h) (za_mem (j := 2) rfl (by decide) (by decide)) (za_E_2 g cy M6 2 0) rfl py_X1_copy pv_X9_241 (Nat.le_of_ble_eq_true rfl) ⟨Nat.le_of_ble_eq_true rfl, Nat.le_of_ble_eq_true rfl⟩ ⟨Nat.zero_le _, Nat.zero_le _⟩ dX9_lender_126 rfl (fun M9 h => ?_)
        refine zt_aload_n C 0 dX9_lender_129 rfl rfl ?_
        refine zt_get C (za_mem (j := 0) rfl (by decide) (by decide)) pf_X9_22 (za_E_0 g cy M9 0 0) rfl dX9_lender_130 ?_
        refine zt_iload C 8 dX9_lender_133 rfl ?_
        refine zt_iload_n C 1 dX9_lender_135 rfl rfl ?_
        refine zt_iload_n C 2 dX9_lender_136 rfl rfl ?_
        refine zt_iload_n C 3 dX9_lender_137 rfl rfl ?_
        refine zt_iload C 4 dX9_lender_138 rfl ?_
        refine zt_cVv C [.int x9, .int x1, .int x2, .int x3, .int x4] (m_X1_addLoan hJ (by decide) h) (za_mem (j := 2) rfl (by decide) (by decide)) (za_E_2 g cy M9 2 0) rfl py_X1_addLoan pv_X9_180 (Nat.le_of_ble_eq_true rfl) ⟨Nat.le_of_ble_eq_true rfl, Nat.le_of_ble_eq_true rfl⟩ ⟨Nat.zero_le _, Nat.zero_le _⟩ dX9_lender_140 rfl (fun M11 h => ?_)
        refine zt_aload_n C 0 dX9_lender_143 rfl rfl ?_
        refine zt_get C (za_mem (j := 0) rfl (by decide) (by decide)) pf_X9_22 (za_E_0 g cy M11 0 0) rfl dX9_lender_144 ?_
        refine zt_bipush C (v := 60) dX9_lender_147 zk_b60 ?_
        refine zt_aload_n C 0 dX9_lender_149 rfl rfl ?_
        refine zt_get C (za_mem (j := 0) rfl (by decide) (by decide)) pf_X9_10 (za_E_0 g cy M11 0 0) rfl dX9_lender_150 ?_
        refine zt_get C (za_mem (j := 1) rfl (by decide) (by decide)) pf_X9_153 (za_E_1 g cy M11 0 0) rfl dX9_lender_153 ?_
        refine zt_iconst C (v := 1) dX9_lender_156 zk_i1 ?_
        obtain ⟨g13, h⟩ := h
        refine zt_aald C (za_mem (j := 14) rfl (by decide) (by decide)) (za_E_14 g cy M11 0 0) rfl g13 dX9_lender_157 ?_
        refine zt_cVv C [.int 60, .ref (g (6, 0, (Int32.toNatClampNeg 1)))] (m_X1_passDays hJ (by decide) (by decide) (za_lt g13) h) (za_mem (j := 2) rfl (by decide) (by decide)) (za_E_2 g cy M11 2 0) rfl py_X1_passDays pv_X9_234 (Nat.le_of_ble_eq_true rfl) ⟨Nat.le_of_ble_eq_true rfl, Nat.le_of_ble_eq_true rfl⟩ ⟨Nat.zero_le _, Nat.zero_le _⟩ dX9_lender_158 rfl (fun M14 h => ?_)
        refine zt_aload_n C 0 dX9_lender_161 rfl rfl ?_
        refine zt_get C (za_mem (j := 0) rfl (by decide) (by decide)) pf_X9_22 (za_E_0 g cy M14 0 0) rfl dX9_lender_162 ?_
        refine zt_cVi C [] (m_X1_brokenOfAll hJ (by decide) h) (za_mem (j := 2) rfl (by decide) (by decide)) (za_E_2 g cy M14 2 0) rfl py_X1_brokenOfAll pv_X9_278 (Nat.le_of_ble_eq_true rfl) ⟨Nat.le_of_ble_eq_true rfl, Nat.le_of_ble_eq_true rfl⟩ ⟨Nat.zero_le _, Nat.zero_le _⟩ dX9_lender_165 rfl (fun r17 M16 h => ?_)
        refine zt_istore C [(10, .int r17), (0, .ref (g (0, 0, 0))), (1, .int x1), (2, .int x2), (3, .int x3), (4, .int x4), (5, .ref (g (2, 0, 0))), (7, .int x7), (8, .int x8), (9, .int x9)] dX9_lender_168 (by decide) rfl ?_
        refine zt_iload C 7 dX9_lender_170 rfl ?_
        refine zt_if_lt C 182 dX9_lender_172 (by decide) (fun q18 => ?_) (fun q18 => ?_)
        · replace h := za_ifp h q18
          refine zt_sub [1, 2, 3, 4, 5, 6, 9, 0] (lv' := [(0, .ref (g (0, 0, 0))), (1, .int x1), (2, .int x2), (3, .int x3), (4, .int x4), (5, .ref (g (2, 0, 0))), (9, .int x9), (10, .int r17)]) rfl ?_
          exact p_X9_lender_b182 hJ C hr hk hL91 h
        · replace h := za_ifn h q18
          refine zt_iload C 0 dX9_lender_175 rfl ?_
          refine zt_iload C 8 dX9_lender_177 rfl ?_
          refine zt_icmp_ge C 190 dX9_lender_179 (by decide) (fun q19 => ?_) (fun q19 => ?_)
          · replace h := za_ifp h q19
            refine zt_sub [1, 2, 3, 4, 5, 6, 7, 8, 9] (lv' := [(0, .ref (g (0, 0, 0))), (1, .int x1), (2, .int x2), (3, .int x3), (4, .int x4), (5, .ref (g (2, 0, 0))), (7, .int x7), (8, .int x8), (9, .int x9)]) rfl ?_
            exact p_X9_lender_b190 hJ C hr hk hL91 h
          · replace h := za_ifn h q19
            refine zt_sub [1, 2, 3, 4, 5, 6, 9, 0] (lv' := [(0, .ref (g (0, 0, 0))), (1, .int x1), (2, .int x2), (3, .int x3), (4, .int x4), (5, .ref (g (2, 0, 0))), (9, .int x9), (10, .int r17)]) rfl ?_
            exact p_X9_lender_b182 hJ C hr hk hL91 h
theorem p_X9_lender_b91_in (hJ : za_J g) (C : za_C p s m args c cX9_lender 11 RX9 g D cy) (hr : meth.sig.returnType = (some .int)) (hk : meth.locks = false) {x1 : Int32} {x2 : Int32} {x3 : Int32} {x4 : Int32} {n : Nat} {x7 : Int32} {x8 : Int32} {x9 : Int32} {M : za_M} (h : za_lp3 (f_X9_lender_b91 K x1 x2 x3 x4) n x7 x8 x9 M) : zt p l e (za_rm 7 206) s m args below meth c 0 0 (MQ below (za_Qi g D cy K) args s 0 0 (za_A g)) g D cy 11 M 91 [(0, .ref (g (0, 0, 0))), (1, .int x1), (2, .int x2), (3, .int x3), (4, .int x4), (5, .ref (g (2, 0, 0))), (7, .int x7), (8, .int x8), (9, .int x9)] [] := za_lp3_run (Z := fun x7 x8 x9 M => zt p l e (za_rm 7 206) s m args below meth c 0 0 (MQ below (za_Qi g D cy K) args s 0 0 (za_A g)) g D cy 11 M 91 [(0, .ref (g (0, 0, 0))), (1, .int x1), (2, .int x2), (3, .int x3), (4, .int x4), (5, .ref (g (2, 0, 0))), (7, .int x7), (8, .int x8), (9, .int x9)] []) (fun L hL => p_X9_lender_b91 hJ C hr hk  hL) n x7 x8 x9 M h
set_option maxRecDepth 100000 in
set_option maxHeartbeats 4000000 in
theorem p_X9_lender_b32 (hJ : za_J g) (C : za_C p s m args c cX9_lender 11 RX9 g D cy) (hr : meth.sig.returnType = (some .int)) (hk : meth.locks = false) {x1 : Int32} {x2 : Int32} {x3 : Int32} {x4 : Int32} {s0 : Int32} {M : za_M} (h : f_X9_lender_b32 K x1 x2 x3 x4 s0 M) : zt p l e (za_rm 7 206) s m args below meth c 0 0 (MQ below (za_Qi g D cy K) args s 0 0 (za_A g)) g D cy 11 M 32 [(0, .ref (g (0, 0, 0))), (1, .int x1), (2, .int x2), (3, .int x3), (4, .int x4), (5, .ref (g (2, 0, 0)))] [.int s0] := by
  unfold f_X9_lender_b32 at h
  refine zt_istore C [(6, .int s0), (0, .ref (g (0, 0, 0))), (1, .int x1), (2, .int x2), (3, .int x3), (4, .int x4), (5, .ref (g (2, 0, 0)))] dX9_lender_32 (by decide) rfl ?_
  refine zt_iload C 0 dX9_lender_34 rfl ?_
  refine zt_if_eq C 60 dX9_lender_36 (by decide) (fun q20 => ?_) (fun q20 => ?_)
  · replace h := za_ifp h q20
    refine zt_aload_n C 1 dX9_lender_60 rfl rfl ?_
    refine zt_iconst C (v := 1) dX9_lender_61 zk_i1 ?_
    refine zt_cVi C [.int 1] (m_X9_fail hJ  h) (za_mem (j := 0) rfl (by decide) (by decide)) (za_E_0 g cy M 0 0) rfl py_X9_fail pv_X9_64 (Nat.le_of_ble_eq_true rfl) ⟨Nat.le_of_ble_eq_true rfl, Nat.le_of_ble_eq_true rfl⟩ ⟨Nat.zero_le _, Nat.zero_le _⟩ dX9_lender_62 rfl (fun r22 M21 h => ?_)
    exact zt_ret C hr hk rfl dX9_lender_65 h
  · replace h := za_ifn h q20
    refine zt_iload_n C 4 dX9_lender_39 rfl rfl ?_
    refine zt_iconst C (v := 1) dX9_lender_40 zk_i1 ?_
    refine zt_bipush C (v := 99) dX9_lender_41 zk_b99 ?_
    refine zt_cSi C [.int x3, .int 1, .int 99] (m_X9_within hJ  h) py_X9_within ps_X9_100 (Nat.le_of_ble_eq_true rfl) ⟨Nat.le_of_ble_eq_true rfl, Nat.le_of_ble_eq_true rfl⟩ ⟨Nat.zero_le _, Nat.zero_le _⟩ dX9_lender_43 rfl (fun r24 M23 h => ?_)
    refine zt_if_eq C 60 dX9_lender_46 (by decide) (fun q25 => ?_) (fun q25 => ?_)
    · replace h := za_ifp h q25
      refine zt_aload_n C 1 dX9_lender_60 rfl rfl ?_
      refine zt_iconst C (v := 1) dX9_lender_61 zk_i1 ?_
      refine zt_cVi C [.int 1] (m_X9_fail hJ  h) (za_mem (j := 0) rfl (by decide) (by decide)) (za_E_0 g cy M23 0 0) rfl py_X9_fail pv_X9_64 (Nat.le_of_ble_eq_true rfl) ⟨Nat.le_of_ble_eq_true rfl, Nat.le_of_ble_eq_true rfl⟩ ⟨Nat.zero_le _, Nat.zero_le _⟩ dX9_lender_62 rfl (fun r27 M26 h => ?_)
      exact zt_ret C hr hk rfl dX9_lender_65 h
    · replace h := za_ifn h q25
      refine zt_iload C 5 dX9_lender_49 rfl ?_
      refine zt_iconst C (v := 1) dX9_lender_51 zk_i1 ?_
      refine zt_bipush C (v := 20) dX9_lender_52 zk_b20 ?_
      refine zt_cSi C [.int x4, .int 1, .int 20] (m_X9_within hJ  h) py_X9_within ps_X9_100 (Nat.le_of_ble_eq_true rfl) ⟨Nat.le_of_ble_eq_true rfl, Nat.le_of_ble_eq_true rfl⟩ ⟨Nat.zero_le _, Nat.zero_le _⟩ dX9_lender_54 rfl (fun r29 M28 h => ?_)
      refine zt_if_ne C 66 dX9_lender_57 (by decide) (fun q30 => ?_) (fun q30 => ?_)
      · replace h := za_ifn h q30
        refine zt_aload C 6 dX9_lender_66 rfl ?_
        refine zt_get C (za_mem (j := 2) rfl (by decide) (by decide)) pf_X9_177 (za_E_2 g cy M28 0 0) rfl dX9_lender_68 ?_
        refine zt_bipush C (v := 10) dX9_lender_71 zk_b10 ?_
        refine zt_icmp_lt C 82 dX9_lender_73 (by decide) (fun q31 => ?_) (fun q31 => ?_)
        · replace h := za_ifp h q31
          refine zt_iconst C (v := (-1)) dX9_lender_82 zk_im1 ?_
          refine zt_istore C [(7, .int (-1)), (6, .int s0), (0, .ref (g (0, 0, 0))), (1, .int x1), (2, .int x2), (3, .int x3), (4, .int x4), (5, .ref (g (2, 0, 0)))] dX9_lender_83 (by decide) rfl ?_
          refine zt_iconst C (v := 0) dX9_lender_85 zk_i0 ?_
          refine zt_istore C [(8, .int 0), (7, .int (-1)), (6, .int s0), (0, .ref (g (0, 0, 0))), (1, .int x1), (2, .int x2), (3, .int x3), (4, .int x4), (5, .ref (g (2, 0, 0)))] dX9_lender_86 (by decide) rfl ?_
          refine zt_iconst C (v := 0) dX9_lender_88 zk_i0 ?_
          refine zt_istore C [(9, .int 0), (8, .int 0), (7, .int (-1)), (6, .int s0), (0, .ref (g (0, 0, 0))), (1, .int x1), (2, .int x2), (3, .int x3), (4, .int x4), (5, .ref (g (2, 0, 0)))] dX9_lender_89 (by decide) rfl ?_
          refine zt_sub [4, 5, 6, 7, 8, 9, 2, 1, 0] (lv' := [(0, .ref (g (0, 0, 0))), (1, .int x1), (2, .int x2), (3, .int x3), (4, .int x4), (5, .ref (g (2, 0, 0))), (7, .int (-1)), (8, .int 0), (9, .int 0)]) rfl ?_
          obtain ⟨n, h⟩ := h
          exact p_X9_lender_b91_in hJ C hr hk  h
        · replace h := za_ifn h q31
          refine zt_aload_n C 1 dX9_lender_76 rfl rfl ?_
          refine zt_iconst C (v := 4) dX9_lender_77 zk_i4 ?_
          refine zt_cVi C [.int 4] (m_X9_fail hJ  h) (za_mem (j := 0) rfl (by decide) (by decide)) (za_E_0 g cy M28 0 0) rfl py_X9_fail pv_X9_64 (Nat.le_of_ble_eq_true rfl) ⟨Nat.le_of_ble_eq_true rfl, Nat.le_of_ble_eq_true rfl⟩ ⟨Nat.zero_le _, Nat.zero_le _⟩ dX9_lender_78 rfl (fun r33 M32 h => ?_)
          exact zt_ret C hr hk rfl dX9_lender_81 h
      · replace h := za_ifp h q30
        refine zt_aload_n C 1 dX9_lender_60 rfl rfl ?_
        refine zt_iconst C (v := 1) dX9_lender_61 zk_i1 ?_
        refine zt_cVi C [.int 1] (m_X9_fail hJ  h) (za_mem (j := 0) rfl (by decide) (by decide)) (za_E_0 g cy M28 0 0) rfl py_X9_fail pv_X9_64 (Nat.le_of_ble_eq_true rfl) ⟨Nat.le_of_ble_eq_true rfl, Nat.le_of_ble_eq_true rfl⟩ ⟨Nat.zero_le _, Nat.zero_le _⟩ dX9_lender_62 rfl (fun r35 M34 h => ?_)
        exact zt_ret C hr hk rfl dX9_lender_65 h
set_option maxRecDepth 100000 in
set_option maxHeartbeats 4000000 in
theorem p_X9_lender_b31 (hJ : za_J g) (C : za_C p s m args c cX9_lender 11 RX9 g D cy) (hr : meth.sig.returnType = (some .int)) (hk : meth.locks = false) {x1 : Int32} {x2 : Int32} {x3 : Int32} {x4 : Int32} {M : za_M} (h : f_X9_lender_b31 K x1 x2 x3 x4 M) : zt p l e (za_rm 7 206) s m args below meth c 0 0 (MQ below (za_Qi g D cy K) args s 0 0 (za_A g)) g D cy 11 M 31 [(0, .ref (g (0, 0, 0))), (1, .int x1), (2, .int x2), (3, .int x3), (4, .int x4), (5, .ref (g (2, 0, 0)))] [] := by
  unfold f_X9_lender_b31 at h
  refine zt_iconst C (v := 0) dX9_lender_31 zk_i0 ?_
  exact p_X9_lender_b32 hJ C hr hk  h
set_option maxRecDepth 100000 in
set_option maxHeartbeats 4000000 in
theorem p_X9_lender (hJ : za_J g) (C : za_C p s m args c cX9_lender 11 RX9 g D cy) (hr : meth.sig.returnType = (some .int)) (hk : meth.locks = false) {x1 : Int32} {x2 : Int32} {x3 : Int32} {x4 : Int32} {M : za_M} (h : f_X9_lender x1 x2 x3 x4 M K) : zt p l e (za_rm 7 206) s m args below meth c 0 0 (MQ below (za_Qi g D cy K) args s 0 0 (za_A g)) g D cy 11 M 0 [(0, .ref (g (0, 0, 0))), (1, .int x1), (2, .int x2), (3, .int x3), (4, .int x4)] [] := by
  unfold f_X9_lender at h
  refine zt_aload_n C 0 dX9_lender_0 rfl rfl ?_
  refine zt_get C (za_mem (j := 0) rfl (by decide) (by decide)) pf_X9_10 (za_E_0 g cy M 0 0) rfl dX9_lender_1 ?_
  refine zt_get C (za_mem (j := 1) rfl (by decide) (by decide)) pf_X9_57 (za_E_1 g cy M 0 0) rfl dX9_lender_4 ?_
  refine zt_astore C [(5, .ref (g (2, 0, 0))), (0, .ref (g (0, 0, 0))), (1, .int x1), (2, .int x2), (3, .int x3), (4, .int x4)] dX9_lender_7 (by decide) rfl ?_
  refine zt_aload C 0 dX9_lender_9 rfl ?_
  refine zt_iload_n C 2 dX9_lender_11 rfl rfl ?_
  refine zt_cVi C [.int x1] (m_X1_hasPotter hJ (by decide) h) (za_mem (j := 2) rfl (by decide) (by decide)) (za_E_2 g cy M 0 0) rfl py_X1_hasPotter pv_X9_119 (Nat.le_of_ble_eq_true rfl) ⟨Nat.le_of_ble_eq_true rfl, Nat.le_of_ble_eq_true rfl⟩ ⟨Nat.zero_le _, Nat.zero_le _⟩ dX9_lender_12 rfl (fun r37 M36 h => ?_)
  refine zt_if_eq C 31 dX9_lender_15 (by decide) (fun q38 => ?_) (fun q38 => ?_)
  · replace h := za_ifp h q38
    refine zt_sub [1, 2, 3, 4, 5, 0] (lv' := [(0, .ref (g (0, 0, 0))), (1, .int x1), (2, .int x2), (3, .int x3), (4, .int x4), (5, .ref (g (2, 0, 0)))]) rfl ?_
    exact p_X9_lender_b31 hJ C hr hk  h
  · replace h := za_ifn h q38
    refine zt_aload C 0 dX9_lender_18 rfl ?_
    refine zt_iload_n C 3 dX9_lender_20 rfl rfl ?_
    refine zt_cVi C [.int x2] (m_X1_hasAsh hJ (by decide) h) (za_mem (j := 2) rfl (by decide) (by decide)) (za_E_2 g cy M36 0 0) rfl py_X1_hasAsh pv_X9_82 (Nat.le_of_ble_eq_true rfl) ⟨Nat.le_of_ble_eq_true rfl, Nat.le_of_ble_eq_true rfl⟩ ⟨Nat.zero_le _, Nat.zero_le _⟩ dX9_lender_21 rfl (fun r40 M39 h => ?_)
    refine zt_if_eq C 31 dX9_lender_24 (by decide) (fun q41 => ?_) (fun q41 => ?_)
    · replace h := za_ifp h q41
      refine zt_sub [1, 2, 3, 4, 5, 0] (lv' := [(0, .ref (g (0, 0, 0))), (1, .int x1), (2, .int x2), (3, .int x3), (4, .int x4), (5, .ref (g (2, 0, 0)))]) rfl ?_
      exact p_X9_lender_b31 hJ C hr hk  h
    · replace h := za_ifn h q41
      refine zt_iconst C (v := 1) dX9_lender_27 zk_i1 ?_
      refine zt_goto C 32 dX9_lender_28 (by decide) ?_
      refine zt_sub [1, 2, 3, 4, 5, 0] (lv' := [(0, .ref (g (0, 0, 0))), (1, .int x1), (2, .int x2), (3, .int x3), (4, .int x4), (5, .ref (g (2, 0, 0)))]) rfl ?_
      exact p_X9_lender_b32 hJ C hr hk  h
end
theorem m_X9_lender {l : Launch} {g : za_L → Nat} {D : va_G} {cy : Nat → ClassId} (hJ : za_J g)  {x1 : Int32} {x2 : Int32} {x3 : Int32} {x4 : Int32} {M : za_M} {K : Int32 → za_M → Prop} (h : f_X9_lender x1 x2 x3 x4 M K) : za_Mi l g D cy yX9_lender cX9_lender 11 (some .int) 7 206 [.ref (g (0, 0, 0)), .int x1, .int x2, .int x3, .int x4] M K := za_openi hJ (by decide) (Nat.le_of_ble_eq_true rfl) (fun p e s m args below meth c C hr hk => p_X9_lender hJ C hr hk  h)
/-! J6_bitCount_0f7a4 -/
def f_J6_bitCount_0f7a4 (x0 : Int32) (M : za_M) (K : Int32 → za_M → Prop) : Prop :=
  za_let (x0 - (((x0.toUInt32 >>> ((1 : Int32).toUInt32 &&& Int32.toUInt32 31)).toInt32) &&& 1431655765)) fun y1 => za_let ((y1 &&& 858993459) + (((y1.toUInt32 >>> ((2 : Int32).toUInt32 &&& Int32.toUInt32 31)).toInt32) &&& 858993459)) fun y3 => za_let ((y3 + ((y3.toUInt32 >>> ((4 : Int32).toUInt32 &&& Int32.toUInt32 31)).toInt32)) &&& 252645135) fun y5 => za_let (y5 + ((y5.toUInt32 >>> ((8 : Int32).toUInt32 &&& Int32.toUInt32 31)).toInt32)) fun y7 => za_let (y7 + ((y7.toUInt32 >>> ((16 : Int32).toUInt32 &&& Int32.toUInt32 31)).toInt32)) fun y9 => K (y9 &&& 63) M
section
variable {p : Program} {l : Launch} {e : Env} {s : State} {m : MethodId} {args : Array Value} {below : List Frame} {meth : Method} {c : Code} {g : za_L → Nat} {D : va_G} {cy : Nat → ClassId} {K : Int32 → za_M → Prop}
set_option maxRecDepth 100000 in
set_option maxHeartbeats 4000000 in
theorem p_J6_bitCount_0f7a4 (hJ : za_J g) (C : za_C p s m args c cJ6_bitCount_0f7a4 1 RJ6 g D cy) (hr : meth.sig.returnType = (some .int)) (hk : meth.locks = false) {x0 : Int32} {M : za_M} (h : f_J6_bitCount_0f7a4 x0 M K) : zt p l e (za_rm 1 64) s m args below meth c 0 0 (MQ below (za_Qi g D cy K) args s 0 0 (za_A g)) g D cy 1 M 0 [(0, .int x0)] [] := by
  unfold f_J6_bitCount_0f7a4 at h
  refine zt_iload_n C 0 dJ6_bitCount_0f7a4_0 rfl rfl ?_
  refine zt_iload_n C 0 dJ6_bitCount_0f7a4_1 rfl rfl ?_
  refine zt_iconst C (v := 1) dJ6_bitCount_0f7a4_2 zk_i1 ?_
  refine zt_iushr C dJ6_bitCount_0f7a4_3 ?_
  refine zt_ldcw C w_766 dJ6_bitCount_0f7a4_4 ?_
  refine zt_iand C dJ6_bitCount_0f7a4_7 ?_
  refine zt_isub C dJ6_bitCount_0f7a4_8 ?_
  refine zt_topi (fun y1 e2 => ?_)
  replace h := za_use h e2
  refine zt_istore_n C [(0, .int y1)] dJ6_bitCount_0f7a4_9 rfl (by decide) rfl ?_
  refine zt_iload_n C 0 dJ6_bitCount_0f7a4_10 rfl rfl ?_
  refine zt_ldcw C w_767 dJ6_bitCount_0f7a4_11 ?_
  refine zt_iand C dJ6_bitCount_0f7a4_14 ?_
  refine zt_iload_n C 0 dJ6_bitCount_0f7a4_15 rfl rfl ?_
  refine zt_iconst C (v := 2) dJ6_bitCount_0f7a4_16 zk_i2 ?_
  refine zt_iushr C dJ6_bitCount_0f7a4_17 ?_
  refine zt_ldcw C w_767 dJ6_bitCount_0f7a4_18 ?_
  refine zt_iand C dJ6_bitCount_0f7a4_21 ?_
  refine zt_iadd C dJ6_bitCount_0f7a4_22 ?_
  refine zt_topi (fun y3 e4 => ?_)
  replace h := za_use h e4
  refine zt_istore_n C [(0, .int y3)] dJ6_bitCount_0f7a4_23 rfl (by decide) rfl ?_
  refine zt_iload_n C 0 dJ6_bitCount_0f7a4_24 rfl rfl ?_
  refine zt_iload_n C 0 dJ6_bitCount_0f7a4_25 rfl rfl ?_
  refine zt_iconst C (v := 4) dJ6_bitCount_0f7a4_26 zk_i4 ?_
  refine zt_iushr C dJ6_bitCount_0f7a4_27 ?_
  refine zt_iadd C dJ6_bitCount_0f7a4_28 ?_
  refine zt_ldcw C w_768 dJ6_bitCount_0f7a4_29 ?_
  refine zt_iand C dJ6_bitCount_0f7a4_32 ?_
  refine zt_topi (fun y5 e6 => ?_)
  replace h := za_use h e6
  refine zt_istore_n C [(0, .int y5)] dJ6_bitCount_0f7a4_33 rfl (by decide) rfl ?_
  refine zt_iload_n C 0 dJ6_bitCount_0f7a4_34 rfl rfl ?_
  refine zt_iload_n C 0 dJ6_bitCount_0f7a4_35 rfl rfl ?_
  refine zt_bipush C (v := 8) dJ6_bitCount_0f7a4_36 zk_b8 ?_
  refine zt_iushr C dJ6_bitCount_0f7a4_38 ?_
  refine zt_iadd C dJ6_bitCount_0f7a4_39 ?_
  refine zt_topi (fun y7 e8 => ?_)
  replace h := za_use h e8
  refine zt_istore_n C [(0, .int y7)] dJ6_bitCount_0f7a4_40 rfl (by decide) rfl ?_
  refine zt_iload_n C 0 dJ6_bitCount_0f7a4_41 rfl rfl ?_
  refine zt_iload_n C 0 dJ6_bitCount_0f7a4_42 rfl rfl ?_
  refine zt_bipush C (v := 16) dJ6_bitCount_0f7a4_43 zk_b16 ?_
  refine zt_iushr C dJ6_bitCount_0f7a4_45 ?_
  refine zt_iadd C dJ6_bitCount_0f7a4_46 ?_
  refine zt_topi (fun y9 e10 => ?_)
  replace h := za_use h e10
  refine zt_istore_n C [(0, .int y9)] dJ6_bitCount_0f7a4_47 rfl (by decide) rfl ?_
  refine zt_iload_n C 0 dJ6_bitCount_0f7a4_48 rfl rfl ?_
  refine zt_bipush C (v := 63) dJ6_bitCount_0f7a4_49 zk_b63 ?_
  refine zt_iand C dJ6_bitCount_0f7a4_51 ?_
  exact zt_ret C hr hk rfl dJ6_bitCount_0f7a4_52 h
end
theorem m_J6_bitCount_0f7a4 {l : Launch} {g : za_L → Nat} {D : va_G} {cy : Nat → ClassId} (hJ : za_J g)  {x0 : Int32} {M : za_M} {K : Int32 → za_M → Prop} (h : f_J6_bitCount_0f7a4 x0 M K) : za_Mi l g D cy yJ6_bitCount_0f7a4 cJ6_bitCount_0f7a4 1 (some .int) 1 64 [.int x0] M K := za_openi hJ (by decide) (Nat.le_of_ble_eq_true rfl) (fun p e s m args below meth c C hr hk => p_J6_bitCount_0f7a4 hJ C hr hk  h)
/-! X9_commonDivisor -/
def f_X9_commonDivisor_b21 (K : Int32 → za_M → Prop) (L2 : Int32 → za_M → Prop) (x0 : Int32) (x1 : Int32) (x2 : Int32) (M : za_M) : Prop :=
  L2 (x2 + (-1)) M
def f_X9_commonDivisor_b2 (K : Int32 → za_M → Prop) (x0 : Int32) (x1 : Int32) (L2 : Int32 → za_M → Prop) (x2 : Int32) (M : za_M) : Prop :=
  if x2 ≤ 1 then (K 1 M) else (¬ x2 = 0 ∧ (if (x0 - x0 / x2 * x2) = 0 then (¬ x2 = 0 ∧ (if (x1 - x1 / x2 * x2) = 0 then (K x2 M) else (f_X9_commonDivisor_b21 K L2 x0 x1 x2 M))) else (f_X9_commonDivisor_b21 K L2 x0 x1 x2 M)))
def f_X9_commonDivisor (x0 : Int32) (x1 : Int32) (M : za_M) (K : Int32 → za_M → Prop) : Prop :=
  ∃ n, za_lp1 (f_X9_commonDivisor_b2 K x0 x1) n x1 M
section
variable {p : Program} {l : Launch} {e : Env} {s : State} {m : MethodId} {args : Array Value} {below : List Frame} {meth : Method} {c : Code} {g : za_L → Nat} {D : va_G} {cy : Nat → ClassId} {K : Int32 → za_M → Prop}
set_option maxRecDepth 100000 in
set_option maxHeartbeats 4000000 in
theorem p_X9_commonDivisor_b21 (hJ : za_J g) (C : za_C p s m args c cX9_commonDivisor 3 RX9 g D cy) (hr : meth.sig.returnType = (some .int)) (hk : meth.locks = false) {x0 : Int32} {x1 : Int32} {x2 : Int32} {L2 : Int32 → za_M → Prop} (hL2 : ∀ (x2 : Int32) (M : za_M), L2 x2 M → zt p l e (za_rm 1 64) s m args below meth c 0 0 (MQ below (za_Qi g D cy K) args s 0 0 (za_A g)) g D cy 3 M 2 [(0, .int x0), (1, .int x1), (2, .int x2)] []) {M : za_M} (h : f_X9_commonDivisor_b21 K L2 x0 x1 x2 M) : zt p l e (za_rm 1 64) s m args below meth c 0 0 (MQ below (za_Qi g D cy K) args s 0 0 (za_A g)) g D cy 3 M 21 [(0, .int x0), (1, .int x1), (2, .int x2)] [] := by
  unfold f_X9_commonDivisor_b21 at h
  refine zt_iinc C (v := x2 + (-1)) 2 [(2, .int (x2 + (-1))), (0, .int x0), (1, .int x1)] dX9_commonDivisor_21 rfl (zk_nm1 _) (by decide) rfl ?_
  refine zt_goto C 2 dX9_commonDivisor_24 (by decide) ?_
  refine zt_sub [1, 2, 0] (lv' := [(0, .int x0), (1, .int x1), (2, .int (x2 + (-1)))]) rfl ?_
  exact hL2 _ _ h
set_option maxRecDepth 100000 in
set_option maxHeartbeats 4000000 in
theorem p_X9_commonDivisor_b2 (hJ : za_J g) (C : za_C p s m args c cX9_commonDivisor 3 RX9 g D cy) (hr : meth.sig.returnType = (some .int)) (hk : meth.locks = false) {x0 : Int32} {x1 : Int32} {L2 : Int32 → za_M → Prop} (hL2 : ∀ (x2 : Int32) (M : za_M), L2 x2 M → zt p l e (za_rm 1 64) s m args below meth c 0 0 (MQ below (za_Qi g D cy K) args s 0 0 (za_A g)) g D cy 3 M 2 [(0, .int x0), (1, .int x1), (2, .int x2)] []) : ∀ (x2 : Int32) (M : za_M), f_X9_commonDivisor_b2 K x0 x1 L2 x2 M → zt p l e (za_rm 1 64) s m args below meth c 0 0 (MQ below (za_Qi g D cy K) args s 0 0 (za_A g)) g D cy 3 M 2 [(0, .int x0), (1, .int x1), (2, .int x2)] [] := by
  intro x2 M h
  unfold f_X9_commonDivisor_b2 at h
  refine zt_iload_n C 2 dX9_commonDivisor_2 rfl rfl ?_
  refine zt_iconst C (v := 1) dX9_commonDivisor_3 zk_i1 ?_
  refine zt_icmp_le C 27 dX9_commonDivisor_4 (by decide) (fun q1 => ?_) (fun q1 => ?_)
  · replace h := za_ifp h q1
    refine zt_iconst C (v := 1) dX9_commonDivisor_27 zk_i1 ?_
    exact zt_ret C hr hk rfl dX9_commonDivisor_28 h
  · replace h := za_ifn h q1
    refine zt_iload_n C 0 dX9_commonDivisor_7 rfl rfl ?_
    refine zt_iload_n C 2 dX9_commonDivisor_8 rfl rfl ?_
    obtain ⟨g2, h⟩ := h
    refine zt_irem C dX9_commonDivisor_9 g2 ?_
    refine zt_if_ne C 21 dX9_commonDivisor_10 (by decide) (fun q3 => ?_) (fun q3 => ?_)
    · replace h := za_ifn h q3
      exact p_X9_commonDivisor_b21 hJ C hr hk hL2 h
    · replace h := za_ifp h q3
      refine zt_iload_n C 1 dX9_commonDivisor_13 rfl rfl ?_
      refine zt_iload_n C 2 dX9_commonDivisor_14 rfl rfl ?_
      obtain ⟨g4, h⟩ := h
      refine zt_irem C dX9_commonDivisor_15 g4 ?_
      refine zt_if_ne C 21 dX9_commonDivisor_16 (by decide) (fun q5 => ?_) (fun q5 => ?_)
      · replace h := za_ifn h q5
        exact p_X9_commonDivisor_b21 hJ C hr hk hL2 h
      · replace h := za_ifp h q5
        refine zt_iload_n C 2 dX9_commonDivisor_19 rfl rfl ?_
        exact zt_ret C hr hk rfl dX9_commonDivisor_20 h
theorem p_X9_commonDivisor_b2_in (hJ : za_J g) (C : za_C p s m args c cX9_commonDivisor 3 RX9 g D cy) (hr : meth.sig.returnType = (some .int)) (hk : meth.locks = false) {x0 : Int32} {x1 : Int32} {n : Nat} {x2 : Int32} {M : za_M} (h : za_lp1 (f_X9_commonDivisor_b2 K x0 x1) n x2 M) : zt p l e (za_rm 1 64) s m args below meth c 0 0 (MQ below (za_Qi g D cy K) args s 0 0 (za_A g)) g D cy 3 M 2 [(0, .int x0), (1, .int x1), (2, .int x2)] [] := za_lp1_run (Z := fun x2 M => zt p l e (za_rm 1 64) s m args below meth c 0 0 (MQ below (za_Qi g D cy K) args s 0 0 (za_A g)) g D cy 3 M 2 [(0, .int x0), (1, .int x1), (2, .int x2)] []) (fun L hL => p_X9_commonDivisor_b2 hJ C hr hk  hL) n x2 M h
set_option maxRecDepth 100000 in
set_option maxHeartbeats 4000000 in
theorem p_X9_commonDivisor (hJ : za_J g) (C : za_C p s m args c cX9_commonDivisor 3 RX9 g D cy) (hr : meth.sig.returnType = (some .int)) (hk : meth.locks = false) {x0 : Int32} {x1 : Int32} {M : za_M} (h : f_X9_commonDivisor x0 x1 M K) : zt p l e (za_rm 1 64) s m args below meth c 0 0 (MQ below (za_Qi g D cy K) args s 0 0 (za_A g)) g D cy 3 M 0 [(0, .int x0), (1, .int x1)] [] := by
  unfold f_X9_commonDivisor at h
  refine zt_iload_n C 1 dX9_commonDivisor_0 rfl rfl ?_
  refine zt_istore_n C [(2, .int x1), (0, .int x0), (1, .int x1)] dX9_commonDivisor_1 rfl (by decide) rfl ?_
  refine zt_sub [1, 2, 0] (lv' := [(0, .int x0), (1, .int x1), (2, .int x1)]) rfl ?_
  obtain ⟨n, h⟩ := h
  exact p_X9_commonDivisor_b2_in hJ C hr hk  h
end
theorem m_X9_commonDivisor {l : Launch} {g : za_L → Nat} {D : va_G} {cy : Nat → ClassId} (hJ : za_J g)  {x0 : Int32} {x1 : Int32} {M : za_M} {K : Int32 → za_M → Prop} (h : f_X9_commonDivisor x0 x1 M K) : za_Mi l g D cy yX9_commonDivisor cX9_commonDivisor 3 (some .int) 1 64 [.int x0, .int x1] M K := za_openi hJ (by decide) (Nat.le_of_ble_eq_true rfl) (fun p e s m args below meth c C hr hk => p_X9_commonDivisor hJ C hr hk  h)
/-! X9_odds -/
def f_X9_odds (x1 : Int32) (x2 : Int32) (x3 : Int32) (M : za_M) (K : Int32 → za_M → Prop) : Prop :=
  f_X9_isMix x1 M (fun r2 M1 => if r2 = 0 then (f_X9_fail 1 M1 (fun r5 M4 => K r5 M4)) else (f_X9_isColour x2 M1 (fun r7 M6 => if r7 = 0 then (f_X9_fail 1 M6 (fun r10 M9 => K r10 M9)) else (f_X9_within x3 0 1 M6 (fun r12 M11 => if r12 = 0 then (f_X9_fail 1 M11 (fun r24 M23 => K r24 M23)) else (f_X9_heatsGiving x1 x2 M11 (fun r15 M14 => f_J6_bitCount_0f7a4 r15 M14 (fun r17 M16 => f_X9_commonDivisor r17 10 M16 (fun r19 M18 => if x3 = 0 then (¬ r19 = 0 ∧ (K (r17 / r19) M18)) else (¬ r19 = 0 ∧ (K (10 / r19) M18)))))))))))
section
variable {p : Program} {l : Launch} {e : Env} {s : State} {m : MethodId} {args : Array Value} {below : List Frame} {meth : Method} {c : Code} {g : za_L → Nat} {D : va_G} {cy : Nat → ClassId} {K : Int32 → za_M → Prop}
set_option maxRecDepth 100000 in
set_option maxHeartbeats 4000000 in
theorem p_X9_odds (hJ : za_J g) (C : za_C p s m args c cX9_odds 6 RX9 g D cy) (hr : meth.sig.returnType = (some .int)) (hk : meth.locks = false) {x1 : Int32} {x2 : Int32} {x3 : Int32} {M : za_M} (h : f_X9_odds x1 x2 x3 M K) : zt p l e (za_rm 7 210) s m args below meth c 0 0 (MQ below (za_Qi g D cy K) args s 0 0 (za_A g)) g D cy 6 M 0 [(0, .ref (g (0, 0, 0))), (1, .int x1), (2, .int x2), (3, .int x3)] [] := by
  unfold f_X9_odds at h
  refine zt_aload_n C 0 dX9_odds_0 rfl rfl ?_
  refine zt_iload_n C 1 dX9_odds_1 rfl rfl ?_
  refine zt_cVi C [.int x1] (m_X9_isMix hJ  h) (za_mem (j := 0) rfl (by decide) (by decide)) (za_E_0 g cy M 0 0) rfl py_X9_isMix pv_X9_215 (Nat.le_of_ble_eq_true rfl) ⟨Nat.le_of_ble_eq_true rfl, Nat.le_of_ble_eq_true rfl⟩ ⟨Nat.zero_le _, Nat.zero_le _⟩ dX9_odds_2 rfl (fun r2 M1 h => ?_)
  refine zt_if_eq C 24 dX9_odds_5 (by decide) (fun q3 => ?_) (fun q3 => ?_)
  · replace h := za_ifp h q3
    refine zt_aload_n C 0 dX9_odds_24 rfl rfl ?_
    refine zt_iconst C (v := 1) dX9_odds_25 zk_i1 ?_
    refine zt_cVi C [.int 1] (m_X9_fail hJ  h) (za_mem (j := 0) rfl (by decide) (by decide)) (za_E_0 g cy M1 0 0) rfl py_X9_fail pv_X9_64 (Nat.le_of_ble_eq_true rfl) ⟨Nat.le_of_ble_eq_true rfl, Nat.le_of_ble_eq_true rfl⟩ ⟨Nat.zero_le _, Nat.zero_le _⟩ dX9_odds_26 rfl (fun r5 M4 h => ?_)
    exact zt_ret C hr hk rfl dX9_odds_29 h
  · replace h := za_ifn h q3
    refine zt_iload_n C 2 dX9_odds_8 rfl rfl ?_
    refine zt_cSi C [.int x2] (m_X9_isColour hJ  h) py_X9_isColour ps_X9_245 (Nat.le_of_ble_eq_true rfl) ⟨Nat.le_of_ble_eq_true rfl, Nat.le_of_ble_eq_true rfl⟩ ⟨Nat.zero_le _, Nat.zero_le _⟩ dX9_odds_9 rfl (fun r7 M6 h => ?_)
    refine zt_if_eq C 24 dX9_odds_12 (by decide) (fun q8 => ?_) (fun q8 => ?_)
    · replace h := za_ifp h q8
      refine zt_aload_n C 0 dX9_odds_24 rfl rfl ?_
      refine zt_iconst C (v := 1) dX9_odds_25 zk_i1 ?_
      refine zt_cVi C [.int 1] (m_X9_fail hJ  h) (za_mem (j := 0) rfl (by decide) (by decide)) (za_E_0 g cy M6 0 0) rfl py_X9_fail pv_X9_64 (Nat.le_of_ble_eq_true rfl) ⟨Nat.le_of_ble_eq_true rfl, Nat.le_of_ble_eq_true rfl⟩ ⟨Nat.zero_le _, Nat.zero_le _⟩ dX9_odds_26 rfl (fun r10 M9 h => ?_)
      exact zt_ret C hr hk rfl dX9_odds_29 h
    · replace h := za_ifn h q8
      refine zt_iload_n C 3 dX9_odds_15 rfl rfl ?_
      refine zt_iconst C (v := 0) dX9_odds_16 zk_i0 ?_
      refine zt_iconst C (v := 1) dX9_odds_17 zk_i1 ?_
      refine zt_cSi C [.int x3, .int 0, .int 1] (m_X9_within hJ  h) py_X9_within ps_X9_100 (Nat.le_of_ble_eq_true rfl) ⟨Nat.le_of_ble_eq_true rfl, Nat.le_of_ble_eq_true rfl⟩ ⟨Nat.zero_le _, Nat.zero_le _⟩ dX9_odds_18 rfl (fun r12 M11 h => ?_)
      refine zt_if_ne C 30 dX9_odds_21 (by decide) (fun q13 => ?_) (fun q13 => ?_)
      · replace h := za_ifn h q13
        refine zt_aload_n C 0 dX9_odds_30 rfl rfl ?_
        refine zt_iload_n C 1 dX9_odds_31 rfl rfl ?_
        refine zt_iload_n C 2 dX9_odds_32 rfl rfl ?_
        refine zt_cVi C [.int x1, .int x2] (m_X9_heatsGiving hJ  h) (za_mem (j := 0) rfl (by decide) (by decide)) (za_E_0 g cy M11 0 0) rfl py_X9_heatsGiving pv_X9_255 (Nat.le_of_ble_eq_true rfl) ⟨Nat.le_of_ble_eq_true rfl, Nat.le_of_ble_eq_true rfl⟩ ⟨Nat.zero_le _, Nat.zero_le _⟩ dX9_odds_33 rfl (fun r15 M14 h => ?_)
        refine zt_cSi C [.int r15] (m_J6_bitCount_0f7a4 hJ  h) py_J6_bitCount_0f7a4 ps_X9_282 (Nat.le_of_ble_eq_true rfl) ⟨Nat.le_of_ble_eq_true rfl, Nat.le_of_ble_eq_true rfl⟩ ⟨Nat.zero_le _, Nat.zero_le _⟩ dX9_odds_36 rfl (fun r17 M16 h => ?_)
        refine zt_istore C [(4, .int r17), (0, .ref (g (0, 0, 0))), (1, .int x1), (2, .int x2), (3, .int x3)] dX9_odds_39 (by decide) rfl ?_
        refine zt_iload C 0 dX9_odds_41 rfl ?_
        refine zt_bipush C (v := 10) dX9_odds_43 zk_b10 ?_
        refine zt_cSi C [.int r17, .int 10] (m_X9_commonDivisor hJ  h) py_X9_commonDivisor ps_X9_287 (Nat.le_of_ble_eq_true rfl) ⟨Nat.le_of_ble_eq_true rfl, Nat.le_of_ble_eq_true rfl⟩ ⟨Nat.zero_le _, Nat.zero_le _⟩ dX9_odds_45 rfl (fun r19 M18 h => ?_)
        refine zt_istore C [(5, .int r19), (4, .int r17), (0, .ref (g (0, 0, 0))), (1, .int x1), (2, .int x2), (3, .int x3)] dX9_odds_48 (by decide) rfl ?_
        refine zt_iload_n C 5 dX9_odds_50 rfl rfl ?_
        refine zt_if_ne C 62 dX9_odds_51 (by decide) (fun q20 => ?_) (fun q20 => ?_)
        · replace h := za_ifn h q20
          refine zt_bipush C (v := 10) dX9_odds_62 zk_b10 ?_
          refine zt_iload C 0 dX9_odds_64 rfl ?_
          obtain ⟨g21, h⟩ := h
          refine zt_idiv C dX9_odds_66 g21 ?_
          exact zt_ret C hr hk rfl dX9_odds_67 h
        · replace h := za_ifp h q20
          refine zt_iload C 1 dX9_odds_54 rfl ?_
          refine zt_iload C 0 dX9_odds_56 rfl ?_
          obtain ⟨g22, h⟩ := h
          refine zt_idiv C dX9_odds_58 g22 ?_
          refine zt_goto C 67 dX9_odds_59 (by decide) ?_
          exact zt_ret C hr hk rfl dX9_odds_67 h
      · replace h := za_ifp h q13
        refine zt_aload_n C 0 dX9_odds_24 rfl rfl ?_
        refine zt_iconst C (v := 1) dX9_odds_25 zk_i1 ?_
        refine zt_cVi C [.int 1] (m_X9_fail hJ  h) (za_mem (j := 0) rfl (by decide) (by decide)) (za_E_0 g cy M11 0 0) rfl py_X9_fail pv_X9_64 (Nat.le_of_ble_eq_true rfl) ⟨Nat.le_of_ble_eq_true rfl, Nat.le_of_ble_eq_true rfl⟩ ⟨Nat.zero_le _, Nat.zero_le _⟩ dX9_odds_26 rfl (fun r24 M23 h => ?_)
        exact zt_ret C hr hk rfl dX9_odds_29 h
end
theorem m_X9_odds {l : Launch} {g : za_L → Nat} {D : va_G} {cy : Nat → ClassId} (hJ : za_J g)  {x1 : Int32} {x2 : Int32} {x3 : Int32} {M : za_M} {K : Int32 → za_M → Prop} (h : f_X9_odds x1 x2 x3 M K) : za_Mi l g D cy yX9_odds cX9_odds 6 (some .int) 7 210 [.ref (g (0, 0, 0)), .int x1, .int x2, .int x3] M K := za_openi hJ (by decide) (Nat.le_of_ble_eq_true rfl) (fun p e s m args below meth c C hr hk => p_X9_odds hJ C hr hk  h)
/-! X9_seed -/
def f_X9_seed (x1 : Int32) (M : za_M) (K : Int32 → za_M → Prop) : Prop :=
  za_let (M.1 (1, 0, 0) 6) fun y1 => za_let (za_up M (1, 0, 0) 6 x1) fun M3 => K y1 M3
section
variable {p : Program} {l : Launch} {e : Env} {s : State} {m : MethodId} {args : Array Value} {below : List Frame} {meth : Method} {c : Code} {g : za_L → Nat} {D : va_G} {cy : Nat → ClassId} {K : Int32 → za_M → Prop}
set_option maxRecDepth 100000 in
set_option maxHeartbeats 4000000 in
theorem p_X9_seed (hJ : za_J g) (C : za_C p s m args c cX9_seed 3 RX9 g D cy) (hr : meth.sig.returnType = (some .int)) (hk : meth.locks = false) {x1 : Int32} {M : za_M} (h : f_X9_seed x1 M K) : zt p l e (za_rm 1 64) s m args below meth c 0 0 (MQ below (za_Qi g D cy K) args s 0 0 (za_A g)) g D cy 3 M 0 [(0, .ref (g (0, 0, 0))), (1, .int x1)] [] := by
  unfold f_X9_seed at h
  refine zt_aload_n C 0 dX9_seed_0 rfl rfl ?_
  refine zt_get C (za_mem (j := 0) rfl (by decide) (by decide)) pf_X9_10 (za_E_0 g cy M 0 0) rfl dX9_seed_1 ?_
  refine zt_get C (za_mem (j := 1) rfl (by decide) (by decide)) pf_X9_290 (za_E_1 g cy M 0 0) rfl dX9_seed_4 ?_
  refine zt_topi (fun y1 e2 => ?_)
  replace h := za_use h e2
  refine zt_istore_n C [(2, .int y1), (0, .ref (g (0, 0, 0))), (1, .int x1)] dX9_seed_7 rfl (by decide) rfl ?_
  refine zt_aload_n C 1 dX9_seed_8 rfl rfl ?_
  refine zt_get C (za_mem (j := 0) rfl (by decide) (by decide)) pf_X9_10 (za_E_0 g cy M 0 0) rfl dX9_seed_9 ?_
  refine zt_iload_n C 2 dX9_seed_12 rfl rfl ?_
  refine zt_put C (za_mem (j := 1) rfl (by decide) (by decide)) pf_X9_290 pt_X7_6 rfl rfl (za_E_1 g cy M 0 0) rfl (Nat.le_of_ble_eq_true rfl) dX9_seed_13 ?_
  refine zt_topM (fun M3 e4 => ?_)
  replace h := za_use h e4
  refine zt_iload_n C 0 dX9_seed_16 rfl rfl ?_
  exact zt_ret C hr hk rfl dX9_seed_17 h
end
theorem m_X9_seed {l : Launch} {g : za_L → Nat} {D : va_G} {cy : Nat → ClassId} (hJ : za_J g)  {x1 : Int32} {M : za_M} {K : Int32 → za_M → Prop} (h : f_X9_seed x1 M K) : za_Mi l g D cy yX9_seed cX9_seed 3 (some .int) 1 64 [.ref (g (0, 0, 0)), .int x1] M K := za_openi hJ (by decide) (Nat.le_of_ble_eq_true rfl) (fun p e s m args below meth c C hr hk => p_X9_seed hJ C hr hk  h)

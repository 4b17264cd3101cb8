/-! X10_isMix -/
def f_X10_isMix_b37 (K : Int32 → za_M → Prop) (L15 : Int32 → Int32 → za_M → Prop) (x1 : Int32) (x3 : Int32) (s0 : Int32) (M : za_M) : Prop :=
  L15 s0 (x3 + 1) M
def f_X10_isMix_b36 (K : Int32 → za_M → Prop) (L15 : Int32 → Int32 → za_M → Prop) (x1 : Int32) (x3 : Int32) (M : za_M) : Prop :=
  f_X10_isMix_b37 K L15 x1 x3 0 M
def f_X10_isMix_b15 (K : Int32 → za_M → Prop) (x1 : Int32) (L15 : Int32 → Int32 → za_M → Prop) (x2 : Int32) (x3 : Int32) (M : za_M) : Prop :=
  if 5 ≤ x3 then (za_B x2 ∧ (K x2 M)) else (if x2 = 0 then (f_X10_isMix_b36 K L15 x1 x3 M) else (f_X10_digit x1 x3 M (fun r5 M4 => if r5 = 0 then (f_X10_isMix_b37 K L15 x1 x3 1 M4) else (f_X10_isMix_b36 K L15 x1 x3 M4))))
def f_X10_isMix (x1 : Int32) (M : za_M) (K : Int32 → za_M → Prop) : Prop :=
  f_X10_within x1 0 99999 M (fun r8 M7 => vp_in 1 279 ∧ (za_let (M7.1 (28, 0, 0) (Int32.toNatClampNeg 1)) fun y10 => ∃ n, za_lp2 (f_X10_isMix_b15 K x1) n r8 y10 M7))
section
variable {p : Program} {l : Launch} {e : Env} {s : State} {m : MethodId} {args : Array Value} {below : List Frame} {meth : Method} {c : Code} {g : za_L → Nat} {D : va_G} {cy : Nat → ClassId} {K : Int32 → za_M → Prop}
set_option maxRecDepth 100000 in
set_option maxHeartbeats 4000000 in
theorem p_X10_isMix_b37 (hJ : za_J g) (C : za_C p s m args c cX10_isMix 4 RX10 g D cy) (hr : meth.sig.returnType = (some .boolean)) (hk : meth.locks = false) {x1 : Int32} {x3 : Int32} {s0 : Int32} {L15 : Int32 → Int32 → za_M → Prop} (hL15 : ∀ (x2 : Int32) (x3 : Int32) (M : za_M), L15 x2 x3 M → zt p l e (za_rm 2 87) s m args below meth c 0 0 (MQ below (za_Qi g D cy K) args s 0 0 (za_A g)) g D cy 4 M 15 [(1, .int x1), (2, .int x2), (3, .int x3)] []) {M : za_M} (h : f_X10_isMix_b37 K L15 x1 x3 s0 M) : zt p l e (za_rm 2 87) s m args below meth c 0 0 (MQ below (za_Qi g D cy K) args s 0 0 (za_A g)) g D cy 4 M 37 [(1, .int x1), (3, .int x3)] [.int s0] := by
  unfold f_X10_isMix_b37 at h
  refine zt_istore_n C [(2, .int s0), (1, .int x1), (3, .int x3)] dX10_isMix_37 rfl (by decide) rfl ?_
  refine zt_iinc C (v := x3 + 1) 2 [(3, .int (x3 + 1)), (2, .int s0), (1, .int x1)] dX10_isMix_38 rfl (zk_n1 _) (by decide) rfl ?_
  refine zt_goto C 15 dX10_isMix_41 (by decide) ?_
  refine zt_sub [2, 1, 0] (lv' := [(1, .int x1), (2, .int s0), (3, .int (x3 + 1))]) rfl ?_
  exact hL15 _ _ _ h
set_option maxRecDepth 100000 in
set_option maxHeartbeats 4000000 in
theorem p_X10_isMix_b36 (hJ : za_J g) (C : za_C p s m args c cX10_isMix 4 RX10 g D cy) (hr : meth.sig.returnType = (some .boolean)) (hk : meth.locks = false) {x1 : Int32} {x3 : Int32} {L15 : Int32 → Int32 → za_M → Prop} (hL15 : ∀ (x2 : Int32) (x3 : Int32) (M : za_M), L15 x2 x3 M → zt p l e (za_rm 2 87) s m args below meth c 0 0 (MQ below (za_Qi g D cy K) args s 0 0 (za_A g)) g D cy 4 M 15 [(1, .int x1), (2, .int x2), (3, .int x3)] []) {M : za_M} (h : f_X10_isMix_b36 K L15 x1 x3 M) : zt p l e (za_rm 2 87) s m args below meth c 0 0 (MQ below (za_Qi g D cy K) args s 0 0 (za_A g)) g D cy 4 M 36 [(1, .int x1), (3, .int x3)] [] := by
  unfold f_X10_isMix_b36 at h
  refine zt_iconst C (v := 0) dX10_isMix_36 zk_i0 ?_
  exact p_X10_isMix_b37 hJ C hr hk hL15 h
set_option maxRecDepth 100000 in
set_option maxHeartbeats 4000000 in
theorem p_X10_isMix_b15 (hJ : za_J g) (C : za_C p s m args c cX10_isMix 4 RX10 g D cy) (hr : meth.sig.returnType = (some .boolean)) (hk : meth.locks = false) {x1 : Int32} {L15 : Int32 → Int32 → za_M → Prop} (hL15 : ∀ (x2 : Int32) (x3 : Int32) (M : za_M), L15 x2 x3 M → zt p l e (za_rm 2 87) s m args below meth c 0 0 (MQ below (za_Qi g D cy K) args s 0 0 (za_A g)) g D cy 4 M 15 [(1, .int x1), (2, .int x2), (3, .int x3)] []) : ∀ (x2 : Int32) (x3 : Int32) (M : za_M), f_X10_isMix_b15 K x1 L15 x2 x3 M → zt p l e (za_rm 2 87) s m args below meth c 0 0 (MQ below (za_Qi g D cy K) args s 0 0 (za_A g)) g D cy 4 M 15 [(1, .int x1), (2, .int x2), (3, .int x3)] [] := by
  intro x2 x3 M h
  unfold f_X10_isMix_b15 at h
  refine zt_iload_n C 2 dX10_isMix_15 rfl rfl ?_
  refine zt_iconst C (v := 5) dX10_isMix_16 zk_i5 ?_
  refine zt_icmp_ge C 44 dX10_isMix_17 (by decide) (fun q1 => ?_) (fun q1 => ?_)
  · replace h := za_ifp h q1
    refine zt_iload_n C 1 dX10_isMix_44 rfl rfl ?_
    obtain ⟨g2, h⟩ := h
    exact zt_ret C hr hk (za_Bn g2) dX10_isMix_45 h
  · replace h := za_ifn h q1
    refine zt_iload_n C 1 dX10_isMix_20 rfl rfl ?_
    refine zt_if_eq C 36 dX10_isMix_21 (by decide) (fun q3 => ?_) (fun q3 => ?_)
    · replace h := za_ifp h q3
      refine zt_sub [0, 2] (lv' := [(1, .int x1), (3, .int x3)]) rfl ?_
      exact p_X10_isMix_b36 hJ C hr hk hL15 h
    · replace h := za_ifn h q3
      refine zt_iload_n C 0 dX10_isMix_24 rfl rfl ?_
      refine zt_iload_n C 2 dX10_isMix_25 rfl rfl ?_
      refine zt_cSi C [.int x1, .int x3] (m_X10_digit hJ  h) py_X10_digit ps_X10_204 (Nat.le_of_ble_eq_true rfl) ⟨Nat.le_of_ble_eq_true rfl, Nat.le_of_ble_eq_true rfl⟩ ⟨Nat.zero_le _, Nat.zero_le _⟩ dX10_isMix_26 rfl (fun r5 M4 h => ?_)
      refine zt_if_ne C 36 dX10_isMix_29 (by decide) (fun q6 => ?_) (fun q6 => ?_)
      · replace h := za_ifn h q6
        refine zt_sub [0, 2] (lv' := [(1, .int x1), (3, .int x3)]) rfl ?_
        exact p_X10_isMix_b36 hJ C hr hk hL15 h
      · replace h := za_ifp h q6
        refine zt_iconst C (v := 1) dX10_isMix_32 zk_i1 ?_
        refine zt_goto C 37 dX10_isMix_33 (by decide) ?_
        refine zt_sub [0, 2] (lv' := [(1, .int x1), (3, .int x3)]) rfl ?_
        exact p_X10_isMix_b37 hJ C hr hk hL15 h
theorem p_X10_isMix_b15_in (hJ : za_J g) (C : za_C p s m args c cX10_isMix 4 RX10 g D cy) (hr : meth.sig.returnType = (some .boolean)) (hk : meth.locks = false) {x1 : Int32} {n : Nat} {x2 : Int32} {x3 : Int32} {M : za_M} (h : za_lp2 (f_X10_isMix_b15 K x1) n x2 x3 M) : zt p l e (za_rm 2 87) s m args below meth c 0 0 (MQ below (za_Qi g D cy K) args s 0 0 (za_A g)) g D cy 4 M 15 [(1, .int x1), (2, .int x2), (3, .int x3)] [] := za_lp2_run (Z := fun x2 x3 M => zt p l e (za_rm 2 87) s m args below meth c 0 0 (MQ below (za_Qi g D cy K) args s 0 0 (za_A g)) g D cy 4 M 15 [(1, .int x1), (2, .int x2), (3, .int x3)] []) (fun L hL => p_X10_isMix_b15 hJ C hr hk  hL) n x2 x3 M h
set_option maxRecDepth 100000 in
set_option maxHeartbeats 4000000 in
theorem p_X10_isMix (hJ : za_J g) (C : za_C p s m args c cX10_isMix 4 RX10 g D cy) (hr : meth.sig.returnType = (some .boolean)) (hk : meth.locks = false) {x1 : Int32} {M : za_M} (h : f_X10_isMix x1 M K) : zt p l e (za_rm 2 87) s m args below meth c 0 0 (MQ below (za_Qi g D cy K) args s 0 0 (za_A g)) g D cy 4 M 0 [(0, .ref (g (27, 0, 0))), (1, .int x1)] [] := by
  unfold f_X10_isMix at h
  refine zt_iload_n C 1 dX10_isMix_0 rfl rfl ?_
  refine zt_iconst C (v := 0) dX10_isMix_1 zk_i0 ?_
  refine zt_ldc C w_1193 dX10_isMix_2 ?_
  refine zt_cSi C [.int x1, .int 0, .int 99999] (m_X10_within hJ  h) py_X10_within ps_X10_70 (Nat.le_of_ble_eq_true rfl) ⟨Nat.le_of_ble_eq_true rfl, Nat.le_of_ble_eq_true rfl⟩ ⟨Nat.zero_le _, Nat.zero_le _⟩ dX10_isMix_4 rfl (fun r8 M7 h => ?_)
  refine zt_istore_n C [(2, .int r8), (0, .ref (g (27, 0, 0))), (1, .int x1)] dX10_isMix_7 rfl (by decide) rfl ?_
  refine zt_aload_n C 1 dX10_isMix_8 rfl rfl ?_
  refine zt_get C (za_mem (j := 27) rfl (by decide) (by decide)) pf_X10_9 (za_E_27 g cy M7 0 0) rfl dX10_isMix_9 ?_
  refine zt_iconst C (v := 1) dX10_isMix_12 zk_i1 ?_
  obtain ⟨g9, h⟩ := h
  refine zt_iald C (za_mem (j := 28) rfl (by decide) (by decide)) (fun W9 => za_E_28 g cy W9 0 0) g9 dX10_isMix_13 ?_
  refine zt_topi (fun y10 e11 => ?_)
  replace h := za_use h e11
  refine zt_istore_n C [(3, .int y10), (2, .int r8), (0, .ref (g (27, 0, 0))), (1, .int x1)] dX10_isMix_14 rfl (by decide) rfl ?_
  refine zt_sub [3, 1, 0] (lv' := [(1, .int x1), (2, .int r8), (3, .int y10)]) rfl ?_
  obtain ⟨n, h⟩ := h
  exact p_X10_isMix_b15_in hJ C hr hk  h
end
theorem m_X10_isMix {l : Launch} {g : za_L → Nat} {D : va_G} {cy : Nat → ClassId} (hJ : za_J g)  {x1 : Int32} {M : za_M} {K : Int32 → za_M → Prop} (h : f_X10_isMix x1 M K) : za_Mi l g D cy yX10_isMix cX10_isMix 4 (some .boolean) 2 87 [.ref (g (27, 0, 0)), .int x1] M K := za_openi hJ (by decide) (Nat.le_of_ble_eq_true rfl) (fun p e s m args below meth c C hr hk => p_X10_isMix hJ C hr hk  h)
/-! X10_isForbidden -/
def f_X10_isForbidden_b85 (K : Int32 → za_M → Prop) (L5 : Int32 → Int32 → za_M → Prop) (x1 : Int32) (x2 : Int32) (x4 : Int32) (s0 : Int32) (M : za_M) : Prop :=
  L5 s0 (x4 + 1) M
def f_X10_isForbidden_b80 (K : Int32 → za_M → Prop) (L5 : Int32 → Int32 → za_M → Prop) (x1 : Int32) (x2 : Int32) (x4 : Int32) (M : za_M) : Prop :=
  f_X10_isForbidden_b85 K L5 x1 x2 x4 1 M
def f_X10_isForbidden_b84 (K : Int32 → za_M → Prop) (L5 : Int32 → Int32 → za_M → Prop) (x1 : Int32) (x2 : Int32) (x4 : Int32) (M : za_M) : Prop :=
  f_X10_isForbidden_b85 K L5 x1 x2 x4 0 M
def f_X10_isForbidden_b60 (K : Int32 → za_M → Prop) (L5 : Int32 → Int32 → za_M → Prop) (x1 : Int32) (x2 : Int32) (x3 : Int32) (x4 : Int32) (s0 : Int32) (M : za_M) : Prop :=
  if x3 = 0 then (if s0 = 0 then (f_X10_isForbidden_b84 K L5 x1 x2 x4 M) else (f_X10_digit x1 x4 M (fun r4 M3 => if r4 ≤ 0 then (f_X10_isForbidden_b84 K L5 x1 x2 x4 M3) else (f_X10_isForbidden_b80 K L5 x1 x2 x4 M3)))) else (f_X10_isForbidden_b80 K L5 x1 x2 x4 M)
def f_X10_isForbidden_b59 (K : Int32 → za_M → Prop) (L5 : Int32 → Int32 → za_M → Prop) (x1 : Int32) (x2 : Int32) (x3 : Int32) (x4 : Int32) (M : za_M) : Prop :=
  f_X10_isForbidden_b60 K L5 x1 x2 x3 x4 0 M
def f_X10_isForbidden_b55 (K : Int32 → za_M → Prop) (L5 : Int32 → Int32 → za_M → Prop) (x1 : Int32) (x2 : Int32) (x3 : Int32) (x4 : Int32) (M : za_M) : Prop :=
  f_X10_isForbidden_b60 K L5 x1 x2 x3 x4 1 M
def f_X10_isForbidden_b33 (K : Int32 → za_M → Prop) (L5 : Int32 → Int32 → za_M → Prop) (x1 : Int32) (x2 : Int32) (x3 : Int32) (x4 : Int32) (M : za_M) : Prop :=
  f_X10_ashIs x4 0 M (fun r7 M6 => if r7 = 6 then (f_X10_ashIs x4 1 M6 (fun r10 M9 => if r10 = 0 then (f_X10_isForbidden_b55 K L5 x1 x2 x3 x4 M9) else (f_X10_isForbidden_b59 K L5 x1 x2 x3 x4 M9))) else (f_X10_isForbidden_b59 K L5 x1 x2 x3 x4 M6))
def f_X10_isForbidden_b5 (K : Int32 → za_M → Prop) (x1 : Int32) (x2 : Int32) (L5 : Int32 → Int32 → za_M → Prop) (x3 : Int32) (x4 : Int32) (M : za_M) : Prop :=
  vp_in 1 279 ∧ (if (M.1 (28, 0, 0) (Int32.toNatClampNeg 1)) ≤ x4 then (za_B x3 ∧ (K x3 M)) else (f_X10_ashIs x4 0 M (fun r16 M15 => if r16 = 4 then (if 7 < x2 then (f_X10_isForbidden_b55 K L5 x1 x2 x3 x4 M15) else (f_X10_isForbidden_b33 K L5 x1 x2 x3 x4 M15)) else (f_X10_isForbidden_b33 K L5 x1 x2 x3 x4 M15))))
def f_X10_isForbidden (x1 : Int32) (x2 : Int32) (M : za_M) (K : Int32 → za_M → Prop) : Prop :=
  ∃ n, za_lp2 (f_X10_isForbidden_b5 K x1 x2) n 0 0 M
section
variable {p : Program} {l : Launch} {e : Env} {s : State} {m : MethodId} {args : Array Value} {below : List Frame} {meth : Method} {c : Code} {g : za_L → Nat} {D : va_G} {cy : Nat → ClassId} {K : Int32 → za_M → Prop}
set_option maxRecDepth 100000 in
set_option maxHeartbeats 4000000 in
theorem p_X10_isForbidden_b85 (hJ : za_J g) (C : za_C p s m args c cX10_isForbidden 6 RX10 g D cy) (hr : meth.sig.returnType = (some .boolean)) (hk : meth.locks = false) {x1 : Int32} {x2 : Int32} {x4 : Int32} {s0 : Int32} {L5 : Int32 → Int32 → za_M → Prop} (hL5 : ∀ (x3 : Int32) (x4 : Int32) (M : za_M), L5 x3 x4 M → zt p l e (za_rm 3 107) s m args below meth c 0 0 (MQ below (za_Qi g D cy K) args s 0 0 (za_A g)) g D cy 6 M 5 [(0, .ref (g (27, 0, 0))), (1, .int x1), (2, .int x2), (3, .int x3), (4, .int x4)] []) {M : za_M} (h : f_X10_isForbidden_b85 K L5 x1 x2 x4 s0 M) : zt p l e (za_rm 3 107) s m args below meth c 0 0 (MQ below (za_Qi g D cy K) args s 0 0 (za_A g)) g D cy 6 M 85 [(0, .ref (g (27, 0, 0))), (1, .int x1), (2, .int x2), (4, .int x4)] [.int s0] := by
  unfold f_X10_isForbidden_b85 at h
  refine zt_istore_n C [(3, .int s0), (0, .ref (g (27, 0, 0))), (1, .int x1), (2, .int x2), (4, .int x4)] dX10_isForbidden_85 rfl (by decide) rfl ?_
  refine zt_iinc C (v := x4 + 1) 4 [(4, .int (x4 + 1)), (3, .int s0), (0, .ref (g (27, 0, 0))), (1, .int x1), (2, .int x2)] dX10_isForbidden_86 rfl (zk_n1 _) (by decide) rfl ?_
  refine zt_goto C 5 dX10_isForbidden_89 (by decide) ?_
  refine zt_sub [2, 3, 4, 1, 0] (lv' := [(0, .ref (g (27, 0, 0))), (1, .int x1), (2, .int x2), (3, .int s0), (4, .int (x4 + 1))]) rfl ?_
  exact hL5 _ _ _ h
set_option maxRecDepth 100000 in
set_option maxHeartbeats 4000000 in
theorem p_X10_isForbidden_b80 (hJ : za_J g) (C : za_C p s m args c cX10_isForbidden 6 RX10 g D cy) (hr : meth.sig.returnType = (some .boolean)) (hk : meth.locks = false) {x1 : Int32} {x2 : Int32} {x4 : Int32} {L5 : Int32 → Int32 → za_M → Prop} (hL5 : ∀ (x3 : Int32) (x4 : Int32) (M : za_M), L5 x3 x4 M → zt p l e (za_rm 3 107) s m args below meth c 0 0 (MQ below (za_Qi g D cy K) args s 0 0 (za_A g)) g D cy 6 M 5 [(0, .ref (g (27, 0, 0))), (1, .int x1), (2, .int x2), (3, .int x3), (4, .int x4)] []) {M : za_M} (h : f_X10_isForbidden_b80 K L5 x1 x2 x4 M) : zt p l e (za_rm 3 107) s m args below meth c 0 0 (MQ below (za_Qi g D cy K) args s 0 0 (za_A g)) g D cy 6 M 80 [(0, .ref (g (27, 0, 0))), (1, .int x1), (2, .int x2), (4, .int x4)] [] := by
  unfold f_X10_isForbidden_b80 at h
  refine zt_iconst C (v := 1) dX10_isForbidden_80 zk_i1 ?_
  refine zt_goto C 85 dX10_isForbidden_81 (by decide) ?_
  exact p_X10_isForbidden_b85 hJ C hr hk hL5 h
set_option maxRecDepth 100000 in
set_option maxHeartbeats 4000000 in
theorem p_X10_isForbidden_b84 (hJ : za_J g) (C : za_C p s m args c cX10_isForbidden 6 RX10 g D cy) (hr : meth.sig.returnType = (some .boolean)) (hk : meth.locks = false) {x1 : Int32} {x2 : Int32} {x4 : Int32} {L5 : Int32 → Int32 → za_M → Prop} (hL5 : ∀ (x3 : Int32) (x4 : Int32) (M : za_M), L5 x3 x4 M → zt p l e (za_rm 3 107) s m args below meth c 0 0 (MQ below (za_Qi g D cy K) args s 0 0 (za_A g)) g D cy 6 M 5 [(0, .ref (g (27, 0, 0))), (1, .int x1), (2, .int x2), (3, .int x3), (4, .int x4)] []) {M : za_M} (h : f_X10_isForbidden_b84 K L5 x1 x2 x4 M) : zt p l e (za_rm 3 107) s m args below meth c 0 0 (MQ below (za_Qi g D cy K) args s 0 0 (za_A g)) g D cy 6 M 84 [(0, .ref (g (27, 0, 0))), (1, .int x1), (2, .int x2), (4, .int x4)] [] := by
  unfold f_X10_isForbidden_b84 at h
  refine zt_iconst C (v := 0) dX10_isForbidden_84 zk_i0 ?_
  exact p_X10_isForbidden_b85 hJ C hr hk hL5 h
set_option maxRecDepth 100000 in
set_option maxHeartbeats 4000000 in
theorem p_X10_isForbidden_b60 (hJ : za_J g) (C : za_C p s m args c cX10_isForbidden 6 RX10 g D cy) (hr : meth.sig.returnType = (some .boolean)) (hk : meth.locks = false) {x1 : Int32} {x2 : Int32} {x3 : Int32} {x4 : Int32} {s0 : Int32} {L5 : Int32 → Int32 → za_M → Prop} (hL5 : ∀ (x3 : Int32) (x4 : Int32) (M : za_M), L5 x3 x4 M → zt p l e (za_rm 3 107) s m args below meth c 0 0 (MQ below (za_Qi g D cy K) args s 0 0 (za_A g)) g D cy 6 M 5 [(0, .ref (g (27, 0, 0))), (1, .int x1), (2, .int x2), (3, .int x3), (4, .int x4)] []) {M : za_M} (h : f_X10_isForbidden_b60 K L5 x1 x2 x3 x4 s0 M) : zt p l e (za_rm 3 107) s m args below meth c 0 0 (MQ below (za_Qi g D cy K) args s 0 0 (za_A g)) g D cy 6 M 60 [(0, .ref (g (27, 0, 0))), (1, .int x1), (2, .int x2), (3, .int x3), (4, .int x4)] [.int s0] := by
  unfold f_X10_isForbidden_b60 at h
  refine zt_istore C [(5, .int s0), (0, .ref (g (27, 0, 0))), (1, .int x1), (2, .int x2), (3, .int x3), (4, .int x4)] dX10_isForbidden_60 (by decide) rfl ?_
  refine zt_iload_n C 4 dX10_isForbidden_62 rfl rfl ?_
  refine zt_if_ne C 80 dX10_isForbidden_63 (by decide) (fun q1 => ?_) (fun q1 => ?_)
  · replace h := za_ifn h q1
    refine zt_sub [1, 2, 3, 5] (lv' := [(0, .ref (g (27, 0, 0))), (1, .int x1), (2, .int x2), (4, .int x4)]) rfl ?_
    exact p_X10_isForbidden_b80 hJ C hr hk hL5 h
  · replace h := za_ifp h q1
    refine zt_iload C 0 dX10_isForbidden_66 rfl ?_
    refine zt_if_eq C 84 dX10_isForbidden_68 (by decide) (fun q2 => ?_) (fun q2 => ?_)
    · replace h := za_ifp h q2
      refine zt_sub [1, 2, 3, 5] (lv' := [(0, .ref (g (27, 0, 0))), (1, .int x1), (2, .int x2), (4, .int x4)]) rfl ?_
      exact p_X10_isForbidden_b84 hJ C hr hk hL5 h
    · replace h := za_ifn h q2
      refine zt_iload_n C 2 dX10_isForbidden_71 rfl rfl ?_
      refine zt_iload C 5 dX10_isForbidden_72 rfl ?_
      refine zt_cSi C [.int x1, .int x4] (m_X10_digit hJ  h) py_X10_digit ps_X10_204 (Nat.le_of_ble_eq_true rfl) ⟨Nat.le_of_ble_eq_true rfl, Nat.le_of_ble_eq_true rfl⟩ ⟨Nat.zero_le _, Nat.zero_le _⟩ dX10_isForbidden_74 rfl (fun r4 M3 h => ?_)
      refine zt_if_le C 84 dX10_isForbidden_77 (by decide) (fun q5 => ?_) (fun q5 => ?_)
      · replace h := za_ifp h q5
        refine zt_sub [1, 2, 3, 5] (lv' := [(0, .ref (g (27, 0, 0))), (1, .int x1), (2, .int x2), (4, .int x4)]) rfl ?_
        exact p_X10_isForbidden_b84 hJ C hr hk hL5 h
      · replace h := za_ifn h q5
        refine zt_sub [1, 2, 3, 5] (lv' := [(0, .ref (g (27, 0, 0))), (1, .int x1), (2, .int x2), (4, .int x4)]) rfl ?_
        exact p_X10_isForbidden_b80 hJ C hr hk hL5 h
set_option maxRecDepth 100000 in
set_option maxHeartbeats 4000000 in
theorem p_X10_isForbidden_b59 (hJ : za_J g) (C : za_C p s m args c cX10_isForbidden 6 RX10 g D cy) (hr : meth.sig.returnType = (some .boolean)) (hk : meth.locks = false) {x1 : Int32} {x2 : Int32} {x3 : Int32} {x4 : Int32} {L5 : Int32 → Int32 → za_M → Prop} (hL5 : ∀ (x3 : Int32) (x4 : Int32) (M : za_M), L5 x3 x4 M → zt p l e (za_rm 3 107) s m args below meth c 0 0 (MQ below (za_Qi g D cy K) args s 0 0 (za_A g)) g D cy 6 M 5 [(0, .ref (g (27, 0, 0))), (1, .int x1), (2, .int x2), (3, .int x3), (4, .int x4)] []) {M : za_M} (h : f_X10_isForbidden_b59 K L5 x1 x2 x3 x4 M) : zt p l e (za_rm 3 107) s m args below meth c 0 0 (MQ below (za_Qi g D cy K) args s 0 0 (za_A g)) g D cy 6 M 59 [(0, .ref (g (27, 0, 0))), (1, .int x1), (2, .int x2), (3, .int x3), (4, .int x4)] [] := by
  unfold f_X10_isForbidden_b59 at h
  refine zt_iconst C (v := 0) dX10_isForbidden_59 zk_i0 ?_
  exact p_X10_isForbidden_b60 hJ C hr hk hL5 h
set_option maxRecDepth 100000 in
set_option maxHeartbeats 4000000 in
theorem p_X10_isForbidden_b55 (hJ : za_J g) (C : za_C p s m args c cX10_isForbidden 6 RX10 g D cy) (hr : meth.sig.returnType = (some .boolean)) (hk : meth.locks = false) {x1 : Int32} {x2 : Int32} {x3 : Int32} {x4 : Int32} {L5 : Int32 → Int32 → za_M → Prop} (hL5 : ∀ (x3 : Int32) (x4 : Int32) (M : za_M), L5 x3 x4 M → zt p l e (za_rm 3 107) s m args below meth c 0 0 (MQ below (za_Qi g D cy K) args s 0 0 (za_A g)) g D cy 6 M 5 [(0, .ref (g (27, 0, 0))), (1, .int x1), (2, .int x2), (3, .int x3), (4, .int x4)] []) {M : za_M} (h : f_X10_isForbidden_b55 K L5 x1 x2 x3 x4 M) : zt p l e (za_rm 3 107) s m args below meth c 0 0 (MQ below (za_Qi g D cy K) args s 0 0 (za_A g)) g D cy 6 M 55 [(0, .ref (g (27, 0, 0))), (1, .int x1), (2, .int x2), (3, .int x3), (4, .int x4)] [] := by
  unfold f_X10_isForbidden_b55 at h
  refine zt_iconst C (v := 1) dX10_isForbidden_55 zk_i1 ?_
  refine zt_goto C 60 dX10_isForbidden_56 (by decide) ?_
  exact p_X10_isForbidden_b60 hJ C hr hk hL5 h
set_option maxRecDepth 100000 in
set_option maxHeartbeats 4000000 in
theorem p_X10_isForbidden_b33 (hJ : za_J g) (C : za_C p s m args c cX10_isForbidden 6 RX10 g D cy) (hr : meth.sig.returnType = (some .boolean)) (hk : meth.locks = false) {x1 : Int32} {x2 : Int32} {x3 : Int32} {x4 : Int32} {L5 : Int32 → Int32 → za_M → Prop} (hL5 : ∀ (x3 : Int32) (x4 : Int32) (M : za_M), L5 x3 x4 M → zt p l e (za_rm 3 107) s m args below meth c 0 0 (MQ below (za_Qi g D cy K) args s 0 0 (za_A g)) g D cy 6 M 5 [(0, .ref (g (27, 0, 0))), (1, .int x1), (2, .int x2), (3, .int x3), (4, .int x4)] []) {M : za_M} (h : f_X10_isForbidden_b33 K L5 x1 x2 x3 x4 M) : zt p l e (za_rm 3 107) s m args below meth c 0 0 (MQ below (za_Qi g D cy K) args s 0 0 (za_A g)) g D cy 6 M 33 [(0, .ref (g (27, 0, 0))), (1, .int x1), (2, .int x2), (3, .int x3), (4, .int x4)] [] := by
  unfold f_X10_isForbidden_b33 at h
  refine zt_aload_n C 0 dX10_isForbidden_33 rfl rfl ?_
  refine zt_iload C 4 dX10_isForbidden_34 rfl ?_
  refine zt_iconst C (v := 0) dX10_isForbidden_36 zk_i0 ?_
  refine zt_cVi C [.int x4, .int 0] (m_X10_ashIs hJ  h) (za_mem (j := 27) rfl (by decide) (by decide)) (za_E_27 g cy M 0 0) rfl py_X10_ashIs pv_X10_177 (Nat.le_of_ble_eq_true rfl) ⟨Nat.le_of_ble_eq_true rfl, Nat.le_of_ble_eq_true rfl⟩ ⟨Nat.zero_le _, Nat.zero_le _⟩ dX10_isForbidden_37 rfl (fun r7 M6 h => ?_)
  refine zt_bipush C (v := 6) dX10_isForbidden_40 zk_b6 ?_
  refine zt_icmp_ne C 59 dX10_isForbidden_42 (by decide) (fun q8 => ?_) (fun q8 => ?_)
  · replace h := za_ifn h q8
    exact p_X10_isForbidden_b59 hJ C hr hk hL5 h
  · replace h := za_ifp h q8
    refine zt_aload_n C 0 dX10_isForbidden_45 rfl rfl ?_
    refine zt_iload C 4 dX10_isForbidden_46 rfl ?_
    refine zt_iconst C (v := 1) dX10_isForbidden_48 zk_i1 ?_
    refine zt_cVi C [.int x4, .int 1] (m_X10_ashIs hJ  h) (za_mem (j := 27) rfl (by decide) (by decide)) (za_E_27 g cy M6 0 0) rfl py_X10_ashIs pv_X10_177 (Nat.le_of_ble_eq_true rfl) ⟨Nat.le_of_ble_eq_true rfl, Nat.le_of_ble_eq_true rfl⟩ ⟨Nat.zero_le _, Nat.zero_le _⟩ dX10_isForbidden_49 rfl (fun r10 M9 h => ?_)
    refine zt_if_ne C 59 dX10_isForbidden_52 (by decide) (fun q11 => ?_) (fun q11 => ?_)
    · replace h := za_ifn h q11
      exact p_X10_isForbidden_b59 hJ C hr hk hL5 h
    · replace h := za_ifp h q11
      exact p_X10_isForbidden_b55 hJ C hr hk hL5 h
set_option maxRecDepth 100000 in
set_option maxHeartbeats 4000000 in
theorem p_X10_isForbidden_b5 (hJ : za_J g) (C : za_C p s m args c cX10_isForbidden 6 RX10 g D cy) (hr : meth.sig.returnType = (some .boolean)) (hk : meth.locks = false) {x1 : Int32} {x2 : Int32} {L5 : Int32 → Int32 → za_M → Prop} (hL5 : ∀ (x3 : Int32) (x4 : Int32) (M : za_M), L5 x3 x4 M → zt p l e (za_rm 3 107) s m args below meth c 0 0 (MQ below (za_Qi g D cy K) args s 0 0 (za_A g)) g D cy 6 M 5 [(0, .ref (g (27, 0, 0))), (1, .int x1), (2, .int x2), (3, .int x3), (4, .int x4)] []) : ∀ (x3 : Int32) (x4 : Int32) (M : za_M), f_X10_isForbidden_b5 K x1 x2 L5 x3 x4 M → zt p l e (za_rm 3 107) s m args below meth c 0 0 (MQ below (za_Qi g D cy K) args s 0 0 (za_A g)) g D cy 6 M 5 [(0, .ref (g (27, 0, 0))), (1, .int x1), (2, .int x2), (3, .int x3), (4, .int x4)] [] := by
  intro x3 x4 M h
  unfold f_X10_isForbidden_b5 at h
  refine zt_iload C 4 dX10_isForbidden_5 rfl ?_
  refine zt_aload_n C 0 dX10_isForbidden_7 rfl rfl ?_
  refine zt_get C (za_mem (j := 27) rfl (by decide) (by decide)) pf_X10_9 (za_E_27 g cy M 0 0) rfl dX10_isForbidden_8 ?_
  refine zt_iconst C (v := 1) dX10_isForbidden_11 zk_i1 ?_
  obtain ⟨g12, h⟩ := h
  refine zt_iald C (za_mem (j := 28) rfl (by decide) (by decide)) (fun W9 => za_E_28 g cy W9 0 0) g12 dX10_isForbidden_12 ?_
  refine zt_icmp_ge C 92 dX10_isForbidden_13 (by decide) (fun q13 => ?_) (fun q13 => ?_)
  · replace h := za_ifp h q13
    refine zt_iload_n C 3 dX10_isForbidden_92 rfl rfl ?_
    obtain ⟨g14, h⟩ := h
    exact zt_ret C hr hk (za_Bn g14) dX10_isForbidden_93 h
  · replace h := za_ifn h q13
    refine zt_aload_n C 0 dX10_isForbidden_16 rfl rfl ?_
    refine zt_iload C 4 dX10_isForbidden_17 rfl ?_
    refine zt_iconst C (v := 0) dX10_isForbidden_19 zk_i0 ?_
    refine zt_cVi C [.int x4, .int 0] (m_X10_ashIs hJ  h) (za_mem (j := 27) rfl (by decide) (by decide)) (za_E_27 g cy M 0 0) rfl py_X10_ashIs pv_X10_177 (Nat.le_of_ble_eq_true rfl) ⟨Nat.le_of_ble_eq_true rfl, Nat.le_of_ble_eq_true rfl⟩ ⟨Nat.zero_le _, Nat.zero_le _⟩ dX10_isForbidden_20 rfl (fun r16 M15 h => ?_)
    refine zt_iconst C (v := 4) dX10_isForbidden_23 zk_i4 ?_
    refine zt_icmp_ne C 33 dX10_isForbidden_24 (by decide) (fun q17 => ?_) (fun q17 => ?_)
    · replace h := za_ifn h q17
      exact p_X10_isForbidden_b33 hJ C hr hk hL5 h
    · replace h := za_ifp h q17
      refine zt_iload_n C 2 dX10_isForbidden_27 rfl rfl ?_
      refine zt_bipush C (v := 7) dX10_isForbidden_28 zk_b7 ?_
      refine zt_icmp_gt C 55 dX10_isForbidden_30 (by decide) (fun q18 => ?_) (fun q18 => ?_)
      · replace h := za_ifp h q18
        exact p_X10_isForbidden_b55 hJ C hr hk hL5 h
      · replace h := za_ifn h q18
        exact p_X10_isForbidden_b33 hJ C hr hk hL5 h
theorem p_X10_isForbidden_b5_in (hJ : za_J g) (C : za_C p s m args c cX10_isForbidden 6 RX10 g D cy) (hr : meth.sig.returnType = (some .boolean)) (hk : meth.locks = false) {x1 : Int32} {x2 : Int32} {n : Nat} {x3 : Int32} {x4 : Int32} {M : za_M} (h : za_lp2 (f_X10_isForbidden_b5 K x1 x2) n x3 x4 M) : zt p l e (za_rm 3 107) s m args below meth c 0 0 (MQ below (za_Qi g D cy K) args s 0 0 (za_A g)) g D cy 6 M 5 [(0, .ref (g (27, 0, 0))), (1, .int x1), (2, .int x2), (3, .int x3), (4, .int x4)] [] := za_lp2_run (Z := fun x3 x4 M => zt p l e (za_rm 3 107) s m args below meth c 0 0 (MQ below (za_Qi g D cy K) args s 0 0 (za_A g)) g D cy 6 M 5 [(0, .ref (g (27, 0, 0))), (1, .int x1), (2, .int x2), (3, .int x3), (4, .int x4)] []) (fun L hL => p_X10_isForbidden_b5 hJ C hr hk  hL) n x3 x4 M h
set_option maxRecDepth 100000 in
set_option maxHeartbeats 4000000 in
theorem p_X10_isForbidden (hJ : za_J g) (C : za_C p s m args c cX10_isForbidden 6 RX10 g D cy) (hr : meth.sig.returnType = (some .boolean)) (hk : meth.locks = false) {x1 : Int32} {x2 : Int32} {M : za_M} (h : f_X10_isForbidden x1 x2 M K) : zt p l e (za_rm 3 107) s m args below meth c 0 0 (MQ below (za_Qi g D cy K) args s 0 0 (za_A g)) g D cy 6 M 0 [(0, .ref (g (27, 0, 0))), (1, .int x1), (2, .int x2)] [] := by
  unfold f_X10_isForbidden at h
  refine zt_iconst C (v := 0) dX10_isForbidden_0 zk_i0 ?_
  refine zt_istore_n C [(3, .int 0), (0, .ref (g (27, 0, 0))), (1, .int x1), (2, .int x2)] dX10_isForbidden_1 rfl (by decide) rfl ?_
  refine zt_iconst C (v := 0) dX10_isForbidden_2 zk_i0 ?_
  refine zt_istore C [(4, .int 0), (3, .int 0), (0, .ref (g (27, 0, 0))), (1, .int x1), (2, .int x2)] dX10_isForbidden_3 (by decide) rfl ?_
  refine zt_sub [2, 3, 4, 1, 0] (lv' := [(0, .ref (g (27, 0, 0))), (1, .int x1), (2, .int x2), (3, .int 0), (4, .int 0)]) rfl ?_
  obtain ⟨n, h⟩ := h
  exact p_X10_isForbidden_b5_in hJ C hr hk  h
end
theorem m_X10_isForbidden {l : Launch} {g : za_L → Nat} {D : va_G} {cy : Nat → ClassId} (hJ : za_J g)  {x1 : Int32} {x2 : Int32} {M : za_M} {K : Int32 → za_M → Prop} (h : f_X10_isForbidden x1 x2 M K) : za_Mi l g D cy yX10_isForbidden cX10_isForbidden 6 (some .boolean) 3 107 [.ref (g (27, 0, 0)), .int x1, .int x2] M K := za_openi hJ (by decide) (Nat.le_of_ble_eq_true rfl) (fun p e s m args below meth c C hr hk => p_X10_isForbidden hJ C hr hk  h)
/-! X10_mixColour -/
def f_X10_mixColour_b5 (K : Int32 → za_M → Prop) (x1 : Int32) (x2 : Int32) (L5 : Int32 → Int32 → za_M → Prop) (x3 : Int32) (x4 : Int32) (M : za_M) : Prop :=
  vp_in 1 279 ∧ (if (M.1 (28, 0, 0) (Int32.toNatClampNeg 1)) ≤ x4 then (f_X10_rest x3 M (fun r4 M3 => K r4 M3)) else (f_X10_digit x1 x4 M (fun r6 M5 => f_X10_colourOf x4 x2 M5 (fun r8 M7 => za_let (x3 + (r6 * r8)) fun y9 => L5 y9 (x4 + 1) M7))))
def f_X10_mixColour (x1 : Int32) (x2 : Int32) (M : za_M) (K : Int32 → za_M → Prop) : Prop :=
  ∃ n, za_lp2 (f_X10_mixColour_b5 K x1 x2) n 0 0 M
section
variable {p : Program} {l : Launch} {e : Env} {s : State} {m : MethodId} {args : Array Value} {below : List Frame} {meth : Method} {c : Code} {g : za_L → Nat} {D : va_G} {cy : Nat → ClassId} {K : Int32 → za_M → Prop}
set_option maxRecDepth 100000 in
set_option maxHeartbeats 4000000 in
theorem p_X10_mixColour_b5 (hJ : za_J g) (C : za_C p s m args c cX10_mixColour 5 RX10 g D cy) (hr : meth.sig.returnType = (some .int)) (hk : meth.locks = false) {x1 : Int32} {x2 : Int32} {L5 : Int32 → Int32 → za_M → Prop} (hL5 : ∀ (x3 : Int32) (x4 : Int32) (M : za_M), L5 x3 x4 M → zt p l e (za_rm 5 160) s m args below meth c 0 0 (MQ below (za_Qi g D cy K) args s 0 0 (za_A g)) g D cy 5 M 5 [(0, .ref (g (27, 0, 0))), (1, .int x1), (2, .int x2), (3, .int x3), (4, .int x4)] []) : ∀ (x3 : Int32) (x4 : Int32) (M : za_M), f_X10_mixColour_b5 K x1 x2 L5 x3 x4 M → zt p l e (za_rm 5 160) s m args below meth c 0 0 (MQ below (za_Qi g D cy K) args s 0 0 (za_A g)) g D cy 5 M 5 [(0, .ref (g (27, 0, 0))), (1, .int x1), (2, .int x2), (3, .int x3), (4, .int x4)] [] := by
  intro x3 x4 M h
  unfold f_X10_mixColour_b5 at h
  refine zt_iload C 4 dX10_mixColour_5 rfl ?_
  refine zt_aload_n C 0 dX10_mixColour_7 rfl rfl ?_
  refine zt_get C (za_mem (j := 27) rfl (by decide) (by decide)) pf_X10_9 (za_E_27 g cy M 0 0) rfl dX10_mixColour_8 ?_
  refine zt_iconst C (v := 1) dX10_mixColour_11 zk_i1 ?_
  obtain ⟨g1, h⟩ := h
  refine zt_iald C (za_mem (j := 28) rfl (by decide) (by decide)) (fun W9 => za_E_28 g cy W9 0 0) g1 dX10_mixColour_12 ?_
  refine zt_icmp_ge C 39 dX10_mixColour_13 (by decide) (fun q2 => ?_) (fun q2 => ?_)
  · replace h := za_ifp h q2
    refine zt_iload_n C 3 dX10_mixColour_39 rfl rfl ?_
    refine zt_cSi C [.int x3] (m_X10_rest hJ  h) py_X10_rest ps_X10_210 (Nat.le_of_ble_eq_true rfl) ⟨Nat.le_of_ble_eq_true rfl, Nat.le_of_ble_eq_true rfl⟩ ⟨Nat.zero_le _, Nat.zero_le _⟩ dX10_mixColour_40 rfl (fun r4 M3 h => ?_)
    exact zt_ret C hr hk rfl dX10_mixColour_43 h
  · replace h := za_ifn h q2
    refine zt_iload_n C 3 dX10_mixColour_16 rfl rfl ?_
    refine zt_iload_n C 1 dX10_mixColour_17 rfl rfl ?_
    refine zt_iload C 4 dX10_mixColour_18 rfl ?_
    refine zt_cSi C [.int x1, .int x4] (m_X10_digit hJ  h) py_X10_digit ps_X10_204 (Nat.le_of_ble_eq_true rfl) ⟨Nat.le_of_ble_eq_true rfl, Nat.le_of_ble_eq_true rfl⟩ ⟨Nat.zero_le _, Nat.zero_le _⟩ dX10_mixColour_20 rfl (fun r6 M5 h => ?_)
    refine zt_aload_n C 0 dX10_mixColour_23 rfl rfl ?_
    refine zt_iload C 4 dX10_mixColour_24 rfl ?_
    refine zt_iload_n C 2 dX10_mixColour_26 rfl rfl ?_
    refine zt_cVi C [.int x4, .int x2] (m_X10_colourOf hJ  h) (za_mem (j := 27) rfl (by decide) (by decide)) (za_E_27 g cy M5 0 0) rfl py_X10_colourOf pv_X10_207 (Nat.le_of_ble_eq_true rfl) ⟨Nat.le_of_ble_eq_true rfl, Nat.le_of_ble_eq_true rfl⟩ ⟨Nat.zero_le _, Nat.zero_le _⟩ dX10_mixColour_27 rfl (fun r8 M7 h => ?_)
    refine zt_imul C dX10_mixColour_30 ?_
    refine zt_iadd C dX10_mixColour_31 ?_
    refine zt_topi (fun y9 e10 => ?_)
    replace h := za_use h e10
    refine zt_istore_n C [(3, .int y9), (0, .ref (g (27, 0, 0))), (1, .int x1), (2, .int x2), (4, .int x4)] dX10_mixColour_32 rfl (by decide) rfl ?_
    refine zt_iinc C (v := x4 + 1) 4 [(4, .int (x4 + 1)), (3, .int y9), (0, .ref (g (27, 0, 0))), (1, .int x1), (2, .int x2)] dX10_mixColour_33 rfl (zk_n1 _) (by decide) rfl ?_
    refine zt_goto C 5 dX10_mixColour_36 (by decide) ?_
    refine zt_sub [2, 3, 4, 1, 0] (lv' := [(0, .ref (g (27, 0, 0))), (1, .int x1), (2, .int x2), (3, .int y9), (4, .int (x4 + 1))]) rfl ?_
    exact hL5 _ _ _ h
theorem p_X10_mixColour_b5_in (hJ : za_J g) (C : za_C p s m args c cX10_mixColour 5 RX10 g D cy) (hr : meth.sig.returnType = (some .int)) (hk : meth.locks = false) {x1 : Int32} {x2 : Int32} {n : Nat} {x3 : Int32} {x4 : Int32} {M : za_M} (h : za_lp2 (f_X10_mixColour_b5 K x1 x2) n x3 x4 M) : zt p l e (za_rm 5 160) s m args below meth c 0 0 (MQ below (za_Qi g D cy K) args s 0 0 (za_A g)) g D cy 5 M 5 [(0, .ref (g (27, 0, 0))), (1, .int x1), (2, .int x2), (3, .int x3), (4, .int x4)] [] := za_lp2_run (Z := fun x3 x4 M => zt p l e (za_rm 5 160) s m args below meth c 0 0 (MQ below (za_Qi g D cy K) args s 0 0 (za_A g)) g D cy 5 M 5 [(0, .ref (g (27, 0, 0))), (1, .int x1), (2, .int x2), (3, .int x3), (4, .int x4)] []) (fun L hL => p_X10_mixColour_b5 hJ C hr hk  hL) n x3 x4 M h
set_option maxRecDepth 100000 in
set_option maxHeartbeats 4000000 in
theorem p_X10_mixColour (hJ : za_J g) (C : za_C p s m args c cX10_mixColour 5 RX10 g D cy) (hr : meth.sig.returnType = (some .int)) (hk : meth.locks = false) {x1 : Int32} {x2 : Int32} {M : za_M} (h : f_X10_mixColour x1 x2 M K) : zt p l e (za_rm 5 160) s m args below meth c 0 0 (MQ below (za_Qi g D cy K) args s 0 0 (za_A g)) g D cy 5 M 0 [(0, .ref (g (27, 0, 0))), (1, .int x1), (2, .int x2)] [] := by
  unfold f_X10_mixColour at h
  refine zt_iconst C (v := 0) dX10_mixColour_0 zk_i0 ?_
  refine zt_istore_n C [(3, .int 0), (0, .ref (g (27, 0, 0))), (1, .int x1), (2, .int x2)] dX10_mixColour_1 rfl (by decide) rfl ?_
  refine zt_iconst C (v := 0) dX10_mixColour_2 zk_i0 ?_
  refine zt_istore C [(4, .int 0), (3, .int 0), (0, .ref (g (27, 0, 0))), (1, .int x1), (2, .int x2)] dX10_mixColour_3 (by decide) rfl ?_
  refine zt_sub [2, 3, 4, 1, 0] (lv' := [(0, .ref (g (27, 0, 0))), (1, .int x1), (2, .int x2), (3, .int 0), (4, .int 0)]) rfl ?_
  obtain ⟨n, h⟩ := h
  exact p_X10_mixColour_b5_in hJ C hr hk  h
end
theorem m_X10_mixColour {l : Launch} {g : za_L → Nat} {D : va_G} {cy : Nat → ClassId} (hJ : za_J g)  {x1 : Int32} {x2 : Int32} {M : za_M} {K : Int32 → za_M → Prop} (h : f_X10_mixColour x1 x2 M K) : za_Mi l g D cy yX10_mixColour cX10_mixColour 5 (some .int) 5 160 [.ref (g (27, 0, 0)), .int x1, .int x2] M K := za_openi hJ (by decide) (Nat.le_of_ble_eq_true rfl) (fun p e s m args below meth c C hr hk => p_X10_mixColour hJ C hr hk  h)
/-! X10_colour -/
def f_X10_colour (x1 : Int32) (x2 : Int32) (M : za_M) (K : Int32 → za_M → Prop) : Prop :=
  f_X10_isMix x1 M (fun r2 M1 => if r2 = 0 then (f_X10_finding (-1000000001) M1 (fun r5 M4 => K r5 M4)) else (f_X10_isDigit x2 M1 (fun r7 M6 => if r7 = 0 then (f_X10_finding (-1000000001) M6 (fun r17 M16 => K r17 M16)) else (f_X10_isForbidden x1 x2 M6 (fun r10 M9 => if r10 = 0 then (f_X10_mixColour x1 x2 M9 (fun r13 M12 => K r13 M12)) else (f_X10_finding (-1000000005) M9 (fun r15 M14 => K r15 M14)))))))
section
variable {p : Program} {l : Launch} {e : Env} {s : State} {m : MethodId} {args : Array Value} {below : List Frame} {meth : Method} {c : Code} {g : za_L → Nat} {D : va_G} {cy : Nat → ClassId} {K : Int32 → za_M → Prop}
set_option maxRecDepth 100000 in
set_option maxHeartbeats 4000000 in
theorem p_X10_colour (hJ : za_J g) (C : za_C p s m args c cX10_colour 3 RX10 g D cy) (hr : meth.sig.returnType = (some .int)) (hk : meth.locks = false) {x1 : Int32} {x2 : Int32} {M : za_M} (h : f_X10_colour x1 x2 M K) : zt p l e (za_rm 6 184) s m args below meth c 0 0 (MQ below (za_Qi g D cy K) args s 0 0 (za_A g)) g D cy 3 M 0 [(0, .ref (g (27, 0, 0))), (1, .int x1), (2, .int x2)] [] := by
  unfold f_X10_colour at h
  refine zt_aload_n C 0 dX10_colour_0 rfl rfl ?_
  refine zt_iload_n C 1 dX10_colour_1 rfl rfl ?_
  refine zt_cVi C [.int x1] (m_X10_isMix hJ  h) (za_mem (j := 27) rfl (by decide) (by decide)) (za_E_27 g cy M 0 0) rfl py_X10_isMix pv_X10_213 (Nat.le_of_ble_eq_true rfl) ⟨Nat.le_of_ble_eq_true rfl, Nat.le_of_ble_eq_true rfl⟩ ⟨Nat.zero_le _, Nat.zero_le _⟩ dX10_colour_2 rfl (fun r2 M1 h => ?_)
  refine zt_if_eq C 15 dX10_colour_5 (by decide) (fun q3 => ?_) (fun q3 => ?_)
  · replace h := za_ifp h q3
    refine zt_aload_n C 0 dX10_colour_15 rfl rfl ?_
    refine zt_ldc C w_969 dX10_colour_16 ?_
    refine zt_cVi C [.int (-1000000001)] (m_X10_finding hJ  h) (za_mem (j := 27) rfl (by decide) (by decide)) (za_E_27 g cy M1 0 0) rfl py_X10_finding pv_X10_75 (Nat.le_of_ble_eq_true rfl) ⟨Nat.le_of_ble_eq_true rfl, Nat.le_of_ble_eq_true rfl⟩ ⟨Nat.zero_le _, Nat.zero_le _⟩ dX10_colour_18 rfl (fun r5 M4 h => ?_)
    exact zt_ret C hr hk rfl dX10_colour_21 h
  · replace h := za_ifn h q3
    refine zt_iload_n C 2 dX10_colour_8 rfl rfl ?_
    refine zt_cSi C [.int x2] (m_X10_isDigit hJ  h) py_X10_isDigit ps_X10_216 (Nat.le_of_ble_eq_true rfl) ⟨Nat.le_of_ble_eq_true rfl, Nat.le_of_ble_eq_true rfl⟩ ⟨Nat.zero_le _, Nat.zero_le _⟩ dX10_colour_9 rfl (fun r7 M6 h => ?_)
    refine zt_if_ne C 22 dX10_colour_12 (by decide) (fun q8 => ?_) (fun q8 => ?_)
    · replace h := za_ifn h q8
      refine zt_aload_n C 0 dX10_colour_22 rfl rfl ?_
      refine zt_iload_n C 1 dX10_colour_23 rfl rfl ?_
      refine zt_iload_n C 2 dX10_colour_24 rfl rfl ?_
      refine zt_cVi C [.int x1, .int x2] (m_X10_isForbidden hJ  h) (za_mem (j := 27) rfl (by decide) (by decide)) (za_E_27 g cy M6 0 0) rfl py_X10_isForbidden pv_X10_219 (Nat.le_of_ble_eq_true rfl) ⟨Nat.le_of_ble_eq_true rfl, Nat.le_of_ble_eq_true rfl⟩ ⟨Nat.zero_le _, Nat.zero_le _⟩ dX10_colour_25 rfl (fun r10 M9 h => ?_)
      refine zt_if_eq C 40 dX10_colour_28 (by decide) (fun q11 => ?_) (fun q11 => ?_)
      · replace h := za_ifp h q11
        refine zt_aload_n C 0 dX10_colour_40 rfl rfl ?_
        refine zt_iload_n C 1 dX10_colour_41 rfl rfl ?_
        refine zt_iload_n C 2 dX10_colour_42 rfl rfl ?_
        refine zt_cVi C [.int x1, .int x2] (m_X10_mixColour hJ  h) (za_mem (j := 27) rfl (by decide) (by decide)) (za_E_27 g cy M9 0 0) rfl py_X10_mixColour pv_X10_222 (Nat.le_of_ble_eq_true rfl) ⟨Nat.le_of_ble_eq_true rfl, Nat.le_of_ble_eq_true rfl⟩ ⟨Nat.zero_le _, Nat.zero_le _⟩ dX10_colour_43 rfl (fun r13 M12 h => ?_)
        exact zt_ret C hr hk rfl dX10_colour_46 h
      · replace h := za_ifn h q11
        refine zt_aload_n C 0 dX10_colour_31 rfl rfl ?_
        refine zt_ldc C w_1150 dX10_colour_32 ?_
        refine zt_cVi C [.int (-1000000005)] (m_X10_finding hJ  h) (za_mem (j := 27) rfl (by decide) (by decide)) (za_E_27 g cy M9 0 0) rfl py_X10_finding pv_X10_75 (Nat.le_of_ble_eq_true rfl) ⟨Nat.le_of_ble_eq_true rfl, Nat.le_of_ble_eq_true rfl⟩ ⟨Nat.zero_le _, Nat.zero_le _⟩ dX10_colour_34 rfl (fun r15 M14 h => ?_)
        refine zt_goto C 46 dX10_colour_37 (by decide) ?_
        exact zt_ret C hr hk rfl dX10_colour_46 h
    · replace h := za_ifp h q8
      refine zt_aload_n C 0 dX10_colour_15 rfl rfl ?_
      refine zt_ldc C w_969 dX10_colour_16 ?_
      refine zt_cVi C [.int (-1000000001)] (m_X10_finding hJ  h) (za_mem (j := 27) rfl (by decide) (by decide)) (za_E_27 g cy M6 0 0) rfl py_X10_finding pv_X10_75 (Nat.le_of_ble_eq_true rfl) ⟨Nat.le_of_ble_eq_true rfl, Nat.le_of_ble_eq_true rfl⟩ ⟨Nat.zero_le _, Nat.zero_le _⟩ dX10_colour_18 rfl (fun r17 M16 h => ?_)
      exact zt_ret C hr hk rfl dX10_colour_21 h
end
theorem m_X10_colour {l : Launch} {g : za_L → Nat} {D : va_G} {cy : Nat → ClassId} (hJ : za_J g)  {x1 : Int32} {x2 : Int32} {M : za_M} {K : Int32 → za_M → Prop} (h : f_X10_colour x1 x2 M K) : za_Mi l g D cy yX10_colour cX10_colour 3 (some .int) 6 184 [.ref (g (27, 0, 0)), .int x1, .int x2] M K := za_openi hJ (by decide) (Nat.le_of_ble_eq_true rfl) (fun p e s m args below meth c C hr hk => p_X10_colour hJ C hr hk  h)
/-! X10_hasAll -/
def f_X10_hasAll_b45 (K : Int32 → za_M → Prop) (L5 : Int32 → Int32 → za_M → Prop) (x1 : Int32) (x2 : Int32) (x4 : Int32) (s0 : Int32) (M : za_M) : Prop :=
  L5 s0 (x4 + 1) M
def f_X10_hasAll_b44 (K : Int32 → za_M → Prop) (L5 : Int32 → Int32 → za_M → Prop) (x1 : Int32) (x2 : Int32) (x4 : Int32) (M : za_M) : Prop :=
  f_X10_hasAll_b45 K L5 x1 x2 x4 0 M
def f_X10_hasAll_b5 (K : Int32 → za_M → Prop) (x1 : Int32) (x2 : Int32) (L5 : Int32 → Int32 → za_M → Prop) (x3 : Int32) (x4 : Int32) (M : za_M) : Prop :=
  vp_in 1 279 ∧ (if (M.1 (28, 0, 0) (Int32.toNatClampNeg 1)) ≤ x4 then (za_B x3 ∧ (K x3 M)) else (if x3 = 0 then (f_X10_hasAll_b44 K L5 x1 x2 x4 M) else (f_X10_storeAt x1 x4 M (fun r6 M5 => vp_in r6 279 ∧ (f_X10_digit x2 x4 M5 (fun r9 M8 => if (M5.1 (28, 0, 0) r6.toNatClampNeg) < r9 then (f_X10_hasAll_b44 K L5 x1 x2 x4 M8) else (f_X10_hasAll_b45 K L5 x1 x2 x4 1 M8)))))))
def f_X10_hasAll (x1 : Int32) (x2 : Int32) (M : za_M) (K : Int32 → za_M → Prop) : Prop :=
  ∃ n, za_lp2 (f_X10_hasAll_b5 K x1 x2) n 1 0 M
section
variable {p : Program} {l : Launch} {e : Env} {s : State} {m : MethodId} {args : Array Value} {below : List Frame} {meth : Method} {c : Code} {g : za_L → Nat} {D : va_G} {cy : Nat → ClassId} {K : Int32 → za_M → Prop}
set_option maxRecDepth 100000 in
set_option maxHeartbeats 4000000 in
theorem p_X10_hasAll_b45 (hJ : za_J g) (C : za_C p s m args c cX10_hasAll 5 RX10 g D cy) (hr : meth.sig.returnType = (some .boolean)) (hk : meth.locks = false) {x1 : Int32} {x2 : Int32} {x4 : Int32} {s0 : Int32} {L5 : Int32 → Int32 → za_M → Prop} (hL5 : ∀ (x3 : Int32) (x4 : Int32) (M : za_M), L5 x3 x4 M → zt p l e (za_rm 2 87) s m args below meth c 0 0 (MQ below (za_Qi g D cy K) args s 0 0 (za_A g)) g D cy 5 M 5 [(0, .ref (g (27, 0, 0))), (1, .int x1), (2, .int x2), (3, .int x3), (4, .int x4)] []) {M : za_M} (h : f_X10_hasAll_b45 K L5 x1 x2 x4 s0 M) : zt p l e (za_rm 2 87) s m args below meth c 0 0 (MQ below (za_Qi g D cy K) args s 0 0 (za_A g)) g D cy 5 M 45 [(0, .ref (g (27, 0, 0))), (1, .int x1), (2, .int x2), (4, .int x4)] [.int s0] := by
  unfold f_X10_hasAll_b45 at h
  refine zt_istore_n C [(3, .int s0), (0, .ref (g (27, 0, 0))), (1, .int x1), (2, .int x2), (4, .int x4)] dX10_hasAll_45 rfl (by decide) rfl ?_
  refine zt_iinc C (v := x4 + 1) 4 [(4, .int (x4 + 1)), (3, .int s0), (0, .ref (g (27, 0, 0))), (1, .int x1), (2, .int x2)] dX10_hasAll_46 rfl (zk_n1 _) (by decide) rfl ?_
  refine zt_goto C 5 dX10_hasAll_49 (by decide) ?_
  refine zt_sub [2, 3, 4, 1, 0] (lv' := [(0, .ref (g (27, 0, 0))), (1, .int x1), (2, .int x2), (3, .int s0), (4, .int (x4 + 1))]) rfl ?_
  exact hL5 _ _ _ h
set_option maxRecDepth 100000 in
set_option maxHeartbeats 4000000 in
theorem p_X10_hasAll_b44 (hJ : za_J g) (C : za_C p s m args c cX10_hasAll 5 RX10 g D cy) (hr : meth.sig.returnType = (some .boolean)) (hk : meth.locks = false) {x1 : Int32} {x2 : Int32} {x4 : Int32} {L5 : Int32 → Int32 → za_M → Prop} (hL5 : ∀ (x3 : Int32) (x4 : Int32) (M : za_M), L5 x3 x4 M → zt p l e (za_rm 2 87) s m args below meth c 0 0 (MQ below (za_Qi g D cy K) args s 0 0 (za_A g)) g D cy 5 M 5 [(0, .ref (g (27, 0, 0))), (1, .int x1), (2, .int x2), (3, .int x3), (4, .int x4)] []) {M : za_M} (h : f_X10_hasAll_b44 K L5 x1 x2 x4 M) : zt p l e (za_rm 2 87) s m args below meth c 0 0 (MQ below (za_Qi g D cy K) args s 0 0 (za_A g)) g D cy 5 M 44 [(0, .ref (g (27, 0, 0))), (1, .int x1), (2, .int x2), (4, .int x4)] [] := by
  unfold f_X10_hasAll_b44 at h
  refine zt_iconst C (v := 0) dX10_hasAll_44 zk_i0 ?_
  exact p_X10_hasAll_b45 hJ C hr hk hL5 h
set_option maxRecDepth 100000 in
set_option maxHeartbeats 4000000 in
theorem p_X10_hasAll_b5 (hJ : za_J g) (C : za_C p s m args c cX10_hasAll 5 RX10 g D cy) (hr : meth.sig.returnType = (some .boolean)) (hk : meth.locks = false) {x1 : Int32} {x2 : Int32} {L5 : Int32 → Int32 → za_M → Prop} (hL5 : ∀ (x3 : Int32) (x4 : Int32) (M : za_M), L5 x3 x4 M → zt p l e (za_rm 2 87) s m args below meth c 0 0 (MQ below (za_Qi g D cy K) args s 0 0 (za_A g)) g D cy 5 M 5 [(0, .ref (g (27, 0, 0))), (1, .int x1), (2, .int x2), (3, .int x3), (4, .int x4)] []) : ∀ (x3 : Int32) (x4 : Int32) (M : za_M), f_X10_hasAll_b5 K x1 x2 L5 x3 x4 M → zt p l e (za_rm 2 87) s m args below meth c 0 0 (MQ below (za_Qi g D cy K) args s 0 0 (za_A g)) g D cy 5 M 5 [(0, .ref (g (27, 0, 0))), (1, .int x1), (2, .int x2), (3, .int x3), (4, .int x4)] [] := by
  intro x3 x4 M h
  unfold f_X10_hasAll_b5 at h
  refine zt_iload C 4 dX10_hasAll_5 rfl ?_
  refine zt_aload_n C 0 dX10_hasAll_7 rfl rfl ?_
  refine zt_get C (za_mem (j := 27) rfl (by decide) (by decide)) pf_X10_9 (za_E_27 g cy M 0 0) rfl dX10_hasAll_8 ?_
  refine zt_iconst C (v := 1) dX10_hasAll_11 zk_i1 ?_
  obtain ⟨g1, h⟩ := h
  refine zt_iald C (za_mem (j := 28) rfl (by decide) (by decide)) (fun W9 => za_E_28 g cy W9 0 0) g1 dX10_hasAll_12 ?_
  refine zt_icmp_ge C 52 dX10_hasAll_13 (by decide) (fun q2 => ?_) (fun q2 => ?_)
  · replace h := za_ifp h q2
    refine zt_iload_n C 3 dX10_hasAll_52 rfl rfl ?_
    obtain ⟨g3, h⟩ := h
    exact zt_ret C hr hk (za_Bn g3) dX10_hasAll_53 h
  · replace h := za_ifn h q2
    refine zt_iload_n C 3 dX10_hasAll_16 rfl rfl ?_
    refine zt_if_eq C 44 dX10_hasAll_17 (by decide) (fun q4 => ?_) (fun q4 => ?_)
    · replace h := za_ifp h q4
      refine zt_sub [0, 1, 2, 4] (lv' := [(0, .ref (g (27, 0, 0))), (1, .int x1), (2, .int x2), (4, .int x4)]) rfl ?_
      exact p_X10_hasAll_b44 hJ C hr hk hL5 h
    · replace h := za_ifn h q4
      refine zt_aload_n C 0 dX10_hasAll_20 rfl rfl ?_
      refine zt_get C (za_mem (j := 27) rfl (by decide) (by decide)) pf_X10_9 (za_E_27 g cy M 0 0) rfl dX10_hasAll_21 ?_
      refine zt_iload_n C 1 dX10_hasAll_24 rfl rfl ?_
      refine zt_iload C 4 dX10_hasAll_25 rfl ?_
      refine zt_cSi C [.int x1, .int x4] (m_X10_storeAt hJ  h) py_X10_storeAt ps_X10_162 (Nat.le_of_ble_eq_true rfl) ⟨Nat.le_of_ble_eq_true rfl, Nat.le_of_ble_eq_true rfl⟩ ⟨Nat.zero_le _, Nat.zero_le _⟩ dX10_hasAll_27 rfl (fun r6 M5 h => ?_)
      obtain ⟨g7, h⟩ := h
      refine zt_iald C (za_mem (j := 28) rfl (by decide) (by decide)) (fun W9 => za_E_28 g cy W9 0 0) g7 dX10_hasAll_30 ?_
      refine zt_iload_n C 2 dX10_hasAll_31 rfl rfl ?_
      refine zt_iload C 4 dX10_hasAll_32 rfl ?_
      refine zt_cSi C [.int x2, .int x4] (m_X10_digit hJ  h) py_X10_digit ps_X10_204 (Nat.le_of_ble_eq_true rfl) ⟨Nat.le_of_ble_eq_true rfl, Nat.le_of_ble_eq_true rfl⟩ ⟨Nat.zero_le _, Nat.zero_le _⟩ dX10_hasAll_34 rfl (fun r9 M8 h => ?_)
      refine zt_icmp_lt C 44 dX10_hasAll_37 (by decide) (fun q10 => ?_) (fun q10 => ?_)
      · replace h := za_ifp h q10
        refine zt_sub [0, 1, 2, 4] (lv' := [(0, .ref (g (27, 0, 0))), (1, .int x1), (2, .int x2), (4, .int x4)]) rfl ?_
        exact p_X10_hasAll_b44 hJ C hr hk hL5 h
      · replace h := za_ifn h q10
        refine zt_iconst C (v := 1) dX10_hasAll_40 zk_i1 ?_
        refine zt_goto C 45 dX10_hasAll_41 (by decide) ?_
        refine zt_sub [0, 1, 2, 4] (lv' := [(0, .ref (g (27, 0, 0))), (1, .int x1), (2, .int x2), (4, .int x4)]) rfl ?_
        exact p_X10_hasAll_b45 hJ C hr hk hL5 h
theorem p_X10_hasAll_b5_in (hJ : za_J g) (C : za_C p s m args c cX10_hasAll 5 RX10 g D cy) (hr : meth.sig.returnType = (some .boolean)) (hk : meth.locks = false) {x1 : Int32} {x2 : Int32} {n : Nat} {x3 : Int32} {x4 : Int32} {M : za_M} (h : za_lp2 (f_X10_hasAll_b5 K x1 x2) n x3 x4 M) : zt p l e (za_rm 2 87) s m args below meth c 0 0 (MQ below (za_Qi g D cy K) args s 0 0 (za_A g)) g D cy 5 M 5 [(0, .ref (g (27, 0, 0))), (1, .int x1), (2, .int x2), (3, .int x3), (4, .int x4)] [] := za_lp2_run (Z := fun x3 x4 M => zt p l e (za_rm 2 87) s m args below meth c 0 0 (MQ below (za_Qi g D cy K) args s 0 0 (za_A g)) g D cy 5 M 5 [(0, .ref (g (27, 0, 0))), (1, .int x1), (2, .int x2), (3, .int x3), (4, .int x4)] []) (fun L hL => p_X10_hasAll_b5 hJ C hr hk  hL) n x3 x4 M h
set_option maxRecDepth 100000 in
set_option maxHeartbeats 4000000 in
theorem p_X10_hasAll (hJ : za_J g) (C : za_C p s m args c cX10_hasAll 5 RX10 g D cy) (hr : meth.sig.returnType = (some .boolean)) (hk : meth.locks = false) {x1 : Int32} {x2 : Int32} {M : za_M} (h : f_X10_hasAll x1 x2 M K) : zt p l e (za_rm 2 87) s m args below meth c 0 0 (MQ below (za_Qi g D cy K) args s 0 0 (za_A g)) g D cy 5 M 0 [(0, .ref (g (27, 0, 0))), (1, .int x1), (2, .int x2)] [] := by
  unfold f_X10_hasAll at h
  refine zt_iconst C (v := 1) dX10_hasAll_0 zk_i1 ?_
  refine zt_istore_n C [(3, .int 1), (0, .ref (g (27, 0, 0))), (1, .int x1), (2, .int x2)] dX10_hasAll_1 rfl (by decide) rfl ?_
  refine zt_iconst C (v := 0) dX10_hasAll_2 zk_i0 ?_
  refine zt_istore C [(4, .int 0), (3, .int 1), (0, .ref (g (27, 0, 0))), (1, .int x1), (2, .int x2)] dX10_hasAll_3 (by decide) rfl ?_
  refine zt_sub [2, 3, 4, 1, 0] (lv' := [(0, .ref (g (27, 0, 0))), (1, .int x1), (2, .int x2), (3, .int 1), (4, .int 0)]) rfl ?_
  obtain ⟨n, h⟩ := h
  exact p_X10_hasAll_b5_in hJ C hr hk  h
end
theorem m_X10_hasAll {l : Launch} {g : za_L → Nat} {D : va_G} {cy : Nat → ClassId} (hJ : za_J g)  {x1 : Int32} {x2 : Int32} {M : za_M} {K : Int32 → za_M → Prop} (h : f_X10_hasAll x1 x2 M K) : za_Mi l g D cy yX10_hasAll cX10_hasAll 5 (some .boolean) 2 87 [.ref (g (27, 0, 0)), .int x1, .int x2] M K := za_openi hJ (by decide) (Nat.le_of_ble_eq_true rfl) (fun p e s m args below meth c C hr hk => p_X10_hasAll hJ C hr hk  h)
/-! X10_firesNow -/
def f_X10_firesNow_b3 (K : Int32 → za_M → Prop) (x1 : Int32) (x2 : Int32) (x3 : Int32) (L3 : Int32 → za_M → Prop) (x4 : Int32) (M : za_M) : Prop :=
  vp_in 1 279 ∧ (if (M.1 (28, 0, 0) (Int32.toNatClampNeg 1)) ≤ x4 then (f_X10_potterAt x1 0 M (fun r4 M3 => f_X10_potterAt x1 0 M3 (fun r6 M5 => vp_in r6 279 ∧ (za_let (za_min 9999 ((M5.1 (28, 0, 0) r6.toNatClampNeg) + 1)) fun y8 => vp_in r4 279 ∧ (za_let (za_up M5 (28, 0, 0) r4.toNatClampNeg y8) fun M11 => f_X10_mixColour x2 x3 M11 (fun r14 M13 => K r14 M13)))))) else (f_X10_storeAt x1 x4 M (fun r16 M15 => vp_in r16 279 ∧ (f_X10_digit x2 x4 M15 (fun r19 M18 => za_let ((M15.1 (28, 0, 0) r16.toNatClampNeg) - r19) fun y20 => vp_in r16 279 ∧ (za_let (za_up M18 (28, 0, 0) r16.toNatClampNeg y20) fun M23 => L3 (x4 + 1) M23))))))
def f_X10_firesNow (x1 : Int32) (x2 : Int32) (x3 : Int32) (M : za_M) (K : Int32 → za_M → Prop) : Prop :=
  ∃ n, za_lp1 (f_X10_firesNow_b3 K x1 x2 x3) n 0 M
section
variable {p : Program} {l : Launch} {e : Env} {s : State} {m : MethodId} {args : Array Value} {below : List Frame} {meth : Method} {c : Code} {g : za_L → Nat} {D : va_G} {cy : Nat → ClassId} {K : Int32 → za_M → Prop}
set_option maxRecDepth 100000 in
set_option maxHeartbeats 4000000 in
theorem p_X10_firesNow_b3 (hJ : za_J g) (C : za_C p s m args c cX10_firesNow 5 RX10 g D cy) (hr : meth.sig.returnType = (some .int)) (hk : meth.locks = false) {x1 : Int32} {x2 : Int32} {x3 : Int32} {L3 : Int32 → za_M → Prop} (hL3 : ∀ (x4 : Int32) (M : za_M), L3 x4 M → zt p l e (za_rm 6 184) s m args below meth c 0 0 (MQ below (za_Qi g D cy K) args s 0 0 (za_A g)) g D cy 5 M 3 [(0, .ref (g (27, 0, 0))), (1, .int x1), (2, .int x2), (3, .int x3), (4, .int x4)] []) : ∀ (x4 : Int32) (M : za_M), f_X10_firesNow_b3 K x1 x2 x3 L3 x4 M → zt p l e (za_rm 6 184) s m args below meth c 0 0 (MQ below (za_Qi g D cy K) args s 0 0 (za_A g)) g D cy 5 M 3 [(0, .ref (g (27, 0, 0))), (1, .int x1), (2, .int x2), (3, .int x3), (4, .int x4)] [] := by
  intro x4 M h
  unfold f_X10_firesNow_b3 at h
  refine zt_iload C 4 dX10_firesNow_3 rfl ?_
  refine zt_aload_n C 0 dX10_firesNow_5 rfl rfl ?_
  refine zt_get C (za_mem (j := 27) rfl (by decide) (by decide)) pf_X10_9 (za_E_27 g cy M 0 0) rfl dX10_firesNow_6 ?_
  refine zt_iconst C (v := 1) dX10_firesNow_9 zk_i1 ?_
  obtain ⟨g1, h⟩ := h
  refine zt_iald C (za_mem (j := 28) rfl (by decide) (by decide)) (fun W9 => za_E_28 g cy W9 0 0) g1 dX10_firesNow_10 ?_
  refine zt_icmp_ge C 40 dX10_firesNow_11 (by decide) (fun q2 => ?_) (fun q2 => ?_)
  · replace h := za_ifp h q2
    refine zt_aload_n C 0 dX10_firesNow_40 rfl rfl ?_
    refine zt_get C (za_mem (j := 27) rfl (by decide) (by decide)) pf_X10_9 (za_E_27 g cy M 0 0) rfl dX10_firesNow_41 ?_
    refine zt_iload_n C 1 dX10_firesNow_44 rfl rfl ?_
    refine zt_iconst C (v := 0) dX10_firesNow_45 zk_i0 ?_
    refine zt_cSi C [.int x1, .int 0] (m_X10_potterAt hJ  h) py_X10_potterAt ps_X10_191 (Nat.le_of_ble_eq_true rfl) ⟨Nat.le_of_ble_eq_true rfl, Nat.le_of_ble_eq_true rfl⟩ ⟨Nat.zero_le _, Nat.zero_le _⟩ dX10_firesNow_46 rfl (fun r4 M3 h => ?_)
    refine zt_sipush C (v := 9999) dX10_firesNow_49 zk_s9999 ?_
    refine zt_aload_n C 0 dX10_firesNow_52 rfl rfl ?_
    refine zt_get C (za_mem (j := 27) rfl (by decide) (by decide)) pf_X10_9 (za_E_27 g cy M3 0 0) rfl dX10_firesNow_53 ?_
    refine zt_iload_n C 1 dX10_firesNow_56 rfl rfl ?_
    refine zt_iconst C (v := 0) dX10_firesNow_57 zk_i0 ?_
    refine zt_cSi C [.int x1, .int 0] (m_X10_potterAt hJ  h) py_X10_potterAt ps_X10_191 (Nat.le_of_ble_eq_true rfl) ⟨Nat.le_of_ble_eq_true rfl, Nat.le_of_ble_eq_true rfl⟩ ⟨Nat.zero_le _, Nat.zero_le _⟩ dX10_firesNow_58 rfl (fun r6 M5 h => ?_)
    obtain ⟨g7, h⟩ := h
    refine zt_iald C (za_mem (j := 28) rfl (by decide) (by decide)) (fun W9 => za_E_28 g cy W9 0 0) g7 dX10_firesNow_61 ?_
    refine zt_iconst C (v := 1) dX10_firesNow_62 zk_i1 ?_
    refine zt_iadd C dX10_firesNow_63 ?_
    refine zt_mmin C w_1091 w_702 w_91 w_703 (Nat.le_of_ble_eq_true rfl) (Nat.le_of_ble_eq_true rfl) (Nat.zero_le _) (Nat.zero_le _) dX10_firesNow_64 ?_
    refine zt_topi (fun y8 e9 => ?_)
    replace h := za_use h e9
    obtain ⟨g10, h⟩ := h
    refine zt_iast C (za_mem (j := 28) rfl (by decide) (by decide)) (fun W9 => za_E_28 g cy W9 0 0) g10 dX10_firesNow_67 ?_
    refine zt_topM (fun M11 e12 => ?_)
    replace h := za_use h e12
    refine zt_aload_n C 0 dX10_firesNow_68 rfl rfl ?_
    refine zt_iload_n C 2 dX10_firesNow_69 rfl rfl ?_
    refine zt_iload_n C 3 dX10_firesNow_70 rfl rfl ?_
    refine zt_cVi C [.int x2, .int x3] (m_X10_mixColour hJ  h) (za_mem (j := 27) rfl (by decide) (by decide)) (za_E_27 g cy M11 0 0) rfl py_X10_mixColour pv_X10_222 (Nat.le_of_ble_eq_true rfl) ⟨Nat.le_of_ble_eq_true rfl, Nat.le_of_ble_eq_true rfl⟩ ⟨Nat.zero_le _, Nat.zero_le _⟩ dX10_firesNow_71 rfl (fun r14 M13 h => ?_)
    exact zt_ret C hr hk rfl dX10_firesNow_74 h
  · replace h := za_ifn h q2
    refine zt_aload_n C 0 dX10_firesNow_14 rfl rfl ?_
    refine zt_get C (za_mem (j := 27) rfl (by decide) (by decide)) pf_X10_9 (za_E_27 g cy M 0 0) rfl dX10_firesNow_15 ?_
    refine zt_iload_n C 1 dX10_firesNow_18 rfl rfl ?_
    refine zt_iload C 4 dX10_firesNow_19 rfl ?_
    refine zt_cSi C [.int x1, .int x4] (m_X10_storeAt hJ  h) py_X10_storeAt ps_X10_162 (Nat.le_of_ble_eq_true rfl) ⟨Nat.le_of_ble_eq_true rfl, Nat.le_of_ble_eq_true rfl⟩ ⟨Nat.zero_le _, Nat.zero_le _⟩ dX10_firesNow_21 rfl (fun r16 M15 h => ?_)
    refine zt_dup2_11 C dX10_firesNow_24 rfl rfl ?_
    obtain ⟨g17, h⟩ := h
    refine zt_iald C (za_mem (j := 28) rfl (by decide) (by decide)) (fun W9 => za_E_28 g cy W9 0 0) g17 dX10_firesNow_25 ?_
    refine zt_iload_n C 2 dX10_firesNow_26 rfl rfl ?_
    refine zt_iload C 4 dX10_firesNow_27 rfl ?_
    refine zt_cSi C [.int x2, .int x4] (m_X10_digit hJ  h) py_X10_digit ps_X10_204 (Nat.le_of_ble_eq_true rfl) ⟨Nat.le_of_ble_eq_true rfl, Nat.le_of_ble_eq_true rfl⟩ ⟨Nat.zero_le _, Nat.zero_le _⟩ dX10_firesNow_29 rfl (fun r19 M18 h => ?_)
    refine zt_isub C dX10_firesNow_32 ?_
    refine zt_topi (fun y20 e21 => ?_)
    replace h := za_use h e21
    obtain ⟨g22, h⟩ := h
    refine zt_iast C (za_mem (j := 28) rfl (by decide) (by decide)) (fun W9 => za_E_28 g cy W9 0 0) g22 dX10_firesNow_33 ?_
    refine zt_topM (fun M23 e24 => ?_)
    replace h := za_use h e24
    refine zt_iinc C (v := x4 + 1) 4 [(4, .int (x4 + 1)), (0, .ref (g (27, 0, 0))), (1, .int x1), (2, .int x2), (3, .int x3)] dX10_firesNow_34 rfl (zk_n1 _) (by decide) rfl ?_
    refine zt_goto C 3 dX10_firesNow_37 (by decide) ?_
    refine zt_sub [1, 2, 3, 4, 0] (lv' := [(0, .ref (g (27, 0, 0))), (1, .int x1), (2, .int x2), (3, .int x3), (4, .int (x4 + 1))]) rfl ?_
    exact hL3 _ _ h
theorem p_X10_firesNow_b3_in (hJ : za_J g) (C : za_C p s m args c cX10_firesNow 5 RX10 g D cy) (hr : meth.sig.returnType = (some .int)) (hk : meth.locks = false) {x1 : Int32} {x2 : Int32} {x3 : Int32} {n : Nat} {x4 : Int32} {M : za_M} (h : za_lp1 (f_X10_firesNow_b3 K x1 x2 x3) n x4 M) : zt p l e (za_rm 6 184) s m args below meth c 0 0 (MQ below (za_Qi g D cy K) args s 0 0 (za_A g)) g D cy 5 M 3 [(0, .ref (g (27, 0, 0))), (1, .int x1), (2, .int x2), (3, .int x3), (4, .int x4)] [] := za_lp1_run (Z := fun x4 M => zt p l e (za_rm 6 184) s m args below meth c 0 0 (MQ below (za_Qi g D cy K) args s 0 0 (za_A g)) g D cy 5 M 3 [(0, .ref (g (27, 0, 0))), (1, .int x1), (2, .int x2), (3, .int x3), (4, .int x4)] []) (fun L hL => p_X10_firesNow_b3 hJ C hr hk  hL) n x4 M h
set_option maxRecDepth 100000 in
set_option maxHeartbeats 4000000 in
theorem p_X10_firesNow (hJ : za_J g) (C : za_C p s m args c cX10_firesNow 5 RX10 g D cy) (hr : meth.sig.returnType = (some .int)) (hk : meth.locks = false) {x1 : Int32} {x2 : Int32} {x3 : Int32} {M : za_M} (h : f_X10_firesNow x1 x2 x3 M K) : zt p l e (za_rm 6 184) s m args below meth c 0 0 (MQ below (za_Qi g D cy K) args s 0 0 (za_A g)) g D cy 5 M 0 [(0, .ref (g (27, 0, 0))), (1, .int x1), (2, .int x2), (3, .int x3)] [] := by
  unfold f_X10_firesNow at h
  refine zt_iconst C (v := 0) dX10_firesNow_0 zk_i0 ?_
  refine zt_istore C [(4, .int 0), (0, .ref (g (27, 0, 0))), (1, .int x1), (2, .int x2), (3, .int x3)] dX10_firesNow_1 (by decide) rfl ?_
  refine zt_sub [1, 2, 3, 4, 0] (lv' := [(0, .ref (g (27, 0, 0))), (1, .int x1), (2, .int x2), (3, .int x3), (4, .int 0)]) rfl ?_
  obtain ⟨n, h⟩ := h
  exact p_X10_firesNow_b3_in hJ C hr hk  h
end
theorem m_X10_firesNow {l : Launch} {g : za_L → Nat} {D : va_G} {cy : Nat → ClassId} (hJ : za_J g)  {x1 : Int32} {x2 : Int32} {x3 : Int32} {M : za_M} {K : Int32 → za_M → Prop} (h : f_X10_firesNow x1 x2 x3 M K) : za_Mi l g D cy yX10_firesNow cX10_firesNow 5 (some .int) 6 184 [.ref (g (27, 0, 0)), .int x1, .int x2, .int x3] M K := za_openi hJ (by decide) (Nat.le_of_ble_eq_true rfl) (fun p e s m args below meth c C hr hk => p_X10_firesNow hJ C hr hk  h)

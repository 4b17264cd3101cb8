/-! X10_heatsOf -/
def f_X10_heatsOf_b42 (K : Int32 → za_M → Prop) (L5 : Int32 → Int32 → za_M → Prop) (x1 : Int32) (x2 : Int32) (x4 : Int32) (s0 : Int32) (s1 : Int32) (M : za_M) : Prop :=
  za_let (s0 ||| s1) fun y1 => L5 y1 (x4 + 1) M
def f_X10_heatsOf_b41 (K : Int32 → za_M → Prop) (L5 : Int32 → Int32 → za_M → Prop) (x1 : Int32) (x2 : Int32) (x4 : Int32) (s0 : Int32) (M : za_M) : Prop :=
  f_X10_heatsOf_b42 K L5 x1 x2 x4 s0 0 M
def f_X10_heatsOf_b5 (K : Int32 → za_M → Prop) (x1 : Int32) (x2 : Int32) (L5 : Int32 → Int32 → za_M → Prop) (x3 : Int32) (x4 : Int32) (M : za_M) : Prop :=
  if 10 ≤ x4 then (K x3 M) else (f_X10_isForbidden x1 x4 M (fun r5 M4 => if r5 = 0 then (f_X10_mixColour x1 x4 M4 (fun r8 M7 => if r8 = x2 then (f_X10_heatsOf_b42 K L5 x1 x2 x4 x3 ((1 : Int32) <<< (x4 &&& 31)) M7) else (f_X10_heatsOf_b41 K L5 x1 x2 x4 x3 M7))) else (f_X10_heatsOf_b41 K L5 x1 x2 x4 x3 M4)))
def f_X10_heatsOf (x1 : Int32) (x2 : Int32) (M : za_M) (K : Int32 → za_M → Prop) : Prop :=
  ∃ n, za_lp2 (f_X10_heatsOf_b5 K x1 x2) n 0 0 M
section
variable {p : Program} {l : Launch} {e : Env} {s : State} {m : MethodId} {args : Array Value} {below : List Frame} {meth : Method} {c : Code} {g : za_L → Nat} {D : va_G} {cy : Nat → ClassId} {K : Int32 → za_M → Prop}
set_option maxRecDepth 100000 in
set_option maxHeartbeats 4000000 in
theorem p_X10_heatsOf_b42 (hJ : za_J g) (C : za_C p s m args c cX10_heatsOf 5 RX10 g D cy) (hr : meth.sig.returnType = (some .int)) (hk : meth.locks = false) {x1 : Int32} {x2 : Int32} {x4 : Int32} {s0 : Int32} {s1 : Int32} {L5 : Int32 → Int32 → za_M → Prop} (hL5 : ∀ (x3 : Int32) (x4 : Int32) (M : za_M), L5 x3 x4 M → zt p l e (za_rm 6 184) s m args below meth c 0 0 (MQ below (za_Qi g D cy K) args s 0 0 (za_A g)) g D cy 5 M 5 [(0, .ref (g (27, 0, 0))), (1, .int x1), (2, .int x2), (3, .int x3), (4, .int x4)] []) {M : za_M} (h : f_X10_heatsOf_b42 K L5 x1 x2 x4 s0 s1 M) : zt p l e (za_rm 6 184) s m args below meth c 0 0 (MQ below (za_Qi g D cy K) args s 0 0 (za_A g)) g D cy 5 M 42 [(0, .ref (g (27, 0, 0))), (1, .int x1), (2, .int x2), (4, .int x4)] [.int s1, .int s0] := by
  unfold f_X10_heatsOf_b42 at h
  refine zt_ior C dX10_heatsOf_42 ?_
  refine zt_topi (fun y1 e2 => ?_)
  replace h := za_use h e2
  refine zt_istore_n C [(3, .int y1), (0, .ref (g (27, 0, 0))), (1, .int x1), (2, .int x2), (4, .int x4)] dX10_heatsOf_43 rfl (by decide) rfl ?_
  refine zt_iinc C (v := x4 + 1) 4 [(4, .int (x4 + 1)), (3, .int y1), (0, .ref (g (27, 0, 0))), (1, .int x1), (2, .int x2)] dX10_heatsOf_44 rfl (zk_n1 _) (by decide) rfl ?_
  refine zt_goto C 5 dX10_heatsOf_47 (by decide) ?_
  refine zt_sub [2, 3, 4, 1, 0] (lv' := [(0, .ref (g (27, 0, 0))), (1, .int x1), (2, .int x2), (3, .int y1), (4, .int (x4 + 1))]) rfl ?_
  exact hL5 _ _ _ h
set_option maxRecDepth 100000 in
set_option maxHeartbeats 4000000 in
theorem p_X10_heatsOf_b41 (hJ : za_J g) (C : za_C p s m args c cX10_heatsOf 5 RX10 g D cy) (hr : meth.sig.returnType = (some .int)) (hk : meth.locks = false) {x1 : Int32} {x2 : Int32} {x4 : Int32} {s0 : Int32} {L5 : Int32 → Int32 → za_M → Prop} (hL5 : ∀ (x3 : Int32) (x4 : Int32) (M : za_M), L5 x3 x4 M → zt p l e (za_rm 6 184) s m args below meth c 0 0 (MQ below (za_Qi g D cy K) args s 0 0 (za_A g)) g D cy 5 M 5 [(0, .ref (g (27, 0, 0))), (1, .int x1), (2, .int x2), (3, .int x3), (4, .int x4)] []) {M : za_M} (h : f_X10_heatsOf_b41 K L5 x1 x2 x4 s0 M) : zt p l e (za_rm 6 184) s m args below meth c 0 0 (MQ below (za_Qi g D cy K) args s 0 0 (za_A g)) g D cy 5 M 41 [(0, .ref (g (27, 0, 0))), (1, .int x1), (2, .int x2), (4, .int x4)] [.int s0] := by
  unfold f_X10_heatsOf_b41 at h
  refine zt_iconst C (v := 0) dX10_heatsOf_41 zk_i0 ?_
  exact p_X10_heatsOf_b42 hJ C hr hk hL5 h
set_option maxRecDepth 100000 in
set_option maxHeartbeats 4000000 in
theorem p_X10_heatsOf_b5 (hJ : za_J g) (C : za_C p s m args c cX10_heatsOf 5 RX10 g D cy) (hr : meth.sig.returnType = (some .int)) (hk : meth.locks = false) {x1 : Int32} {x2 : Int32} {L5 : Int32 → Int32 → za_M → Prop} (hL5 : ∀ (x3 : Int32) (x4 : Int32) (M : za_M), L5 x3 x4 M → zt p l e (za_rm 6 184) s m args below meth c 0 0 (MQ below (za_Qi g D cy K) args s 0 0 (za_A g)) g D cy 5 M 5 [(0, .ref (g (27, 0, 0))), (1, .int x1), (2, .int x2), (3, .int x3), (4, .int x4)] []) : ∀ (x3 : Int32) (x4 : Int32) (M : za_M), f_X10_heatsOf_b5 K x1 x2 L5 x3 x4 M → zt p l e (za_rm 6 184) s m args below meth c 0 0 (MQ below (za_Qi g D cy K) args s 0 0 (za_A g)) g D cy 5 M 5 [(0, .ref (g (27, 0, 0))), (1, .int x1), (2, .int x2), (3, .int x3), (4, .int x4)] [] := by
  intro x3 x4 M h
  unfold f_X10_heatsOf_b5 at h
  refine zt_iload C 4 dX10_heatsOf_5 rfl ?_
  refine zt_bipush C (v := 10) dX10_heatsOf_7 zk_b10 ?_
  refine zt_icmp_ge C 50 dX10_heatsOf_9 (by decide) (fun q3 => ?_) (fun q3 => ?_)
  · replace h := za_ifp h q3
    refine zt_iload_n C 3 dX10_heatsOf_50 rfl rfl ?_
    exact zt_ret C hr hk rfl dX10_heatsOf_51 h
  · replace h := za_ifn h q3
    refine zt_iload_n C 3 dX10_heatsOf_12 rfl rfl ?_
    refine zt_aload_n C 0 dX10_heatsOf_13 rfl rfl ?_
    refine zt_iload_n C 1 dX10_heatsOf_14 rfl rfl ?_
    refine zt_iload C 4 dX10_heatsOf_15 rfl ?_
    refine zt_cVi C [.int x1, .int x4] (m_X10_isForbidden hJ  h) (za_mem (j := 27) rfl (by decide) (by decide)) (za_E_27 g cy M 0 0) rfl py_X10_isForbidden pv_X10_219 (Nat.le_of_ble_eq_true rfl) ⟨Nat.le_of_ble_eq_true rfl, Nat.le_of_ble_eq_true rfl⟩ ⟨Nat.zero_le _, Nat.zero_le _⟩ dX10_heatsOf_17 rfl (fun r5 M4 h => ?_)
    refine zt_if_ne C 41 dX10_heatsOf_20 (by decide) (fun q6 => ?_) (fun q6 => ?_)
    · replace h := za_ifn h q6
      refine zt_sub [0, 1, 2, 4] (lv' := [(0, .ref (g (27, 0, 0))), (1, .int x1), (2, .int x2), (4, .int x4)]) rfl ?_
      exact p_X10_heatsOf_b41 hJ C hr hk hL5 h
    · replace h := za_ifp h q6
      refine zt_aload_n C 0 dX10_heatsOf_23 rfl rfl ?_
      refine zt_iload_n C 1 dX10_heatsOf_24 rfl rfl ?_
      refine zt_iload C 4 dX10_heatsOf_25 rfl ?_
      refine zt_cVi C [.int x1, .int x4] (m_X10_mixColour hJ  h) (za_mem (j := 27) rfl (by decide) (by decide)) (za_E_27 g cy M4 0 0) rfl py_X10_mixColour pv_X10_222 (Nat.le_of_ble_eq_true rfl) ⟨Nat.le_of_ble_eq_true rfl, Nat.le_of_ble_eq_true rfl⟩ ⟨Nat.zero_le _, Nat.zero_le _⟩ dX10_heatsOf_27 rfl (fun r8 M7 h => ?_)
      refine zt_iload_n C 2 dX10_heatsOf_30 rfl rfl ?_
      refine zt_icmp_ne C 41 dX10_heatsOf_31 (by decide) (fun q9 => ?_) (fun q9 => ?_)
      · replace h := za_ifn h q9
        refine zt_sub [0, 1, 2, 4] (lv' := [(0, .ref (g (27, 0, 0))), (1, .int x1), (2, .int x2), (4, .int x4)]) rfl ?_
        exact p_X10_heatsOf_b41 hJ C hr hk hL5 h
      · replace h := za_ifp h q9
        refine zt_iconst C (v := 1) dX10_heatsOf_34 zk_i1 ?_
        refine zt_iload C 4 dX10_heatsOf_35 rfl ?_
        refine zt_ishl C dX10_heatsOf_37 ?_
        refine zt_goto C 42 dX10_heatsOf_38 (by decide) ?_
        refine zt_sub [0, 1, 2, 4] (lv' := [(0, .ref (g (27, 0, 0))), (1, .int x1), (2, .int x2), (4, .int x4)]) rfl ?_
        exact p_X10_heatsOf_b42 hJ C hr hk hL5 h
theorem p_X10_heatsOf_b5_in (hJ : za_J g) (C : za_C p s m args c cX10_heatsOf 5 RX10 g D cy) (hr : meth.sig.returnType = (some .int)) (hk : meth.locks = false) {x1 : Int32} {x2 : Int32} {n : Nat} {x3 : Int32} {x4 : Int32} {M : za_M} (h : za_lp2 (f_X10_heatsOf_b5 K x1 x2) n x3 x4 M) : zt p l e (za_rm 6 184) s m args below meth c 0 0 (MQ below (za_Qi g D cy K) args s 0 0 (za_A g)) g D cy 5 M 5 [(0, .ref (g (27, 0, 0))), (1, .int x1), (2, .int x2), (3, .int x3), (4, .int x4)] [] := za_lp2_run (Z := fun x3 x4 M => zt p l e (za_rm 6 184) s m args below meth c 0 0 (MQ below (za_Qi g D cy K) args s 0 0 (za_A g)) g D cy 5 M 5 [(0, .ref (g (27, 0, 0))), (1, .int x1), (2, .int x2), (3, .int x3), (4, .int x4)] []) (fun L hL => p_X10_heatsOf_b5 hJ C hr hk  hL) n x3 x4 M h
set_option maxRecDepth 100000 in
set_option maxHeartbeats 4000000 in
theorem p_X10_heatsOf (hJ : za_J g) (C : za_C p s m args c cX10_heatsOf 5 RX10 g D cy) (hr : meth.sig.returnType = (some .int)) (hk : meth.locks = false) {x1 : Int32} {x2 : Int32} {M : za_M} (h : f_X10_heatsOf x1 x2 M K) : zt p l e (za_rm 6 184) s m args below meth c 0 0 (MQ below (za_Qi g D cy K) args s 0 0 (za_A g)) g D cy 5 M 0 [(0, .ref (g (27, 0, 0))), (1, .int x1), (2, .int x2)] [] := by
  unfold f_X10_heatsOf at h
  refine zt_iconst C (v := 0) dX10_heatsOf_0 zk_i0 ?_
  refine zt_istore_n C [(3, .int 0), (0, .ref (g (27, 0, 0))), (1, .int x1), (2, .int x2)] dX10_heatsOf_1 rfl (by decide) rfl ?_
  refine zt_iconst C (v := 0) dX10_heatsOf_2 zk_i0 ?_
  refine zt_istore C [(4, .int 0), (3, .int 0), (0, .ref (g (27, 0, 0))), (1, .int x1), (2, .int x2)] dX10_heatsOf_3 (by decide) rfl ?_
  refine zt_sub [2, 3, 4, 1, 0] (lv' := [(0, .ref (g (27, 0, 0))), (1, .int x1), (2, .int x2), (3, .int 0), (4, .int 0)]) rfl ?_
  obtain ⟨n, h⟩ := h
  exact p_X10_heatsOf_b5_in hJ C hr hk  h
end
theorem m_X10_heatsOf {l : Launch} {g : za_L → Nat} {D : va_G} {cy : Nat → ClassId} (hJ : za_J g)  {x1 : Int32} {x2 : Int32} {M : za_M} {K : Int32 → za_M → Prop} (h : f_X10_heatsOf x1 x2 M K) : za_Mi l g D cy yX10_heatsOf cX10_heatsOf 5 (some .int) 6 184 [.ref (g (27, 0, 0)), .int x1, .int x2] M K := za_openi hJ (by decide) (Nat.le_of_ble_eq_true rfl) (fun p e s m args below meth c C hr hk => p_X10_heatsOf hJ C hr hk  h)
/-! X10_heats -/
def f_X10_heats_b24 (K : Int32 → za_M → Prop) (M : za_M) : Prop :=
  f_X10_finding (-1000000001) M (fun r2 M1 => K r2 M1)
def f_X10_heats (x1 : Int32) (x2 : Int32) (M : za_M) (K : Int32 → za_M → Prop) : Prop :=
  f_X10_isMix x1 M (fun r4 M3 => if r4 = 0 then (f_X10_heats_b24 K M3) else (f_X10_isDigit x2 M3 (fun r7 M6 => if r7 = 0 then (f_X10_heats_b24 K M6) else (f_X10_heatsOf x1 x2 M6 (fun r10 M9 => K r10 M9)))))
section
variable {p : Program} {l : Launch} {e : Env} {s : State} {m : MethodId} {args : Array Value} {below : List Frame} {meth : Method} {c : Code} {g : za_L → Nat} {D : va_G} {cy : Nat → ClassId} {K : Int32 → za_M → Prop}
set_option maxRecDepth 100000 in
set_option maxHeartbeats 4000000 in
theorem p_X10_heats_b24 (hJ : za_J g) (C : za_C p s m args c cX10_heats 3 RX10 g D cy) (hr : meth.sig.returnType = (some .int)) (hk : meth.locks = false) {M : za_M} (h : f_X10_heats_b24 K M) : zt p l e (za_rm 7 208) s m args below meth c 0 0 (MQ below (za_Qi g D cy K) args s 0 0 (za_A g)) g D cy 3 M 24 [(0, .ref (g (27, 0, 0)))] [] := by
  unfold f_X10_heats_b24 at h
  refine zt_aload_n C 0 dX10_heats_24 rfl rfl ?_
  refine zt_ldc C w_969 dX10_heats_25 ?_
  refine zt_cVi C [.int (-1000000001)] (m_X10_finding hJ  h) (za_mem (j := 27) rfl (by decide) (by decide)) (za_E_27 g cy M 0 0) rfl py_X10_finding pv_X10_75 (Nat.le_of_ble_eq_true rfl) ⟨Nat.le_of_ble_eq_true rfl, Nat.le_of_ble_eq_true rfl⟩ ⟨Nat.zero_le _, Nat.zero_le _⟩ dX10_heats_27 rfl (fun r2 M1 h => ?_)
  exact zt_ret C hr hk rfl dX10_heats_30 h
set_option maxRecDepth 100000 in
set_option maxHeartbeats 4000000 in
theorem p_X10_heats (hJ : za_J g) (C : za_C p s m args c cX10_heats 3 RX10 g D cy) (hr : meth.sig.returnType = (some .int)) (hk : meth.locks = false) {x1 : Int32} {x2 : Int32} {M : za_M} (h : f_X10_heats x1 x2 M K) : zt p l e (za_rm 7 208) s m args below meth c 0 0 (MQ below (za_Qi g D cy K) args s 0 0 (za_A g)) g D cy 3 M 0 [(0, .ref (g (27, 0, 0))), (1, .int x1), (2, .int x2)] [] := by
  unfold f_X10_heats at h
  refine zt_aload_n C 0 dX10_heats_0 rfl rfl ?_
  refine zt_iload_n C 1 dX10_heats_1 rfl rfl ?_
  refine zt_cVi C [.int x1] (m_X10_isMix hJ  h) (za_mem (j := 27) rfl (by decide) (by decide)) (za_E_27 g cy M 0 0) rfl py_X10_isMix pv_X10_213 (Nat.le_of_ble_eq_true rfl) ⟨Nat.le_of_ble_eq_true rfl, Nat.le_of_ble_eq_true rfl⟩ ⟨Nat.zero_le _, Nat.zero_le _⟩ dX10_heats_2 rfl (fun r4 M3 h => ?_)
  refine zt_if_eq C 24 dX10_heats_5 (by decide) (fun q5 => ?_) (fun q5 => ?_)
  · replace h := za_ifp h q5
    refine zt_sub [0] (lv' := [(0, .ref (g (27, 0, 0)))]) rfl ?_
    exact p_X10_heats_b24 hJ C hr hk  h
  · replace h := za_ifn h q5
    refine zt_iload_n C 2 dX10_heats_8 rfl rfl ?_
    refine zt_cSi C [.int x2] (m_X10_isDigit hJ  h) py_X10_isDigit ps_X10_216 (Nat.le_of_ble_eq_true rfl) ⟨Nat.le_of_ble_eq_true rfl, Nat.le_of_ble_eq_true rfl⟩ ⟨Nat.zero_le _, Nat.zero_le _⟩ dX10_heats_9 rfl (fun r7 M6 h => ?_)
    refine zt_if_eq C 24 dX10_heats_12 (by decide) (fun q8 => ?_) (fun q8 => ?_)
    · replace h := za_ifp h q8
      refine zt_sub [0] (lv' := [(0, .ref (g (27, 0, 0)))]) rfl ?_
      exact p_X10_heats_b24 hJ C hr hk  h
    · replace h := za_ifn h q8
      refine zt_aload_n C 0 dX10_heats_15 rfl rfl ?_
      refine zt_iload_n C 1 dX10_heats_16 rfl rfl ?_
      refine zt_iload_n C 2 dX10_heats_17 rfl rfl ?_
      refine zt_cVi C [.int x1, .int x2] (m_X10_heatsOf hJ  h) (za_mem (j := 27) rfl (by decide) (by decide)) (za_E_27 g cy M6 0 0) rfl py_X10_heatsOf pv_X10_276 (Nat.le_of_ble_eq_true rfl) ⟨Nat.le_of_ble_eq_true rfl, Nat.le_of_ble_eq_true rfl⟩ ⟨Nat.zero_le _, Nat.zero_le _⟩ dX10_heats_18 rfl (fun r10 M9 h => ?_)
      refine zt_goto C 30 dX10_heats_21 (by decide) ?_
      exact zt_ret C hr hk rfl dX10_heats_30 h
end
theorem m_X10_heats {l : Launch} {g : za_L → Nat} {D : va_G} {cy : Nat → ClassId} (hJ : za_J g)  {x1 : Int32} {x2 : Int32} {M : za_M} {K : Int32 → za_M → Prop} (h : f_X10_heats x1 x2 M K) : za_Mi l g D cy yX10_heats cX10_heats 3 (some .int) 7 208 [.ref (g (27, 0, 0)), .int x1, .int x2] M K := za_openi hJ (by decide) (Nat.le_of_ble_eq_true rfl) (fun p e s m args below meth c C hr hk => p_X10_heats hJ C hr hk  h)
/-! X10_isSheet -/
def f_X10_isSheet (x0 : Int32) (M : za_M) (K : Int32 → za_M → Prop) : Prop :=
  f_X10_within x0 0 3 M (fun r2 M1 => za_B r2 ∧ (K r2 M1))
section
variable {p : Program} {l : Launch} {e : Env} {s : State} {m : MethodId} {args : Array Value} {below : List Frame} {meth : Method} {c : Code} {g : za_L → Nat} {D : va_G} {cy : Nat → ClassId} {K : Int32 → za_M → Prop}
set_option maxRecDepth 100000 in
set_option maxHeartbeats 4000000 in
theorem p_X10_isSheet (hJ : za_J g) (C : za_C p s m args c cX10_isSheet 1 RX10 g D cy) (hr : meth.sig.returnType = (some .boolean)) (hk : meth.locks = false) {x0 : Int32} {M : za_M} (h : f_X10_isSheet x0 M K) : zt p l e (za_rm 2 86) s m args below meth c 0 0 (MQ below (za_Qi g D cy K) args s 0 0 (za_A g)) g D cy 1 M 0 [(0, .int x0)] [] := by
  unfold f_X10_isSheet at h
  refine zt_iload_n C 0 dX10_isSheet_0 rfl rfl ?_
  refine zt_iconst C (v := 0) dX10_isSheet_1 zk_i0 ?_
  refine zt_iconst C (v := 3) dX10_isSheet_2 zk_i3 ?_
  refine zt_cSi C [.int x0, .int 0, .int 3] (m_X10_within hJ  h) py_X10_within ps_X10_70 (Nat.le_of_ble_eq_true rfl) ⟨Nat.le_of_ble_eq_true rfl, Nat.le_of_ble_eq_true rfl⟩ ⟨Nat.zero_le _, Nat.zero_le _⟩ dX10_isSheet_3 rfl (fun r2 M1 h => ?_)
  obtain ⟨g3, h⟩ := h
  exact zt_ret C hr hk (za_Bn g3) dX10_isSheet_6 h
end
theorem m_X10_isSheet {l : Launch} {g : za_L → Nat} {D : va_G} {cy : Nat → ClassId} (hJ : za_J g)  {x0 : Int32} {M : za_M} {K : Int32 → za_M → Prop} (h : f_X10_isSheet x0 M K) : za_Mi l g D cy yX10_isSheet cX10_isSheet 1 (some .boolean) 2 86 [.int x0] M K := za_openi hJ (by decide) (Nat.le_of_ble_eq_true rfl) (fun p e s m args below meth c C hr hk => p_X10_isSheet hJ C hr hk  h)
/-! X10_burnt -/
def f_X10_burnt_b137 (K : Int32 → za_M → Prop) (L45 : Int32 → Int32 → za_M → Prop) (x1 : Int32) (x3 : Int32) (s0 : Int32) (s1 : Int32) (M : za_M) : Prop :=
  za_let (s0 ||| s1) fun y1 => L45 y1 (x3 + 1) M
def f_X10_burnt_b116 (K : Int32 → za_M → Prop) (L45 : Int32 → Int32 → za_M → Prop) (L61 : Int32 → Int32 → za_M → Prop) (x1 : Int32) (x2 : Int32) (x3 : Int32) (x5 : Int32) (s0 : Int32) (M : za_M) : Prop :=
  L61 s0 (x5 + 1) M
def f_X10_burnt_b115 (K : Int32 → za_M → Prop) (L45 : Int32 → Int32 → za_M → Prop) (L61 : Int32 → Int32 → za_M → Prop) (x1 : Int32) (x2 : Int32) (x3 : Int32) (x5 : Int32) (M : za_M) : Prop :=
  f_X10_burnt_b116 K L45 L61 x1 x2 x3 x5 0 M
def f_X10_burnt_b111 (K : Int32 → za_M → Prop) (L45 : Int32 → Int32 → za_M → Prop) (L61 : Int32 → Int32 → za_M → Prop) (x1 : Int32) (x2 : Int32) (x3 : Int32) (x5 : Int32) (M : za_M) : Prop :=
  f_X10_burnt_b116 K L45 L61 x1 x2 x3 x5 1 M
def f_X10_burnt_b61 (K : Int32 → za_M → Prop) (L45 : Int32 → Int32 → za_M → Prop) (x1 : Int32) (x2 : Int32) (x3 : Int32) (L61 : Int32 → Int32 → za_M → Prop) (x4 : Int32) (x5 : Int32) (M : za_M) : Prop :=
  vp_in x1 4 ∧ (if (M.1 (38, 0, 0) x1.toNatClampNeg) ≤ x5 then (if x4 = 0 then (f_X10_burnt_b137 K L45 x1 x3 x2 0 M) else (f_X10_burnt_b137 K L45 x1 x3 x2 ((1 : Int32) <<< (x3 &&& 31)) M)) else (vp_in ((40 * x1) + x5) 160 ∧ (za_let (M.1 (39, 0, 0) ((40 * x1) + x5).toNatClampNeg) fun y7 => if x4 = 0 then (f_X10_burnt_b115 K L45 L61 x1 x2 x3 x5 M) else (if y7 < 0 then (f_X10_burnt_b111 K L45 L61 x1 x2 x3 x5 M) else (f_X10_colourOf x3 x5 M (fun r12 M11 => f_X10_rest r12 M11 (fun r14 M13 => if y7 = r14 then (f_X10_burnt_b111 K L45 L61 x1 x2 x3 x5 M13) else (f_X10_burnt_b115 K L45 L61 x1 x2 x3 x5 M13))))))))
def f_X10_burnt_b45 (K : Int32 → za_M → Prop) (x1 : Int32) (L45 : Int32 → Int32 → za_M → Prop) (x2 : Int32) (x3 : Int32) (M : za_M) : Prop :=
  vp_in 1 279 ∧ (if (M.1 (28, 0, 0) (Int32.toNatClampNeg 1)) ≤ x3 then (K x2 M) else (∃ n, za_lp2 (f_X10_burnt_b61 K L45 x1 x2 x3) n 1 0 M))
def f_X10_burnt (x1 : Int32) (M : za_M) (K : Int32 → za_M → Prop) : Prop :=
  f_X10_isSheet x1 M (fun r19 M18 => if r19 = 0 then (f_X10_finding (-1000000001) M18 (fun r30 M29 => K r30 M29)) else (vp_in x1 4 ∧ (if (M18.1 (37, 0, 0) x1.toNatClampNeg) = 0 then (f_X10_finding (-1000000002) M18 (fun r24 M23 => K r24 M23)) else (vp_in x1 4 ∧ (if (M18.1 (38, 0, 0) x1.toNatClampNeg) ≤ 10 then (∃ n, za_lp2 (f_X10_burnt_b45 K x1) n 0 0 M18) else (f_X10_finding (-1000000002) M18 (fun r28 M27 => K r28 M27)))))))
section
variable {p : Program} {l : Launch} {e : Env} {s : State} {m : MethodId} {args : Array Value} {below : List Frame} {meth : Method} {c : Code} {g : za_L → Nat} {D : va_G} {cy : Nat → ClassId} {K : Int32 → za_M → Prop}
set_option maxRecDepth 100000 in
set_option maxHeartbeats 4000000 in
theorem p_X10_burnt_b137 (hJ : za_J g) (C : za_C p s m args c cX10_burnt 7 RX10 g D cy) (hr : meth.sig.returnType = (some .int)) (hk : meth.locks = false) {x1 : Int32} {x3 : Int32} {s0 : Int32} {s1 : Int32} {L45 : Int32 → Int32 → za_M → Prop} (hL45 : ∀ (x2 : Int32) (x3 : Int32) (M : za_M), L45 x2 x3 M → zt p l e (za_rm 5 160) s m args below meth c 0 0 (MQ below (za_Qi g D cy K) args s 0 0 (za_A g)) g D cy 7 M 45 [(0, .ref (g (27, 0, 0))), (1, .int x1), (2, .int x2), (3, .int x3)] []) {M : za_M} (h : f_X10_burnt_b137 K L45 x1 x3 s0 s1 M) : zt p l e (za_rm 5 160) s m args below meth c 0 0 (MQ below (za_Qi g D cy K) args s 0 0 (za_A g)) g D cy 7 M 137 [(0, .ref (g (27, 0, 0))), (1, .int x1), (3, .int x3)] [.int s1, .int s0] := by
  unfold f_X10_burnt_b137 at h
  refine zt_ior C dX10_burnt_137 ?_
  refine zt_topi (fun y1 e2 => ?_)
  replace h := za_use h e2
  refine zt_istore_n C [(2, .int y1), (0, .ref (g (27, 0, 0))), (1, .int x1), (3, .int x3)] dX10_burnt_138 rfl (by decide) rfl ?_
  refine zt_iinc C (v := x3 + 1) 3 [(3, .int (x3 + 1)), (2, .int y1), (0, .ref (g (27, 0, 0))), (1, .int x1)] dX10_burnt_139 rfl (zk_n1 _) (by decide) rfl ?_
  refine zt_goto C 45 dX10_burnt_142 (by decide) ?_
  refine zt_sub [2, 3, 1, 0] (lv' := [(0, .ref (g (27, 0, 0))), (1, .int x1), (2, .int y1), (3, .int (x3 + 1))]) rfl ?_
  exact hL45 _ _ _ h
set_option maxRecDepth 100000 in
set_option maxHeartbeats 4000000 in
theorem p_X10_burnt_b116 (hJ : za_J g) (C : za_C p s m args c cX10_burnt 7 RX10 g D cy) (hr : meth.sig.returnType = (some .int)) (hk : meth.locks = false) {x1 : Int32} {x2 : Int32} {x3 : Int32} {x5 : Int32} {s0 : Int32} {L45 : Int32 → Int32 → za_M → Prop} (hL45 : ∀ (x2 : Int32) (x3 : Int32) (M : za_M), L45 x2 x3 M → zt p l e (za_rm 5 160) s m args below meth c 0 0 (MQ below (za_Qi g D cy K) args s 0 0 (za_A g)) g D cy 7 M 45 [(0, .ref (g (27, 0, 0))), (1, .int x1), (2, .int x2), (3, .int x3)] []) {L61 : Int32 → Int32 → za_M → Prop} (hL61 : ∀ (x4 : Int32) (x5 : Int32) (M : za_M), L61 x4 x5 M → zt p l e (za_rm 5 160) s m args below meth c 0 0 (MQ below (za_Qi g D cy K) args s 0 0 (za_A g)) g D cy 7 M 61 [(0, .ref (g (27, 0, 0))), (1, .int x1), (2, .int x2), (3, .int x3), (4, .int x4), (5, .int x5)] []) {M : za_M} (h : f_X10_burnt_b116 K L45 L61 x1 x2 x3 x5 s0 M) : zt p l e (za_rm 5 160) s m args below meth c 0 0 (MQ below (za_Qi g D cy K) args s 0 0 (za_A g)) g D cy 7 M 116 [(0, .ref (g (27, 0, 0))), (1, .int x1), (2, .int x2), (3, .int x3), (5, .int x5)] [.int s0] := by
  unfold f_X10_burnt_b116 at h
  refine zt_istore C [(4, .int s0), (0, .ref (g (27, 0, 0))), (1, .int x1), (2, .int x2), (3, .int x3), (5, .int x5)] dX10_burnt_116 (by decide) rfl ?_
  refine zt_iinc C (v := x5 + 1) 5 [(5, .int (x5 + 1)), (4, .int s0), (0, .ref (g (27, 0, 0))), (1, .int x1), (2, .int x2), (3, .int x3)] dX10_burnt_118 rfl (zk_n1 _) (by decide) rfl ?_
  refine zt_goto C 61 dX10_burnt_121 (by decide) ?_
  refine zt_sub [2, 3, 4, 5, 1, 0] (lv' := [(0, .ref (g (27, 0, 0))), (1, .int x1), (2, .int x2), (3, .int x3), (4, .int s0), (5, .int (x5 + 1))]) rfl ?_
  exact hL61 _ _ _ h
set_option maxRecDepth 100000 in
set_option maxHeartbeats 4000000 in
theorem p_X10_burnt_b115 (hJ : za_J g) (C : za_C p s m args c cX10_burnt 7 RX10 g D cy) (hr : meth.sig.returnType = (some .int)) (hk : meth.locks = false) {x1 : Int32} {x2 : Int32} {x3 : Int32} {x5 : Int32} {L45 : Int32 → Int32 → za_M → Prop} (hL45 : ∀ (x2 : Int32) (x3 : Int32) (M : za_M), L45 x2 x3 M → zt p l e (za_rm 5 160) s m args below meth c 0 0 (MQ below (za_Qi g D cy K) args s 0 0 (za_A g)) g D cy 7 M 45 [(0, .ref (g (27, 0, 0))), (1, .int x1), (2, .int x2), (3, .int x3)] []) {L61 : Int32 → Int32 → za_M → Prop} (hL61 : ∀ (x4 : Int32) (x5 : Int32) (M : za_M), L61 x4 x5 M → zt p l e (za_rm 5 160) s m args below meth c 0 0 (MQ below (za_Qi g D cy K) args s 0 0 (za_A g)) g D cy 7 M 61 [(0, .ref (g (27, 0, 0))), (1, .int x1), (2, .int x2), (3, .int x3), (4, .int x4), (5, .int x5)] []) {M : za_M} (h : f_X10_burnt_b115 K L45 L61 x1 x2 x3 x5 M) : zt p l e (za_rm 5 160) s m args below meth c 0 0 (MQ below (za_Qi g D cy K) args s 0 0 (za_A g)) g D cy 7 M 115 [(0, .ref (g (27, 0, 0))), (1, .int x1), (2, .int x2), (3, .int x3), (5, .int x5)] [] := by
  unfold f_X10_burnt_b115 at h
  refine zt_iconst C (v := 0) dX10_burnt_115 zk_i0 ?_
  exact p_X10_burnt_b116 hJ C hr hk hL45 hL61 h
set_option maxRecDepth 100000 in
set_option maxHeartbeats 4000000 in
theorem p_X10_burnt_b111 (hJ : za_J g) (C : za_C p s m args c cX10_burnt 7 RX10 g D cy) (hr : meth.sig.returnType = (some .int)) (hk : meth.locks = false) {x1 : Int32} {x2 : Int32} {x3 : Int32} {x5 : Int32} {L45 : Int32 → Int32 → za_M → Prop} (hL45 : ∀ (x2 : Int32) (x3 : Int32) (M : za_M), L45 x2 x3 M → zt p l e (za_rm 5 160) s m args below meth c 0 0 (MQ below (za_Qi g D cy K) args s 0 0 (za_A g)) g D cy 7 M 45 [(0, .ref (g (27, 0, 0))), (1, .int x1), (2, .int x2), (3, .int x3)] []) {L61 : Int32 → Int32 → za_M → Prop} (hL61 : ∀ (x4 : Int32) (x5 : Int32) (M : za_M), L61 x4 x5 M → zt p l e (za_rm 5 160) s m args below meth c 0 0 (MQ below (za_Qi g D cy K) args s 0 0 (za_A g)) g D cy 7 M 61 [(0, .ref (g (27, 0, 0))), (1, .int x1), (2, .int x2), (3, .int x3), (4, .int x4), (5, .int x5)] []) {M : za_M} (h : f_X10_burnt_b111 K L45 L61 x1 x2 x3 x5 M) : zt p l e (za_rm 5 160) s m args below meth c 0 0 (MQ below (za_Qi g D cy K) args s 0 0 (za_A g)) g D cy 7 M 111 [(0, .ref (g (27, 0, 0))), (1, .int x1), (2, .int x2), (3, .int x3), (5, .int x5)] [] := by
  unfold f_X10_burnt_b111 at h
  refine zt_iconst C (v := 1) dX10_burnt_111 zk_i1 ?_
  refine zt_goto C 116 dX10_burnt_112 (by decide) ?_
  exact p_X10_burnt_b116 hJ C hr hk hL45 hL61 h
set_option maxRecDepth 100000 in
set_option maxHeartbeats 4000000 in
theorem p_X10_burnt_b61 (hJ : za_J g) (C : za_C p s m args c cX10_burnt 7 RX10 g D cy) (hr : meth.sig.returnType = (some .int)) (hk : meth.locks = false) {x1 : Int32} {x2 : Int32} {x3 : Int32} {L45 : Int32 → Int32 → za_M → Prop} (hL45 : ∀ (x2 : Int32) (x3 : Int32) (M : za_M), L45 x2 x3 M → zt p l e (za_rm 5 160) s m args below meth c 0 0 (MQ below (za_Qi g D cy K) args s 0 0 (za_A g)) g D cy 7 M 45 [(0, .ref (g (27, 0, 0))), (1, .int x1), (2, .int x2), (3, .int x3)] []) {L61 : Int32 → Int32 → za_M → Prop} (hL61 : ∀ (x4 : Int32) (x5 : Int32) (M : za_M), L61 x4 x5 M → zt p l e (za_rm 5 160) s m args below meth c 0 0 (MQ below (za_Qi g D cy K) args s 0 0 (za_A g)) g D cy 7 M 61 [(0, .ref (g (27, 0, 0))), (1, .int x1), (2, .int x2), (3, .int x3), (4, .int x4), (5, .int x5)] []) : ∀ (x4 : Int32) (x5 : Int32) (M : za_M), f_X10_burnt_b61 K L45 x1 x2 x3 L61 x4 x5 M → zt p l e (za_rm 5 160) s m args below meth c 0 0 (MQ below (za_Qi g D cy K) args s 0 0 (za_A g)) g D cy 7 M 61 [(0, .ref (g (27, 0, 0))), (1, .int x1), (2, .int x2), (3, .int x3), (4, .int x4), (5, .int x5)] [] := by
  intro x4 x5 M h
  unfold f_X10_burnt_b61 at h
  refine zt_iload C 5 dX10_burnt_61 rfl ?_
  refine zt_aload_n C 0 dX10_burnt_63 rfl rfl ?_
  refine zt_get C (za_mem (j := 27) rfl (by decide) (by decide)) pf_X10_47 (za_E_27 g cy M 0 0) rfl dX10_burnt_64 ?_
  refine zt_iload_n C 1 dX10_burnt_67 rfl rfl ?_
  obtain ⟨g3, h⟩ := h
  refine zt_iald C (za_mem (j := 38) rfl (by decide) (by decide)) (fun W9 => za_E_38 g cy W9 0 0) g3 dX10_burnt_68 ?_
  refine zt_icmp_ge C 124 dX10_burnt_69 (by decide) (fun q4 => ?_) (fun q4 => ?_)
  · replace h := za_ifp h q4
    refine zt_iload_n C 2 dX10_burnt_124 rfl rfl ?_
    refine zt_iload C 4 dX10_burnt_125 rfl ?_
    refine zt_if_eq C 136 dX10_burnt_127 (by decide) (fun q5 => ?_) (fun q5 => ?_)
    · replace h := za_ifp h q5
      refine zt_iconst C (v := 0) dX10_burnt_136 zk_i0 ?_
      refine zt_sub [0, 1, 3] (lv' := [(0, .ref (g (27, 0, 0))), (1, .int x1), (3, .int x3)]) rfl ?_
      exact p_X10_burnt_b137 hJ C hr hk hL45 h
    · replace h := za_ifn h q5
      refine zt_iconst C (v := 1) dX10_burnt_130 zk_i1 ?_
      refine zt_iload_n C 3 dX10_burnt_131 rfl rfl ?_
      refine zt_ishl C dX10_burnt_132 ?_
      refine zt_goto C 137 dX10_burnt_133 (by decide) ?_
      refine zt_sub [0, 1, 3] (lv' := [(0, .ref (g (27, 0, 0))), (1, .int x1), (3, .int x3)]) rfl ?_
      exact p_X10_burnt_b137 hJ C hr hk hL45 h
  · replace h := za_ifn h q4
    refine zt_aload_n C 0 dX10_burnt_72 rfl rfl ?_
    refine zt_get C (za_mem (j := 27) rfl (by decide) (by decide)) pf_X10_50 (za_E_27 g cy M 0 0) rfl dX10_burnt_73 ?_
    refine zt_bipush C (v := 40) dX10_burnt_76 zk_b40 ?_
    refine zt_iload_n C 1 dX10_burnt_78 rfl rfl ?_
    refine zt_imul C dX10_burnt_79 ?_
    refine zt_iload C 5 dX10_burnt_80 rfl ?_
    refine zt_iadd C dX10_burnt_82 ?_
    obtain ⟨g6, h⟩ := h
    refine zt_iald C (za_mem (j := 39) rfl (by decide) (by decide)) (fun W9 => za_E_39 g cy W9 0 0) g6 dX10_burnt_83 ?_
    refine zt_topi (fun y7 e8 => ?_)
    replace h := za_use h e8
    refine zt_istore C [(6, .int y7), (0, .ref (g (27, 0, 0))), (1, .int x1), (2, .int x2), (3, .int x3), (4, .int x4), (5, .int x5)] dX10_burnt_84 (by decide) rfl ?_
    refine zt_iload C 5 dX10_burnt_86 rfl ?_
    refine zt_if_eq C 115 dX10_burnt_88 (by decide) (fun q9 => ?_) (fun q9 => ?_)
    · replace h := za_ifp h q9
      refine zt_sub [1, 2, 3, 4, 6] (lv' := [(0, .ref (g (27, 0, 0))), (1, .int x1), (2, .int x2), (3, .int x3), (5, .int x5)]) rfl ?_
      exact p_X10_burnt_b115 hJ C hr hk hL45 hL61 h
    · replace h := za_ifn h q9
      refine zt_iload C 0 dX10_burnt_91 rfl ?_
      refine zt_if_lt C 111 dX10_burnt_93 (by decide) (fun q10 => ?_) (fun q10 => ?_)
      · replace h := za_ifp h q10
        refine zt_sub [1, 2, 3, 4, 6] (lv' := [(0, .ref (g (27, 0, 0))), (1, .int x1), (2, .int x2), (3, .int x3), (5, .int x5)]) rfl ?_
        exact p_X10_burnt_b111 hJ C hr hk hL45 hL61 h
      · replace h := za_ifn h q10
        refine zt_iload C 0 dX10_burnt_96 rfl ?_
        refine zt_aload_n C 1 dX10_burnt_98 rfl rfl ?_
        refine zt_iload_n C 4 dX10_burnt_99 rfl rfl ?_
        refine zt_iload C 6 dX10_burnt_100 rfl ?_
        refine zt_cVi C [.int x3, .int x5] (m_X10_colourOf hJ  h) (za_mem (j := 27) rfl (by decide) (by decide)) (za_E_27 g cy M 0 0) rfl py_X10_colourOf pv_X10_207 (Nat.le_of_ble_eq_true rfl) ⟨Nat.le_of_ble_eq_true rfl, Nat.le_of_ble_eq_true rfl⟩ ⟨Nat.zero_le _, Nat.zero_le _⟩ dX10_burnt_102 rfl (fun r12 M11 h => ?_)
        refine zt_cSi C [.int r12] (m_X10_rest hJ  h) py_X10_rest ps_X10_210 (Nat.le_of_ble_eq_true rfl) ⟨Nat.le_of_ble_eq_true rfl, Nat.le_of_ble_eq_true rfl⟩ ⟨Nat.zero_le _, Nat.zero_le _⟩ dX10_burnt_105 rfl (fun r14 M13 h => ?_)
        refine zt_icmp_ne C 115 dX10_burnt_108 (by decide) (fun q15 => ?_) (fun q15 => ?_)
        · replace h := za_ifn h q15
          refine zt_sub [1, 2, 3, 4, 6] (lv' := [(0, .ref (g (27, 0, 0))), (1, .int x1), (2, .int x2), (3, .int x3), (5, .int x5)]) rfl ?_
          exact p_X10_burnt_b115 hJ C hr hk hL45 hL61 h
        · replace h := za_ifp h q15
          refine zt_sub [1, 2, 3, 4, 6] (lv' := [(0, .ref (g (27, 0, 0))), (1, .int x1), (2, .int x2), (3, .int x3), (5, .int x5)]) rfl ?_
          exact p_X10_burnt_b111 hJ C hr hk hL45 hL61 h
theorem p_X10_burnt_b61_in (hJ : za_J g) (C : za_C p s m args c cX10_burnt 7 RX10 g D cy) (hr : meth.sig.returnType = (some .int)) (hk : meth.locks = false) {x1 : Int32} {x2 : Int32} {x3 : Int32} {L45 : Int32 → Int32 → za_M → Prop} (hL45 : ∀ (x2 : Int32) (x3 : Int32) (M : za_M), L45 x2 x3 M → zt p l e (za_rm 5 160) s m args below meth c 0 0 (MQ below (za_Qi g D cy K) args s 0 0 (za_A g)) g D cy 7 M 45 [(0, .ref (g (27, 0, 0))), (1, .int x1), (2, .int x2), (3, .int x3)] []) {n : Nat} {x4 : Int32} {x5 : Int32} {M : za_M} (h : za_lp2 (f_X10_burnt_b61 K L45 x1 x2 x3) n x4 x5 M) : zt p l e (za_rm 5 160) s m args below meth c 0 0 (MQ below (za_Qi g D cy K) args s 0 0 (za_A g)) g D cy 7 M 61 [(0, .ref (g (27, 0, 0))), (1, .int x1), (2, .int x2), (3, .int x3), (4, .int x4), (5, .int x5)] [] := za_lp2_run (Z := fun x4 x5 M => zt p l e (za_rm 5 160) s m args below meth c 0 0 (MQ below (za_Qi g D cy K) args s 0 0 (za_A g)) g D cy 7 M 61 [(0, .ref (g (27, 0, 0))), (1, .int x1), (2, .int x2), (3, .int x3), (4, .int x4), (5, .int x5)] []) (fun L hL => p_X10_burnt_b61 hJ C hr hk hL45 hL) n x4 x5 M h
set_option maxRecDepth 100000 in
set_option maxHeartbeats 4000000 in
theorem p_X10_burnt_b45 (hJ : za_J g) (C : za_C p s m args c cX10_burnt 7 RX10 g D cy) (hr : meth.sig.returnType = (some .int)) (hk : meth.locks = false) {x1 : Int32} {L45 : Int32 → Int32 → za_M → Prop} (hL45 : ∀ (x2 : Int32) (x3 : Int32) (M : za_M), L45 x2 x3 M → zt p l e (za_rm 5 160) s m args below meth c 0 0 (MQ below (za_Qi g D cy K) args s 0 0 (za_A g)) g D cy 7 M 45 [(0, .ref (g (27, 0, 0))), (1, .int x1), (2, .int x2), (3, .int x3)] []) : ∀ (x2 : Int32) (x3 : Int32) (M : za_M), f_X10_burnt_b45 K x1 L45 x2 x3 M → zt p l e (za_rm 5 160) s m args below meth c 0 0 (MQ below (za_Qi g D cy K) args s 0 0 (za_A g)) g D cy 7 M 45 [(0, .ref (g (27, 0, 0))), (1, .int x1), (2, .int x2), (3, .int x3)] [] := by
  intro x2 x3 M h
  unfold f_X10_burnt_b45 at h
  refine zt_iload_n C 3 dX10_burnt_45 rfl rfl ?_
  refine zt_aload_n C 0 dX10_burnt_46 rfl rfl ?_
  refine zt_get C (za_mem (j := 27) rfl (by decide) (by decide)) pf_X10_9 (za_E_27 g cy M 0 0) rfl dX10_burnt_47 ?_
  refine zt_iconst C (v := 1) dX10_burnt_50 zk_i1 ?_
  obtain ⟨g16, h⟩ := h
  refine zt_iald C (za_mem (j := 28) rfl (by decide) (by decide)) (fun W9 => za_E_28 g cy W9 0 0) g16 dX10_burnt_51 ?_
  refine zt_icmp_ge C 145 dX10_burnt_52 (by decide) (fun q17 => ?_) (fun q17 => ?_)
  · replace h := za_ifp h q17
    refine zt_iload_n C 2 dX10_burnt_145 rfl rfl ?_
    exact zt_ret C hr hk rfl dX10_burnt_146 h
  · replace h := za_ifn h q17
    refine zt_iconst C (v := 1) dX10_burnt_55 zk_i1 ?_
    refine zt_istore C [(4, .int 1), (0, .ref (g (27, 0, 0))), (1, .int x1), (2, .int x2), (3, .int x3)] dX10_burnt_56 (by decide) rfl ?_
    refine zt_iconst C (v := 0) dX10_burnt_58 zk_i0 ?_
    refine zt_istore C [(5, .int 0), (4, .int 1), (0, .ref (g (27, 0, 0))), (1, .int x1), (2, .int x2), (3, .int x3)] dX10_burnt_59 (by decide) rfl ?_
    refine zt_sub [2, 3, 4, 5, 1, 0] (lv' := [(0, .ref (g (27, 0, 0))), (1, .int x1), (2, .int x2), (3, .int x3), (4, .int 1), (5, .int 0)]) rfl ?_
    obtain ⟨n, h⟩ := h
    exact p_X10_burnt_b61_in hJ C hr hk hL45 h
theorem p_X10_burnt_b45_in (hJ : za_J g) (C : za_C p s m args c cX10_burnt 7 RX10 g D cy) (hr : meth.sig.returnType = (some .int)) (hk : meth.locks = false) {x1 : Int32} {n : Nat} {x2 : Int32} {x3 : Int32} {M : za_M} (h : za_lp2 (f_X10_burnt_b45 K x1) n x2 x3 M) : zt p l e (za_rm 5 160) s m args below meth c 0 0 (MQ below (za_Qi g D cy K) args s 0 0 (za_A g)) g D cy 7 M 45 [(0, .ref (g (27, 0, 0))), (1, .int x1), (2, .int x2), (3, .int x3)] [] := za_lp2_run (Z := fun x2 x3 M => zt p l e (za_rm 5 160) s m args below meth c 0 0 (MQ below (za_Qi g D cy K) args s 0 0 (za_A g)) g D cy 7 M 45 [(0, .ref (g (27, 0, 0))), (1, .int x1), (2, .int x2), (3, .int x3)] []) (fun L hL => p_X10_burnt_b45 hJ C hr hk  hL) n x2 x3 M h
set_option maxRecDepth 100000 in
set_option maxHeartbeats 4000000 in
theorem p_X10_burnt (hJ : za_J g) (C : za_C p s m args c cX10_burnt 7 RX10 g D cy) (hr : meth.sig.returnType = (some .int)) (hk : meth.locks = false) {x1 : Int32} {M : za_M} (h : f_X10_burnt x1 M K) : zt p l e (za_rm 5 160) s m args below meth c 0 0 (MQ below (za_Qi g D cy K) args s 0 0 (za_A g)) g D cy 7 M 0 [(0, .ref (g (27, 0, 0))), (1, .int x1)] [] := by
  unfold f_X10_burnt at h
  refine zt_iload_n C 1 dX10_burnt_0 rfl rfl ?_
  refine zt_cSi C [.int x1] (m_X10_isSheet hJ  h) py_X10_isSheet ps_X10_279 (Nat.le_of_ble_eq_true rfl) ⟨Nat.le_of_ble_eq_true rfl, Nat.le_of_ble_eq_true rfl⟩ ⟨Nat.zero_le _, Nat.zero_le _⟩ dX10_burnt_1 rfl (fun r19 M18 h => ?_)
  refine zt_if_ne C 14 dX10_burnt_4 (by decide) (fun q20 => ?_) (fun q20 => ?_)
  · replace h := za_ifn h q20
    refine zt_aload_n C 0 dX10_burnt_14 rfl rfl ?_
    refine zt_get C (za_mem (j := 27) rfl (by decide) (by decide)) pf_X10_44 (za_E_27 g cy M18 0 0) rfl dX10_burnt_15 ?_
    refine zt_iload_n C 1 dX10_burnt_18 rfl rfl ?_
    obtain ⟨g21, h⟩ := h
    refine zt_iald C (za_mem (j := 37) rfl (by decide) (by decide)) (fun W9 => za_E_37 g cy W9 0 0) g21 dX10_burnt_19 ?_
    refine zt_if_eq C 34 dX10_burnt_20 (by decide) (fun q22 => ?_) (fun q22 => ?_)
    · replace h := za_ifp h q22
      refine zt_aload_n C 0 dX10_burnt_34 rfl rfl ?_
      refine zt_ldc C w_1219 dX10_burnt_35 ?_
      refine zt_cVi C [.int (-1000000002)] (m_X10_finding hJ  h) (za_mem (j := 27) rfl (by decide) (by decide)) (za_E_27 g cy M18 0 0) rfl py_X10_finding pv_X10_75 (Nat.le_of_ble_eq_true rfl) ⟨Nat.le_of_ble_eq_true rfl, Nat.le_of_ble_eq_true rfl⟩ ⟨Nat.zero_le _, Nat.zero_le _⟩ dX10_burnt_37 rfl (fun r24 M23 h => ?_)
      exact zt_ret C hr hk rfl dX10_burnt_40 h
    · replace h := za_ifn h q22
      refine zt_aload_n C 0 dX10_burnt_23 rfl rfl ?_
      refine zt_get C (za_mem (j := 27) rfl (by decide) (by decide)) pf_X10_47 (za_E_27 g cy M18 0 0) rfl dX10_burnt_24 ?_
      refine zt_iload_n C 1 dX10_burnt_27 rfl rfl ?_
      obtain ⟨g25, h⟩ := h
      refine zt_iald C (za_mem (j := 38) rfl (by decide) (by decide)) (fun W9 => za_E_38 g cy W9 0 0) g25 dX10_burnt_28 ?_
      refine zt_bipush C (v := 10) dX10_burnt_29 zk_b10 ?_
      refine zt_icmp_le C 41 dX10_burnt_31 (by decide) (fun q26 => ?_) (fun q26 => ?_)
      · replace h := za_ifp h q26
        refine zt_iconst C (v := 0) dX10_burnt_41 zk_i0 ?_
        refine zt_istore_n C [(2, .int 0), (0, .ref (g (27, 0, 0))), (1, .int x1)] dX10_burnt_42 rfl (by decide) rfl ?_
        refine zt_iconst C (v := 0) dX10_burnt_43 zk_i0 ?_
        refine zt_istore_n C [(3, .int 0), (2, .int 0), (0, .ref (g (27, 0, 0))), (1, .int x1)] dX10_burnt_44 rfl (by decide) rfl ?_
        refine zt_sub [2, 3, 1, 0] (lv' := [(0, .ref (g (27, 0, 0))), (1, .int x1), (2, .int 0), (3, .int 0)]) rfl ?_
        obtain ⟨n, h⟩ := h
        exact p_X10_burnt_b45_in hJ C hr hk  h
      · replace h := za_ifn h q26
        refine zt_aload_n C 0 dX10_burnt_34 rfl rfl ?_
        refine zt_ldc C w_1219 dX10_burnt_35 ?_
        refine zt_cVi C [.int (-1000000002)] (m_X10_finding hJ  h) (za_mem (j := 27) rfl (by decide) (by decide)) (za_E_27 g cy M18 0 0) rfl py_X10_finding pv_X10_75 (Nat.le_of_ble_eq_true rfl) ⟨Nat.le_of_ble_eq_true rfl, Nat.le_of_ble_eq_true rfl⟩ ⟨Nat.zero_le _, Nat.zero_le _⟩ dX10_burnt_37 rfl (fun r28 M27 h => ?_)
        exact zt_ret C hr hk rfl dX10_burnt_40 h
  · replace h := za_ifp h q20
    refine zt_aload_n C 0 dX10_burnt_7 rfl rfl ?_
    refine zt_ldc C w_969 dX10_burnt_8 ?_
    refine zt_cVi C [.int (-1000000001)] (m_X10_finding hJ  h) (za_mem (j := 27) rfl (by decide) (by decide)) (za_E_27 g cy M18 0 0) rfl py_X10_finding pv_X10_75 (Nat.le_of_ble_eq_true rfl) ⟨Nat.le_of_ble_eq_true rfl, Nat.le_of_ble_eq_true rfl⟩ ⟨Nat.zero_le _, Nat.zero_le _⟩ dX10_burnt_10 rfl (fun r30 M29 h => ?_)
    exact zt_ret C hr hk rfl dX10_burnt_13 h
end
theorem m_X10_burnt {l : Launch} {g : za_L → Nat} {D : va_G} {cy : Nat → ClassId} (hJ : za_J g)  {x1 : Int32} {M : za_M} {K : Int32 → za_M → Prop} (h : f_X10_burnt x1 M K) : za_Mi l g D cy yX10_burnt cX10_burnt 7 (some .int) 5 160 [.ref (g (27, 0, 0)), .int x1] M K := za_openi hJ (by decide) (Nat.le_of_ble_eq_true rfl) (fun p e s m args below meth c C hr hk => p_X10_burnt hJ C hr hk  h)
/-! X10_has -/
def f_X10_has_b63 (K : Int32 → za_M → Prop) (L6 : Int32 → Int32 → za_M → Prop) (x1 : Int32) (x2 : Int32) (x3 : Int32) (x5 : Int32) (s0 : Int32) (s1 : Int32) (M : za_M) : Prop :=
  za_let (s0 + s1) fun y1 => L6 y1 (x5 + 1) M
def f_X10_has_b62 (K : Int32 → za_M → Prop) (L6 : Int32 → Int32 → za_M → Prop) (x1 : Int32) (x2 : Int32) (x3 : Int32) (x5 : Int32) (s0 : Int32) (M : za_M) : Prop :=
  f_X10_has_b63 K L6 x1 x2 x3 x5 s0 0 M
def f_X10_has_b6 (K : Int32 → za_M → Prop) (x1 : Int32) (x2 : Int32) (x3 : Int32) (L6 : Int32 → Int32 → za_M → Prop) (x4 : Int32) (x5 : Int32) (M : za_M) : Prop :=
  vp_in 3 279 ∧ (if (M.1 (28, 0, 0) (Int32.toNatClampNeg 3)) ≤ x5 then (K x4 M) else (f_X10_loanIs x5 1 M (fun r6 M5 => if r6 = x1 then (f_X10_loanIs x5 0 M5 (fun r9 M8 => if r9 = x2 then (f_X10_loanIs x5 2 M8 (fun r12 M11 => if r12 = x3 then (f_X10_loanIs x5 3 M11 (fun r15 M14 => f_X10_has_b63 K L6 x1 x2 x3 x5 x4 r15 M14)) else (f_X10_has_b62 K L6 x1 x2 x3 x5 x4 M11))) else (f_X10_has_b62 K L6 x1 x2 x3 x5 x4 M8))) else (f_X10_has_b62 K L6 x1 x2 x3 x5 x4 M5))))
def f_X10_has (x1 : Int32) (x2 : Int32) (x3 : Int32) (M : za_M) (K : Int32 → za_M → Prop) : Prop :=
  ∃ n, za_lp2 (f_X10_has_b6 K x1 x2 x3) n 0 0 M
section
variable {p : Program} {l : Launch} {e : Env} {s : State} {m : MethodId} {args : Array Value} {below : List Frame} {meth : Method} {c : Code} {g : za_L → Nat} {D : va_G} {cy : Nat → ClassId} {K : Int32 → za_M → Prop}
set_option maxRecDepth 100000 in
set_option maxHeartbeats 4000000 in
theorem p_X10_has_b63 (hJ : za_J g) (C : za_C p s m args c cX10_has 6 RX10 g D cy) (hr : meth.sig.returnType = (some .int)) (hk : meth.locks = false) {x1 : Int32} {x2 : Int32} {x3 : Int32} {x5 : Int32} {s0 : Int32} {s1 : Int32} {L6 : Int32 → Int32 → za_M → Prop} (hL6 : ∀ (x4 : Int32) (x5 : Int32) (M : za_M), L6 x4 x5 M → zt p l e (za_rm 3 107) s m args below meth c 0 0 (MQ below (za_Qi g D cy K) args s 0 0 (za_A g)) g D cy 6 M 6 [(0, .ref (g (27, 0, 0))), (1, .int x1), (2, .int x2), (3, .int x3), (4, .int x4), (5, .int x5)] []) {M : za_M} (h : f_X10_has_b63 K L6 x1 x2 x3 x5 s0 s1 M) : zt p l e (za_rm 3 107) s m args below meth c 0 0 (MQ below (za_Qi g D cy K) args s 0 0 (za_A g)) g D cy 6 M 63 [(0, .ref (g (27, 0, 0))), (1, .int x1), (2, .int x2), (3, .int x3), (5, .int x5)] [.int s1, .int s0] := by
  unfold f_X10_has_b63 at h
  refine zt_iadd C dX10_has_63 ?_
  refine zt_topi (fun y1 e2 => ?_)
  replace h := za_use h e2
  refine zt_istore C [(4, .int y1), (0, .ref (g (27, 0, 0))), (1, .int x1), (2, .int x2), (3, .int x3), (5, .int x5)] dX10_has_64 (by decide) rfl ?_
  refine zt_iinc C (v := x5 + 1) 5 [(5, .int (x5 + 1)), (4, .int y1), (0, .ref (g (27, 0, 0))), (1, .int x1), (2, .int x2), (3, .int x3)] dX10_has_66 rfl (zk_n1 _) (by decide) rfl ?_
  refine zt_goto C 6 dX10_has_69 (by decide) ?_
  refine zt_sub [2, 3, 4, 5, 1, 0] (lv' := [(0, .ref (g (27, 0, 0))), (1, .int x1), (2, .int x2), (3, .int x3), (4, .int y1), (5, .int (x5 + 1))]) rfl ?_
  exact hL6 _ _ _ h
set_option maxRecDepth 100000 in
set_option maxHeartbeats 4000000 in
theorem p_X10_has_b62 (hJ : za_J g) (C : za_C p s m args c cX10_has 6 RX10 g D cy) (hr : meth.sig.returnType = (some .int)) (hk : meth.locks = false) {x1 : Int32} {x2 : Int32} {x3 : Int32} {x5 : Int32} {s0 : Int32} {L6 : Int32 → Int32 → za_M → Prop} (hL6 : ∀ (x4 : Int32) (x5 : Int32) (M : za_M), L6 x4 x5 M → zt p l e (za_rm 3 107) s m args below meth c 0 0 (MQ below (za_Qi g D cy K) args s 0 0 (za_A g)) g D cy 6 M 6 [(0, .ref (g (27, 0, 0))), (1, .int x1), (2, .int x2), (3, .int x3), (4, .int x4), (5, .int x5)] []) {M : za_M} (h : f_X10_has_b62 K L6 x1 x2 x3 x5 s0 M) : zt p l e (za_rm 3 107) s m args below meth c 0 0 (MQ below (za_Qi g D cy K) args s 0 0 (za_A g)) g D cy 6 M 62 [(0, .ref (g (27, 0, 0))), (1, .int x1), (2, .int x2), (3, .int x3), (5, .int x5)] [.int s0] := by
  unfold f_X10_has_b62 at h
  refine zt_iconst C (v := 0) dX10_has_62 zk_i0 ?_
  exact p_X10_has_b63 hJ C hr hk hL6 h
set_option maxRecDepth 100000 in
set_option maxHeartbeats 4000000 in
theorem p_X10_has_b6 (hJ : za_J g) (C : za_C p s m args c cX10_has 6 RX10 g D cy) (hr : meth.sig.returnType = (some .int)) (hk : meth.locks = false) {x1 : Int32} {x2 : Int32} {x3 : Int32} {L6 : Int32 → Int32 → za_M → Prop} (hL6 : ∀ (x4 : Int32) (x5 : Int32) (M : za_M), L6 x4 x5 M → zt p l e (za_rm 3 107) s m args below meth c 0 0 (MQ below (za_Qi g D cy K) args s 0 0 (za_A g)) g D cy 6 M 6 [(0, .ref (g (27, 0, 0))), (1, .int x1), (2, .int x2), (3, .int x3), (4, .int x4), (5, .int x5)] []) : ∀ (x4 : Int32) (x5 : Int32) (M : za_M), f_X10_has_b6 K x1 x2 x3 L6 x4 x5 M → zt p l e (za_rm 3 107) s m args below meth c 0 0 (MQ below (za_Qi g D cy K) args s 0 0 (za_A g)) g D cy 6 M 6 [(0, .ref (g (27, 0, 0))), (1, .int x1), (2, .int x2), (3, .int x3), (4, .int x4), (5, .int x5)] [] := by
  intro x4 x5 M h
  unfold f_X10_has_b6 at h
  refine zt_iload C 5 dX10_has_6 rfl ?_
  refine zt_aload_n C 0 dX10_has_8 rfl rfl ?_
  refine zt_get C (za_mem (j := 27) rfl (by decide) (by decide)) pf_X10_9 (za_E_27 g cy M 0 0) rfl dX10_has_9 ?_
  refine zt_iconst C (v := 3) dX10_has_12 zk_i3 ?_
  obtain ⟨g3, h⟩ := h
  refine zt_iald C (za_mem (j := 28) rfl (by decide) (by decide)) (fun W9 => za_E_28 g cy W9 0 0) g3 dX10_has_13 ?_
  refine zt_icmp_ge C 72 dX10_has_14 (by decide) (fun q4 => ?_) (fun q4 => ?_)
  · replace h := za_ifp h q4
    refine zt_iload C 4 dX10_has_72 rfl ?_
    exact zt_ret C hr hk rfl dX10_has_74 h
  · replace h := za_ifn h q4
    refine zt_iload C 4 dX10_has_17 rfl ?_
    refine zt_aload_n C 0 dX10_has_19 rfl rfl ?_
    refine zt_iload C 5 dX10_has_20 rfl ?_
    refine zt_iconst C (v := 1) dX10_has_22 zk_i1 ?_
    refine zt_cVi C [.int x5, .int 1] (m_X10_loanIs hJ  h) (za_mem (j := 27) rfl (by decide) (by decide)) (za_E_27 g cy M 0 0) rfl py_X10_loanIs pv_X10_194 (Nat.le_of_ble_eq_true rfl) ⟨Nat.le_of_ble_eq_true rfl, Nat.le_of_ble_eq_true rfl⟩ ⟨Nat.zero_le _, Nat.zero_le _⟩ dX10_has_23 rfl (fun r6 M5 h => ?_)
    refine zt_iload_n C 1 dX10_has_26 rfl rfl ?_
    refine zt_icmp_ne C 62 dX10_has_27 (by decide) (fun q7 => ?_) (fun q7 => ?_)
    · replace h := za_ifn h q7
      refine zt_sub [0, 1, 2, 3, 5] (lv' := [(0, .ref (g (27, 0, 0))), (1, .int x1), (2, .int x2), (3, .int x3), (5, .int x5)]) rfl ?_
      exact p_X10_has_b62 hJ C hr hk hL6 h
    · replace h := za_ifp h q7
      refine zt_aload_n C 0 dX10_has_30 rfl rfl ?_
      refine zt_iload C 5 dX10_has_31 rfl ?_
      refine zt_iconst C (v := 0) dX10_has_33 zk_i0 ?_
      refine zt_cVi C [.int x5, .int 0] (m_X10_loanIs hJ  h) (za_mem (j := 27) rfl (by decide) (by decide)) (za_E_27 g cy M5 0 0) rfl py_X10_loanIs pv_X10_194 (Nat.le_of_ble_eq_true rfl) ⟨Nat.le_of_ble_eq_true rfl, Nat.le_of_ble_eq_true rfl⟩ ⟨Nat.zero_le _, Nat.zero_le _⟩ dX10_has_34 rfl (fun r9 M8 h => ?_)
      refine zt_iload_n C 2 dX10_has_37 rfl rfl ?_
      refine zt_icmp_ne C 62 dX10_has_38 (by decide) (fun q10 => ?_) (fun q10 => ?_)
      · replace h := za_ifn h q10
        refine zt_sub [0, 1, 2, 3, 5] (lv' := [(0, .ref (g (27, 0, 0))), (1, .int x1), (2, .int x2), (3, .int x3), (5, .int x5)]) rfl ?_
        exact p_X10_has_b62 hJ C hr hk hL6 h
      · replace h := za_ifp h q10
        refine zt_aload_n C 0 dX10_has_41 rfl rfl ?_
        refine zt_iload C 5 dX10_has_42 rfl ?_
        refine zt_iconst C (v := 2) dX10_has_44 zk_i2 ?_
        refine zt_cVi C [.int x5, .int 2] (m_X10_loanIs hJ  h) (za_mem (j := 27) rfl (by decide) (by decide)) (za_E_27 g cy M8 0 0) rfl py_X10_loanIs pv_X10_194 (Nat.le_of_ble_eq_true rfl) ⟨Nat.le_of_ble_eq_true rfl, Nat.le_of_ble_eq_true rfl⟩ ⟨Nat.zero_le _, Nat.zero_le _⟩ dX10_has_45 rfl (fun r12 M11 h => ?_)
        refine zt_iload_n C 3 dX10_has_48 rfl rfl ?_
        refine zt_icmp_ne C 62 dX10_has_49 (by decide) (fun q13 => ?_) (fun q13 => ?_)
        · replace h := za_ifn h q13
          refine zt_sub [0, 1, 2, 3, 5] (lv' := [(0, .ref (g (27, 0, 0))), (1, .int x1), (2, .int x2), (3, .int x3), (5, .int x5)]) rfl ?_
          exact p_X10_has_b62 hJ C hr hk hL6 h
        · replace h := za_ifp h q13
          refine zt_aload_n C 0 dX10_has_52 rfl rfl ?_
          refine zt_iload C 5 dX10_has_53 rfl ?_
          refine zt_iconst C (v := 3) dX10_has_55 zk_i3 ?_
          refine zt_cVi C [.int x5, .int 3] (m_X10_loanIs hJ  h) (za_mem (j := 27) rfl (by decide) (by decide)) (za_E_27 g cy M11 0 0) rfl py_X10_loanIs pv_X10_194 (Nat.le_of_ble_eq_true rfl) ⟨Nat.le_of_ble_eq_true rfl, Nat.le_of_ble_eq_true rfl⟩ ⟨Nat.zero_le _, Nat.zero_le _⟩ dX10_has_56 rfl (fun r15 M14 h => ?_)
          refine zt_goto C 63 dX10_has_59 (by decide) ?_
          refine zt_sub [0, 1, 2, 3, 5] (lv' := [(0, .ref (g (27, 0, 0))), (1, .int x1), (2, .int x2), (3, .int x3), (5, .int x5)]) rfl ?_
          exact p_X10_has_b63 hJ C hr hk hL6 h
theorem p_X10_has_b6_in (hJ : za_J g) (C : za_C p s m args c cX10_has 6 RX10 g D cy) (hr : meth.sig.returnType = (some .int)) (hk : meth.locks = false) {x1 : Int32} {x2 : Int32} {x3 : Int32} {n : Nat} {x4 : Int32} {x5 : Int32} {M : za_M} (h : za_lp2 (f_X10_has_b6 K x1 x2 x3) n x4 x5 M) : zt p l e (za_rm 3 107) s m args below meth c 0 0 (MQ below (za_Qi g D cy K) args s 0 0 (za_A g)) g D cy 6 M 6 [(0, .ref (g (27, 0, 0))), (1, .int x1), (2, .int x2), (3, .int x3), (4, .int x4), (5, .int x5)] [] := za_lp2_run (Z := fun x4 x5 M => zt p l e (za_rm 3 107) s m args below meth c 0 0 (MQ below (za_Qi g D cy K) args s 0 0 (za_A g)) g D cy 6 M 6 [(0, .ref (g (27, 0, 0))), (1, .int x1), (2, .int x2), (3, .int x3), (4, .int x4), (5, .int x5)] []) (fun L hL => p_X10_has_b6 hJ C hr hk  hL) n x4 x5 M h
set_option maxRecDepth 100000 in
set_option maxHeartbeats 4000000 in
theorem p_X10_has (hJ : za_J g) (C : za_C p s m args c cX10_has 6 RX10 g D cy) (hr : meth.sig.returnType = (some .int)) (hk : meth.locks = false) {x1 : Int32} {x2 : Int32} {x3 : Int32} {M : za_M} (h : f_X10_has x1 x2 x3 M K) : zt p l e (za_rm 3 107) s m args below meth c 0 0 (MQ below (za_Qi g D cy K) args s 0 0 (za_A g)) g D cy 6 M 0 [(0, .ref (g (27, 0, 0))), (1, .int x1), (2, .int x2), (3, .int x3)] [] := by
  unfold f_X10_has at h
  refine zt_iconst C (v := 0) dX10_has_0 zk_i0 ?_
  refine zt_istore C [(4, .int 0), (0, .ref (g (27, 0, 0))), (1, .int x1), (2, .int x2), (3, .int x3)] dX10_has_1 (by decide) rfl ?_
  refine zt_iconst C (v := 0) dX10_has_3 zk_i0 ?_
  refine zt_istore C [(5, .int 0), (4, .int 0), (0, .ref (g (27, 0, 0))), (1, .int x1), (2, .int x2), (3, .int x3)] dX10_has_4 (by decide) rfl ?_
  refine zt_sub [2, 3, 4, 5, 1, 0] (lv' := [(0, .ref (g (27, 0, 0))), (1, .int x1), (2, .int x2), (3, .int x3), (4, .int 0), (5, .int 0)]) rfl ?_
  obtain ⟨n, h⟩ := h
  exact p_X10_has_b6_in hJ C hr hk  h
end
theorem m_X10_has {l : Launch} {g : za_L → Nat} {D : va_G} {cy : Nat → ClassId} (hJ : za_J g)  {x1 : Int32} {x2 : Int32} {x3 : Int32} {M : za_M} {K : Int32 → za_M → Prop} (h : f_X10_has x1 x2 x3 M K) : za_Mi l g D cy yX10_has cX10_has 6 (some .int) 3 107 [.ref (g (27, 0, 0)), .int x1, .int x2, .int x3] M K := za_openi hJ (by decide) (Nat.le_of_ble_eq_true rfl) (fun p e s m args below meth c C hr hk => p_X10_has hJ C hr hk  h)

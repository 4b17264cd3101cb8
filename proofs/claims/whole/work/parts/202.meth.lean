/-! X1_brokenOfAll -/
def f_X1_brokenOfAll_b4 (K : Int32 → za_M → Prop) (c0 : Nat) (L4 : Int32 → Int32 → za_M → Prop) (x1 : Int32) (x2 : Int32) (M : za_M) : Prop :=
  if (M.1 (2, c0, 0) 4) ≤ x2 then (K x1 M) else (vp_in x2 4 ∧ (za_let (x1 + (M.1 (4, c0, x2.toNatClampNeg) 2)) fun y3 => L4 y3 (x2 + 1) M))
def f_X1_brokenOfAll (c0 : Nat) (M : za_M) (K : Int32 → za_M → Prop) : Prop :=
  ∃ n, za_lp2 (f_X1_brokenOfAll_b4 K c0) n 0 0 M
section
variable {p : Program} {l : Launch} {e : Env} {s : State} {m : MethodId} {args : Array Value} {below : List Frame} {meth : Method} {c : Code} {g : za_L → Nat} {D : va_G} {cy : Nat → ClassId} {K : Int32 → za_M → Prop}
set_option maxRecDepth 100000 in
set_option maxHeartbeats 4000000 in
theorem p_X1_brokenOfAll_b4 (hJ : za_J g) (C : za_C p s m args c cX1_brokenOfAll 3 RX1 g D cy) (hr : meth.sig.returnType = (some .int)) (hk : meth.locks = false) {c0 : Nat} (hc0 : c0 < 3) {L4 : Int32 → Int32 → za_M → Prop} (hL4 : ∀ (x1 : Int32) (x2 : Int32) (M : za_M), L4 x1 x2 M → zt p l e (za_rm 1 64) s m args below meth c 0 0 (MQ below (za_Qi g D cy K) args s 0 0 (za_A g)) g D cy 3 M 4 [(0, .ref (g (2, c0, 0))), (1, .int x1), (2, .int x2)] []) : ∀ (x1 : Int32) (x2 : Int32) (M : za_M), f_X1_brokenOfAll_b4 K c0 L4 x1 x2 M → zt p l e (za_rm 1 64) s m args below meth c 0 0 (MQ below (za_Qi g D cy K) args s 0 0 (za_A g)) g D cy 3 M 4 [(0, .ref (g (2, c0, 0))), (1, .int x1), (2, .int x2)] [] := by
  intro x1 x2 M h
  unfold f_X1_brokenOfAll_b4 at h
  refine zt_iload_n C 2 dX1_brokenOfAll_4 rfl rfl ?_
  refine zt_aload_n C 0 dX1_brokenOfAll_5 rfl rfl ?_
  refine zt_get C (za_mem (j := 2) rfl hc0 (by decide)) pf_X1_36 (za_E_2 g cy M c0 0) rfl dX1_brokenOfAll_6 ?_
  refine zt_icmp_ge C 30 dX1_brokenOfAll_9 (by decide) (fun q1 => ?_) (fun q1 => ?_)
  · replace h := za_ifp h q1
    refine zt_iload_n C 1 dX1_brokenOfAll_30 rfl rfl ?_
    exact zt_ret C hr hk rfl dX1_brokenOfAll_31 h
  · replace h := za_ifn h q1
    refine zt_iload_n C 1 dX1_brokenOfAll_12 rfl rfl ?_
    refine zt_aload_n C 0 dX1_brokenOfAll_13 rfl rfl ?_
    refine zt_get C (za_mem (j := 2) rfl hc0 (by decide)) pf_X1_19 (za_E_2 g cy M c0 0) rfl dX1_brokenOfAll_14 ?_
    refine zt_iload_n C 2 dX1_brokenOfAll_17 rfl rfl ?_
    obtain ⟨g2, h⟩ := h
    refine zt_aald C (za_mem (j := 11) rfl hc0 (by decide)) (za_E_11 g cy M c0 0) rfl g2 dX1_brokenOfAll_18 ?_
    refine zt_get C (za_mem (j := 4) rfl hc0 (za_lt g2)) pf_X1_66 (za_E_4 g cy M c0 x2.toNatClampNeg) rfl dX1_brokenOfAll_19 ?_
    refine zt_iadd C dX1_brokenOfAll_22 ?_
    refine zt_topi (fun y3 e4 => ?_)
    replace h := za_use h e4
    refine zt_istore_n C [(1, .int y3), (0, .ref (g (2, c0, 0))), (2, .int x2)] dX1_brokenOfAll_23 rfl (by decide) rfl ?_
    refine zt_iinc C (v := x2 + 1) 2 [(2, .int (x2 + 1)), (1, .int y3), (0, .ref (g (2, c0, 0)))] dX1_brokenOfAll_24 rfl (zk_n1 _) (by decide) rfl ?_
    refine zt_goto C 4 dX1_brokenOfAll_27 (by decide) ?_
    refine zt_sub [2, 1, 0] (lv' := [(0, .ref (g (2, c0, 0))), (1, .int y3), (2, .int (x2 + 1))]) rfl ?_
    exact hL4 _ _ _ h
theorem p_X1_brokenOfAll_b4_in (hJ : za_J g) (C : za_C p s m args c cX1_brokenOfAll 3 RX1 g D cy) (hr : meth.sig.returnType = (some .int)) (hk : meth.locks = false) {c0 : Nat} (hc0 : c0 < 3) {n : Nat} {x1 : Int32} {x2 : Int32} {M : za_M} (h : za_lp2 (f_X1_brokenOfAll_b4 K c0) n x1 x2 M) : zt p l e (za_rm 1 64) s m args below meth c 0 0 (MQ below (za_Qi g D cy K) args s 0 0 (za_A g)) g D cy 3 M 4 [(0, .ref (g (2, c0, 0))), (1, .int x1), (2, .int x2)] [] := za_lp2_run (Z := fun x1 x2 M => zt p l e (za_rm 1 64) s m args below meth c 0 0 (MQ below (za_Qi g D cy K) args s 0 0 (za_A g)) g D cy 3 M 4 [(0, .ref (g (2, c0, 0))), (1, .int x1), (2, .int x2)] []) (fun L hL => p_X1_brokenOfAll_b4 hJ C hr hk hc0 hL) n x1 x2 M h
set_option maxRecDepth 100000 in
set_option maxHeartbeats 4000000 in
theorem p_X1_brokenOfAll (hJ : za_J g) (C : za_C p s m args c cX1_brokenOfAll 3 RX1 g D cy) (hr : meth.sig.returnType = (some .int)) (hk : meth.locks = false) {c0 : Nat} (hc0 : c0 < 3) {M : za_M} (h : f_X1_brokenOfAll c0 M K) : zt p l e (za_rm 1 64) s m args below meth c 0 0 (MQ below (za_Qi g D cy K) args s 0 0 (za_A g)) g D cy 3 M 0 [(0, .ref (g (2, c0, 0)))] [] := by
  unfold f_X1_brokenOfAll at h
  refine zt_iconst C (v := 0) dX1_brokenOfAll_0 zk_i0 ?_
  refine zt_istore_n C [(1, .int 0), (0, .ref (g (2, c0, 0)))] dX1_brokenOfAll_1 rfl (by decide) rfl ?_
  refine zt_iconst C (v := 0) dX1_brokenOfAll_2 zk_i0 ?_
  refine zt_istore_n C [(2, .int 0), (1, .int 0), (0, .ref (g (2, c0, 0)))] dX1_brokenOfAll_3 rfl (by decide) rfl ?_
  refine zt_sub [2, 1, 0] (lv' := [(0, .ref (g (2, c0, 0))), (1, .int 0), (2, .int 0)]) rfl ?_
  obtain ⟨n, h⟩ := h
  exact p_X1_brokenOfAll_b4_in hJ C hr hk hc0 h
end
theorem m_X1_brokenOfAll {l : Launch} {g : za_L → Nat} {D : va_G} {cy : Nat → ClassId} (hJ : za_J g)  {c0 : Nat} (hc0 : c0 < 3) {M : za_M} {K : Int32 → za_M → Prop} (h : f_X1_brokenOfAll c0 M K) : za_Mi l g D cy yX1_brokenOfAll cX1_brokenOfAll 3 (some .int) 1 64 [.ref (g (2, c0, 0))] M K := za_openi hJ (by decide) (Nat.le_of_ble_eq_true rfl) (fun p e s m args below meth c C hr hk => p_X1_brokenOfAll hJ C hr hk hc0 h)
/-! X1_loansHeldBy -/
def f_X1_loansHeldBy_b31 (K : Int32 → za_M → Prop) (L4 : Int32 → Int32 → za_M → Prop) (c0 : Nat) (x1 : Int32) (x3 : Int32) (s0 : Int32) (s1 : Int32) (M : za_M) : Prop :=
  za_let (s0 + s1) fun y1 => L4 y1 (x3 + 1) M
def f_X1_loansHeldBy_b4 (K : Int32 → za_M → Prop) (c0 : Nat) (x1 : Int32) (L4 : Int32 → Int32 → za_M → Prop) (x2 : Int32) (x3 : Int32) (M : za_M) : Prop :=
  if (M.1 (2, c0, 0) 5) ≤ x3 then (K x2 M) else (vp_in x3 10 ∧ (if (M.1 (5, c0, (M.2 c0 x3.toNatClampNeg % 10)) 1) = x1 then (f_X1_loansHeldBy_b31 K L4 c0 x1 x3 x2 1 M) else (f_X1_loansHeldBy_b31 K L4 c0 x1 x3 x2 0 M)))
def f_X1_loansHeldBy (c0 : Nat) (x1 : Int32) (M : za_M) (K : Int32 → za_M → Prop) : Prop :=
  ∃ n, za_lp2 (f_X1_loansHeldBy_b4 K c0 x1) n 0 0 M
section
variable {p : Program} {l : Launch} {e : Env} {s : State} {m : MethodId} {args : Array Value} {below : List Frame} {meth : Method} {c : Code} {g : za_L → Nat} {D : va_G} {cy : Nat → ClassId} {K : Int32 → za_M → Prop}
set_option maxRecDepth 100000 in
set_option maxHeartbeats 4000000 in
theorem p_X1_loansHeldBy_b31 (hJ : za_J g) (C : za_C p s m args c cX1_loansHeldBy 4 RX1 g D cy) (hr : meth.sig.returnType = (some .int)) (hk : meth.locks = false) {c0 : Nat} (hc0 : c0 < 3) {x1 : Int32} {x3 : Int32} {s0 : Int32} {s1 : Int32} {L4 : Int32 → Int32 → za_M → Prop} (hL4 : ∀ (x2 : Int32) (x3 : Int32) (M : za_M), L4 x2 x3 M → zt p l e (za_rm 1 64) s m args below meth c 0 0 (MQ below (za_Qi g D cy K) args s 0 0 (za_A g)) g D cy 4 M 4 [(0, .ref (g (2, c0, 0))), (1, .int x1), (2, .int x2), (3, .int x3)] []) {M : za_M} (h : f_X1_loansHeldBy_b31 K L4 c0 x1 x3 s0 s1 M) : zt p l e (za_rm 1 64) s m args below meth c 0 0 (MQ below (za_Qi g D cy K) args s 0 0 (za_A g)) g D cy 4 M 31 [(0, .ref (g (2, c0, 0))), (1, .int x1), (3, .int x3)] [.int s1, .int s0] := by
  unfold f_X1_loansHeldBy_b31 at h
  refine zt_iadd C dX1_loansHeldBy_31 ?_
  refine zt_topi (fun y1 e2 => ?_)
  replace h := za_use h e2
  refine zt_istore_n C [(2, .int y1), (0, .ref (g (2, c0, 0))), (1, .int x1), (3, .int x3)] dX1_loansHeldBy_32 rfl (by decide) rfl ?_
  refine zt_iinc C (v := x3 + 1) 3 [(3, .int (x3 + 1)), (2, .int y1), (0, .ref (g (2, c0, 0))), (1, .int x1)] dX1_loansHeldBy_33 rfl (zk_n1 _) (by decide) rfl ?_
  refine zt_goto C 4 dX1_loansHeldBy_36 (by decide) ?_
  refine zt_sub [2, 3, 1, 0] (lv' := [(0, .ref (g (2, c0, 0))), (1, .int x1), (2, .int y1), (3, .int (x3 + 1))]) rfl ?_
  exact hL4 _ _ _ h
set_option maxRecDepth 100000 in
set_option maxHeartbeats 4000000 in
theorem p_X1_loansHeldBy_b4 (hJ : za_J g) (C : za_C p s m args c cX1_loansHeldBy 4 RX1 g D cy) (hr : meth.sig.returnType = (some .int)) (hk : meth.locks = false) {c0 : Nat} (hc0 : c0 < 3) {x1 : Int32} {L4 : Int32 → Int32 → za_M → Prop} (hL4 : ∀ (x2 : Int32) (x3 : Int32) (M : za_M), L4 x2 x3 M → zt p l e (za_rm 1 64) s m args below meth c 0 0 (MQ below (za_Qi g D cy K) args s 0 0 (za_A g)) g D cy 4 M 4 [(0, .ref (g (2, c0, 0))), (1, .int x1), (2, .int x2), (3, .int x3)] []) : ∀ (x2 : Int32) (x3 : Int32) (M : za_M), f_X1_loansHeldBy_b4 K c0 x1 L4 x2 x3 M → zt p l e (za_rm 1 64) s m args below meth c 0 0 (MQ below (za_Qi g D cy K) args s 0 0 (za_A g)) g D cy 4 M 4 [(0, .ref (g (2, c0, 0))), (1, .int x1), (2, .int x2), (3, .int x3)] [] := by
  intro x2 x3 M h
  unfold f_X1_loansHeldBy_b4 at h
  refine zt_iload_n C 3 dX1_loansHeldBy_4 rfl rfl ?_
  refine zt_aload_n C 0 dX1_loansHeldBy_5 rfl rfl ?_
  refine zt_get C (za_mem (j := 2) rfl hc0 (by decide)) pf_X1_39 (za_E_2 g cy M c0 0) rfl dX1_loansHeldBy_6 ?_
  refine zt_icmp_ge C 39 dX1_loansHeldBy_9 (by decide) (fun q3 => ?_) (fun q3 => ?_)
  · replace h := za_ifp h q3
    refine zt_iload_n C 2 dX1_loansHeldBy_39 rfl rfl ?_
    exact zt_ret C hr hk rfl dX1_loansHeldBy_40 h
  · replace h := za_ifn h q3
    refine zt_iload_n C 2 dX1_loansHeldBy_12 rfl rfl ?_
    refine zt_aload_n C 0 dX1_loansHeldBy_13 rfl rfl ?_
    refine zt_get C (za_mem (j := 2) rfl hc0 (by decide)) pf_X1_25 (za_E_2 g cy M c0 0) rfl dX1_loansHeldBy_14 ?_
    refine zt_iload_n C 3 dX1_loansHeldBy_17 rfl rfl ?_
    obtain ⟨g4, h⟩ := h
    refine zt_aald C (za_mem (j := 12) rfl hc0 (by decide)) (za_E_12 g cy M c0 0) rfl g4 dX1_loansHeldBy_18 ?_
    refine zt_get C (za_mem (j := 5) rfl hc0 (Nat.mod_lt _ (by decide))) pf_X1_69 (za_E_5 g cy M c0 (M.2 c0 x3.toNatClampNeg % 10)) rfl dX1_loansHeldBy_19 ?_
    refine zt_iload_n C 1 dX1_loansHeldBy_22 rfl rfl ?_
    refine zt_icmp_ne C 30 dX1_loansHeldBy_23 (by decide) (fun q5 => ?_) (fun q5 => ?_)
    · replace h := za_ifn h q5
      refine zt_iconst C (v := 0) dX1_loansHeldBy_30 zk_i0 ?_
      refine zt_sub [0, 1, 3] (lv' := [(0, .ref (g (2, c0, 0))), (1, .int x1), (3, .int x3)]) rfl ?_
      exact p_X1_loansHeldBy_b31 hJ C hr hk hc0 hL4 h
    · replace h := za_ifp h q5
      refine zt_iconst C (v := 1) dX1_loansHeldBy_26 zk_i1 ?_
      refine zt_goto C 31 dX1_loansHeldBy_27 (by decide) ?_
      refine zt_sub [0, 1, 3] (lv' := [(0, .ref (g (2, c0, 0))), (1, .int x1), (3, .int x3)]) rfl ?_
      exact p_X1_loansHeldBy_b31 hJ C hr hk hc0 hL4 h
theorem p_X1_loansHeldBy_b4_in (hJ : za_J g) (C : za_C p s m args c cX1_loansHeldBy 4 RX1 g D cy) (hr : meth.sig.returnType = (some .int)) (hk : meth.locks = false) {c0 : Nat} (hc0 : c0 < 3) {x1 : Int32} {n : Nat} {x2 : Int32} {x3 : Int32} {M : za_M} (h : za_lp2 (f_X1_loansHeldBy_b4 K c0 x1) n x2 x3 M) : zt p l e (za_rm 1 64) s m args below meth c 0 0 (MQ below (za_Qi g D cy K) args s 0 0 (za_A g)) g D cy 4 M 4 [(0, .ref (g (2, c0, 0))), (1, .int x1), (2, .int x2), (3, .int x3)] [] := za_lp2_run (Z := fun x2 x3 M => zt p l e (za_rm 1 64) s m args below meth c 0 0 (MQ below (za_Qi g D cy K) args s 0 0 (za_A g)) g D cy 4 M 4 [(0, .ref (g (2, c0, 0))), (1, .int x1), (2, .int x2), (3, .int x3)] []) (fun L hL => p_X1_loansHeldBy_b4 hJ C hr hk hc0 hL) n x2 x3 M h
set_option maxRecDepth 100000 in
set_option maxHeartbeats 4000000 in
theorem p_X1_loansHeldBy (hJ : za_J g) (C : za_C p s m args c cX1_loansHeldBy 4 RX1 g D cy) (hr : meth.sig.returnType = (some .int)) (hk : meth.locks = false) {c0 : Nat} (hc0 : c0 < 3) {x1 : Int32} {M : za_M} (h : f_X1_loansHeldBy c0 x1 M K) : zt p l e (za_rm 1 64) s m args below meth c 0 0 (MQ below (za_Qi g D cy K) args s 0 0 (za_A g)) g D cy 4 M 0 [(0, .ref (g (2, c0, 0))), (1, .int x1)] [] := by
  unfold f_X1_loansHeldBy at h
  refine zt_iconst C (v := 0) dX1_loansHeldBy_0 zk_i0 ?_
  refine zt_istore_n C [(2, .int 0), (0, .ref (g (2, c0, 0))), (1, .int x1)] dX1_loansHeldBy_1 rfl (by decide) rfl ?_
  refine zt_iconst C (v := 0) dX1_loansHeldBy_2 zk_i0 ?_
  refine zt_istore_n C [(3, .int 0), (2, .int 0), (0, .ref (g (2, c0, 0))), (1, .int x1)] dX1_loansHeldBy_3 rfl (by decide) rfl ?_
  refine zt_sub [2, 3, 1, 0] (lv' := [(0, .ref (g (2, c0, 0))), (1, .int x1), (2, .int 0), (3, .int 0)]) rfl ?_
  obtain ⟨n, h⟩ := h
  exact p_X1_loansHeldBy_b4_in hJ C hr hk hc0 h
end
theorem m_X1_loansHeldBy {l : Launch} {g : za_L → Nat} {D : va_G} {cy : Nat → ClassId} (hJ : za_J g)  {c0 : Nat} (hc0 : c0 < 3) {x1 : Int32} {M : za_M} {K : Int32 → za_M → Prop} (h : f_X1_loansHeldBy c0 x1 M K) : za_Mi l g D cy yX1_loansHeldBy cX1_loansHeldBy 4 (some .int) 1 64 [.ref (g (2, c0, 0)), .int x1] M K := za_openi hJ (by decide) (Nat.le_of_ble_eq_true rfl) (fun p e s m args below meth c C hr hk => p_X1_loansHeldBy hJ C hr hk hc0 h)
/-! X1_owedTo -/
def f_X1_owedTo_b39 (K : Int32 → za_M → Prop) (L4 : Int32 → Int32 → za_M → Prop) (c0 : Nat) (x1 : Int32) (x3 : Int32) (s0 : Int32) (s1 : Int32) (M : za_M) : Prop :=
  za_let (s0 + s1) fun y1 => L4 y1 (x3 + 1) M
def f_X1_owedTo_b4 (K : Int32 → za_M → Prop) (c0 : Nat) (x1 : Int32) (L4 : Int32 → Int32 → za_M → Prop) (x2 : Int32) (x3 : Int32) (M : za_M) : Prop :=
  if (M.1 (2, c0, 0) 5) ≤ x3 then (K x2 M) else (vp_in x3 10 ∧ (if (M.1 (5, c0, (M.2 c0 x3.toNatClampNeg % 10)) 0) = x1 then (vp_in x3 10 ∧ (f_X1_owedTo_b39 K L4 c0 x1 x3 x2 (M.1 (5, c0, (M.2 c0 x3.toNatClampNeg % 10)) 3) M)) else (f_X1_owedTo_b39 K L4 c0 x1 x3 x2 0 M)))
def f_X1_owedTo (c0 : Nat) (x1 : Int32) (M : za_M) (K : Int32 → za_M → Prop) : Prop :=
  ∃ n, za_lp2 (f_X1_owedTo_b4 K c0 x1) n 0 0 M
section
variable {p : Program} {l : Launch} {e : Env} {s : State} {m : MethodId} {args : Array Value} {below : List Frame} {meth : Method} {c : Code} {g : za_L → Nat} {D : va_G} {cy : Nat → ClassId} {K : Int32 → za_M → Prop}
set_option maxRecDepth 100000 in
set_option maxHeartbeats 4000000 in
theorem p_X1_owedTo_b39 (hJ : za_J g) (C : za_C p s m args c cX1_owedTo 4 RX1 g D cy) (hr : meth.sig.returnType = (some .int)) (hk : meth.locks = false) {c0 : Nat} (hc0 : c0 < 3) {x1 : Int32} {x3 : Int32} {s0 : Int32} {s1 : Int32} {L4 : Int32 → Int32 → za_M → Prop} (hL4 : ∀ (x2 : Int32) (x3 : Int32) (M : za_M), L4 x2 x3 M → zt p l e (za_rm 1 64) s m args below meth c 0 0 (MQ below (za_Qi g D cy K) args s 0 0 (za_A g)) g D cy 4 M 4 [(0, .ref (g (2, c0, 0))), (1, .int x1), (2, .int x2), (3, .int x3)] []) {M : za_M} (h : f_X1_owedTo_b39 K L4 c0 x1 x3 s0 s1 M) : zt p l e (za_rm 1 64) s m args below meth c 0 0 (MQ below (za_Qi g D cy K) args s 0 0 (za_A g)) g D cy 4 M 39 [(0, .ref (g (2, c0, 0))), (1, .int x1), (3, .int x3)] [.int s1, .int s0] := by
  unfold f_X1_owedTo_b39 at h
  refine zt_iadd C dX1_owedTo_39 ?_
  refine zt_topi (fun y1 e2 => ?_)
  replace h := za_use h e2
  refine zt_istore_n C [(2, .int y1), (0, .ref (g (2, c0, 0))), (1, .int x1), (3, .int x3)] dX1_owedTo_40 rfl (by decide) rfl ?_
  refine zt_iinc C (v := x3 + 1) 3 [(3, .int (x3 + 1)), (2, .int y1), (0, .ref (g (2, c0, 0))), (1, .int x1)] dX1_owedTo_41 rfl (zk_n1 _) (by decide) rfl ?_
  refine zt_goto C 4 dX1_owedTo_44 (by decide) ?_
  refine zt_sub [2, 3, 1, 0] (lv' := [(0, .ref (g (2, c0, 0))), (1, .int x1), (2, .int y1), (3, .int (x3 + 1))]) rfl ?_
  exact hL4 _ _ _ h
set_option maxRecDepth 100000 in
set_option maxHeartbeats 4000000 in
theorem p_X1_owedTo_b4 (hJ : za_J g) (C : za_C p s m args c cX1_owedTo 4 RX1 g D cy) (hr : meth.sig.returnType = (some .int)) (hk : meth.locks = false) {c0 : Nat} (hc0 : c0 < 3) {x1 : Int32} {L4 : Int32 → Int32 → za_M → Prop} (hL4 : ∀ (x2 : Int32) (x3 : Int32) (M : za_M), L4 x2 x3 M → zt p l e (za_rm 1 64) s m args below meth c 0 0 (MQ below (za_Qi g D cy K) args s 0 0 (za_A g)) g D cy 4 M 4 [(0, .ref (g (2, c0, 0))), (1, .int x1), (2, .int x2), (3, .int x3)] []) : ∀ (x2 : Int32) (x3 : Int32) (M : za_M), f_X1_owedTo_b4 K c0 x1 L4 x2 x3 M → zt p l e (za_rm 1 64) s m args below meth c 0 0 (MQ below (za_Qi g D cy K) args s 0 0 (za_A g)) g D cy 4 M 4 [(0, .ref (g (2, c0, 0))), (1, .int x1), (2, .int x2), (3, .int x3)] [] := by
  intro x2 x3 M h
  unfold f_X1_owedTo_b4 at h
  refine zt_iload_n C 3 dX1_owedTo_4 rfl rfl ?_
  refine zt_aload_n C 0 dX1_owedTo_5 rfl rfl ?_
  refine zt_get C (za_mem (j := 2) rfl hc0 (by decide)) pf_X1_39 (za_E_2 g cy M c0 0) rfl dX1_owedTo_6 ?_
  refine zt_icmp_ge C 47 dX1_owedTo_9 (by decide) (fun q3 => ?_) (fun q3 => ?_)
  · replace h := za_ifp h q3
    refine zt_iload_n C 2 dX1_owedTo_47 rfl rfl ?_
    exact zt_ret C hr hk rfl dX1_owedTo_48 h
  · replace h := za_ifn h q3
    refine zt_iload_n C 2 dX1_owedTo_12 rfl rfl ?_
    refine zt_aload_n C 0 dX1_owedTo_13 rfl rfl ?_
    refine zt_get C (za_mem (j := 2) rfl hc0 (by decide)) pf_X1_25 (za_E_2 g cy M c0 0) rfl dX1_owedTo_14 ?_
    refine zt_iload_n C 3 dX1_owedTo_17 rfl rfl ?_
    obtain ⟨g4, h⟩ := h
    refine zt_aald C (za_mem (j := 12) rfl hc0 (by decide)) (za_E_12 g cy M c0 0) rfl g4 dX1_owedTo_18 ?_
    refine zt_get C (za_mem (j := 5) rfl hc0 (Nat.mod_lt _ (by decide))) pf_X1_72 (za_E_5 g cy M c0 (M.2 c0 x3.toNatClampNeg % 10)) rfl dX1_owedTo_19 ?_
    refine zt_iload_n C 1 dX1_owedTo_22 rfl rfl ?_
    refine zt_icmp_ne C 38 dX1_owedTo_23 (by decide) (fun q5 => ?_) (fun q5 => ?_)
    · replace h := za_ifn h q5
      refine zt_iconst C (v := 0) dX1_owedTo_38 zk_i0 ?_
      refine zt_sub [0, 1, 3] (lv' := [(0, .ref (g (2, c0, 0))), (1, .int x1), (3, .int x3)]) rfl ?_
      exact p_X1_owedTo_b39 hJ C hr hk hc0 hL4 h
    · replace h := za_ifp h q5
      refine zt_aload_n C 0 dX1_owedTo_26 rfl rfl ?_
      refine zt_get C (za_mem (j := 2) rfl hc0 (by decide)) pf_X1_25 (za_E_2 g cy M c0 0) rfl dX1_owedTo_27 ?_
      refine zt_iload_n C 3 dX1_owedTo_30 rfl rfl ?_
      obtain ⟨g6, h⟩ := h
      refine zt_aald C (za_mem (j := 12) rfl hc0 (by decide)) (za_E_12 g cy M c0 0) rfl g6 dX1_owedTo_31 ?_
      refine zt_get C (za_mem (j := 5) rfl hc0 (Nat.mod_lt _ (by decide))) pf_X1_75 (za_E_5 g cy M c0 (M.2 c0 x3.toNatClampNeg % 10)) rfl dX1_owedTo_32 ?_
      refine zt_goto C 39 dX1_owedTo_35 (by decide) ?_
      refine zt_sub [0, 1, 3] (lv' := [(0, .ref (g (2, c0, 0))), (1, .int x1), (3, .int x3)]) rfl ?_
      exact p_X1_owedTo_b39 hJ C hr hk hc0 hL4 h
theorem p_X1_owedTo_b4_in (hJ : za_J g) (C : za_C p s m args c cX1_owedTo 4 RX1 g D cy) (hr : meth.sig.returnType = (some .int)) (hk : meth.locks = false) {c0 : Nat} (hc0 : c0 < 3) {x1 : Int32} {n : Nat} {x2 : Int32} {x3 : Int32} {M : za_M} (h : za_lp2 (f_X1_owedTo_b4 K c0 x1) n x2 x3 M) : zt p l e (za_rm 1 64) s m args below meth c 0 0 (MQ below (za_Qi g D cy K) args s 0 0 (za_A g)) g D cy 4 M 4 [(0, .ref (g (2, c0, 0))), (1, .int x1), (2, .int x2), (3, .int x3)] [] := za_lp2_run (Z := fun x2 x3 M => zt p l e (za_rm 1 64) s m args below meth c 0 0 (MQ below (za_Qi g D cy K) args s 0 0 (za_A g)) g D cy 4 M 4 [(0, .ref (g (2, c0, 0))), (1, .int x1), (2, .int x2), (3, .int x3)] []) (fun L hL => p_X1_owedTo_b4 hJ C hr hk hc0 hL) n x2 x3 M h
set_option maxRecDepth 100000 in
set_option maxHeartbeats 4000000 in
theorem p_X1_owedTo (hJ : za_J g) (C : za_C p s m args c cX1_owedTo 4 RX1 g D cy) (hr : meth.sig.returnType = (some .int)) (hk : meth.locks = false) {c0 : Nat} (hc0 : c0 < 3) {x1 : Int32} {M : za_M} (h : f_X1_owedTo c0 x1 M K) : zt p l e (za_rm 1 64) s m args below meth c 0 0 (MQ below (za_Qi g D cy K) args s 0 0 (za_A g)) g D cy 4 M 0 [(0, .ref (g (2, c0, 0))), (1, .int x1)] [] := by
  unfold f_X1_owedTo at h
  refine zt_iconst C (v := 0) dX1_owedTo_0 zk_i0 ?_
  refine zt_istore_n C [(2, .int 0), (0, .ref (g (2, c0, 0))), (1, .int x1)] dX1_owedTo_1 rfl (by decide) rfl ?_
  refine zt_iconst C (v := 0) dX1_owedTo_2 zk_i0 ?_
  refine zt_istore_n C [(3, .int 0), (2, .int 0), (0, .ref (g (2, c0, 0))), (1, .int x1)] dX1_owedTo_3 rfl (by decide) rfl ?_
  refine zt_sub [2, 3, 1, 0] (lv' := [(0, .ref (g (2, c0, 0))), (1, .int x1), (2, .int 0), (3, .int 0)]) rfl ?_
  obtain ⟨n, h⟩ := h
  exact p_X1_owedTo_b4_in hJ C hr hk hc0 h
end
theorem m_X1_owedTo {l : Launch} {g : za_L → Nat} {D : va_G} {cy : Nat → ClassId} (hJ : za_J g)  {c0 : Nat} (hc0 : c0 < 3) {x1 : Int32} {M : za_M} {K : Int32 → za_M → Prop} (h : f_X1_owedTo c0 x1 M K) : za_Mi l g D cy yX1_owedTo cX1_owedTo 4 (some .int) 1 64 [.ref (g (2, c0, 0)), .int x1] M K := za_openi hJ (by decide) (Nat.le_of_ble_eq_true rfl) (fun p e s m args below meth c C hr hk => p_X1_owedTo hJ C hr hk hc0 h)
/-! X1_lentBetween -/
def f_X1_lentBetween_b62 (K : Int32 → za_M → Prop) (L6 : Int32 → Int32 → za_M → Prop) (c0 : Nat) (x1 : Int32) (x2 : Int32) (x3 : Int32) (x5 : Int32) (s0 : Int32) (s1 : Int32) (M : za_M) : Prop :=
  za_let (s0 + s1) fun y1 => L6 y1 (x5 + 1) M
def f_X1_lentBetween_b61 (K : Int32 → za_M → Prop) (L6 : Int32 → Int32 → za_M → Prop) (c0 : Nat) (x1 : Int32) (x2 : Int32) (x3 : Int32) (x5 : Int32) (s0 : Int32) (M : za_M) : Prop :=
  f_X1_lentBetween_b62 K L6 c0 x1 x2 x3 x5 s0 0 M
def f_X1_lentBetween_b6 (K : Int32 → za_M → Prop) (c0 : Nat) (x1 : Int32) (x2 : Int32) (x3 : Int32) (L6 : Int32 → Int32 → za_M → Prop) (x4 : Int32) (x5 : Int32) (M : za_M) : Prop :=
  if (M.1 (2, c0, 0) 5) ≤ x5 then (K x4 M) else (vp_in x5 10 ∧ (if (M.1 (5, c0, (M.2 c0 x5.toNatClampNeg % 10)) 0) = x1 then (if (M.1 (5, c0, (M.2 c0 x5.toNatClampNeg % 10)) 1) = x2 then (if (M.1 (5, c0, (M.2 c0 x5.toNatClampNeg % 10)) 2) = x3 then (f_X1_lentBetween_b62 K L6 c0 x1 x2 x3 x5 x4 (M.1 (5, c0, (M.2 c0 x5.toNatClampNeg % 10)) 3) M) else (f_X1_lentBetween_b61 K L6 c0 x1 x2 x3 x5 x4 M)) else (f_X1_lentBetween_b61 K L6 c0 x1 x2 x3 x5 x4 M)) else (f_X1_lentBetween_b61 K L6 c0 x1 x2 x3 x5 x4 M)))
def f_X1_lentBetween (c0 : Nat) (x1 : Int32) (x2 : Int32) (x3 : Int32) (M : za_M) (K : Int32 → za_M → Prop) : Prop :=
  ∃ n, za_lp2 (f_X1_lentBetween_b6 K c0 x1 x2 x3) n 0 0 M
section
variable {p : Program} {l : Launch} {e : Env} {s : State} {m : MethodId} {args : Array Value} {below : List Frame} {meth : Method} {c : Code} {g : za_L → Nat} {D : va_G} {cy : Nat → ClassId} {K : Int32 → za_M → Prop}
set_option maxRecDepth 100000 in
set_option maxHeartbeats 4000000 in
theorem p_X1_lentBetween_b62 (hJ : za_J g) (C : za_C p s m args c cX1_lentBetween 7 RX1 g D cy) (hr : meth.sig.returnType = (some .int)) (hk : meth.locks = false) {c0 : Nat} (hc0 : c0 < 3) {x1 : Int32} {x2 : Int32} {x3 : Int32} {x5 : Int32} {s0 : Int32} {s1 : Int32} {L6 : Int32 → Int32 → za_M → Prop} (hL6 : ∀ (x4 : Int32) (x5 : Int32) (M : za_M), L6 x4 x5 M → zt p l e (za_rm 1 64) s m args below meth c 0 0 (MQ below (za_Qi g D cy K) args s 0 0 (za_A g)) g D cy 7 M 6 [(0, .ref (g (2, c0, 0))), (1, .int x1), (2, .int x2), (3, .int x3), (4, .int x4), (5, .int x5)] []) {M : za_M} (h : f_X1_lentBetween_b62 K L6 c0 x1 x2 x3 x5 s0 s1 M) : zt p l e (za_rm 1 64) s m args below meth c 0 0 (MQ below (za_Qi g D cy K) args s 0 0 (za_A g)) g D cy 7 M 62 [(0, .ref (g (2, c0, 0))), (1, .int x1), (2, .int x2), (3, .int x3), (5, .int x5)] [.int s1, .int s0] := by
  unfold f_X1_lentBetween_b62 at h
  refine zt_iadd C dX1_lentBetween_62 ?_
  refine zt_topi (fun y1 e2 => ?_)
  replace h := za_use h e2
  refine zt_istore C [(4, .int y1), (0, .ref (g (2, c0, 0))), (1, .int x1), (2, .int x2), (3, .int x3), (5, .int x5)] dX1_lentBetween_63 (by decide) rfl ?_
  refine zt_iinc C (v := x5 + 1) 5 [(5, .int (x5 + 1)), (4, .int y1), (0, .ref (g (2, c0, 0))), (1, .int x1), (2, .int x2), (3, .int x3)] dX1_lentBetween_65 rfl (zk_n1 _) (by decide) rfl ?_
  refine zt_goto C 6 dX1_lentBetween_68 (by decide) ?_
  refine zt_sub [2, 3, 4, 5, 1, 0] (lv' := [(0, .ref (g (2, c0, 0))), (1, .int x1), (2, .int x2), (3, .int x3), (4, .int y1), (5, .int (x5 + 1))]) rfl ?_
  exact hL6 _ _ _ h
set_option maxRecDepth 100000 in
set_option maxHeartbeats 4000000 in
theorem p_X1_lentBetween_b61 (hJ : za_J g) (C : za_C p s m args c cX1_lentBetween 7 RX1 g D cy) (hr : meth.sig.returnType = (some .int)) (hk : meth.locks = false) {c0 : Nat} (hc0 : c0 < 3) {x1 : Int32} {x2 : Int32} {x3 : Int32} {x5 : Int32} {s0 : Int32} {L6 : Int32 → Int32 → za_M → Prop} (hL6 : ∀ (x4 : Int32) (x5 : Int32) (M : za_M), L6 x4 x5 M → zt p l e (za_rm 1 64) s m args below meth c 0 0 (MQ below (za_Qi g D cy K) args s 0 0 (za_A g)) g D cy 7 M 6 [(0, .ref (g (2, c0, 0))), (1, .int x1), (2, .int x2), (3, .int x3), (4, .int x4), (5, .int x5)] []) {M : za_M} (h : f_X1_lentBetween_b61 K L6 c0 x1 x2 x3 x5 s0 M) : zt p l e (za_rm 1 64) s m args below meth c 0 0 (MQ below (za_Qi g D cy K) args s 0 0 (za_A g)) g D cy 7 M 61 [(0, .ref (g (2, c0, 0))), (1, .int x1), (2, .int x2), (3, .int x3), (5, .int x5)] [.int s0] := by
  unfold f_X1_lentBetween_b61 at h
  refine zt_iconst C (v := 0) dX1_lentBetween_61 zk_i0 ?_
  exact p_X1_lentBetween_b62 hJ C hr hk hc0 hL6 h
set_option maxRecDepth 100000 in
set_option maxHeartbeats 4000000 in
theorem p_X1_lentBetween_b6 (hJ : za_J g) (C : za_C p s m args c cX1_lentBetween 7 RX1 g D cy) (hr : meth.sig.returnType = (some .int)) (hk : meth.locks = false) {c0 : Nat} (hc0 : c0 < 3) {x1 : Int32} {x2 : Int32} {x3 : Int32} {L6 : Int32 → Int32 → za_M → Prop} (hL6 : ∀ (x4 : Int32) (x5 : Int32) (M : za_M), L6 x4 x5 M → zt p l e (za_rm 1 64) s m args below meth c 0 0 (MQ below (za_Qi g D cy K) args s 0 0 (za_A g)) g D cy 7 M 6 [(0, .ref (g (2, c0, 0))), (1, .int x1), (2, .int x2), (3, .int x3), (4, .int x4), (5, .int x5)] []) : ∀ (x4 : Int32) (x5 : Int32) (M : za_M), f_X1_lentBetween_b6 K c0 x1 x2 x3 L6 x4 x5 M → zt p l e (za_rm 1 64) s m args below meth c 0 0 (MQ below (za_Qi g D cy K) args s 0 0 (za_A g)) g D cy 7 M 6 [(0, .ref (g (2, c0, 0))), (1, .int x1), (2, .int x2), (3, .int x3), (4, .int x4), (5, .int x5)] [] := by
  intro x4 x5 M h
  unfold f_X1_lentBetween_b6 at h
  refine zt_iload C 5 dX1_lentBetween_6 rfl ?_
  refine zt_aload_n C 0 dX1_lentBetween_8 rfl rfl ?_
  refine zt_get C (za_mem (j := 2) rfl hc0 (by decide)) pf_X1_39 (za_E_2 g cy M c0 0) rfl dX1_lentBetween_9 ?_
  refine zt_icmp_ge C 71 dX1_lentBetween_12 (by decide) (fun q3 => ?_) (fun q3 => ?_)
  · replace h := za_ifp h q3
    refine zt_iload C 4 dX1_lentBetween_71 rfl ?_
    exact zt_ret C hr hk rfl dX1_lentBetween_73 h
  · replace h := za_ifn h q3
    refine zt_aload_n C 0 dX1_lentBetween_15 rfl rfl ?_
    refine zt_get C (za_mem (j := 2) rfl hc0 (by decide)) pf_X1_25 (za_E_2 g cy M c0 0) rfl dX1_lentBetween_16 ?_
    refine zt_iload C 5 dX1_lentBetween_19 rfl ?_
    obtain ⟨g4, h⟩ := h
    refine zt_aald C (za_mem (j := 12) rfl hc0 (by decide)) (za_E_12 g cy M c0 0) rfl g4 dX1_lentBetween_21 ?_
    refine zt_astore C [(6, .ref (g (5, c0, (M.2 c0 x5.toNatClampNeg % 10)))), (0, .ref (g (2, c0, 0))), (1, .int x1), (2, .int x2), (3, .int x3), (4, .int x4), (5, .int x5)] dX1_lentBetween_22 (by decide) rfl ?_
    refine zt_iload C 5 dX1_lentBetween_24 rfl ?_
    refine zt_aload C 0 dX1_lentBetween_26 rfl ?_
    refine zt_get C (za_mem (j := 5) rfl hc0 (Nat.mod_lt _ (by decide))) pf_X1_72 (za_E_5 g cy M c0 (M.2 c0 x5.toNatClampNeg % 10)) rfl dX1_lentBetween_28 ?_
    refine zt_iload_n C 2 dX1_lentBetween_31 rfl rfl ?_
    refine zt_icmp_ne C 61 dX1_lentBetween_32 (by decide) (fun q5 => ?_) (fun q5 => ?_)
    · replace h := za_ifn h q5
      refine zt_sub [1, 2, 3, 4, 6] (lv' := [(0, .ref (g (2, c0, 0))), (1, .int x1), (2, .int x2), (3, .int x3), (5, .int x5)]) rfl ?_
      exact p_X1_lentBetween_b61 hJ C hr hk hc0 hL6 h
    · replace h := za_ifp h q5
      refine zt_aload C 0 dX1_lentBetween_35 rfl ?_
      refine zt_get C (za_mem (j := 5) rfl hc0 (Nat.mod_lt _ (by decide))) pf_X1_69 (za_E_5 g cy M c0 (M.2 c0 x5.toNatClampNeg % 10)) rfl dX1_lentBetween_37 ?_
      refine zt_iload_n C 3 dX1_lentBetween_40 rfl rfl ?_
      refine zt_icmp_ne C 61 dX1_lentBetween_41 (by decide) (fun q6 => ?_) (fun q6 => ?_)
      · replace h := za_ifn h q6
        refine zt_sub [1, 2, 3, 4, 6] (lv' := [(0, .ref (g (2, c0, 0))), (1, .int x1), (2, .int x2), (3, .int x3), (5, .int x5)]) rfl ?_
        exact p_X1_lentBetween_b61 hJ C hr hk hc0 hL6 h
      · replace h := za_ifp h q6
        refine zt_aload C 0 dX1_lentBetween_44 rfl ?_
        refine zt_get C (za_mem (j := 5) rfl hc0 (Nat.mod_lt _ (by decide))) pf_X1_77 (za_E_5 g cy M c0 (M.2 c0 x5.toNatClampNeg % 10)) rfl dX1_lentBetween_46 ?_
        refine zt_iload_n C 4 dX1_lentBetween_49 rfl rfl ?_
        refine zt_icmp_ne C 61 dX1_lentBetween_50 (by decide) (fun q7 => ?_) (fun q7 => ?_)
        · replace h := za_ifn h q7
          refine zt_sub [1, 2, 3, 4, 6] (lv' := [(0, .ref (g (2, c0, 0))), (1, .int x1), (2, .int x2), (3, .int x3), (5, .int x5)]) rfl ?_
          exact p_X1_lentBetween_b61 hJ C hr hk hc0 hL6 h
        · replace h := za_ifp h q7
          refine zt_aload C 0 dX1_lentBetween_53 rfl ?_
          refine zt_get C (za_mem (j := 5) rfl hc0 (Nat.mod_lt _ (by decide))) pf_X1_75 (za_E_5 g cy M c0 (M.2 c0 x5.toNatClampNeg % 10)) rfl dX1_lentBetween_55 ?_
          refine zt_goto C 62 dX1_lentBetween_58 (by decide) ?_
          refine zt_sub [1, 2, 3, 4, 6] (lv' := [(0, .ref (g (2, c0, 0))), (1, .int x1), (2, .int x2), (3, .int x3), (5, .int x5)]) rfl ?_
          exact p_X1_lentBetween_b62 hJ C hr hk hc0 hL6 h
theorem p_X1_lentBetween_b6_in (hJ : za_J g) (C : za_C p s m args c cX1_lentBetween 7 RX1 g D cy) (hr : meth.sig.returnType = (some .int)) (hk : meth.locks = false) {c0 : Nat} (hc0 : c0 < 3) {x1 : Int32} {x2 : Int32} {x3 : Int32} {n : Nat} {x4 : Int32} {x5 : Int32} {M : za_M} (h : za_lp2 (f_X1_lentBetween_b6 K c0 x1 x2 x3) n x4 x5 M) : zt p l e (za_rm 1 64) s m args below meth c 0 0 (MQ below (za_Qi g D cy K) args s 0 0 (za_A g)) g D cy 7 M 6 [(0, .ref (g (2, c0, 0))), (1, .int x1), (2, .int x2), (3, .int x3), (4, .int x4), (5, .int x5)] [] := za_lp2_run (Z := fun x4 x5 M => zt p l e (za_rm 1 64) s m args below meth c 0 0 (MQ below (za_Qi g D cy K) args s 0 0 (za_A g)) g D cy 7 M 6 [(0, .ref (g (2, c0, 0))), (1, .int x1), (2, .int x2), (3, .int x3), (4, .int x4), (5, .int x5)] []) (fun L hL => p_X1_lentBetween_b6 hJ C hr hk hc0 hL) n x4 x5 M h
set_option maxRecDepth 100000 in
set_option maxHeartbeats 4000000 in
theorem p_X1_lentBetween (hJ : za_J g) (C : za_C p s m args c cX1_lentBetween 7 RX1 g D cy) (hr : meth.sig.returnType = (some .int)) (hk : meth.locks = false) {c0 : Nat} (hc0 : c0 < 3) {x1 : Int32} {x2 : Int32} {x3 : Int32} {M : za_M} (h : f_X1_lentBetween c0 x1 x2 x3 M K) : zt p l e (za_rm 1 64) s m args below meth c 0 0 (MQ below (za_Qi g D cy K) args s 0 0 (za_A g)) g D cy 7 M 0 [(0, .ref (g (2, c0, 0))), (1, .int x1), (2, .int x2), (3, .int x3)] [] := by
  unfold f_X1_lentBetween at h
  refine zt_iconst C (v := 0) dX1_lentBetween_0 zk_i0 ?_
  refine zt_istore C [(4, .int 0), (0, .ref (g (2, c0, 0))), (1, .int x1), (2, .int x2), (3, .int x3)] dX1_lentBetween_1 (by decide) rfl ?_
  refine zt_iconst C (v := 0) dX1_lentBetween_3 zk_i0 ?_
  refine zt_istore C [(5, .int 0), (4, .int 0), (0, .ref (g (2, c0, 0))), (1, .int x1), (2, .int x2), (3, .int x3)] dX1_lentBetween_4 (by decide) rfl ?_
  refine zt_sub [2, 3, 4, 5, 1, 0] (lv' := [(0, .ref (g (2, c0, 0))), (1, .int x1), (2, .int x2), (3, .int x3), (4, .int 0), (5, .int 0)]) rfl ?_
  obtain ⟨n, h⟩ := h
  exact p_X1_lentBetween_b6_in hJ C hr hk hc0 h
end
theorem m_X1_lentBetween {l : Launch} {g : za_L → Nat} {D : va_G} {cy : Nat → ClassId} (hJ : za_J g)  {c0 : Nat} (hc0 : c0 < 3) {x1 : Int32} {x2 : Int32} {x3 : Int32} {M : za_M} {K : Int32 → za_M → Prop} (h : f_X1_lentBetween c0 x1 x2 x3 M K) : za_Mi l g D cy yX1_lentBetween cX1_lentBetween 7 (some .int) 1 64 [.ref (g (2, c0, 0)), .int x1, .int x2, .int x3] M K := za_openi hJ (by decide) (Nat.le_of_ble_eq_true rfl) (fun p e s m args below meth c C hr hk => p_X1_lentBetween hJ C hr hk hc0 h)
/-! X1_canLend -/
def f_X1_canLend_b40 (K : Int32 → za_M → Prop) (M : za_M) : Prop :=
  K 0 M
def f_X1_canLend (c0 : Nat) (x1 : Int32) (x2 : Int32) (x3 : Int32) (x4 : Int32) (M : za_M) (K : Int32 → za_M → Prop) : Prop :=
  vp_in x1 4 ∧ (vp_in x3 5 ∧ (if (M.1 (13, c0, x1.toNatClampNeg) x3.toNatClampNeg) < x4 then (f_X1_canLend_b40 K M) else (vp_in x2 4 ∧ (vp_in x3 5 ∧ (if 999 < ((M.1 (13, c0, x2.toNatClampNeg) x3.toNatClampNeg) + x4) then (f_X1_canLend_b40 K M) else (K 1 M))))))
section
variable {p : Program} {l : Launch} {e : Env} {s : State} {m : MethodId} {args : Array Value} {below : List Frame} {meth : Method} {c : Code} {g : za_L → Nat} {D : va_G} {cy : Nat → ClassId} {K : Int32 → za_M → Prop}
set_option maxRecDepth 100000 in
set_option maxHeartbeats 4000000 in
theorem p_X1_canLend_b40 (hJ : za_J g) (C : za_C p s m args c cX1_canLend 5 RX1 g D cy) (hr : meth.sig.returnType = (some .boolean)) (hk : meth.locks = false) {M : za_M} (h : f_X1_canLend_b40 K M) : zt p l e (za_rm 1 64) s m args below meth c 0 0 (MQ below (za_Qi g D cy K) args s 0 0 (za_A g)) g D cy 5 M 40 [] [] := by
  unfold f_X1_canLend_b40 at h
  refine zt_iconst C (v := 0) dX1_canLend_40 zk_i0 ?_
  exact zt_ret C hr hk rfl dX1_canLend_41 h
set_option maxRecDepth 100000 in
set_option maxHeartbeats 4000000 in
theorem p_X1_canLend (hJ : za_J g) (C : za_C p s m args c cX1_canLend 5 RX1 g D cy) (hr : meth.sig.returnType = (some .boolean)) (hk : meth.locks = false) {c0 : Nat} (hc0 : c0 < 3) {x1 : Int32} {x2 : Int32} {x3 : Int32} {x4 : Int32} {M : za_M} (h : f_X1_canLend c0 x1 x2 x3 x4 M K) : zt p l e (za_rm 1 64) s m args below meth c 0 0 (MQ below (za_Qi g D cy K) args s 0 0 (za_A g)) g D cy 5 M 0 [(0, .ref (g (2, c0, 0))), (1, .int x1), (2, .int x2), (3, .int x3), (4, .int x4)] [] := by
  unfold f_X1_canLend at h
  refine zt_aload_n C 0 dX1_canLend_0 rfl rfl ?_
  refine zt_get C (za_mem (j := 2) rfl hc0 (by decide)) pf_X1_19 (za_E_2 g cy M c0 0) rfl dX1_canLend_1 ?_
  refine zt_iload_n C 1 dX1_canLend_4 rfl rfl ?_
  obtain ⟨g1, h⟩ := h
  refine zt_aald C (za_mem (j := 11) rfl hc0 (by decide)) (za_E_11 g cy M c0 0) rfl g1 dX1_canLend_5 ?_
  refine zt_get C (za_mem (j := 4) rfl hc0 (za_lt g1)) pf_X1_59 (za_E_4 g cy M c0 x1.toNatClampNeg) rfl dX1_canLend_6 ?_
  refine zt_iload_n C 3 dX1_canLend_9 rfl rfl ?_
  obtain ⟨g2, h⟩ := h
  refine zt_iald C (za_mem (j := 13) rfl hc0 (za_lt g1)) (fun W9 => za_E_13 g cy W9 c0 x1.toNatClampNeg) g2 dX1_canLend_10 ?_
  refine zt_iload C 4 dX1_canLend_11 rfl ?_
  refine zt_icmp_lt C 40 dX1_canLend_13 (by decide) (fun q3 => ?_) (fun q3 => ?_)
  · replace h := za_ifp h q3
    refine zt_sub [] (lv' := []) rfl ?_
    exact p_X1_canLend_b40 hJ C hr hk  h
  · replace h := za_ifn h q3
    refine zt_aload_n C 0 dX1_canLend_16 rfl rfl ?_
    refine zt_get C (za_mem (j := 2) rfl hc0 (by decide)) pf_X1_19 (za_E_2 g cy M c0 0) rfl dX1_canLend_17 ?_
    refine zt_iload_n C 2 dX1_canLend_20 rfl rfl ?_
    obtain ⟨g4, h⟩ := h
    refine zt_aald C (za_mem (j := 11) rfl hc0 (by decide)) (za_E_11 g cy M c0 0) rfl g4 dX1_canLend_21 ?_
    refine zt_get C (za_mem (j := 4) rfl hc0 (za_lt g4)) pf_X1_59 (za_E_4 g cy M c0 x2.toNatClampNeg) rfl dX1_canLend_22 ?_
    refine zt_iload_n C 3 dX1_canLend_25 rfl rfl ?_
    obtain ⟨g5, h⟩ := h
    refine zt_iald C (za_mem (j := 13) rfl hc0 (za_lt g4)) (fun W9 => za_E_13 g cy W9 c0 x2.toNatClampNeg) g5 dX1_canLend_26 ?_
    refine zt_iload C 4 dX1_canLend_27 rfl ?_
    refine zt_iadd C dX1_canLend_29 ?_
    refine zt_sipush C (v := 999) dX1_canLend_30 zk_s999 ?_
    refine zt_icmp_gt C 40 dX1_canLend_33 (by decide) (fun q6 => ?_) (fun q6 => ?_)
    · replace h := za_ifp h q6
      refine zt_sub [] (lv' := []) rfl ?_
      exact p_X1_canLend_b40 hJ C hr hk  h
    · replace h := za_ifn h q6
      refine zt_iconst C (v := 1) dX1_canLend_36 zk_i1 ?_
      refine zt_goto C 41 dX1_canLend_37 (by decide) ?_
      exact zt_ret C hr hk rfl dX1_canLend_41 h
end
theorem m_X1_canLend {l : Launch} {g : za_L → Nat} {D : va_G} {cy : Nat → ClassId} (hJ : za_J g)  {c0 : Nat} (hc0 : c0 < 3) {x1 : Int32} {x2 : Int32} {x3 : Int32} {x4 : Int32} {M : za_M} {K : Int32 → za_M → Prop} (h : f_X1_canLend c0 x1 x2 x3 x4 M K) : za_Mi l g D cy yX1_canLend cX1_canLend 5 (some .boolean) 1 64 [.ref (g (2, c0, 0)), .int x1, .int x2, .int x3, .int x4] M K := za_openi hJ (by decide) (Nat.le_of_ble_eq_true rfl) (fun p e s m args below meth c C hr hk => p_X1_canLend hJ C hr hk hc0 h)
/-! X9_held -/
def f_X9_held (x0 : Int32) (x1 : Int32) (M : za_M) (K : Int32 → za_M → Prop) : Prop :=
  if 0 ≤ x0 then (if x0 ≤ x1 then (K x0 M) else (K x1 M)) else (K 0 M)
section
variable {p : Program} {l : Launch} {e : Env} {s : State} {m : MethodId} {args : Array Value} {below : List Frame} {meth : Method} {c : Code} {g : za_L → Nat} {D : va_G} {cy : Nat → ClassId} {K : Int32 → za_M → Prop}
set_option maxRecDepth 100000 in
set_option maxHeartbeats 4000000 in
theorem p_X9_held (hJ : za_J g) (C : za_C p s m args c cX9_held 2 RX9 g D cy) (hr : meth.sig.returnType = (some .int)) (hk : meth.locks = false) {x0 : Int32} {x1 : Int32} {M : za_M} (h : f_X9_held x0 x1 M K) : zt p l e (za_rm 1 64) s m args below meth c 0 0 (MQ below (za_Qi g D cy K) args s 0 0 (za_A g)) g D cy 2 M 0 [(0, .int x0), (1, .int x1)] [] := by
  unfold f_X9_held at h
  refine zt_iload_n C 0 dX9_held_0 rfl rfl ?_
  refine zt_if_ge C 8 dX9_held_1 (by decide) (fun q1 => ?_) (fun q1 => ?_)
  · replace h := za_ifp h q1
    refine zt_iload_n C 0 dX9_held_8 rfl rfl ?_
    refine zt_iload_n C 1 dX9_held_9 rfl rfl ?_
    refine zt_icmp_le C 17 dX9_held_10 (by decide) (fun q2 => ?_) (fun q2 => ?_)
    · replace h := za_ifp h q2
      refine zt_iload_n C 0 dX9_held_17 rfl rfl ?_
      exact zt_ret C hr hk rfl dX9_held_18 h
    · replace h := za_ifn h q2
      refine zt_iload_n C 1 dX9_held_13 rfl rfl ?_
      refine zt_goto C 18 dX9_held_14 (by decide) ?_
      exact zt_ret C hr hk rfl dX9_held_18 h
  · replace h := za_ifn h q1
    refine zt_iconst C (v := 0) dX9_held_4 zk_i0 ?_
    refine zt_goto C 18 dX9_held_5 (by decide) ?_
    exact zt_ret C hr hk rfl dX9_held_18 h
end
theorem m_X9_held {l : Launch} {g : za_L → Nat} {D : va_G} {cy : Nat → ClassId} (hJ : za_J g)  {x0 : Int32} {x1 : Int32} {M : za_M} {K : Int32 → za_M → Prop} (h : f_X9_held x0 x1 M K) : za_Mi l g D cy yX9_held cX9_held 2 (some .int) 1 64 [.int x0, .int x1] M K := za_openi hJ (by decide) (Nat.le_of_ble_eq_true rfl) (fun p e s m args below meth c C hr hk => p_X9_held hJ C hr hk  h)
/-! X4_change -/
def f_X4_change (c0 : Nat) (i0 : Nat) (x1 : Int32) (x2 : Int32) (M : za_M) (K : za_M → Prop) : Prop :=
  vp_in x1 5 ∧ (f_X9_held ((M.1 (13, c0, i0) x1.toNatClampNeg) + x2) 999 M (fun r3 M2 => vp_in x1 5 ∧ (za_let (za_up M2 (13, c0, i0) x1.toNatClampNeg r3) fun M5 => K M5)))
section
variable {p : Program} {l : Launch} {e : Env} {s : State} {m : MethodId} {args : Array Value} {below : List Frame} {meth : Method} {c : Code} {g : za_L → Nat} {D : va_G} {cy : Nat → ClassId} {K : za_M → Prop}
set_option maxRecDepth 100000 in
set_option maxHeartbeats 4000000 in
theorem p_X4_change (hJ : za_J g) (C : za_C p s m args c cX4_change 3 RX4 g D cy) (hr : meth.sig.returnType = none) (hk : meth.locks = false) {c0 : Nat} (hc0 : c0 < 3) {i0 : Nat} (hi0 : i0 < 4) {x1 : Int32} {x2 : Int32} {M : za_M} (h : f_X4_change c0 i0 x1 x2 M K) : zt p l e (za_rm 2 85) s m args below meth c 0 0 (MQ below (za_Qv g D cy K) args s 0 0 (za_A g)) g D cy 3 M 0 [(0, .ref (g (4, c0, i0))), (1, .int x1), (2, .int x2)] [] := by
  unfold f_X4_change at h
  refine zt_aload_n C 0 dX4_change_0 rfl rfl ?_
  refine zt_get C (za_mem (j := 4) rfl hc0 hi0) pf_X4_9 (za_E_4 g cy M c0 i0) rfl dX4_change_1 ?_
  refine zt_iload_n C 1 dX4_change_4 rfl rfl ?_
  refine zt_aload_n C 0 dX4_change_5 rfl rfl ?_
  refine zt_get C (za_mem (j := 4) rfl hc0 hi0) pf_X4_9 (za_E_4 g cy M c0 i0) rfl dX4_change_6 ?_
  refine zt_iload_n C 1 dX4_change_9 rfl rfl ?_
  obtain ⟨g1, h⟩ := h
  refine zt_iald C (za_mem (j := 13) rfl hc0 hi0) (fun W9 => za_E_13 g cy W9 c0 i0) g1 dX4_change_10 ?_
  refine zt_iload_n C 2 dX4_change_11 rfl rfl ?_
  refine zt_iadd C dX4_change_12 ?_
  refine zt_sipush C (v := 999) dX4_change_13 zk_s999 ?_
  refine zt_cNi C [.int ((M.1 (13, c0, i0) x1.toNatClampNeg) + x2), .int 999] (m_X9_held hJ  h) py_X9_held pn_X4_28 (Nat.le_of_ble_eq_true rfl) ⟨Nat.le_of_ble_eq_true rfl, Nat.le_of_ble_eq_true rfl⟩ ⟨Nat.zero_le _, Nat.zero_le _⟩ dX4_change_16 rfl (fun r3 M2 h => ?_)
  obtain ⟨g4, h⟩ := h
  refine zt_iast C (za_mem (j := 13) rfl hc0 hi0) (fun W9 => za_E_13 g cy W9 c0 i0) g4 dX4_change_19 ?_
  refine zt_topM (fun M5 e6 => ?_)
  replace h := za_use h e6
  exact zt_vret C hr hk dX4_change_20 h
end
theorem m_X4_change {l : Launch} {g : za_L → Nat} {D : va_G} {cy : Nat → ClassId} (hJ : za_J g)  {c0 : Nat} (hc0 : c0 < 3) {i0 : Nat} (hi0 : i0 < 4) {x1 : Int32} {x2 : Int32} {M : za_M} {K : za_M → Prop} (h : f_X4_change c0 i0 x1 x2 M K) : za_Mv l g D cy yX4_change cX4_change 3 none 2 85 [.ref (g (4, c0, i0)), .int x1, .int x2] M K := za_openv hJ (by decide) (Nat.le_of_ble_eq_true rfl) (fun p e s m args below meth c C hr hk => p_X4_change hJ C hr hk hc0 hi0 h)
/-! X1_addLoan -/
def f_X1_addLoan (c0 : Nat) (x1 : Int32) (x2 : Int32) (x3 : Int32) (x4 : Int32) (x5 : Int32) (M : za_M) (K : za_M → Prop) : Prop :=
  if (M.1 (2, c0, 0) 5) < 10 then (vp_in (M.1 (2, c0, 0) 5) 10 ∧ (za_let (za_up M (5, c0, (M.2 c0 (M.1 (2, c0, 0) 5).toNatClampNeg % 10)) 0 x1) fun M3 => za_let (za_up M3 (5, c0, (M.2 c0 (M.1 (2, c0, 0) 5).toNatClampNeg % 10)) 1 x2) fun M5 => za_let (za_up M5 (5, c0, (M.2 c0 (M.1 (2, c0, 0) 5).toNatClampNeg % 10)) 2 x3) fun M7 => za_let (za_up M7 (5, c0, (M.2 c0 (M.1 (2, c0, 0) 5).toNatClampNeg % 10)) 3 x4) fun M9 => za_let ((M9.1 (2, c0, 0) 6) + x5) fun y11 => za_let (za_up M9 (5, c0, (M.2 c0 (M.1 (2, c0, 0) 5).toNatClampNeg % 10)) 4 y11) fun M13 => za_let ((M13.1 (2, c0, 0) 5) + 1) fun y15 => za_let (za_up M13 (2, c0, 0) 5 y15) fun M17 => vp_in x1 4 ∧ (f_X4_change c0 x1.toNatClampNeg x3 (-x4) M17 (fun M20 => vp_in x2 4 ∧ (f_X4_change c0 x2.toNatClampNeg x3 x4 M20 (fun M23 => K M23)))))) else (K M)
section
variable {p : Program} {l : Launch} {e : Env} {s : State} {m : MethodId} {args : Array Value} {below : List Frame} {meth : Method} {c : Code} {g : za_L → Nat} {D : va_G} {cy : Nat → ClassId} {K : za_M → Prop}
set_option maxRecDepth 100000 in
set_option maxHeartbeats 4000000 in
theorem p_X1_addLoan (hJ : za_J g) (C : za_C p s m args c cX1_addLoan 7 RX1 g D cy) (hr : meth.sig.returnType = none) (hk : meth.locks = false) {c0 : Nat} (hc0 : c0 < 3) {x1 : Int32} {x2 : Int32} {x3 : Int32} {x4 : Int32} {x5 : Int32} {M : za_M} (h : f_X1_addLoan c0 x1 x2 x3 x4 x5 M K) : zt p l e (za_rm 3 107) s m args below meth c 0 0 (MQ below (za_Qv g D cy K) args s 0 0 (za_A g)) g D cy 7 M 0 [(0, .ref (g (2, c0, 0))), (1, .int x1), (2, .int x2), (3, .int x3), (4, .int x4), (5, .int x5)] [] := by
  unfold f_X1_addLoan at h
  refine zt_aload_n C 0 dX1_addLoan_0 rfl rfl ?_
  refine zt_get C (za_mem (j := 2) rfl hc0 (by decide)) pf_X1_39 (za_E_2 g cy M c0 0) rfl dX1_addLoan_1 ?_
  refine zt_bipush C (v := 10) dX1_addLoan_4 zk_b10 ?_
  refine zt_icmp_lt C 10 dX1_addLoan_6 (by decide) (fun q1 => ?_) (fun q1 => ?_)
  · replace h := za_ifp h q1
    refine zt_aload_n C 0 dX1_addLoan_10 rfl rfl ?_
    refine zt_get C (za_mem (j := 2) rfl hc0 (by decide)) pf_X1_25 (za_E_2 g cy M c0 0) rfl dX1_addLoan_11 ?_
    refine zt_aload_n C 0 dX1_addLoan_14 rfl rfl ?_
    refine zt_get C (za_mem (j := 2) rfl hc0 (by decide)) pf_X1_39 (za_E_2 g cy M c0 0) rfl dX1_addLoan_15 ?_
    obtain ⟨g2, h⟩ := h
    refine zt_aald C (za_mem (j := 12) rfl hc0 (by decide)) (za_E_12 g cy M c0 0) rfl g2 dX1_addLoan_18 ?_
    refine zt_astore C [(6, .ref (g (5, c0, (M.2 c0 (M.1 (2, c0, 0) 5).toNatClampNeg % 10)))), (0, .ref (g (2, c0, 0))), (1, .int x1), (2, .int x2), (3, .int x3), (4, .int x4), (5, .int x5)] dX1_addLoan_19 (by decide) rfl ?_
    refine zt_aload C 0 dX1_addLoan_21 rfl ?_
    refine zt_iload_n C 2 dX1_addLoan_23 rfl rfl ?_
    refine zt_put C (za_mem (j := 5) rfl hc0 (Nat.mod_lt _ (by decide))) pf_X1_72 pt_X3_0 rfl rfl (za_E_5 g cy M c0 (M.2 c0 (M.1 (2, c0, 0) 5).toNatClampNeg % 10)) rfl (Nat.le_of_ble_eq_true rfl) dX1_addLoan_24 ?_
    refine zt_topM (fun M3 e4 => ?_)
    replace h := za_use h e4
    refine zt_aload C 0 dX1_addLoan_27 rfl ?_
    refine zt_iload_n C 3 dX1_addLoan_29 rfl rfl ?_
    refine zt_put C (za_mem (j := 5) rfl hc0 (Nat.mod_lt _ (by decide))) pf_X1_69 pt_X3_1 rfl rfl (za_E_5 g cy M3 c0 (M.2 c0 (M.1 (2, c0, 0) 5).toNatClampNeg % 10)) rfl (Nat.le_of_ble_eq_true rfl) dX1_addLoan_30 ?_
    refine zt_topM (fun M5 e6 => ?_)
    replace h := za_use h e6
    refine zt_aload C 0 dX1_addLoan_33 rfl ?_
    refine zt_iload_n C 4 dX1_addLoan_35 rfl rfl ?_
    refine zt_put C (za_mem (j := 5) rfl hc0 (Nat.mod_lt _ (by decide))) pf_X1_77 pt_X3_2 rfl rfl (za_E_5 g cy M5 c0 (M.2 c0 (M.1 (2, c0, 0) 5).toNatClampNeg % 10)) rfl (Nat.le_of_ble_eq_true rfl) dX1_addLoan_36 ?_
    refine zt_topM (fun M7 e8 => ?_)
    replace h := za_use h e8
    refine zt_aload C 0 dX1_addLoan_39 rfl ?_
    refine zt_iload C 5 dX1_addLoan_41 rfl ?_
    refine zt_put C (za_mem (j := 5) rfl hc0 (Nat.mod_lt _ (by decide))) pf_X1_75 pt_X3_3 rfl rfl (za_E_5 g cy M7 c0 (M.2 c0 (M.1 (2, c0, 0) 5).toNatClampNeg % 10)) rfl (Nat.le_of_ble_eq_true rfl) dX1_addLoan_43 ?_
    refine zt_topM (fun M9 e10 => ?_)
    replace h := za_use h e10
    refine zt_aload C 0 dX1_addLoan_46 rfl ?_
    refine zt_aload_n C 1 dX1_addLoan_48 rfl rfl ?_
    refine zt_get C (za_mem (j := 2) rfl hc0 (by decide)) pf_X1_42 (za_E_2 g cy M9 c0 0) rfl dX1_addLoan_49 ?_
    refine zt_iload C 6 dX1_addLoan_52 rfl ?_
    refine zt_iadd C dX1_addLoan_54 ?_
    refine zt_topi (fun y11 e12 => ?_)
    replace h := za_use h e12
    refine zt_put C (za_mem (j := 5) rfl hc0 (Nat.mod_lt _ (by decide))) pf_X1_80 pt_X3_4 rfl rfl (za_E_5 g cy M9 c0 (M.2 c0 (M.1 (2, c0, 0) 5).toNatClampNeg % 10)) rfl (Nat.le_of_ble_eq_true rfl) dX1_addLoan_55 ?_
    refine zt_topM (fun M13 e14 => ?_)
    replace h := za_use h e14
    refine zt_aload_n C 1 dX1_addLoan_58 rfl rfl ?_
    refine zt_dup C dX1_addLoan_59 rfl ?_
    refine zt_get C (za_mem (j := 2) rfl hc0 (by decide)) pf_X1_39 (za_E_2 g cy M13 c0 0) rfl dX1_addLoan_60 ?_
    refine zt_iconst C (v := 1) dX1_addLoan_63 zk_i1 ?_
    refine zt_iadd C dX1_addLoan_64 ?_
    refine zt_topi (fun y15 e16 => ?_)
    replace h := za_use h e16
    refine zt_put C (za_mem (j := 2) rfl hc0 (by decide)) pf_X1_39 pt_X1_5 rfl rfl (za_E_2 g cy M13 c0 0) rfl (Nat.le_of_ble_eq_true rfl) dX1_addLoan_65 ?_
    refine zt_topM (fun M17 e18 => ?_)
    replace h := za_use h e18
    refine zt_aload_n C 1 dX1_addLoan_68 rfl rfl ?_
    refine zt_get C (za_mem (j := 2) rfl hc0 (by decide)) pf_X1_19 (za_E_2 g cy M17 c0 0) rfl dX1_addLoan_69 ?_
    refine zt_iload_n C 2 dX1_addLoan_72 rfl rfl ?_
    obtain ⟨g19, h⟩ := h
    refine zt_aald C (za_mem (j := 11) rfl hc0 (by decide)) (za_E_11 g cy M17 c0 0) rfl g19 dX1_addLoan_73 ?_
    refine zt_iload_n C 4 dX1_addLoan_74 rfl rfl ?_
    refine zt_iload C 5 dX1_addLoan_75 rfl ?_
    refine zt_ineg C dX1_addLoan_77 ?_
    refine zt_cVv C [.int x3, .int (-x4)] (m_X4_change hJ hc0 (za_lt g19) h) (za_mem (j := 4) rfl hc0 (za_lt g19)) (za_E_4 g cy M17 c0 x1.toNatClampNeg) rfl py_X4_change pv_X1_83 (Nat.le_of_ble_eq_true rfl) ⟨Nat.le_of_ble_eq_true rfl, Nat.le_of_ble_eq_true rfl⟩ ⟨Nat.zero_le _, Nat.zero_le _⟩ dX1_addLoan_78 rfl (fun M20 h => ?_)
    refine zt_aload_n C 1 dX1_addLoan_81 rfl rfl ?_
    refine zt_get C (za_mem (j := 2) rfl hc0 (by decide)) pf_X1_19 (za_E_2 g cy M20 c0 0) rfl dX1_addLoan_82 ?_
    refine zt_iload_n C 3 dX1_addLoan_85 rfl rfl ?_
    obtain ⟨g22, h⟩ := h
    refine zt_aald C (za_mem (j := 11) rfl hc0 (by decide)) (za_E_11 g cy M20 c0 0) rfl g22 dX1_addLoan_86 ?_
    refine zt_iload_n C 4 dX1_addLoan_87 rfl rfl ?_
    refine zt_iload C 5 dX1_addLoan_88 rfl ?_
    refine zt_cVv C [.int x3, .int x4] (m_X4_change hJ hc0 (za_lt g22) h) (za_mem (j := 4) rfl hc0 (za_lt g22)) (za_E_4 g cy M20 c0 x2.toNatClampNeg) rfl py_X4_change pv_X1_83 (Nat.le_of_ble_eq_true rfl) ⟨Nat.le_of_ble_eq_true rfl, Nat.le_of_ble_eq_true rfl⟩ ⟨Nat.zero_le _, Nat.zero_le _⟩ dX1_addLoan_90 rfl (fun M23 h => ?_)
    exact zt_vret C hr hk dX1_addLoan_93 h
  · replace h := za_ifn h q1
    exact zt_vret C hr hk dX1_addLoan_9 h
end
theorem m_X1_addLoan {l : Launch} {g : za_L → Nat} {D : va_G} {cy : Nat → ClassId} (hJ : za_J g)  {c0 : Nat} (hc0 : c0 < 3) {x1 : Int32} {x2 : Int32} {x3 : Int32} {x4 : Int32} {x5 : Int32} {M : za_M} {K : za_M → Prop} (h : f_X1_addLoan c0 x1 x2 x3 x4 x5 M K) : za_Mv l g D cy yX1_addLoan cX1_addLoan 7 none 3 107 [.ref (g (2, c0, 0)), .int x1, .int x2, .int x3, .int x4, .int x5] M K := za_openv hJ (by decide) (Nat.le_of_ble_eq_true rfl) (fun p e s m args below meth c C hr hk => p_X1_addLoan hJ C hr hk hc0 h)
/-! X1_canGiveBack -/
def f_X1_canGiveBack (c0 : Nat) (c1 : Nat) (i1 : Nat) (M : za_M) (K : Int32 → za_M → Prop) : Prop :=
  vp_in (M.1 (5, c1, i1) 1) 4 ∧ (vp_in (M.1 (5, c1, i1) 2) 5 ∧ (if (M.1 (13, c0, (M.1 (5, c1, i1) 1).toNatClampNeg) (M.1 (5, c1, i1) 2).toNatClampNeg) < (M.1 (5, c1, i1) 3) then (K 0 M) else (K 1 M)))
section
variable {p : Program} {l : Launch} {e : Env} {s : State} {m : MethodId} {args : Array Value} {below : List Frame} {meth : Method} {c : Code} {g : za_L → Nat} {D : va_G} {cy : Nat → ClassId} {K : Int32 → za_M → Prop}
set_option maxRecDepth 100000 in
set_option maxHeartbeats 4000000 in
theorem p_X1_canGiveBack (hJ : za_J g) (C : za_C p s m args c cX1_canGiveBack 2 RX1 g D cy) (hr : meth.sig.returnType = (some .boolean)) (hk : meth.locks = false) {c0 : Nat} (hc0 : c0 < 3) {c1 : Nat} (hc1 : c1 < 3) {i1 : Nat} (hi1 : i1 < 10) {M : za_M} (h : f_X1_canGiveBack c0 c1 i1 M K) : zt p l e (za_rm 1 64) s m args below meth c 0 0 (MQ below (za_Qi g D cy K) args s 0 0 (za_A g)) g D cy 2 M 0 [(0, .ref (g (2, c0, 0))), (1, .ref (g (5, c1, i1)))] [] := by
  unfold f_X1_canGiveBack at h
  refine zt_aload_n C 0 dX1_canGiveBack_0 rfl rfl ?_
  refine zt_get C (za_mem (j := 2) rfl hc0 (by decide)) pf_X1_19 (za_E_2 g cy M c0 0) rfl dX1_canGiveBack_1 ?_
  refine zt_aload_n C 1 dX1_canGiveBack_4 rfl rfl ?_
  refine zt_get C (za_mem (j := 5) rfl hc1 hi1) pf_X1_69 (za_E_5 g cy M c1 i1) rfl dX1_canGiveBack_5 ?_
  obtain ⟨g1, h⟩ := h
  refine zt_aald C (za_mem (j := 11) rfl hc0 (by decide)) (za_E_11 g cy M c0 0) rfl g1 dX1_canGiveBack_8 ?_
  refine zt_get C (za_mem (j := 4) rfl hc0 (za_lt g1)) pf_X1_59 (za_E_4 g cy M c0 ((M.1 (5, c1, i1) 1).toNatClampNeg)) rfl dX1_canGiveBack_9 ?_
  refine zt_aload_n C 1 dX1_canGiveBack_12 rfl rfl ?_
  refine zt_get C (za_mem (j := 5) rfl hc1 hi1) pf_X1_77 (za_E_5 g cy M c1 i1) rfl dX1_canGiveBack_13 ?_
  obtain ⟨g2, h⟩ := h
  refine zt_iald C (za_mem (j := 13) rfl hc0 (za_lt g1)) (fun W9 => za_E_13 g cy W9 c0 ((M.1 (5, c1, i1) 1).toNatClampNeg)) g2 dX1_canGiveBack_16 ?_
  refine zt_aload_n C 1 dX1_canGiveBack_17 rfl rfl ?_
  refine zt_get C (za_mem (j := 5) rfl hc1 hi1) pf_X1_75 (za_E_5 g cy M c1 i1) rfl dX1_canGiveBack_18 ?_
  refine zt_icmp_lt C 28 dX1_canGiveBack_21 (by decide) (fun q3 => ?_) (fun q3 => ?_)
  · replace h := za_ifp h q3
    refine zt_iconst C (v := 0) dX1_canGiveBack_28 zk_i0 ?_
    exact zt_ret C hr hk rfl dX1_canGiveBack_29 h
  · replace h := za_ifn h q3
    refine zt_iconst C (v := 1) dX1_canGiveBack_24 zk_i1 ?_
    refine zt_goto C 29 dX1_canGiveBack_25 (by decide) ?_
    exact zt_ret C hr hk rfl dX1_canGiveBack_29 h
end
theorem m_X1_canGiveBack {l : Launch} {g : za_L → Nat} {D : va_G} {cy : Nat → ClassId} (hJ : za_J g)  {c0 : Nat} (hc0 : c0 < 3) {c1 : Nat} (hc1 : c1 < 3) {i1 : Nat} (hi1 : i1 < 10) {M : za_M} {K : Int32 → za_M → Prop} (h : f_X1_canGiveBack c0 c1 i1 M K) : za_Mi l g D cy yX1_canGiveBack cX1_canGiveBack 2 (some .boolean) 1 64 [.ref (g (2, c0, 0)), .ref (g (5, c1, i1))] M K := za_openi hJ (by decide) (Nat.le_of_ble_eq_true rfl) (fun p e s m args below meth c C hr hk => p_X1_canGiveBack hJ C hr hk hc0 hc1 hi1 h)
/-! X2_withoutText -/
def f_X2_withoutText (c0 : Nat) (i0 : Nat) (x1 : Int32) (x2 : Int32) (M : za_M) (K : Int32 → za_M → Prop) : Prop :=
  if (M.1 (6, c0, i0) 0) = 0 then (K (x1 + x2) M) else (K (x1 - (x1 / 4)) M)
section
variable {p : Program} {l : Launch} {e : Env} {s : State} {m : MethodId} {args : Array Value} {below : List Frame} {meth : Method} {c : Code} {g : za_L → Nat} {D : va_G} {cy : Nat → ClassId} {K : Int32 → za_M → Prop}
set_option maxRecDepth 100000 in
set_option maxHeartbeats 4000000 in
theorem p_X2_withoutText (hJ : za_J g) (C : za_C p s m args c cX2_withoutText 3 RX2 g D cy) (hr : meth.sig.returnType = (some .int)) (hk : meth.locks = false) {c0 : Nat} (hc0 : c0 < 2) {i0 : Nat} (hi0 : i0 < 2) {x1 : Int32} {x2 : Int32} {M : za_M} (h : f_X2_withoutText c0 i0 x1 x2 M K) : zt p l e (za_rm 1 64) s m args below meth c 0 0 (MQ below (za_Qi g D cy K) args s 0 0 (za_A g)) g D cy 3 M 0 [(0, .ref (g (6, c0, i0))), (1, .int x1), (2, .int x2)] [] := by
  unfold f_X2_withoutText at h
  refine zt_aload_n C 0 dX2_withoutText_0 rfl rfl ?_
  refine zt_get C (za_mem (j := 6) rfl hc0 hi0) pf_X2_18 (za_E_6 g cy M c0 i0) rfl dX2_withoutText_1 ?_
  refine zt_if_ne C 13 dX2_withoutText_4 (by decide) (fun q1 => ?_) (fun q1 => ?_)
  · replace h := za_ifn h q1
    refine zt_iload_n C 1 dX2_withoutText_13 rfl rfl ?_
    refine zt_iload_n C 1 dX2_withoutText_14 rfl rfl ?_
    refine zt_iconst C (v := 4) dX2_withoutText_15 zk_i4 ?_
    refine zt_idiv C dX2_withoutText_16 (by decide) ?_
    refine zt_isub C dX2_withoutText_17 ?_
    exact zt_ret C hr hk rfl dX2_withoutText_18 h
  · replace h := za_ifp h q1
    refine zt_iload_n C 1 dX2_withoutText_7 rfl rfl ?_
    refine zt_iload_n C 2 dX2_withoutText_8 rfl rfl ?_
    refine zt_iadd C dX2_withoutText_9 ?_
    refine zt_goto C 18 dX2_withoutText_10 (by decide) ?_
    exact zt_ret C hr hk rfl dX2_withoutText_18 h
end
theorem m_X2_withoutText {l : Launch} {g : za_L → Nat} {D : va_G} {cy : Nat → ClassId} (hJ : za_J g)  {c0 : Nat} (hc0 : c0 < 2) {i0 : Nat} (hi0 : i0 < 2) {x1 : Int32} {x2 : Int32} {M : za_M} {K : Int32 → za_M → Prop} (h : f_X2_withoutText c0 i0 x1 x2 M K) : za_Mi l g D cy yX2_withoutText cX2_withoutText 3 (some .int) 1 64 [.ref (g (6, c0, i0)), .int x1, .int x2] M K := za_openi hJ (by decide) (Nat.le_of_ble_eq_true rfl) (fun p e s m args below meth c C hr hk => p_X2_withoutText hJ C hr hk hc0 hi0 h)

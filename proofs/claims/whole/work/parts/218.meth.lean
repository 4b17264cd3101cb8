/-! X10_text -/
def f_X10_text_b118 (K : Int32 → za_M → Prop) (L118 : Int32 → za_M → Prop) (x2 : Int32) (M : za_M) : Prop :=
  if (M.1 (27, 0, 0) 11) ≤ x2 then (K 1 M) else (vp_in x2 60 ∧ (za_let (M.1 (33, 0, 0) x2.toNatClampNeg) fun y3 => vp_in (((175 + (52 * (M.1 (27, 0, 0) 8))) + 1) + x2) 279 ∧ (za_let (za_up M (28, 0, 0) (((175 + (52 * (M.1 (27, 0, 0) 8))) + 1) + x2).toNatClampNeg y3) fun M6 => L118 (x2 + 1) M6)))
def f_X10_text_b71 (K : Int32 → za_M → Prop) (s1 : Int32) (M : za_M) : Prop :=
  za_B s1 ∧ (za_let (za_up M (27, 0, 0) 9 s1) fun M9 => vp_in 5 279 ∧ (za_let (za_up M9 (28, 0, 0) (Int32.toNatClampNeg 5) 0) fun M12 => if (M12.1 (27, 0, 0) 9) = 0 then (za_let (M12.1 (27, 0, 0) 11) fun y15 => vp_in (175 + (52 * (M12.1 (27, 0, 0) 8))) 279 ∧ (za_let (za_up M12 (28, 0, 0) (175 + (52 * (M12.1 (27, 0, 0) 8))).toNatClampNeg y15) fun M18 => ∃ n, za_lp1 (f_X10_text_b118 K) n 0 M18)) else (K ((-10) - (M12.1 (27, 0, 0) 6)) M12)))
def f_X10_text_b66 (K : Int32 → za_M → Prop) (M : za_M) : Prop :=
  f_X10_text_b71 K 1 M
def f_X10_text (x1 : Int32) (M : za_M) (K : Int32 → za_M → Prop) : Prop :=
  f_X10_within x1 0 1 M (fun r21 M20 => if r21 = 0 then (f_X10_finding (-1000000001) M20 (fun r39 M38 => K r39 M38)) else (za_let (za_up M20 (27, 0, 0) 8 x1) fun M23 => za_let (za_up M23 (27, 0, 0) 6 0) fun M25 => za_let (za_up M25 (27, 0, 0) 7 0) fun M27 => za_let (za_up M27 (27, 0, 0) 9 0) fun M29 => za_let (za_up M29 (27, 0, 0) 11 0) fun M31 => f_X10_either 100 M31 (fun M33 => if (M33.1 (27, 0, 0) 9) = 0 then (vp_in 5 279 ∧ (if (M33.1 (28, 0, 0) (Int32.toNatClampNeg 5)) ≤ (M33.1 (27, 0, 0) 6) then (f_X10_text_b71 K 0 M33) else (f_X10_text_b66 K M33))) else (f_X10_text_b66 K M33))))
section
variable {p : Program} {l : Launch} {e : Env} {s : State} {m : MethodId} {args : Array Value} {below : List Frame} {meth : Method} {c : Code} {g : za_L → Nat} {D : va_G} {cy : Nat → ClassId} {K : Int32 → za_M → Prop}
set_option maxRecDepth 100000 in
set_option maxHeartbeats 4000000 in
theorem p_X10_text_b118 (hJ : za_J g) (C : za_C p s m args c cX10_text 3 RX10 g D cy) (hr : meth.sig.returnType = (some .int)) (hk : meth.locks = false) {L118 : Int32 → za_M → Prop} (hL118 : ∀ (x2 : Int32) (M : za_M), L118 x2 M → zt p l e (za_rm 110 6443) s m args below meth c 0 0 (MQ below (za_Qi g D cy K) args s 0 0 (za_A g)) g D cy 3 M 118 [(0, .ref (g (27, 0, 0))), (2, .int x2)] []) : ∀ (x2 : Int32) (M : za_M), f_X10_text_b118 K L118 x2 M → zt p l e (za_rm 110 6443) s m args below meth c 0 0 (MQ below (za_Qi g D cy K) args s 0 0 (za_A g)) g D cy 3 M 118 [(0, .ref (g (27, 0, 0))), (2, .int x2)] [] := by
  intro x2 M h
  unfold f_X10_text_b118 at h
  refine zt_iload_n C 1 dX10_text_118 rfl rfl ?_
  refine zt_aload_n C 0 dX10_text_119 rfl rfl ?_
  refine zt_get C (za_mem (j := 27) rfl (by decide) (by decide)) pf_X10_94 (za_E_27 g cy M 0 0) rfl dX10_text_120 ?_
  refine zt_icmp_ge C 158 dX10_text_123 (by decide) (fun q1 => ?_) (fun q1 => ?_)
  · replace h := za_ifp h q1
    refine zt_iconst C (v := 1) dX10_text_158 zk_i1 ?_
    exact zt_ret C hr hk rfl dX10_text_159 h
  · replace h := za_ifn h q1
    refine zt_aload_n C 0 dX10_text_126 rfl rfl ?_
    refine zt_get C (za_mem (j := 27) rfl (by decide) (by decide)) pf_X10_9 (za_E_27 g cy M 0 0) rfl dX10_text_127 ?_
    refine zt_sipush C (v := 175) dX10_text_130 zk_s175 ?_
    refine zt_bipush C (v := 52) dX10_text_133 zk_b52 ?_
    refine zt_aload_n C 0 dX10_text_135 rfl rfl ?_
    refine zt_get C (za_mem (j := 27) rfl (by decide) (by decide)) pf_X10_120 (za_E_27 g cy M 0 0) rfl dX10_text_136 ?_
    refine zt_imul C dX10_text_139 ?_
    refine zt_iadd C dX10_text_140 ?_
    refine zt_iconst C (v := 1) dX10_text_141 zk_i1 ?_
    refine zt_iadd C dX10_text_142 ?_
    refine zt_iload_n C 1 dX10_text_143 rfl rfl ?_
    refine zt_iadd C dX10_text_144 ?_
    refine zt_aload_n C 0 dX10_text_145 rfl rfl ?_
    refine zt_get C (za_mem (j := 27) rfl (by decide) (by decide)) pf_X10_32 (za_E_27 g cy M 0 0) rfl dX10_text_146 ?_
    refine zt_iload_n C 1 dX10_text_149 rfl rfl ?_
    obtain ⟨g2, h⟩ := h
    refine zt_iald C (za_mem (j := 33) rfl (by decide) (by decide)) (fun W9 => za_E_33 g cy W9 0 0) g2 dX10_text_150 ?_
    refine zt_topi (fun y3 e4 => ?_)
    replace h := za_use h e4
    obtain ⟨g5, h⟩ := h
    refine zt_iast C (za_mem (j := 28) rfl (by decide) (by decide)) (fun W9 => za_E_28 g cy W9 0 0) g5 dX10_text_151 ?_
    refine zt_topM (fun M6 e7 => ?_)
    replace h := za_use h e7
    refine zt_iinc C (v := x2 + 1) 1 [(2, .int (x2 + 1)), (0, .ref (g (27, 0, 0)))] dX10_text_152 rfl (zk_n1 _) (by decide) rfl ?_
    refine zt_goto C 118 dX10_text_155 (by decide) ?_
    refine zt_sub [1, 0] (lv' := [(0, .ref (g (27, 0, 0))), (2, .int (x2 + 1))]) rfl ?_
    exact hL118 _ _ h
theorem p_X10_text_b118_in (hJ : za_J g) (C : za_C p s m args c cX10_text 3 RX10 g D cy) (hr : meth.sig.returnType = (some .int)) (hk : meth.locks = false) {n : Nat} {x2 : Int32} {M : za_M} (h : za_lp1 (f_X10_text_b118 K) n x2 M) : zt p l e (za_rm 110 6443) s m args below meth c 0 0 (MQ below (za_Qi g D cy K) args s 0 0 (za_A g)) g D cy 3 M 118 [(0, .ref (g (27, 0, 0))), (2, .int x2)] [] := za_lp1_run (Z := fun x2 M => zt p l e (za_rm 110 6443) s m args below meth c 0 0 (MQ below (za_Qi g D cy K) args s 0 0 (za_A g)) g D cy 3 M 118 [(0, .ref (g (27, 0, 0))), (2, .int x2)] []) (fun L hL => p_X10_text_b118 hJ C hr hk  hL) n x2 M h
set_option maxRecDepth 100000 in
set_option maxHeartbeats 4000000 in
theorem p_X10_text_b71 (hJ : za_J g) (C : za_C p s m args c cX10_text 3 RX10 g D cy) (hr : meth.sig.returnType = (some .int)) (hk : meth.locks = false) {s1 : Int32} {M : za_M} (h : f_X10_text_b71 K s1 M) : zt p l e (za_rm 110 6443) s m args below meth c 0 0 (MQ below (za_Qi g D cy K) args s 0 0 (za_A g)) g D cy 3 M 71 [(0, .ref (g (27, 0, 0)))] [.int s1, .ref (g (27, 0, 0))] := by
  unfold f_X10_text_b71 at h
  obtain ⟨g8, h⟩ := h
  refine zt_put C (za_mem (j := 27) rfl (by decide) (by decide)) pf_X10_82 pt_X10_9 (za_Bn g8) (za_Bf g8) (za_E_27 g cy M 0 0) rfl (Nat.le_of_ble_eq_true rfl) dX10_text_71 ?_
  refine zt_topM (fun M9 e10 => ?_)
  replace h := za_use h e10
  refine zt_aload_n C 0 dX10_text_74 rfl rfl ?_
  refine zt_get C (za_mem (j := 27) rfl (by decide) (by decide)) pf_X10_9 (za_E_27 g cy M9 0 0) rfl dX10_text_75 ?_
  refine zt_iconst C (v := 5) dX10_text_78 zk_i5 ?_
  refine zt_iconst C (v := 0) dX10_text_79 zk_i0 ?_
  obtain ⟨g11, h⟩ := h
  refine zt_iast C (za_mem (j := 28) rfl (by decide) (by decide)) (fun W9 => za_E_28 g cy W9 0 0) g11 dX10_text_80 ?_
  refine zt_topM (fun M12 e13 => ?_)
  replace h := za_use h e13
  refine zt_aload_n C 0 dX10_text_81 rfl rfl ?_
  refine zt_get C (za_mem (j := 27) rfl (by decide) (by decide)) pf_X10_82 (za_E_27 g cy M12 0 0) rfl dX10_text_82 ?_
  refine zt_if_eq C 96 dX10_text_85 (by decide) (fun q14 => ?_) (fun q14 => ?_)
  · replace h := za_ifp h q14
    refine zt_aload_n C 0 dX10_text_96 rfl rfl ?_
    refine zt_get C (za_mem (j := 27) rfl (by decide) (by decide)) pf_X10_9 (za_E_27 g cy M12 0 0) rfl dX10_text_97 ?_
    refine zt_sipush C (v := 175) dX10_text_100 zk_s175 ?_
    refine zt_bipush C (v := 52) dX10_text_103 zk_b52 ?_
    refine zt_aload_n C 0 dX10_text_105 rfl rfl ?_
    refine zt_get C (za_mem (j := 27) rfl (by decide) (by decide)) pf_X10_120 (za_E_27 g cy M12 0 0) rfl dX10_text_106 ?_
    refine zt_imul C dX10_text_109 ?_
    refine zt_iadd C dX10_text_110 ?_
    refine zt_aload_n C 0 dX10_text_111 rfl rfl ?_
    refine zt_get C (za_mem (j := 27) rfl (by decide) (by decide)) pf_X10_94 (za_E_27 g cy M12 0 0) rfl dX10_text_112 ?_
    refine zt_topi (fun y15 e16 => ?_)
    replace h := za_use h e16
    obtain ⟨g17, h⟩ := h
    refine zt_iast C (za_mem (j := 28) rfl (by decide) (by decide)) (fun W9 => za_E_28 g cy W9 0 0) g17 dX10_text_115 ?_
    refine zt_topM (fun M18 e19 => ?_)
    replace h := za_use h e19
    refine zt_iconst C (v := 0) dX10_text_116 zk_i0 ?_
    refine zt_istore_n C [(2, .int 0), (0, .ref (g (27, 0, 0)))] dX10_text_117 rfl (by decide) rfl ?_
    refine zt_sub [1, 0] (lv' := [(0, .ref (g (27, 0, 0))), (2, .int 0)]) rfl ?_
    obtain ⟨n, h⟩ := h
    exact p_X10_text_b118_in hJ C hr hk  h
  · replace h := za_ifn h q14
    refine zt_bipush C (v := (-10)) dX10_text_88 zk_bm10 ?_
    refine zt_aload_n C 0 dX10_text_90 rfl rfl ?_
    refine zt_get C (za_mem (j := 27) rfl (by decide) (by decide)) pf_X10_86 (za_E_27 g cy M12 0 0) rfl dX10_text_91 ?_
    refine zt_isub C dX10_text_94 ?_
    exact zt_ret C hr hk rfl dX10_text_95 h
set_option maxRecDepth 100000 in
set_option maxHeartbeats 4000000 in
theorem p_X10_text_b66 (hJ : za_J g) (C : za_C p s m args c cX10_text 3 RX10 g D cy) (hr : meth.sig.returnType = (some .int)) (hk : meth.locks = false) {M : za_M} (h : f_X10_text_b66 K M) : zt p l e (za_rm 110 6443) s m args below meth c 0 0 (MQ below (za_Qi g D cy K) args s 0 0 (za_A g)) g D cy 3 M 66 [(0, .ref (g (27, 0, 0)))] [.ref (g (27, 0, 0))] := by
  unfold f_X10_text_b66 at h
  refine zt_iconst C (v := 1) dX10_text_66 zk_i1 ?_
  refine zt_goto C 71 dX10_text_67 (by decide) ?_
  exact p_X10_text_b71 hJ C hr hk  h
set_option maxRecDepth 100000 in
set_option maxHeartbeats 4000000 in
theorem p_X10_text (hJ : za_J g) (C : za_C p s m args c cX10_text 3 RX10 g D cy) (hr : meth.sig.returnType = (some .int)) (hk : meth.locks = false) {x1 : Int32} {M : za_M} (h : f_X10_text x1 M K) : zt p l e (za_rm 110 6443) s m args below meth c 0 0 (MQ below (za_Qi g D cy K) args s 0 0 (za_A g)) g D cy 3 M 0 [(0, .ref (g (27, 0, 0))), (1, .int x1)] [] := by
  unfold f_X10_text at h
  refine zt_iload_n C 1 dX10_text_0 rfl rfl ?_
  refine zt_iconst C (v := 0) dX10_text_1 zk_i0 ?_
  refine zt_iconst C (v := 1) dX10_text_2 zk_i1 ?_
  refine zt_cSi C [.int x1, .int 0, .int 1] (m_X10_within hJ  h) py_X10_within ps_X10_70 (Nat.le_of_ble_eq_true rfl) ⟨Nat.le_of_ble_eq_true rfl, Nat.le_of_ble_eq_true rfl⟩ ⟨Nat.zero_le _, Nat.zero_le _⟩ dX10_text_3 rfl (fun r21 M20 h => ?_)
  refine zt_if_ne C 16 dX10_text_6 (by decide) (fun q22 => ?_) (fun q22 => ?_)
  · replace h := za_ifn h q22
    refine zt_aload_n C 0 dX10_text_16 rfl rfl ?_
    refine zt_iload_n C 1 dX10_text_17 rfl rfl ?_
    refine zt_put C (za_mem (j := 27) rfl (by decide) (by decide)) pf_X10_120 pt_X10_8 rfl rfl (za_E_27 g cy M20 0 0) rfl (Nat.le_of_ble_eq_true rfl) dX10_text_18 ?_
    refine zt_topM (fun M23 e24 => ?_)
    replace h := za_use h e24
    refine zt_aload_n C 0 dX10_text_21 rfl rfl ?_
    refine zt_iconst C (v := 0) dX10_text_22 zk_i0 ?_
    refine zt_put C (za_mem (j := 27) rfl (by decide) (by decide)) pf_X10_86 pt_X10_6 rfl rfl (za_E_27 g cy M23 0 0) rfl (Nat.le_of_ble_eq_true rfl) dX10_text_23 ?_
    refine zt_topM (fun M25 e26 => ?_)
    replace h := za_use h e26
    refine zt_aload_n C 0 dX10_text_26 rfl rfl ?_
    refine zt_iconst C (v := 0) dX10_text_27 zk_i0 ?_
    refine zt_put C (za_mem (j := 27) rfl (by decide) (by decide)) pf_X10_130 pt_X10_7 rfl rfl (za_E_27 g cy M25 0 0) rfl (Nat.le_of_ble_eq_true rfl) dX10_text_28 ?_
    refine zt_topM (fun M27 e28 => ?_)
    replace h := za_use h e28
    refine zt_aload_n C 0 dX10_text_31 rfl rfl ?_
    refine zt_iconst C (v := 0) dX10_text_32 zk_i0 ?_
    refine zt_put C (za_mem (j := 27) rfl (by decide) (by decide)) pf_X10_82 pt_X10_9 rfl rfl (za_E_27 g cy M27 0 0) rfl (Nat.le_of_ble_eq_true rfl) dX10_text_33 ?_
    refine zt_topM (fun M29 e30 => ?_)
    replace h := za_use h e30
    refine zt_aload_n C 0 dX10_text_36 rfl rfl ?_
    refine zt_iconst C (v := 0) dX10_text_37 zk_i0 ?_
    refine zt_put C (za_mem (j := 27) rfl (by decide) (by decide)) pf_X10_94 pt_X10_11 rfl rfl (za_E_27 g cy M29 0 0) rfl (Nat.le_of_ble_eq_true rfl) dX10_text_38 ?_
    refine zt_topM (fun M31 e32 => ?_)
    replace h := za_use h e32
    refine zt_aload_n C 0 dX10_text_41 rfl rfl ?_
    refine zt_cVv C [] (m_X10_either hJ  h) (za_mem (j := 27) rfl (by decide) (by decide)) (za_E_27 g cy M31 0 0) rfl py_X10_either pv_X10_133 (Nat.le_of_ble_eq_true rfl) ⟨Nat.le_of_ble_eq_true rfl, Nat.le_of_ble_eq_true rfl⟩ ⟨Nat.zero_le _, Nat.zero_le _⟩ dX10_text_42 rfl (fun M33 h => ?_)
    refine zt_aload_n C 0 dX10_text_45 rfl rfl ?_
    refine zt_aload_n C 0 dX10_text_46 rfl rfl ?_
    refine zt_get C (za_mem (j := 27) rfl (by decide) (by decide)) pf_X10_82 (za_E_27 g cy M33 0 0) rfl dX10_text_47 ?_
    refine zt_if_ne C 66 dX10_text_50 (by decide) (fun q35 => ?_) (fun q35 => ?_)
    · replace h := za_ifn h q35
      refine zt_sub [0] (lv' := [(0, .ref (g (27, 0, 0)))]) rfl ?_
      exact p_X10_text_b66 hJ C hr hk  h
    · replace h := za_ifp h q35
      refine zt_aload_n C 0 dX10_text_53 rfl rfl ?_
      refine zt_get C (za_mem (j := 27) rfl (by decide) (by decide)) pf_X10_86 (za_E_27 g cy M33 0 0) rfl dX10_text_54 ?_
      refine zt_aload_n C 0 dX10_text_57 rfl rfl ?_
      refine zt_get C (za_mem (j := 27) rfl (by decide) (by decide)) pf_X10_9 (za_E_27 g cy M33 0 0) rfl dX10_text_58 ?_
      refine zt_iconst C (v := 5) dX10_text_61 zk_i5 ?_
      obtain ⟨g36, h⟩ := h
      refine zt_iald C (za_mem (j := 28) rfl (by decide) (by decide)) (fun W9 => za_E_28 g cy W9 0 0) g36 dX10_text_62 ?_
      refine zt_icmp_ge C 70 dX10_text_63 (by decide) (fun q37 => ?_) (fun q37 => ?_)
      · replace h := za_ifp h q37
        refine zt_iconst C (v := 0) dX10_text_70 zk_i0 ?_
        refine zt_sub [0] (lv' := [(0, .ref (g (27, 0, 0)))]) rfl ?_
        exact p_X10_text_b71 hJ C hr hk  h
      · replace h := za_ifn h q37
        refine zt_sub [0] (lv' := [(0, .ref (g (27, 0, 0)))]) rfl ?_
        exact p_X10_text_b66 hJ C hr hk  h
  · replace h := za_ifp h q22
    refine zt_aload_n C 0 dX10_text_9 rfl rfl ?_
    refine zt_ldc C w_969 dX10_text_10 ?_
    refine zt_cVi C [.int (-1000000001)] (m_X10_finding hJ  h) (za_mem (j := 27) rfl (by decide) (by decide)) (za_E_27 g cy M20 0 0) rfl py_X10_finding pv_X10_75 (Nat.le_of_ble_eq_true rfl) ⟨Nat.le_of_ble_eq_true rfl, Nat.le_of_ble_eq_true rfl⟩ ⟨Nat.zero_le _, Nat.zero_le _⟩ dX10_text_12 rfl (fun r39 M38 h => ?_)
    exact zt_ret C hr hk rfl dX10_text_15 h
end
theorem m_X10_text {l : Launch} {g : za_L → Nat} {D : va_G} {cy : Nat → ClassId} (hJ : za_J g)  {x1 : Int32} {M : za_M} {K : Int32 → za_M → Prop} (h : f_X10_text x1 M K) : za_Mi l g D cy yX10_text cX10_text 3 (some .int) 110 6443 [.ref (g (27, 0, 0)), .int x1] M K := za_openi hJ (by decide) (Nat.le_of_ble_eq_true rfl) (fun p e s m args below meth c C hr hk => p_X10_text hJ C hr hk  h)
/-! X10_done -/
def f_X10_done_b60 (K : Int32 → za_M → Prop) (M : za_M) : Prop :=
  K 1 M
def f_X10_done_b78 (K : Int32 → za_M → Prop) (M : za_M) : Prop :=
  K 0 M
def f_X10_done (x0 : Int32) (x1 : Int32) (x2 : Int32) (M : za_M) (K : Int32 → za_M → Prop) : Prop :=
  if x0 = 20000 then (if x1 = 0 then (if x2 = 0 then (K 0 M) else (f_X10_done_b60 K M)) else (f_X10_done_b60 K M)) else if x0 = 20001 then (if x1 = 0 then (f_X10_done_b78 K M) else (if x2 = 0 then (f_X10_done_b78 K M) else (K 1 M))) else if x0 = 20002 then (if x2 ≤ x1 then (K 0 M) else (K 1 M)) else if x0 = 20003 then (if x1 = x2 then (K 1 M) else (K 0 M)) else if x0 = 20004 then (if x1 ≤ x2 then (K 0 M) else (K 1 M)) else if x0 = 20005 then (K (x1 + x2) M) else if x0 = 20006 then (K (x1 - x2) M) else if x0 = 20007 then (K (x1 * x2) M) else if x0 = 20008 then (if x2 = 0 then (K 0 M) else (¬ x2 = 0 ∧ (K (x1 / x2) M))) else (if x2 = 0 then (K 0 M) else (¬ x2 = 0 ∧ (K (x1 - x1 / x2 * x2) M)))
section
variable {p : Program} {l : Launch} {e : Env} {s : State} {m : MethodId} {args : Array Value} {below : List Frame} {meth : Method} {c : Code} {g : za_L → Nat} {D : va_G} {cy : Nat → ClassId} {K : Int32 → za_M → Prop}
set_option maxRecDepth 100000 in
set_option maxHeartbeats 4000000 in
theorem p_X10_done_b60 (hJ : za_J g) (C : za_C p s m args c cX10_done 3 RX10 g D cy) (hr : meth.sig.returnType = (some .int)) (hk : meth.locks = false) {M : za_M} (h : f_X10_done_b60 K M) : zt p l e (za_rm 1 64) s m args below meth c 0 0 (MQ below (za_Qi g D cy K) args s 0 0 (za_A g)) g D cy 3 M 60 [] [] := by
  unfold f_X10_done_b60 at h
  refine zt_iconst C (v := 1) dX10_done_60 zk_i1 ?_
  refine zt_goto C 65 dX10_done_61 (by decide) ?_
  exact zt_ret C hr hk rfl dX10_done_65 h
set_option maxRecDepth 100000 in
set_option maxHeartbeats 4000000 in
theorem p_X10_done_b78 (hJ : za_J g) (C : za_C p s m args c cX10_done 3 RX10 g D cy) (hr : meth.sig.returnType = (some .int)) (hk : meth.locks = false) {M : za_M} (h : f_X10_done_b78 K M) : zt p l e (za_rm 1 64) s m args below meth c 0 0 (MQ below (za_Qi g D cy K) args s 0 0 (za_A g)) g D cy 3 M 78 [] [] := by
  unfold f_X10_done_b78 at h
  refine zt_iconst C (v := 0) dX10_done_78 zk_i0 ?_
  exact zt_ret C hr hk rfl dX10_done_79 h
set_option maxRecDepth 100000 in
set_option maxHeartbeats 4000000 in
theorem p_X10_done (hJ : za_J g) (C : za_C p s m args c cX10_done 3 RX10 g D cy) (hr : meth.sig.returnType = (some .int)) (hk : meth.locks = false) {x0 : Int32} {x1 : Int32} {x2 : Int32} {M : za_M} (h : f_X10_done x0 x1 x2 M K) : zt p l e (za_rm 1 64) s m args below meth c 0 0 (MQ below (za_Qi g D cy K) args s 0 0 (za_A g)) g D cy 3 M 0 [(0, .int x0), (1, .int x1), (2, .int x2)] [] := by
  unfold f_X10_done at h
  refine zt_iload_n C 0 dX10_done_0 rfl rfl ?_
  by_cases q1 : x0 = 20000
  · replace h := za_ifp h q1
    refine zt_tableIn C (off := 51) 52 dX10_done_1 (by rw [q1]; decide) (by rw [q1]; decide) (by rw [q1]; decide) (by decide) ?_
    refine zt_iload_n C 1 dX10_done_52 rfl rfl ?_
    refine zt_if_ne C 60 dX10_done_53 (by decide) (fun q2 => ?_) (fun q2 => ?_)
    · replace h := za_ifn h q2
      refine zt_sub [] (lv' := []) rfl ?_
      exact p_X10_done_b60 hJ C hr hk  h
    · replace h := za_ifp h q2
      refine zt_iload_n C 2 dX10_done_56 rfl rfl ?_
      refine zt_if_eq C 64 dX10_done_57 (by decide) (fun q3 => ?_) (fun q3 => ?_)
      · replace h := za_ifp h q3
        refine zt_iconst C (v := 0) dX10_done_64 zk_i0 ?_
        exact zt_ret C hr hk rfl dX10_done_65 h
      · replace h := za_ifn h q3
        refine zt_sub [] (lv' := []) rfl ?_
        exact p_X10_done_b60 hJ C hr hk  h
  replace h := za_ifn h q1
  by_cases q4 : x0 = 20001
  · replace h := za_ifp h q4
    refine zt_tableIn C (off := 65) 66 dX10_done_1 (by rw [q4]; decide) (by rw [q4]; decide) (by rw [q4]; decide) (by decide) ?_
    refine zt_iload_n C 1 dX10_done_66 rfl rfl ?_
    refine zt_if_eq C 78 dX10_done_67 (by decide) (fun q5 => ?_) (fun q5 => ?_)
    · replace h := za_ifp h q5
      refine zt_sub [] (lv' := []) rfl ?_
      exact p_X10_done_b78 hJ C hr hk  h
    · replace h := za_ifn h q5
      refine zt_iload_n C 2 dX10_done_70 rfl rfl ?_
      refine zt_if_eq C 78 dX10_done_71 (by decide) (fun q6 => ?_) (fun q6 => ?_)
      · replace h := za_ifp h q6
        refine zt_sub [] (lv' := []) rfl ?_
        exact p_X10_done_b78 hJ C hr hk  h
      · replace h := za_ifn h q6
        refine zt_iconst C (v := 1) dX10_done_74 zk_i1 ?_
        refine zt_goto C 79 dX10_done_75 (by decide) ?_
        exact zt_ret C hr hk rfl dX10_done_79 h
  replace h := za_ifn h q4
  by_cases q7 : x0 = 20002
  · replace h := za_ifp h q7
    refine zt_tableIn C (off := 79) 80 dX10_done_1 (by rw [q7]; decide) (by rw [q7]; decide) (by rw [q7]; decide) (by decide) ?_
    refine zt_iload_n C 1 dX10_done_80 rfl rfl ?_
    refine zt_iload_n C 2 dX10_done_81 rfl rfl ?_
    refine zt_icmp_ge C 89 dX10_done_82 (by decide) (fun q8 => ?_) (fun q8 => ?_)
    · replace h := za_ifp h q8
      refine zt_iconst C (v := 0) dX10_done_89 zk_i0 ?_
      exact zt_ret C hr hk rfl dX10_done_90 h
    · replace h := za_ifn h q8
      refine zt_iconst C (v := 1) dX10_done_85 zk_i1 ?_
      refine zt_goto C 90 dX10_done_86 (by decide) ?_
      exact zt_ret C hr hk rfl dX10_done_90 h
  replace h := za_ifn h q7
  by_cases q9 : x0 = 20003
  · replace h := za_ifp h q9
    refine zt_tableIn C (off := 90) 91 dX10_done_1 (by rw [q9]; decide) (by rw [q9]; decide) (by rw [q9]; decide) (by decide) ?_
    refine zt_iload_n C 1 dX10_done_91 rfl rfl ?_
    refine zt_iload_n C 2 dX10_done_92 rfl rfl ?_
    refine zt_icmp_ne C 100 dX10_done_93 (by decide) (fun q10 => ?_) (fun q10 => ?_)
    · replace h := za_ifn h q10
      refine zt_iconst C (v := 0) dX10_done_100 zk_i0 ?_
      exact zt_ret C hr hk rfl dX10_done_101 h
    · replace h := za_ifp h q10
      refine zt_iconst C (v := 1) dX10_done_96 zk_i1 ?_
      refine zt_goto C 101 dX10_done_97 (by decide) ?_
      exact zt_ret C hr hk rfl dX10_done_101 h
  replace h := za_ifn h q9
  by_cases q11 : x0 = 20004
  · replace h := za_ifp h q11
    refine zt_tableIn C (off := 101) 102 dX10_done_1 (by rw [q11]; decide) (by rw [q11]; decide) (by rw [q11]; decide) (by decide) ?_
    refine zt_iload_n C 1 dX10_done_102 rfl rfl ?_
    refine zt_iload_n C 2 dX10_done_103 rfl rfl ?_
    refine zt_icmp_le C 111 dX10_done_104 (by decide) (fun q12 => ?_) (fun q12 => ?_)
    · replace h := za_ifp h q12
      refine zt_iconst C (v := 0) dX10_done_111 zk_i0 ?_
      exact zt_ret C hr hk rfl dX10_done_112 h
    · replace h := za_ifn h q12
      refine zt_iconst C (v := 1) dX10_done_107 zk_i1 ?_
      refine zt_goto C 112 dX10_done_108 (by decide) ?_
      exact zt_ret C hr hk rfl dX10_done_112 h
  replace h := za_ifn h q11
  by_cases q13 : x0 = 20005
  · replace h := za_ifp h q13
    refine zt_tableIn C (off := 112) 113 dX10_done_1 (by rw [q13]; decide) (by rw [q13]; decide) (by rw [q13]; decide) (by decide) ?_
    refine zt_iload_n C 1 dX10_done_113 rfl rfl ?_
    refine zt_iload_n C 2 dX10_done_114 rfl rfl ?_
    refine zt_iadd C dX10_done_115 ?_
    exact zt_ret C hr hk rfl dX10_done_116 h
  replace h := za_ifn h q13
  by_cases q14 : x0 = 20006
  · replace h := za_ifp h q14
    refine zt_tableIn C (off := 116) 117 dX10_done_1 (by rw [q14]; decide) (by rw [q14]; decide) (by rw [q14]; decide) (by decide) ?_
    refine zt_iload_n C 1 dX10_done_117 rfl rfl ?_
    refine zt_iload_n C 2 dX10_done_118 rfl rfl ?_
    refine zt_isub C dX10_done_119 ?_
    exact zt_ret C hr hk rfl dX10_done_120 h
  replace h := za_ifn h q14
  by_cases q15 : x0 = 20007
  · replace h := za_ifp h q15
    refine zt_tableIn C (off := 120) 121 dX10_done_1 (by rw [q15]; decide) (by rw [q15]; decide) (by rw [q15]; decide) (by decide) ?_
    refine zt_iload_n C 1 dX10_done_121 rfl rfl ?_
    refine zt_iload_n C 2 dX10_done_122 rfl rfl ?_
    refine zt_imul C dX10_done_123 ?_
    exact zt_ret C hr hk rfl dX10_done_124 h
  replace h := za_ifn h q15
  by_cases q16 : x0 = 20008
  · replace h := za_ifp h q16
    refine zt_tableIn C (off := 124) 125 dX10_done_1 (by rw [q16]; decide) (by rw [q16]; decide) (by rw [q16]; decide) (by decide) ?_
    refine zt_iload_n C 2 dX10_done_125 rfl rfl ?_
    refine zt_if_ne C 133 dX10_done_126 (by decide) (fun q17 => ?_) (fun q17 => ?_)
    · replace h := za_ifn h q17
      refine zt_iload_n C 1 dX10_done_133 rfl rfl ?_
      refine zt_iload_n C 2 dX10_done_134 rfl rfl ?_
      obtain ⟨g18, h⟩ := h
      refine zt_idiv C dX10_done_135 g18 ?_
      exact zt_ret C hr hk rfl dX10_done_136 h
    · replace h := za_ifp h q17
      refine zt_iconst C (v := 0) dX10_done_129 zk_i0 ?_
      refine zt_goto C 136 dX10_done_130 (by decide) ?_
      exact zt_ret C hr hk rfl dX10_done_136 h
  replace h := za_ifn h q16
  have q1' := lv_neT (a := 20000) q1 (by decide)
  have q4' := lv_neT (a := 20001) q4 (by decide)
  have q7' := lv_neT (a := 20002) q7 (by decide)
  have q9' := lv_neT (a := 20003) q9 (by decide)
  have q11' := lv_neT (a := 20004) q11 (by decide)
  have q13' := lv_neT (a := 20005) q13 (by decide)
  have q14' := lv_neT (a := 20006) q14 (by decide)
  have q15' := lv_neT (a := 20007) q15 (by decide)
  have q16' := lv_neT (a := 20008) q16 (by decide)
  refine zt_tableOut C 137 dX10_done_1 (by omega) (by decide) ?_
  refine zt_iload_n C 2 dX10_done_137 rfl rfl ?_
  refine zt_if_ne C 145 dX10_done_138 (by decide) (fun q19 => ?_) (fun q19 => ?_)
  · replace h := za_ifn h q19
    refine zt_iload_n C 1 dX10_done_145 rfl rfl ?_
    refine zt_iload_n C 2 dX10_done_146 rfl rfl ?_
    obtain ⟨g20, h⟩ := h
    refine zt_irem C dX10_done_147 g20 ?_
    exact zt_ret C hr hk rfl dX10_done_148 h
  · replace h := za_ifp h q19
    refine zt_iconst C (v := 0) dX10_done_141 zk_i0 ?_
    refine zt_goto C 148 dX10_done_142 (by decide) ?_
    exact zt_ret C hr hk rfl dX10_done_148 h
end
theorem m_X10_done {l : Launch} {g : za_L → Nat} {D : va_G} {cy : Nat → ClassId} (hJ : za_J g)  {x0 : Int32} {x1 : Int32} {x2 : Int32} {M : za_M} {K : Int32 → za_M → Prop} (h : f_X10_done x0 x1 x2 M K) : za_Mi l g D cy yX10_done cX10_done 3 (some .int) 1 64 [.int x0, .int x1, .int x2] M K := za_openi hJ (by decide) (Nat.le_of_ble_eq_true rfl) (fun p e s m args below meth c C hr hk => p_X10_done hJ C hr hk  h)
/-! X10_worked -/
def f_X10_worked_b135 (K : Int32 → za_M → Prop) (L4 : Int32 → Int32 → za_M → Prop) (x1 : Int32) (x2 : Int32) (x3 : Int32) (M : za_M) : Prop :=
  L4 x2 (x3 + 1) M
def f_X10_worked_b101 (K : Int32 → za_M → Prop) (L4 : Int32 → Int32 → za_M → Prop) (x1 : Int32) (x2 : Int32) (x3 : Int32) (s1 : Int32) (s2 : Int32) (M : za_M) : Prop :=
  vp_in s1 60 ∧ (za_let (za_up M (35, 0, 0) s1.toNatClampNeg s2) fun M2 => f_X10_worked_b135 K L4 x1 x2 x3 M2)
def f_X10_worked_b63 (K : Int32 → za_M → Prop) (L4 : Int32 → Int32 → za_M → Prop) (x1 : Int32) (x2 : Int32) (x3 : Int32) (s1 : Int32) (s2 : Int32) (M : za_M) : Prop :=
  vp_in s1 60 ∧ (za_let (za_up M (35, 0, 0) s1.toNatClampNeg s2) fun M5 => f_X10_worked_b135 K L4 x1 (x2 + 1) x3 M5)
def f_X10_worked_b4 (K : Int32 → za_M → Prop) (x1 : Int32) (L4 : Int32 → Int32 → za_M → Prop) (x2 : Int32) (x3 : Int32) (M : za_M) : Prop :=
  vp_in (x1 - 1) 279 ∧ (if (x1 + (M.1 (28, 0, 0) (x1 - 1).toNatClampNeg)) ≤ x3 then (vp_in 0 60 ∧ (K (M.1 (35, 0, 0) (Int32.toNatClampNeg 0)) M)) else (vp_in x3 279 ∧ (za_let (M.1 (28, 0, 0) x3.toNatClampNeg) fun y11 => if 20000 ≤ y11 then (if y11 = 20010 then (vp_in (x2 - 1) 60 ∧ (if (M.1 (35, 0, 0) (x2 - 1).toNatClampNeg) = 0 then (f_X10_worked_b101 K L4 x1 x2 x3 (x2 - 1) 1 M) else (f_X10_worked_b101 K L4 x1 x2 x3 (x2 - 1) 0 M))) else (vp_in ((x2 + (-1)) - 1) 60 ∧ (vp_in (x2 + (-1)) 60 ∧ (f_X10_done y11 (M.1 (35, 0, 0) ((x2 + (-1)) - 1).toNatClampNeg) (M.1 (35, 0, 0) (x2 + (-1)).toNatClampNeg) M (fun r18 M17 => vp_in ((x2 + (-1)) - 1) 60 ∧ (za_let (za_up M17 (35, 0, 0) ((x2 + (-1)) - 1).toNatClampNeg r18) fun M20 => f_X10_worked_b135 K L4 x1 (x2 + (-1)) x3 M20)))))) else (if 10000 ≤ y11 then (vp_in (y11 - 10000) 4 ∧ (f_X10_worked_b63 K L4 x1 x2 x3 x2 (M.1 (34, 0, 0) (y11 - 10000).toNatClampNeg) M)) else (f_X10_worked_b63 K L4 x1 x2 x3 x2 y11 M)))))
def f_X10_worked (x1 : Int32) (M : za_M) (K : Int32 → za_M → Prop) : Prop :=
  ∃ n, za_lp2 (f_X10_worked_b4 K x1) n 0 x1 M
section
variable {p : Program} {l : Launch} {e : Env} {s : State} {m : MethodId} {args : Array Value} {below : List Frame} {meth : Method} {c : Code} {g : za_L → Nat} {D : va_G} {cy : Nat → ClassId} {K : Int32 → za_M → Prop}
set_option maxRecDepth 100000 in
set_option maxHeartbeats 4000000 in
theorem p_X10_worked_b135 (hJ : za_J g) (C : za_C p s m args c cX10_worked 5 RX10 g D cy) (hr : meth.sig.returnType = (some .int)) (hk : meth.locks = false) {x1 : Int32} {x2 : Int32} {x3 : Int32} {L4 : Int32 → Int32 → za_M → Prop} (hL4 : ∀ (x2 : Int32) (x3 : Int32) (M : za_M), L4 x2 x3 M → zt p l e (za_rm 2 86) s m args below meth c 0 0 (MQ below (za_Qi g D cy K) args s 0 0 (za_A g)) g D cy 5 M 4 [(0, .ref (g (27, 0, 0))), (1, .int x1), (2, .int x2), (3, .int x3)] []) {M : za_M} (h : f_X10_worked_b135 K L4 x1 x2 x3 M) : zt p l e (za_rm 2 86) s m args below meth c 0 0 (MQ below (za_Qi g D cy K) args s 0 0 (za_A g)) g D cy 5 M 135 [(0, .ref (g (27, 0, 0))), (1, .int x1), (2, .int x2), (3, .int x3)] [] := by
  unfold f_X10_worked_b135 at h
  refine zt_iinc C (v := x3 + 1) 3 [(3, .int (x3 + 1)), (0, .ref (g (27, 0, 0))), (1, .int x1), (2, .int x2)] dX10_worked_135 rfl (zk_n1 _) (by decide) rfl ?_
  refine zt_goto C 4 dX10_worked_138 (by decide) ?_
  refine zt_sub [1, 2, 3, 0] (lv' := [(0, .ref (g (27, 0, 0))), (1, .int x1), (2, .int x2), (3, .int (x3 + 1))]) rfl ?_
  exact hL4 _ _ _ h
set_option maxRecDepth 100000 in
set_option maxHeartbeats 4000000 in
theorem p_X10_worked_b101 (hJ : za_J g) (C : za_C p s m args c cX10_worked 5 RX10 g D cy) (hr : meth.sig.returnType = (some .int)) (hk : meth.locks = false) {x1 : Int32} {x2 : Int32} {x3 : Int32} {s1 : Int32} {s2 : Int32} {L4 : Int32 → Int32 → za_M → Prop} (hL4 : ∀ (x2 : Int32) (x3 : Int32) (M : za_M), L4 x2 x3 M → zt p l e (za_rm 2 86) s m args below meth c 0 0 (MQ below (za_Qi g D cy K) args s 0 0 (za_A g)) g D cy 5 M 4 [(0, .ref (g (27, 0, 0))), (1, .int x1), (2, .int x2), (3, .int x3)] []) {M : za_M} (h : f_X10_worked_b101 K L4 x1 x2 x3 s1 s2 M) : zt p l e (za_rm 2 86) s m args below meth c 0 0 (MQ below (za_Qi g D cy K) args s 0 0 (za_A g)) g D cy 5 M 101 [(0, .ref (g (27, 0, 0))), (1, .int x1), (2, .int x2), (3, .int x3)] [.int s2, .int s1, .ref (g (35, 0, 0))] := by
  unfold f_X10_worked_b101 at h
  obtain ⟨g1, h⟩ := h
  refine zt_iast C (za_mem (j := 35) rfl (by decide) (by decide)) (fun W9 => za_E_35 g cy W9 0 0) g1 dX10_worked_101 ?_
  refine zt_topM (fun M2 e3 => ?_)
  replace h := za_use h e3
  refine zt_goto C 135 dX10_worked_102 (by decide) ?_
  exact p_X10_worked_b135 hJ C hr hk hL4 h
set_option maxRecDepth 100000 in
set_option maxHeartbeats 4000000 in
theorem p_X10_worked_b63 (hJ : za_J g) (C : za_C p s m args c cX10_worked 5 RX10 g D cy) (hr : meth.sig.returnType = (some .int)) (hk : meth.locks = false) {x1 : Int32} {x2 : Int32} {x3 : Int32} {s1 : Int32} {s2 : Int32} {L4 : Int32 → Int32 → za_M → Prop} (hL4 : ∀ (x2 : Int32) (x3 : Int32) (M : za_M), L4 x2 x3 M → zt p l e (za_rm 2 86) s m args below meth c 0 0 (MQ below (za_Qi g D cy K) args s 0 0 (za_A g)) g D cy 5 M 4 [(0, .ref (g (27, 0, 0))), (1, .int x1), (2, .int x2), (3, .int x3)] []) {M : za_M} (h : f_X10_worked_b63 K L4 x1 x2 x3 s1 s2 M) : zt p l e (za_rm 2 86) s m args below meth c 0 0 (MQ below (za_Qi g D cy K) args s 0 0 (za_A g)) g D cy 5 M 63 [(0, .ref (g (27, 0, 0))), (1, .int x1), (2, .int x2), (3, .int x3)] [.int s2, .int s1, .ref (g (35, 0, 0))] := by
  unfold f_X10_worked_b63 at h
  obtain ⟨g4, h⟩ := h
  refine zt_iast C (za_mem (j := 35) rfl (by decide) (by decide)) (fun W9 => za_E_35 g cy W9 0 0) g4 dX10_worked_63 ?_
  refine zt_topM (fun M5 e6 => ?_)
  replace h := za_use h e6
  refine zt_iinc C (v := x2 + 1) 2 [(2, .int (x2 + 1)), (0, .ref (g (27, 0, 0))), (1, .int x1), (3, .int x3)] dX10_worked_64 rfl (zk_n1 _) (by decide) rfl ?_
  refine zt_goto C 135 dX10_worked_67 (by decide) ?_
  refine zt_sub [1, 2, 0, 3] (lv' := [(0, .ref (g (27, 0, 0))), (1, .int x1), (2, .int (x2 + 1)), (3, .int x3)]) rfl ?_
  exact p_X10_worked_b135 hJ C hr hk hL4 h
set_option maxRecDepth 100000 in
set_option maxHeartbeats 4000000 in
theorem p_X10_worked_b4 (hJ : za_J g) (C : za_C p s m args c cX10_worked 5 RX10 g D cy) (hr : meth.sig.returnType = (some .int)) (hk : meth.locks = false) {x1 : Int32} {L4 : Int32 → Int32 → za_M → Prop} (hL4 : ∀ (x2 : Int32) (x3 : Int32) (M : za_M), L4 x2 x3 M → zt p l e (za_rm 2 86) s m args below meth c 0 0 (MQ below (za_Qi g D cy K) args s 0 0 (za_A g)) g D cy 5 M 4 [(0, .ref (g (27, 0, 0))), (1, .int x1), (2, .int x2), (3, .int x3)] []) : ∀ (x2 : Int32) (x3 : Int32) (M : za_M), f_X10_worked_b4 K x1 L4 x2 x3 M → zt p l e (za_rm 2 86) s m args below meth c 0 0 (MQ below (za_Qi g D cy K) args s 0 0 (za_A g)) g D cy 5 M 4 [(0, .ref (g (27, 0, 0))), (1, .int x1), (2, .int x2), (3, .int x3)] [] := by
  intro x2 x3 M h
  unfold f_X10_worked_b4 at h
  refine zt_iload_n C 3 dX10_worked_4 rfl rfl ?_
  refine zt_iload_n C 1 dX10_worked_5 rfl rfl ?_
  refine zt_aload_n C 0 dX10_worked_6 rfl rfl ?_
  refine zt_get C (za_mem (j := 27) rfl (by decide) (by decide)) pf_X10_9 (za_E_27 g cy M 0 0) rfl dX10_worked_7 ?_
  refine zt_iload_n C 1 dX10_worked_10 rfl rfl ?_
  refine zt_iconst C (v := 1) dX10_worked_11 zk_i1 ?_
  refine zt_isub C dX10_worked_12 ?_
  obtain ⟨g7, h⟩ := h
  refine zt_iald C (za_mem (j := 28) rfl (by decide) (by decide)) (fun W9 => za_E_28 g cy W9 0 0) g7 dX10_worked_13 ?_
  refine zt_iadd C dX10_worked_14 ?_
  refine zt_icmp_ge C 141 dX10_worked_15 (by decide) (fun q8 => ?_) (fun q8 => ?_)
  · replace h := za_ifp h q8
    refine zt_aload_n C 0 dX10_worked_141 rfl rfl ?_
    refine zt_get C (za_mem (j := 27) rfl (by decide) (by decide)) pf_X10_38 (za_E_27 g cy M 0 0) rfl dX10_worked_142 ?_
    refine zt_iconst C (v := 0) dX10_worked_145 zk_i0 ?_
    obtain ⟨g9, h⟩ := h
    refine zt_iald C (za_mem (j := 35) rfl (by decide) (by decide)) (fun W9 => za_E_35 g cy W9 0 0) g9 dX10_worked_146 ?_
    exact zt_ret C hr hk rfl dX10_worked_147 h
  · replace h := za_ifn h q8
    refine zt_aload_n C 0 dX10_worked_18 rfl rfl ?_
    refine zt_get C (za_mem (j := 27) rfl (by decide) (by decide)) pf_X10_9 (za_E_27 g cy M 0 0) rfl dX10_worked_19 ?_
    refine zt_iload_n C 3 dX10_worked_22 rfl rfl ?_
    obtain ⟨g10, h⟩ := h
    refine zt_iald C (za_mem (j := 28) rfl (by decide) (by decide)) (fun W9 => za_E_28 g cy W9 0 0) g10 dX10_worked_23 ?_
    refine zt_topi (fun y11 e12 => ?_)
    replace h := za_use h e12
    refine zt_istore C [(4, .int y11), (0, .ref (g (27, 0, 0))), (1, .int x1), (2, .int x2), (3, .int x3)] dX10_worked_24 (by decide) rfl ?_
    refine zt_iload C 0 dX10_worked_26 rfl ?_
    refine zt_sipush C (v := 20000) dX10_worked_28 zk_s20000 ?_
    refine zt_icmp_ge C 70 dX10_worked_31 (by decide) (fun q13 => ?_) (fun q13 => ?_)
    · replace h := za_ifp h q13
      refine zt_iload C 0 dX10_worked_70 rfl ?_
      refine zt_sipush C (v := 20010) dX10_worked_72 zk_s20010 ?_
      refine zt_icmp_ne C 105 dX10_worked_75 (by decide) (fun q14 => ?_) (fun q14 => ?_)
      · replace h := za_ifn h q14
        refine zt_iinc C (v := x2 + (-1)) 3 [(2, .int (x2 + (-1))), (4, .int y11), (0, .ref (g (27, 0, 0))), (1, .int x1), (3, .int x3)] dX10_worked_105 rfl (zk_nm1 _) (by decide) rfl ?_
        refine zt_aload_n C 2 dX10_worked_108 rfl rfl ?_
        refine zt_get C (za_mem (j := 27) rfl (by decide) (by decide)) pf_X10_38 (za_E_27 g cy M 0 0) rfl dX10_worked_109 ?_
        refine zt_iload_n C 0 dX10_worked_112 rfl rfl ?_
        refine zt_iconst C (v := 1) dX10_worked_113 zk_i1 ?_
        refine zt_isub C dX10_worked_114 ?_
        refine zt_iload C 1 dX10_worked_115 rfl ?_
        refine zt_aload_n C 2 dX10_worked_117 rfl rfl ?_
        refine zt_get C (za_mem (j := 27) rfl (by decide) (by decide)) pf_X10_38 (za_E_27 g cy M 0 0) rfl dX10_worked_118 ?_
        refine zt_iload_n C 0 dX10_worked_121 rfl rfl ?_
        refine zt_iconst C (v := 1) dX10_worked_122 zk_i1 ?_
        refine zt_isub C dX10_worked_123 ?_
        obtain ⟨g15, h⟩ := h
        refine zt_iald C (za_mem (j := 35) rfl (by decide) (by decide)) (fun W9 => za_E_35 g cy W9 0 0) g15 dX10_worked_124 ?_
        refine zt_aload_n C 2 dX10_worked_125 rfl rfl ?_
        refine zt_get C (za_mem (j := 27) rfl (by decide) (by decide)) pf_X10_38 (za_E_27 g cy M 0 0) rfl dX10_worked_126 ?_
        refine zt_iload_n C 0 dX10_worked_129 rfl rfl ?_
        obtain ⟨g16, h⟩ := h
        refine zt_iald C (za_mem (j := 35) rfl (by decide) (by decide)) (fun W9 => za_E_35 g cy W9 0 0) g16 dX10_worked_130 ?_
        refine zt_cSi C [.int y11, .int (M.1 (35, 0, 0) ((x2 + (-1)) - 1).toNatClampNeg), .int (M.1 (35, 0, 0) (x2 + (-1)).toNatClampNeg)] (m_X10_done hJ  h) py_X10_done ps_X10_139 (Nat.le_of_ble_eq_true rfl) ⟨Nat.le_of_ble_eq_true rfl, Nat.le_of_ble_eq_true rfl⟩ ⟨Nat.zero_le _, Nat.zero_le _⟩ dX10_worked_131 rfl (fun r18 M17 h => ?_)
        obtain ⟨g19, h⟩ := h
        refine zt_iast C (za_mem (j := 35) rfl (by decide) (by decide)) (fun W9 => za_E_35 g cy W9 0 0) g19 dX10_worked_134 ?_
        refine zt_topM (fun M20 e21 => ?_)
        replace h := za_use h e21
        refine zt_sub [2, 3, 0, 4] (lv' := [(0, .ref (g (27, 0, 0))), (1, .int x1), (2, .int (x2 + (-1))), (3, .int x3)]) rfl ?_
        exact p_X10_worked_b135 hJ C hr hk hL4 h
      · replace h := za_ifp h q14
        refine zt_aload_n C 1 dX10_worked_78 rfl rfl ?_
        refine zt_get C (za_mem (j := 27) rfl (by decide) (by decide)) pf_X10_38 (za_E_27 g cy M 0 0) rfl dX10_worked_79 ?_
        refine zt_iload_n C 3 dX10_worked_82 rfl rfl ?_
        refine zt_iconst C (v := 1) dX10_worked_83 zk_i1 ?_
        refine zt_isub C dX10_worked_84 ?_
        refine zt_aload_n C 1 dX10_worked_85 rfl rfl ?_
        refine zt_get C (za_mem (j := 27) rfl (by decide) (by decide)) pf_X10_38 (za_E_27 g cy M 0 0) rfl dX10_worked_86 ?_
        refine zt_iload_n C 3 dX10_worked_89 rfl rfl ?_
        refine zt_iconst C (v := 1) dX10_worked_90 zk_i1 ?_
        refine zt_isub C dX10_worked_91 ?_
        obtain ⟨g22, h⟩ := h
        refine zt_iald C (za_mem (j := 35) rfl (by decide) (by decide)) (fun W9 => za_E_35 g cy W9 0 0) g22 dX10_worked_92 ?_
        refine zt_if_ne C 100 dX10_worked_93 (by decide) (fun q23 => ?_) (fun q23 => ?_)
        · replace h := za_ifn h q23
          refine zt_iconst C (v := 0) dX10_worked_100 zk_i0 ?_
          refine zt_sub [1, 2, 3, 4] (lv' := [(0, .ref (g (27, 0, 0))), (1, .int x1), (2, .int x2), (3, .int x3)]) rfl ?_
          exact p_X10_worked_b101 hJ C hr hk hL4 h
        · replace h := za_ifp h q23
          refine zt_iconst C (v := 1) dX10_worked_96 zk_i1 ?_
          refine zt_goto C 101 dX10_worked_97 (by decide) ?_
          refine zt_sub [1, 2, 3, 4] (lv' := [(0, .ref (g (27, 0, 0))), (1, .int x1), (2, .int x2), (3, .int x3)]) rfl ?_
          exact p_X10_worked_b101 hJ C hr hk hL4 h
    · replace h := za_ifn h q13
      refine zt_aload_n C 1 dX10_worked_34 rfl rfl ?_
      refine zt_get C (za_mem (j := 27) rfl (by decide) (by decide)) pf_X10_38 (za_E_27 g cy M 0 0) rfl dX10_worked_35 ?_
      refine zt_iload_n C 3 dX10_worked_38 rfl rfl ?_
      refine zt_iload C 0 dX10_worked_39 rfl ?_
      refine zt_sipush C (v := 10000) dX10_worked_41 zk_s10000 ?_
      refine zt_icmp_ge C 52 dX10_worked_44 (by decide) (fun q24 => ?_) (fun q24 => ?_)
      · replace h := za_ifp h q24
        refine zt_aload_n C 1 dX10_worked_52 rfl rfl ?_
        refine zt_get C (za_mem (j := 27) rfl (by decide) (by decide)) pf_X10_35 (za_E_27 g cy M 0 0) rfl dX10_worked_53 ?_
        refine zt_iload C 0 dX10_worked_56 rfl ?_
        refine zt_sipush C (v := 10000) dX10_worked_58 zk_s10000 ?_
        refine zt_isub C dX10_worked_61 ?_
        obtain ⟨g25, h⟩ := h
        refine zt_iald C (za_mem (j := 34) rfl (by decide) (by decide)) (fun W9 => za_E_34 g cy W9 0 0) g25 dX10_worked_62 ?_
        refine zt_sub [1, 2, 3, 4] (lv' := [(0, .ref (g (27, 0, 0))), (1, .int x1), (2, .int x2), (3, .int x3)]) rfl ?_
        exact p_X10_worked_b63 hJ C hr hk hL4 h
      · replace h := za_ifn h q24
        refine zt_iload C 0 dX10_worked_47 rfl ?_
        refine zt_goto C 63 dX10_worked_49 (by decide) ?_
        refine zt_sub [1, 2, 3, 4] (lv' := [(0, .ref (g (27, 0, 0))), (1, .int x1), (2, .int x2), (3, .int x3)]) rfl ?_
        exact p_X10_worked_b63 hJ C hr hk hL4 h
theorem p_X10_worked_b4_in (hJ : za_J g) (C : za_C p s m args c cX10_worked 5 RX10 g D cy) (hr : meth.sig.returnType = (some .int)) (hk : meth.locks = false) {x1 : Int32} {n : Nat} {x2 : Int32} {x3 : Int32} {M : za_M} (h : za_lp2 (f_X10_worked_b4 K x1) n x2 x3 M) : zt p l e (za_rm 2 86) s m args below meth c 0 0 (MQ below (za_Qi g D cy K) args s 0 0 (za_A g)) g D cy 5 M 4 [(0, .ref (g (27, 0, 0))), (1, .int x1), (2, .int x2), (3, .int x3)] [] := za_lp2_run (Z := fun x2 x3 M => zt p l e (za_rm 2 86) s m args below meth c 0 0 (MQ below (za_Qi g D cy K) args s 0 0 (za_A g)) g D cy 5 M 4 [(0, .ref (g (27, 0, 0))), (1, .int x1), (2, .int x2), (3, .int x3)] []) (fun L hL => p_X10_worked_b4 hJ C hr hk  hL) n x2 x3 M h
set_option maxRecDepth 100000 in
set_option maxHeartbeats 4000000 in
theorem p_X10_worked (hJ : za_J g) (C : za_C p s m args c cX10_worked 5 RX10 g D cy) (hr : meth.sig.returnType = (some .int)) (hk : meth.locks = false) {x1 : Int32} {M : za_M} (h : f_X10_worked x1 M K) : zt p l e (za_rm 2 86) s m args below meth c 0 0 (MQ below (za_Qi g D cy K) args s 0 0 (za_A g)) g D cy 5 M 0 [(0, .ref (g (27, 0, 0))), (1, .int x1)] [] := by
  unfold f_X10_worked at h
  refine zt_iconst C (v := 0) dX10_worked_0 zk_i0 ?_
  refine zt_istore_n C [(2, .int 0), (0, .ref (g (27, 0, 0))), (1, .int x1)] dX10_worked_1 rfl (by decide) rfl ?_
  refine zt_iload_n C 2 dX10_worked_2 rfl rfl ?_
  refine zt_istore_n C [(3, .int x1), (2, .int 0), (0, .ref (g (27, 0, 0))), (1, .int x1)] dX10_worked_3 rfl (by decide) rfl ?_
  refine zt_sub [2, 3, 1, 0] (lv' := [(0, .ref (g (27, 0, 0))), (1, .int x1), (2, .int 0), (3, .int x1)]) rfl ?_
  obtain ⟨n, h⟩ := h
  exact p_X10_worked_b4_in hJ C hr hk  h
end
theorem m_X10_worked {l : Launch} {g : za_L → Nat} {D : va_G} {cy : Nat → ClassId} (hJ : za_J g)  {x1 : Int32} {M : za_M} {K : Int32 → za_M → Prop} (h : f_X10_worked x1 M K) : za_Mi l g D cy yX10_worked cX10_worked 5 (some .int) 2 86 [.ref (g (27, 0, 0)), .int x1] M K := za_openi hJ (by decide) (Nat.le_of_ble_eq_true rfl) (fun p e s m args below meth c C hr hk => p_X10_worked hJ C hr hk  h)
/-! X10_hasText -/
def f_X10_hasText (x1 : Int32) (M : za_M) (K : Int32 → za_M → Prop) : Prop :=
  vp_in (175 + (52 * x1)) 279 ∧ (if (M.1 (28, 0, 0) (175 + (52 * x1)).toNatClampNeg) ≤ 0 then (K 0 M) else (K 1 M))
section
variable {p : Program} {l : Launch} {e : Env} {s : State} {m : MethodId} {args : Array Value} {below : List Frame} {meth : Method} {c : Code} {g : za_L → Nat} {D : va_G} {cy : Nat → ClassId} {K : Int32 → za_M → Prop}
set_option maxRecDepth 100000 in
set_option maxHeartbeats 4000000 in
theorem p_X10_hasText (hJ : za_J g) (C : za_C p s m args c cX10_hasText 2 RX10 g D cy) (hr : meth.sig.returnType = (some .boolean)) (hk : meth.locks = false) {x1 : Int32} {M : za_M} (h : f_X10_hasText x1 M K) : zt p l e (za_rm 1 64) s m args below meth c 0 0 (MQ below (za_Qi g D cy K) args s 0 0 (za_A g)) g D cy 2 M 0 [(0, .ref (g (27, 0, 0))), (1, .int x1)] [] := by
  unfold f_X10_hasText at h
  refine zt_aload_n C 0 dX10_hasText_0 rfl rfl ?_
  refine zt_get C (za_mem (j := 27) rfl (by decide) (by decide)) pf_X10_9 (za_E_27 g cy M 0 0) rfl dX10_hasText_1 ?_
  refine zt_sipush C (v := 175) dX10_hasText_4 zk_s175 ?_
  refine zt_bipush C (v := 52) dX10_hasText_7 zk_b52 ?_
  refine zt_iload_n C 1 dX10_hasText_9 rfl rfl ?_
  refine zt_imul C dX10_hasText_10 ?_
  refine zt_iadd C dX10_hasText_11 ?_
  obtain ⟨g1, h⟩ := h
  refine zt_iald C (za_mem (j := 28) rfl (by decide) (by decide)) (fun W9 => za_E_28 g cy W9 0 0) g1 dX10_hasText_12 ?_
  refine zt_if_le C 20 dX10_hasText_13 (by decide) (fun q2 => ?_) (fun q2 => ?_)
  · replace h := za_ifp h q2
    refine zt_iconst C (v := 0) dX10_hasText_20 zk_i0 ?_
    exact zt_ret C hr hk rfl dX10_hasText_21 h
  · replace h := za_ifn h q2
    refine zt_iconst C (v := 1) dX10_hasText_16 zk_i1 ?_
    refine zt_goto C 21 dX10_hasText_17 (by decide) ?_
    exact zt_ret C hr hk rfl dX10_hasText_21 h
end
theorem m_X10_hasText {l : Launch} {g : za_L → Nat} {D : va_G} {cy : Nat → ClassId} (hJ : za_J g)  {x1 : Int32} {M : za_M} {K : Int32 → za_M → Prop} (h : f_X10_hasText x1 M K) : za_Mi l g D cy yX10_hasText cX10_hasText 2 (some .boolean) 1 64 [.ref (g (27, 0, 0)), .int x1] M K := za_openi hJ (by decide) (Nat.le_of_ble_eq_true rfl) (fun p e s m args below meth c C hr hk => p_X10_hasText hJ C hr hk  h)
/-! X10_given -/
def f_X10_given_b38 (K : Int32 → za_M → Prop) (x1 : Int32) (s0 : Int32) (M : za_M) : Prop :=
  f_X10_hasText x1 M (fun r2 M1 => if r2 = 0 then (f_X10_held s0 0 99 M1 (fun r5 M4 => K r5 M4)) else (f_X10_worked ((175 + (52 * x1)) + 1) M1 (fun r7 M6 => f_X10_held r7 0 99 M6 (fun r9 M8 => K r9 M8))))
def f_X10_given (x1 : Int32) (x2 : Int32) (x3 : Int32) (x4 : Int32) (M : za_M) (K : Int32 → za_M → Prop) : Prop :=
  vp_in 0 4 ∧ (za_let (za_up M (34, 0, 0) (Int32.toNatClampNeg 0) x2) fun M11 => vp_in 1 4 ∧ (za_let (za_up M11 (34, 0, 0) (Int32.toNatClampNeg 1) x3) fun M14 => vp_in 2 4 ∧ (za_let (za_up M14 (34, 0, 0) (Int32.toNatClampNeg 2) x4) fun M17 => if x1 = 0 then (f_X10_given_b38 K x1 (x2 + x4) M17) else (f_X10_given_b38 K x1 (x2 - (x2 / 4)) M17))))
section
variable {p : Program} {l : Launch} {e : Env} {s : State} {m : MethodId} {args : Array Value} {below : List Frame} {meth : Method} {c : Code} {g : za_L → Nat} {D : va_G} {cy : Nat → ClassId} {K : Int32 → za_M → Prop}
set_option maxRecDepth 100000 in
set_option maxHeartbeats 4000000 in
theorem p_X10_given_b38 (hJ : za_J g) (C : za_C p s m args c cX10_given 6 RX10 g D cy) (hr : meth.sig.returnType = (some .int)) (hk : meth.locks = false) {x1 : Int32} {s0 : Int32} {M : za_M} (h : f_X10_given_b38 K x1 s0 M) : zt p l e (za_rm 3 110) s m args below meth c 0 0 (MQ below (za_Qi g D cy K) args s 0 0 (za_A g)) g D cy 6 M 38 [(0, .ref (g (27, 0, 0))), (1, .int x1)] [.int s0] := by
  unfold f_X10_given_b38 at h
  refine zt_istore C [(5, .int s0), (0, .ref (g (27, 0, 0))), (1, .int x1)] dX10_given_38 (by decide) rfl ?_
  refine zt_aload_n C 1 dX10_given_40 rfl rfl ?_
  refine zt_iload_n C 2 dX10_given_41 rfl rfl ?_
  refine zt_cVi C [.int x1] (m_X10_hasText hJ  h) (za_mem (j := 27) rfl (by decide) (by decide)) (za_E_27 g cy M 0 0) rfl py_X10_hasText pv_X10_143 (Nat.le_of_ble_eq_true rfl) ⟨Nat.le_of_ble_eq_true rfl, Nat.le_of_ble_eq_true rfl⟩ ⟨Nat.zero_le _, Nat.zero_le _⟩ dX10_given_42 rfl (fun r2 M1 h => ?_)
  refine zt_if_eq C 65 dX10_given_45 (by decide) (fun q3 => ?_) (fun q3 => ?_)
  · replace h := za_ifp h q3
    refine zt_iload C 0 dX10_given_65 rfl ?_
    refine zt_iconst C (v := 0) dX10_given_67 zk_i0 ?_
    refine zt_bipush C (v := 99) dX10_given_68 zk_b99 ?_
    refine zt_cSi C [.int s0, .int 0, .int 99] (m_X10_held hJ  h) py_X10_held ps_X10_149 (Nat.le_of_ble_eq_true rfl) ⟨Nat.le_of_ble_eq_true rfl, Nat.le_of_ble_eq_true rfl⟩ ⟨Nat.zero_le _, Nat.zero_le _⟩ dX10_given_70 rfl (fun r5 M4 h => ?_)
    exact zt_ret C hr hk rfl dX10_given_73 h
  · replace h := za_ifn h q3
    refine zt_aload_n C 1 dX10_given_48 rfl rfl ?_
    refine zt_sipush C (v := 175) dX10_given_49 zk_s175 ?_
    refine zt_bipush C (v := 52) dX10_given_52 zk_b52 ?_
    refine zt_iload_n C 2 dX10_given_54 rfl rfl ?_
    refine zt_imul C dX10_given_55 ?_
    refine zt_iadd C dX10_given_56 ?_
    refine zt_iconst C (v := 1) dX10_given_57 zk_i1 ?_
    refine zt_iadd C dX10_given_58 ?_
    refine zt_cVi C [.int ((175 + (52 * x1)) + 1)] (m_X10_worked hJ  h) (za_mem (j := 27) rfl (by decide) (by decide)) (za_E_27 g cy M1 0 0) rfl py_X10_worked pv_X10_146 (Nat.le_of_ble_eq_true rfl) ⟨Nat.le_of_ble_eq_true rfl, Nat.le_of_ble_eq_true rfl⟩ ⟨Nat.zero_le _, Nat.zero_le _⟩ dX10_given_59 rfl (fun r7 M6 h => ?_)
    refine zt_goto C 67 dX10_given_62 (by decide) ?_
    refine zt_iconst C (v := 0) dX10_given_67 zk_i0 ?_
    refine zt_bipush C (v := 99) dX10_given_68 zk_b99 ?_
    refine zt_cSi C [.int r7, .int 0, .int 99] (m_X10_held hJ  h) py_X10_held ps_X10_149 (Nat.le_of_ble_eq_true rfl) ⟨Nat.le_of_ble_eq_true rfl, Nat.le_of_ble_eq_true rfl⟩ ⟨Nat.zero_le _, Nat.zero_le _⟩ dX10_given_70 rfl (fun r9 M8 h => ?_)
    exact zt_ret C hr hk rfl dX10_given_73 h
set_option maxRecDepth 100000 in
set_option maxHeartbeats 4000000 in
theorem p_X10_given (hJ : za_J g) (C : za_C p s m args c cX10_given 6 RX10 g D cy) (hr : meth.sig.returnType = (some .int)) (hk : meth.locks = false) {x1 : Int32} {x2 : Int32} {x3 : Int32} {x4 : Int32} {M : za_M} (h : f_X10_given x1 x2 x3 x4 M K) : zt p l e (za_rm 3 110) s m args below meth c 0 0 (MQ below (za_Qi g D cy K) args s 0 0 (za_A g)) g D cy 6 M 0 [(0, .ref (g (27, 0, 0))), (1, .int x1), (2, .int x2), (3, .int x3), (4, .int x4)] [] := by
  unfold f_X10_given at h
  refine zt_aload_n C 0 dX10_given_0 rfl rfl ?_
  refine zt_get C (za_mem (j := 27) rfl (by decide) (by decide)) pf_X10_35 (za_E_27 g cy M 0 0) rfl dX10_given_1 ?_
  refine zt_iconst C (v := 0) dX10_given_4 zk_i0 ?_
  refine zt_iload_n C 2 dX10_given_5 rfl rfl ?_
  obtain ⟨g10, h⟩ := h
  refine zt_iast C (za_mem (j := 34) rfl (by decide) (by decide)) (fun W9 => za_E_34 g cy W9 0 0) g10 dX10_given_6 ?_
  refine zt_topM (fun M11 e12 => ?_)
  replace h := za_use h e12
  refine zt_aload_n C 0 dX10_given_7 rfl rfl ?_
  refine zt_get C (za_mem (j := 27) rfl (by decide) (by decide)) pf_X10_35 (za_E_27 g cy M11 0 0) rfl dX10_given_8 ?_
  refine zt_iconst C (v := 1) dX10_given_11 zk_i1 ?_
  refine zt_iload_n C 3 dX10_given_12 rfl rfl ?_
  obtain ⟨g13, h⟩ := h
  refine zt_iast C (za_mem (j := 34) rfl (by decide) (by decide)) (fun W9 => za_E_34 g cy W9 0 0) g13 dX10_given_13 ?_
  refine zt_topM (fun M14 e15 => ?_)
  replace h := za_use h e15
  refine zt_aload_n C 0 dX10_given_14 rfl rfl ?_
  refine zt_get C (za_mem (j := 27) rfl (by decide) (by decide)) pf_X10_35 (za_E_27 g cy M14 0 0) rfl dX10_given_15 ?_
  refine zt_iconst C (v := 2) dX10_given_18 zk_i2 ?_
  refine zt_iload C 4 dX10_given_19 rfl ?_
  obtain ⟨g16, h⟩ := h
  refine zt_iast C (za_mem (j := 34) rfl (by decide) (by decide)) (fun W9 => za_E_34 g cy W9 0 0) g16 dX10_given_21 ?_
  refine zt_topM (fun M17 e18 => ?_)
  replace h := za_use h e18
  refine zt_iload_n C 1 dX10_given_22 rfl rfl ?_
  refine zt_if_ne C 33 dX10_given_23 (by decide) (fun q19 => ?_) (fun q19 => ?_)
  · replace h := za_ifn h q19
    refine zt_iload_n C 2 dX10_given_33 rfl rfl ?_
    refine zt_iload_n C 2 dX10_given_34 rfl rfl ?_
    refine zt_iconst C (v := 4) dX10_given_35 zk_i4 ?_
    refine zt_idiv C dX10_given_36 (by decide) ?_
    refine zt_isub C dX10_given_37 ?_
    refine zt_sub [0, 1] (lv' := [(0, .ref (g (27, 0, 0))), (1, .int x1)]) rfl ?_
    exact p_X10_given_b38 hJ C hr hk  h
  · replace h := za_ifp h q19
    refine zt_iload_n C 2 dX10_given_26 rfl rfl ?_
    refine zt_iload C 4 dX10_given_27 rfl ?_
    refine zt_iadd C dX10_given_29 ?_
    refine zt_goto C 38 dX10_given_30 (by decide) ?_
    refine zt_sub [0, 1] (lv' := [(0, .ref (g (27, 0, 0))), (1, .int x1)]) rfl ?_
    exact p_X10_given_b38 hJ C hr hk  h
end
theorem m_X10_given {l : Launch} {g : za_L → Nat} {D : va_G} {cy : Nat → ClassId} (hJ : za_J g)  {x1 : Int32} {x2 : Int32} {x3 : Int32} {x4 : Int32} {M : za_M} {K : Int32 → za_M → Prop} (h : f_X10_given x1 x2 x3 x4 M K) : za_Mi l g D cy yX10_given cX10_given 6 (some .int) 3 110 [.ref (g (27, 0, 0)), .int x1, .int x2, .int x3, .int x4] M K := za_openi hJ (by decide) (Nat.le_of_ble_eq_true rfl) (fun p e s m args below meth c C hr hk => p_X10_given hJ C hr hk  h)
/-! X10_law -/
def f_X10_law (x1 : Int32) (x2 : Int32) (x3 : Int32) (x4 : Int32) (M : za_M) (K : Int32 → za_M → Prop) : Prop :=
  f_X10_within x1 0 1 M (fun r2 M1 => if r2 = 0 then (f_X10_finding (-1000000001) M1 (fun r5 M4 => K r5 M4)) else (f_X10_given x1 x2 x3 x4 M1 (fun r7 M6 => K r7 M6)))
section
variable {p : Program} {l : Launch} {e : Env} {s : State} {m : MethodId} {args : Array Value} {below : List Frame} {meth : Method} {c : Code} {g : za_L → Nat} {D : va_G} {cy : Nat → ClassId} {K : Int32 → za_M → Prop}
set_option maxRecDepth 100000 in
set_option maxHeartbeats 4000000 in
theorem p_X10_law (hJ : za_J g) (C : za_C p s m args c cX10_law 5 RX10 g D cy) (hr : meth.sig.returnType = (some .int)) (hk : meth.locks = false) {x1 : Int32} {x2 : Int32} {x3 : Int32} {x4 : Int32} {M : za_M} (h : f_X10_law x1 x2 x3 x4 M K) : zt p l e (za_rm 4 135) s m args below meth c 0 0 (MQ below (za_Qi g D cy K) args s 0 0 (za_A g)) g D cy 5 M 0 [(0, .ref (g (27, 0, 0))), (1, .int x1), (2, .int x2), (3, .int x3), (4, .int x4)] [] := by
  unfold f_X10_law at h
  refine zt_iload_n C 1 dX10_law_0 rfl rfl ?_
  refine zt_iconst C (v := 0) dX10_law_1 zk_i0 ?_
  refine zt_iconst C (v := 1) dX10_law_2 zk_i1 ?_
  refine zt_cSi C [.int x1, .int 0, .int 1] (m_X10_within hJ  h) py_X10_within ps_X10_70 (Nat.le_of_ble_eq_true rfl) ⟨Nat.le_of_ble_eq_true rfl, Nat.le_of_ble_eq_true rfl⟩ ⟨Nat.zero_le _, Nat.zero_le _⟩ dX10_law_3 rfl (fun r2 M1 h => ?_)
  refine zt_if_eq C 21 dX10_law_6 (by decide) (fun q3 => ?_) (fun q3 => ?_)
  · replace h := za_ifp h q3
    refine zt_aload_n C 0 dX10_law_21 rfl rfl ?_
    refine zt_ldc C w_969 dX10_law_22 ?_
    refine zt_cVi C [.int (-1000000001)] (m_X10_finding hJ  h) (za_mem (j := 27) rfl (by decide) (by decide)) (za_E_27 g cy M1 0 0) rfl py_X10_finding pv_X10_75 (Nat.le_of_ble_eq_true rfl) ⟨Nat.le_of_ble_eq_true rfl, Nat.le_of_ble_eq_true rfl⟩ ⟨Nat.zero_le _, Nat.zero_le _⟩ dX10_law_24 rfl (fun r5 M4 h => ?_)
    exact zt_ret C hr hk rfl dX10_law_27 h
  · replace h := za_ifn h q3
    refine zt_aload_n C 0 dX10_law_9 rfl rfl ?_
    refine zt_iload_n C 1 dX10_law_10 rfl rfl ?_
    refine zt_iload_n C 2 dX10_law_11 rfl rfl ?_
    refine zt_iload_n C 3 dX10_law_12 rfl rfl ?_
    refine zt_iload C 4 dX10_law_13 rfl ?_
    refine zt_cVi C [.int x1, .int x2, .int x3, .int x4] (m_X10_given hJ  h) (za_mem (j := 27) rfl (by decide) (by decide)) (za_E_27 g cy M1 0 0) rfl py_X10_given pv_X10_152 (Nat.le_of_ble_eq_true rfl) ⟨Nat.le_of_ble_eq_true rfl, Nat.le_of_ble_eq_true rfl⟩ ⟨Nat.zero_le _, Nat.zero_le _⟩ dX10_law_15 rfl (fun r7 M6 h => ?_)
    refine zt_goto C 27 dX10_law_18 (by decide) ?_
    exact zt_ret C hr hk rfl dX10_law_27 h
end
theorem m_X10_law {l : Launch} {g : za_L → Nat} {D : va_G} {cy : Nat → ClassId} (hJ : za_J g)  {x1 : Int32} {x2 : Int32} {x3 : Int32} {x4 : Int32} {M : za_M} {K : Int32 → za_M → Prop} (h : f_X10_law x1 x2 x3 x4 M K) : za_Mi l g D cy yX10_law cX10_law 5 (some .int) 4 135 [.ref (g (27, 0, 0)), .int x1, .int x2, .int x3, .int x4] M K := za_openi hJ (by decide) (Nat.le_of_ble_eq_true rfl) (fun p e s m args below meth c C hr hk => p_X10_law hJ C hr hk  h)
/-! X10_isAsh -/
def f_X10_isAsh (x1 : Int32) (M : za_M) (K : Int32 → za_M → Prop) : Prop :=
  vp_in 1 279 ∧ (f_X10_within x1 0 ((M.1 (28, 0, 0) (Int32.toNatClampNeg 1)) - 1) M (fun r3 M2 => za_B r3 ∧ (K r3 M2)))
section
variable {p : Program} {l : Launch} {e : Env} {s : State} {m : MethodId} {args : Array Value} {below : List Frame} {meth : Method} {c : Code} {g : za_L → Nat} {D : va_G} {cy : Nat → ClassId} {K : Int32 → za_M → Prop}
set_option maxRecDepth 100000 in
set_option maxHeartbeats 4000000 in
theorem p_X10_isAsh (hJ : za_J g) (C : za_C p s m args c cX10_isAsh 2 RX10 g D cy) (hr : meth.sig.returnType = (some .boolean)) (hk : meth.locks = false) {x1 : Int32} {M : za_M} (h : f_X10_isAsh x1 M K) : zt p l e (za_rm 2 86) s m args below meth c 0 0 (MQ below (za_Qi g D cy K) args s 0 0 (za_A g)) g D cy 2 M 0 [(0, .ref (g (27, 0, 0))), (1, .int x1)] [] := by
  unfold f_X10_isAsh at h
  refine zt_iload_n C 1 dX10_isAsh_0 rfl rfl ?_
  refine zt_iconst C (v := 0) dX10_isAsh_1 zk_i0 ?_
  refine zt_aload_n C 0 dX10_isAsh_2 rfl rfl ?_
  refine zt_get C (za_mem (j := 27) rfl (by decide) (by decide)) pf_X10_9 (za_E_27 g cy M 0 0) rfl dX10_isAsh_3 ?_
  refine zt_iconst C (v := 1) dX10_isAsh_6 zk_i1 ?_
  obtain ⟨g1, h⟩ := h
  refine zt_iald C (za_mem (j := 28) rfl (by decide) (by decide)) (fun W9 => za_E_28 g cy W9 0 0) g1 dX10_isAsh_7 ?_
  refine zt_iconst C (v := 1) dX10_isAsh_8 zk_i1 ?_
  refine zt_isub C dX10_isAsh_9 ?_
  refine zt_cSi C [.int x1, .int 0, .int ((M.1 (28, 0, 0) (Int32.toNatClampNeg 1)) - 1)] (m_X10_within hJ  h) py_X10_within ps_X10_70 (Nat.le_of_ble_eq_true rfl) ⟨Nat.le_of_ble_eq_true rfl, Nat.le_of_ble_eq_true rfl⟩ ⟨Nat.zero_le _, Nat.zero_le _⟩ dX10_isAsh_10 rfl (fun r3 M2 h => ?_)
  obtain ⟨g4, h⟩ := h
  exact zt_ret C hr hk (za_Bn g4) dX10_isAsh_13 h
end
theorem m_X10_isAsh {l : Launch} {g : za_L → Nat} {D : va_G} {cy : Nat → ClassId} (hJ : za_J g)  {x1 : Int32} {M : za_M} {K : Int32 → za_M → Prop} (h : f_X10_isAsh x1 M K) : za_Mi l g D cy yX10_isAsh cX10_isAsh 2 (some .boolean) 2 86 [.ref (g (27, 0, 0)), .int x1] M K := za_openi hJ (by decide) (Nat.le_of_ble_eq_true rfl) (fun p e s m args below meth c C hr hk => p_X10_isAsh hJ C hr hk  h)
/-! X10_isPotter -/
def f_X10_isPotter (x1 : Int32) (M : za_M) (K : Int32 → za_M → Prop) : Prop :=
  vp_in 2 279 ∧ (f_X10_within x1 0 ((M.1 (28, 0, 0) (Int32.toNatClampNeg 2)) - 1) M (fun r3 M2 => za_B r3 ∧ (K r3 M2)))
section
variable {p : Program} {l : Launch} {e : Env} {s : State} {m : MethodId} {args : Array Value} {below : List Frame} {meth : Method} {c : Code} {g : za_L → Nat} {D : va_G} {cy : Nat → ClassId} {K : Int32 → za_M → Prop}
set_option maxRecDepth 100000 in
set_option maxHeartbeats 4000000 in
theorem p_X10_isPotter (hJ : za_J g) (C : za_C p s m args c cX10_isPotter 2 RX10 g D cy) (hr : meth.sig.returnType = (some .boolean)) (hk : meth.locks = false) {x1 : Int32} {M : za_M} (h : f_X10_isPotter x1 M K) : zt p l e (za_rm 2 86) s m args below meth c 0 0 (MQ below (za_Qi g D cy K) args s 0 0 (za_A g)) g D cy 2 M 0 [(0, .ref (g (27, 0, 0))), (1, .int x1)] [] := by
  unfold f_X10_isPotter at h
  refine zt_iload_n C 1 dX10_isPotter_0 rfl rfl ?_
  refine zt_iconst C (v := 0) dX10_isPotter_1 zk_i0 ?_
  refine zt_aload_n C 0 dX10_isPotter_2 rfl rfl ?_
  refine zt_get C (za_mem (j := 27) rfl (by decide) (by decide)) pf_X10_9 (za_E_27 g cy M 0 0) rfl dX10_isPotter_3 ?_
  refine zt_iconst C (v := 2) dX10_isPotter_6 zk_i2 ?_
  obtain ⟨g1, h⟩ := h
  refine zt_iald C (za_mem (j := 28) rfl (by decide) (by decide)) (fun W9 => za_E_28 g cy W9 0 0) g1 dX10_isPotter_7 ?_
  refine zt_iconst C (v := 1) dX10_isPotter_8 zk_i1 ?_
  refine zt_isub C dX10_isPotter_9 ?_
  refine zt_cSi C [.int x1, .int 0, .int ((M.1 (28, 0, 0) (Int32.toNatClampNeg 2)) - 1)] (m_X10_within hJ  h) py_X10_within ps_X10_70 (Nat.le_of_ble_eq_true rfl) ⟨Nat.le_of_ble_eq_true rfl, Nat.le_of_ble_eq_true rfl⟩ ⟨Nat.zero_le _, Nat.zero_le _⟩ dX10_isPotter_10 rfl (fun r3 M2 h => ?_)
  obtain ⟨g4, h⟩ := h
  exact zt_ret C hr hk (za_Bn g4) dX10_isPotter_13 h
end
theorem m_X10_isPotter {l : Launch} {g : za_L → Nat} {D : va_G} {cy : Nat → ClassId} (hJ : za_J g)  {x1 : Int32} {M : za_M} {K : Int32 → za_M → Prop} (h : f_X10_isPotter x1 M K) : za_Mi l g D cy yX10_isPotter cX10_isPotter 2 (some .boolean) 2 86 [.ref (g (27, 0, 0)), .int x1] M K := za_openi hJ (by decide) (Nat.le_of_ble_eq_true rfl) (fun p e s m args below meth c C hr hk => p_X10_isPotter hJ C hr hk  h)

/-! X10_put -/
def f_X10_put (x1 : Int32) (x2 : Int32) (x3 : Int32) (M : za_M) (K : Int32 → za_M → Prop) : Prop :=
  f_X10_isSheet x1 M (fun r2 M1 => if r2 = 0 then (f_X10_finding (-1000000001) M1 (fun r32 M31 => K r32 M31)) else (vp_in x1 4 ∧ (if (M1.1 (37, 0, 0) x1.toNatClampNeg) = 0 then (f_X10_finding (-1000000002) M1 (fun r30 M29 => K r30 M29)) else (vp_in x1 4 ∧ (f_X10_within x2 0 ((M1.1 (38, 0, 0) x1.toNatClampNeg) - 1) M1 (fun r8 M7 => if r8 = 0 then (f_X10_finding (-1000000001) M7 (fun r28 M27 => K r28 M27)) else (vp_in x1 4 ∧ (if (M7.1 (37, 0, 0) x1.toNatClampNeg) = 8 then (za_let (x3.toInt8.toInt32) fun y22 => vp_in ((40 * x1) + x2) 160 ∧ (za_let (za_up M7 (39, 0, 0) ((40 * x1) + x2).toNatClampNeg y22) fun M25 => K 1 M25)) else (vp_in x1 4 ∧ (if (M7.1 (37, 0, 0) x1.toNatClampNeg) = 16 then (za_let (x3.toInt16.toInt32) fun y17 => vp_in ((40 * x1) + x2) 160 ∧ (za_let (za_up M7 (39, 0, 0) ((40 * x1) + x2).toNatClampNeg y17) fun M20 => K 1 M20)) else (vp_in ((40 * x1) + x2) 160 ∧ (za_let (za_up M7 (39, 0, 0) ((40 * x1) + x2).toNatClampNeg x3) fun M15 => K 1 M15))))))))))))
section
variable {p : Program} {l : Launch} {e : Env} {s : State} {m : MethodId} {args : Array Value} {below : List Frame} {meth : Method} {c : Code} {g : za_L → Nat} {D : va_G} {cy : Nat → ClassId} {K : Int32 → za_M → Prop}
set_option maxRecDepth 100000 in
set_option maxHeartbeats 4000000 in
theorem p_X10_put (hJ : za_J g) (C : za_C p s m args c cX10_put 4 RX10 g D cy) (hr : meth.sig.returnType = (some .int)) (hk : meth.locks = false) {x1 : Int32} {x2 : Int32} {x3 : Int32} {M : za_M} (h : f_X10_put x1 x2 x3 M K) : zt p l e (za_rm 3 106) s m args below meth c 0 0 (MQ below (za_Qi g D cy K) args s 0 0 (za_A g)) g D cy 4 M 0 [(0, .ref (g (27, 0, 0))), (1, .int x1), (2, .int x2), (3, .int x3)] [] := by
  unfold f_X10_put at h
  refine zt_iload_n C 1 dX10_put_0 rfl rfl ?_
  refine zt_cSi C [.int x1] (m_X10_isSheet hJ  h) py_X10_isSheet ps_X10_279 (Nat.le_of_ble_eq_true rfl) ⟨Nat.le_of_ble_eq_true rfl, Nat.le_of_ble_eq_true rfl⟩ ⟨Nat.zero_le _, Nat.zero_le _⟩ dX10_put_1 rfl (fun r2 M1 h => ?_)
  refine zt_if_ne C 14 dX10_put_4 (by decide) (fun q3 => ?_) (fun q3 => ?_)
  · replace h := za_ifn h q3
    refine zt_aload_n C 0 dX10_put_14 rfl rfl ?_
    refine zt_get C (za_mem (j := 27) rfl (by decide) (by decide)) pf_X10_44 (za_E_27 g cy M1 0 0) rfl dX10_put_15 ?_
    refine zt_iload_n C 1 dX10_put_18 rfl rfl ?_
    obtain ⟨g4, h⟩ := h
    refine zt_iald C (za_mem (j := 37) rfl (by decide) (by decide)) (fun W9 => za_E_37 g cy W9 0 0) g4 dX10_put_19 ?_
    refine zt_if_ne C 30 dX10_put_20 (by decide) (fun q5 => ?_) (fun q5 => ?_)
    · replace h := za_ifn h q5
      refine zt_iload_n C 2 dX10_put_30 rfl rfl ?_
      refine zt_iconst C (v := 0) dX10_put_31 zk_i0 ?_
      refine zt_aload_n C 0 dX10_put_32 rfl rfl ?_
      refine zt_get C (za_mem (j := 27) rfl (by decide) (by decide)) pf_X10_47 (za_E_27 g cy M1 0 0) rfl dX10_put_33 ?_
      refine zt_iload_n C 1 dX10_put_36 rfl rfl ?_
      obtain ⟨g6, h⟩ := h
      refine zt_iald C (za_mem (j := 38) rfl (by decide) (by decide)) (fun W9 => za_E_38 g cy W9 0 0) g6 dX10_put_37 ?_
      refine zt_iconst C (v := 1) dX10_put_38 zk_i1 ?_
      refine zt_isub C dX10_put_39 ?_
      refine zt_cSi C [.int x2, .int 0, .int ((M1.1 (38, 0, 0) x1.toNatClampNeg) - 1)] (m_X10_within hJ  h) py_X10_within ps_X10_70 (Nat.le_of_ble_eq_true rfl) ⟨Nat.le_of_ble_eq_true rfl, Nat.le_of_ble_eq_true rfl⟩ ⟨Nat.zero_le _, Nat.zero_le _⟩ dX10_put_40 rfl (fun r8 M7 h => ?_)
      refine zt_if_ne C 53 dX10_put_43 (by decide) (fun q9 => ?_) (fun q9 => ?_)
      · replace h := za_ifn h q9
        refine zt_aload_n C 0 dX10_put_53 rfl rfl ?_
        refine zt_get C (za_mem (j := 27) rfl (by decide) (by decide)) pf_X10_50 (za_E_27 g cy M7 0 0) rfl dX10_put_54 ?_
        refine zt_bipush C (v := 40) dX10_put_57 zk_b40 ?_
        refine zt_iload_n C 1 dX10_put_59 rfl rfl ?_
        refine zt_imul C dX10_put_60 ?_
        refine zt_iload_n C 2 dX10_put_61 rfl rfl ?_
        refine zt_iadd C dX10_put_62 ?_
        refine zt_aload_n C 0 dX10_put_63 rfl rfl ?_
        refine zt_get C (za_mem (j := 27) rfl (by decide) (by decide)) pf_X10_44 (za_E_27 g cy M7 0 0) rfl dX10_put_64 ?_
        refine zt_iload_n C 1 dX10_put_67 rfl rfl ?_
        obtain ⟨g10, h⟩ := h
        refine zt_iald C (za_mem (j := 37) rfl (by decide) (by decide)) (fun W9 => za_E_37 g cy W9 0 0) g10 dX10_put_68 ?_
        refine zt_bipush C (v := 8) dX10_put_69 zk_b8 ?_
        refine zt_icmp_ne C 79 dX10_put_71 (by decide) (fun q11 => ?_) (fun q11 => ?_)
        · replace h := za_ifn h q11
          refine zt_aload_n C 0 dX10_put_79 rfl rfl ?_
          refine zt_get C (za_mem (j := 27) rfl (by decide) (by decide)) pf_X10_44 (za_E_27 g cy M7 0 0) rfl dX10_put_80 ?_
          refine zt_iload_n C 1 dX10_put_83 rfl rfl ?_
          obtain ⟨g12, h⟩ := h
          refine zt_iald C (za_mem (j := 37) rfl (by decide) (by decide)) (fun W9 => za_E_37 g cy W9 0 0) g12 dX10_put_84 ?_
          refine zt_bipush C (v := 16) dX10_put_85 zk_b16 ?_
          refine zt_icmp_ne C 95 dX10_put_87 (by decide) (fun q13 => ?_) (fun q13 => ?_)
          · replace h := za_ifn h q13
            refine zt_iload_n C 3 dX10_put_95 rfl rfl ?_
            obtain ⟨g14, h⟩ := h
            refine zt_iast C (za_mem (j := 39) rfl (by decide) (by decide)) (fun W9 => za_E_39 g cy W9 0 0) g14 dX10_put_96 ?_
            refine zt_topM (fun M15 e16 => ?_)
            replace h := za_use h e16
            refine zt_iconst C (v := 1) dX10_put_97 zk_i1 ?_
            exact zt_ret C hr hk rfl dX10_put_98 h
          · replace h := za_ifp h q13
            refine zt_iload_n C 3 dX10_put_90 rfl rfl ?_
            refine zt_i2s C dX10_put_91 ?_
            refine zt_goto C 96 dX10_put_92 (by decide) ?_
            refine zt_topi (fun y17 e18 => ?_)
            replace h := za_use h e18
            obtain ⟨g19, h⟩ := h
            refine zt_iast C (za_mem (j := 39) rfl (by decide) (by decide)) (fun W9 => za_E_39 g cy W9 0 0) g19 dX10_put_96 ?_
            refine zt_topM (fun M20 e21 => ?_)
            replace h := za_use h e21
            refine zt_iconst C (v := 1) dX10_put_97 zk_i1 ?_
            exact zt_ret C hr hk rfl dX10_put_98 h
        · replace h := za_ifp h q11
          refine zt_iload_n C 3 dX10_put_74 rfl rfl ?_
          refine zt_i2b C dX10_put_75 ?_
          refine zt_goto C 96 dX10_put_76 (by decide) ?_
          refine zt_topi (fun y22 e23 => ?_)
          replace h := za_use h e23
          obtain ⟨g24, h⟩ := h
          refine zt_iast C (za_mem (j := 39) rfl (by decide) (by decide)) (fun W9 => za_E_39 g cy W9 0 0) g24 dX10_put_96 ?_
          refine zt_topM (fun M25 e26 => ?_)
          replace h := za_use h e26
          refine zt_iconst C (v := 1) dX10_put_97 zk_i1 ?_
          exact zt_ret C hr hk rfl dX10_put_98 h
      · replace h := za_ifp h q9
        refine zt_aload_n C 0 dX10_put_46 rfl rfl ?_
        refine zt_ldc C w_969 dX10_put_47 ?_
        refine zt_cVi C [.int (-1000000001)] (m_X10_finding hJ  h) (za_mem (j := 27) rfl (by decide) (by decide)) (za_E_27 g cy M7 0 0) rfl py_X10_finding pv_X10_75 (Nat.le_of_ble_eq_true rfl) ⟨Nat.le_of_ble_eq_true rfl, Nat.le_of_ble_eq_true rfl⟩ ⟨Nat.zero_le _, Nat.zero_le _⟩ dX10_put_49 rfl (fun r28 M27 h => ?_)
        exact zt_ret C hr hk rfl dX10_put_52 h
    · replace h := za_ifp h q5
      refine zt_aload_n C 0 dX10_put_23 rfl rfl ?_
      refine zt_ldc C w_1219 dX10_put_24 ?_
      refine zt_cVi C [.int (-1000000002)] (m_X10_finding hJ  h) (za_mem (j := 27) rfl (by decide) (by decide)) (za_E_27 g cy M1 0 0) rfl py_X10_finding pv_X10_75 (Nat.le_of_ble_eq_true rfl) ⟨Nat.le_of_ble_eq_true rfl, Nat.le_of_ble_eq_true rfl⟩ ⟨Nat.zero_le _, Nat.zero_le _⟩ dX10_put_26 rfl (fun r30 M29 h => ?_)
      exact zt_ret C hr hk rfl dX10_put_29 h
  · replace h := za_ifp h q3
    refine zt_aload_n C 0 dX10_put_7 rfl rfl ?_
    refine zt_ldc C w_969 dX10_put_8 ?_
    refine zt_cVi C [.int (-1000000001)] (m_X10_finding hJ  h) (za_mem (j := 27) rfl (by decide) (by decide)) (za_E_27 g cy M1 0 0) rfl py_X10_finding pv_X10_75 (Nat.le_of_ble_eq_true rfl) ⟨Nat.le_of_ble_eq_true rfl, Nat.le_of_ble_eq_true rfl⟩ ⟨Nat.zero_le _, Nat.zero_le _⟩ dX10_put_10 rfl (fun r32 M31 h => ?_)
    exact zt_ret C hr hk rfl dX10_put_13 h
end
theorem m_X10_put {l : Launch} {g : za_L → Nat} {D : va_G} {cy : Nat → ClassId} (hJ : za_J g)  {x1 : Int32} {x2 : Int32} {x3 : Int32} {M : za_M} {K : Int32 → za_M → Prop} (h : f_X10_put x1 x2 x3 M K) : za_Mi l g D cy yX10_put cX10_put 4 (some .int) 3 106 [.ref (g (27, 0, 0)), .int x1, .int x2, .int x3] M K := za_openi hJ (by decide) (Nat.le_of_ble_eq_true rfl) (fun p e s m args below meth c C hr hk => p_X10_put hJ C hr hk  h)
/-! X10_move -/
def f_X10_move_b164 (K : Int32 → za_M → Prop) (x3 : Int32) (x4 : Int32) (x5 : Int32) (L164 : Int32 → za_M → Prop) (x6 : Int32) (M : za_M) : Prop :=
  if x5 ≤ x6 then (K x5 M) else (vp_in x6 40 ∧ (za_let (M.1 (40, 0, 0) x6.toNatClampNeg) fun y3 => vp_in (((40 * x3) + x4) + x6) 160 ∧ (za_let (za_up M (39, 0, 0) (((40 * x3) + x4) + x6).toNatClampNeg y3) fun M6 => L164 (x6 + 1) M6)))
def f_X10_move_b127 (K : Int32 → za_M → Prop) (x1 : Int32) (x2 : Int32) (x3 : Int32) (x4 : Int32) (x5 : Int32) (L127 : Int32 → za_M → Prop) (x6 : Int32) (M : za_M) : Prop :=
  if x5 ≤ x6 then (∃ n, za_lp1 (f_X10_move_b164 K x3 x4 x5) n 0 M) else (vp_in (((40 * x1) + x2) + x6) 160 ∧ (za_let (M.1 (39, 0, 0) (((40 * x1) + x2) + x6).toNatClampNeg) fun y10 => vp_in x6 40 ∧ (za_let (za_up M (40, 0, 0) x6.toNatClampNeg y10) fun M13 => L127 (x6 + 1) M13)))
def f_X10_move (x1 : Int32) (x2 : Int32) (x3 : Int32) (x4 : Int32) (x5 : Int32) (M : za_M) (K : Int32 → za_M → Prop) : Prop :=
  f_X10_isSheet x1 M (fun r16 M15 => if r16 = 0 then (f_X10_finding (-1000000001) M15 (fun r19 M18 => K r19 M18)) else (f_X10_isSheet x3 M15 (fun r21 M20 => if r21 = 0 then (f_X10_finding (-1000000001) M20 (fun r54 M53 => K r54 M53)) else (vp_in x1 4 ∧ (if (M20.1 (37, 0, 0) x1.toNatClampNeg) = 0 then (f_X10_finding (-1000000002) M20 (fun r26 M25 => K r26 M25)) else (vp_in x3 4 ∧ (if (M20.1 (37, 0, 0) x3.toNatClampNeg) = 0 then (f_X10_finding (-1000000002) M20 (fun r52 M51 => K r52 M51)) else (vp_in x1 4 ∧ (vp_in x3 4 ∧ (if (M20.1 (37, 0, 0) x1.toNatClampNeg) = (M20.1 (37, 0, 0) x3.toNatClampNeg) then (if x5 < 0 then (f_X10_finding (-1000000001) M20 (fun r34 M33 => K r34 M33)) else (if x2 < 0 then (f_X10_finding (-1000000001) M20 (fun r37 M36 => K r37 M36)) else (if x4 < 0 then (f_X10_finding (-1000000001) M20 (fun r40 M39 => K r40 M39)) else (vp_in x1 4 ∧ (if 0 < (lg_cmp (x2.toInt64 + x5.toInt64) ((M20.1 (38, 0, 0) x1.toNatClampNeg).toInt64)) then (f_X10_finding (-1000000001) M20 (fun r44 M43 => K r44 M43)) else (vp_in x3 4 ∧ (if (lg_cmp (x4.toInt64 + x5.toInt64) ((M20.1 (38, 0, 0) x3.toNatClampNeg).toInt64)) ≤ 0 then (∃ n, za_lp1 (f_X10_move_b127 K x1 x2 x3 x4 x5) n 0 M20) else (f_X10_finding (-1000000001) M20 (fun r48 M47 => K r48 M47))))))))) else (f_X10_finding (-1000000005) M20 (fun r50 M49 => K r50 M49))))))))))))
section
variable {p : Program} {l : Launch} {e : Env} {s : State} {m : MethodId} {args : Array Value} {below : List Frame} {meth : Method} {c : Code} {g : za_L → Nat} {D : va_G} {cy : Nat → ClassId} {K : Int32 → za_M → Prop}
set_option maxRecDepth 100000 in
set_option maxHeartbeats 4000000 in
theorem p_X10_move_b164 (hJ : za_J g) (C : za_C p s m args c cX10_move 7 RX10 g D cy) (hr : meth.sig.returnType = (some .int)) (hk : meth.locks = false) {x3 : Int32} {x4 : Int32} {x5 : Int32} {L164 : Int32 → za_M → Prop} (hL164 : ∀ (x6 : Int32) (M : za_M), L164 x6 M → zt p l e (za_rm 3 106) s m args below meth c 0 0 (MQ below (za_Qi g D cy K) args s 0 0 (za_A g)) g D cy 7 M 164 [(0, .ref (g (27, 0, 0))), (3, .int x3), (4, .int x4), (5, .int x5), (6, .int x6)] []) : ∀ (x6 : Int32) (M : za_M), f_X10_move_b164 K x3 x4 x5 L164 x6 M → zt p l e (za_rm 3 106) s m args below meth c 0 0 (MQ below (za_Qi g D cy K) args s 0 0 (za_A g)) g D cy 7 M 164 [(0, .ref (g (27, 0, 0))), (3, .int x3), (4, .int x4), (5, .int x5), (6, .int x6)] [] := by
  intro x6 M h
  unfold f_X10_move_b164 at h
  refine zt_iload C 4 dX10_move_164 rfl ?_
  refine zt_iload C 3 dX10_move_166 rfl ?_
  refine zt_icmp_ge C 199 dX10_move_168 (by decide) (fun q1 => ?_) (fun q1 => ?_)
  · replace h := za_ifp h q1
    refine zt_iload C 3 dX10_move_199 rfl ?_
    exact zt_ret C hr hk rfl dX10_move_201 h
  · replace h := za_ifn h q1
    refine zt_aload_n C 0 dX10_move_171 rfl rfl ?_
    refine zt_get C (za_mem (j := 27) rfl (by decide) (by decide)) pf_X10_50 (za_E_27 g cy M 0 0) rfl dX10_move_172 ?_
    refine zt_bipush C (v := 40) dX10_move_175 zk_b40 ?_
    refine zt_iload_n C 1 dX10_move_177 rfl rfl ?_
    refine zt_imul C dX10_move_178 ?_
    refine zt_iload C 2 dX10_move_179 rfl ?_
    refine zt_iadd C dX10_move_181 ?_
    refine zt_iload C 4 dX10_move_182 rfl ?_
    refine zt_iadd C dX10_move_184 ?_
    refine zt_aload_n C 0 dX10_move_185 rfl rfl ?_
    refine zt_get C (za_mem (j := 27) rfl (by decide) (by decide)) pf_X10_53 (za_E_27 g cy M 0 0) rfl dX10_move_186 ?_
    refine zt_iload C 4 dX10_move_189 rfl ?_
    obtain ⟨g2, h⟩ := h
    refine zt_iald C (za_mem (j := 40) rfl (by decide) (by decide)) (fun W9 => za_E_40 g cy W9 0 0) g2 dX10_move_191 ?_
    refine zt_topi (fun y3 e4 => ?_)
    replace h := za_use h e4
    obtain ⟨g5, h⟩ := h
    refine zt_iast C (za_mem (j := 39) rfl (by decide) (by decide)) (fun W9 => za_E_39 g cy W9 0 0) g5 dX10_move_192 ?_
    refine zt_topM (fun M6 e7 => ?_)
    replace h := za_use h e7
    refine zt_iinc C (v := x6 + 1) 4 [(6, .int (x6 + 1)), (0, .ref (g (27, 0, 0))), (3, .int x3), (4, .int x4), (5, .int x5)] dX10_move_193 rfl (zk_n1 _) (by decide) rfl ?_
    refine zt_goto C 164 dX10_move_196 (by decide) ?_
    refine zt_sub [1, 2, 3, 4, 0] (lv' := [(0, .ref (g (27, 0, 0))), (3, .int x3), (4, .int x4), (5, .int x5), (6, .int (x6 + 1))]) rfl ?_
    exact hL164 _ _ h
theorem p_X10_move_b164_in (hJ : za_J g) (C : za_C p s m args c cX10_move 7 RX10 g D cy) (hr : meth.sig.returnType = (some .int)) (hk : meth.locks = false) {x3 : Int32} {x4 : Int32} {x5 : Int32} {n : Nat} {x6 : Int32} {M : za_M} (h : za_lp1 (f_X10_move_b164 K x3 x4 x5) n x6 M) : zt p l e (za_rm 3 106) s m args below meth c 0 0 (MQ below (za_Qi g D cy K) args s 0 0 (za_A g)) g D cy 7 M 164 [(0, .ref (g (27, 0, 0))), (3, .int x3), (4, .int x4), (5, .int x5), (6, .int x6)] [] := za_lp1_run (Z := fun x6 M => zt p l e (za_rm 3 106) s m args below meth c 0 0 (MQ below (za_Qi g D cy K) args s 0 0 (za_A g)) g D cy 7 M 164 [(0, .ref (g (27, 0, 0))), (3, .int x3), (4, .int x4), (5, .int x5), (6, .int x6)] []) (fun L hL => p_X10_move_b164 hJ C hr hk  hL) n x6 M h
set_option maxRecDepth 100000 in
set_option maxHeartbeats 4000000 in
theorem p_X10_move_b127 (hJ : za_J g) (C : za_C p s m args c cX10_move 7 RX10 g D cy) (hr : meth.sig.returnType = (some .int)) (hk : meth.locks = false) {x1 : Int32} {x2 : Int32} {x3 : Int32} {x4 : Int32} {x5 : Int32} {L127 : Int32 → za_M → Prop} (hL127 : ∀ (x6 : Int32) (M : za_M), L127 x6 M → zt p l e (za_rm 3 106) s m args below meth c 0 0 (MQ below (za_Qi g D cy K) args s 0 0 (za_A g)) g D cy 7 M 127 [(0, .ref (g (27, 0, 0))), (1, .int x1), (2, .int x2), (3, .int x3), (4, .int x4), (5, .int x5), (6, .int x6)] []) : ∀ (x6 : Int32) (M : za_M), f_X10_move_b127 K x1 x2 x3 x4 x5 L127 x6 M → zt p l e (za_rm 3 106) s m args below meth c 0 0 (MQ below (za_Qi g D cy K) args s 0 0 (za_A g)) g D cy 7 M 127 [(0, .ref (g (27, 0, 0))), (1, .int x1), (2, .int x2), (3, .int x3), (4, .int x4), (5, .int x5), (6, .int x6)] [] := by
  intro x6 M h
  unfold f_X10_move_b127 at h
  refine zt_iload C 6 dX10_move_127 rfl ?_
  refine zt_iload C 5 dX10_move_129 rfl ?_
  refine zt_icmp_ge C 161 dX10_move_131 (by decide) (fun q8 => ?_) (fun q8 => ?_)
  · replace h := za_ifp h q8
    refine zt_iconst C (v := 0) dX10_move_161 zk_i0 ?_
    refine zt_istore C [(6, .int 0), (0, .ref (g (27, 0, 0))), (1, .int x1), (2, .int x2), (3, .int x3), (4, .int x4), (5, .int x5)] dX10_move_162 (by decide) rfl ?_
    refine zt_sub [1, 4, 5, 6, 0] (lv' := [(0, .ref (g (27, 0, 0))), (3, .int x3), (4, .int x4), (5, .int x5), (6, .int 0)]) rfl ?_
    obtain ⟨n, h⟩ := h
    exact p_X10_move_b164_in hJ C hr hk  h
  · replace h := za_ifn h q8
    refine zt_aload_n C 0 dX10_move_134 rfl rfl ?_
    refine zt_get C (za_mem (j := 27) rfl (by decide) (by decide)) pf_X10_53 (za_E_27 g cy M 0 0) rfl dX10_move_135 ?_
    refine zt_iload C 6 dX10_move_138 rfl ?_
    refine zt_aload_n C 0 dX10_move_140 rfl rfl ?_
    refine zt_get C (za_mem (j := 27) rfl (by decide) (by decide)) pf_X10_50 (za_E_27 g cy M 0 0) rfl dX10_move_141 ?_
    refine zt_bipush C (v := 40) dX10_move_144 zk_b40 ?_
    refine zt_iload_n C 1 dX10_move_146 rfl rfl ?_
    refine zt_imul C dX10_move_147 ?_
    refine zt_iload_n C 2 dX10_move_148 rfl rfl ?_
    refine zt_iadd C dX10_move_149 ?_
    refine zt_iload C 6 dX10_move_150 rfl ?_
    refine zt_iadd C dX10_move_152 ?_
    obtain ⟨g9, h⟩ := h
    refine zt_iald C (za_mem (j := 39) rfl (by decide) (by decide)) (fun W9 => za_E_39 g cy W9 0 0) g9 dX10_move_153 ?_
    refine zt_topi (fun y10 e11 => ?_)
    replace h := za_use h e11
    obtain ⟨g12, h⟩ := h
    refine zt_iast C (za_mem (j := 40) rfl (by decide) (by decide)) (fun W9 => za_E_40 g cy W9 0 0) g12 dX10_move_154 ?_
    refine zt_topM (fun M13 e14 => ?_)
    replace h := za_use h e14
    refine zt_iinc C (v := x6 + 1) 6 [(6, .int (x6 + 1)), (0, .ref (g (27, 0, 0))), (1, .int x1), (2, .int x2), (3, .int x3), (4, .int x4), (5, .int x5)] dX10_move_155 rfl (zk_n1 _) (by decide) rfl ?_
    refine zt_goto C 127 dX10_move_158 (by decide) ?_
    refine zt_sub [1, 2, 3, 4, 5, 6, 0] (lv' := [(0, .ref (g (27, 0, 0))), (1, .int x1), (2, .int x2), (3, .int x3), (4, .int x4), (5, .int x5), (6, .int (x6 + 1))]) rfl ?_
    exact hL127 _ _ h
theorem p_X10_move_b127_in (hJ : za_J g) (C : za_C p s m args c cX10_move 7 RX10 g D cy) (hr : meth.sig.returnType = (some .int)) (hk : meth.locks = false) {x1 : Int32} {x2 : Int32} {x3 : Int32} {x4 : Int32} {x5 : Int32} {n : Nat} {x6 : Int32} {M : za_M} (h : za_lp1 (f_X10_move_b127 K x1 x2 x3 x4 x5) n x6 M) : zt p l e (za_rm 3 106) s m args below meth c 0 0 (MQ below (za_Qi g D cy K) args s 0 0 (za_A g)) g D cy 7 M 127 [(0, .ref (g (27, 0, 0))), (1, .int x1), (2, .int x2), (3, .int x3), (4, .int x4), (5, .int x5), (6, .int x6)] [] := za_lp1_run (Z := fun x6 M => zt p l e (za_rm 3 106) s m args below meth c 0 0 (MQ below (za_Qi g D cy K) args s 0 0 (za_A g)) g D cy 7 M 127 [(0, .ref (g (27, 0, 0))), (1, .int x1), (2, .int x2), (3, .int x3), (4, .int x4), (5, .int x5), (6, .int x6)] []) (fun L hL => p_X10_move_b127 hJ C hr hk  hL) n x6 M h
set_option maxRecDepth 100000 in
set_option maxHeartbeats 4000000 in
theorem p_X10_move (hJ : za_J g) (C : za_C p s m args c cX10_move 7 RX10 g D cy) (hr : meth.sig.returnType = (some .int)) (hk : meth.locks = false) {x1 : Int32} {x2 : Int32} {x3 : Int32} {x4 : Int32} {x5 : Int32} {M : za_M} (h : f_X10_move x1 x2 x3 x4 x5 M K) : zt p l e (za_rm 3 106) s m args below meth c 0 0 (MQ below (za_Qi g D cy K) args s 0 0 (za_A g)) g D cy 7 M 0 [(0, .ref (g (27, 0, 0))), (1, .int x1), (2, .int x2), (3, .int x3), (4, .int x4), (5, .int x5)] [] := by
  unfold f_X10_move at h
  refine zt_iload_n C 1 dX10_move_0 rfl rfl ?_
  refine zt_cSi C [.int x1] (m_X10_isSheet hJ  h) py_X10_isSheet ps_X10_279 (Nat.le_of_ble_eq_true rfl) ⟨Nat.le_of_ble_eq_true rfl, Nat.le_of_ble_eq_true rfl⟩ ⟨Nat.zero_le _, Nat.zero_le _⟩ dX10_move_1 rfl (fun r16 M15 h => ?_)
  refine zt_if_eq C 14 dX10_move_4 (by decide) (fun q17 => ?_) (fun q17 => ?_)
  · replace h := za_ifp h q17
    refine zt_aload_n C 0 dX10_move_14 rfl rfl ?_
    refine zt_ldc C w_969 dX10_move_15 ?_
    refine zt_cVi C [.int (-1000000001)] (m_X10_finding hJ  h) (za_mem (j := 27) rfl (by decide) (by decide)) (za_E_27 g cy M15 0 0) rfl py_X10_finding pv_X10_75 (Nat.le_of_ble_eq_true rfl) ⟨Nat.le_of_ble_eq_true rfl, Nat.le_of_ble_eq_true rfl⟩ ⟨Nat.zero_le _, Nat.zero_le _⟩ dX10_move_17 rfl (fun r19 M18 h => ?_)
    exact zt_ret C hr hk rfl dX10_move_20 h
  · replace h := za_ifn h q17
    refine zt_iload_n C 3 dX10_move_7 rfl rfl ?_
    refine zt_cSi C [.int x3] (m_X10_isSheet hJ  h) py_X10_isSheet ps_X10_279 (Nat.le_of_ble_eq_true rfl) ⟨Nat.le_of_ble_eq_true rfl, Nat.le_of_ble_eq_true rfl⟩ ⟨Nat.zero_le _, Nat.zero_le _⟩ dX10_move_8 rfl (fun r21 M20 h => ?_)
    refine zt_if_ne C 21 dX10_move_11 (by decide) (fun q22 => ?_) (fun q22 => ?_)
    · replace h := za_ifn h q22
      refine zt_aload_n C 0 dX10_move_21 rfl rfl ?_
      refine zt_get C (za_mem (j := 27) rfl (by decide) (by decide)) pf_X10_44 (za_E_27 g cy M20 0 0) rfl dX10_move_22 ?_
      refine zt_iload_n C 1 dX10_move_25 rfl rfl ?_
      obtain ⟨g23, h⟩ := h
      refine zt_iald C (za_mem (j := 37) rfl (by decide) (by decide)) (fun W9 => za_E_37 g cy W9 0 0) g23 dX10_move_26 ?_
      refine zt_if_eq C 39 dX10_move_27 (by decide) (fun q24 => ?_) (fun q24 => ?_)
      · replace h := za_ifp h q24
        refine zt_aload_n C 0 dX10_move_39 rfl rfl ?_
        refine zt_ldc C w_1219 dX10_move_40 ?_
        refine zt_cVi C [.int (-1000000002)] (m_X10_finding hJ  h) (za_mem (j := 27) rfl (by decide) (by decide)) (za_E_27 g cy M20 0 0) rfl py_X10_finding pv_X10_75 (Nat.le_of_ble_eq_true rfl) ⟨Nat.le_of_ble_eq_true rfl, Nat.le_of_ble_eq_true rfl⟩ ⟨Nat.zero_le _, Nat.zero_le _⟩ dX10_move_42 rfl (fun r26 M25 h => ?_)
        exact zt_ret C hr hk rfl dX10_move_45 h
      · replace h := za_ifn h q24
        refine zt_aload_n C 0 dX10_move_30 rfl rfl ?_
        refine zt_get C (za_mem (j := 27) rfl (by decide) (by decide)) pf_X10_44 (za_E_27 g cy M20 0 0) rfl dX10_move_31 ?_
        refine zt_iload_n C 3 dX10_move_34 rfl rfl ?_
        obtain ⟨g27, h⟩ := h
        refine zt_iald C (za_mem (j := 37) rfl (by decide) (by decide)) (fun W9 => za_E_37 g cy W9 0 0) g27 dX10_move_35 ?_
        refine zt_if_ne C 46 dX10_move_36 (by decide) (fun q28 => ?_) (fun q28 => ?_)
        · replace h := za_ifn h q28
          refine zt_aload_n C 0 dX10_move_46 rfl rfl ?_
          refine zt_get C (za_mem (j := 27) rfl (by decide) (by decide)) pf_X10_44 (za_E_27 g cy M20 0 0) rfl dX10_move_47 ?_
          refine zt_iload_n C 1 dX10_move_50 rfl rfl ?_
          obtain ⟨g29, h⟩ := h
          refine zt_iald C (za_mem (j := 37) rfl (by decide) (by decide)) (fun W9 => za_E_37 g cy W9 0 0) g29 dX10_move_51 ?_
          refine zt_aload_n C 0 dX10_move_52 rfl rfl ?_
          refine zt_get C (za_mem (j := 27) rfl (by decide) (by decide)) pf_X10_44 (za_E_27 g cy M20 0 0) rfl dX10_move_53 ?_
          refine zt_iload_n C 3 dX10_move_56 rfl rfl ?_
          obtain ⟨g30, h⟩ := h
          refine zt_iald C (za_mem (j := 37) rfl (by decide) (by decide)) (fun W9 => za_E_37 g cy W9 0 0) g30 dX10_move_57 ?_
          refine zt_icmp_eq C 68 dX10_move_58 (by decide) (fun q31 => ?_) (fun q31 => ?_)
          · replace h := za_ifp h q31
            refine zt_iload C 5 dX10_move_68 rfl ?_
            refine zt_if_lt C 117 dX10_move_70 (by decide) (fun q32 => ?_) (fun q32 => ?_)
            · replace h := za_ifp h q32
              refine zt_aload_n C 0 dX10_move_117 rfl rfl ?_
              refine zt_ldc C w_969 dX10_move_118 ?_
              refine zt_cVi C [.int (-1000000001)] (m_X10_finding hJ  h) (za_mem (j := 27) rfl (by decide) (by decide)) (za_E_27 g cy M20 0 0) rfl py_X10_finding pv_X10_75 (Nat.le_of_ble_eq_true rfl) ⟨Nat.le_of_ble_eq_true rfl, Nat.le_of_ble_eq_true rfl⟩ ⟨Nat.zero_le _, Nat.zero_le _⟩ dX10_move_120 rfl (fun r34 M33 h => ?_)
              exact zt_ret C hr hk rfl dX10_move_123 h
            · replace h := za_ifn h q32
              refine zt_iload_n C 2 dX10_move_73 rfl rfl ?_
              refine zt_if_lt C 117 dX10_move_74 (by decide) (fun q35 => ?_) (fun q35 => ?_)
              · replace h := za_ifp h q35
                refine zt_aload_n C 0 dX10_move_117 rfl rfl ?_
                refine zt_ldc C w_969 dX10_move_118 ?_
                refine zt_cVi C [.int (-1000000001)] (m_X10_finding hJ  h) (za_mem (j := 27) rfl (by decide) (by decide)) (za_E_27 g cy M20 0 0) rfl py_X10_finding pv_X10_75 (Nat.le_of_ble_eq_true rfl) ⟨Nat.le_of_ble_eq_true rfl, Nat.le_of_ble_eq_true rfl⟩ ⟨Nat.zero_le _, Nat.zero_le _⟩ dX10_move_120 rfl (fun r37 M36 h => ?_)
                exact zt_ret C hr hk rfl dX10_move_123 h
              · replace h := za_ifn h q35
                refine zt_iload C 4 dX10_move_77 rfl ?_
                refine zt_if_lt C 117 dX10_move_79 (by decide) (fun q38 => ?_) (fun q38 => ?_)
                · replace h := za_ifp h q38
                  refine zt_aload_n C 0 dX10_move_117 rfl rfl ?_
                  refine zt_ldc C w_969 dX10_move_118 ?_
                  refine zt_cVi C [.int (-1000000001)] (m_X10_finding hJ  h) (za_mem (j := 27) rfl (by decide) (by decide)) (za_E_27 g cy M20 0 0) rfl py_X10_finding pv_X10_75 (Nat.le_of_ble_eq_true rfl) ⟨Nat.le_of_ble_eq_true rfl, Nat.le_of_ble_eq_true rfl⟩ ⟨Nat.zero_le _, Nat.zero_le _⟩ dX10_move_120 rfl (fun r40 M39 h => ?_)
                  exact zt_ret C hr hk rfl dX10_move_123 h
                · replace h := za_ifn h q38
                  refine zt_iload_n C 2 dX10_move_82 rfl rfl ?_
                  refine zt_i2l C dX10_move_83 ?_
                  refine zt_iload C 5 dX10_move_84 rfl ?_
                  refine zt_i2l C dX10_move_86 ?_
                  refine zt_ladd C dX10_move_87 ?_
                  refine zt_aload_n C 0 dX10_move_88 rfl rfl ?_
                  refine zt_get C (za_mem (j := 27) rfl (by decide) (by decide)) pf_X10_47 (za_E_27 g cy M20 0 0) rfl dX10_move_89 ?_
                  refine zt_iload_n C 1 dX10_move_92 rfl rfl ?_
                  obtain ⟨g41, h⟩ := h
                  refine zt_iald C (za_mem (j := 38) rfl (by decide) (by decide)) (fun W9 => za_E_38 g cy W9 0 0) g41 dX10_move_93 ?_
                  refine zt_i2l C dX10_move_94 ?_
                  refine zt_lcmp C dX10_move_95 ?_
                  refine zt_if_gt C 117 dX10_move_96 (by decide) (fun q42 => ?_) (fun q42 => ?_)
                  · replace h := za_ifp h q42
                    refine zt_aload_n C 0 dX10_move_117 rfl rfl ?_
                    refine zt_ldc C w_969 dX10_move_118 ?_
                    refine zt_cVi C [.int (-1000000001)] (m_X10_finding hJ  h) (za_mem (j := 27) rfl (by decide) (by decide)) (za_E_27 g cy M20 0 0) rfl py_X10_finding pv_X10_75 (Nat.le_of_ble_eq_true rfl) ⟨Nat.le_of_ble_eq_true rfl, Nat.le_of_ble_eq_true rfl⟩ ⟨Nat.zero_le _, Nat.zero_le _⟩ dX10_move_120 rfl (fun r44 M43 h => ?_)
                    exact zt_ret C hr hk rfl dX10_move_123 h
                  · replace h := za_ifn h q42
                    refine zt_iload C 4 dX10_move_99 rfl ?_
                    refine zt_i2l C dX10_move_101 ?_
                    refine zt_iload C 5 dX10_move_102 rfl ?_
                    refine zt_i2l C dX10_move_104 ?_
                    refine zt_ladd C dX10_move_105 ?_
                    refine zt_aload_n C 0 dX10_move_106 rfl rfl ?_
                    refine zt_get C (za_mem (j := 27) rfl (by decide) (by decide)) pf_X10_47 (za_E_27 g cy M20 0 0) rfl dX10_move_107 ?_
                    refine zt_iload_n C 3 dX10_move_110 rfl rfl ?_
                    obtain ⟨g45, h⟩ := h
                    refine zt_iald C (za_mem (j := 38) rfl (by decide) (by decide)) (fun W9 => za_E_38 g cy W9 0 0) g45 dX10_move_111 ?_
                    refine zt_i2l C dX10_move_112 ?_
                    refine zt_lcmp C dX10_move_113 ?_
                    refine zt_if_le C 124 dX10_move_114 (by decide) (fun q46 => ?_) (fun q46 => ?_)
                    · replace h := za_ifp h q46
                      refine zt_iconst C (v := 0) dX10_move_124 zk_i0 ?_
                      refine zt_istore C [(6, .int 0), (0, .ref (g (27, 0, 0))), (1, .int x1), (2, .int x2), (3, .int x3), (4, .int x4), (5, .int x5)] dX10_move_125 (by decide) rfl ?_
                      refine zt_sub [1, 2, 3, 4, 5, 6, 0] (lv' := [(0, .ref (g (27, 0, 0))), (1, .int x1), (2, .int x2), (3, .int x3), (4, .int x4), (5, .int x5), (6, .int 0)]) rfl ?_
                      obtain ⟨n, h⟩ := h
                      exact p_X10_move_b127_in hJ C hr hk  h
                    · replace h := za_ifn h q46
                      refine zt_aload_n C 0 dX10_move_117 rfl rfl ?_
                      refine zt_ldc C w_969 dX10_move_118 ?_
                      refine zt_cVi C [.int (-1000000001)] (m_X10_finding hJ  h) (za_mem (j := 27) rfl (by decide) (by decide)) (za_E_27 g cy M20 0 0) rfl py_X10_finding pv_X10_75 (Nat.le_of_ble_eq_true rfl) ⟨Nat.le_of_ble_eq_true rfl, Nat.le_of_ble_eq_true rfl⟩ ⟨Nat.zero_le _, Nat.zero_le _⟩ dX10_move_120 rfl (fun r48 M47 h => ?_)
                      exact zt_ret C hr hk rfl dX10_move_123 h
          · replace h := za_ifn h q31
            refine zt_aload_n C 0 dX10_move_61 rfl rfl ?_
            refine zt_ldc C w_1150 dX10_move_62 ?_
            refine zt_cVi C [.int (-1000000005)] (m_X10_finding hJ  h) (za_mem (j := 27) rfl (by decide) (by decide)) (za_E_27 g cy M20 0 0) rfl py_X10_finding pv_X10_75 (Nat.le_of_ble_eq_true rfl) ⟨Nat.le_of_ble_eq_true rfl, Nat.le_of_ble_eq_true rfl⟩ ⟨Nat.zero_le _, Nat.zero_le _⟩ dX10_move_64 rfl (fun r50 M49 h => ?_)
            exact zt_ret C hr hk rfl dX10_move_67 h
        · replace h := za_ifp h q28
          refine zt_aload_n C 0 dX10_move_39 rfl rfl ?_
          refine zt_ldc C w_1219 dX10_move_40 ?_
          refine zt_cVi C [.int (-1000000002)] (m_X10_finding hJ  h) (za_mem (j := 27) rfl (by decide) (by decide)) (za_E_27 g cy M20 0 0) rfl py_X10_finding pv_X10_75 (Nat.le_of_ble_eq_true rfl) ⟨Nat.le_of_ble_eq_true rfl, Nat.le_of_ble_eq_true rfl⟩ ⟨Nat.zero_le _, Nat.zero_le _⟩ dX10_move_42 rfl (fun r52 M51 h => ?_)
          exact zt_ret C hr hk rfl dX10_move_45 h
    · replace h := za_ifp h q22
      refine zt_aload_n C 0 dX10_move_14 rfl rfl ?_
      refine zt_ldc C w_969 dX10_move_15 ?_
      refine zt_cVi C [.int (-1000000001)] (m_X10_finding hJ  h) (za_mem (j := 27) rfl (by decide) (by decide)) (za_E_27 g cy M20 0 0) rfl py_X10_finding pv_X10_75 (Nat.le_of_ble_eq_true rfl) ⟨Nat.le_of_ble_eq_true rfl, Nat.le_of_ble_eq_true rfl⟩ ⟨Nat.zero_le _, Nat.zero_le _⟩ dX10_move_17 rfl (fun r54 M53 h => ?_)
      exact zt_ret C hr hk rfl dX10_move_20 h
end
theorem m_X10_move {l : Launch} {g : za_L → Nat} {D : va_G} {cy : Nat → ClassId} (hJ : za_J g)  {x1 : Int32} {x2 : Int32} {x3 : Int32} {x4 : Int32} {x5 : Int32} {M : za_M} {K : Int32 → za_M → Prop} (h : f_X10_move x1 x2 x3 x4 x5 M K) : za_Mi l g D cy yX10_move cX10_move 7 (some .int) 3 106 [.ref (g (27, 0, 0)), .int x1, .int x2, .int x3, .int x4, .int x5] M K := za_openi hJ (by decide) (Nat.le_of_ble_eq_true rfl) (fun p e s m args below meth c C hr hk => p_X10_move hJ C hr hk  h)
/-! X10_hedges -/
def f_X10_hedges_b32 (K : Int32 → za_M → Prop) (x1 : Int32) (L32 : Int32 → za_M → Prop) (x2 : Int32) (M : za_M) : Prop :=
  vp_in x1 4 ∧ (if (M.1 (38, 0, 0) x1.toNatClampNeg) ≤ x2 then (K x2 M) else (f_X10_isAsh x2 M (fun r4 M3 => if r4 = 0 then (K x2 M3) else (vp_in ((40 * x1) + x2) 160 ∧ (f_X10_isDigit (M3.1 (39, 0, 0) ((40 * x1) + x2).toNatClampNeg) M3 (fun r8 M7 => if r8 = 0 then (K x2 M7) else (f_X10_ashAt x2 2 M7 (fun r11 M10 => vp_in ((40 * x1) + x2) 160 ∧ (za_let (M10.1 (39, 0, 0) ((40 * x1) + x2).toNatClampNeg) fun y13 => vp_in r11 279 ∧ (za_let (za_up M10 (28, 0, 0) r11.toNatClampNeg y13) fun M16 => L32 (x2 + 1) M16))))))))))
def f_X10_hedges (x1 : Int32) (M : za_M) (K : Int32 → za_M → Prop) : Prop :=
  f_X10_isSheet x1 M (fun r19 M18 => if r19 = 0 then (f_X10_finding (-1000000001) M18 (fun r26 M25 => K r26 M25)) else (vp_in x1 4 ∧ (if (M18.1 (37, 0, 0) x1.toNatClampNeg) = 0 then (f_X10_finding (-1000000002) M18 (fun r24 M23 => K r24 M23)) else (∃ n, za_lp1 (f_X10_hedges_b32 K x1) n 0 M18))))
section
variable {p : Program} {l : Launch} {e : Env} {s : State} {m : MethodId} {args : Array Value} {below : List Frame} {meth : Method} {c : Code} {g : za_L → Nat} {D : va_G} {cy : Nat → ClassId} {K : Int32 → za_M → Prop}
set_option maxRecDepth 100000 in
set_option maxHeartbeats 4000000 in
theorem p_X10_hedges_b32 (hJ : za_J g) (C : za_C p s m args c cX10_hedges 3 RX10 g D cy) (hr : meth.sig.returnType = (some .int)) (hk : meth.locks = false) {x1 : Int32} {L32 : Int32 → za_M → Prop} (hL32 : ∀ (x2 : Int32) (M : za_M), L32 x2 M → zt p l e (za_rm 3 107) s m args below meth c 0 0 (MQ below (za_Qi g D cy K) args s 0 0 (za_A g)) g D cy 3 M 32 [(0, .ref (g (27, 0, 0))), (1, .int x1), (2, .int x2)] []) : ∀ (x2 : Int32) (M : za_M), f_X10_hedges_b32 K x1 L32 x2 M → zt p l e (za_rm 3 107) s m args below meth c 0 0 (MQ below (za_Qi g D cy K) args s 0 0 (za_A g)) g D cy 3 M 32 [(0, .ref (g (27, 0, 0))), (1, .int x1), (2, .int x2)] [] := by
  intro x2 M h
  unfold f_X10_hedges_b32 at h
  refine zt_iload_n C 2 dX10_hedges_32 rfl rfl ?_
  refine zt_aload_n C 0 dX10_hedges_33 rfl rfl ?_
  refine zt_get C (za_mem (j := 27) rfl (by decide) (by decide)) pf_X10_47 (za_E_27 g cy M 0 0) rfl dX10_hedges_34 ?_
  refine zt_iload_n C 1 dX10_hedges_37 rfl rfl ?_
  obtain ⟨g1, h⟩ := h
  refine zt_iald C (za_mem (j := 38) rfl (by decide) (by decide)) (fun W9 => za_E_38 g cy W9 0 0) g1 dX10_hedges_38 ?_
  refine zt_icmp_ge C 94 dX10_hedges_39 (by decide) (fun q2 => ?_) (fun q2 => ?_)
  · replace h := za_ifp h q2
    refine zt_iload_n C 2 dX10_hedges_94 rfl rfl ?_
    exact zt_ret C hr hk rfl dX10_hedges_95 h
  · replace h := za_ifn h q2
    refine zt_aload_n C 0 dX10_hedges_42 rfl rfl ?_
    refine zt_iload_n C 2 dX10_hedges_43 rfl rfl ?_
    refine zt_cVi C [.int x2] (m_X10_isAsh hJ  h) (za_mem (j := 27) rfl (by decide) (by decide)) (za_E_27 g cy M 0 0) rfl py_X10_isAsh pv_X10_171 (Nat.le_of_ble_eq_true rfl) ⟨Nat.le_of_ble_eq_true rfl, Nat.le_of_ble_eq_true rfl⟩ ⟨Nat.zero_le _, Nat.zero_le _⟩ dX10_hedges_44 rfl (fun r4 M3 h => ?_)
    refine zt_if_eq C 94 dX10_hedges_47 (by decide) (fun q5 => ?_) (fun q5 => ?_)
    · replace h := za_ifp h q5
      refine zt_iload_n C 2 dX10_hedges_94 rfl rfl ?_
      exact zt_ret C hr hk rfl dX10_hedges_95 h
    · replace h := za_ifn h q5
      refine zt_aload_n C 0 dX10_hedges_50 rfl rfl ?_
      refine zt_get C (za_mem (j := 27) rfl (by decide) (by decide)) pf_X10_50 (za_E_27 g cy M3 0 0) rfl dX10_hedges_51 ?_
      refine zt_bipush C (v := 40) dX10_hedges_54 zk_b40 ?_
      refine zt_iload_n C 1 dX10_hedges_56 rfl rfl ?_
      refine zt_imul C dX10_hedges_57 ?_
      refine zt_iload_n C 2 dX10_hedges_58 rfl rfl ?_
      refine zt_iadd C dX10_hedges_59 ?_
      obtain ⟨g6, h⟩ := h
      refine zt_iald C (za_mem (j := 39) rfl (by decide) (by decide)) (fun W9 => za_E_39 g cy W9 0 0) g6 dX10_hedges_60 ?_
      refine zt_cSi C [.int (M3.1 (39, 0, 0) ((40 * x1) + x2).toNatClampNeg)] (m_X10_isDigit hJ  h) py_X10_isDigit ps_X10_216 (Nat.le_of_ble_eq_true rfl) ⟨Nat.le_of_ble_eq_true rfl, Nat.le_of_ble_eq_true rfl⟩ ⟨Nat.zero_le _, Nat.zero_le _⟩ dX10_hedges_61 rfl (fun r8 M7 h => ?_)
      refine zt_if_eq C 94 dX10_hedges_64 (by decide) (fun q9 => ?_) (fun q9 => ?_)
      · replace h := za_ifp h q9
        refine zt_iload_n C 2 dX10_hedges_94 rfl rfl ?_
        exact zt_ret C hr hk rfl dX10_hedges_95 h
      · replace h := za_ifn h q9
        refine zt_aload_n C 0 dX10_hedges_67 rfl rfl ?_
        refine zt_get C (za_mem (j := 27) rfl (by decide) (by decide)) pf_X10_9 (za_E_27 g cy M7 0 0) rfl dX10_hedges_68 ?_
        refine zt_iload_n C 2 dX10_hedges_71 rfl rfl ?_
        refine zt_iconst C (v := 2) dX10_hedges_72 zk_i2 ?_
        refine zt_cSi C [.int x2, .int 2] (m_X10_ashAt hJ  h) py_X10_ashAt ps_X10_156 (Nat.le_of_ble_eq_true rfl) ⟨Nat.le_of_ble_eq_true rfl, Nat.le_of_ble_eq_true rfl⟩ ⟨Nat.zero_le _, Nat.zero_le _⟩ dX10_hedges_73 rfl (fun r11 M10 h => ?_)
        refine zt_aload_n C 0 dX10_hedges_76 rfl rfl ?_
        refine zt_get C (za_mem (j := 27) rfl (by decide) (by decide)) pf_X10_50 (za_E_27 g cy M10 0 0) rfl dX10_hedges_77 ?_
        refine zt_bipush C (v := 40) dX10_hedges_80 zk_b40 ?_
        refine zt_iload_n C 1 dX10_hedges_82 rfl rfl ?_
        refine zt_imul C dX10_hedges_83 ?_
        refine zt_iload_n C 2 dX10_hedges_84 rfl rfl ?_
        refine zt_iadd C dX10_hedges_85 ?_
        obtain ⟨g12, h⟩ := h
        refine zt_iald C (za_mem (j := 39) rfl (by decide) (by decide)) (fun W9 => za_E_39 g cy W9 0 0) g12 dX10_hedges_86 ?_
        refine zt_topi (fun y13 e14 => ?_)
        replace h := za_use h e14
        obtain ⟨g15, h⟩ := h
        refine zt_iast C (za_mem (j := 28) rfl (by decide) (by decide)) (fun W9 => za_E_28 g cy W9 0 0) g15 dX10_hedges_87 ?_
        refine zt_topM (fun M16 e17 => ?_)
        replace h := za_use h e17
        refine zt_iinc C (v := x2 + 1) 2 [(2, .int (x2 + 1)), (0, .ref (g (27, 0, 0))), (1, .int x1)] dX10_hedges_88 rfl (zk_n1 _) (by decide) rfl ?_
        refine zt_goto C 32 dX10_hedges_91 (by decide) ?_
        refine zt_sub [1, 2, 0] (lv' := [(0, .ref (g (27, 0, 0))), (1, .int x1), (2, .int (x2 + 1))]) rfl ?_
        exact hL32 _ _ h
theorem p_X10_hedges_b32_in (hJ : za_J g) (C : za_C p s m args c cX10_hedges 3 RX10 g D cy) (hr : meth.sig.returnType = (some .int)) (hk : meth.locks = false) {x1 : Int32} {n : Nat} {x2 : Int32} {M : za_M} (h : za_lp1 (f_X10_hedges_b32 K x1) n x2 M) : zt p l e (za_rm 3 107) s m args below meth c 0 0 (MQ below (za_Qi g D cy K) args s 0 0 (za_A g)) g D cy 3 M 32 [(0, .ref (g (27, 0, 0))), (1, .int x1), (2, .int x2)] [] := za_lp1_run (Z := fun x2 M => zt p l e (za_rm 3 107) s m args below meth c 0 0 (MQ below (za_Qi g D cy K) args s 0 0 (za_A g)) g D cy 3 M 32 [(0, .ref (g (27, 0, 0))), (1, .int x1), (2, .int x2)] []) (fun L hL => p_X10_hedges_b32 hJ C hr hk  hL) n x2 M h
set_option maxRecDepth 100000 in
set_option maxHeartbeats 4000000 in
theorem p_X10_hedges (hJ : za_J g) (C : za_C p s m args c cX10_hedges 3 RX10 g D cy) (hr : meth.sig.returnType = (some .int)) (hk : meth.locks = false) {x1 : Int32} {M : za_M} (h : f_X10_hedges x1 M K) : zt p l e (za_rm 3 107) s m args below meth c 0 0 (MQ below (za_Qi g D cy K) args s 0 0 (za_A g)) g D cy 3 M 0 [(0, .ref (g (27, 0, 0))), (1, .int x1)] [] := by
  unfold f_X10_hedges at h
  refine zt_iload_n C 1 dX10_hedges_0 rfl rfl ?_
  refine zt_cSi C [.int x1] (m_X10_isSheet hJ  h) py_X10_isSheet ps_X10_279 (Nat.le_of_ble_eq_true rfl) ⟨Nat.le_of_ble_eq_true rfl, Nat.le_of_ble_eq_true rfl⟩ ⟨Nat.zero_le _, Nat.zero_le _⟩ dX10_hedges_1 rfl (fun r19 M18 h => ?_)
  refine zt_if_ne C 14 dX10_hedges_4 (by decide) (fun q20 => ?_) (fun q20 => ?_)
  · replace h := za_ifn h q20
    refine zt_aload_n C 0 dX10_hedges_14 rfl rfl ?_
    refine zt_get C (za_mem (j := 27) rfl (by decide) (by decide)) pf_X10_44 (za_E_27 g cy M18 0 0) rfl dX10_hedges_15 ?_
    refine zt_iload_n C 1 dX10_hedges_18 rfl rfl ?_
    obtain ⟨g21, h⟩ := h
    refine zt_iald C (za_mem (j := 37) rfl (by decide) (by decide)) (fun W9 => za_E_37 g cy W9 0 0) g21 dX10_hedges_19 ?_
    refine zt_if_ne C 30 dX10_hedges_20 (by decide) (fun q22 => ?_) (fun q22 => ?_)
    · replace h := za_ifn h q22
      refine zt_iconst C (v := 0) dX10_hedges_30 zk_i0 ?_
      refine zt_istore_n C [(2, .int 0), (0, .ref (g (27, 0, 0))), (1, .int x1)] dX10_hedges_31 rfl (by decide) rfl ?_
      refine zt_sub [1, 2, 0] (lv' := [(0, .ref (g (27, 0, 0))), (1, .int x1), (2, .int 0)]) rfl ?_
      obtain ⟨n, h⟩ := h
      exact p_X10_hedges_b32_in hJ C hr hk  h
    · replace h := za_ifp h q22
      refine zt_aload_n C 0 dX10_hedges_23 rfl rfl ?_
      refine zt_ldc C w_1219 dX10_hedges_24 ?_
      refine zt_cVi C [.int (-1000000002)] (m_X10_finding hJ  h) (za_mem (j := 27) rfl (by decide) (by decide)) (za_E_27 g cy M18 0 0) rfl py_X10_finding pv_X10_75 (Nat.le_of_ble_eq_true rfl) ⟨Nat.le_of_ble_eq_true rfl, Nat.le_of_ble_eq_true rfl⟩ ⟨Nat.zero_le _, Nat.zero_le _⟩ dX10_hedges_26 rfl (fun r24 M23 h => ?_)
      exact zt_ret C hr hk rfl dX10_hedges_29 h
  · replace h := za_ifp h q20
    refine zt_aload_n C 0 dX10_hedges_7 rfl rfl ?_
    refine zt_ldc C w_969 dX10_hedges_8 ?_
    refine zt_cVi C [.int (-1000000001)] (m_X10_finding hJ  h) (za_mem (j := 27) rfl (by decide) (by decide)) (za_E_27 g cy M18 0 0) rfl py_X10_finding pv_X10_75 (Nat.le_of_ble_eq_true rfl) ⟨Nat.le_of_ble_eq_true rfl, Nat.le_of_ble_eq_true rfl⟩ ⟨Nat.zero_le _, Nat.zero_le _⟩ dX10_hedges_10 rfl (fun r26 M25 h => ?_)
    exact zt_ret C hr hk rfl dX10_hedges_13 h
end
theorem m_X10_hedges {l : Launch} {g : za_L → Nat} {D : va_G} {cy : Nat → ClassId} (hJ : za_J g)  {x1 : Int32} {M : za_M} {K : Int32 → za_M → Prop} (h : f_X10_hedges x1 M K) : za_Mi l g D cy yX10_hedges cX10_hedges 3 (some .int) 3 107 [.ref (g (27, 0, 0)), .int x1] M K := za_openi hJ (by decide) (Nat.le_of_ble_eq_true rfl) (fun p e s m args below meth c C hr hk => p_X10_hedges hJ C hr hk  h)
/-! X10_judge -/
def f_X10_judge_b100 (K : Int32 → za_M → Prop) (x2 : Int32) (M : za_M) : Prop :=
  K x2 M
def f_X10_judge_b76 (K : Int32 → za_M → Prop) (x1 : Int32) (x2 : Int32) (M : za_M) : Prop :=
  vp_in x1 4 ∧ (if x2 = (M.1 (38, 0, 0) x1.toNatClampNeg) then (vp_in 3 279 ∧ (if x2 = (M.1 (28, 0, 0) (Int32.toNatClampNeg 3)) then (K (-1) M) else (f_X10_judge_b100 K x2 M))) else (f_X10_judge_b100 K x2 M))
def f_X10_judge_b32 (K : Int32 → za_M → Prop) (x1 : Int32) (L32 : Int32 → za_M → Prop) (x2 : Int32) (M : za_M) : Prop :=
  vp_in x1 4 ∧ (if (M.1 (38, 0, 0) x1.toNatClampNeg) ≤ x2 then (f_X10_judge_b76 K x1 x2 M) else (f_X10_isLoan x2 M (fun r8 M7 => if r8 = 0 then (f_X10_judge_b76 K x1 x2 M7) else (vp_in ((40 * x1) + x2) 160 ∧ (f_X10_loanIs x2 3 M7 (fun r12 M11 => if (M7.1 (39, 0, 0) ((40 * x1) + x2).toNatClampNeg) = r12 then (L32 (x2 + 1) M11) else (f_X10_judge_b76 K x1 x2 M11)))))))
def f_X10_judge (x1 : Int32) (M : za_M) (K : Int32 → za_M → Prop) : Prop :=
  f_X10_isSheet x1 M (fun r15 M14 => if r15 = 0 then (f_X10_finding (-1000000001) M14 (fun r22 M21 => K r22 M21)) else (vp_in x1 4 ∧ (if (M14.1 (37, 0, 0) x1.toNatClampNeg) = 0 then (f_X10_finding (-1000000002) M14 (fun r20 M19 => K r20 M19)) else (∃ n, za_lp1 (f_X10_judge_b32 K x1) n 0 M14))))
section
variable {p : Program} {l : Launch} {e : Env} {s : State} {m : MethodId} {args : Array Value} {below : List Frame} {meth : Method} {c : Code} {g : za_L → Nat} {D : va_G} {cy : Nat → ClassId} {K : Int32 → za_M → Prop}
set_option maxRecDepth 100000 in
set_option maxHeartbeats 4000000 in
theorem p_X10_judge_b100 (hJ : za_J g) (C : za_C p s m args c cX10_judge 3 RX10 g D cy) (hr : meth.sig.returnType = (some .int)) (hk : meth.locks = false) {x2 : Int32} {M : za_M} (h : f_X10_judge_b100 K x2 M) : zt p l e (za_rm 3 107) s m args below meth c 0 0 (MQ below (za_Qi g D cy K) args s 0 0 (za_A g)) g D cy 3 M 100 [(2, .int x2)] [] := by
  unfold f_X10_judge_b100 at h
  refine zt_iload_n C 0 dX10_judge_100 rfl rfl ?_
  exact zt_ret C hr hk rfl dX10_judge_101 h
set_option maxRecDepth 100000 in
set_option maxHeartbeats 4000000 in
theorem p_X10_judge_b76 (hJ : za_J g) (C : za_C p s m args c cX10_judge 3 RX10 g D cy) (hr : meth.sig.returnType = (some .int)) (hk : meth.locks = false) {x1 : Int32} {x2 : Int32} {M : za_M} (h : f_X10_judge_b76 K x1 x2 M) : zt p l e (za_rm 3 107) s m args below meth c 0 0 (MQ below (za_Qi g D cy K) args s 0 0 (za_A g)) g D cy 3 M 76 [(0, .ref (g (27, 0, 0))), (1, .int x1), (2, .int x2)] [] := by
  unfold f_X10_judge_b76 at h
  refine zt_iload_n C 2 dX10_judge_76 rfl rfl ?_
  refine zt_aload_n C 0 dX10_judge_77 rfl rfl ?_
  refine zt_get C (za_mem (j := 27) rfl (by decide) (by decide)) pf_X10_47 (za_E_27 g cy M 0 0) rfl dX10_judge_78 ?_
  refine zt_iload_n C 1 dX10_judge_81 rfl rfl ?_
  obtain ⟨g1, h⟩ := h
  refine zt_iald C (za_mem (j := 38) rfl (by decide) (by decide)) (fun W9 => za_E_38 g cy W9 0 0) g1 dX10_judge_82 ?_
  refine zt_icmp_ne C 100 dX10_judge_83 (by decide) (fun q2 => ?_) (fun q2 => ?_)
  · replace h := za_ifn h q2
    refine zt_sub [2] (lv' := [(2, .int x2)]) rfl ?_
    exact p_X10_judge_b100 hJ C hr hk  h
  · replace h := za_ifp h q2
    refine zt_iload_n C 2 dX10_judge_86 rfl rfl ?_
    refine zt_aload_n C 0 dX10_judge_87 rfl rfl ?_
    refine zt_get C (za_mem (j := 27) rfl (by decide) (by decide)) pf_X10_9 (za_E_27 g cy M 0 0) rfl dX10_judge_88 ?_
    refine zt_iconst C (v := 3) dX10_judge_91 zk_i3 ?_
    obtain ⟨g3, h⟩ := h
    refine zt_iald C (za_mem (j := 28) rfl (by decide) (by decide)) (fun W9 => za_E_28 g cy W9 0 0) g3 dX10_judge_92 ?_
    refine zt_icmp_ne C 100 dX10_judge_93 (by decide) (fun q4 => ?_) (fun q4 => ?_)
    · replace h := za_ifn h q4
      refine zt_sub [2] (lv' := [(2, .int x2)]) rfl ?_
      exact p_X10_judge_b100 hJ C hr hk  h
    · replace h := za_ifp h q4
      refine zt_iconst C (v := (-1)) dX10_judge_96 zk_im1 ?_
      refine zt_goto C 101 dX10_judge_97 (by decide) ?_
      exact zt_ret C hr hk rfl dX10_judge_101 h
set_option maxRecDepth 100000 in
set_option maxHeartbeats 4000000 in
theorem p_X10_judge_b32 (hJ : za_J g) (C : za_C p s m args c cX10_judge 3 RX10 g D cy) (hr : meth.sig.returnType = (some .int)) (hk : meth.locks = false) {x1 : Int32} {L32 : Int32 → za_M → Prop} (hL32 : ∀ (x2 : Int32) (M : za_M), L32 x2 M → zt p l e (za_rm 3 107) s m args below meth c 0 0 (MQ below (za_Qi g D cy K) args s 0 0 (za_A g)) g D cy 3 M 32 [(0, .ref (g (27, 0, 0))), (1, .int x1), (2, .int x2)] []) : ∀ (x2 : Int32) (M : za_M), f_X10_judge_b32 K x1 L32 x2 M → zt p l e (za_rm 3 107) s m args below meth c 0 0 (MQ below (za_Qi g D cy K) args s 0 0 (za_A g)) g D cy 3 M 32 [(0, .ref (g (27, 0, 0))), (1, .int x1), (2, .int x2)] [] := by
  intro x2 M h
  unfold f_X10_judge_b32 at h
  refine zt_iload_n C 2 dX10_judge_32 rfl rfl ?_
  refine zt_aload_n C 0 dX10_judge_33 rfl rfl ?_
  refine zt_get C (za_mem (j := 27) rfl (by decide) (by decide)) pf_X10_47 (za_E_27 g cy M 0 0) rfl dX10_judge_34 ?_
  refine zt_iload_n C 1 dX10_judge_37 rfl rfl ?_
  obtain ⟨g5, h⟩ := h
  refine zt_iald C (za_mem (j := 38) rfl (by decide) (by decide)) (fun W9 => za_E_38 g cy W9 0 0) g5 dX10_judge_38 ?_
  refine zt_icmp_ge C 76 dX10_judge_39 (by decide) (fun q6 => ?_) (fun q6 => ?_)
  · replace h := za_ifp h q6
    exact p_X10_judge_b76 hJ C hr hk  h
  · replace h := za_ifn h q6
    refine zt_aload_n C 0 dX10_judge_42 rfl rfl ?_
    refine zt_iload_n C 2 dX10_judge_43 rfl rfl ?_
    refine zt_cVi C [.int x2] (m_X10_isLoan hJ  h) (za_mem (j := 27) rfl (by decide) (by decide)) (za_E_27 g cy M 0 0) rfl py_X10_isLoan pv_X10_241 (Nat.le_of_ble_eq_true rfl) ⟨Nat.le_of_ble_eq_true rfl, Nat.le_of_ble_eq_true rfl⟩ ⟨Nat.zero_le _, Nat.zero_le _⟩ dX10_judge_44 rfl (fun r8 M7 h => ?_)
    refine zt_if_eq C 76 dX10_judge_47 (by decide) (fun q9 => ?_) (fun q9 => ?_)
    · replace h := za_ifp h q9
      exact p_X10_judge_b76 hJ C hr hk  h
    · replace h := za_ifn h q9
      refine zt_aload_n C 0 dX10_judge_50 rfl rfl ?_
      refine zt_get C (za_mem (j := 27) rfl (by decide) (by decide)) pf_X10_50 (za_E_27 g cy M7 0 0) rfl dX10_judge_51 ?_
      refine zt_bipush C (v := 40) dX10_judge_54 zk_b40 ?_
      refine zt_iload_n C 1 dX10_judge_56 rfl rfl ?_
      refine zt_imul C dX10_judge_57 ?_
      refine zt_iload_n C 2 dX10_judge_58 rfl rfl ?_
      refine zt_iadd C dX10_judge_59 ?_
      obtain ⟨g10, h⟩ := h
      refine zt_iald C (za_mem (j := 39) rfl (by decide) (by decide)) (fun W9 => za_E_39 g cy W9 0 0) g10 dX10_judge_60 ?_
      refine zt_aload_n C 0 dX10_judge_61 rfl rfl ?_
      refine zt_iload_n C 2 dX10_judge_62 rfl rfl ?_
      refine zt_iconst C (v := 3) dX10_judge_63 zk_i3 ?_
      refine zt_cVi C [.int x2, .int 3] (m_X10_loanIs hJ  h) (za_mem (j := 27) rfl (by decide) (by decide)) (za_E_27 g cy M7 0 0) rfl py_X10_loanIs pv_X10_194 (Nat.le_of_ble_eq_true rfl) ⟨Nat.le_of_ble_eq_true rfl, Nat.le_of_ble_eq_true rfl⟩ ⟨Nat.zero_le _, Nat.zero_le _⟩ dX10_judge_64 rfl (fun r12 M11 h => ?_)
      refine zt_icmp_ne C 76 dX10_judge_67 (by decide) (fun q13 => ?_) (fun q13 => ?_)
      · replace h := za_ifn h q13
        exact p_X10_judge_b76 hJ C hr hk  h
      · replace h := za_ifp h q13
        refine zt_iinc C (v := x2 + 1) 2 [(2, .int (x2 + 1)), (0, .ref (g (27, 0, 0))), (1, .int x1)] dX10_judge_70 rfl (zk_n1 _) (by decide) rfl ?_
        refine zt_goto C 32 dX10_judge_73 (by decide) ?_
        refine zt_sub [1, 2, 0] (lv' := [(0, .ref (g (27, 0, 0))), (1, .int x1), (2, .int (x2 + 1))]) rfl ?_
        exact hL32 _ _ h
theorem p_X10_judge_b32_in (hJ : za_J g) (C : za_C p s m args c cX10_judge 3 RX10 g D cy) (hr : meth.sig.returnType = (some .int)) (hk : meth.locks = false) {x1 : Int32} {n : Nat} {x2 : Int32} {M : za_M} (h : za_lp1 (f_X10_judge_b32 K x1) n x2 M) : zt p l e (za_rm 3 107) s m args below meth c 0 0 (MQ below (za_Qi g D cy K) args s 0 0 (za_A g)) g D cy 3 M 32 [(0, .ref (g (27, 0, 0))), (1, .int x1), (2, .int x2)] [] := za_lp1_run (Z := fun x2 M => zt p l e (za_rm 3 107) s m args below meth c 0 0 (MQ below (za_Qi g D cy K) args s 0 0 (za_A g)) g D cy 3 M 32 [(0, .ref (g (27, 0, 0))), (1, .int x1), (2, .int x2)] []) (fun L hL => p_X10_judge_b32 hJ C hr hk  hL) n x2 M h
set_option maxRecDepth 100000 in
set_option maxHeartbeats 4000000 in
theorem p_X10_judge (hJ : za_J g) (C : za_C p s m args c cX10_judge 3 RX10 g D cy) (hr : meth.sig.returnType = (some .int)) (hk : meth.locks = false) {x1 : Int32} {M : za_M} (h : f_X10_judge x1 M K) : zt p l e (za_rm 3 107) s m args below meth c 0 0 (MQ below (za_Qi g D cy K) args s 0 0 (za_A g)) g D cy 3 M 0 [(0, .ref (g (27, 0, 0))), (1, .int x1)] [] := by
  unfold f_X10_judge at h
  refine zt_iload_n C 1 dX10_judge_0 rfl rfl ?_
  refine zt_cSi C [.int x1] (m_X10_isSheet hJ  h) py_X10_isSheet ps_X10_279 (Nat.le_of_ble_eq_true rfl) ⟨Nat.le_of_ble_eq_true rfl, Nat.le_of_ble_eq_true rfl⟩ ⟨Nat.zero_le _, Nat.zero_le _⟩ dX10_judge_1 rfl (fun r15 M14 h => ?_)
  refine zt_if_ne C 14 dX10_judge_4 (by decide) (fun q16 => ?_) (fun q16 => ?_)
  · replace h := za_ifn h q16
    refine zt_aload_n C 0 dX10_judge_14 rfl rfl ?_
    refine zt_get C (za_mem (j := 27) rfl (by decide) (by decide)) pf_X10_44 (za_E_27 g cy M14 0 0) rfl dX10_judge_15 ?_
    refine zt_iload_n C 1 dX10_judge_18 rfl rfl ?_
    obtain ⟨g17, h⟩ := h
    refine zt_iald C (za_mem (j := 37) rfl (by decide) (by decide)) (fun W9 => za_E_37 g cy W9 0 0) g17 dX10_judge_19 ?_
    refine zt_if_ne C 30 dX10_judge_20 (by decide) (fun q18 => ?_) (fun q18 => ?_)
    · replace h := za_ifn h q18
      refine zt_iconst C (v := 0) dX10_judge_30 zk_i0 ?_
      refine zt_istore_n C [(2, .int 0), (0, .ref (g (27, 0, 0))), (1, .int x1)] dX10_judge_31 rfl (by decide) rfl ?_
      refine zt_sub [1, 2, 0] (lv' := [(0, .ref (g (27, 0, 0))), (1, .int x1), (2, .int 0)]) rfl ?_
      obtain ⟨n, h⟩ := h
      exact p_X10_judge_b32_in hJ C hr hk  h
    · replace h := za_ifp h q18
      refine zt_aload_n C 0 dX10_judge_23 rfl rfl ?_
      refine zt_ldc C w_1219 dX10_judge_24 ?_
      refine zt_cVi C [.int (-1000000002)] (m_X10_finding hJ  h) (za_mem (j := 27) rfl (by decide) (by decide)) (za_E_27 g cy M14 0 0) rfl py_X10_finding pv_X10_75 (Nat.le_of_ble_eq_true rfl) ⟨Nat.le_of_ble_eq_true rfl, Nat.le_of_ble_eq_true rfl⟩ ⟨Nat.zero_le _, Nat.zero_le _⟩ dX10_judge_26 rfl (fun r20 M19 h => ?_)
      exact zt_ret C hr hk rfl dX10_judge_29 h
  · replace h := za_ifp h q16
    refine zt_aload_n C 0 dX10_judge_7 rfl rfl ?_
    refine zt_ldc C w_969 dX10_judge_8 ?_
    refine zt_cVi C [.int (-1000000001)] (m_X10_finding hJ  h) (za_mem (j := 27) rfl (by decide) (by decide)) (za_E_27 g cy M14 0 0) rfl py_X10_finding pv_X10_75 (Nat.le_of_ble_eq_true rfl) ⟨Nat.le_of_ble_eq_true rfl, Nat.le_of_ble_eq_true rfl⟩ ⟨Nat.zero_le _, Nat.zero_le _⟩ dX10_judge_10 rfl (fun r22 M21 h => ?_)
    exact zt_ret C hr hk rfl dX10_judge_13 h
end
theorem m_X10_judge {l : Launch} {g : za_L → Nat} {D : va_G} {cy : Nat → ClassId} (hJ : za_J g)  {x1 : Int32} {M : za_M} {K : Int32 → za_M → Prop} (h : f_X10_judge x1 M K) : za_Mi l g D cy yX10_judge cX10_judge 3 (some .int) 3 107 [.ref (g (27, 0, 0)), .int x1] M K := za_openi hJ (by decide) (Nat.le_of_ble_eq_true rfl) (fun p e s m args below meth c C hr hk => p_X10_judge hJ C hr hk  h)
/-! X10_image -/
def f_X10_image (M : za_M) (K : Int32 → za_M → Prop) : Prop :=
  f_X10_copy (28, 0, 0) (29, 0, 0) M (fun M1 => za_let ((M1.1 (27, 0, 0) 3) + 1) fun y3 => za_let (za_up M1 (27, 0, 0) 3 y3) fun M5 => K (M5.1 (27, 0, 0) 3) M5)
section
variable {p : Program} {l : Launch} {e : Env} {s : State} {m : MethodId} {args : Array Value} {below : List Frame} {meth : Method} {c : Code} {g : za_L → Nat} {D : va_G} {cy : Nat → ClassId} {K : Int32 → za_M → Prop}
set_option maxRecDepth 100000 in
set_option maxHeartbeats 4000000 in
theorem p_X10_image (hJ : za_J g) (C : za_C p s m args c cX10_image 1 RX10 g D cy) (hr : meth.sig.returnType = (some .int)) (hk : meth.locks = false) {M : za_M} (h : f_X10_image M K) : zt p l e (za_rm 2 86) s m args below meth c 0 0 (MQ below (za_Qi g D cy K) args s 0 0 (za_A g)) g D cy 1 M 0 [(0, .ref (g (27, 0, 0)))] [] := by
  unfold f_X10_image at h
  refine zt_aload_n C 0 dX10_image_0 rfl rfl ?_
  refine zt_get C (za_mem (j := 27) rfl (by decide) (by decide)) pf_X10_9 (za_E_27 g cy M 0 0) rfl dX10_image_1 ?_
  refine zt_aload_n C 0 dX10_image_4 rfl rfl ?_
  refine zt_get C (za_mem (j := 27) rfl (by decide) (by decide)) pf_X10_13 (za_E_27 g cy M 0 0) rfl dX10_image_5 ?_
  refine zt_cSv C [.ref (g (28, 0, 0)), .ref (g (29, 0, 0))] (m_X10_copy hJ (za_I_of (za_mem (j := 28) rfl (by decide) (by decide)) (fun g9 cy9 W9 => za_E_28 g9 cy9 W9 0 0)) (za_I_of (za_mem (j := 29) rfl (by decide) (by decide)) (fun g9 cy9 W9 => za_E_29 g9 cy9 W9 0 0)) h) py_X10_copy ps_X10_66 (Nat.le_of_ble_eq_true rfl) ⟨Nat.le_of_ble_eq_true rfl, Nat.le_of_ble_eq_true rfl⟩ ⟨Nat.zero_le _, Nat.zero_le _⟩ dX10_image_8 rfl (fun M1 h => ?_)
  refine zt_aload_n C 0 dX10_image_11 rfl rfl ?_
  refine zt_dup C dX10_image_12 rfl ?_
  refine zt_get C (za_mem (j := 27) rfl (by decide) (by decide)) pf_X10_321 (za_E_27 g cy M1 0 0) rfl dX10_image_13 ?_
  refine zt_iconst C (v := 1) dX10_image_16 zk_i1 ?_
  refine zt_iadd C dX10_image_17 ?_
  refine zt_topi (fun y3 e4 => ?_)
  replace h := za_use h e4
  refine zt_put C (za_mem (j := 27) rfl (by decide) (by decide)) pf_X10_321 pt_X10_3 rfl rfl (za_E_27 g cy M1 0 0) rfl (Nat.le_of_ble_eq_true rfl) dX10_image_18 ?_
  refine zt_topM (fun M5 e6 => ?_)
  replace h := za_use h e6
  refine zt_aload_n C 0 dX10_image_21 rfl rfl ?_
  refine zt_get C (za_mem (j := 27) rfl (by decide) (by decide)) pf_X10_321 (za_E_27 g cy M5 0 0) rfl dX10_image_22 ?_
  exact zt_ret C hr hk rfl dX10_image_25 h
end
theorem m_X10_image {l : Launch} {g : za_L → Nat} {D : va_G} {cy : Nat → ClassId} (hJ : za_J g)  {M : za_M} {K : Int32 → za_M → Prop} (h : f_X10_image M K) : za_Mi l g D cy yX10_image cX10_image 1 (some .int) 2 86 [.ref (g (27, 0, 0))] M K := za_openi hJ (by decide) (Nat.le_of_ble_eq_true rfl) (fun p e s m args below meth c C hr hk => p_X10_image hJ C hr hk  h)
/-! X10_restore -/
def f_X10_restore (M : za_M) (K : Int32 → za_M → Prop) : Prop :=
  if (M.1 (27, 0, 0) 3) = 0 then (f_X10_finding (-1000000002) M (fun r6 M5 => K r6 M5)) else (f_X10_copy (29, 0, 0) (28, 0, 0) M (fun M2 => vp_in 0 279 ∧ (K (M2.1 (28, 0, 0) (Int32.toNatClampNeg 0)) M2)))
section
variable {p : Program} {l : Launch} {e : Env} {s : State} {m : MethodId} {args : Array Value} {below : List Frame} {meth : Method} {c : Code} {g : za_L → Nat} {D : va_G} {cy : Nat → ClassId} {K : Int32 → za_M → Prop}
set_option maxRecDepth 100000 in
set_option maxHeartbeats 4000000 in
theorem p_X10_restore (hJ : za_J g) (C : za_C p s m args c cX10_restore 1 RX10 g D cy) (hr : meth.sig.returnType = (some .int)) (hk : meth.locks = false) {M : za_M} (h : f_X10_restore M K) : zt p l e (za_rm 2 86) s m args below meth c 0 0 (MQ below (za_Qi g D cy K) args s 0 0 (za_A g)) g D cy 1 M 0 [(0, .ref (g (27, 0, 0)))] [] := by
  unfold f_X10_restore at h
  refine zt_aload_n C 0 dX10_restore_0 rfl rfl ?_
  refine zt_get C (za_mem (j := 27) rfl (by decide) (by decide)) pf_X10_321 (za_E_27 g cy M 0 0) rfl dX10_restore_1 ?_
  refine zt_if_ne C 14 dX10_restore_4 (by decide) (fun q1 => ?_) (fun q1 => ?_)
  · replace h := za_ifn h q1
    refine zt_aload_n C 0 dX10_restore_14 rfl rfl ?_
    refine zt_get C (za_mem (j := 27) rfl (by decide) (by decide)) pf_X10_13 (za_E_27 g cy M 0 0) rfl dX10_restore_15 ?_
    refine zt_aload_n C 0 dX10_restore_18 rfl rfl ?_
    refine zt_get C (za_mem (j := 27) rfl (by decide) (by decide)) pf_X10_9 (za_E_27 g cy M 0 0) rfl dX10_restore_19 ?_
    refine zt_cSv C [.ref (g (29, 0, 0)), .ref (g (28, 0, 0))] (m_X10_copy hJ (za_I_of (za_mem (j := 29) rfl (by decide) (by decide)) (fun g9 cy9 W9 => za_E_29 g9 cy9 W9 0 0)) (za_I_of (za_mem (j := 28) rfl (by decide) (by decide)) (fun g9 cy9 W9 => za_E_28 g9 cy9 W9 0 0)) h) py_X10_copy ps_X10_66 (Nat.le_of_ble_eq_true rfl) ⟨Nat.le_of_ble_eq_true rfl, Nat.le_of_ble_eq_true rfl⟩ ⟨Nat.zero_le _, Nat.zero_le _⟩ dX10_restore_22 rfl (fun M2 h => ?_)
    refine zt_aload_n C 0 dX10_restore_25 rfl rfl ?_
    refine zt_get C (za_mem (j := 27) rfl (by decide) (by decide)) pf_X10_9 (za_E_27 g cy M2 0 0) rfl dX10_restore_26 ?_
    refine zt_iconst C (v := 0) dX10_restore_29 zk_i0 ?_
    obtain ⟨g4, h⟩ := h
    refine zt_iald C (za_mem (j := 28) rfl (by decide) (by decide)) (fun W9 => za_E_28 g cy W9 0 0) g4 dX10_restore_30 ?_
    exact zt_ret C hr hk rfl dX10_restore_31 h
  · replace h := za_ifp h q1
    refine zt_aload_n C 0 dX10_restore_7 rfl rfl ?_
    refine zt_ldc C w_1219 dX10_restore_8 ?_
    refine zt_cVi C [.int (-1000000002)] (m_X10_finding hJ  h) (za_mem (j := 27) rfl (by decide) (by decide)) (za_E_27 g cy M 0 0) rfl py_X10_finding pv_X10_75 (Nat.le_of_ble_eq_true rfl) ⟨Nat.le_of_ble_eq_true rfl, Nat.le_of_ble_eq_true rfl⟩ ⟨Nat.zero_le _, Nat.zero_le _⟩ dX10_restore_10 rfl (fun r6 M5 h => ?_)
    exact zt_ret C hr hk rfl dX10_restore_13 h
end
theorem m_X10_restore {l : Launch} {g : za_L → Nat} {D : va_G} {cy : Nat → ClassId} (hJ : za_J g)  {M : za_M} {K : Int32 → za_M → Prop} (h : f_X10_restore M K) : za_Mi l g D cy yX10_restore cX10_restore 1 (some .int) 2 86 [.ref (g (27, 0, 0))] M K := za_openi hJ (by decide) (Nat.le_of_ble_eq_true rfl) (fun p e s m args below meth c C hr hk => p_X10_restore hJ C hr hk  h)

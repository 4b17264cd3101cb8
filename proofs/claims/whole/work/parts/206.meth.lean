/-! X6_holds -/
def f_X6_holds_b30 (K : Int32 → za_M → Prop) (M : za_M) : Prop :=
  K 0 M
def f_X6_holds (i0 : Nat) (x1 : Int32) (x2 : Int32) (M : za_M) (K : Int32 → za_M → Prop) : Prop :=
  if x1 < 0 then (f_X6_holds_b30 K M) else (if x2 < 0 then (f_X6_holds_b30 K M) else (if (M.1 (9, 0, i0) 2) < x2 then (f_X6_holds_b30 K M) else (if ((M.1 (9, 0, i0) 2) - x2) < x1 then (f_X6_holds_b30 K M) else (K 1 M))))
section
variable {p : Program} {l : Launch} {e : Env} {s : State} {m : MethodId} {args : Array Value} {below : List Frame} {meth : Method} {c : Code} {g : za_L → Nat} {D : va_G} {cy : Nat → ClassId} {K : Int32 → za_M → Prop}
set_option maxRecDepth 100000 in
set_option maxHeartbeats 4000000 in
theorem p_X6_holds_b30 (hJ : za_J g) (C : za_C p s m args c cX6_holds 3 RX6 g D cy) (hr : meth.sig.returnType = (some .boolean)) (hk : meth.locks = false) {M : za_M} (h : f_X6_holds_b30 K M) : zt p l e (za_rm 1 64) s m args below meth c 0 0 (MQ below (za_Qi g D cy K) args s 0 0 (za_A g)) g D cy 3 M 30 [] [] := by
  unfold f_X6_holds_b30 at h
  refine zt_iconst C (v := 0) dX6_holds_30 zk_i0 ?_
  exact zt_ret C hr hk rfl dX6_holds_31 h
set_option maxRecDepth 100000 in
set_option maxHeartbeats 4000000 in
theorem p_X6_holds (hJ : za_J g) (C : za_C p s m args c cX6_holds 3 RX6 g D cy) (hr : meth.sig.returnType = (some .boolean)) (hk : meth.locks = false) {i0 : Nat} (hi0 : i0 < 4) {x1 : Int32} {x2 : Int32} {M : za_M} (h : f_X6_holds i0 x1 x2 M K) : zt p l e (za_rm 1 64) s m args below meth c 0 0 (MQ below (za_Qi g D cy K) args s 0 0 (za_A g)) g D cy 3 M 0 [(0, .ref (g (9, 0, i0))), (1, .int x1), (2, .int x2)] [] := by
  unfold f_X6_holds at h
  refine zt_iload_n C 1 dX6_holds_0 rfl rfl ?_
  refine zt_if_lt C 30 dX6_holds_1 (by decide) (fun q1 => ?_) (fun q1 => ?_)
  · replace h := za_ifp h q1
    refine zt_sub [] (lv' := []) rfl ?_
    exact p_X6_holds_b30 hJ C hr hk  h
  · replace h := za_ifn h q1
    refine zt_iload_n C 2 dX6_holds_4 rfl rfl ?_
    refine zt_if_lt C 30 dX6_holds_5 (by decide) (fun q2 => ?_) (fun q2 => ?_)
    · replace h := za_ifp h q2
      refine zt_sub [] (lv' := []) rfl ?_
      exact p_X6_holds_b30 hJ C hr hk  h
    · replace h := za_ifn h q2
      refine zt_iload_n C 2 dX6_holds_8 rfl rfl ?_
      refine zt_aload_n C 0 dX6_holds_9 rfl rfl ?_
      refine zt_get C (za_mem (j := 9) rfl (by decide) hi0) pf_X6_23 (za_E_9 g cy M 0 i0) rfl dX6_holds_10 ?_
      refine zt_icmp_gt C 30 dX6_holds_13 (by decide) (fun q3 => ?_) (fun q3 => ?_)
      · replace h := za_ifp h q3
        refine zt_sub [] (lv' := []) rfl ?_
        exact p_X6_holds_b30 hJ C hr hk  h
      · replace h := za_ifn h q3
        refine zt_iload_n C 1 dX6_holds_16 rfl rfl ?_
        refine zt_aload_n C 0 dX6_holds_17 rfl rfl ?_
        refine zt_get C (za_mem (j := 9) rfl (by decide) hi0) pf_X6_23 (za_E_9 g cy M 0 i0) rfl dX6_holds_18 ?_
        refine zt_iload_n C 2 dX6_holds_21 rfl rfl ?_
        refine zt_isub C dX6_holds_22 ?_
        refine zt_icmp_gt C 30 dX6_holds_23 (by decide) (fun q4 => ?_) (fun q4 => ?_)
        · replace h := za_ifp h q4
          refine zt_sub [] (lv' := []) rfl ?_
          exact p_X6_holds_b30 hJ C hr hk  h
        · replace h := za_ifn h q4
          refine zt_iconst C (v := 1) dX6_holds_26 zk_i1 ?_
          refine zt_goto C 31 dX6_holds_27 (by decide) ?_
          exact zt_ret C hr hk rfl dX6_holds_31 h
end
theorem m_X6_holds {l : Launch} {g : za_L → Nat} {D : va_G} {cy : Nat → ClassId} (hJ : za_J g)  {i0 : Nat} (hi0 : i0 < 4) {x1 : Int32} {x2 : Int32} {M : za_M} {K : Int32 → za_M → Prop} (h : f_X6_holds i0 x1 x2 M K) : za_Mi l g D cy yX6_holds cX6_holds 3 (some .boolean) 1 64 [.ref (g (9, 0, i0)), .int x1, .int x2] M K := za_openi hJ (by decide) (Nat.le_of_ble_eq_true rfl) (fun p e s m args below meth c C hr hk => p_X6_holds hJ C hr hk hi0 h)
/-! X6_write -/
def f_X6_write (i0 : Nat) (x1 : Int32) (x2 : Int32) (M : za_M) (K : za_M → Prop) : Prop :=
  if (M.1 (9, 0, i0) 1) = 8 then (za_let (x2.toInt8.toInt32) fun y11 => vp_in x1 40 ∧ (za_let (za_up M (23, 0, i0) x1.toNatClampNeg y11) fun M14 => K M14)) else (if (M.1 (9, 0, i0) 1) = 16 then (za_let (x2.toInt16.toInt32) fun y6 => vp_in x1 40 ∧ (za_let (za_up M (23, 0, i0) x1.toNatClampNeg y6) fun M9 => K M9)) else (vp_in x1 40 ∧ (za_let (za_up M (23, 0, i0) x1.toNatClampNeg x2) fun M4 => K M4)))
section
variable {p : Program} {l : Launch} {e : Env} {s : State} {m : MethodId} {args : Array Value} {below : List Frame} {meth : Method} {c : Code} {g : za_L → Nat} {D : va_G} {cy : Nat → ClassId} {K : za_M → Prop}
set_option maxRecDepth 100000 in
set_option maxHeartbeats 4000000 in
theorem p_X6_write (hJ : za_J g) (C : za_C p s m args c cX6_write 3 RX6 g D cy) (hr : meth.sig.returnType = none) (hk : meth.locks = false) {i0 : Nat} (hi0 : i0 < 4) {x1 : Int32} {x2 : Int32} {M : za_M} (h : f_X6_write i0 x1 x2 M K) : zt p l e (za_rm 1 64) s m args below meth c 0 0 (MQ below (za_Qv g D cy K) args s 0 0 (za_A g)) g D cy 3 M 0 [(0, .ref (g (9, 0, i0))), (1, .int x1), (2, .int x2)] [] := by
  unfold f_X6_write at h
  refine zt_aload_n C 0 dX6_write_0 rfl rfl ?_
  refine zt_get C (za_mem (j := 9) rfl (by decide) hi0) pf_X6_9 (za_E_9 g cy M 0 i0) rfl dX6_write_1 ?_
  refine zt_iload_n C 1 dX6_write_4 rfl rfl ?_
  refine zt_aload_n C 0 dX6_write_5 rfl rfl ?_
  refine zt_get C (za_mem (j := 9) rfl (by decide) hi0) pf_X6_15 (za_E_9 g cy M 0 i0) rfl dX6_write_6 ?_
  refine zt_bipush C (v := 8) dX6_write_9 zk_b8 ?_
  refine zt_icmp_ne C 19 dX6_write_11 (by decide) (fun q1 => ?_) (fun q1 => ?_)
  · replace h := za_ifn h q1
    refine zt_aload_n C 0 dX6_write_19 rfl rfl ?_
    refine zt_get C (za_mem (j := 9) rfl (by decide) hi0) pf_X6_15 (za_E_9 g cy M 0 i0) rfl dX6_write_20 ?_
    refine zt_bipush C (v := 16) dX6_write_23 zk_b16 ?_
    refine zt_icmp_ne C 33 dX6_write_25 (by decide) (fun q2 => ?_) (fun q2 => ?_)
    · replace h := za_ifn h q2
      refine zt_iload_n C 2 dX6_write_33 rfl rfl ?_
      obtain ⟨g3, h⟩ := h
      refine zt_iast C (za_mem (j := 23) rfl (by decide) hi0) (fun W9 => za_E_23 g cy W9 0 i0) g3 dX6_write_34 ?_
      refine zt_topM (fun M4 e5 => ?_)
      replace h := za_use h e5
      exact zt_vret C hr hk dX6_write_35 h
    · replace h := za_ifp h q2
      refine zt_iload_n C 2 dX6_write_28 rfl rfl ?_
      refine zt_i2s C dX6_write_29 ?_
      refine zt_goto C 34 dX6_write_30 (by decide) ?_
      refine zt_topi (fun y6 e7 => ?_)
      replace h := za_use h e7
      obtain ⟨g8, h⟩ := h
      refine zt_iast C (za_mem (j := 23) rfl (by decide) hi0) (fun W9 => za_E_23 g cy W9 0 i0) g8 dX6_write_34 ?_
      refine zt_topM (fun M9 e10 => ?_)
      replace h := za_use h e10
      exact zt_vret C hr hk dX6_write_35 h
  · replace h := za_ifp h q1
    refine zt_iload_n C 2 dX6_write_14 rfl rfl ?_
    refine zt_i2b C dX6_write_15 ?_
    refine zt_goto C 34 dX6_write_16 (by decide) ?_
    refine zt_topi (fun y11 e12 => ?_)
    replace h := za_use h e12
    obtain ⟨g13, h⟩ := h
    refine zt_iast C (za_mem (j := 23) rfl (by decide) hi0) (fun W9 => za_E_23 g cy W9 0 i0) g13 dX6_write_34 ?_
    refine zt_topM (fun M14 e15 => ?_)
    replace h := za_use h e15
    exact zt_vret C hr hk dX6_write_35 h
end
theorem m_X6_write {l : Launch} {g : za_L → Nat} {D : va_G} {cy : Nat → ClassId} (hJ : za_J g)  {i0 : Nat} (hi0 : i0 < 4) {x1 : Int32} {x2 : Int32} {M : za_M} {K : za_M → Prop} (h : f_X6_write i0 x1 x2 M K) : za_Mv l g D cy yX6_write cX6_write 3 none 1 64 [.ref (g (9, 0, i0)), .int x1, .int x2] M K := za_openv hJ (by decide) (Nat.le_of_ble_eq_true rfl) (fun p e s m args below meth c C hr hk => p_X6_write hJ C hr hk hi0 h)
/-! X7_copy -/
def f_X7_copy_b13 (K : za_M → Prop) (c0 : Nat) (c1 : Nat) (L13 : Int32 → za_M → Prop) (x2 : Int32) (M : za_M) : Prop :=
  if 2 ≤ x2 then (za_cok 0 0 50 50 50 ∧ (za_let (za_uf M (15, c0, 0) (va_cpy (M.1 (15, c1, 0)) (M.1 (15, c0, 0)) (Int32.toNatClampNeg 0) (Int32.toNatClampNeg 0) (Int32.toNatClampNeg 50))) fun M3 => za_cok 0 0 20 20 20 ∧ (za_let (za_uf M3 (16, c0, 0) (va_cpy (M3.1 (16, c1, 0)) (M3.1 (16, c0, 0)) (Int32.toNatClampNeg 0) (Int32.toNatClampNeg 0) (Int32.toNatClampNeg 20))) fun M6 => za_let (M6.1 (1, c1, 0) 4) fun y8 => za_let (za_up M6 (1, c0, 0) 4 y8) fun M10 => za_let (M10.1 (1, c1, 0) 5) fun y12 => za_let (za_up M10 (1, c0, 0) 5 y12) fun M14 => za_let (M14.1 (1, c1, 0) 6) fun y16 => za_let (za_up M14 (1, c0, 0) 6 y16) fun M18 => K M18))) else (vp_in x2 2 ∧ (vp_in x2 2 ∧ (vp_in x2 2 ∧ (f_X2_take c0 x2.toNatClampNeg (17, c1, x2.toNatClampNeg) (M.1 (6, c1, x2.toNatClampNeg) 3) M (fun M23 => L13 (x2 + 1) M23)))))
def f_X7_copy (c0 : Nat) (c1 : Nat) (M : za_M) (K : za_M → Prop) : Prop :=
  f_X1_copy c0 c1 M (fun M25 => ∃ n, za_lp1 (f_X7_copy_b13 K c0 c1) n 0 M25)
section
variable {p : Program} {l : Launch} {e : Env} {s : State} {m : MethodId} {args : Array Value} {below : List Frame} {meth : Method} {c : Code} {g : za_L → Nat} {D : va_G} {cy : Nat → ClassId} {K : za_M → Prop}
set_option maxRecDepth 100000 in
set_option maxHeartbeats 4000000 in
theorem p_X7_copy_b13 (hJ : za_J g) (C : za_C p s m args c cX7_copy 3 RX7 g D cy) (hr : meth.sig.returnType = none) (hk : meth.locks = false) {c0 : Nat} (hc0 : c0 < 2) {c1 : Nat} (hc1 : c1 < 2) {L13 : Int32 → za_M → Prop} (hL13 : ∀ (x2 : Int32) (M : za_M), L13 x2 M → zt p l e (za_rm 3 107) s m args below meth c 0 0 (MQ below (za_Qv g D cy K) args s 0 0 (za_A g)) g D cy 3 M 13 [(0, .ref (g (1, c0, 0))), (1, .ref (g (1, c1, 0))), (2, .int x2)] []) : ∀ (x2 : Int32) (M : za_M), f_X7_copy_b13 K c0 c1 L13 x2 M → zt p l e (za_rm 3 107) s m args below meth c 0 0 (MQ below (za_Qv g D cy K) args s 0 0 (za_A g)) g D cy 3 M 13 [(0, .ref (g (1, c0, 0))), (1, .ref (g (1, c1, 0))), (2, .int x2)] [] := by
  intro x2 M h
  unfold f_X7_copy_b13 at h
  refine zt_iload_n C 2 dX7_copy_13 rfl rfl ?_
  refine zt_iconst C (v := 2) dX7_copy_14 zk_i2 ?_
  refine zt_icmp_ge C 51 dX7_copy_15 (by decide) (fun q1 => ?_) (fun q1 => ?_)
  · replace h := za_ifp h q1
    refine zt_aload_n C 1 dX7_copy_51 rfl rfl ?_
    refine zt_get C (za_mem (j := 1) rfl hc1 (by decide)) pf_X7_24 (za_E_1 g cy M c1 0) rfl dX7_copy_52 ?_
    refine zt_iconst C (v := 0) dX7_copy_55 zk_i0 ?_
    refine zt_aload_n C 0 dX7_copy_56 rfl rfl ?_
    refine zt_get C (za_mem (j := 1) rfl hc0 (by decide)) pf_X7_24 (za_E_1 g cy M c0 0) rfl dX7_copy_57 ?_
    refine zt_iconst C (v := 0) dX7_copy_60 zk_i0 ?_
    refine zt_bipush C (v := 50) dX7_copy_61 zk_b50 ?_
    obtain ⟨g2, h⟩ := h
    refine zt_copy C (za_mem (j := 15) rfl hc1 (by decide)) (za_mem (j := 15) rfl hc0 (by decide)) (fun W9 => za_E_15 g cy W9 c1 0) (fun W9 => za_E_15 g cy W9 c0 0) g2 w_856 w_485 w_484 w_86 (Nat.le_of_ble_eq_true rfl) (Nat.le_of_ble_eq_true rfl) dX7_copy_63 ?_
    refine zt_topM (fun M3 e4 => ?_)
    replace h := za_use h e4
    refine zt_aload_n C 1 dX7_copy_66 rfl rfl ?_
    refine zt_get C (za_mem (j := 1) rfl hc1 (by decide)) pf_X7_28 (za_E_1 g cy M3 c1 0) rfl dX7_copy_67 ?_
    refine zt_iconst C (v := 0) dX7_copy_70 zk_i0 ?_
    refine zt_aload_n C 0 dX7_copy_71 rfl rfl ?_
    refine zt_get C (za_mem (j := 1) rfl hc0 (by decide)) pf_X7_28 (za_E_1 g cy M3 c0 0) rfl dX7_copy_72 ?_
    refine zt_iconst C (v := 0) dX7_copy_75 zk_i0 ?_
    refine zt_bipush C (v := 20) dX7_copy_76 zk_b20 ?_
    obtain ⟨g5, h⟩ := h
    refine zt_copy C (za_mem (j := 16) rfl hc1 (by decide)) (za_mem (j := 16) rfl hc0 (by decide)) (fun W9 => za_E_16 g cy W9 c1 0) (fun W9 => za_E_16 g cy W9 c0 0) g5 w_856 w_485 w_484 w_86 (Nat.le_of_ble_eq_true rfl) (Nat.le_of_ble_eq_true rfl) dX7_copy_78 ?_
    refine zt_topM (fun M6 e7 => ?_)
    replace h := za_use h e7
    refine zt_aload_n C 0 dX7_copy_81 rfl rfl ?_
    refine zt_aload_n C 1 dX7_copy_82 rfl rfl ?_
    refine zt_get C (za_mem (j := 1) rfl hc1 (by decide)) pf_X7_58 (za_E_1 g cy M6 c1 0) rfl dX7_copy_83 ?_
    refine zt_topi (fun y8 e9 => ?_)
    replace h := za_use h e9
    refine zt_put C (za_mem (j := 1) rfl hc0 (by decide)) pf_X7_58 pt_X7_4 rfl rfl (za_E_1 g cy M6 c0 0) rfl (Nat.le_of_ble_eq_true rfl) dX7_copy_86 ?_
    refine zt_topM (fun M10 e11 => ?_)
    replace h := za_use h e11
    refine zt_aload_n C 0 dX7_copy_89 rfl rfl ?_
    refine zt_aload_n C 1 dX7_copy_90 rfl rfl ?_
    refine zt_get C (za_mem (j := 1) rfl hc1 (by decide)) pf_X7_61 (za_E_1 g cy M10 c1 0) rfl dX7_copy_91 ?_
    refine zt_topi (fun y12 e13 => ?_)
    replace h := za_use h e13
    refine zt_put C (za_mem (j := 1) rfl hc0 (by decide)) pf_X7_61 pt_X7_5 rfl rfl (za_E_1 g cy M10 c0 0) rfl (Nat.le_of_ble_eq_true rfl) dX7_copy_94 ?_
    refine zt_topM (fun M14 e15 => ?_)
    replace h := za_use h e15
    refine zt_aload_n C 0 dX7_copy_97 rfl rfl ?_
    refine zt_aload_n C 1 dX7_copy_98 rfl rfl ?_
    refine zt_get C (za_mem (j := 1) rfl hc1 (by decide)) pf_X7_31 (za_E_1 g cy M14 c1 0) rfl dX7_copy_99 ?_
    refine zt_topi (fun y16 e17 => ?_)
    replace h := za_use h e17
    refine zt_put C (za_mem (j := 1) rfl hc0 (by decide)) pf_X7_31 pt_X7_6 rfl rfl (za_E_1 g cy M14 c0 0) rfl (Nat.le_of_ble_eq_true rfl) dX7_copy_102 ?_
    refine zt_topM (fun M18 e19 => ?_)
    replace h := za_use h e19
    exact zt_vret C hr hk dX7_copy_105 h
  · replace h := za_ifn h q1
    refine zt_aload_n C 0 dX7_copy_18 rfl rfl ?_
    refine zt_get C (za_mem (j := 1) rfl hc0 (by decide)) pf_X7_20 (za_E_1 g cy M c0 0) rfl dX7_copy_19 ?_
    refine zt_iload_n C 2 dX7_copy_22 rfl rfl ?_
    obtain ⟨g20, h⟩ := h
    refine zt_aald C (za_mem (j := 14) rfl hc0 (by decide)) (za_E_14 g cy M c0 0) rfl g20 dX7_copy_23 ?_
    refine zt_aload_n C 1 dX7_copy_24 rfl rfl ?_
    refine zt_get C (za_mem (j := 1) rfl hc1 (by decide)) pf_X7_20 (za_E_1 g cy M c1 0) rfl dX7_copy_25 ?_
    refine zt_iload_n C 2 dX7_copy_28 rfl rfl ?_
    obtain ⟨g21, h⟩ := h
    refine zt_aald C (za_mem (j := 14) rfl hc1 (by decide)) (za_E_14 g cy M c1 0) rfl g21 dX7_copy_29 ?_
    refine zt_get C (za_mem (j := 6) rfl hc1 (za_lt g21)) pf_X7_42 (za_E_6 g cy M c1 x2.toNatClampNeg) rfl dX7_copy_30 ?_
    refine zt_aload_n C 1 dX7_copy_33 rfl rfl ?_
    refine zt_get C (za_mem (j := 1) rfl hc1 (by decide)) pf_X7_20 (za_E_1 g cy M c1 0) rfl dX7_copy_34 ?_
    refine zt_iload_n C 2 dX7_copy_37 rfl rfl ?_
    obtain ⟨g22, h⟩ := h
    refine zt_aald C (za_mem (j := 14) rfl hc1 (by decide)) (za_E_14 g cy M c1 0) rfl g22 dX7_copy_38 ?_
    refine zt_get C (za_mem (j := 6) rfl hc1 (za_lt g22)) pf_X7_45 (za_E_6 g cy M c1 x2.toNatClampNeg) rfl dX7_copy_39 ?_
    refine zt_cVv C [.ref (g (17, c1, x2.toNatClampNeg)), .int (M.1 (6, c1, x2.toNatClampNeg) 3)] (m_X2_take hJ hc0 (za_lt g20) (za_I_of (za_mem (j := 17) rfl hc1 (za_lt g21)) (fun g9 cy9 W9 => za_E_17 g9 cy9 W9 c1 x2.toNatClampNeg)) h) (za_mem (j := 6) rfl hc0 (za_lt g20)) (za_E_6 g cy M c0 x2.toNatClampNeg) rfl py_X2_take pv_X7_48 (Nat.le_of_ble_eq_true rfl) ⟨Nat.le_of_ble_eq_true rfl, Nat.le_of_ble_eq_true rfl⟩ ⟨Nat.zero_le _, Nat.zero_le _⟩ dX7_copy_42 rfl (fun M23 h => ?_)
    refine zt_iinc C (v := x2 + 1) 2 [(2, .int (x2 + 1)), (0, .ref (g (1, c0, 0))), (1, .ref (g (1, c1, 0)))] dX7_copy_45 rfl (zk_n1 _) (by decide) rfl ?_
    refine zt_goto C 13 dX7_copy_48 (by decide) ?_
    refine zt_sub [1, 2, 0] (lv' := [(0, .ref (g (1, c0, 0))), (1, .ref (g (1, c1, 0))), (2, .int (x2 + 1))]) rfl ?_
    exact hL13 _ _ h
theorem p_X7_copy_b13_in (hJ : za_J g) (C : za_C p s m args c cX7_copy 3 RX7 g D cy) (hr : meth.sig.returnType = none) (hk : meth.locks = false) {c0 : Nat} (hc0 : c0 < 2) {c1 : Nat} (hc1 : c1 < 2) {n : Nat} {x2 : Int32} {M : za_M} (h : za_lp1 (f_X7_copy_b13 K c0 c1) n x2 M) : zt p l e (za_rm 3 107) s m args below meth c 0 0 (MQ below (za_Qv g D cy K) args s 0 0 (za_A g)) g D cy 3 M 13 [(0, .ref (g (1, c0, 0))), (1, .ref (g (1, c1, 0))), (2, .int x2)] [] := za_lp1_run (Z := fun x2 M => zt p l e (za_rm 3 107) s m args below meth c 0 0 (MQ below (za_Qv g D cy K) args s 0 0 (za_A g)) g D cy 3 M 13 [(0, .ref (g (1, c0, 0))), (1, .ref (g (1, c1, 0))), (2, .int x2)] []) (fun L hL => p_X7_copy_b13 hJ C hr hk hc0 hc1 hL) n x2 M h
set_option maxRecDepth 100000 in
set_option maxHeartbeats 4000000 in
theorem p_X7_copy (hJ : za_J g) (C : za_C p s m args c cX7_copy 3 RX7 g D cy) (hr : meth.sig.returnType = none) (hk : meth.locks = false) {c0 : Nat} (hc0 : c0 < 2) {c1 : Nat} (hc1 : c1 < 2) {M : za_M} (h : f_X7_copy c0 c1 M K) : zt p l e (za_rm 3 107) s m args below meth c 0 0 (MQ below (za_Qv g D cy K) args s 0 0 (za_A g)) g D cy 3 M 0 [(0, .ref (g (1, c0, 0))), (1, .ref (g (1, c1, 0)))] [] := by
  unfold f_X7_copy at h
  refine zt_aload_n C 0 dX7_copy_0 rfl rfl ?_
  refine zt_get C (za_mem (j := 1) rfl hc0 (by decide)) pf_X7_12 (za_E_1 g cy M c0 0) rfl dX7_copy_1 ?_
  refine zt_aload_n C 1 dX7_copy_4 rfl rfl ?_
  refine zt_get C (za_mem (j := 1) rfl hc1 (by decide)) pf_X7_12 (za_E_1 g cy M c1 0) rfl dX7_copy_5 ?_
  refine zt_cVv C [.ref (g (2, c1, 0))] (m_X1_copy hJ (Nat.lt_succ_of_lt hc0) (Nat.lt_succ_of_lt hc1) h) (za_mem (j := 2) rfl (Nat.lt_succ_of_lt hc0) (by decide)) (za_E_2 g cy M c0 0) rfl py_X1_copy pv_X7_38 (Nat.le_of_ble_eq_true rfl) ⟨Nat.le_of_ble_eq_true rfl, Nat.le_of_ble_eq_true rfl⟩ ⟨Nat.zero_le _, Nat.zero_le _⟩ dX7_copy_8 rfl (fun M25 h => ?_)
  refine zt_iconst C (v := 0) dX7_copy_11 zk_i0 ?_
  refine zt_istore_n C [(2, .int 0), (0, .ref (g (1, c0, 0))), (1, .ref (g (1, c1, 0)))] dX7_copy_12 rfl (by decide) rfl ?_
  refine zt_sub [1, 2, 0] (lv' := [(0, .ref (g (1, c0, 0))), (1, .ref (g (1, c1, 0))), (2, .int 0)]) rfl ?_
  obtain ⟨n, h⟩ := h
  exact p_X7_copy_b13_in hJ C hr hk hc0 hc1 h
end
theorem m_X7_copy {l : Launch} {g : za_L → Nat} {D : va_G} {cy : Nat → ClassId} (hJ : za_J g)  {c0 : Nat} (hc0 : c0 < 2) {c1 : Nat} (hc1 : c1 < 2) {M : za_M} {K : za_M → Prop} (h : f_X7_copy c0 c1 M K) : za_Mv l g D cy yX7_copy cX7_copy 3 none 3 107 [.ref (g (1, c0, 0)), .ref (g (1, c1, 0))] M K := za_openv hJ (by decide) (Nat.le_of_ble_eq_true rfl) (fun p e s m args below meth c C hr hk => p_X7_copy hJ C hr hk hc0 hc1 h)
/-! X8_note -/
def f_X8_note (x1 : Int32) (M : za_M) (K : za_M → Prop) : Prop :=
  if 40 ≤ (M.1 (8, 0, 0) 1) then (K M) else (vp_in (M.1 (8, 0, 0) 1) 40 ∧ (za_let (za_up M (21, 0, 0) (M.1 (8, 0, 0) 1).toNatClampNeg x1) fun M3 => za_let ((M3.1 (8, 0, 0) 1) + 1) fun y5 => za_let (za_up M3 (8, 0, 0) 1 y5) fun M7 => K M7))
section
variable {p : Program} {l : Launch} {e : Env} {s : State} {m : MethodId} {args : Array Value} {below : List Frame} {meth : Method} {c : Code} {g : za_L → Nat} {D : va_G} {cy : Nat → ClassId} {K : za_M → Prop}
set_option maxRecDepth 100000 in
set_option maxHeartbeats 4000000 in
theorem p_X8_note (hJ : za_J g) (C : za_C p s m args c cX8_note 2 RX8 g D cy) (hr : meth.sig.returnType = none) (hk : meth.locks = false) {x1 : Int32} {M : za_M} (h : f_X8_note x1 M K) : zt p l e (za_rm 1 64) s m args below meth c 0 0 (MQ below (za_Qv g D cy K) args s 0 0 (za_A g)) g D cy 2 M 0 [(0, .ref (g (8, 0, 0))), (1, .int x1)] [] := by
  unfold f_X8_note at h
  refine zt_aload_n C 0 dX8_note_0 rfl rfl ?_
  refine zt_get C (za_mem (j := 8) rfl (by decide) (by decide)) pf_X8_29 (za_E_8 g cy M 0 0) rfl dX8_note_1 ?_
  refine zt_bipush C (v := 40) dX8_note_4 zk_b40 ?_
  refine zt_icmp_ge C 29 dX8_note_6 (by decide) (fun q1 => ?_) (fun q1 => ?_)
  · replace h := za_ifp h q1
    exact zt_vret C hr hk dX8_note_29 h
  · replace h := za_ifn h q1
    refine zt_aload_n C 0 dX8_note_9 rfl rfl ?_
    refine zt_get C (za_mem (j := 8) rfl (by decide) (by decide)) pf_X8_9 (za_E_8 g cy M 0 0) rfl dX8_note_10 ?_
    refine zt_aload_n C 0 dX8_note_13 rfl rfl ?_
    refine zt_get C (za_mem (j := 8) rfl (by decide) (by decide)) pf_X8_29 (za_E_8 g cy M 0 0) rfl dX8_note_14 ?_
    refine zt_iload_n C 1 dX8_note_17 rfl rfl ?_
    obtain ⟨g2, h⟩ := h
    refine zt_iast C (za_mem (j := 21) rfl (by decide) (by decide)) (fun W9 => za_E_21 g cy W9 0 0) g2 dX8_note_18 ?_
    refine zt_topM (fun M3 e4 => ?_)
    replace h := za_use h e4
    refine zt_aload_n C 0 dX8_note_19 rfl rfl ?_
    refine zt_dup C dX8_note_20 rfl ?_
    refine zt_get C (za_mem (j := 8) rfl (by decide) (by decide)) pf_X8_29 (za_E_8 g cy M3 0 0) rfl dX8_note_21 ?_
    refine zt_iconst C (v := 1) dX8_note_24 zk_i1 ?_
    refine zt_iadd C dX8_note_25 ?_
    refine zt_topi (fun y5 e6 => ?_)
    replace h := za_use h e6
    refine zt_put C (za_mem (j := 8) rfl (by decide) (by decide)) pf_X8_29 pt_X8_1 rfl rfl (za_E_8 g cy M3 0 0) rfl (Nat.le_of_ble_eq_true rfl) dX8_note_26 ?_
    refine zt_topM (fun M7 e8 => ?_)
    replace h := za_use h e8
    exact zt_vret C hr hk dX8_note_29 h
end
theorem m_X8_note {l : Launch} {g : za_L → Nat} {D : va_G} {cy : Nat → ClassId} (hJ : za_J g)  {x1 : Int32} {M : za_M} {K : za_M → Prop} (h : f_X8_note x1 M K) : za_Mv l g D cy yX8_note cX8_note 2 none 1 64 [.ref (g (8, 0, 0)), .int x1] M K := za_openv hJ (by decide) (Nat.le_of_ble_eq_true rfl) (fun p e s m args below meth c C hr hk => p_X8_note hJ C hr hk  h)

/-! X1_growHedges -/
def f_X1_growHedges_b45 (K : za_M → Prop) (L2 : Int32 → za_M → Prop) (c0 : Nat) (x1 : Int32) (M : za_M) : Prop :=
  L2 (x1 + 1) M
def f_X1_growHedges_b2 (K : za_M → Prop) (c0 : Nat) (L2 : Int32 → za_M → Prop) (x1 : Int32) (M : za_M) : Prop :=
  if (M.1 (2, c0, 0) 3) ≤ x1 then (K M) else (vp_in x1 5 ∧ (f_X1_hasPotter c0 (M.1 (3, c0, x1.toNatClampNeg) 3) M (fun r4 M3 => if r4 = 0 then (f_X1_growHedges_b45 K L2 c0 x1 M3) else (vp_in (M3.1 (3, c0, x1.toNatClampNeg) 3) 4 ∧ (f_X4_change c0 ((M3.1 (3, c0, x1.toNatClampNeg) 3).toNatClampNeg) x1 (M3.1 (3, c0, x1.toNatClampNeg) 2) M3 (fun M7 => f_X1_growHedges_b45 K L2 c0 x1 M7))))))
def f_X1_growHedges (c0 : Nat) (M : za_M) (K : za_M → Prop) : Prop :=
  ∃ n, za_lp1 (f_X1_growHedges_b2 K c0) n 0 M
section
variable {p : Program} {l : Launch} {e : Env} {s : State} {m : MethodId} {args : Array Value} {below : List Frame} {meth : Method} {c : Code} {g : za_L → Nat} {D : va_G} {cy : Nat → ClassId} {K : za_M → Prop}
set_option maxRecDepth 100000 in
set_option maxHeartbeats 4000000 in
theorem p_X1_growHedges_b45 (hJ : za_J g) (C : za_C p s m args c cX1_growHedges 3 RX1 g D cy) (hr : meth.sig.returnType = none) (hk : meth.locks = false) {c0 : Nat} (hc0 : c0 < 3) {x1 : Int32} {L2 : Int32 → za_M → Prop} (hL2 : ∀ (x1 : Int32) (M : za_M), L2 x1 M → zt p l e (za_rm 3 107) s m args below meth c 0 0 (MQ below (za_Qv g D cy K) args s 0 0 (za_A g)) g D cy 3 M 2 [(0, .ref (g (2, c0, 0))), (1, .int x1)] []) {M : za_M} (h : f_X1_growHedges_b45 K L2 c0 x1 M) : zt p l e (za_rm 3 107) s m args below meth c 0 0 (MQ below (za_Qv g D cy K) args s 0 0 (za_A g)) g D cy 3 M 45 [(0, .ref (g (2, c0, 0))), (1, .int x1)] [] := by
  unfold f_X1_growHedges_b45 at h
  refine zt_iinc C (v := x1 + 1) 1 [(1, .int (x1 + 1)), (0, .ref (g (2, c0, 0)))] dX1_growHedges_45 rfl (zk_n1 _) (by decide) rfl ?_
  refine zt_goto C 2 dX1_growHedges_48 (by decide) ?_
  refine zt_sub [1, 0] (lv' := [(0, .ref (g (2, c0, 0))), (1, .int (x1 + 1))]) rfl ?_
  exact hL2 _ _ h
set_option maxRecDepth 100000 in
set_option maxHeartbeats 4000000 in
theorem p_X1_growHedges_b2 (hJ : za_J g) (C : za_C p s m args c cX1_growHedges 3 RX1 g D cy) (hr : meth.sig.returnType = none) (hk : meth.locks = false) {c0 : Nat} (hc0 : c0 < 3) {L2 : Int32 → za_M → Prop} (hL2 : ∀ (x1 : Int32) (M : za_M), L2 x1 M → zt p l e (za_rm 3 107) s m args below meth c 0 0 (MQ below (za_Qv g D cy K) args s 0 0 (za_A g)) g D cy 3 M 2 [(0, .ref (g (2, c0, 0))), (1, .int x1)] []) : ∀ (x1 : Int32) (M : za_M), f_X1_growHedges_b2 K c0 L2 x1 M → zt p l e (za_rm 3 107) s m args below meth c 0 0 (MQ below (za_Qv g D cy K) args s 0 0 (za_A g)) g D cy 3 M 2 [(0, .ref (g (2, c0, 0))), (1, .int x1)] [] := by
  intro x1 M h
  unfold f_X1_growHedges_b2 at h
  refine zt_iload_n C 1 dX1_growHedges_2 rfl rfl ?_
  refine zt_aload_n C 0 dX1_growHedges_3 rfl rfl ?_
  refine zt_get C (za_mem (j := 2) rfl hc0 (by decide)) pf_X1_32 (za_E_2 g cy M c0 0) rfl dX1_growHedges_4 ?_
  refine zt_icmp_ge C 51 dX1_growHedges_7 (by decide) (fun q1 => ?_) (fun q1 => ?_)
  · replace h := za_ifp h q1
    exact zt_vret C hr hk dX1_growHedges_51 h
  · replace h := za_ifn h q1
    refine zt_aload_n C 0 dX1_growHedges_10 rfl rfl ?_
    refine zt_get C (za_mem (j := 2) rfl hc0 (by decide)) pf_X1_11 (za_E_2 g cy M c0 0) rfl dX1_growHedges_11 ?_
    refine zt_iload_n C 1 dX1_growHedges_14 rfl rfl ?_
    obtain ⟨g2, h⟩ := h
    refine zt_aald C (za_mem (j := 10) rfl hc0 (by decide)) (za_E_10 g cy M c0 0) rfl g2 dX1_growHedges_15 ?_
    refine zt_astore_n C [(2, .ref (g (3, c0, x1.toNatClampNeg))), (0, .ref (g (2, c0, 0))), (1, .int x1)] dX1_growHedges_16 rfl (by decide) rfl ?_
    refine zt_aload_n C 1 dX1_growHedges_17 rfl rfl ?_
    refine zt_aload_n C 0 dX1_growHedges_18 rfl rfl ?_
    refine zt_get C (za_mem (j := 3) rfl hc0 (za_lt g2)) pf_X1_111 (za_E_3 g cy M c0 x1.toNatClampNeg) rfl dX1_growHedges_19 ?_
    refine zt_cVi C [.int (M.1 (3, c0, x1.toNatClampNeg) 3)] (m_X1_hasPotter hJ hc0 h) (za_mem (j := 2) rfl hc0 (by decide)) (za_E_2 g cy M c0 0) rfl py_X1_hasPotter pv_X1_114 (Nat.le_of_ble_eq_true rfl) ⟨Nat.le_of_ble_eq_true rfl, Nat.le_of_ble_eq_true rfl⟩ ⟨Nat.zero_le _, Nat.zero_le _⟩ dX1_growHedges_22 rfl (fun r4 M3 h => ?_)
    refine zt_if_eq C 45 dX1_growHedges_25 (by decide) (fun q5 => ?_) (fun q5 => ?_)
    · replace h := za_ifp h q5
      refine zt_sub [1, 2] (lv' := [(0, .ref (g (2, c0, 0))), (1, .int x1)]) rfl ?_
      exact p_X1_growHedges_b45 hJ C hr hk hc0 hL2 h
    · replace h := za_ifn h q5
      refine zt_aload_n C 1 dX1_growHedges_28 rfl rfl ?_
      refine zt_get C (za_mem (j := 2) rfl hc0 (by decide)) pf_X1_19 (za_E_2 g cy M3 c0 0) rfl dX1_growHedges_29 ?_
      refine zt_aload_n C 0 dX1_growHedges_32 rfl rfl ?_
      refine zt_get C (za_mem (j := 3) rfl hc0 (za_lt g2)) pf_X1_111 (za_E_3 g cy M3 c0 x1.toNatClampNeg) rfl dX1_growHedges_33 ?_
      obtain ⟨g6, h⟩ := h
      refine zt_aald C (za_mem (j := 11) rfl hc0 (by decide)) (za_E_11 g cy M3 c0 0) rfl g6 dX1_growHedges_36 ?_
      refine zt_iload_n C 2 dX1_growHedges_37 rfl rfl ?_
      refine zt_aload_n C 0 dX1_growHedges_38 rfl rfl ?_
      refine zt_get C (za_mem (j := 3) rfl hc0 (za_lt g2)) pf_X1_118 (za_E_3 g cy M3 c0 x1.toNatClampNeg) rfl dX1_growHedges_39 ?_
      refine zt_cVv C [.int x1, .int (M3.1 (3, c0, x1.toNatClampNeg) 2)] (m_X4_change hJ hc0 (za_lt g6) h) (za_mem (j := 4) rfl hc0 (za_lt g6)) (za_E_4 g cy M3 c0 ((M3.1 (3, c0, x1.toNatClampNeg) 3).toNatClampNeg)) rfl py_X4_change pv_X1_83 (Nat.le_of_ble_eq_true rfl) ⟨Nat.le_of_ble_eq_true rfl, Nat.le_of_ble_eq_true rfl⟩ ⟨Nat.zero_le _, Nat.zero_le _⟩ dX1_growHedges_42 rfl (fun M7 h => ?_)
      refine zt_sub [1, 2] (lv' := [(0, .ref (g (2, c0, 0))), (1, .int x1)]) rfl ?_
      exact p_X1_growHedges_b45 hJ C hr hk hc0 hL2 h
theorem p_X1_growHedges_b2_in (hJ : za_J g) (C : za_C p s m args c cX1_growHedges 3 RX1 g D cy) (hr : meth.sig.returnType = none) (hk : meth.locks = false) {c0 : Nat} (hc0 : c0 < 3) {n : Nat} {x1 : Int32} {M : za_M} (h : za_lp1 (f_X1_growHedges_b2 K c0) n x1 M) : zt p l e (za_rm 3 107) s m args below meth c 0 0 (MQ below (za_Qv g D cy K) args s 0 0 (za_A g)) g D cy 3 M 2 [(0, .ref (g (2, c0, 0))), (1, .int x1)] [] := za_lp1_run (Z := fun x1 M => zt p l e (za_rm 3 107) s m args below meth c 0 0 (MQ below (za_Qv g D cy K) args s 0 0 (za_A g)) g D cy 3 M 2 [(0, .ref (g (2, c0, 0))), (1, .int x1)] []) (fun L hL => p_X1_growHedges_b2 hJ C hr hk hc0 hL) n x1 M h
set_option maxRecDepth 100000 in
set_option maxHeartbeats 4000000 in
theorem p_X1_growHedges (hJ : za_J g) (C : za_C p s m args c cX1_growHedges 3 RX1 g D cy) (hr : meth.sig.returnType = none) (hk : meth.locks = false) {c0 : Nat} (hc0 : c0 < 3) {M : za_M} (h : f_X1_growHedges c0 M K) : zt p l e (za_rm 3 107) s m args below meth c 0 0 (MQ below (za_Qv g D cy K) args s 0 0 (za_A g)) g D cy 3 M 0 [(0, .ref (g (2, c0, 0)))] [] := by
  unfold f_X1_growHedges at h
  refine zt_iconst C (v := 0) dX1_growHedges_0 zk_i0 ?_
  refine zt_istore_n C [(1, .int 0), (0, .ref (g (2, c0, 0)))] dX1_growHedges_1 rfl (by decide) rfl ?_
  refine zt_sub [1, 0] (lv' := [(0, .ref (g (2, c0, 0))), (1, .int 0)]) rfl ?_
  obtain ⟨n, h⟩ := h
  exact p_X1_growHedges_b2_in hJ C hr hk hc0 h
end
theorem m_X1_growHedges {l : Launch} {g : za_L → Nat} {D : va_G} {cy : Nat → ClassId} (hJ : za_J g)  {c0 : Nat} (hc0 : c0 < 3) {M : za_M} {K : za_M → Prop} (h : f_X1_growHedges c0 M K) : za_Mv l g D cy yX1_growHedges cX1_growHedges 3 none 3 107 [.ref (g (2, c0, 0))] M K := za_openv hJ (by decide) (Nat.le_of_ble_eq_true rfl) (fun p e s m args below meth c C hr hk => p_X1_growHedges hJ C hr hk hc0 h)
/-! X1_settleLoans -/
def f_X1_settleLoans_b74 (K : za_M → Prop) (L10 : Int32 → Int32 → za_M → Prop) (c0 : Nat) (c1 : Nat) (i1 : Nat) (x2 : Int32) (x3 : Int32) (x4 : Int32) (M : za_M) : Prop :=
  L10 x3 (x4 + 1) M
def f_X1_settleLoans_b10 (K : za_M → Prop) (c0 : Nat) (c1 : Nat) (i1 : Nat) (x2 : Int32) (L10 : Int32 → Int32 → za_M → Prop) (x3 : Int32) (x4 : Int32) (M : za_M) : Prop :=
  if x2 ≤ x4 then (K M) else (f_X1_hasLoan c0 x3 M (fun r3 M2 => if r3 = 0 then (K M2) else (vp_in x3 10 ∧ (if (M2.1 (5, c0, (M2.2 c0 x3.toNatClampNeg % 10)) 4) = (M2.1 (2, c0, 0) 6) then (vp_in x3 10 ∧ (f_X1_canGiveBack c0 c0 (M2.2 c0 x3.toNatClampNeg % 10) M2 (fun r9 M8 => if r9 = 0 then (f_X1_breakOff c0 x3 M8 (fun M11 => f_X1_settleLoans_b74 K L10 c0 c1 i1 x2 x3 x4 M11)) else (f_X1_giveBack c0 x3 c1 i1 M8 (fun r14 M13 => f_X1_settleLoans_b74 K L10 c0 c1 i1 x2 x3 x4 M13))))) else (f_X1_settleLoans_b74 K L10 c0 c1 i1 x2 (x3 + 1) x4 M2)))))
def f_X1_settleLoans (c0 : Nat) (c1 : Nat) (i1 : Nat) (M : za_M) (K : za_M → Prop) : Prop :=
  za_let (M.1 (2, c0, 0) 5) fun y15 => ∃ n, za_lp2 (f_X1_settleLoans_b10 K c0 c1 i1 y15) n 0 0 M
section
variable {p : Program} {l : Launch} {e : Env} {s : State} {m : MethodId} {args : Array Value} {below : List Frame} {meth : Method} {c : Code} {g : za_L → Nat} {D : va_G} {cy : Nat → ClassId} {K : za_M → Prop}
set_option maxRecDepth 100000 in
set_option maxHeartbeats 4000000 in
theorem p_X1_settleLoans_b74 (hJ : za_J g) (C : za_C p s m args c cX1_settleLoans 5 RX1 g D cy) (hr : meth.sig.returnType = none) (hk : meth.locks = false) {c0 : Nat} (hc0 : c0 < 3) {c1 : Nat} (hc1 : c1 < 2) {i1 : Nat} (hi1 : i1 < 2) {x2 : Int32} {x3 : Int32} {x4 : Int32} {L10 : Int32 → Int32 → za_M → Prop} (hL10 : ∀ (x3 : Int32) (x4 : Int32) (M : za_M), L10 x3 x4 M → zt p l e (za_rm 5 159) s m args below meth c 0 0 (MQ below (za_Qv g D cy K) args s 0 0 (za_A g)) g D cy 5 M 10 [(0, .ref (g (2, c0, 0))), (1, .ref (g (6, c1, i1))), (2, .int x2), (3, .int x3), (4, .int x4)] []) {M : za_M} (h : f_X1_settleLoans_b74 K L10 c0 c1 i1 x2 x3 x4 M) : zt p l e (za_rm 5 159) s m args below meth c 0 0 (MQ below (za_Qv g D cy K) args s 0 0 (za_A g)) g D cy 5 M 74 [(0, .ref (g (2, c0, 0))), (1, .ref (g (6, c1, i1))), (2, .int x2), (3, .int x3), (4, .int x4)] [] := by
  unfold f_X1_settleLoans_b74 at h
  refine zt_iinc C (v := x4 + 1) 4 [(4, .int (x4 + 1)), (0, .ref (g (2, c0, 0))), (1, .ref (g (6, c1, i1))), (2, .int x2), (3, .int x3)] dX1_settleLoans_74 rfl (zk_n1 _) (by decide) rfl ?_
  refine zt_goto C 10 dX1_settleLoans_77 (by decide) ?_
  refine zt_sub [1, 2, 3, 4, 0] (lv' := [(0, .ref (g (2, c0, 0))), (1, .ref (g (6, c1, i1))), (2, .int x2), (3, .int x3), (4, .int (x4 + 1))]) rfl ?_
  exact hL10 _ _ _ h
set_option maxRecDepth 100000 in
set_option maxHeartbeats 4000000 in
theorem p_X1_settleLoans_b10 (hJ : za_J g) (C : za_C p s m args c cX1_settleLoans 5 RX1 g D cy) (hr : meth.sig.returnType = none) (hk : meth.locks = false) {c0 : Nat} (hc0 : c0 < 3) {c1 : Nat} (hc1 : c1 < 2) {i1 : Nat} (hi1 : i1 < 2) {x2 : Int32} {L10 : Int32 → Int32 → za_M → Prop} (hL10 : ∀ (x3 : Int32) (x4 : Int32) (M : za_M), L10 x3 x4 M → zt p l e (za_rm 5 159) s m args below meth c 0 0 (MQ below (za_Qv g D cy K) args s 0 0 (za_A g)) g D cy 5 M 10 [(0, .ref (g (2, c0, 0))), (1, .ref (g (6, c1, i1))), (2, .int x2), (3, .int x3), (4, .int x4)] []) : ∀ (x3 : Int32) (x4 : Int32) (M : za_M), f_X1_settleLoans_b10 K c0 c1 i1 x2 L10 x3 x4 M → zt p l e (za_rm 5 159) s m args below meth c 0 0 (MQ below (za_Qv g D cy K) args s 0 0 (za_A g)) g D cy 5 M 10 [(0, .ref (g (2, c0, 0))), (1, .ref (g (6, c1, i1))), (2, .int x2), (3, .int x3), (4, .int x4)] [] := by
  intro x3 x4 M h
  unfold f_X1_settleLoans_b10 at h
  refine zt_iload C 4 dX1_settleLoans_10 rfl ?_
  refine zt_iload_n C 2 dX1_settleLoans_12 rfl rfl ?_
  refine zt_icmp_ge C 80 dX1_settleLoans_13 (by decide) (fun q1 => ?_) (fun q1 => ?_)
  · replace h := za_ifp h q1
    exact zt_vret C hr hk dX1_settleLoans_80 h
  · replace h := za_ifn h q1
    refine zt_aload_n C 0 dX1_settleLoans_16 rfl rfl ?_
    refine zt_iload_n C 3 dX1_settleLoans_17 rfl rfl ?_
    refine zt_cVi C [.int x3] (m_X1_hasLoan hJ hc0 h) (za_mem (j := 2) rfl hc0 (by decide)) (za_E_2 g cy M c0 0) rfl py_X1_hasLoan pv_X1_121 (Nat.le_of_ble_eq_true rfl) ⟨Nat.le_of_ble_eq_true rfl, Nat.le_of_ble_eq_true rfl⟩ ⟨Nat.zero_le _, Nat.zero_le _⟩ dX1_settleLoans_18 rfl (fun r3 M2 h => ?_)
    refine zt_if_eq C 80 dX1_settleLoans_21 (by decide) (fun q4 => ?_) (fun q4 => ?_)
    · replace h := za_ifp h q4
      exact zt_vret C hr hk dX1_settleLoans_80 h
    · replace h := za_ifn h q4
      refine zt_aload_n C 0 dX1_settleLoans_24 rfl rfl ?_
      refine zt_get C (za_mem (j := 2) rfl hc0 (by decide)) pf_X1_25 (za_E_2 g cy M2 c0 0) rfl dX1_settleLoans_25 ?_
      refine zt_iload_n C 3 dX1_settleLoans_28 rfl rfl ?_
      obtain ⟨g5, h⟩ := h
      refine zt_aald C (za_mem (j := 12) rfl hc0 (by decide)) (za_E_12 g cy M2 c0 0) rfl g5 dX1_settleLoans_29 ?_
      refine zt_get C (za_mem (j := 5) rfl hc0 (Nat.mod_lt _ (by decide))) pf_X1_80 (za_E_5 g cy M2 c0 (M2.2 c0 x3.toNatClampNeg % 10)) rfl dX1_settleLoans_30 ?_
      refine zt_aload_n C 0 dX1_settleLoans_33 rfl rfl ?_
      refine zt_get C (za_mem (j := 2) rfl hc0 (by decide)) pf_X1_42 (za_E_2 g cy M2 c0 0) rfl dX1_settleLoans_34 ?_
      refine zt_icmp_eq C 46 dX1_settleLoans_37 (by decide) (fun q6 => ?_) (fun q6 => ?_)
      · replace h := za_ifp h q6
        refine zt_aload_n C 0 dX1_settleLoans_46 rfl rfl ?_
        refine zt_aload_n C 0 dX1_settleLoans_47 rfl rfl ?_
        refine zt_get C (za_mem (j := 2) rfl hc0 (by decide)) pf_X1_25 (za_E_2 g cy M2 c0 0) rfl dX1_settleLoans_48 ?_
        refine zt_iload_n C 3 dX1_settleLoans_51 rfl rfl ?_
        obtain ⟨g7, h⟩ := h
        refine zt_aald C (za_mem (j := 12) rfl hc0 (by decide)) (za_E_12 g cy M2 c0 0) rfl g7 dX1_settleLoans_52 ?_
        refine zt_cVi C [.ref (g (5, c0, (M2.2 c0 x3.toNatClampNeg % 10)))] (m_X1_canGiveBack hJ hc0 hc0 (Nat.mod_lt _ (by decide)) h) (za_mem (j := 2) rfl hc0 (by decide)) (za_E_2 g cy M2 c0 0) rfl py_X1_canGiveBack pv_X1_124 (Nat.le_of_ble_eq_true rfl) ⟨Nat.le_of_ble_eq_true rfl, Nat.le_of_ble_eq_true rfl⟩ ⟨Nat.zero_le _, Nat.zero_le _⟩ dX1_settleLoans_53 rfl (fun r9 M8 h => ?_)
        refine zt_if_eq C 69 dX1_settleLoans_56 (by decide) (fun q10 => ?_) (fun q10 => ?_)
        · replace h := za_ifp h q10
          refine zt_aload_n C 0 dX1_settleLoans_69 rfl rfl ?_
          refine zt_iload_n C 3 dX1_settleLoans_70 rfl rfl ?_
          refine zt_cVv C [.int x3] (m_X1_breakOff hJ hc0 h) (za_mem (j := 2) rfl hc0 (by decide)) (za_E_2 g cy M8 c0 0) rfl py_X1_breakOff pv_X1_132 (Nat.le_of_ble_eq_true rfl) ⟨Nat.le_of_ble_eq_true rfl, Nat.le_of_ble_eq_true rfl⟩ ⟨Nat.zero_le _, Nat.zero_le _⟩ dX1_settleLoans_71 rfl (fun M11 h => ?_)
          exact p_X1_settleLoans_b74 hJ C hr hk hc0 hc1 hi1 hL10 h
        · replace h := za_ifn h q10
          refine zt_aload_n C 0 dX1_settleLoans_59 rfl rfl ?_
          refine zt_iload_n C 3 dX1_settleLoans_60 rfl rfl ?_
          refine zt_aload_n C 1 dX1_settleLoans_61 rfl rfl ?_
          refine zt_cVi C [.int x3, .ref (g (6, c1, i1))] (m_X1_giveBack hJ hc0 hc1 hi1 h) (za_mem (j := 2) rfl hc0 (by decide)) (za_E_2 g cy M8 c0 0) rfl py_X1_giveBack pv_X1_128 (Nat.le_of_ble_eq_true rfl) ⟨Nat.le_of_ble_eq_true rfl, Nat.le_of_ble_eq_true rfl⟩ ⟨Nat.zero_le _, Nat.zero_le _⟩ dX1_settleLoans_62 rfl (fun r14 M13 h => ?_)
          refine zt_pop C dX1_settleLoans_65 rfl ?_
          refine zt_goto C 74 dX1_settleLoans_66 (by decide) ?_
          exact p_X1_settleLoans_b74 hJ C hr hk hc0 hc1 hi1 hL10 h
      · replace h := za_ifn h q6
        refine zt_iinc C (v := x3 + 1) 3 [(3, .int (x3 + 1)), (0, .ref (g (2, c0, 0))), (1, .ref (g (6, c1, i1))), (2, .int x2), (4, .int x4)] dX1_settleLoans_40 rfl (zk_n1 _) (by decide) rfl ?_
        refine zt_goto C 74 dX1_settleLoans_43 (by decide) ?_
        refine zt_sub [1, 2, 3, 0, 4] (lv' := [(0, .ref (g (2, c0, 0))), (1, .ref (g (6, c1, i1))), (2, .int x2), (3, .int (x3 + 1)), (4, .int x4)]) rfl ?_
        exact p_X1_settleLoans_b74 hJ C hr hk hc0 hc1 hi1 hL10 h
theorem p_X1_settleLoans_b10_in (hJ : za_J g) (C : za_C p s m args c cX1_settleLoans 5 RX1 g D cy) (hr : meth.sig.returnType = none) (hk : meth.locks = false) {c0 : Nat} (hc0 : c0 < 3) {c1 : Nat} (hc1 : c1 < 2) {i1 : Nat} (hi1 : i1 < 2) {x2 : Int32} {n : Nat} {x3 : Int32} {x4 : Int32} {M : za_M} (h : za_lp2 (f_X1_settleLoans_b10 K c0 c1 i1 x2) n x3 x4 M) : zt p l e (za_rm 5 159) s m args below meth c 0 0 (MQ below (za_Qv g D cy K) args s 0 0 (za_A g)) g D cy 5 M 10 [(0, .ref (g (2, c0, 0))), (1, .ref (g (6, c1, i1))), (2, .int x2), (3, .int x3), (4, .int x4)] [] := za_lp2_run (Z := fun x3 x4 M => zt p l e (za_rm 5 159) s m args below meth c 0 0 (MQ below (za_Qv g D cy K) args s 0 0 (za_A g)) g D cy 5 M 10 [(0, .ref (g (2, c0, 0))), (1, .ref (g (6, c1, i1))), (2, .int x2), (3, .int x3), (4, .int x4)] []) (fun L hL => p_X1_settleLoans_b10 hJ C hr hk hc0 hc1 hi1 hL) n x3 x4 M h
set_option maxRecDepth 100000 in
set_option maxHeartbeats 4000000 in
theorem p_X1_settleLoans (hJ : za_J g) (C : za_C p s m args c cX1_settleLoans 5 RX1 g D cy) (hr : meth.sig.returnType = none) (hk : meth.locks = false) {c0 : Nat} (hc0 : c0 < 3) {c1 : Nat} (hc1 : c1 < 2) {i1 : Nat} (hi1 : i1 < 2) {M : za_M} (h : f_X1_settleLoans c0 c1 i1 M K) : zt p l e (za_rm 5 159) s m args below meth c 0 0 (MQ below (za_Qv g D cy K) args s 0 0 (za_A g)) g D cy 5 M 0 [(0, .ref (g (2, c0, 0))), (1, .ref (g (6, c1, i1)))] [] := by
  unfold f_X1_settleLoans at h
  refine zt_aload_n C 0 dX1_settleLoans_0 rfl rfl ?_
  refine zt_get C (za_mem (j := 2) rfl hc0 (by decide)) pf_X1_39 (za_E_2 g cy M c0 0) rfl dX1_settleLoans_1 ?_
  refine zt_topi (fun y15 e16 => ?_)
  replace h := za_use h e16
  refine zt_istore_n C [(2, .int y15), (0, .ref (g (2, c0, 0))), (1, .ref (g (6, c1, i1)))] dX1_settleLoans_4 rfl (by decide) rfl ?_
  refine zt_iconst C (v := 0) dX1_settleLoans_5 zk_i0 ?_
  refine zt_istore_n C [(3, .int 0), (2, .int y15), (0, .ref (g (2, c0, 0))), (1, .ref (g (6, c1, i1)))] dX1_settleLoans_6 rfl (by decide) rfl ?_
  refine zt_iconst C (v := 0) dX1_settleLoans_7 zk_i0 ?_
  refine zt_istore C [(4, .int 0), (3, .int 0), (2, .int y15), (0, .ref (g (2, c0, 0))), (1, .ref (g (6, c1, i1)))] dX1_settleLoans_8 (by decide) rfl ?_
  refine zt_sub [3, 4, 2, 1, 0] (lv' := [(0, .ref (g (2, c0, 0))), (1, .ref (g (6, c1, i1))), (2, .int y15), (3, .int 0), (4, .int 0)]) rfl ?_
  obtain ⟨n, h⟩ := h
  exact p_X1_settleLoans_b10_in hJ C hr hk hc0 hc1 hi1 h
end
theorem m_X1_settleLoans {l : Launch} {g : za_L → Nat} {D : va_G} {cy : Nat → ClassId} (hJ : za_J g)  {c0 : Nat} (hc0 : c0 < 3) {c1 : Nat} (hc1 : c1 < 2) {i1 : Nat} (hi1 : i1 < 2) {M : za_M} {K : za_M → Prop} (h : f_X1_settleLoans c0 c1 i1 M K) : za_Mv l g D cy yX1_settleLoans cX1_settleLoans 5 none 5 159 [.ref (g (2, c0, 0)), .ref (g (6, c1, i1))] M K := za_openv hJ (by decide) (Nat.le_of_ble_eq_true rfl) (fun p e s m args below meth c C hr hk => p_X1_settleLoans hJ C hr hk hc0 hc1 hi1 h)
/-! X1_passDays -/
def f_X1_passDays_b2 (K : za_M → Prop) (c0 : Nat) (x1 : Int32) (c2 : Nat) (i2 : Nat) (L2 : Int32 → za_M → Prop) (x3 : Int32) (M : za_M) : Prop :=
  if x1 ≤ x3 then (K M) else (za_let ((M.1 (2, c0, 0) 6) + 1) fun y2 => za_let (za_up M (2, c0, 0) 6 y2) fun M4 => f_X1_growHedges c0 M4 (fun M6 => f_X1_settleLoans c0 c2 i2 M6 (fun M8 => L2 (x3 + 1) M8)))
def f_X1_passDays (c0 : Nat) (x1 : Int32) (c2 : Nat) (i2 : Nat) (M : za_M) (K : za_M → Prop) : Prop :=
  ∃ n, za_lp1 (f_X1_passDays_b2 K c0 x1 c2 i2) n 0 M
section
variable {p : Program} {l : Launch} {e : Env} {s : State} {m : MethodId} {args : Array Value} {below : List Frame} {meth : Method} {c : Code} {g : za_L → Nat} {D : va_G} {cy : Nat → ClassId} {K : za_M → Prop}
set_option maxRecDepth 100000 in
set_option maxHeartbeats 4000000 in
theorem p_X1_passDays_b2 (hJ : za_J g) (C : za_C p s m args c cX1_passDays 4 RX1 g D cy) (hr : meth.sig.returnType = none) (hk : meth.locks = false) {c0 : Nat} (hc0 : c0 < 3) {x1 : Int32} {c2 : Nat} (hc2 : c2 < 2) {i2 : Nat} (hi2 : i2 < 2) {L2 : Int32 → za_M → Prop} (hL2 : ∀ (x3 : Int32) (M : za_M), L2 x3 M → zt p l e (za_rm 6 183) s m args below meth c 0 0 (MQ below (za_Qv g D cy K) args s 0 0 (za_A g)) g D cy 4 M 2 [(0, .ref (g (2, c0, 0))), (1, .int x1), (2, .ref (g (6, c2, i2))), (3, .int x3)] []) : ∀ (x3 : Int32) (M : za_M), f_X1_passDays_b2 K c0 x1 c2 i2 L2 x3 M → zt p l e (za_rm 6 183) s m args below meth c 0 0 (MQ below (za_Qv g D cy K) args s 0 0 (za_A g)) g D cy 4 M 2 [(0, .ref (g (2, c0, 0))), (1, .int x1), (2, .ref (g (6, c2, i2))), (3, .int x3)] [] := by
  intro x3 M h
  unfold f_X1_passDays_b2 at h
  refine zt_iload_n C 3 dX1_passDays_2 rfl rfl ?_
  refine zt_iload_n C 1 dX1_passDays_3 rfl rfl ?_
  refine zt_icmp_ge C 32 dX1_passDays_4 (by decide) (fun q1 => ?_) (fun q1 => ?_)
  · replace h := za_ifp h q1
    exact zt_vret C hr hk dX1_passDays_32 h
  · replace h := za_ifn h q1
    refine zt_aload_n C 0 dX1_passDays_7 rfl rfl ?_
    refine zt_dup C dX1_passDays_8 rfl ?_
    refine zt_get C (za_mem (j := 2) rfl hc0 (by decide)) pf_X1_42 (za_E_2 g cy M c0 0) rfl dX1_passDays_9 ?_
    refine zt_iconst C (v := 1) dX1_passDays_12 zk_i1 ?_
    refine zt_iadd C dX1_passDays_13 ?_
    refine zt_topi (fun y2 e3 => ?_)
    replace h := za_use h e3
    refine zt_put C (za_mem (j := 2) rfl hc0 (by decide)) pf_X1_42 pt_X1_6 rfl rfl (za_E_2 g cy M c0 0) rfl (Nat.le_of_ble_eq_true rfl) dX1_passDays_14 ?_
    refine zt_topM (fun M4 e5 => ?_)
    replace h := za_use h e5
    refine zt_aload_n C 0 dX1_passDays_17 rfl rfl ?_
    refine zt_cVv C [] (m_X1_growHedges hJ hc0 h) (za_mem (j := 2) rfl hc0 (by decide)) (za_E_2 g cy M4 c0 0) rfl py_X1_growHedges pv_X1_104 (Nat.le_of_ble_eq_true rfl) ⟨Nat.le_of_ble_eq_true rfl, Nat.le_of_ble_eq_true rfl⟩ ⟨Nat.zero_le _, Nat.zero_le _⟩ dX1_passDays_18 rfl (fun M6 h => ?_)
    refine zt_aload_n C 0 dX1_passDays_21 rfl rfl ?_
    refine zt_aload_n C 2 dX1_passDays_22 rfl rfl ?_
    refine zt_cVv C [.ref (g (6, c2, i2))] (m_X1_settleLoans hJ hc0 hc2 hi2 h) (za_mem (j := 2) rfl hc0 (by decide)) (za_E_2 g cy M6 c0 0) rfl py_X1_settleLoans pv_X1_107 (Nat.le_of_ble_eq_true rfl) ⟨Nat.le_of_ble_eq_true rfl, Nat.le_of_ble_eq_true rfl⟩ ⟨Nat.zero_le _, Nat.zero_le _⟩ dX1_passDays_23 rfl (fun M8 h => ?_)
    refine zt_iinc C (v := x3 + 1) 3 [(3, .int (x3 + 1)), (0, .ref (g (2, c0, 0))), (1, .int x1), (2, .ref (g (6, c2, i2)))] dX1_passDays_26 rfl (zk_n1 _) (by decide) rfl ?_
    refine zt_goto C 2 dX1_passDays_29 (by decide) ?_
    refine zt_sub [1, 2, 3, 0] (lv' := [(0, .ref (g (2, c0, 0))), (1, .int x1), (2, .ref (g (6, c2, i2))), (3, .int (x3 + 1))]) rfl ?_
    exact hL2 _ _ h
theorem p_X1_passDays_b2_in (hJ : za_J g) (C : za_C p s m args c cX1_passDays 4 RX1 g D cy) (hr : meth.sig.returnType = none) (hk : meth.locks = false) {c0 : Nat} (hc0 : c0 < 3) {x1 : Int32} {c2 : Nat} (hc2 : c2 < 2) {i2 : Nat} (hi2 : i2 < 2) {n : Nat} {x3 : Int32} {M : za_M} (h : za_lp1 (f_X1_passDays_b2 K c0 x1 c2 i2) n x3 M) : zt p l e (za_rm 6 183) s m args below meth c 0 0 (MQ below (za_Qv g D cy K) args s 0 0 (za_A g)) g D cy 4 M 2 [(0, .ref (g (2, c0, 0))), (1, .int x1), (2, .ref (g (6, c2, i2))), (3, .int x3)] [] := za_lp1_run (Z := fun x3 M => zt p l e (za_rm 6 183) s m args below meth c 0 0 (MQ below (za_Qv g D cy K) args s 0 0 (za_A g)) g D cy 4 M 2 [(0, .ref (g (2, c0, 0))), (1, .int x1), (2, .ref (g (6, c2, i2))), (3, .int x3)] []) (fun L hL => p_X1_passDays_b2 hJ C hr hk hc0 hc2 hi2 hL) n x3 M h
set_option maxRecDepth 100000 in
set_option maxHeartbeats 4000000 in
theorem p_X1_passDays (hJ : za_J g) (C : za_C p s m args c cX1_passDays 4 RX1 g D cy) (hr : meth.sig.returnType = none) (hk : meth.locks = false) {c0 : Nat} (hc0 : c0 < 3) {x1 : Int32} {c2 : Nat} (hc2 : c2 < 2) {i2 : Nat} (hi2 : i2 < 2) {M : za_M} (h : f_X1_passDays c0 x1 c2 i2 M K) : zt p l e (za_rm 6 183) s m args below meth c 0 0 (MQ below (za_Qv g D cy K) args s 0 0 (za_A g)) g D cy 4 M 0 [(0, .ref (g (2, c0, 0))), (1, .int x1), (2, .ref (g (6, c2, i2)))] [] := by
  unfold f_X1_passDays at h
  refine zt_iconst C (v := 0) dX1_passDays_0 zk_i0 ?_
  refine zt_istore_n C [(3, .int 0), (0, .ref (g (2, c0, 0))), (1, .int x1), (2, .ref (g (6, c2, i2)))] dX1_passDays_1 rfl (by decide) rfl ?_
  refine zt_sub [1, 2, 3, 0] (lv' := [(0, .ref (g (2, c0, 0))), (1, .int x1), (2, .ref (g (6, c2, i2))), (3, .int 0)]) rfl ?_
  obtain ⟨n, h⟩ := h
  exact p_X1_passDays_b2_in hJ C hr hk hc0 hc2 hi2 h
end
theorem m_X1_passDays {l : Launch} {g : za_L → Nat} {D : va_G} {cy : Nat → ClassId} (hJ : za_J g)  {c0 : Nat} (hc0 : c0 < 3) {x1 : Int32} {c2 : Nat} (hc2 : c2 < 2) {i2 : Nat} (hi2 : i2 < 2) {M : za_M} {K : za_M → Prop} (h : f_X1_passDays c0 x1 c2 i2 M K) : za_Mv l g D cy yX1_passDays cX1_passDays 4 none 6 183 [.ref (g (2, c0, 0)), .int x1, .ref (g (6, c2, i2))] M K := za_openv hJ (by decide) (Nat.le_of_ble_eq_true rfl) (fun p e s m args below meth c C hr hk => p_X1_passDays hJ C hr hk hc0 hc2 hi2 h)
/-! X2_take -/
def f_X2_take (c0 : Nat) (i0 : Nat) (z1 : za_L) (x2 : Int32) (M : za_M) (K : za_M → Prop) : Prop :=
  f_X9_held x2 50 M (fun r2 M1 => za_let (za_up M1 (6, c0, i0) 3 r2) fun M3 => za_cok 0 0 (M3.1 (6, c0, i0) 3) 50 50 ∧ (za_let (za_uf M3 (17, c0, i0) (va_cpy (M3.1 z1) (M3.1 (17, c0, i0)) (Int32.toNatClampNeg 0) (Int32.toNatClampNeg 0) (Int32.toNatClampNeg (M3.1 (6, c0, i0) 3)))) fun M6 => K M6))
section
variable {p : Program} {l : Launch} {e : Env} {s : State} {m : MethodId} {args : Array Value} {below : List Frame} {meth : Method} {c : Code} {g : za_L → Nat} {D : va_G} {cy : Nat → ClassId} {K : za_M → Prop}
set_option maxRecDepth 100000 in
set_option maxHeartbeats 4000000 in
theorem p_X2_take (hJ : za_J g) (C : za_C p s m args c cX2_take 3 RX2 g D cy) (hr : meth.sig.returnType = none) (hk : meth.locks = false) {c0 : Nat} (hc0 : c0 < 2) {i0 : Nat} (hi0 : i0 < 2) {z1 : za_L} (hz1 : za_I 50 z1) {x2 : Int32} {M : za_M} (h : f_X2_take c0 i0 z1 x2 M K) : zt p l e (za_rm 2 85) s m args below meth c 0 0 (MQ below (za_Qv g D cy K) args s 0 0 (za_A g)) g D cy 3 M 0 [(0, .ref (g (6, c0, i0))), (1, .ref (g z1)), (2, .int x2)] [] := by
  unfold f_X2_take at h
  refine zt_aload_n C 0 dX2_take_0 rfl rfl ?_
  refine zt_iload_n C 2 dX2_take_1 rfl rfl ?_
  refine zt_bipush C (v := 50) dX2_take_2 zk_b50 ?_
  refine zt_cNi C [.int x2, .int 50] (m_X9_held hJ  h) py_X9_held pn_X2_22 (Nat.le_of_ble_eq_true rfl) ⟨Nat.le_of_ble_eq_true rfl, Nat.le_of_ble_eq_true rfl⟩ ⟨Nat.zero_le _, Nat.zero_le _⟩ dX2_take_4 rfl (fun r2 M1 h => ?_)
  refine zt_put C (za_mem (j := 6) rfl hc0 hi0) pf_X2_26 pt_X2_3 rfl rfl (za_E_6 g cy M1 c0 i0) rfl (Nat.le_of_ble_eq_true rfl) dX2_take_7 ?_
  refine zt_topM (fun M3 e4 => ?_)
  replace h := za_use h e4
  refine zt_aload_n C 1 dX2_take_10 rfl rfl ?_
  refine zt_iconst C (v := 0) dX2_take_11 zk_i0 ?_
  refine zt_aload_n C 0 dX2_take_12 rfl rfl ?_
  refine zt_get C (za_mem (j := 6) rfl hc0 hi0) pf_X2_9 (za_E_6 g cy M3 c0 i0) rfl dX2_take_13 ?_
  refine zt_iconst C (v := 0) dX2_take_16 zk_i0 ?_
  refine zt_aload_n C 0 dX2_take_17 rfl rfl ?_
  refine zt_get C (za_mem (j := 6) rfl hc0 hi0) pf_X2_26 (za_E_6 g cy M3 c0 i0) rfl dX2_take_18 ?_
  obtain ⟨g5, h⟩ := h
  refine zt_copy C hz1.1 (za_mem (j := 17) rfl hc0 hi0) (fun W9 => hz1.2 g cy W9) (fun W9 => za_E_17 g cy W9 c0 i0) g5 w_524 w_485 w_484 w_86 (Nat.le_of_ble_eq_true rfl) (Nat.le_of_ble_eq_true rfl) dX2_take_21 ?_
  refine zt_topM (fun M6 e7 => ?_)
  replace h := za_use h e7
  exact zt_vret C hr hk dX2_take_24 h
end
theorem m_X2_take {l : Launch} {g : za_L → Nat} {D : va_G} {cy : Nat → ClassId} (hJ : za_J g)  {c0 : Nat} (hc0 : c0 < 2) {i0 : Nat} (hi0 : i0 < 2) {z1 : za_L} (hz1 : za_I 50 z1) {x2 : Int32} {M : za_M} {K : za_M → Prop} (h : f_X2_take c0 i0 z1 x2 M K) : za_Mv l g D cy yX2_take cX2_take 3 none 2 85 [.ref (g (6, c0, i0)), .ref (g z1), .int x2] M K := za_openv hJ (by decide) (Nat.le_of_ble_eq_true rfl) (fun p e s m args below meth c C hr hk => p_X2_take hJ C hr hk hc0 hi0 hz1 h)
/-! X4_begin -/
def f_X4_begin_b2 (K : za_M → Prop) (c0 : Nat) (i0 : Nat) (L2 : Int32 → za_M → Prop) (x1 : Int32) (M : za_M) : Prop :=
  if 5 ≤ x1 then (za_let (za_up M (4, c0, i0) 1 0) fun M2 => za_let (za_up M2 (4, c0, i0) 2 0) fun M4 => K M4) else (vp_in x1 5 ∧ (za_let (za_up M (13, c0, i0) x1.toNatClampNeg 0) fun M7 => L2 (x1 + 1) M7))
def f_X4_begin (c0 : Nat) (i0 : Nat) (M : za_M) (K : za_M → Prop) : Prop :=
  ∃ n, za_lp1 (f_X4_begin_b2 K c0 i0) n 0 M
section
variable {p : Program} {l : Launch} {e : Env} {s : State} {m : MethodId} {args : Array Value} {below : List Frame} {meth : Method} {c : Code} {g : za_L → Nat} {D : va_G} {cy : Nat → ClassId} {K : za_M → Prop}
set_option maxRecDepth 100000 in
set_option maxHeartbeats 4000000 in
theorem p_X4_begin_b2 (hJ : za_J g) (C : za_C p s m args c cX4_begin 2 RX4 g D cy) (hr : meth.sig.returnType = none) (hk : meth.locks = false) {c0 : Nat} (hc0 : c0 < 3) {i0 : Nat} (hi0 : i0 < 4) {L2 : Int32 → za_M → Prop} (hL2 : ∀ (x1 : Int32) (M : za_M), L2 x1 M → zt p l e (za_rm 1 64) s m args below meth c 0 0 (MQ below (za_Qv g D cy K) args s 0 0 (za_A g)) g D cy 2 M 2 [(0, .ref (g (4, c0, i0))), (1, .int x1)] []) : ∀ (x1 : Int32) (M : za_M), f_X4_begin_b2 K c0 i0 L2 x1 M → zt p l e (za_rm 1 64) s m args below meth c 0 0 (MQ below (za_Qv g D cy K) args s 0 0 (za_A g)) g D cy 2 M 2 [(0, .ref (g (4, c0, i0))), (1, .int x1)] [] := by
  intro x1 M h
  unfold f_X4_begin_b2 at h
  refine zt_iload_n C 1 dX4_begin_2 rfl rfl ?_
  refine zt_iconst C (v := 5) dX4_begin_3 zk_i5 ?_
  refine zt_icmp_ge C 20 dX4_begin_4 (by decide) (fun q1 => ?_) (fun q1 => ?_)
  · replace h := za_ifp h q1
    refine zt_aload_n C 0 dX4_begin_20 rfl rfl ?_
    refine zt_iconst C (v := 0) dX4_begin_21 zk_i0 ?_
    refine zt_put C (za_mem (j := 4) rfl hc0 hi0) pf_X4_15 pt_X4_1 rfl rfl (za_E_4 g cy M c0 i0) rfl (Nat.le_of_ble_eq_true rfl) dX4_begin_22 ?_
    refine zt_topM (fun M2 e3 => ?_)
    replace h := za_use h e3
    refine zt_aload_n C 0 dX4_begin_25 rfl rfl ?_
    refine zt_iconst C (v := 0) dX4_begin_26 zk_i0 ?_
    refine zt_put C (za_mem (j := 4) rfl hc0 hi0) pf_X4_19 pt_X4_2 rfl rfl (za_E_4 g cy M2 c0 i0) rfl (Nat.le_of_ble_eq_true rfl) dX4_begin_27 ?_
    refine zt_topM (fun M4 e5 => ?_)
    replace h := za_use h e5
    exact zt_vret C hr hk dX4_begin_30 h
  · replace h := za_ifn h q1
    refine zt_aload_n C 0 dX4_begin_7 rfl rfl ?_
    refine zt_get C (za_mem (j := 4) rfl hc0 hi0) pf_X4_9 (za_E_4 g cy M c0 i0) rfl dX4_begin_8 ?_
    refine zt_iload_n C 1 dX4_begin_11 rfl rfl ?_
    refine zt_iconst C (v := 0) dX4_begin_12 zk_i0 ?_
    obtain ⟨g6, h⟩ := h
    refine zt_iast C (za_mem (j := 13) rfl hc0 hi0) (fun W9 => za_E_13 g cy W9 c0 i0) g6 dX4_begin_13 ?_
    refine zt_topM (fun M7 e8 => ?_)
    replace h := za_use h e8
    refine zt_iinc C (v := x1 + 1) 1 [(1, .int (x1 + 1)), (0, .ref (g (4, c0, i0)))] dX4_begin_14 rfl (zk_n1 _) (by decide) rfl ?_
    refine zt_goto C 2 dX4_begin_17 (by decide) ?_
    refine zt_sub [1, 0] (lv' := [(0, .ref (g (4, c0, i0))), (1, .int (x1 + 1))]) rfl ?_
    exact hL2 _ _ h
theorem p_X4_begin_b2_in (hJ : za_J g) (C : za_C p s m args c cX4_begin 2 RX4 g D cy) (hr : meth.sig.returnType = none) (hk : meth.locks = false) {c0 : Nat} (hc0 : c0 < 3) {i0 : Nat} (hi0 : i0 < 4) {n : Nat} {x1 : Int32} {M : za_M} (h : za_lp1 (f_X4_begin_b2 K c0 i0) n x1 M) : zt p l e (za_rm 1 64) s m args below meth c 0 0 (MQ below (za_Qv g D cy K) args s 0 0 (za_A g)) g D cy 2 M 2 [(0, .ref (g (4, c0, i0))), (1, .int x1)] [] := za_lp1_run (Z := fun x1 M => zt p l e (za_rm 1 64) s m args below meth c 0 0 (MQ below (za_Qv g D cy K) args s 0 0 (za_A g)) g D cy 2 M 2 [(0, .ref (g (4, c0, i0))), (1, .int x1)] []) (fun L hL => p_X4_begin_b2 hJ C hr hk hc0 hi0 hL) n x1 M h
set_option maxRecDepth 100000 in
set_option maxHeartbeats 4000000 in
theorem p_X4_begin (hJ : za_J g) (C : za_C p s m args c cX4_begin 2 RX4 g D cy) (hr : meth.sig.returnType = none) (hk : meth.locks = false) {c0 : Nat} (hc0 : c0 < 3) {i0 : Nat} (hi0 : i0 < 4) {M : za_M} (h : f_X4_begin c0 i0 M K) : zt p l e (za_rm 1 64) s m args below meth c 0 0 (MQ below (za_Qv g D cy K) args s 0 0 (za_A g)) g D cy 2 M 0 [(0, .ref (g (4, c0, i0)))] [] := by
  unfold f_X4_begin at h
  refine zt_iconst C (v := 0) dX4_begin_0 zk_i0 ?_
  refine zt_istore_n C [(1, .int 0), (0, .ref (g (4, c0, i0)))] dX4_begin_1 rfl (by decide) rfl ?_
  refine zt_sub [1, 0] (lv' := [(0, .ref (g (4, c0, i0))), (1, .int 0)]) rfl ?_
  obtain ⟨n, h⟩ := h
  exact p_X4_begin_b2_in hJ C hr hk hc0 hi0 h
end
theorem m_X4_begin {l : Launch} {g : za_L → Nat} {D : va_G} {cy : Nat → ClassId} (hJ : za_J g)  {c0 : Nat} (hc0 : c0 < 3) {i0 : Nat} (hi0 : i0 < 4) {M : za_M} {K : za_M → Prop} (h : f_X4_begin c0 i0 M K) : za_Mv l g D cy yX4_begin cX4_begin 2 none 1 64 [.ref (g (4, c0, i0))] M K := za_openv hJ (by decide) (Nat.le_of_ble_eq_true rfl) (fun p e s m args below meth c C hr hk => p_X4_begin hJ C hr hk hc0 hi0 h)
/-! X4_has -/
def f_X4_has_b4 (K : Int32 → za_M → Prop) (c0 : Nat) (i0 : Nat) (L4 : Int32 → Int32 → za_M → Prop) (x2 : Int32) (x3 : Int32) (M : za_M) : Prop :=
  if 5 ≤ x3 then (K 1 M) else (vp_in x3 5 ∧ (if (x2 - x2 / 10 * 10) ≤ (M.1 (13, c0, i0) x3.toNatClampNeg) then (za_let (x2 / 10) fun y4 => L4 y4 (x3 + 1) M) else (K 0 M)))
def f_X4_has (c0 : Nat) (i0 : Nat) (x1 : Int32) (M : za_M) (K : Int32 → za_M → Prop) : Prop :=
  ∃ n, za_lp2 (f_X4_has_b4 K c0 i0) n x1 0 M
section
variable {p : Program} {l : Launch} {e : Env} {s : State} {m : MethodId} {args : Array Value} {below : List Frame} {meth : Method} {c : Code} {g : za_L → Nat} {D : va_G} {cy : Nat → ClassId} {K : Int32 → za_M → Prop}
set_option maxRecDepth 100000 in
set_option maxHeartbeats 4000000 in
theorem p_X4_has_b4 (hJ : za_J g) (C : za_C p s m args c cX4_has 4 RX4 g D cy) (hr : meth.sig.returnType = (some .boolean)) (hk : meth.locks = false) {c0 : Nat} (hc0 : c0 < 3) {i0 : Nat} (hi0 : i0 < 4) {L4 : Int32 → Int32 → za_M → Prop} (hL4 : ∀ (x2 : Int32) (x3 : Int32) (M : za_M), L4 x2 x3 M → zt p l e (za_rm 1 64) s m args below meth c 0 0 (MQ below (za_Qi g D cy K) args s 0 0 (za_A g)) g D cy 4 M 4 [(0, .ref (g (4, c0, i0))), (2, .int x2), (3, .int x3)] []) : ∀ (x2 : Int32) (x3 : Int32) (M : za_M), f_X4_has_b4 K c0 i0 L4 x2 x3 M → zt p l e (za_rm 1 64) s m args below meth c 0 0 (MQ below (za_Qi g D cy K) args s 0 0 (za_A g)) g D cy 4 M 4 [(0, .ref (g (4, c0, i0))), (2, .int x2), (3, .int x3)] [] := by
  intro x2 x3 M h
  unfold f_X4_has_b4 at h
  refine zt_iload_n C 2 dX4_has_4 rfl rfl ?_
  refine zt_iconst C (v := 5) dX4_has_5 zk_i5 ?_
  refine zt_icmp_ge C 35 dX4_has_6 (by decide) (fun q1 => ?_) (fun q1 => ?_)
  · replace h := za_ifp h q1
    refine zt_iconst C (v := 1) dX4_has_35 zk_i1 ?_
    exact zt_ret C hr hk rfl dX4_has_36 h
  · replace h := za_ifn h q1
    refine zt_iload_n C 1 dX4_has_9 rfl rfl ?_
    refine zt_bipush C (v := 10) dX4_has_10 zk_b10 ?_
    refine zt_irem C dX4_has_12 (by decide) ?_
    refine zt_aload_n C 0 dX4_has_13 rfl rfl ?_
    refine zt_get C (za_mem (j := 4) rfl hc0 hi0) pf_X4_9 (za_E_4 g cy M c0 i0) rfl dX4_has_14 ?_
    refine zt_iload_n C 2 dX4_has_17 rfl rfl ?_
    obtain ⟨g2, h⟩ := h
    refine zt_iald C (za_mem (j := 13) rfl hc0 hi0) (fun W9 => za_E_13 g cy W9 c0 i0) g2 dX4_has_18 ?_
    refine zt_icmp_le C 24 dX4_has_19 (by decide) (fun q3 => ?_) (fun q3 => ?_)
    · replace h := za_ifp h q3
      refine zt_iload_n C 1 dX4_has_24 rfl rfl ?_
      refine zt_bipush C (v := 10) dX4_has_25 zk_b10 ?_
      refine zt_idiv C dX4_has_27 (by decide) ?_
      refine zt_topi (fun y4 e5 => ?_)
      replace h := za_use h e5
      refine zt_istore_n C [(2, .int y4), (0, .ref (g (4, c0, i0))), (3, .int x3)] dX4_has_28 rfl (by decide) rfl ?_
      refine zt_iinc C (v := x3 + 1) 2 [(3, .int (x3 + 1)), (2, .int y4), (0, .ref (g (4, c0, i0)))] dX4_has_29 rfl (zk_n1 _) (by decide) rfl ?_
      refine zt_goto C 4 dX4_has_32 (by decide) ?_
      refine zt_sub [2, 1, 0] (lv' := [(0, .ref (g (4, c0, i0))), (2, .int y4), (3, .int (x3 + 1))]) rfl ?_
      exact hL4 _ _ _ h
    · replace h := za_ifn h q3
      refine zt_iconst C (v := 0) dX4_has_22 zk_i0 ?_
      exact zt_ret C hr hk rfl dX4_has_23 h
theorem p_X4_has_b4_in (hJ : za_J g) (C : za_C p s m args c cX4_has 4 RX4 g D cy) (hr : meth.sig.returnType = (some .boolean)) (hk : meth.locks = false) {c0 : Nat} (hc0 : c0 < 3) {i0 : Nat} (hi0 : i0 < 4) {n : Nat} {x2 : Int32} {x3 : Int32} {M : za_M} (h : za_lp2 (f_X4_has_b4 K c0 i0) n x2 x3 M) : zt p l e (za_rm 1 64) s m args below meth c 0 0 (MQ below (za_Qi g D cy K) args s 0 0 (za_A g)) g D cy 4 M 4 [(0, .ref (g (4, c0, i0))), (2, .int x2), (3, .int x3)] [] := za_lp2_run (Z := fun x2 x3 M => zt p l e (za_rm 1 64) s m args below meth c 0 0 (MQ below (za_Qi g D cy K) args s 0 0 (za_A g)) g D cy 4 M 4 [(0, .ref (g (4, c0, i0))), (2, .int x2), (3, .int x3)] []) (fun L hL => p_X4_has_b4 hJ C hr hk hc0 hi0 hL) n x2 x3 M h
set_option maxRecDepth 100000 in
set_option maxHeartbeats 4000000 in
theorem p_X4_has (hJ : za_J g) (C : za_C p s m args c cX4_has 4 RX4 g D cy) (hr : meth.sig.returnType = (some .boolean)) (hk : meth.locks = false) {c0 : Nat} (hc0 : c0 < 3) {i0 : Nat} (hi0 : i0 < 4) {x1 : Int32} {M : za_M} (h : f_X4_has c0 i0 x1 M K) : zt p l e (za_rm 1 64) s m args below meth c 0 0 (MQ below (za_Qi g D cy K) args s 0 0 (za_A g)) g D cy 4 M 0 [(0, .ref (g (4, c0, i0))), (1, .int x1)] [] := by
  unfold f_X4_has at h
  refine zt_iload_n C 1 dX4_has_0 rfl rfl ?_
  refine zt_istore_n C [(2, .int x1), (0, .ref (g (4, c0, i0))), (1, .int x1)] dX4_has_1 rfl (by decide) rfl ?_
  refine zt_iconst C (v := 0) dX4_has_2 zk_i0 ?_
  refine zt_istore_n C [(3, .int 0), (2, .int x1), (0, .ref (g (4, c0, i0))), (1, .int x1)] dX4_has_3 rfl (by decide) rfl ?_
  refine zt_sub [2, 1, 0] (lv' := [(0, .ref (g (4, c0, i0))), (2, .int x1), (3, .int 0)]) rfl ?_
  obtain ⟨n, h⟩ := h
  exact p_X4_has_b4_in hJ C hr hk hc0 hi0 h
end
theorem m_X4_has {l : Launch} {g : za_L → Nat} {D : va_G} {cy : Nat → ClassId} (hJ : za_J g)  {c0 : Nat} (hc0 : c0 < 3) {i0 : Nat} (hi0 : i0 < 4) {x1 : Int32} {M : za_M} {K : Int32 → za_M → Prop} (h : f_X4_has c0 i0 x1 M K) : za_Mi l g D cy yX4_has cX4_has 4 (some .boolean) 1 64 [.ref (g (4, c0, i0)), .int x1] M K := za_openi hJ (by decide) (Nat.le_of_ble_eq_true rfl) (fun p e s m args below meth c C hr hk => p_X4_has hJ C hr hk hc0 hi0 h)
/-! X4_burn -/
def f_X4_burn_b4 (K : za_M → Prop) (c0 : Nat) (i0 : Nat) (L4 : Int32 → Int32 → za_M → Prop) (x2 : Int32) (x3 : Int32) (M : za_M) : Prop :=
  if 5 ≤ x3 then (f_X9_held ((M.1 (4, c0, i0) 1) + 1) 9999 M (fun r3 M2 => za_let (za_up M2 (4, c0, i0) 1 r3) fun M4 => K M4)) else (vp_in x3 5 ∧ (za_let ((M.1 (13, c0, i0) x3.toNatClampNeg) - (x2 - x2 / 10 * 10)) fun y7 => vp_in x3 5 ∧ (za_let (za_up M (13, c0, i0) x3.toNatClampNeg y7) fun M10 => za_let (x2 / 10) fun y12 => L4 y12 (x3 + 1) M10)))
def f_X4_burn (c0 : Nat) (i0 : Nat) (x1 : Int32) (M : za_M) (K : za_M → Prop) : Prop :=
  ∃ n, za_lp2 (f_X4_burn_b4 K c0 i0) n x1 0 M
section
variable {p : Program} {l : Launch} {e : Env} {s : State} {m : MethodId} {args : Array Value} {below : List Frame} {meth : Method} {c : Code} {g : za_L → Nat} {D : va_G} {cy : Nat → ClassId} {K : za_M → Prop}
set_option maxRecDepth 100000 in
set_option maxHeartbeats 4000000 in
theorem p_X4_burn_b4 (hJ : za_J g) (C : za_C p s m args c cX4_burn 4 RX4 g D cy) (hr : meth.sig.returnType = none) (hk : meth.locks = false) {c0 : Nat} (hc0 : c0 < 3) {i0 : Nat} (hi0 : i0 < 4) {L4 : Int32 → Int32 → za_M → Prop} (hL4 : ∀ (x2 : Int32) (x3 : Int32) (M : za_M), L4 x2 x3 M → zt p l e (za_rm 2 85) s m args below meth c 0 0 (MQ below (za_Qv g D cy K) args s 0 0 (za_A g)) g D cy 4 M 4 [(0, .ref (g (4, c0, i0))), (2, .int x2), (3, .int x3)] []) : ∀ (x2 : Int32) (x3 : Int32) (M : za_M), f_X4_burn_b4 K c0 i0 L4 x2 x3 M → zt p l e (za_rm 2 85) s m args below meth c 0 0 (MQ below (za_Qv g D cy K) args s 0 0 (za_A g)) g D cy 4 M 4 [(0, .ref (g (4, c0, i0))), (2, .int x2), (3, .int x3)] [] := by
  intro x2 x3 M h
  unfold f_X4_burn_b4 at h
  refine zt_iload_n C 2 dX4_burn_4 rfl rfl ?_
  refine zt_iconst C (v := 5) dX4_burn_5 zk_i5 ?_
  refine zt_icmp_ge C 33 dX4_burn_6 (by decide) (fun q1 => ?_) (fun q1 => ?_)
  · replace h := za_ifp h q1
    refine zt_aload_n C 0 dX4_burn_33 rfl rfl ?_
    refine zt_aload_n C 0 dX4_burn_34 rfl rfl ?_
    refine zt_get C (za_mem (j := 4) rfl hc0 hi0) pf_X4_15 (za_E_4 g cy M c0 i0) rfl dX4_burn_35 ?_
    refine zt_iconst C (v := 1) dX4_burn_38 zk_i1 ?_
    refine zt_iadd C dX4_burn_39 ?_
    refine zt_sipush C (v := 9999) dX4_burn_40 zk_s9999 ?_
    refine zt_cNi C [.int ((M.1 (4, c0, i0) 1) + 1), .int 9999] (m_X9_held hJ  h) py_X9_held pn_X4_28 (Nat.le_of_ble_eq_true rfl) ⟨Nat.le_of_ble_eq_true rfl, Nat.le_of_ble_eq_true rfl⟩ ⟨Nat.zero_le _, Nat.zero_le _⟩ dX4_burn_43 rfl (fun r3 M2 h => ?_)
    refine zt_put C (za_mem (j := 4) rfl hc0 hi0) pf_X4_15 pt_X4_1 rfl rfl (za_E_4 g cy M2 c0 i0) rfl (Nat.le_of_ble_eq_true rfl) dX4_burn_46 ?_
    refine zt_topM (fun M4 e5 => ?_)
    replace h := za_use h e5
    exact zt_vret C hr hk dX4_burn_49 h
  · replace h := za_ifn h q1
    refine zt_aload_n C 0 dX4_burn_9 rfl rfl ?_
    refine zt_get C (za_mem (j := 4) rfl hc0 hi0) pf_X4_9 (za_E_4 g cy M c0 i0) rfl dX4_burn_10 ?_
    refine zt_iload_n C 2 dX4_burn_13 rfl rfl ?_
    refine zt_dup2_11 C dX4_burn_14 rfl rfl ?_
    obtain ⟨g6, h⟩ := h
    refine zt_iald C (za_mem (j := 13) rfl hc0 hi0) (fun W9 => za_E_13 g cy W9 c0 i0) g6 dX4_burn_15 ?_
    refine zt_iload_n C 1 dX4_burn_16 rfl rfl ?_
    refine zt_bipush C (v := 10) dX4_burn_17 zk_b10 ?_
    refine zt_irem C dX4_burn_19 (by decide) ?_
    refine zt_isub C dX4_burn_20 ?_
    refine zt_topi (fun y7 e8 => ?_)
    replace h := za_use h e8
    obtain ⟨g9, h⟩ := h
    refine zt_iast C (za_mem (j := 13) rfl hc0 hi0) (fun W9 => za_E_13 g cy W9 c0 i0) g9 dX4_burn_21 ?_
    refine zt_topM (fun M10 e11 => ?_)
    replace h := za_use h e11
    refine zt_iload_n C 1 dX4_burn_22 rfl rfl ?_
    refine zt_bipush C (v := 10) dX4_burn_23 zk_b10 ?_
    refine zt_idiv C dX4_burn_25 (by decide) ?_
    refine zt_topi (fun y12 e13 => ?_)
    replace h := za_use h e13
    refine zt_istore_n C [(2, .int y12), (0, .ref (g (4, c0, i0))), (3, .int x3)] dX4_burn_26 rfl (by decide) rfl ?_
    refine zt_iinc C (v := x3 + 1) 2 [(3, .int (x3 + 1)), (2, .int y12), (0, .ref (g (4, c0, i0)))] dX4_burn_27 rfl (zk_n1 _) (by decide) rfl ?_
    refine zt_goto C 4 dX4_burn_30 (by decide) ?_
    refine zt_sub [2, 1, 0] (lv' := [(0, .ref (g (4, c0, i0))), (2, .int y12), (3, .int (x3 + 1))]) rfl ?_
    exact hL4 _ _ _ h
theorem p_X4_burn_b4_in (hJ : za_J g) (C : za_C p s m args c cX4_burn 4 RX4 g D cy) (hr : meth.sig.returnType = none) (hk : meth.locks = false) {c0 : Nat} (hc0 : c0 < 3) {i0 : Nat} (hi0 : i0 < 4) {n : Nat} {x2 : Int32} {x3 : Int32} {M : za_M} (h : za_lp2 (f_X4_burn_b4 K c0 i0) n x2 x3 M) : zt p l e (za_rm 2 85) s m args below meth c 0 0 (MQ below (za_Qv g D cy K) args s 0 0 (za_A g)) g D cy 4 M 4 [(0, .ref (g (4, c0, i0))), (2, .int x2), (3, .int x3)] [] := za_lp2_run (Z := fun x2 x3 M => zt p l e (za_rm 2 85) s m args below meth c 0 0 (MQ below (za_Qv g D cy K) args s 0 0 (za_A g)) g D cy 4 M 4 [(0, .ref (g (4, c0, i0))), (2, .int x2), (3, .int x3)] []) (fun L hL => p_X4_burn_b4 hJ C hr hk hc0 hi0 hL) n x2 x3 M h
set_option maxRecDepth 100000 in
set_option maxHeartbeats 4000000 in
theorem p_X4_burn (hJ : za_J g) (C : za_C p s m args c cX4_burn 4 RX4 g D cy) (hr : meth.sig.returnType = none) (hk : meth.locks = false) {c0 : Nat} (hc0 : c0 < 3) {i0 : Nat} (hi0 : i0 < 4) {x1 : Int32} {M : za_M} (h : f_X4_burn c0 i0 x1 M K) : zt p l e (za_rm 2 85) s m args below meth c 0 0 (MQ below (za_Qv g D cy K) args s 0 0 (za_A g)) g D cy 4 M 0 [(0, .ref (g (4, c0, i0))), (1, .int x1)] [] := by
  unfold f_X4_burn at h
  refine zt_iload_n C 1 dX4_burn_0 rfl rfl ?_
  refine zt_istore_n C [(2, .int x1), (0, .ref (g (4, c0, i0))), (1, .int x1)] dX4_burn_1 rfl (by decide) rfl ?_
  refine zt_iconst C (v := 0) dX4_burn_2 zk_i0 ?_
  refine zt_istore_n C [(3, .int 0), (2, .int x1), (0, .ref (g (4, c0, i0))), (1, .int x1)] dX4_burn_3 rfl (by decide) rfl ?_
  refine zt_sub [2, 1, 0] (lv' := [(0, .ref (g (4, c0, i0))), (2, .int x1), (3, .int 0)]) rfl ?_
  obtain ⟨n, h⟩ := h
  exact p_X4_burn_b4_in hJ C hr hk hc0 hi0 h
end
theorem m_X4_burn {l : Launch} {g : za_L → Nat} {D : va_G} {cy : Nat → ClassId} (hJ : za_J g)  {c0 : Nat} (hc0 : c0 < 3) {i0 : Nat} (hi0 : i0 < 4) {x1 : Int32} {M : za_M} {K : za_M → Prop} (h : f_X4_burn c0 i0 x1 M K) : za_Mv l g D cy yX4_burn cX4_burn 4 none 2 85 [.ref (g (4, c0, i0)), .int x1] M K := za_openv hJ (by decide) (Nat.le_of_ble_eq_true rfl) (fun p e s m args below meth c C hr hk => p_X4_burn hJ C hr hk hc0 hi0 h)
/-! X5_next -/
def f_X5_next (M : za_M) (K : Int32 → za_M → Prop) : Prop :=
  if (M.1 (7, 0, 0) 2) ≤ (M.1 (7, 0, 0) 5) then (K (-1) M) else (vp_in (M.1 (7, 0, 0) 5) 50 ∧ (K (M.1 (19, 0, 0) (M.1 (7, 0, 0) 5).toNatClampNeg) M))
section
variable {p : Program} {l : Launch} {e : Env} {s : State} {m : MethodId} {args : Array Value} {below : List Frame} {meth : Method} {c : Code} {g : za_L → Nat} {D : va_G} {cy : Nat → ClassId} {K : Int32 → za_M → Prop}
set_option maxRecDepth 100000 in
set_option maxHeartbeats 4000000 in
theorem p_X5_next (hJ : za_J g) (C : za_C p s m args c cX5_next 1 RX5 g D cy) (hr : meth.sig.returnType = (some .int)) (hk : meth.locks = false) {M : za_M} (h : f_X5_next M K) : zt p l e (za_rm 1 64) s m args below meth c 0 0 (MQ below (za_Qi g D cy K) args s 0 0 (za_A g)) g D cy 1 M 0 [(0, .ref (g (7, 0, 0)))] [] := by
  unfold f_X5_next at h
  refine zt_aload_n C 0 dX5_next_0 rfl rfl ?_
  refine zt_get C (za_mem (j := 7) rfl (by decide) (by decide)) pf_X5_35 (za_E_7 g cy M 0 0) rfl dX5_next_1 ?_
  refine zt_aload_n C 0 dX5_next_4 rfl rfl ?_
  refine zt_get C (za_mem (j := 7) rfl (by decide) (by decide)) pf_X5_22 (za_E_7 g cy M 0 0) rfl dX5_next_5 ?_
  refine zt_icmp_ge C 23 dX5_next_8 (by decide) (fun q1 => ?_) (fun q1 => ?_)
  · replace h := za_ifp h q1
    refine zt_iconst C (v := (-1)) dX5_next_23 zk_im1 ?_
    exact zt_ret C hr hk rfl dX5_next_24 h
  · replace h := za_ifn h q1
    refine zt_aload_n C 0 dX5_next_11 rfl rfl ?_
    refine zt_get C (za_mem (j := 7) rfl (by decide) (by decide)) pf_X5_9 (za_E_7 g cy M 0 0) rfl dX5_next_12 ?_
    refine zt_aload_n C 0 dX5_next_15 rfl rfl ?_
    refine zt_get C (za_mem (j := 7) rfl (by decide) (by decide)) pf_X5_35 (za_E_7 g cy M 0 0) rfl dX5_next_16 ?_
    obtain ⟨g2, h⟩ := h
    refine zt_iald C (za_mem (j := 19) rfl (by decide) (by decide)) (fun W9 => za_E_19 g cy W9 0 0) g2 dX5_next_19 ?_
    refine zt_goto C 24 dX5_next_20 (by decide) ?_
    exact zt_ret C hr hk rfl dX5_next_24 h
end
theorem m_X5_next {l : Launch} {g : za_L → Nat} {D : va_G} {cy : Nat → ClassId} (hJ : za_J g)  {M : za_M} {K : Int32 → za_M → Prop} (h : f_X5_next M K) : za_Mi l g D cy yX5_next cX5_next 1 (some .int) 1 64 [.ref (g (7, 0, 0))] M K := za_openi hJ (by decide) (Nat.le_of_ble_eq_true rfl) (fun p e s m args below meth c C hr hk => p_X5_next hJ C hr hk  h)
/-! X5_levelOf -/
def f_X5_levelOf (x0 : Int32) (M : za_M) (K : Int32 → za_M → Prop) : Prop :=
  if x0 = 37 then (K 4 M) else if x0 = 38 then (K 1 M) else if x0 = 42 then (K 4 M) else if x0 = 43 then (K 3 M) else if x0 = 45 then (K 3 M) else if x0 = 47 then (K 4 M) else if x0 = 60 then (K 2 M) else if x0 = 61 then (K 2 M) else if x0 = 62 then (K 2 M) else if x0 = 124 then (K 0 M) else (K (-1) M)
section
variable {p : Program} {l : Launch} {e : Env} {s : State} {m : MethodId} {args : Array Value} {below : List Frame} {meth : Method} {c : Code} {g : za_L → Nat} {D : va_G} {cy : Nat → ClassId} {K : Int32 → za_M → Prop}
set_option maxRecDepth 100000 in
set_option maxHeartbeats 4000000 in
theorem p_X5_levelOf (hJ : za_J g) (C : za_C p s m args c cX5_levelOf 1 RX5 g D cy) (hr : meth.sig.returnType = (some .int)) (hk : meth.locks = false) {x0 : Int32} {M : za_M} (h : f_X5_levelOf x0 M K) : zt p l e (za_rm 1 64) s m args below meth c 0 0 (MQ below (za_Qi g D cy K) args s 0 0 (za_A g)) g D cy 1 M 0 [(0, .int x0)] [] := by
  unfold f_X5_levelOf at h
  refine zt_iload_n C 0 dX5_levelOf_0 rfl rfl ?_
  by_cases q1 : x0 = 37
  · replace h := za_ifp h q1
    refine zt_lookup C (off := 99) 100 dX5_levelOf_1 (by decide) (by rw [q1]; decide) (by decide) ?_
    refine zt_iconst C (v := 4) dX5_levelOf_100 zk_i4 ?_
    exact zt_ret C hr hk rfl dX5_levelOf_101 h
  replace h := za_ifn h q1
  by_cases q2 : x0 = 38
  · replace h := za_ifp h q2
    refine zt_lookup C (off := 93) 94 dX5_levelOf_1 (by decide) (by rw [q2]; decide) (by decide) ?_
    refine zt_iconst C (v := 1) dX5_levelOf_94 zk_i1 ?_
    exact zt_ret C hr hk rfl dX5_levelOf_95 h
  replace h := za_ifn h q2
  by_cases q3 : x0 = 42
  · replace h := za_ifp h q3
    refine zt_lookup C (off := 99) 100 dX5_levelOf_1 (by decide) (by rw [q3]; decide) (by decide) ?_
    refine zt_iconst C (v := 4) dX5_levelOf_100 zk_i4 ?_
    exact zt_ret C hr hk rfl dX5_levelOf_101 h
  replace h := za_ifn h q3
  by_cases q4 : x0 = 43
  · replace h := za_ifp h q4
    refine zt_lookup C (off := 97) 98 dX5_levelOf_1 (by decide) (by rw [q4]; decide) (by decide) ?_
    refine zt_iconst C (v := 3) dX5_levelOf_98 zk_i3 ?_
    exact zt_ret C hr hk rfl dX5_levelOf_99 h
  replace h := za_ifn h q4
  by_cases q5 : x0 = 45
  · replace h := za_ifp h q5
    refine zt_lookup C (off := 97) 98 dX5_levelOf_1 (by decide) (by rw [q5]; decide) (by decide) ?_
    refine zt_iconst C (v := 3) dX5_levelOf_98 zk_i3 ?_
    exact zt_ret C hr hk rfl dX5_levelOf_99 h
  replace h := za_ifn h q5
  by_cases q6 : x0 = 47
  · replace h := za_ifp h q6
    refine zt_lookup C (off := 99) 100 dX5_levelOf_1 (by decide) (by rw [q6]; decide) (by decide) ?_
    refine zt_iconst C (v := 4) dX5_levelOf_100 zk_i4 ?_
    exact zt_ret C hr hk rfl dX5_levelOf_101 h
  replace h := za_ifn h q6
  by_cases q7 : x0 = 60
  · replace h := za_ifp h q7
    refine zt_lookup C (off := 95) 96 dX5_levelOf_1 (by decide) (by rw [q7]; decide) (by decide) ?_
    refine zt_iconst C (v := 2) dX5_levelOf_96 zk_i2 ?_
    exact zt_ret C hr hk rfl dX5_levelOf_97 h
  replace h := za_ifn h q7
  by_cases q8 : x0 = 61
  · replace h := za_ifp h q8
    refine zt_lookup C (off := 95) 96 dX5_levelOf_1 (by decide) (by rw [q8]; decide) (by decide) ?_
    refine zt_iconst C (v := 2) dX5_levelOf_96 zk_i2 ?_
    exact zt_ret C hr hk rfl dX5_levelOf_97 h
  replace h := za_ifn h q8
  by_cases q9 : x0 = 62
  · replace h := za_ifp h q9
    refine zt_lookup C (off := 95) 96 dX5_levelOf_1 (by decide) (by rw [q9]; decide) (by decide) ?_
    refine zt_iconst C (v := 2) dX5_levelOf_96 zk_i2 ?_
    exact zt_ret C hr hk rfl dX5_levelOf_97 h
  replace h := za_ifn h q9
  by_cases q10 : x0 = 124
  · replace h := za_ifp h q10
    refine zt_lookup C (off := 91) 92 dX5_levelOf_1 (by decide) (by rw [q10]; decide) (by decide) ?_
    refine zt_iconst C (v := 0) dX5_levelOf_92 zk_i0 ?_
    exact zt_ret C hr hk rfl dX5_levelOf_93 h
  replace h := za_ifn h q10
  refine zt_lookup C (off := 101) 102 dX5_levelOf_1 (by decide) (by show Op.lookupswitch.offset [(37, 99), (38, 93), (42, 99), (43, 97), (45, 97), (47, 99), (60, 95), (61, 95), (62, 95), (124, 91)] 101 _ = _; rw [lv_osw q1 (by decide), lv_osw q2 (by decide), lv_osw q3 (by decide), lv_osw q4 (by decide), lv_osw q5 (by decide), lv_osw q6 (by decide), lv_osw q7 (by decide), lv_osw q8 (by decide), lv_osw q9 (by decide), lv_osw q10 (by decide)]; rfl) (by decide) ?_
  refine zt_iconst C (v := (-1)) dX5_levelOf_102 zk_im1 ?_
  exact zt_ret C hr hk rfl dX5_levelOf_103 h
end
theorem m_X5_levelOf {l : Launch} {g : za_L → Nat} {D : va_G} {cy : Nat → ClassId} (hJ : za_J g)  {x0 : Int32} {M : za_M} {K : Int32 → za_M → Prop} (h : f_X5_levelOf x0 M K) : za_Mi l g D cy yX5_levelOf cX5_levelOf 1 (some .int) 1 64 [.int x0] M K := za_openi hJ (by decide) (Nat.le_of_ble_eq_true rfl) (fun p e s m args below meth c C hr hk => p_X5_levelOf hJ C hr hk  h)
/-! X5_add -/
def f_X5_add (x1 : Int32) (M : za_M) (K : za_M → Prop) : Prop :=
  if 50 ≤ (M.1 (7, 0, 0) 3) then (K M) else (vp_in (M.1 (7, 0, 0) 3) 50 ∧ (za_let (za_up M (20, 0, 0) (M.1 (7, 0, 0) 3).toNatClampNeg x1) fun M3 => za_let ((M3.1 (7, 0, 0) 3) + 1) fun y5 => za_let (za_up M3 (7, 0, 0) 3 y5) fun M7 => K M7))
section
variable {p : Program} {l : Launch} {e : Env} {s : State} {m : MethodId} {args : Array Value} {below : List Frame} {meth : Method} {c : Code} {g : za_L → Nat} {D : va_G} {cy : Nat → ClassId} {K : za_M → Prop}
set_option maxRecDepth 100000 in
set_option maxHeartbeats 4000000 in
theorem p_X5_add (hJ : za_J g) (C : za_C p s m args c cX5_add 2 RX5 g D cy) (hr : meth.sig.returnType = none) (hk : meth.locks = false) {x1 : Int32} {M : za_M} (h : f_X5_add x1 M K) : zt p l e (za_rm 1 64) s m args below meth c 0 0 (MQ below (za_Qv g D cy K) args s 0 0 (za_A g)) g D cy 2 M 0 [(0, .ref (g (7, 0, 0))), (1, .int x1)] [] := by
  unfold f_X5_add at h
  refine zt_aload_n C 0 dX5_add_0 rfl rfl ?_
  refine zt_get C (za_mem (j := 7) rfl (by decide) (by decide)) pf_X5_38 (za_E_7 g cy M 0 0) rfl dX5_add_1 ?_
  refine zt_bipush C (v := 50) dX5_add_4 zk_b50 ?_
  refine zt_icmp_ge C 29 dX5_add_6 (by decide) (fun q1 => ?_) (fun q1 => ?_)
  · replace h := za_ifp h q1
    exact zt_vret C hr hk dX5_add_29 h
  · replace h := za_ifn h q1
    refine zt_aload_n C 0 dX5_add_9 rfl rfl ?_
    refine zt_get C (za_mem (j := 7) rfl (by decide) (by decide)) pf_X5_15 (za_E_7 g cy M 0 0) rfl dX5_add_10 ?_
    refine zt_aload_n C 0 dX5_add_13 rfl rfl ?_
    refine zt_get C (za_mem (j := 7) rfl (by decide) (by decide)) pf_X5_38 (za_E_7 g cy M 0 0) rfl dX5_add_14 ?_
    refine zt_iload_n C 1 dX5_add_17 rfl rfl ?_
    obtain ⟨g2, h⟩ := h
    refine zt_iast C (za_mem (j := 20) rfl (by decide) (by decide)) (fun W9 => za_E_20 g cy W9 0 0) g2 dX5_add_18 ?_
    refine zt_topM (fun M3 e4 => ?_)
    replace h := za_use h e4
    refine zt_aload_n C 0 dX5_add_19 rfl rfl ?_
    refine zt_dup C dX5_add_20 rfl ?_
    refine zt_get C (za_mem (j := 7) rfl (by decide) (by decide)) pf_X5_38 (za_E_7 g cy M3 0 0) rfl dX5_add_21 ?_
    refine zt_iconst C (v := 1) dX5_add_24 zk_i1 ?_
    refine zt_iadd C dX5_add_25 ?_
    refine zt_topi (fun y5 e6 => ?_)
    replace h := za_use h e6
    refine zt_put C (za_mem (j := 7) rfl (by decide) (by decide)) pf_X5_38 pt_X5_3 rfl rfl (za_E_7 g cy M3 0 0) rfl (Nat.le_of_ble_eq_true rfl) dX5_add_26 ?_
    refine zt_topM (fun M7 e8 => ?_)
    replace h := za_use h e8
    exact zt_vret C hr hk dX5_add_29 h
end
theorem m_X5_add {l : Launch} {g : za_L → Nat} {D : va_G} {cy : Nat → ClassId} (hJ : za_J g)  {x1 : Int32} {M : za_M} {K : za_M → Prop} (h : f_X5_add x1 M K) : za_Mv l g D cy yX5_add cX5_add 2 none 1 64 [.ref (g (7, 0, 0)), .int x1] M K := za_openv hJ (by decide) (Nat.le_of_ble_eq_true rfl) (fun p e s m args below meth c C hr hk => p_X5_add hJ C hr hk  h)
/-! X5_isDigit -/
def f_X5_isDigit (x0 : Int32) (M : za_M) (K : Int32 → za_M → Prop) : Prop :=
  f_X9_within x0 48 57 M (fun r2 M1 => za_B r2 ∧ (K r2 M1))
section
variable {p : Program} {l : Launch} {e : Env} {s : State} {m : MethodId} {args : Array Value} {below : List Frame} {meth : Method} {c : Code} {g : za_L → Nat} {D : va_G} {cy : Nat → ClassId} {K : Int32 → za_M → Prop}
set_option maxRecDepth 100000 in
set_option maxHeartbeats 4000000 in
theorem p_X5_isDigit (hJ : za_J g) (C : za_C p s m args c cX5_isDigit 1 RX5 g D cy) (hr : meth.sig.returnType = (some .boolean)) (hk : meth.locks = false) {x0 : Int32} {M : za_M} (h : f_X5_isDigit x0 M K) : zt p l e (za_rm 2 86) s m args below meth c 0 0 (MQ below (za_Qi g D cy K) args s 0 0 (za_A g)) g D cy 1 M 0 [(0, .int x0)] [] := by
  unfold f_X5_isDigit at h
  refine zt_iload_n C 0 dX5_isDigit_0 rfl rfl ?_
  refine zt_bipush C (v := 48) dX5_isDigit_1 zk_b48 ?_
  refine zt_bipush C (v := 57) dX5_isDigit_3 zk_b57 ?_
  refine zt_cNi C [.int x0, .int 48, .int 57] (m_X9_within hJ  h) py_X9_within pn_X5_75 (Nat.le_of_ble_eq_true rfl) ⟨Nat.le_of_ble_eq_true rfl, Nat.le_of_ble_eq_true rfl⟩ ⟨Nat.zero_le _, Nat.zero_le _⟩ dX5_isDigit_5 rfl (fun r2 M1 h => ?_)
  obtain ⟨g3, h⟩ := h
  exact zt_ret C hr hk (za_Bn g3) dX5_isDigit_8 h
end
theorem m_X5_isDigit {l : Launch} {g : za_L → Nat} {D : va_G} {cy : Nat → ClassId} (hJ : za_J g)  {x0 : Int32} {M : za_M} {K : Int32 → za_M → Prop} (h : f_X5_isDigit x0 M K) : za_Mi l g D cy yX5_isDigit cX5_isDigit 1 (some .boolean) 2 86 [.int x0] M K := za_openi hJ (by decide) (Nat.le_of_ble_eq_true rfl) (fun p e s m args below meth c C hr hk => p_X5_isDigit hJ C hr hk  h)

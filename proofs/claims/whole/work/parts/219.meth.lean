/-! X10_isLoan -/
def f_X10_isLoan (x1 : Int32) (M : za_M) (K : Int32 → za_M → Prop) : Prop :=
  vp_in 3 279 ∧ (f_X10_within x1 0 ((M.1 (28, 0, 0) (Int32.toNatClampNeg 3)) - 1) M (fun r3 M2 => za_B r3 ∧ (K r3 M2)))
section
variable {p : Program} {l : Launch} {e : Env} {s : State} {m : MethodId} {args : Array Value} {below : List Frame} {meth : Method} {c : Code} {g : za_L → Nat} {D : va_G} {cy : Nat → ClassId} {K : Int32 → za_M → Prop}
set_option maxRecDepth 100000 in
set_option maxHeartbeats 4000000 in
theorem p_X10_isLoan (hJ : za_J g) (C : za_C p s m args c cX10_isLoan 2 RX10 g D cy) (hr : meth.sig.returnType = (some .boolean)) (hk : meth.locks = false) {x1 : Int32} {M : za_M} (h : f_X10_isLoan x1 M K) : zt p l e (za_rm 2 86) s m args below meth c 0 0 (MQ below (za_Qi g D cy K) args s 0 0 (za_A g)) g D cy 2 M 0 [(0, .ref (g (27, 0, 0))), (1, .int x1)] [] := by
  unfold f_X10_isLoan at h
  refine zt_iload_n C 1 dX10_isLoan_0 rfl rfl ?_
  refine zt_iconst C (v := 0) dX10_isLoan_1 zk_i0 ?_
  refine zt_aload_n C 0 dX10_isLoan_2 rfl rfl ?_
  refine zt_get C (za_mem (j := 27) rfl (by decide) (by decide)) pf_X10_9 (za_E_27 g cy M 0 0) rfl dX10_isLoan_3 ?_
  refine zt_iconst C (v := 3) dX10_isLoan_6 zk_i3 ?_
  obtain ⟨g1, h⟩ := h
  refine zt_iald C (za_mem (j := 28) rfl (by decide) (by decide)) (fun W9 => za_E_28 g cy W9 0 0) g1 dX10_isLoan_7 ?_
  refine zt_iconst C (v := 1) dX10_isLoan_8 zk_i1 ?_
  refine zt_isub C dX10_isLoan_9 ?_
  refine zt_cSi C [.int x1, .int 0, .int ((M.1 (28, 0, 0) (Int32.toNatClampNeg 3)) - 1)] (m_X10_within hJ  h) py_X10_within ps_X10_70 (Nat.le_of_ble_eq_true rfl) ⟨Nat.le_of_ble_eq_true rfl, Nat.le_of_ble_eq_true rfl⟩ ⟨Nat.zero_le _, Nat.zero_le _⟩ dX10_isLoan_10 rfl (fun r3 M2 h => ?_)
  obtain ⟨g4, h⟩ := h
  exact zt_ret C hr hk (za_Bn g4) dX10_isLoan_13 h
end
theorem m_X10_isLoan {l : Launch} {g : za_L → Nat} {D : va_G} {cy : Nat → ClassId} (hJ : za_J g)  {x1 : Int32} {M : za_M} {K : Int32 → za_M → Prop} (h : f_X10_isLoan x1 M K) : za_Mi l g D cy yX10_isLoan cX10_isLoan 2 (some .boolean) 2 86 [.ref (g (27, 0, 0)), .int x1] M K := za_openi hJ (by decide) (Nat.le_of_ble_eq_true rfl) (fun p e s m args below meth c C hr hk => p_X10_isLoan hJ C hr hk  h)
/-! X10_isKindM -/
def f_X10_isKindM (x0 : Int32) (M : za_M) (K : Int32 → za_M → Prop) : Prop :=
  f_X10_within x0 0 69 M (fun r2 M1 => za_B r2 ∧ (K r2 M1))
section
variable {p : Program} {l : Launch} {e : Env} {s : State} {m : MethodId} {args : Array Value} {below : List Frame} {meth : Method} {c : Code} {g : za_L → Nat} {D : va_G} {cy : Nat → ClassId} {K : Int32 → za_M → Prop}
set_option maxRecDepth 100000 in
set_option maxHeartbeats 4000000 in
theorem p_X10_isKindM (hJ : za_J g) (C : za_C p s m args c cX10_isKindM 1 RX10 g D cy) (hr : meth.sig.returnType = (some .boolean)) (hk : meth.locks = false) {x0 : Int32} {M : za_M} (h : f_X10_isKindM x0 M K) : zt p l e (za_rm 2 86) s m args below meth c 0 0 (MQ below (za_Qi g D cy K) args s 0 0 (za_A g)) g D cy 1 M 0 [(0, .int x0)] [] := by
  unfold f_X10_isKindM at h
  refine zt_iload_n C 0 dX10_isKindM_0 rfl rfl ?_
  refine zt_iconst C (v := 0) dX10_isKindM_1 zk_i0 ?_
  refine zt_bipush C (v := 69) dX10_isKindM_2 zk_b69 ?_
  refine zt_cSi C [.int x0, .int 0, .int 69] (m_X10_within hJ  h) py_X10_within ps_X10_70 (Nat.le_of_ble_eq_true rfl) ⟨Nat.le_of_ble_eq_true rfl, Nat.le_of_ble_eq_true rfl⟩ ⟨Nat.zero_le _, Nat.zero_le _⟩ dX10_isKindM_4 rfl (fun r2 M1 h => ?_)
  obtain ⟨g3, h⟩ := h
  exact zt_ret C hr hk (za_Bn g3) dX10_isKindM_7 h
end
theorem m_X10_isKindM {l : Launch} {g : za_L → Nat} {D : va_G} {cy : Nat → ClassId} (hJ : za_J g)  {x0 : Int32} {M : za_M} {K : Int32 → za_M → Prop} (h : f_X10_isKindM x0 M K) : za_Mi l g D cy yX10_isKindM cX10_isKindM 1 (some .boolean) 2 86 [.int x0] M K := za_openi hJ (by decide) (Nat.le_of_ble_eq_true rfl) (fun p e s m args below meth c C hr hk => p_X10_isKindM hJ C hr hk  h)
/-! X10_isDigit -/
def f_X10_isDigit (x0 : Int32) (M : za_M) (K : Int32 → za_M → Prop) : Prop :=
  f_X10_within x0 0 9 M (fun r2 M1 => za_B r2 ∧ (K r2 M1))
section
variable {p : Program} {l : Launch} {e : Env} {s : State} {m : MethodId} {args : Array Value} {below : List Frame} {meth : Method} {c : Code} {g : za_L → Nat} {D : va_G} {cy : Nat → ClassId} {K : Int32 → za_M → Prop}
set_option maxRecDepth 100000 in
set_option maxHeartbeats 4000000 in
theorem p_X10_isDigit (hJ : za_J g) (C : za_C p s m args c cX10_isDigit 1 RX10 g D cy) (hr : meth.sig.returnType = (some .boolean)) (hk : meth.locks = false) {x0 : Int32} {M : za_M} (h : f_X10_isDigit x0 M K) : zt p l e (za_rm 2 86) s m args below meth c 0 0 (MQ below (za_Qi g D cy K) args s 0 0 (za_A g)) g D cy 1 M 0 [(0, .int x0)] [] := by
  unfold f_X10_isDigit at h
  refine zt_iload_n C 0 dX10_isDigit_0 rfl rfl ?_
  refine zt_iconst C (v := 0) dX10_isDigit_1 zk_i0 ?_
  refine zt_bipush C (v := 9) dX10_isDigit_2 zk_b9 ?_
  refine zt_cSi C [.int x0, .int 0, .int 9] (m_X10_within hJ  h) py_X10_within ps_X10_70 (Nat.le_of_ble_eq_true rfl) ⟨Nat.le_of_ble_eq_true rfl, Nat.le_of_ble_eq_true rfl⟩ ⟨Nat.zero_le _, Nat.zero_le _⟩ dX10_isDigit_4 rfl (fun r2 M1 h => ?_)
  obtain ⟨g3, h⟩ := h
  exact zt_ret C hr hk (za_Bn g3) dX10_isDigit_7 h
end
theorem m_X10_isDigit {l : Launch} {g : za_L → Nat} {D : va_G} {cy : Nat → ClassId} (hJ : za_J g)  {x0 : Int32} {M : za_M} {K : Int32 → za_M → Prop} (h : f_X10_isDigit x0 M K) : za_Mi l g D cy yX10_isDigit cX10_isDigit 1 (some .boolean) 2 86 [.int x0] M K := za_openi hJ (by decide) (Nat.le_of_ble_eq_true rfl) (fun p e s m args below meth c C hr hk => p_X10_isDigit hJ C hr hk  h)
/-! X10_ashAt -/
def f_X10_ashAt (x0 : Int32) (x1 : Int32) (M : za_M) (K : Int32 → za_M → Prop) : Prop :=
  K ((7 + (4 * x0)) + x1) M
section
variable {p : Program} {l : Launch} {e : Env} {s : State} {m : MethodId} {args : Array Value} {below : List Frame} {meth : Method} {c : Code} {g : za_L → Nat} {D : va_G} {cy : Nat → ClassId} {K : Int32 → za_M → Prop}
set_option maxRecDepth 100000 in
set_option maxHeartbeats 4000000 in
theorem p_X10_ashAt (hJ : za_J g) (C : za_C p s m args c cX10_ashAt 2 RX10 g D cy) (hr : meth.sig.returnType = (some .int)) (hk : meth.locks = false) {x0 : Int32} {x1 : Int32} {M : za_M} (h : f_X10_ashAt x0 x1 M K) : zt p l e (za_rm 1 64) s m args below meth c 0 0 (MQ below (za_Qi g D cy K) args s 0 0 (za_A g)) g D cy 2 M 0 [(0, .int x0), (1, .int x1)] [] := by
  unfold f_X10_ashAt at h
  refine zt_bipush C (v := 7) dX10_ashAt_0 zk_b7 ?_
  refine zt_iconst C (v := 4) dX10_ashAt_2 zk_i4 ?_
  refine zt_iload_n C 0 dX10_ashAt_3 rfl rfl ?_
  refine zt_imul C dX10_ashAt_4 ?_
  refine zt_iadd C dX10_ashAt_5 ?_
  refine zt_iload_n C 1 dX10_ashAt_6 rfl rfl ?_
  refine zt_iadd C dX10_ashAt_7 ?_
  exact zt_ret C hr hk rfl dX10_ashAt_8 h
end
theorem m_X10_ashAt {l : Launch} {g : za_L → Nat} {D : va_G} {cy : Nat → ClassId} (hJ : za_J g)  {x0 : Int32} {x1 : Int32} {M : za_M} {K : Int32 → za_M → Prop} (h : f_X10_ashAt x0 x1 M K) : za_Mi l g D cy yX10_ashAt cX10_ashAt 2 (some .int) 1 64 [.int x0, .int x1] M K := za_openi hJ (by decide) (Nat.le_of_ble_eq_true rfl) (fun p e s m args below meth c C hr hk => p_X10_ashAt hJ C hr hk  h)
/-! X10_ashIs -/
def f_X10_ashIs (x1 : Int32) (x2 : Int32) (M : za_M) (K : Int32 → za_M → Prop) : Prop :=
  f_X10_ashAt x1 x2 M (fun r2 M1 => vp_in r2 279 ∧ (K (M1.1 (28, 0, 0) r2.toNatClampNeg) M1))
section
variable {p : Program} {l : Launch} {e : Env} {s : State} {m : MethodId} {args : Array Value} {below : List Frame} {meth : Method} {c : Code} {g : za_L → Nat} {D : va_G} {cy : Nat → ClassId} {K : Int32 → za_M → Prop}
set_option maxRecDepth 100000 in
set_option maxHeartbeats 4000000 in
theorem p_X10_ashIs (hJ : za_J g) (C : za_C p s m args c cX10_ashIs 3 RX10 g D cy) (hr : meth.sig.returnType = (some .int)) (hk : meth.locks = false) {x1 : Int32} {x2 : Int32} {M : za_M} (h : f_X10_ashIs x1 x2 M K) : zt p l e (za_rm 2 85) s m args below meth c 0 0 (MQ below (za_Qi g D cy K) args s 0 0 (za_A g)) g D cy 3 M 0 [(0, .ref (g (27, 0, 0))), (1, .int x1), (2, .int x2)] [] := by
  unfold f_X10_ashIs at h
  refine zt_aload_n C 0 dX10_ashIs_0 rfl rfl ?_
  refine zt_get C (za_mem (j := 27) rfl (by decide) (by decide)) pf_X10_9 (za_E_27 g cy M 0 0) rfl dX10_ashIs_1 ?_
  refine zt_iload_n C 1 dX10_ashIs_4 rfl rfl ?_
  refine zt_iload_n C 2 dX10_ashIs_5 rfl rfl ?_
  refine zt_cSi C [.int x1, .int x2] (m_X10_ashAt hJ  h) py_X10_ashAt ps_X10_156 (Nat.le_of_ble_eq_true rfl) ⟨Nat.le_of_ble_eq_true rfl, Nat.le_of_ble_eq_true rfl⟩ ⟨Nat.zero_le _, Nat.zero_le _⟩ dX10_ashIs_6 rfl (fun r2 M1 h => ?_)
  obtain ⟨g3, h⟩ := h
  refine zt_iald C (za_mem (j := 28) rfl (by decide) (by decide)) (fun W9 => za_E_28 g cy W9 0 0) g3 dX10_ashIs_9 ?_
  exact zt_ret C hr hk rfl dX10_ashIs_10 h
end
theorem m_X10_ashIs {l : Launch} {g : za_L → Nat} {D : va_G} {cy : Nat → ClassId} (hJ : za_J g)  {x1 : Int32} {x2 : Int32} {M : za_M} {K : Int32 → za_M → Prop} (h : f_X10_ashIs x1 x2 M K) : za_Mi l g D cy yX10_ashIs cX10_ashIs 3 (some .int) 2 85 [.ref (g (27, 0, 0)), .int x1, .int x2] M K := za_openi hJ (by decide) (Nat.le_of_ble_eq_true rfl) (fun p e s m args below meth c C hr hk => p_X10_ashIs hJ C hr hk  h)
/-! X10_potterAt -/
def f_X10_potterAt (x0 : Int32) (x1 : Int32) (M : za_M) (K : Int32 → za_M → Prop) : Prop :=
  K ((27 + (7 * x0)) + x1) M
section
variable {p : Program} {l : Launch} {e : Env} {s : State} {m : MethodId} {args : Array Value} {below : List Frame} {meth : Method} {c : Code} {g : za_L → Nat} {D : va_G} {cy : Nat → ClassId} {K : Int32 → za_M → Prop}
set_option maxRecDepth 100000 in
set_option maxHeartbeats 4000000 in
theorem p_X10_potterAt (hJ : za_J g) (C : za_C p s m args c cX10_potterAt 2 RX10 g D cy) (hr : meth.sig.returnType = (some .int)) (hk : meth.locks = false) {x0 : Int32} {x1 : Int32} {M : za_M} (h : f_X10_potterAt x0 x1 M K) : zt p l e (za_rm 1 64) s m args below meth c 0 0 (MQ below (za_Qi g D cy K) args s 0 0 (za_A g)) g D cy 2 M 0 [(0, .int x0), (1, .int x1)] [] := by
  unfold f_X10_potterAt at h
  refine zt_bipush C (v := 27) dX10_potterAt_0 zk_b27 ?_
  refine zt_bipush C (v := 7) dX10_potterAt_2 zk_b7 ?_
  refine zt_iload_n C 0 dX10_potterAt_4 rfl rfl ?_
  refine zt_imul C dX10_potterAt_5 ?_
  refine zt_iadd C dX10_potterAt_6 ?_
  refine zt_iload_n C 1 dX10_potterAt_7 rfl rfl ?_
  refine zt_iadd C dX10_potterAt_8 ?_
  exact zt_ret C hr hk rfl dX10_potterAt_9 h
end
theorem m_X10_potterAt {l : Launch} {g : za_L → Nat} {D : va_G} {cy : Nat → ClassId} (hJ : za_J g)  {x0 : Int32} {x1 : Int32} {M : za_M} {K : Int32 → za_M → Prop} (h : f_X10_potterAt x0 x1 M K) : za_Mi l g D cy yX10_potterAt cX10_potterAt 2 (some .int) 1 64 [.int x0, .int x1] M K := za_openi hJ (by decide) (Nat.le_of_ble_eq_true rfl) (fun p e s m args below meth c C hr hk => p_X10_potterAt hJ C hr hk  h)
/-! X10_storeAt -/
def f_X10_storeAt (x0 : Int32) (x1 : Int32) (M : za_M) (K : Int32 → za_M → Prop) : Prop :=
  K (((27 + (7 * x0)) + 2) + x1) M
section
variable {p : Program} {l : Launch} {e : Env} {s : State} {m : MethodId} {args : Array Value} {below : List Frame} {meth : Method} {c : Code} {g : za_L → Nat} {D : va_G} {cy : Nat → ClassId} {K : Int32 → za_M → Prop}
set_option maxRecDepth 100000 in
set_option maxHeartbeats 4000000 in
theorem p_X10_storeAt (hJ : za_J g) (C : za_C p s m args c cX10_storeAt 2 RX10 g D cy) (hr : meth.sig.returnType = (some .int)) (hk : meth.locks = false) {x0 : Int32} {x1 : Int32} {M : za_M} (h : f_X10_storeAt x0 x1 M K) : zt p l e (za_rm 1 64) s m args below meth c 0 0 (MQ below (za_Qi g D cy K) args s 0 0 (za_A g)) g D cy 2 M 0 [(0, .int x0), (1, .int x1)] [] := by
  unfold f_X10_storeAt at h
  refine zt_bipush C (v := 27) dX10_storeAt_0 zk_b27 ?_
  refine zt_bipush C (v := 7) dX10_storeAt_2 zk_b7 ?_
  refine zt_iload_n C 0 dX10_storeAt_4 rfl rfl ?_
  refine zt_imul C dX10_storeAt_5 ?_
  refine zt_iadd C dX10_storeAt_6 ?_
  refine zt_iconst C (v := 2) dX10_storeAt_7 zk_i2 ?_
  refine zt_iadd C dX10_storeAt_8 ?_
  refine zt_iload_n C 1 dX10_storeAt_9 rfl rfl ?_
  refine zt_iadd C dX10_storeAt_10 ?_
  exact zt_ret C hr hk rfl dX10_storeAt_11 h
end
theorem m_X10_storeAt {l : Launch} {g : za_L → Nat} {D : va_G} {cy : Nat → ClassId} (hJ : za_J g)  {x0 : Int32} {x1 : Int32} {M : za_M} {K : Int32 → za_M → Prop} (h : f_X10_storeAt x0 x1 M K) : za_Mi l g D cy yX10_storeAt cX10_storeAt 2 (some .int) 1 64 [.int x0, .int x1] M K := za_openi hJ (by decide) (Nat.le_of_ble_eq_true rfl) (fun p e s m args below meth c C hr hk => p_X10_storeAt hJ C hr hk  h)
/-! X10_loanAt -/
def f_X10_loanAt (x0 : Int32) (x1 : Int32) (M : za_M) (K : Int32 → za_M → Prop) : Prop :=
  K ((55 + (5 * x0)) + x1) M
section
variable {p : Program} {l : Launch} {e : Env} {s : State} {m : MethodId} {args : Array Value} {below : List Frame} {meth : Method} {c : Code} {g : za_L → Nat} {D : va_G} {cy : Nat → ClassId} {K : Int32 → za_M → Prop}
set_option maxRecDepth 100000 in
set_option maxHeartbeats 4000000 in
theorem p_X10_loanAt (hJ : za_J g) (C : za_C p s m args c cX10_loanAt 2 RX10 g D cy) (hr : meth.sig.returnType = (some .int)) (hk : meth.locks = false) {x0 : Int32} {x1 : Int32} {M : za_M} (h : f_X10_loanAt x0 x1 M K) : zt p l e (za_rm 1 64) s m args below meth c 0 0 (MQ below (za_Qi g D cy K) args s 0 0 (za_A g)) g D cy 2 M 0 [(0, .int x0), (1, .int x1)] [] := by
  unfold f_X10_loanAt at h
  refine zt_bipush C (v := 55) dX10_loanAt_0 zk_b55 ?_
  refine zt_iconst C (v := 5) dX10_loanAt_2 zk_i5 ?_
  refine zt_iload_n C 0 dX10_loanAt_3 rfl rfl ?_
  refine zt_imul C dX10_loanAt_4 ?_
  refine zt_iadd C dX10_loanAt_5 ?_
  refine zt_iload_n C 1 dX10_loanAt_6 rfl rfl ?_
  refine zt_iadd C dX10_loanAt_7 ?_
  exact zt_ret C hr hk rfl dX10_loanAt_8 h
end
theorem m_X10_loanAt {l : Launch} {g : za_L → Nat} {D : va_G} {cy : Nat → ClassId} (hJ : za_J g)  {x0 : Int32} {x1 : Int32} {M : za_M} {K : Int32 → za_M → Prop} (h : f_X10_loanAt x0 x1 M K) : za_Mi l g D cy yX10_loanAt cX10_loanAt 2 (some .int) 1 64 [.int x0, .int x1] M K := za_openi hJ (by decide) (Nat.le_of_ble_eq_true rfl) (fun p e s m args below meth c C hr hk => p_X10_loanAt hJ C hr hk  h)
/-! X10_loanIs -/
def f_X10_loanIs (x1 : Int32) (x2 : Int32) (M : za_M) (K : Int32 → za_M → Prop) : Prop :=
  f_X10_loanAt x1 x2 M (fun r2 M1 => vp_in r2 279 ∧ (K (M1.1 (28, 0, 0) r2.toNatClampNeg) M1))
section
variable {p : Program} {l : Launch} {e : Env} {s : State} {m : MethodId} {args : Array Value} {below : List Frame} {meth : Method} {c : Code} {g : za_L → Nat} {D : va_G} {cy : Nat → ClassId} {K : Int32 → za_M → Prop}
set_option maxRecDepth 100000 in
set_option maxHeartbeats 4000000 in
theorem p_X10_loanIs (hJ : za_J g) (C : za_C p s m args c cX10_loanIs 3 RX10 g D cy) (hr : meth.sig.returnType = (some .int)) (hk : meth.locks = false) {x1 : Int32} {x2 : Int32} {M : za_M} (h : f_X10_loanIs x1 x2 M K) : zt p l e (za_rm 2 85) s m args below meth c 0 0 (MQ below (za_Qi g D cy K) args s 0 0 (za_A g)) g D cy 3 M 0 [(0, .ref (g (27, 0, 0))), (1, .int x1), (2, .int x2)] [] := by
  unfold f_X10_loanIs at h
  refine zt_aload_n C 0 dX10_loanIs_0 rfl rfl ?_
  refine zt_get C (za_mem (j := 27) rfl (by decide) (by decide)) pf_X10_9 (za_E_27 g cy M 0 0) rfl dX10_loanIs_1 ?_
  refine zt_iload_n C 1 dX10_loanIs_4 rfl rfl ?_
  refine zt_iload_n C 2 dX10_loanIs_5 rfl rfl ?_
  refine zt_cSi C [.int x1, .int x2] (m_X10_loanAt hJ  h) py_X10_loanAt ps_X10_159 (Nat.le_of_ble_eq_true rfl) ⟨Nat.le_of_ble_eq_true rfl, Nat.le_of_ble_eq_true rfl⟩ ⟨Nat.zero_le _, Nat.zero_le _⟩ dX10_loanIs_6 rfl (fun r2 M1 h => ?_)
  obtain ⟨g3, h⟩ := h
  refine zt_iald C (za_mem (j := 28) rfl (by decide) (by decide)) (fun W9 => za_E_28 g cy W9 0 0) g3 dX10_loanIs_9 ?_
  exact zt_ret C hr hk rfl dX10_loanIs_10 h
end
theorem m_X10_loanIs {l : Launch} {g : za_L → Nat} {D : va_G} {cy : Nat → ClassId} (hJ : za_J g)  {x1 : Int32} {x2 : Int32} {M : za_M} {K : Int32 → za_M → Prop} (h : f_X10_loanIs x1 x2 M K) : za_Mi l g D cy yX10_loanIs cX10_loanIs 3 (some .int) 2 85 [.ref (g (27, 0, 0)), .int x1, .int x2] M K := za_openi hJ (by decide) (Nat.le_of_ble_eq_true rfl) (fun p e s m args below meth c C hr hk => p_X10_loanIs hJ C hr hk  h)
/-! X10_ashComes -/
def f_X10_ashComes_b59 (K : Int32 → za_M → Prop) (x2 : Int32) (L59 : Int32 → za_M → Prop) (x3 : Int32) (M : za_M) : Prop :=
  if 4 ≤ x3 then (vp_in 1 279 ∧ (za_let ((M.1 (28, 0, 0) (Int32.toNatClampNeg 1)) + 1) fun y3 => vp_in 1 279 ∧ (za_let (za_up M (28, 0, 0) (Int32.toNatClampNeg 1) y3) fun M6 => K x2 M6))) else (f_X10_storeAt x3 x2 M (fun r9 M8 => vp_in r9 279 ∧ (za_let (za_up M8 (28, 0, 0) r9.toNatClampNeg 0) fun M11 => L59 (x3 + 1) M11)))
def f_X10_ashComes (x1 : Int32) (M : za_M) (K : Int32 → za_M → Prop) : Prop :=
  vp_in 1 279 ∧ (za_let (M.1 (28, 0, 0) (Int32.toNatClampNeg 1)) fun y14 => f_X10_ashAt y14 0 M (fun r17 M16 => za_let (x1 / 10) fun y18 => vp_in r17 279 ∧ (za_let (za_up M16 (28, 0, 0) r17.toNatClampNeg y18) fun M21 => f_X10_ashAt y14 1 M21 (fun r24 M23 => za_let (x1 - x1 / 10 * 10) fun y25 => vp_in r24 279 ∧ (za_let (za_up M23 (28, 0, 0) r24.toNatClampNeg y25) fun M28 => f_X10_ashAt y14 2 M28 (fun r31 M30 => vp_in r31 279 ∧ (za_let (za_up M30 (28, 0, 0) r31.toNatClampNeg 0) fun M33 => f_X10_ashAt y14 3 M33 (fun r36 M35 => vp_in r36 279 ∧ (za_let (za_up M35 (28, 0, 0) r36.toNatClampNeg 0) fun M38 => ∃ n, za_lp1 (f_X10_ashComes_b59 K y14) n 0 M38)))))))))
section
variable {p : Program} {l : Launch} {e : Env} {s : State} {m : MethodId} {args : Array Value} {below : List Frame} {meth : Method} {c : Code} {g : za_L → Nat} {D : va_G} {cy : Nat → ClassId} {K : Int32 → za_M → Prop}
set_option maxRecDepth 100000 in
set_option maxHeartbeats 4000000 in
theorem p_X10_ashComes_b59 (hJ : za_J g) (C : za_C p s m args c cX10_ashComes 4 RX10 g D cy) (hr : meth.sig.returnType = (some .int)) (hk : meth.locks = false) {x2 : Int32} {L59 : Int32 → za_M → Prop} (hL59 : ∀ (x3 : Int32) (M : za_M), L59 x3 M → zt p l e (za_rm 2 85) s m args below meth c 0 0 (MQ below (za_Qi g D cy K) args s 0 0 (za_A g)) g D cy 4 M 59 [(0, .ref (g (27, 0, 0))), (2, .int x2), (3, .int x3)] []) : ∀ (x3 : Int32) (M : za_M), f_X10_ashComes_b59 K x2 L59 x3 M → zt p l e (za_rm 2 85) s m args below meth c 0 0 (MQ below (za_Qi g D cy K) args s 0 0 (za_A g)) g D cy 4 M 59 [(0, .ref (g (27, 0, 0))), (2, .int x2), (3, .int x3)] [] := by
  intro x3 M h
  unfold f_X10_ashComes_b59 at h
  refine zt_iload_n C 2 dX10_ashComes_59 rfl rfl ?_
  refine zt_iconst C (v := 4) dX10_ashComes_60 zk_i4 ?_
  refine zt_icmp_ge C 81 dX10_ashComes_61 (by decide) (fun q1 => ?_) (fun q1 => ?_)
  · replace h := za_ifp h q1
    refine zt_aload_n C 0 dX10_ashComes_81 rfl rfl ?_
    refine zt_get C (za_mem (j := 27) rfl (by decide) (by decide)) pf_X10_9 (za_E_27 g cy M 0 0) rfl dX10_ashComes_82 ?_
    refine zt_iconst C (v := 1) dX10_ashComes_85 zk_i1 ?_
    refine zt_dup2_11 C dX10_ashComes_86 rfl rfl ?_
    obtain ⟨g2, h⟩ := h
    refine zt_iald C (za_mem (j := 28) rfl (by decide) (by decide)) (fun W9 => za_E_28 g cy W9 0 0) g2 dX10_ashComes_87 ?_
    refine zt_iconst C (v := 1) dX10_ashComes_88 zk_i1 ?_
    refine zt_iadd C dX10_ashComes_89 ?_
    refine zt_topi (fun y3 e4 => ?_)
    replace h := za_use h e4
    obtain ⟨g5, h⟩ := h
    refine zt_iast C (za_mem (j := 28) rfl (by decide) (by decide)) (fun W9 => za_E_28 g cy W9 0 0) g5 dX10_ashComes_90 ?_
    refine zt_topM (fun M6 e7 => ?_)
    replace h := za_use h e7
    refine zt_iload_n C 1 dX10_ashComes_91 rfl rfl ?_
    exact zt_ret C hr hk rfl dX10_ashComes_92 h
  · replace h := za_ifn h q1
    refine zt_aload_n C 0 dX10_ashComes_64 rfl rfl ?_
    refine zt_get C (za_mem (j := 27) rfl (by decide) (by decide)) pf_X10_9 (za_E_27 g cy M 0 0) rfl dX10_ashComes_65 ?_
    refine zt_iload_n C 2 dX10_ashComes_68 rfl rfl ?_
    refine zt_iload_n C 1 dX10_ashComes_69 rfl rfl ?_
    refine zt_cSi C [.int x3, .int x2] (m_X10_storeAt hJ  h) py_X10_storeAt ps_X10_162 (Nat.le_of_ble_eq_true rfl) ⟨Nat.le_of_ble_eq_true rfl, Nat.le_of_ble_eq_true rfl⟩ ⟨Nat.zero_le _, Nat.zero_le _⟩ dX10_ashComes_70 rfl (fun r9 M8 h => ?_)
    refine zt_iconst C (v := 0) dX10_ashComes_73 zk_i0 ?_
    obtain ⟨g10, h⟩ := h
    refine zt_iast C (za_mem (j := 28) rfl (by decide) (by decide)) (fun W9 => za_E_28 g cy W9 0 0) g10 dX10_ashComes_74 ?_
    refine zt_topM (fun M11 e12 => ?_)
    replace h := za_use h e12
    refine zt_iinc C (v := x3 + 1) 2 [(3, .int (x3 + 1)), (0, .ref (g (27, 0, 0))), (2, .int x2)] dX10_ashComes_75 rfl (zk_n1 _) (by decide) rfl ?_
    refine zt_goto C 59 dX10_ashComes_78 (by decide) ?_
    refine zt_sub [1, 2, 0] (lv' := [(0, .ref (g (27, 0, 0))), (2, .int x2), (3, .int (x3 + 1))]) rfl ?_
    exact hL59 _ _ h
theorem p_X10_ashComes_b59_in (hJ : za_J g) (C : za_C p s m args c cX10_ashComes 4 RX10 g D cy) (hr : meth.sig.returnType = (some .int)) (hk : meth.locks = false) {x2 : Int32} {n : Nat} {x3 : Int32} {M : za_M} (h : za_lp1 (f_X10_ashComes_b59 K x2) n x3 M) : zt p l e (za_rm 2 85) s m args below meth c 0 0 (MQ below (za_Qi g D cy K) args s 0 0 (za_A g)) g D cy 4 M 59 [(0, .ref (g (27, 0, 0))), (2, .int x2), (3, .int x3)] [] := za_lp1_run (Z := fun x3 M => zt p l e (za_rm 2 85) s m args below meth c 0 0 (MQ below (za_Qi g D cy K) args s 0 0 (za_A g)) g D cy 4 M 59 [(0, .ref (g (27, 0, 0))), (2, .int x2), (3, .int x3)] []) (fun L hL => p_X10_ashComes_b59 hJ C hr hk  hL) n x3 M h
set_option maxRecDepth 100000 in
set_option maxHeartbeats 4000000 in
theorem p_X10_ashComes (hJ : za_J g) (C : za_C p s m args c cX10_ashComes 4 RX10 g D cy) (hr : meth.sig.returnType = (some .int)) (hk : meth.locks = false) {x1 : Int32} {M : za_M} (h : f_X10_ashComes x1 M K) : zt p l e (za_rm 2 85) s m args below meth c 0 0 (MQ below (za_Qi g D cy K) args s 0 0 (za_A g)) g D cy 4 M 0 [(0, .ref (g (27, 0, 0))), (1, .int x1)] [] := by
  unfold f_X10_ashComes at h
  refine zt_aload_n C 0 dX10_ashComes_0 rfl rfl ?_
  refine zt_get C (za_mem (j := 27) rfl (by decide) (by decide)) pf_X10_9 (za_E_27 g cy M 0 0) rfl dX10_ashComes_1 ?_
  refine zt_iconst C (v := 1) dX10_ashComes_4 zk_i1 ?_
  obtain ⟨g13, h⟩ := h
  refine zt_iald C (za_mem (j := 28) rfl (by decide) (by decide)) (fun W9 => za_E_28 g cy W9 0 0) g13 dX10_ashComes_5 ?_
  refine zt_topi (fun y14 e15 => ?_)
  replace h := za_use h e15
  refine zt_istore_n C [(2, .int y14), (0, .ref (g (27, 0, 0))), (1, .int x1)] dX10_ashComes_6 rfl (by decide) rfl ?_
  refine zt_aload_n C 1 dX10_ashComes_7 rfl rfl ?_
  refine zt_get C (za_mem (j := 27) rfl (by decide) (by decide)) pf_X10_9 (za_E_27 g cy M 0 0) rfl dX10_ashComes_8 ?_
  refine zt_iload_n C 0 dX10_ashComes_11 rfl rfl ?_
  refine zt_iconst C (v := 0) dX10_ashComes_12 zk_i0 ?_
  refine zt_cSi C [.int y14, .int 0] (m_X10_ashAt hJ  h) py_X10_ashAt ps_X10_156 (Nat.le_of_ble_eq_true rfl) ⟨Nat.le_of_ble_eq_true rfl, Nat.le_of_ble_eq_true rfl⟩ ⟨Nat.zero_le _, Nat.zero_le _⟩ dX10_ashComes_13 rfl (fun r17 M16 h => ?_)
  refine zt_iload_n C 2 dX10_ashComes_16 rfl rfl ?_
  refine zt_bipush C (v := 10) dX10_ashComes_17 zk_b10 ?_
  refine zt_idiv C dX10_ashComes_19 (by decide) ?_
  refine zt_topi (fun y18 e19 => ?_)
  replace h := za_use h e19
  obtain ⟨g20, h⟩ := h
  refine zt_iast C (za_mem (j := 28) rfl (by decide) (by decide)) (fun W9 => za_E_28 g cy W9 0 0) g20 dX10_ashComes_20 ?_
  refine zt_topM (fun M21 e22 => ?_)
  replace h := za_use h e22
  refine zt_aload_n C 1 dX10_ashComes_21 rfl rfl ?_
  refine zt_get C (za_mem (j := 27) rfl (by decide) (by decide)) pf_X10_9 (za_E_27 g cy M21 0 0) rfl dX10_ashComes_22 ?_
  refine zt_iload_n C 0 dX10_ashComes_25 rfl rfl ?_
  refine zt_iconst C (v := 1) dX10_ashComes_26 zk_i1 ?_
  refine zt_cSi C [.int y14, .int 1] (m_X10_ashAt hJ  h) py_X10_ashAt ps_X10_156 (Nat.le_of_ble_eq_true rfl) ⟨Nat.le_of_ble_eq_true rfl, Nat.le_of_ble_eq_true rfl⟩ ⟨Nat.zero_le _, Nat.zero_le _⟩ dX10_ashComes_27 rfl (fun r24 M23 h => ?_)
  refine zt_iload_n C 2 dX10_ashComes_30 rfl rfl ?_
  refine zt_bipush C (v := 10) dX10_ashComes_31 zk_b10 ?_
  refine zt_irem C dX10_ashComes_33 (by decide) ?_
  refine zt_topi (fun y25 e26 => ?_)
  replace h := za_use h e26
  obtain ⟨g27, h⟩ := h
  refine zt_iast C (za_mem (j := 28) rfl (by decide) (by decide)) (fun W9 => za_E_28 g cy W9 0 0) g27 dX10_ashComes_34 ?_
  refine zt_topM (fun M28 e29 => ?_)
  replace h := za_use h e29
  refine zt_aload_n C 1 dX10_ashComes_35 rfl rfl ?_
  refine zt_get C (za_mem (j := 27) rfl (by decide) (by decide)) pf_X10_9 (za_E_27 g cy M28 0 0) rfl dX10_ashComes_36 ?_
  refine zt_iload_n C 0 dX10_ashComes_39 rfl rfl ?_
  refine zt_iconst C (v := 2) dX10_ashComes_40 zk_i2 ?_
  refine zt_cSi C [.int y14, .int 2] (m_X10_ashAt hJ  h) py_X10_ashAt ps_X10_156 (Nat.le_of_ble_eq_true rfl) ⟨Nat.le_of_ble_eq_true rfl, Nat.le_of_ble_eq_true rfl⟩ ⟨Nat.zero_le _, Nat.zero_le _⟩ dX10_ashComes_41 rfl (fun r31 M30 h => ?_)
  refine zt_iconst C (v := 0) dX10_ashComes_44 zk_i0 ?_
  obtain ⟨g32, h⟩ := h
  refine zt_iast C (za_mem (j := 28) rfl (by decide) (by decide)) (fun W9 => za_E_28 g cy W9 0 0) g32 dX10_ashComes_45 ?_
  refine zt_topM (fun M33 e34 => ?_)
  replace h := za_use h e34
  refine zt_aload_n C 1 dX10_ashComes_46 rfl rfl ?_
  refine zt_get C (za_mem (j := 27) rfl (by decide) (by decide)) pf_X10_9 (za_E_27 g cy M33 0 0) rfl dX10_ashComes_47 ?_
  refine zt_iload_n C 0 dX10_ashComes_50 rfl rfl ?_
  refine zt_iconst C (v := 3) dX10_ashComes_51 zk_i3 ?_
  refine zt_cSi C [.int y14, .int 3] (m_X10_ashAt hJ  h) py_X10_ashAt ps_X10_156 (Nat.le_of_ble_eq_true rfl) ⟨Nat.le_of_ble_eq_true rfl, Nat.le_of_ble_eq_true rfl⟩ ⟨Nat.zero_le _, Nat.zero_le _⟩ dX10_ashComes_52 rfl (fun r36 M35 h => ?_)
  refine zt_iconst C (v := 0) dX10_ashComes_55 zk_i0 ?_
  obtain ⟨g37, h⟩ := h
  refine zt_iast C (za_mem (j := 28) rfl (by decide) (by decide)) (fun W9 => za_E_28 g cy W9 0 0) g37 dX10_ashComes_56 ?_
  refine zt_topM (fun M38 e39 => ?_)
  replace h := za_use h e39
  refine zt_iconst C (v := 0) dX10_ashComes_57 zk_i0 ?_
  refine zt_istore_n C [(3, .int 0), (2, .int y14), (0, .ref (g (27, 0, 0))), (1, .int x1)] dX10_ashComes_58 rfl (by decide) rfl ?_
  refine zt_sub [2, 1, 0] (lv' := [(0, .ref (g (27, 0, 0))), (2, .int y14), (3, .int 0)]) rfl ?_
  obtain ⟨n, h⟩ := h
  exact p_X10_ashComes_b59_in hJ C hr hk  h
end
theorem m_X10_ashComes {l : Launch} {g : za_L → Nat} {D : va_G} {cy : Nat → ClassId} (hJ : za_J g)  {x1 : Int32} {M : za_M} {K : Int32 → za_M → Prop} (h : f_X10_ashComes x1 M K) : za_Mi l g D cy yX10_ashComes cX10_ashComes 4 (some .int) 2 85 [.ref (g (27, 0, 0)), .int x1] M K := za_openi hJ (by decide) (Nat.le_of_ble_eq_true rfl) (fun p e s m args below meth c C hr hk => p_X10_ashComes hJ C hr hk  h)
/-! X10_ash -/
def f_X10_ash (x1 : Int32) (M : za_M) (K : Int32 → za_M → Prop) : Prop :=
  f_X10_isKindM x1 M (fun r2 M1 => if r2 = 0 then (f_X10_finding (-1000000001) M1 (fun r11 M10 => K r11 M10)) else (vp_in 1 279 ∧ (if (M1.1 (28, 0, 0) (Int32.toNatClampNeg 1)) = 5 then (f_X10_finding (-1000000004) M1 (fun r9 M8 => K r9 M8)) else (f_X10_ashComes x1 M1 (fun r7 M6 => K r7 M6)))))
section
variable {p : Program} {l : Launch} {e : Env} {s : State} {m : MethodId} {args : Array Value} {below : List Frame} {meth : Method} {c : Code} {g : za_L → Nat} {D : va_G} {cy : Nat → ClassId} {K : Int32 → za_M → Prop}
set_option maxRecDepth 100000 in
set_option maxHeartbeats 4000000 in
theorem p_X10_ash (hJ : za_J g) (C : za_C p s m args c cX10_ash 2 RX10 g D cy) (hr : meth.sig.returnType = (some .int)) (hk : meth.locks = false) {x1 : Int32} {M : za_M} (h : f_X10_ash x1 M K) : zt p l e (za_rm 3 108) s m args below meth c 0 0 (MQ below (za_Qi g D cy K) args s 0 0 (za_A g)) g D cy 2 M 0 [(0, .ref (g (27, 0, 0))), (1, .int x1)] [] := by
  unfold f_X10_ash at h
  refine zt_iload_n C 1 dX10_ash_0 rfl rfl ?_
  refine zt_cSi C [.int x1] (m_X10_isKindM hJ  h) py_X10_isKindM ps_X10_165 (Nat.le_of_ble_eq_true rfl) ⟨Nat.le_of_ble_eq_true rfl, Nat.le_of_ble_eq_true rfl⟩ ⟨Nat.zero_le _, Nat.zero_le _⟩ dX10_ash_1 rfl (fun r2 M1 h => ?_)
  refine zt_if_ne C 14 dX10_ash_4 (by decide) (fun q3 => ?_) (fun q3 => ?_)
  · replace h := za_ifn h q3
    refine zt_aload_n C 0 dX10_ash_14 rfl rfl ?_
    refine zt_get C (za_mem (j := 27) rfl (by decide) (by decide)) pf_X10_9 (za_E_27 g cy M1 0 0) rfl dX10_ash_15 ?_
    refine zt_iconst C (v := 1) dX10_ash_18 zk_i1 ?_
    obtain ⟨g4, h⟩ := h
    refine zt_iald C (za_mem (j := 28) rfl (by decide) (by decide)) (fun W9 => za_E_28 g cy W9 0 0) g4 dX10_ash_19 ?_
    refine zt_iconst C (v := 5) dX10_ash_20 zk_i5 ?_
    refine zt_icmp_ne C 33 dX10_ash_21 (by decide) (fun q5 => ?_) (fun q5 => ?_)
    · replace h := za_ifn h q5
      refine zt_aload_n C 0 dX10_ash_33 rfl rfl ?_
      refine zt_iload_n C 1 dX10_ash_34 rfl rfl ?_
      refine zt_cVi C [.int x1] (m_X10_ashComes hJ  h) (za_mem (j := 27) rfl (by decide) (by decide)) (za_E_27 g cy M1 0 0) rfl py_X10_ashComes pv_X10_168 (Nat.le_of_ble_eq_true rfl) ⟨Nat.le_of_ble_eq_true rfl, Nat.le_of_ble_eq_true rfl⟩ ⟨Nat.zero_le _, Nat.zero_le _⟩ dX10_ash_35 rfl (fun r7 M6 h => ?_)
      exact zt_ret C hr hk rfl dX10_ash_38 h
    · replace h := za_ifp h q5
      refine zt_aload_n C 0 dX10_ash_24 rfl rfl ?_
      refine zt_ldc C w_975 dX10_ash_25 ?_
      refine zt_cVi C [.int (-1000000004)] (m_X10_finding hJ  h) (za_mem (j := 27) rfl (by decide) (by decide)) (za_E_27 g cy M1 0 0) rfl py_X10_finding pv_X10_75 (Nat.le_of_ble_eq_true rfl) ⟨Nat.le_of_ble_eq_true rfl, Nat.le_of_ble_eq_true rfl⟩ ⟨Nat.zero_le _, Nat.zero_le _⟩ dX10_ash_27 rfl (fun r9 M8 h => ?_)
      refine zt_goto C 38 dX10_ash_30 (by decide) ?_
      exact zt_ret C hr hk rfl dX10_ash_38 h
  · replace h := za_ifp h q3
    refine zt_aload_n C 0 dX10_ash_7 rfl rfl ?_
    refine zt_ldc C w_969 dX10_ash_8 ?_
    refine zt_cVi C [.int (-1000000001)] (m_X10_finding hJ  h) (za_mem (j := 27) rfl (by decide) (by decide)) (za_E_27 g cy M1 0 0) rfl py_X10_finding pv_X10_75 (Nat.le_of_ble_eq_true rfl) ⟨Nat.le_of_ble_eq_true rfl, Nat.le_of_ble_eq_true rfl⟩ ⟨Nat.zero_le _, Nat.zero_le _⟩ dX10_ash_10 rfl (fun r11 M10 h => ?_)
    exact zt_ret C hr hk rfl dX10_ash_13 h
end
theorem m_X10_ash {l : Launch} {g : za_L → Nat} {D : va_G} {cy : Nat → ClassId} (hJ : za_J g)  {x1 : Int32} {M : za_M} {K : Int32 → za_M → Prop} (h : f_X10_ash x1 M K) : za_Mi l g D cy yX10_ash cX10_ash 2 (some .int) 3 108 [.ref (g (27, 0, 0)), .int x1] M K := za_openi hJ (by decide) (Nat.le_of_ble_eq_true rfl) (fun p e s m args below meth c C hr hk => p_X10_ash hJ C hr hk  h)
/-! X10_allOf -/
def f_X10_allOf_b4 (K : Int32 → za_M → Prop) (x1 : Int32) (L4 : Int32 → Int32 → za_M → Prop) (x2 : Int32) (x3 : Int32) (M : za_M) : Prop :=
  vp_in 2 279 ∧ (if (M.1 (28, 0, 0) (Int32.toNatClampNeg 2)) ≤ x3 then (K x2 M) else (f_X10_storeAt x3 x1 M (fun r4 M3 => vp_in r4 279 ∧ (za_let (x2 + (M3.1 (28, 0, 0) r4.toNatClampNeg)) fun y6 => L4 y6 (x3 + 1) M3))))
def f_X10_allOf (x1 : Int32) (M : za_M) (K : Int32 → za_M → Prop) : Prop :=
  ∃ n, za_lp2 (f_X10_allOf_b4 K x1) n 0 0 M
section
variable {p : Program} {l : Launch} {e : Env} {s : State} {m : MethodId} {args : Array Value} {below : List Frame} {meth : Method} {c : Code} {g : za_L → Nat} {D : va_G} {cy : Nat → ClassId} {K : Int32 → za_M → Prop}
set_option maxRecDepth 100000 in
set_option maxHeartbeats 4000000 in
theorem p_X10_allOf_b4 (hJ : za_J g) (C : za_C p s m args c cX10_allOf 4 RX10 g D cy) (hr : meth.sig.returnType = (some .int)) (hk : meth.locks = false) {x1 : Int32} {L4 : Int32 → Int32 → za_M → Prop} (hL4 : ∀ (x2 : Int32) (x3 : Int32) (M : za_M), L4 x2 x3 M → zt p l e (za_rm 2 85) s m args below meth c 0 0 (MQ below (za_Qi g D cy K) args s 0 0 (za_A g)) g D cy 4 M 4 [(0, .ref (g (27, 0, 0))), (1, .int x1), (2, .int x2), (3, .int x3)] []) : ∀ (x2 : Int32) (x3 : Int32) (M : za_M), f_X10_allOf_b4 K x1 L4 x2 x3 M → zt p l e (za_rm 2 85) s m args below meth c 0 0 (MQ below (za_Qi g D cy K) args s 0 0 (za_A g)) g D cy 4 M 4 [(0, .ref (g (27, 0, 0))), (1, .int x1), (2, .int x2), (3, .int x3)] [] := by
  intro x2 x3 M h
  unfold f_X10_allOf_b4 at h
  refine zt_iload_n C 3 dX10_allOf_4 rfl rfl ?_
  refine zt_aload_n C 0 dX10_allOf_5 rfl rfl ?_
  refine zt_get C (za_mem (j := 27) rfl (by decide) (by decide)) pf_X10_9 (za_E_27 g cy M 0 0) rfl dX10_allOf_6 ?_
  refine zt_iconst C (v := 2) dX10_allOf_9 zk_i2 ?_
  obtain ⟨g1, h⟩ := h
  refine zt_iald C (za_mem (j := 28) rfl (by decide) (by decide)) (fun W9 => za_E_28 g cy W9 0 0) g1 dX10_allOf_10 ?_
  refine zt_icmp_ge C 33 dX10_allOf_11 (by decide) (fun q2 => ?_) (fun q2 => ?_)
  · replace h := za_ifp h q2
    refine zt_iload_n C 2 dX10_allOf_33 rfl rfl ?_
    exact zt_ret C hr hk rfl dX10_allOf_34 h
  · replace h := za_ifn h q2
    refine zt_iload_n C 2 dX10_allOf_14 rfl rfl ?_
    refine zt_aload_n C 0 dX10_allOf_15 rfl rfl ?_
    refine zt_get C (za_mem (j := 27) rfl (by decide) (by decide)) pf_X10_9 (za_E_27 g cy M 0 0) rfl dX10_allOf_16 ?_
    refine zt_iload_n C 3 dX10_allOf_19 rfl rfl ?_
    refine zt_iload_n C 1 dX10_allOf_20 rfl rfl ?_
    refine zt_cSi C [.int x3, .int x1] (m_X10_storeAt hJ  h) py_X10_storeAt ps_X10_162 (Nat.le_of_ble_eq_true rfl) ⟨Nat.le_of_ble_eq_true rfl, Nat.le_of_ble_eq_true rfl⟩ ⟨Nat.zero_le _, Nat.zero_le _⟩ dX10_allOf_21 rfl (fun r4 M3 h => ?_)
    obtain ⟨g5, h⟩ := h
    refine zt_iald C (za_mem (j := 28) rfl (by decide) (by decide)) (fun W9 => za_E_28 g cy W9 0 0) g5 dX10_allOf_24 ?_
    refine zt_iadd C dX10_allOf_25 ?_
    refine zt_topi (fun y6 e7 => ?_)
    replace h := za_use h e7
    refine zt_istore_n C [(2, .int y6), (0, .ref (g (27, 0, 0))), (1, .int x1), (3, .int x3)] dX10_allOf_26 rfl (by decide) rfl ?_
    refine zt_iinc C (v := x3 + 1) 3 [(3, .int (x3 + 1)), (2, .int y6), (0, .ref (g (27, 0, 0))), (1, .int x1)] dX10_allOf_27 rfl (zk_n1 _) (by decide) rfl ?_
    refine zt_goto C 4 dX10_allOf_30 (by decide) ?_
    refine zt_sub [2, 3, 1, 0] (lv' := [(0, .ref (g (27, 0, 0))), (1, .int x1), (2, .int y6), (3, .int (x3 + 1))]) rfl ?_
    exact hL4 _ _ _ h
theorem p_X10_allOf_b4_in (hJ : za_J g) (C : za_C p s m args c cX10_allOf 4 RX10 g D cy) (hr : meth.sig.returnType = (some .int)) (hk : meth.locks = false) {x1 : Int32} {n : Nat} {x2 : Int32} {x3 : Int32} {M : za_M} (h : za_lp2 (f_X10_allOf_b4 K x1) n x2 x3 M) : zt p l e (za_rm 2 85) s m args below meth c 0 0 (MQ below (za_Qi g D cy K) args s 0 0 (za_A g)) g D cy 4 M 4 [(0, .ref (g (27, 0, 0))), (1, .int x1), (2, .int x2), (3, .int x3)] [] := za_lp2_run (Z := fun x2 x3 M => zt p l e (za_rm 2 85) s m args below meth c 0 0 (MQ below (za_Qi g D cy K) args s 0 0 (za_A g)) g D cy 4 M 4 [(0, .ref (g (27, 0, 0))), (1, .int x1), (2, .int x2), (3, .int x3)] []) (fun L hL => p_X10_allOf_b4 hJ C hr hk  hL) n x2 x3 M h
set_option maxRecDepth 100000 in
set_option maxHeartbeats 4000000 in
theorem p_X10_allOf (hJ : za_J g) (C : za_C p s m args c cX10_allOf 4 RX10 g D cy) (hr : meth.sig.returnType = (some .int)) (hk : meth.locks = false) {x1 : Int32} {M : za_M} (h : f_X10_allOf x1 M K) : zt p l e (za_rm 2 85) s m args below meth c 0 0 (MQ below (za_Qi g D cy K) args s 0 0 (za_A g)) g D cy 4 M 0 [(0, .ref (g (27, 0, 0))), (1, .int x1)] [] := by
  unfold f_X10_allOf at h
  refine zt_iconst C (v := 0) dX10_allOf_0 zk_i0 ?_
  refine zt_istore_n C [(2, .int 0), (0, .ref (g (27, 0, 0))), (1, .int x1)] dX10_allOf_1 rfl (by decide) rfl ?_
  refine zt_iconst C (v := 0) dX10_allOf_2 zk_i0 ?_
  refine zt_istore_n C [(3, .int 0), (2, .int 0), (0, .ref (g (27, 0, 0))), (1, .int x1)] dX10_allOf_3 rfl (by decide) rfl ?_
  refine zt_sub [2, 3, 1, 0] (lv' := [(0, .ref (g (27, 0, 0))), (1, .int x1), (2, .int 0), (3, .int 0)]) rfl ?_
  obtain ⟨n, h⟩ := h
  exact p_X10_allOf_b4_in hJ C hr hk  h
end
theorem m_X10_allOf {l : Launch} {g : za_L → Nat} {D : va_G} {cy : Nat → ClassId} (hJ : za_J g)  {x1 : Int32} {M : za_M} {K : Int32 → za_M → Prop} (h : f_X10_allOf x1 M K) : za_Mi l g D cy yX10_allOf cX10_allOf 4 (some .int) 2 85 [.ref (g (27, 0, 0)), .int x1] M K := za_openi hJ (by decide) (Nat.le_of_ble_eq_true rfl) (fun p e s m args below meth c C hr hk => p_X10_allOf hJ C hr hk  h)
/-! X10_ofAsh -/
def f_X10_ofAsh (x1 : Int32) (x2 : Int32) (M : za_M) (K : Int32 → za_M → Prop) : Prop :=
  f_X10_isAsh x1 M (fun r2 M1 => if r2 = 0 then (f_X10_finding (-1000000001) M1 (fun r5 M4 => K r5 M4)) else (f_X10_within x2 0 4 M1 (fun r7 M6 => if r7 = 0 then (f_X10_finding (-1000000001) M6 (fun r15 M14 => K r15 M14)) else (if x2 = 4 then (f_X10_allOf x1 M6 (fun r13 M12 => K r13 M12)) else (f_X10_ashIs x1 x2 M6 (fun r11 M10 => K r11 M10))))))
section
variable {p : Program} {l : Launch} {e : Env} {s : State} {m : MethodId} {args : Array Value} {below : List Frame} {meth : Method} {c : Code} {g : za_L → Nat} {D : va_G} {cy : Nat → ClassId} {K : Int32 → za_M → Prop}
set_option maxRecDepth 100000 in
set_option maxHeartbeats 4000000 in
theorem p_X10_ofAsh (hJ : za_J g) (C : za_C p s m args c cX10_ofAsh 3 RX10 g D cy) (hr : meth.sig.returnType = (some .int)) (hk : meth.locks = false) {x1 : Int32} {x2 : Int32} {M : za_M} (h : f_X10_ofAsh x1 x2 M K) : zt p l e (za_rm 3 108) s m args below meth c 0 0 (MQ below (za_Qi g D cy K) args s 0 0 (za_A g)) g D cy 3 M 0 [(0, .ref (g (27, 0, 0))), (1, .int x1), (2, .int x2)] [] := by
  unfold f_X10_ofAsh at h
  refine zt_aload_n C 0 dX10_ofAsh_0 rfl rfl ?_
  refine zt_iload_n C 1 dX10_ofAsh_1 rfl rfl ?_
  refine zt_cVi C [.int x1] (m_X10_isAsh hJ  h) (za_mem (j := 27) rfl (by decide) (by decide)) (za_E_27 g cy M 0 0) rfl py_X10_isAsh pv_X10_171 (Nat.le_of_ble_eq_true rfl) ⟨Nat.le_of_ble_eq_true rfl, Nat.le_of_ble_eq_true rfl⟩ ⟨Nat.zero_le _, Nat.zero_le _⟩ dX10_ofAsh_2 rfl (fun r2 M1 h => ?_)
  refine zt_if_eq C 17 dX10_ofAsh_5 (by decide) (fun q3 => ?_) (fun q3 => ?_)
  · replace h := za_ifp h q3
    refine zt_aload_n C 0 dX10_ofAsh_17 rfl rfl ?_
    refine zt_ldc C w_969 dX10_ofAsh_18 ?_
    refine zt_cVi C [.int (-1000000001)] (m_X10_finding hJ  h) (za_mem (j := 27) rfl (by decide) (by decide)) (za_E_27 g cy M1 0 0) rfl py_X10_finding pv_X10_75 (Nat.le_of_ble_eq_true rfl) ⟨Nat.le_of_ble_eq_true rfl, Nat.le_of_ble_eq_true rfl⟩ ⟨Nat.zero_le _, Nat.zero_le _⟩ dX10_ofAsh_20 rfl (fun r5 M4 h => ?_)
    exact zt_ret C hr hk rfl dX10_ofAsh_23 h
  · replace h := za_ifn h q3
    refine zt_iload_n C 2 dX10_ofAsh_8 rfl rfl ?_
    refine zt_iconst C (v := 0) dX10_ofAsh_9 zk_i0 ?_
    refine zt_iconst C (v := 4) dX10_ofAsh_10 zk_i4 ?_
    refine zt_cSi C [.int x2, .int 0, .int 4] (m_X10_within hJ  h) py_X10_within ps_X10_70 (Nat.le_of_ble_eq_true rfl) ⟨Nat.le_of_ble_eq_true rfl, Nat.le_of_ble_eq_true rfl⟩ ⟨Nat.zero_le _, Nat.zero_le _⟩ dX10_ofAsh_11 rfl (fun r7 M6 h => ?_)
    refine zt_if_ne C 24 dX10_ofAsh_14 (by decide) (fun q8 => ?_) (fun q8 => ?_)
    · replace h := za_ifn h q8
      refine zt_iload_n C 2 dX10_ofAsh_24 rfl rfl ?_
      refine zt_iconst C (v := 4) dX10_ofAsh_25 zk_i4 ?_
      refine zt_icmp_ne C 37 dX10_ofAsh_26 (by decide) (fun q9 => ?_) (fun q9 => ?_)
      · replace h := za_ifn h q9
        refine zt_aload_n C 0 dX10_ofAsh_37 rfl rfl ?_
        refine zt_iload_n C 1 dX10_ofAsh_38 rfl rfl ?_
        refine zt_iload_n C 2 dX10_ofAsh_39 rfl rfl ?_
        refine zt_cVi C [.int x1, .int x2] (m_X10_ashIs hJ  h) (za_mem (j := 27) rfl (by decide) (by decide)) (za_E_27 g cy M6 0 0) rfl py_X10_ashIs pv_X10_177 (Nat.le_of_ble_eq_true rfl) ⟨Nat.le_of_ble_eq_true rfl, Nat.le_of_ble_eq_true rfl⟩ ⟨Nat.zero_le _, Nat.zero_le _⟩ dX10_ofAsh_40 rfl (fun r11 M10 h => ?_)
        exact zt_ret C hr hk rfl dX10_ofAsh_43 h
      · replace h := za_ifp h q9
        refine zt_aload_n C 0 dX10_ofAsh_29 rfl rfl ?_
        refine zt_iload_n C 1 dX10_ofAsh_30 rfl rfl ?_
        refine zt_cVi C [.int x1] (m_X10_allOf hJ  h) (za_mem (j := 27) rfl (by decide) (by decide)) (za_E_27 g cy M6 0 0) rfl py_X10_allOf pv_X10_174 (Nat.le_of_ble_eq_true rfl) ⟨Nat.le_of_ble_eq_true rfl, Nat.le_of_ble_eq_true rfl⟩ ⟨Nat.zero_le _, Nat.zero_le _⟩ dX10_ofAsh_31 rfl (fun r13 M12 h => ?_)
        refine zt_goto C 43 dX10_ofAsh_34 (by decide) ?_
        exact zt_ret C hr hk rfl dX10_ofAsh_43 h
    · replace h := za_ifp h q8
      refine zt_aload_n C 0 dX10_ofAsh_17 rfl rfl ?_
      refine zt_ldc C w_969 dX10_ofAsh_18 ?_
      refine zt_cVi C [.int (-1000000001)] (m_X10_finding hJ  h) (za_mem (j := 27) rfl (by decide) (by decide)) (za_E_27 g cy M6 0 0) rfl py_X10_finding pv_X10_75 (Nat.le_of_ble_eq_true rfl) ⟨Nat.le_of_ble_eq_true rfl, Nat.le_of_ble_eq_true rfl⟩ ⟨Nat.zero_le _, Nat.zero_le _⟩ dX10_ofAsh_20 rfl (fun r15 M14 h => ?_)
      exact zt_ret C hr hk rfl dX10_ofAsh_23 h
end
theorem m_X10_ofAsh {l : Launch} {g : za_L → Nat} {D : va_G} {cy : Nat → ClassId} (hJ : za_J g)  {x1 : Int32} {x2 : Int32} {M : za_M} {K : Int32 → za_M → Prop} (h : f_X10_ofAsh x1 x2 M K) : za_Mi l g D cy yX10_ofAsh cX10_ofAsh 3 (some .int) 3 108 [.ref (g (27, 0, 0)), .int x1, .int x2] M K := za_openi hJ (by decide) (Nat.le_of_ble_eq_true rfl) (fun p e s m args below meth c C hr hk => p_X10_ofAsh hJ C hr hk  h)
/-! X10_hedge -/
def f_X10_hedge_b29 (K : Int32 → za_M → Prop) (x1 : Int32) (x2 : Int32) (x3 : Int32) (s0 : Int32) (s1 : Int32) (s2 : Int32) (M : za_M) : Prop :=
  f_X10_within s0 s1 s2 M (fun r2 M1 => if r2 = 0 then (f_X10_finding (-1000000001) M1 (fun r14 M13 => K r14 M13)) else (if x2 = 0 then (f_X10_ashAt x1 2 M1 (fun r10 M9 => f_X10_turn r10 x3 M9 (fun r12 M11 => K r12 M11))) else (f_X10_ashAt x1 3 M1 (fun r6 M5 => f_X10_turn r6 x3 M5 (fun r8 M7 => K r8 M7)))))
def f_X10_hedge (x1 : Int32) (x2 : Int32) (x3 : Int32) (M : za_M) (K : Int32 → za_M → Prop) : Prop :=
  f_X10_isAsh x1 M (fun r16 M15 => if r16 = 0 then (f_X10_finding (-1000000001) M15 (fun r19 M18 => K r19 M18)) else (f_X10_within x2 0 1 M15 (fun r21 M20 => if r21 = 0 then (f_X10_finding (-1000000001) M20 (fun r24 M23 => K r24 M23)) else (if x2 = 0 then (f_X10_hedge_b29 K x1 x2 x3 x3 0 9 M20) else (f_X10_hedge_b29 K x1 x2 x3 x3 0 3 M20)))))
section
variable {p : Program} {l : Launch} {e : Env} {s : State} {m : MethodId} {args : Array Value} {below : List Frame} {meth : Method} {c : Code} {g : za_L → Nat} {D : va_G} {cy : Nat → ClassId} {K : Int32 → za_M → Prop}
set_option maxRecDepth 100000 in
set_option maxHeartbeats 4000000 in
theorem p_X10_hedge_b29 (hJ : za_J g) (C : za_C p s m args c cX10_hedge 4 RX10 g D cy) (hr : meth.sig.returnType = (some .int)) (hk : meth.locks = false) {x1 : Int32} {x2 : Int32} {x3 : Int32} {s0 : Int32} {s1 : Int32} {s2 : Int32} {M : za_M} (h : f_X10_hedge_b29 K x1 x2 x3 s0 s1 s2 M) : zt p l e (za_rm 3 107) s m args below meth c 0 0 (MQ below (za_Qi g D cy K) args s 0 0 (za_A g)) g D cy 4 M 29 [(0, .ref (g (27, 0, 0))), (1, .int x1), (2, .int x2), (3, .int x3)] [.int s2, .int s1, .int s0] := by
  unfold f_X10_hedge_b29 at h
  refine zt_cSi C [.int s0, .int s1, .int s2] (m_X10_within hJ  h) py_X10_within ps_X10_70 (Nat.le_of_ble_eq_true rfl) ⟨Nat.le_of_ble_eq_true rfl, Nat.le_of_ble_eq_true rfl⟩ ⟨Nat.zero_le _, Nat.zero_le _⟩ dX10_hedge_29 rfl (fun r2 M1 h => ?_)
  refine zt_if_ne C 42 dX10_hedge_32 (by decide) (fun q3 => ?_) (fun q3 => ?_)
  · replace h := za_ifn h q3
    refine zt_aload_n C 0 dX10_hedge_42 rfl rfl ?_
    refine zt_iload_n C 1 dX10_hedge_43 rfl rfl ?_
    refine zt_iload_n C 2 dX10_hedge_44 rfl rfl ?_
    refine zt_if_ne C 52 dX10_hedge_45 (by decide) (fun q4 => ?_) (fun q4 => ?_)
    · replace h := za_ifn h q4
      refine zt_iconst C (v := 3) dX10_hedge_52 zk_i3 ?_
      refine zt_cSi C [.int x1, .int 3] (m_X10_ashAt hJ  h) py_X10_ashAt ps_X10_156 (Nat.le_of_ble_eq_true rfl) ⟨Nat.le_of_ble_eq_true rfl, Nat.le_of_ble_eq_true rfl⟩ ⟨Nat.zero_le _, Nat.zero_le _⟩ dX10_hedge_53 rfl (fun r6 M5 h => ?_)
      refine zt_iload_n C 3 dX10_hedge_56 rfl rfl ?_
      refine zt_cVi C [.int r6, .int x3] (m_X10_turn hJ  h) (za_mem (j := 27) rfl (by decide) (by decide)) (za_E_27 g cy M5 0 0) rfl py_X10_turn pv_X10_180 (Nat.le_of_ble_eq_true rfl) ⟨Nat.le_of_ble_eq_true rfl, Nat.le_of_ble_eq_true rfl⟩ ⟨Nat.zero_le _, Nat.zero_le _⟩ dX10_hedge_57 rfl (fun r8 M7 h => ?_)
      exact zt_ret C hr hk rfl dX10_hedge_60 h
    · replace h := za_ifp h q4
      refine zt_iconst C (v := 2) dX10_hedge_48 zk_i2 ?_
      refine zt_goto C 53 dX10_hedge_49 (by decide) ?_
      refine zt_cSi C [.int x1, .int 2] (m_X10_ashAt hJ  h) py_X10_ashAt ps_X10_156 (Nat.le_of_ble_eq_true rfl) ⟨Nat.le_of_ble_eq_true rfl, Nat.le_of_ble_eq_true rfl⟩ ⟨Nat.zero_le _, Nat.zero_le _⟩ dX10_hedge_53 rfl (fun r10 M9 h => ?_)
      refine zt_iload_n C 3 dX10_hedge_56 rfl rfl ?_
      refine zt_cVi C [.int r10, .int x3] (m_X10_turn hJ  h) (za_mem (j := 27) rfl (by decide) (by decide)) (za_E_27 g cy M9 0 0) rfl py_X10_turn pv_X10_180 (Nat.le_of_ble_eq_true rfl) ⟨Nat.le_of_ble_eq_true rfl, Nat.le_of_ble_eq_true rfl⟩ ⟨Nat.zero_le _, Nat.zero_le _⟩ dX10_hedge_57 rfl (fun r12 M11 h => ?_)
      exact zt_ret C hr hk rfl dX10_hedge_60 h
  · replace h := za_ifp h q3
    refine zt_aload_n C 0 dX10_hedge_35 rfl rfl ?_
    refine zt_ldc C w_969 dX10_hedge_36 ?_
    refine zt_cVi C [.int (-1000000001)] (m_X10_finding hJ  h) (za_mem (j := 27) rfl (by decide) (by decide)) (za_E_27 g cy M1 0 0) rfl py_X10_finding pv_X10_75 (Nat.le_of_ble_eq_true rfl) ⟨Nat.le_of_ble_eq_true rfl, Nat.le_of_ble_eq_true rfl⟩ ⟨Nat.zero_le _, Nat.zero_le _⟩ dX10_hedge_38 rfl (fun r14 M13 h => ?_)
    exact zt_ret C hr hk rfl dX10_hedge_41 h
set_option maxRecDepth 100000 in
set_option maxHeartbeats 4000000 in
theorem p_X10_hedge (hJ : za_J g) (C : za_C p s m args c cX10_hedge 4 RX10 g D cy) (hr : meth.sig.returnType = (some .int)) (hk : meth.locks = false) {x1 : Int32} {x2 : Int32} {x3 : Int32} {M : za_M} (h : f_X10_hedge x1 x2 x3 M K) : zt p l e (za_rm 3 107) s m args below meth c 0 0 (MQ below (za_Qi g D cy K) args s 0 0 (za_A g)) g D cy 4 M 0 [(0, .ref (g (27, 0, 0))), (1, .int x1), (2, .int x2), (3, .int x3)] [] := by
  unfold f_X10_hedge at h
  refine zt_aload_n C 0 dX10_hedge_0 rfl rfl ?_
  refine zt_iload_n C 1 dX10_hedge_1 rfl rfl ?_
  refine zt_cVi C [.int x1] (m_X10_isAsh hJ  h) (za_mem (j := 27) rfl (by decide) (by decide)) (za_E_27 g cy M 0 0) rfl py_X10_isAsh pv_X10_171 (Nat.le_of_ble_eq_true rfl) ⟨Nat.le_of_ble_eq_true rfl, Nat.le_of_ble_eq_true rfl⟩ ⟨Nat.zero_le _, Nat.zero_le _⟩ dX10_hedge_2 rfl (fun r16 M15 h => ?_)
  refine zt_if_eq C 35 dX10_hedge_5 (by decide) (fun q17 => ?_) (fun q17 => ?_)
  · replace h := za_ifp h q17
    refine zt_aload_n C 0 dX10_hedge_35 rfl rfl ?_
    refine zt_ldc C w_969 dX10_hedge_36 ?_
    refine zt_cVi C [.int (-1000000001)] (m_X10_finding hJ  h) (za_mem (j := 27) rfl (by decide) (by decide)) (za_E_27 g cy M15 0 0) rfl py_X10_finding pv_X10_75 (Nat.le_of_ble_eq_true rfl) ⟨Nat.le_of_ble_eq_true rfl, Nat.le_of_ble_eq_true rfl⟩ ⟨Nat.zero_le _, Nat.zero_le _⟩ dX10_hedge_38 rfl (fun r19 M18 h => ?_)
    exact zt_ret C hr hk rfl dX10_hedge_41 h
  · replace h := za_ifn h q17
    refine zt_iload_n C 2 dX10_hedge_8 rfl rfl ?_
    refine zt_iconst C (v := 0) dX10_hedge_9 zk_i0 ?_
    refine zt_iconst C (v := 1) dX10_hedge_10 zk_i1 ?_
    refine zt_cSi C [.int x2, .int 0, .int 1] (m_X10_within hJ  h) py_X10_within ps_X10_70 (Nat.le_of_ble_eq_true rfl) ⟨Nat.le_of_ble_eq_true rfl, Nat.le_of_ble_eq_true rfl⟩ ⟨Nat.zero_le _, Nat.zero_le _⟩ dX10_hedge_11 rfl (fun r21 M20 h => ?_)
    refine zt_if_eq C 35 dX10_hedge_14 (by decide) (fun q22 => ?_) (fun q22 => ?_)
    · replace h := za_ifp h q22
      refine zt_aload_n C 0 dX10_hedge_35 rfl rfl ?_
      refine zt_ldc C w_969 dX10_hedge_36 ?_
      refine zt_cVi C [.int (-1000000001)] (m_X10_finding hJ  h) (za_mem (j := 27) rfl (by decide) (by decide)) (za_E_27 g cy M20 0 0) rfl py_X10_finding pv_X10_75 (Nat.le_of_ble_eq_true rfl) ⟨Nat.le_of_ble_eq_true rfl, Nat.le_of_ble_eq_true rfl⟩ ⟨Nat.zero_le _, Nat.zero_le _⟩ dX10_hedge_38 rfl (fun r24 M23 h => ?_)
      exact zt_ret C hr hk rfl dX10_hedge_41 h
    · replace h := za_ifn h q22
      refine zt_iload_n C 3 dX10_hedge_17 rfl rfl ?_
      refine zt_iconst C (v := 0) dX10_hedge_18 zk_i0 ?_
      refine zt_iload_n C 2 dX10_hedge_19 rfl rfl ?_
      refine zt_if_ne C 28 dX10_hedge_20 (by decide) (fun q25 => ?_) (fun q25 => ?_)
      · replace h := za_ifn h q25
        refine zt_iconst C (v := 3) dX10_hedge_28 zk_i3 ?_
        exact p_X10_hedge_b29 hJ C hr hk  h
      · replace h := za_ifp h q25
        refine zt_bipush C (v := 9) dX10_hedge_23 zk_b9 ?_
        refine zt_goto C 29 dX10_hedge_25 (by decide) ?_
        exact p_X10_hedge_b29 hJ C hr hk  h
end
theorem m_X10_hedge {l : Launch} {g : za_L → Nat} {D : va_G} {cy : Nat → ClassId} (hJ : za_J g)  {x1 : Int32} {x2 : Int32} {x3 : Int32} {M : za_M} {K : Int32 → za_M → Prop} (h : f_X10_hedge x1 x2 x3 M K) : za_Mi l g D cy yX10_hedge cX10_hedge 4 (some .int) 3 107 [.ref (g (27, 0, 0)), .int x1, .int x2, .int x3] M K := za_openi hJ (by decide) (Nat.le_of_ble_eq_true rfl) (fun p e s m args below meth c C hr hk => p_X10_hedge hJ C hr hk  h)
/-! X10_become -/
def f_X10_become (x1 : Int32) (x2 : Int32) (M : za_M) (K : Int32 → za_M → Prop) : Prop :=
  f_X10_isAsh x1 M (fun r2 M1 => if r2 = 0 then (f_X10_finding (-1000000001) M1 (fun r5 M4 => K r5 M4)) else (f_X10_isKindM x2 M1 (fun r7 M6 => if r7 = 0 then (f_X10_finding (-1000000001) M6 (fun r21 M20 => K r21 M20)) else (f_X10_ashAt x1 1 M6 (fun r10 M9 => za_let (x2 - x2 / 10 * 10) fun y11 => vp_in r10 279 ∧ (za_let (za_up M9 (28, 0, 0) r10.toNatClampNeg y11) fun M14 => f_X10_ashAt x1 0 M14 (fun r17 M16 => f_X10_turn r17 (x2 / 10) M16 (fun r19 M18 => K r19 M18))))))))
section
variable {p : Program} {l : Launch} {e : Env} {s : State} {m : MethodId} {args : Array Value} {below : List Frame} {meth : Method} {c : Code} {g : za_L → Nat} {D : va_G} {cy : Nat → ClassId} {K : Int32 → za_M → Prop}
set_option maxRecDepth 100000 in
set_option maxHeartbeats 4000000 in
theorem p_X10_become (hJ : za_J g) (C : za_C p s m args c cX10_become 3 RX10 g D cy) (hr : meth.sig.returnType = (some .int)) (hk : meth.locks = false) {x1 : Int32} {x2 : Int32} {M : za_M} (h : f_X10_become x1 x2 M K) : zt p l e (za_rm 3 107) s m args below meth c 0 0 (MQ below (za_Qi g D cy K) args s 0 0 (za_A g)) g D cy 3 M 0 [(0, .ref (g (27, 0, 0))), (1, .int x1), (2, .int x2)] [] := by
  unfold f_X10_become at h
  refine zt_aload_n C 0 dX10_become_0 rfl rfl ?_
  refine zt_iload_n C 1 dX10_become_1 rfl rfl ?_
  refine zt_cVi C [.int x1] (m_X10_isAsh hJ  h) (za_mem (j := 27) rfl (by decide) (by decide)) (za_E_27 g cy M 0 0) rfl py_X10_isAsh pv_X10_171 (Nat.le_of_ble_eq_true rfl) ⟨Nat.le_of_ble_eq_true rfl, Nat.le_of_ble_eq_true rfl⟩ ⟨Nat.zero_le _, Nat.zero_le _⟩ dX10_become_2 rfl (fun r2 M1 h => ?_)
  refine zt_if_eq C 15 dX10_become_5 (by decide) (fun q3 => ?_) (fun q3 => ?_)
  · replace h := za_ifp h q3
    refine zt_aload_n C 0 dX10_become_15 rfl rfl ?_
    refine zt_ldc C w_969 dX10_become_16 ?_
    refine zt_cVi C [.int (-1000000001)] (m_X10_finding hJ  h) (za_mem (j := 27) rfl (by decide) (by decide)) (za_E_27 g cy M1 0 0) rfl py_X10_finding pv_X10_75 (Nat.le_of_ble_eq_true rfl) ⟨Nat.le_of_ble_eq_true rfl, Nat.le_of_ble_eq_true rfl⟩ ⟨Nat.zero_le _, Nat.zero_le _⟩ dX10_become_18 rfl (fun r5 M4 h => ?_)
    exact zt_ret C hr hk rfl dX10_become_21 h
  · replace h := za_ifn h q3
    refine zt_iload_n C 2 dX10_become_8 rfl rfl ?_
    refine zt_cSi C [.int x2] (m_X10_isKindM hJ  h) py_X10_isKindM ps_X10_165 (Nat.le_of_ble_eq_true rfl) ⟨Nat.le_of_ble_eq_true rfl, Nat.le_of_ble_eq_true rfl⟩ ⟨Nat.zero_le _, Nat.zero_le _⟩ dX10_become_9 rfl (fun r7 M6 h => ?_)
    refine zt_if_ne C 22 dX10_become_12 (by decide) (fun q8 => ?_) (fun q8 => ?_)
    · replace h := za_ifn h q8
      refine zt_aload_n C 0 dX10_become_22 rfl rfl ?_
      refine zt_get C (za_mem (j := 27) rfl (by decide) (by decide)) pf_X10_9 (za_E_27 g cy M6 0 0) rfl dX10_become_23 ?_
      refine zt_iload_n C 1 dX10_become_26 rfl rfl ?_
      refine zt_iconst C (v := 1) dX10_become_27 zk_i1 ?_
      refine zt_cSi C [.int x1, .int 1] (m_X10_ashAt hJ  h) py_X10_ashAt ps_X10_156 (Nat.le_of_ble_eq_true rfl) ⟨Nat.le_of_ble_eq_true rfl, Nat.le_of_ble_eq_true rfl⟩ ⟨Nat.zero_le _, Nat.zero_le _⟩ dX10_become_28 rfl (fun r10 M9 h => ?_)
      refine zt_iload_n C 2 dX10_become_31 rfl rfl ?_
      refine zt_bipush C (v := 10) dX10_become_32 zk_b10 ?_
      refine zt_irem C dX10_become_34 (by decide) ?_
      refine zt_topi (fun y11 e12 => ?_)
      replace h := za_use h e12
      obtain ⟨g13, h⟩ := h
      refine zt_iast C (za_mem (j := 28) rfl (by decide) (by decide)) (fun W9 => za_E_28 g cy W9 0 0) g13 dX10_become_35 ?_
      refine zt_topM (fun M14 e15 => ?_)
      replace h := za_use h e15
      refine zt_aload_n C 0 dX10_become_36 rfl rfl ?_
      refine zt_iload_n C 1 dX10_become_37 rfl rfl ?_
      refine zt_iconst C (v := 0) dX10_become_38 zk_i0 ?_
      refine zt_cSi C [.int x1, .int 0] (m_X10_ashAt hJ  h) py_X10_ashAt ps_X10_156 (Nat.le_of_ble_eq_true rfl) ⟨Nat.le_of_ble_eq_true rfl, Nat.le_of_ble_eq_true rfl⟩ ⟨Nat.zero_le _, Nat.zero_le _⟩ dX10_become_39 rfl (fun r17 M16 h => ?_)
      refine zt_iload_n C 2 dX10_become_42 rfl rfl ?_
      refine zt_bipush C (v := 10) dX10_become_43 zk_b10 ?_
      refine zt_idiv C dX10_become_45 (by decide) ?_
      refine zt_cVi C [.int r17, .int (x2 / 10)] (m_X10_turn hJ  h) (za_mem (j := 27) rfl (by decide) (by decide)) (za_E_27 g cy M16 0 0) rfl py_X10_turn pv_X10_180 (Nat.le_of_ble_eq_true rfl) ⟨Nat.le_of_ble_eq_true rfl, Nat.le_of_ble_eq_true rfl⟩ ⟨Nat.zero_le _, Nat.zero_le _⟩ dX10_become_46 rfl (fun r19 M18 h => ?_)
      exact zt_ret C hr hk rfl dX10_become_49 h
    · replace h := za_ifp h q8
      refine zt_aload_n C 0 dX10_become_15 rfl rfl ?_
      refine zt_ldc C w_969 dX10_become_16 ?_
      refine zt_cVi C [.int (-1000000001)] (m_X10_finding hJ  h) (za_mem (j := 27) rfl (by decide) (by decide)) (za_E_27 g cy M6 0 0) rfl py_X10_finding pv_X10_75 (Nat.le_of_ble_eq_true rfl) ⟨Nat.le_of_ble_eq_true rfl, Nat.le_of_ble_eq_true rfl⟩ ⟨Nat.zero_le _, Nat.zero_le _⟩ dX10_become_18 rfl (fun r21 M20 h => ?_)
      exact zt_ret C hr hk rfl dX10_become_21 h
end
theorem m_X10_become {l : Launch} {g : za_L → Nat} {D : va_G} {cy : Nat → ClassId} (hJ : za_J g)  {x1 : Int32} {x2 : Int32} {M : za_M} {K : Int32 → za_M → Prop} (h : f_X10_become x1 x2 M K) : za_Mi l g D cy yX10_become cX10_become 3 (some .int) 3 107 [.ref (g (27, 0, 0)), .int x1, .int x2] M K := za_openi hJ (by decide) (Nat.le_of_ble_eq_true rfl) (fun p e s m args below meth c C hr hk => p_X10_become hJ C hr hk  h)
/-! X10_above -/
def f_X10_above (x0 : Int32) (M : za_M) (K : Int32 → za_M → Prop) : Prop :=
  if x0 = 0 then (K (-1) M) else (if x0 = 4 then (K 1 M) else (if x0 = 5 then (K 2 M) else (if x0 = 6 then (K 3 M) else (K 0 M))))
section
variable {p : Program} {l : Launch} {e : Env} {s : State} {m : MethodId} {args : Array Value} {below : List Frame} {meth : Method} {c : Code} {g : za_L → Nat} {D : va_G} {cy : Nat → ClassId} {K : Int32 → za_M → Prop}
set_option maxRecDepth 100000 in
set_option maxHeartbeats 4000000 in
theorem p_X10_above (hJ : za_J g) (C : za_C p s m args c cX10_above 1 RX10 g D cy) (hr : meth.sig.returnType = (some .int)) (hk : meth.locks = false) {x0 : Int32} {M : za_M} (h : f_X10_above x0 M K) : zt p l e (za_rm 1 64) s m args below meth c 0 0 (MQ below (za_Qi g D cy K) args s 0 0 (za_A g)) g D cy 1 M 0 [(0, .int x0)] [] := by
  unfold f_X10_above at h
  refine zt_iload_n C 0 dX10_above_0 rfl rfl ?_
  refine zt_if_ne C 8 dX10_above_1 (by decide) (fun q1 => ?_) (fun q1 => ?_)
  · replace h := za_ifn h q1
    refine zt_iload_n C 0 dX10_above_8 rfl rfl ?_
    refine zt_iconst C (v := 4) dX10_above_9 zk_i4 ?_
    refine zt_icmp_ne C 17 dX10_above_10 (by decide) (fun q2 => ?_) (fun q2 => ?_)
    · replace h := za_ifn h q2
      refine zt_iload_n C 0 dX10_above_17 rfl rfl ?_
      refine zt_iconst C (v := 5) dX10_above_18 zk_i5 ?_
      refine zt_icmp_ne C 26 dX10_above_19 (by decide) (fun q3 => ?_) (fun q3 => ?_)
      · replace h := za_ifn h q3
        refine zt_iload_n C 0 dX10_above_26 rfl rfl ?_
        refine zt_bipush C (v := 6) dX10_above_27 zk_b6 ?_
        refine zt_icmp_ne C 36 dX10_above_29 (by decide) (fun q4 => ?_) (fun q4 => ?_)
        · replace h := za_ifn h q4
          refine zt_iconst C (v := 0) dX10_above_36 zk_i0 ?_
          exact zt_ret C hr hk rfl dX10_above_37 h
        · replace h := za_ifp h q4
          refine zt_iconst C (v := 3) dX10_above_32 zk_i3 ?_
          refine zt_goto C 37 dX10_above_33 (by decide) ?_
          exact zt_ret C hr hk rfl dX10_above_37 h
      · replace h := za_ifp h q3
        refine zt_iconst C (v := 2) dX10_above_22 zk_i2 ?_
        refine zt_goto C 37 dX10_above_23 (by decide) ?_
        exact zt_ret C hr hk rfl dX10_above_37 h
    · replace h := za_ifp h q2
      refine zt_iconst C (v := 1) dX10_above_13 zk_i1 ?_
      refine zt_goto C 37 dX10_above_14 (by decide) ?_
      exact zt_ret C hr hk rfl dX10_above_37 h
  · replace h := za_ifp h q1
    refine zt_iconst C (v := (-1)) dX10_above_4 zk_im1 ?_
    refine zt_goto C 37 dX10_above_5 (by decide) ?_
    exact zt_ret C hr hk rfl dX10_above_37 h
end
theorem m_X10_above {l : Launch} {g : za_L → Nat} {D : va_G} {cy : Nat → ClassId} (hJ : za_J g)  {x0 : Int32} {M : za_M} {K : Int32 → za_M → Prop} (h : f_X10_above x0 M K) : za_Mi l g D cy yX10_above cX10_above 1 (some .int) 1 64 [.int x0] M K := za_openi hJ (by decide) (Nat.le_of_ble_eq_true rfl) (fun p e s m args below meth c C hr hk => p_X10_above hJ C hr hk  h)

/-! X10 -/
def f_X10_either_b4 (R_X10_either : za_M → (za_M → Prop) → Prop) (R_X10_both : za_M → (za_M → Prop) → Prop) (R_X10_compared : za_M → (za_M → Prop) → Prop) (R_X10_sum : za_M → (za_M → Prop) → Prop) (R_X10_product : za_M → (za_M → Prop) → Prop) (R_X10_one : za_M → (za_M → Prop) → Prop) (K : za_M → Prop) (L4 : za_M → Prop) (M : za_M) : Prop :=
  f_X10_takes 124 M (fun r2 M1 => if r2 = 0 then (K M1) else (R_X10_both M1 (fun M4 => f_X10_codes 20000 M4 (fun M6 => L4 M6))))
def fb_X10_either (R_X10_either : za_M → (za_M → Prop) → Prop) (R_X10_both : za_M → (za_M → Prop) → Prop) (R_X10_compared : za_M → (za_M → Prop) → Prop) (R_X10_sum : za_M → (za_M → Prop) → Prop) (R_X10_product : za_M → (za_M → Prop) → Prop) (R_X10_one : za_M → (za_M → Prop) → Prop) (M : za_M) (K : za_M → Prop) : Prop :=
  R_X10_both M (fun M8 => ∃ n, za_lp0 (f_X10_either_b4 R_X10_either R_X10_both R_X10_compared R_X10_sum R_X10_product R_X10_one K) n M8)
section
variable {p : Program} {l : Launch} {e : Env} {s : State} {m : MethodId} {args : Array Value} {below : List Frame} {meth : Method} {c : Code} {g : za_L → Nat} {D : va_G} {cy : Nat → ClassId} {K : za_M → Prop} {d : Nat} {R_X10_either : za_M → (za_M → Prop) → Prop} {R_X10_both : za_M → (za_M → Prop) → Prop} {R_X10_compared : za_M → (za_M → Prop) → Prop} {R_X10_sum : za_M → (za_M → Prop) → Prop} {R_X10_product : za_M → (za_M → Prop) → Prop} {R_X10_one : za_M → (za_M → Prop) → Prop} 
set_option maxRecDepth 100000 in
set_option maxHeartbeats 4000000 in
theorem p_X10_either_b4 (hJ : za_J g) (C : za_C p s m args c cX10_either 1 RX10 g D cy) (hr : meth.sig.returnType = none) (hk : meth.locks = false) (hR_X10_either : ∀ {M : za_M} {K : za_M → Prop}, R_X10_either M K → za_Mv l g D cy yX10_either cX10_either 1 none (9 + d) (423 + 60 * d) [.ref (g (27, 0, 0))] M K) (hR_X10_both : ∀ {M : za_M} {K : za_M → Prop}, R_X10_both M K → za_Mv l g D cy yX10_both cX10_both 1 none (9 + d) (423 + 60 * d) [.ref (g (27, 0, 0))] M K) (hR_X10_compared : ∀ {M : za_M} {K : za_M → Prop}, R_X10_compared M K → za_Mv l g D cy yX10_compared cX10_compared 2 none (9 + d) (423 + 60 * d) [.ref (g (27, 0, 0))] M K) (hR_X10_sum : ∀ {M : za_M} {K : za_M → Prop}, R_X10_sum M K → za_Mv l g D cy yX10_sum cX10_sum 2 none (9 + d) (423 + 60 * d) [.ref (g (27, 0, 0))] M K) (hR_X10_product : ∀ {M : za_M} {K : za_M → Prop}, R_X10_product M K → za_Mv l g D cy yX10_product cX10_product 2 none (9 + d) (423 + 60 * d) [.ref (g (27, 0, 0))] M K) (hR_X10_one : ∀ {M : za_M} {K : za_M → Prop}, R_X10_one M K → za_Mv l g D cy yX10_one cX10_one 4 none (9 + d) (423 + 60 * d) [.ref (g (27, 0, 0))] M K) {L4 : za_M → Prop} (hL4 : ∀ (M : za_M), L4 M → zt p l e (za_rm (9 + (d + 1)) (423 + 60 * (d + 1))) s m args below meth c 0 0 (MQ below (za_Qv g D cy K) args s 0 0 (za_A g)) g D cy 1 M 4 [(0, .ref (g (27, 0, 0)))] []) : ∀ (M : za_M), f_X10_either_b4 R_X10_either R_X10_both R_X10_compared R_X10_sum R_X10_product R_X10_one K L4  M → zt p l e (za_rm (9 + (d + 1)) (423 + 60 * (d + 1))) s m args below meth c 0 0 (MQ below (za_Qv g D cy K) args s 0 0 (za_A g)) g D cy 1 M 4 [(0, .ref (g (27, 0, 0)))] [] := by
  intro  M h
  unfold f_X10_either_b4 at h
  refine zt_aload_n C 0 dX10_either_4 rfl rfl ?_
  refine zt_bipush C (v := 124) dX10_either_5 zk_b124 ?_
  refine zt_cVi C [.int 124] (m_X10_takes hJ  h) (za_mem (j := 27) rfl (by decide) (by decide)) (za_E_27 g cy M 0 0) rfl py_X10_takes pv_X10_100 (Nat.le_of_ble_eq_true rfl) ⟨by dsimp only [za_rm]; omega, by dsimp only [za_rm]; omega⟩ ⟨Nat.zero_le _, Nat.zero_le _⟩ dX10_either_7 rfl (fun r2 M1 h => ?_)
  refine zt_if_eq C 27 dX10_either_10 (by decide) (fun q3 => ?_) (fun q3 => ?_)
  · replace h := za_ifp h q3
    exact zt_vret C hr hk dX10_either_27 h
  · replace h := za_ifn h q3
    refine zt_aload_n C 0 dX10_either_13 rfl rfl ?_
    refine zt_cVv C [] (hR_X10_both  h) (za_mem (j := 27) rfl (by decide) (by decide)) (za_E_27 g cy M1 0 0) rfl py_X10_both pv_X10_97 (Nat.le_of_ble_eq_true rfl) ⟨by dsimp only [za_rm]; omega, by dsimp only [za_rm]; omega⟩ ⟨Nat.zero_le _, Nat.zero_le _⟩ dX10_either_14 rfl (fun M4 h => ?_)
    refine zt_aload_n C 0 dX10_either_17 rfl rfl ?_
    refine zt_sipush C (v := 20000) dX10_either_18 zk_s20000 ?_
    refine zt_cVv C [.int 20000] (m_X10_codes hJ  h) (za_mem (j := 27) rfl (by decide) (by decide)) (za_E_27 g cy M4 0 0) rfl py_X10_codes pv_X10_104 (Nat.le_of_ble_eq_true rfl) ⟨by dsimp only [za_rm]; omega, by dsimp only [za_rm]; omega⟩ ⟨Nat.zero_le _, Nat.zero_le _⟩ dX10_either_21 rfl (fun M6 h => ?_)
    refine zt_goto C 4 dX10_either_24 (by decide) ?_
    exact hL4 _ h
theorem p_X10_either_b4_in (hJ : za_J g) (C : za_C p s m args c cX10_either 1 RX10 g D cy) (hr : meth.sig.returnType = none) (hk : meth.locks = false) (hR_X10_either : ∀ {M : za_M} {K : za_M → Prop}, R_X10_either M K → za_Mv l g D cy yX10_either cX10_either 1 none (9 + d) (423 + 60 * d) [.ref (g (27, 0, 0))] M K) (hR_X10_both : ∀ {M : za_M} {K : za_M → Prop}, R_X10_both M K → za_Mv l g D cy yX10_both cX10_both 1 none (9 + d) (423 + 60 * d) [.ref (g (27, 0, 0))] M K) (hR_X10_compared : ∀ {M : za_M} {K : za_M → Prop}, R_X10_compared M K → za_Mv l g D cy yX10_compared cX10_compared 2 none (9 + d) (423 + 60 * d) [.ref (g (27, 0, 0))] M K) (hR_X10_sum : ∀ {M : za_M} {K : za_M → Prop}, R_X10_sum M K → za_Mv l g D cy yX10_sum cX10_sum 2 none (9 + d) (423 + 60 * d) [.ref (g (27, 0, 0))] M K) (hR_X10_product : ∀ {M : za_M} {K : za_M → Prop}, R_X10_product M K → za_Mv l g D cy yX10_product cX10_product 2 none (9 + d) (423 + 60 * d) [.ref (g (27, 0, 0))] M K) (hR_X10_one : ∀ {M : za_M} {K : za_M → Prop}, R_X10_one M K → za_Mv l g D cy yX10_one cX10_one 4 none (9 + d) (423 + 60 * d) [.ref (g (27, 0, 0))] M K) {n : Nat} {M : za_M} (h : za_lp0 (f_X10_either_b4 R_X10_either R_X10_both R_X10_compared R_X10_sum R_X10_product R_X10_one K) n  M) : zt p l e (za_rm (9 + (d + 1)) (423 + 60 * (d + 1))) s m args below meth c 0 0 (MQ below (za_Qv g D cy K) args s 0 0 (za_A g)) g D cy 1 M 4 [(0, .ref (g (27, 0, 0)))] [] := za_lp0_run (Z := fun  M => zt p l e (za_rm (9 + (d + 1)) (423 + 60 * (d + 1))) s m args below meth c 0 0 (MQ below (za_Qv g D cy K) args s 0 0 (za_A g)) g D cy 1 M 4 [(0, .ref (g (27, 0, 0)))] []) (fun L hL => p_X10_either_b4 hJ C hr hk hR_X10_either hR_X10_both hR_X10_compared hR_X10_sum hR_X10_product hR_X10_one  hL) n  M h
set_option maxRecDepth 100000 in
set_option maxHeartbeats 4000000 in
theorem p_X10_either (hJ : za_J g) (C : za_C p s m args c cX10_either 1 RX10 g D cy) (hr : meth.sig.returnType = none) (hk : meth.locks = false) (hR_X10_either : ∀ {M : za_M} {K : za_M → Prop}, R_X10_either M K → za_Mv l g D cy yX10_either cX10_either 1 none (9 + d) (423 + 60 * d) [.ref (g (27, 0, 0))] M K) (hR_X10_both : ∀ {M : za_M} {K : za_M → Prop}, R_X10_both M K → za_Mv l g D cy yX10_both cX10_both 1 none (9 + d) (423 + 60 * d) [.ref (g (27, 0, 0))] M K) (hR_X10_compared : ∀ {M : za_M} {K : za_M → Prop}, R_X10_compared M K → za_Mv l g D cy yX10_compared cX10_compared 2 none (9 + d) (423 + 60 * d) [.ref (g (27, 0, 0))] M K) (hR_X10_sum : ∀ {M : za_M} {K : za_M → Prop}, R_X10_sum M K → za_Mv l g D cy yX10_sum cX10_sum 2 none (9 + d) (423 + 60 * d) [.ref (g (27, 0, 0))] M K) (hR_X10_product : ∀ {M : za_M} {K : za_M → Prop}, R_X10_product M K → za_Mv l g D cy yX10_product cX10_product 2 none (9 + d) (423 + 60 * d) [.ref (g (27, 0, 0))] M K) (hR_X10_one : ∀ {M : za_M} {K : za_M → Prop}, R_X10_one M K → za_Mv l g D cy yX10_one cX10_one 4 none (9 + d) (423 + 60 * d) [.ref (g (27, 0, 0))] M K) {M : za_M} (h : fb_X10_either R_X10_either R_X10_both R_X10_compared R_X10_sum R_X10_product R_X10_one M K) : zt p l e (za_rm (9 + (d + 1)) (423 + 60 * (d + 1))) s m args below meth c 0 0 (MQ below (za_Qv g D cy K) args s 0 0 (za_A g)) g D cy 1 M 0 [(0, .ref (g (27, 0, 0)))] [] := by
  unfold fb_X10_either at h
  refine zt_aload_n C 0 dX10_either_0 rfl rfl ?_
  refine zt_cVv C [] (hR_X10_both  h) (za_mem (j := 27) rfl (by decide) (by decide)) (za_E_27 g cy M 0 0) rfl py_X10_both pv_X10_97 (Nat.le_of_ble_eq_true rfl) ⟨by dsimp only [za_rm]; omega, by dsimp only [za_rm]; omega⟩ ⟨Nat.zero_le _, Nat.zero_le _⟩ dX10_either_1 rfl (fun M8 h => ?_)
  obtain ⟨n, h⟩ := h
  exact p_X10_either_b4_in hJ C hr hk hR_X10_either hR_X10_both hR_X10_compared hR_X10_sum hR_X10_product hR_X10_one  h
end
theorem mb_X10_either {l : Launch} {g : za_L → Nat} {D : va_G} {cy : Nat → ClassId} {d : Nat} {R_X10_either : za_M → (za_M → Prop) → Prop} {R_X10_both : za_M → (za_M → Prop) → Prop} {R_X10_compared : za_M → (za_M → Prop) → Prop} {R_X10_sum : za_M → (za_M → Prop) → Prop} {R_X10_product : za_M → (za_M → Prop) → Prop} {R_X10_one : za_M → (za_M → Prop) → Prop} (hJ : za_J g) (hR_X10_either : ∀ {M : za_M} {K : za_M → Prop}, R_X10_either M K → za_Mv l g D cy yX10_either cX10_either 1 none (9 + d) (423 + 60 * d) [.ref (g (27, 0, 0))] M K) (hR_X10_both : ∀ {M : za_M} {K : za_M → Prop}, R_X10_both M K → za_Mv l g D cy yX10_both cX10_both 1 none (9 + d) (423 + 60 * d) [.ref (g (27, 0, 0))] M K) (hR_X10_compared : ∀ {M : za_M} {K : za_M → Prop}, R_X10_compared M K → za_Mv l g D cy yX10_compared cX10_compared 2 none (9 + d) (423 + 60 * d) [.ref (g (27, 0, 0))] M K) (hR_X10_sum : ∀ {M : za_M} {K : za_M → Prop}, R_X10_sum M K → za_Mv l g D cy yX10_sum cX10_sum 2 none (9 + d) (423 + 60 * d) [.ref (g (27, 0, 0))] M K) (hR_X10_product : ∀ {M : za_M} {K : za_M → Prop}, R_X10_product M K → za_Mv l g D cy yX10_product cX10_product 2 none (9 + d) (423 + 60 * d) [.ref (g (27, 0, 0))] M K) (hR_X10_one : ∀ {M : za_M} {K : za_M → Prop}, R_X10_one M K → za_Mv l g D cy yX10_one cX10_one 4 none (9 + d) (423 + 60 * d) [.ref (g (27, 0, 0))] M K) {M : za_M} {K : za_M → Prop} (h : fb_X10_either R_X10_either R_X10_both R_X10_compared R_X10_sum R_X10_product R_X10_one M K) : za_Mv l g D cy yX10_either cX10_either 1 none (9 + (d + 1)) (423 + 60 * (d + 1)) [.ref (g (27, 0, 0))] M K := za_openv hJ (by decide) (Nat.le_of_ble_eq_true rfl) (fun p e s m args below meth c C hr hk => p_X10_either hJ C hr hk hR_X10_either hR_X10_both hR_X10_compared hR_X10_sum hR_X10_product hR_X10_one  h)
def f_X10_both_b4 (R_X10_either : za_M → (za_M → Prop) → Prop) (R_X10_both : za_M → (za_M → Prop) → Prop) (R_X10_compared : za_M → (za_M → Prop) → Prop) (R_X10_sum : za_M → (za_M → Prop) → Prop) (R_X10_product : za_M → (za_M → Prop) → Prop) (R_X10_one : za_M → (za_M → Prop) → Prop) (K : za_M → Prop) (L4 : za_M → Prop) (M : za_M) : Prop :=
  f_X10_takes 38 M (fun r2 M1 => if r2 = 0 then (K M1) else (R_X10_compared M1 (fun M4 => f_X10_codes 20001 M4 (fun M6 => L4 M6))))
def fb_X10_both (R_X10_either : za_M → (za_M → Prop) → Prop) (R_X10_both : za_M → (za_M → Prop) → Prop) (R_X10_compared : za_M → (za_M → Prop) → Prop) (R_X10_sum : za_M → (za_M → Prop) → Prop) (R_X10_product : za_M → (za_M → Prop) → Prop) (R_X10_one : za_M → (za_M → Prop) → Prop) (M : za_M) (K : za_M → Prop) : Prop :=
  R_X10_compared M (fun M8 => ∃ n, za_lp0 (f_X10_both_b4 R_X10_either R_X10_both R_X10_compared R_X10_sum R_X10_product R_X10_one K) n M8)
section
variable {p : Program} {l : Launch} {e : Env} {s : State} {m : MethodId} {args : Array Value} {below : List Frame} {meth : Method} {c : Code} {g : za_L → Nat} {D : va_G} {cy : Nat → ClassId} {K : za_M → Prop} {d : Nat} {R_X10_either : za_M → (za_M → Prop) → Prop} {R_X10_both : za_M → (za_M → Prop) → Prop} {R_X10_compared : za_M → (za_M → Prop) → Prop} {R_X10_sum : za_M → (za_M → Prop) → Prop} {R_X10_product : za_M → (za_M → Prop) → Prop} {R_X10_one : za_M → (za_M → Prop) → Prop} 
set_option maxRecDepth 100000 in
set_option maxHeartbeats 4000000 in
theorem p_X10_both_b4 (hJ : za_J g) (C : za_C p s m args c cX10_both 1 RX10 g D cy) (hr : meth.sig.returnType = none) (hk : meth.locks = false) (hR_X10_either : ∀ {M : za_M} {K : za_M → Prop}, R_X10_either M K → za_Mv l g D cy yX10_either cX10_either 1 none (9 + d) (423 + 60 * d) [.ref (g (27, 0, 0))] M K) (hR_X10_both : ∀ {M : za_M} {K : za_M → Prop}, R_X10_both M K → za_Mv l g D cy yX10_both cX10_both 1 none (9 + d) (423 + 60 * d) [.ref (g (27, 0, 0))] M K) (hR_X10_compared : ∀ {M : za_M} {K : za_M → Prop}, R_X10_compared M K → za_Mv l g D cy yX10_compared cX10_compared 2 none (9 + d) (423 + 60 * d) [.ref (g (27, 0, 0))] M K) (hR_X10_sum : ∀ {M : za_M} {K : za_M → Prop}, R_X10_sum M K → za_Mv l g D cy yX10_sum cX10_sum 2 none (9 + d) (423 + 60 * d) [.ref (g (27, 0, 0))] M K) (hR_X10_product : ∀ {M : za_M} {K : za_M → Prop}, R_X10_product M K → za_Mv l g D cy yX10_product cX10_product 2 none (9 + d) (423 + 60 * d) [.ref (g (27, 0, 0))] M K) (hR_X10_one : ∀ {M : za_M} {K : za_M → Prop}, R_X10_one M K → za_Mv l g D cy yX10_one cX10_one 4 none (9 + d) (423 + 60 * d) [.ref (g (27, 0, 0))] M K) {L4 : za_M → Prop} (hL4 : ∀ (M : za_M), L4 M → zt p l e (za_rm (9 + (d + 1)) (423 + 60 * (d + 1))) s m args below meth c 0 0 (MQ below (za_Qv g D cy K) args s 0 0 (za_A g)) g D cy 1 M 4 [(0, .ref (g (27, 0, 0)))] []) : ∀ (M : za_M), f_X10_both_b4 R_X10_either R_X10_both R_X10_compared R_X10_sum R_X10_product R_X10_one K L4  M → zt p l e (za_rm (9 + (d + 1)) (423 + 60 * (d + 1))) s m args below meth c 0 0 (MQ below (za_Qv g D cy K) args s 0 0 (za_A g)) g D cy 1 M 4 [(0, .ref (g (27, 0, 0)))] [] := by
  intro  M h
  unfold f_X10_both_b4 at h
  refine zt_aload_n C 0 dX10_both_4 rfl rfl ?_
  refine zt_bipush C (v := 38) dX10_both_5 zk_b38 ?_
  refine zt_cVi C [.int 38] (m_X10_takes hJ  h) (za_mem (j := 27) rfl (by decide) (by decide)) (za_E_27 g cy M 0 0) rfl py_X10_takes pv_X10_100 (Nat.le_of_ble_eq_true rfl) ⟨by dsimp only [za_rm]; omega, by dsimp only [za_rm]; omega⟩ ⟨Nat.zero_le _, Nat.zero_le _⟩ dX10_both_7 rfl (fun r2 M1 h => ?_)
  refine zt_if_eq C 27 dX10_both_10 (by decide) (fun q3 => ?_) (fun q3 => ?_)
  · replace h := za_ifp h q3
    exact zt_vret C hr hk dX10_both_27 h
  · replace h := za_ifn h q3
    refine zt_aload_n C 0 dX10_both_13 rfl rfl ?_
    refine zt_cVv C [] (hR_X10_compared  h) (za_mem (j := 27) rfl (by decide) (by decide)) (za_E_27 g cy M1 0 0) rfl py_X10_compared pv_X10_108 (Nat.le_of_ble_eq_true rfl) ⟨by dsimp only [za_rm]; omega, by dsimp only [za_rm]; omega⟩ ⟨Nat.zero_le _, Nat.zero_le _⟩ dX10_both_14 rfl (fun M4 h => ?_)
    refine zt_aload_n C 0 dX10_both_17 rfl rfl ?_
    refine zt_sipush C (v := 20001) dX10_both_18 zk_s20001 ?_
    refine zt_cVv C [.int 20001] (m_X10_codes hJ  h) (za_mem (j := 27) rfl (by decide) (by decide)) (za_E_27 g cy M4 0 0) rfl py_X10_codes pv_X10_104 (Nat.le_of_ble_eq_true rfl) ⟨by dsimp only [za_rm]; omega, by dsimp only [za_rm]; omega⟩ ⟨Nat.zero_le _, Nat.zero_le _⟩ dX10_both_21 rfl (fun M6 h => ?_)
    refine zt_goto C 4 dX10_both_24 (by decide) ?_
    exact hL4 _ h
theorem p_X10_both_b4_in (hJ : za_J g) (C : za_C p s m args c cX10_both 1 RX10 g D cy) (hr : meth.sig.returnType = none) (hk : meth.locks = false) (hR_X10_either : ∀ {M : za_M} {K : za_M → Prop}, R_X10_either M K → za_Mv l g D cy yX10_either cX10_either 1 none (9 + d) (423 + 60 * d) [.ref (g (27, 0, 0))] M K) (hR_X10_both : ∀ {M : za_M} {K : za_M → Prop}, R_X10_both M K → za_Mv l g D cy yX10_both cX10_both 1 none (9 + d) (423 + 60 * d) [.ref (g (27, 0, 0))] M K) (hR_X10_compared : ∀ {M : za_M} {K : za_M → Prop}, R_X10_compared M K → za_Mv l g D cy yX10_compared cX10_compared 2 none (9 + d) (423 + 60 * d) [.ref (g (27, 0, 0))] M K) (hR_X10_sum : ∀ {M : za_M} {K : za_M → Prop}, R_X10_sum M K → za_Mv l g D cy yX10_sum cX10_sum 2 none (9 + d) (423 + 60 * d) [.ref (g (27, 0, 0))] M K) (hR_X10_product : ∀ {M : za_M} {K : za_M → Prop}, R_X10_product M K → za_Mv l g D cy yX10_product cX10_product 2 none (9 + d) (423 + 60 * d) [.ref (g (27, 0, 0))] M K) (hR_X10_one : ∀ {M : za_M} {K : za_M → Prop}, R_X10_one M K → za_Mv l g D cy yX10_one cX10_one 4 none (9 + d) (423 + 60 * d) [.ref (g (27, 0, 0))] M K) {n : Nat} {M : za_M} (h : za_lp0 (f_X10_both_b4 R_X10_either R_X10_both R_X10_compared R_X10_sum R_X10_product R_X10_one K) n  M) : zt p l e (za_rm (9 + (d + 1)) (423 + 60 * (d + 1))) s m args below meth c 0 0 (MQ below (za_Qv g D cy K) args s 0 0 (za_A g)) g D cy 1 M 4 [(0, .ref (g (27, 0, 0)))] [] := za_lp0_run (Z := fun  M => zt p l e (za_rm (9 + (d + 1)) (423 + 60 * (d + 1))) s m args below meth c 0 0 (MQ below (za_Qv g D cy K) args s 0 0 (za_A g)) g D cy 1 M 4 [(0, .ref (g (27, 0, 0)))] []) (fun L hL => p_X10_both_b4 hJ C hr hk hR_X10_either hR_X10_both hR_X10_compared hR_X10_sum hR_X10_product hR_X10_one  hL) n  M h
set_option maxRecDepth 100000 in
set_option maxHeartbeats 4000000 in
theorem p_X10_both (hJ : za_J g) (C : za_C p s m args c cX10_both 1 RX10 g D cy) (hr : meth.sig.returnType = none) (hk : meth.locks = false) (hR_X10_either : ∀ {M : za_M} {K : za_M → Prop}, R_X10_either M K → za_Mv l g D cy yX10_either cX10_either 1 none (9 + d) (423 + 60 * d) [.ref (g (27, 0, 0))] M K) (hR_X10_both : ∀ {M : za_M} {K : za_M → Prop}, R_X10_both M K → za_Mv l g D cy yX10_both cX10_both 1 none (9 + d) (423 + 60 * d) [.ref (g (27, 0, 0))] M K) (hR_X10_compared : ∀ {M : za_M} {K : za_M → Prop}, R_X10_compared M K → za_Mv l g D cy yX10_compared cX10_compared 2 none (9 + d) (423 + 60 * d) [.ref (g (27, 0, 0))] M K) (hR_X10_sum : ∀ {M : za_M} {K : za_M → Prop}, R_X10_sum M K → za_Mv l g D cy yX10_sum cX10_sum 2 none (9 + d) (423 + 60 * d) [.ref (g (27, 0, 0))] M K) (hR_X10_product : ∀ {M : za_M} {K : za_M → Prop}, R_X10_product M K → za_Mv l g D cy yX10_product cX10_product 2 none (9 + d) (423 + 60 * d) [.ref (g (27, 0, 0))] M K) (hR_X10_one : ∀ {M : za_M} {K : za_M → Prop}, R_X10_one M K → za_Mv l g D cy yX10_one cX10_one 4 none (9 + d) (423 + 60 * d) [.ref (g (27, 0, 0))] M K) {M : za_M} (h : fb_X10_both R_X10_either R_X10_both R_X10_compared R_X10_sum R_X10_product R_X10_one M K) : zt p l e (za_rm (9 + (d + 1)) (423 + 60 * (d + 1))) s m args below meth c 0 0 (MQ below (za_Qv g D cy K) args s 0 0 (za_A g)) g D cy 1 M 0 [(0, .ref (g (27, 0, 0)))] [] := by
  unfold fb_X10_both at h
  refine zt_aload_n C 0 dX10_both_0 rfl rfl ?_
  refine zt_cVv C [] (hR_X10_compared  h) (za_mem (j := 27) rfl (by decide) (by decide)) (za_E_27 g cy M 0 0) rfl py_X10_compared pv_X10_108 (Nat.le_of_ble_eq_true rfl) ⟨by dsimp only [za_rm]; omega, by dsimp only [za_rm]; omega⟩ ⟨Nat.zero_le _, Nat.zero_le _⟩ dX10_both_1 rfl (fun M8 h => ?_)
  obtain ⟨n, h⟩ := h
  exact p_X10_both_b4_in hJ C hr hk hR_X10_either hR_X10_both hR_X10_compared hR_X10_sum hR_X10_product hR_X10_one  h
end
theorem mb_X10_both {l : Launch} {g : za_L → Nat} {D : va_G} {cy : Nat → ClassId} {d : Nat} {R_X10_either : za_M → (za_M → Prop) → Prop} {R_X10_both : za_M → (za_M → Prop) → Prop} {R_X10_compared : za_M → (za_M → Prop) → Prop} {R_X10_sum : za_M → (za_M → Prop) → Prop} {R_X10_product : za_M → (za_M → Prop) → Prop} {R_X10_one : za_M → (za_M → Prop) → Prop} (hJ : za_J g) (hR_X10_either : ∀ {M : za_M} {K : za_M → Prop}, R_X10_either M K → za_Mv l g D cy yX10_either cX10_either 1 none (9 + d) (423 + 60 * d) [.ref (g (27, 0, 0))] M K) (hR_X10_both : ∀ {M : za_M} {K : za_M → Prop}, R_X10_both M K → za_Mv l g D cy yX10_both cX10_both 1 none (9 + d) (423 + 60 * d) [.ref (g (27, 0, 0))] M K) (hR_X10_compared : ∀ {M : za_M} {K : za_M → Prop}, R_X10_compared M K → za_Mv l g D cy yX10_compared cX10_compared 2 none (9 + d) (423 + 60 * d) [.ref (g (27, 0, 0))] M K) (hR_X10_sum : ∀ {M : za_M} {K : za_M → Prop}, R_X10_sum M K → za_Mv l g D cy yX10_sum cX10_sum 2 none (9 + d) (423 + 60 * d) [.ref (g (27, 0, 0))] M K) (hR_X10_product : ∀ {M : za_M} {K : za_M → Prop}, R_X10_product M K → za_Mv l g D cy yX10_product cX10_product 2 none (9 + d) (423 + 60 * d) [.ref (g (27, 0, 0))] M K) (hR_X10_one : ∀ {M : za_M} {K : za_M → Prop}, R_X10_one M K → za_Mv l g D cy yX10_one cX10_one 4 none (9 + d) (423 + 60 * d) [.ref (g (27, 0, 0))] M K) {M : za_M} {K : za_M → Prop} (h : fb_X10_both R_X10_either R_X10_both R_X10_compared R_X10_sum R_X10_product R_X10_one M K) : za_Mv l g D cy yX10_both cX10_both 1 none (9 + (d + 1)) (423 + 60 * (d + 1)) [.ref (g (27, 0, 0))] M K := za_openv hJ (by decide) (Nat.le_of_ble_eq_true rfl) (fun p e s m args below meth c C hr hk => p_X10_both hJ C hr hk hR_X10_either hR_X10_both hR_X10_compared hR_X10_sum hR_X10_product hR_X10_one  h)
def f_X10_compared_b50 (R_X10_either : za_M → (za_M → Prop) → Prop) (R_X10_both : za_M → (za_M → Prop) → Prop) (R_X10_compared : za_M → (za_M → Prop) → Prop) (R_X10_sum : za_M → (za_M → Prop) → Prop) (R_X10_product : za_M → (za_M → Prop) → Prop) (R_X10_one : za_M → (za_M → Prop) → Prop) (K : za_M → Prop) (s0 : Int32) (M : za_M) : Prop :=
  if s0 ≤ 0 then (K M) else (R_X10_sum M (fun M2 => f_X10_codes s0 M2 (fun M4 => K M4)))
def fb_X10_compared (R_X10_either : za_M → (za_M → Prop) → Prop) (R_X10_both : za_M → (za_M → Prop) → Prop) (R_X10_compared : za_M → (za_M → Prop) → Prop) (R_X10_sum : za_M → (za_M → Prop) → Prop) (R_X10_product : za_M → (za_M → Prop) → Prop) (R_X10_one : za_M → (za_M → Prop) → Prop) (M : za_M) (K : za_M → Prop) : Prop :=
  R_X10_sum M (fun M6 => f_X10_takes 60 M6 (fun r9 M8 => if r9 = 0 then (f_X10_takes 61 M8 (fun r12 M11 => if r12 = 0 then (f_X10_takes 62 M11 (fun r15 M14 => if r15 = 0 then (f_X10_compared_b50 R_X10_either R_X10_both R_X10_compared R_X10_sum R_X10_product R_X10_one K 0 M14) else (f_X10_compared_b50 R_X10_either R_X10_both R_X10_compared R_X10_sum R_X10_product R_X10_one K 20004 M14))) else (f_X10_compared_b50 R_X10_either R_X10_both R_X10_compared R_X10_sum R_X10_product R_X10_one K 20003 M11))) else (f_X10_compared_b50 R_X10_either R_X10_both R_X10_compared R_X10_sum R_X10_product R_X10_one K 20002 M8)))
section
variable {p : Program} {l : Launch} {e : Env} {s : State} {m : MethodId} {args : Array Value} {below : List Frame} {meth : Method} {c : Code} {g : za_L → Nat} {D : va_G} {cy : Nat → ClassId} {K : za_M → Prop} {d : Nat} {R_X10_either : za_M → (za_M → Prop) → Prop} {R_X10_both : za_M → (za_M → Prop) → Prop} {R_X10_compared : za_M → (za_M → Prop) → Prop} {R_X10_sum : za_M → (za_M → Prop) → Prop} {R_X10_product : za_M → (za_M → Prop) → Prop} {R_X10_one : za_M → (za_M → Prop) → Prop} 
set_option maxRecDepth 100000 in
set_option maxHeartbeats 4000000 in
theorem p_X10_compared_b50 (hJ : za_J g) (C : za_C p s m args c cX10_compared 2 RX10 g D cy) (hr : meth.sig.returnType = none) (hk : meth.locks = false) (hR_X10_either : ∀ {M : za_M} {K : za_M → Prop}, R_X10_either M K → za_Mv l g D cy yX10_either cX10_either 1 none (9 + d) (423 + 60 * d) [.ref (g (27, 0, 0))] M K) (hR_X10_both : ∀ {M : za_M} {K : za_M → Prop}, R_X10_both M K → za_Mv l g D cy yX10_both cX10_both 1 none (9 + d) (423 + 60 * d) [.ref (g (27, 0, 0))] M K) (hR_X10_compared : ∀ {M : za_M} {K : za_M → Prop}, R_X10_compared M K → za_Mv l g D cy yX10_compared cX10_compared 2 none (9 + d) (423 + 60 * d) [.ref (g (27, 0, 0))] M K) (hR_X10_sum : ∀ {M : za_M} {K : za_M → Prop}, R_X10_sum M K → za_Mv l g D cy yX10_sum cX10_sum 2 none (9 + d) (423 + 60 * d) [.ref (g (27, 0, 0))] M K) (hR_X10_product : ∀ {M : za_M} {K : za_M → Prop}, R_X10_product M K → za_Mv l g D cy yX10_product cX10_product 2 none (9 + d) (423 + 60 * d) [.ref (g (27, 0, 0))] M K) (hR_X10_one : ∀ {M : za_M} {K : za_M → Prop}, R_X10_one M K → za_Mv l g D cy yX10_one cX10_one 4 none (9 + d) (423 + 60 * d) [.ref (g (27, 0, 0))] M K) {s0 : Int32} {M : za_M} (h : f_X10_compared_b50 R_X10_either R_X10_both R_X10_compared R_X10_sum R_X10_product R_X10_one K s0 M) : zt p l e (za_rm (9 + (d + 1)) (423 + 60 * (d + 1))) s m args below meth c 0 0 (MQ below (za_Qv g D cy K) args s 0 0 (za_A g)) g D cy 2 M 50 [(0, .ref (g (27, 0, 0)))] [.int s0] := by
  unfold f_X10_compared_b50 at h
  refine zt_istore_n C [(1, .int s0), (0, .ref (g (27, 0, 0)))] dX10_compared_50 rfl (by decide) rfl ?_
  refine zt_iload_n C 0 dX10_compared_51 rfl rfl ?_
  refine zt_if_le C 64 dX10_compared_52 (by decide) (fun q1 => ?_) (fun q1 => ?_)
  · replace h := za_ifp h q1
    exact zt_vret C hr hk dX10_compared_64 h
  · replace h := za_ifn h q1
    refine zt_aload_n C 1 dX10_compared_55 rfl rfl ?_
    refine zt_cVv C [] (hR_X10_sum  h) (za_mem (j := 27) rfl (by decide) (by decide)) (za_E_27 g cy M 0 0) rfl py_X10_sum pv_X10_111 (Nat.le_of_ble_eq_true rfl) ⟨by dsimp only [za_rm]; omega, by dsimp only [za_rm]; omega⟩ ⟨Nat.zero_le _, Nat.zero_le _⟩ dX10_compared_56 rfl (fun M2 h => ?_)
    refine zt_aload_n C 1 dX10_compared_59 rfl rfl ?_
    refine zt_iload_n C 0 dX10_compared_60 rfl rfl ?_
    refine zt_cVv C [.int s0] (m_X10_codes hJ  h) (za_mem (j := 27) rfl (by decide) (by decide)) (za_E_27 g cy M2 0 0) rfl py_X10_codes pv_X10_104 (Nat.le_of_ble_eq_true rfl) ⟨by dsimp only [za_rm]; omega, by dsimp only [za_rm]; omega⟩ ⟨Nat.zero_le _, Nat.zero_le _⟩ dX10_compared_61 rfl (fun M4 h => ?_)
    exact zt_vret C hr hk dX10_compared_64 h
set_option maxRecDepth 100000 in
set_option maxHeartbeats 4000000 in
theorem p_X10_compared (hJ : za_J g) (C : za_C p s m args c cX10_compared 2 RX10 g D cy) (hr : meth.sig.returnType = none) (hk : meth.locks = false) (hR_X10_either : ∀ {M : za_M} {K : za_M → Prop}, R_X10_either M K → za_Mv l g D cy yX10_either cX10_either 1 none (9 + d) (423 + 60 * d) [.ref (g (27, 0, 0))] M K) (hR_X10_both : ∀ {M : za_M} {K : za_M → Prop}, R_X10_both M K → za_Mv l g D cy yX10_both cX10_both 1 none (9 + d) (423 + 60 * d) [.ref (g (27, 0, 0))] M K) (hR_X10_compared : ∀ {M : za_M} {K : za_M → Prop}, R_X10_compared M K → za_Mv l g D cy yX10_compared cX10_compared 2 none (9 + d) (423 + 60 * d) [.ref (g (27, 0, 0))] M K) (hR_X10_sum : ∀ {M : za_M} {K : za_M → Prop}, R_X10_sum M K → za_Mv l g D cy yX10_sum cX10_sum 2 none (9 + d) (423 + 60 * d) [.ref (g (27, 0, 0))] M K) (hR_X10_product : ∀ {M : za_M} {K : za_M → Prop}, R_X10_product M K → za_Mv l g D cy yX10_product cX10_product 2 none (9 + d) (423 + 60 * d) [.ref (g (27, 0, 0))] M K) (hR_X10_one : ∀ {M : za_M} {K : za_M → Prop}, R_X10_one M K → za_Mv l g D cy yX10_one cX10_one 4 none (9 + d) (423 + 60 * d) [.ref (g (27, 0, 0))] M K) {M : za_M} (h : fb_X10_compared R_X10_either R_X10_both R_X10_compared R_X10_sum R_X10_product R_X10_one M K) : zt p l e (za_rm (9 + (d + 1)) (423 + 60 * (d + 1))) s m args below meth c 0 0 (MQ below (za_Qv g D cy K) args s 0 0 (za_A g)) g D cy 2 M 0 [(0, .ref (g (27, 0, 0)))] [] := by
  unfold fb_X10_compared at h
  refine zt_aload_n C 0 dX10_compared_0 rfl rfl ?_
  refine zt_cVv C [] (hR_X10_sum  h) (za_mem (j := 27) rfl (by decide) (by decide)) (za_E_27 g cy M 0 0) rfl py_X10_sum pv_X10_111 (Nat.le_of_ble_eq_true rfl) ⟨by dsimp only [za_rm]; omega, by dsimp only [za_rm]; omega⟩ ⟨Nat.zero_le _, Nat.zero_le _⟩ dX10_compared_1 rfl (fun M6 h => ?_)
  refine zt_aload_n C 0 dX10_compared_4 rfl rfl ?_
  refine zt_bipush C (v := 60) dX10_compared_5 zk_b60 ?_
  refine zt_cVi C [.int 60] (m_X10_takes hJ  h) (za_mem (j := 27) rfl (by decide) (by decide)) (za_E_27 g cy M6 0 0) rfl py_X10_takes pv_X10_100 (Nat.le_of_ble_eq_true rfl) ⟨by dsimp only [za_rm]; omega, by dsimp only [za_rm]; omega⟩ ⟨Nat.zero_le _, Nat.zero_le _⟩ dX10_compared_7 rfl (fun r9 M8 h => ?_)
  refine zt_if_eq C 19 dX10_compared_10 (by decide) (fun q10 => ?_) (fun q10 => ?_)
  · replace h := za_ifp h q10
    refine zt_aload_n C 0 dX10_compared_19 rfl rfl ?_
    refine zt_bipush C (v := 61) dX10_compared_20 zk_b61 ?_
    refine zt_cVi C [.int 61] (m_X10_takes hJ  h) (za_mem (j := 27) rfl (by decide) (by decide)) (za_E_27 g cy M8 0 0) rfl py_X10_takes pv_X10_100 (Nat.le_of_ble_eq_true rfl) ⟨by dsimp only [za_rm]; omega, by dsimp only [za_rm]; omega⟩ ⟨Nat.zero_le _, Nat.zero_le _⟩ dX10_compared_22 rfl (fun r12 M11 h => ?_)
    refine zt_if_eq C 34 dX10_compared_25 (by decide) (fun q13 => ?_) (fun q13 => ?_)
    · replace h := za_ifp h q13
      refine zt_aload_n C 0 dX10_compared_34 rfl rfl ?_
      refine zt_bipush C (v := 62) dX10_compared_35 zk_b62 ?_
      refine zt_cVi C [.int 62] (m_X10_takes hJ  h) (za_mem (j := 27) rfl (by decide) (by decide)) (za_E_27 g cy M11 0 0) rfl py_X10_takes pv_X10_100 (Nat.le_of_ble_eq_true rfl) ⟨by dsimp only [za_rm]; omega, by dsimp only [za_rm]; omega⟩ ⟨Nat.zero_le _, Nat.zero_le _⟩ dX10_compared_37 rfl (fun r15 M14 h => ?_)
      refine zt_if_eq C 49 dX10_compared_40 (by decide) (fun q16 => ?_) (fun q16 => ?_)
      · replace h := za_ifp h q16
        refine zt_iconst C (v := 0) dX10_compared_49 zk_i0 ?_
        exact p_X10_compared_b50 hJ C hr hk hR_X10_either hR_X10_both hR_X10_compared hR_X10_sum hR_X10_product hR_X10_one  h
      · replace h := za_ifn h q16
        refine zt_sipush C (v := 20004) dX10_compared_43 zk_s20004 ?_
        refine zt_goto C 50 dX10_compared_46 (by decide) ?_
        exact p_X10_compared_b50 hJ C hr hk hR_X10_either hR_X10_both hR_X10_compared hR_X10_sum hR_X10_product hR_X10_one  h
    · replace h := za_ifn h q13
      refine zt_sipush C (v := 20003) dX10_compared_28 zk_s20003 ?_
      refine zt_goto C 50 dX10_compared_31 (by decide) ?_
      exact p_X10_compared_b50 hJ C hr hk hR_X10_either hR_X10_both hR_X10_compared hR_X10_sum hR_X10_product hR_X10_one  h
  · replace h := za_ifn h q10
    refine zt_sipush C (v := 20002) dX10_compared_13 zk_s20002 ?_
    refine zt_goto C 50 dX10_compared_16 (by decide) ?_
    exact p_X10_compared_b50 hJ C hr hk hR_X10_either hR_X10_both hR_X10_compared hR_X10_sum hR_X10_product hR_X10_one  h
end
theorem mb_X10_compared {l : Launch} {g : za_L → Nat} {D : va_G} {cy : Nat → ClassId} {d : Nat} {R_X10_either : za_M → (za_M → Prop) → Prop} {R_X10_both : za_M → (za_M → Prop) → Prop} {R_X10_compared : za_M → (za_M → Prop) → Prop} {R_X10_sum : za_M → (za_M → Prop) → Prop} {R_X10_product : za_M → (za_M → Prop) → Prop} {R_X10_one : za_M → (za_M → Prop) → Prop} (hJ : za_J g) (hR_X10_either : ∀ {M : za_M} {K : za_M → Prop}, R_X10_either M K → za_Mv l g D cy yX10_either cX10_either 1 none (9 + d) (423 + 60 * d) [.ref (g (27, 0, 0))] M K) (hR_X10_both : ∀ {M : za_M} {K : za_M → Prop}, R_X10_both M K → za_Mv l g D cy yX10_both cX10_both 1 none (9 + d) (423 + 60 * d) [.ref (g (27, 0, 0))] M K) (hR_X10_compared : ∀ {M : za_M} {K : za_M → Prop}, R_X10_compared M K → za_Mv l g D cy yX10_compared cX10_compared 2 none (9 + d) (423 + 60 * d) [.ref (g (27, 0, 0))] M K) (hR_X10_sum : ∀ {M : za_M} {K : za_M → Prop}, R_X10_sum M K → za_Mv l g D cy yX10_sum cX10_sum 2 none (9 + d) (423 + 60 * d) [.ref (g (27, 0, 0))] M K) (hR_X10_product : ∀ {M : za_M} {K : za_M → Prop}, R_X10_product M K → za_Mv l g D cy yX10_product cX10_product 2 none (9 + d) (423 + 60 * d) [.ref (g (27, 0, 0))] M K) (hR_X10_one : ∀ {M : za_M} {K : za_M → Prop}, R_X10_one M K → za_Mv l g D cy yX10_one cX10_one 4 none (9 + d) (423 + 60 * d) [.ref (g (27, 0, 0))] M K) {M : za_M} {K : za_M → Prop} (h : fb_X10_compared R_X10_either R_X10_both R_X10_compared R_X10_sum R_X10_product R_X10_one M K) : za_Mv l g D cy yX10_compared cX10_compared 2 none (9 + (d + 1)) (423 + 60 * (d + 1)) [.ref (g (27, 0, 0))] M K := za_openv hJ (by decide) (Nat.le_of_ble_eq_true rfl) (fun p e s m args below meth c C hr hk => p_X10_compared hJ C hr hk hR_X10_either hR_X10_both hR_X10_compared hR_X10_sum hR_X10_product hR_X10_one  h)
def f_X10_sum_b80 (R_X10_either : za_M → (za_M → Prop) → Prop) (R_X10_both : za_M → (za_M → Prop) → Prop) (R_X10_compared : za_M → (za_M → Prop) → Prop) (R_X10_sum : za_M → (za_M → Prop) → Prop) (R_X10_product : za_M → (za_M → Prop) → Prop) (R_X10_one : za_M → (za_M → Prop) → Prop) (K : za_M → Prop) (L36 : Int32 → za_M → Prop) (s0 : Int32) (M : za_M) : Prop :=
  L36 s0 M
def f_X10_sum_b36 (R_X10_either : za_M → (za_M → Prop) → Prop) (R_X10_both : za_M → (za_M → Prop) → Prop) (R_X10_compared : za_M → (za_M → Prop) → Prop) (R_X10_sum : za_M → (za_M → Prop) → Prop) (R_X10_product : za_M → (za_M → Prop) → Prop) (R_X10_one : za_M → (za_M → Prop) → Prop) (K : za_M → Prop) (L36 : Int32 → za_M → Prop) (x1 : Int32) (M : za_M) : Prop :=
  if x1 ≤ 0 then (K M) else (R_X10_product M (fun M2 => f_X10_codes x1 M2 (fun M4 => f_X10_takes 43 M4 (fun r7 M6 => if r7 = 0 then (f_X10_takes 45 M6 (fun r10 M9 => if r10 = 0 then (f_X10_sum_b80 R_X10_either R_X10_both R_X10_compared R_X10_sum R_X10_product R_X10_one K L36 0 M9) else (f_X10_sum_b80 R_X10_either R_X10_both R_X10_compared R_X10_sum R_X10_product R_X10_one K L36 20006 M9))) else (f_X10_sum_b80 R_X10_either R_X10_both R_X10_compared R_X10_sum R_X10_product R_X10_one K L36 20005 M6)))))
def f_X10_sum_b35 (R_X10_either : za_M → (za_M → Prop) → Prop) (R_X10_both : za_M → (za_M → Prop) → Prop) (R_X10_compared : za_M → (za_M → Prop) → Prop) (R_X10_sum : za_M → (za_M → Prop) → Prop) (R_X10_product : za_M → (za_M → Prop) → Prop) (R_X10_one : za_M → (za_M → Prop) → Prop) (K : za_M → Prop) (s0 : Int32) (M : za_M) : Prop :=
  ∃ n, za_lp1 (f_X10_sum_b36 R_X10_either R_X10_both R_X10_compared R_X10_sum R_X10_product R_X10_one K) n s0 M
def fb_X10_sum (R_X10_either : za_M → (za_M → Prop) → Prop) (R_X10_both : za_M → (za_M → Prop) → Prop) (R_X10_compared : za_M → (za_M → Prop) → Prop) (R_X10_sum : za_M → (za_M → Prop) → Prop) (R_X10_product : za_M → (za_M → Prop) → Prop) (R_X10_one : za_M → (za_M → Prop) → Prop) (M : za_M) (K : za_M → Prop) : Prop :=
  R_X10_product M (fun M12 => f_X10_takes 43 M12 (fun r15 M14 => if r15 = 0 then (f_X10_takes 45 M14 (fun r18 M17 => if r18 = 0 then (f_X10_sum_b35 R_X10_either R_X10_both R_X10_compared R_X10_sum R_X10_product R_X10_one K 0 M17) else (f_X10_sum_b35 R_X10_either R_X10_both R_X10_compared R_X10_sum R_X10_product R_X10_one K 20006 M17))) else (f_X10_sum_b35 R_X10_either R_X10_both R_X10_compared R_X10_sum R_X10_product R_X10_one K 20005 M14)))
section
variable {p : Program} {l : Launch} {e : Env} {s : State} {m : MethodId} {args : Array Value} {below : List Frame} {meth : Method} {c : Code} {g : za_L → Nat} {D : va_G} {cy : Nat → ClassId} {K : za_M → Prop} {d : Nat} {R_X10_either : za_M → (za_M → Prop) → Prop} {R_X10_both : za_M → (za_M → Prop) → Prop} {R_X10_compared : za_M → (za_M → Prop) → Prop} {R_X10_sum : za_M → (za_M → Prop) → Prop} {R_X10_product : za_M → (za_M → Prop) → Prop} {R_X10_one : za_M → (za_M → Prop) → Prop} 
set_option maxRecDepth 100000 in
set_option maxHeartbeats 4000000 in
theorem p_X10_sum_b80 (hJ : za_J g) (C : za_C p s m args c cX10_sum 2 RX10 g D cy) (hr : meth.sig.returnType = none) (hk : meth.locks = false) (hR_X10_either : ∀ {M : za_M} {K : za_M → Prop}, R_X10_either M K → za_Mv l g D cy yX10_either cX10_either 1 none (9 + d) (423 + 60 * d) [.ref (g (27, 0, 0))] M K) (hR_X10_both : ∀ {M : za_M} {K : za_M → Prop}, R_X10_both M K → za_Mv l g D cy yX10_both cX10_both 1 none (9 + d) (423 + 60 * d) [.ref (g (27, 0, 0))] M K) (hR_X10_compared : ∀ {M : za_M} {K : za_M → Prop}, R_X10_compared M K → za_Mv l g D cy yX10_compared cX10_compared 2 none (9 + d) (423 + 60 * d) [.ref (g (27, 0, 0))] M K) (hR_X10_sum : ∀ {M : za_M} {K : za_M → Prop}, R_X10_sum M K → za_Mv l g D cy yX10_sum cX10_sum 2 none (9 + d) (423 + 60 * d) [.ref (g (27, 0, 0))] M K) (hR_X10_product : ∀ {M : za_M} {K : za_M → Prop}, R_X10_product M K → za_Mv l g D cy yX10_product cX10_product 2 none (9 + d) (423 + 60 * d) [.ref (g (27, 0, 0))] M K) (hR_X10_one : ∀ {M : za_M} {K : za_M → Prop}, R_X10_one M K → za_Mv l g D cy yX10_one cX10_one 4 none (9 + d) (423 + 60 * d) [.ref (g (27, 0, 0))] M K) {s0 : Int32} {L36 : Int32 → za_M → Prop} (hL36 : ∀ (x1 : Int32) (M : za_M), L36 x1 M → zt p l e (za_rm (9 + (d + 1)) (423 + 60 * (d + 1))) s m args below meth c 0 0 (MQ below (za_Qv g D cy K) args s 0 0 (za_A g)) g D cy 2 M 36 [(0, .ref (g (27, 0, 0))), (1, .int x1)] []) {M : za_M} (h : f_X10_sum_b80 R_X10_either R_X10_both R_X10_compared R_X10_sum R_X10_product R_X10_one K L36 s0 M) : zt p l e (za_rm (9 + (d + 1)) (423 + 60 * (d + 1))) s m args below meth c 0 0 (MQ below (za_Qv g D cy K) args s 0 0 (za_A g)) g D cy 2 M 80 [(0, .ref (g (27, 0, 0)))] [.int s0] := by
  unfold f_X10_sum_b80 at h
  refine zt_istore_n C [(1, .int s0), (0, .ref (g (27, 0, 0)))] dX10_sum_80 rfl (by decide) rfl ?_
  refine zt_goto C 36 dX10_sum_81 (by decide) ?_
  refine zt_sub [1, 0] (lv' := [(0, .ref (g (27, 0, 0))), (1, .int s0)]) rfl ?_
  exact hL36 _ _ h
set_option maxRecDepth 100000 in
set_option maxHeartbeats 4000000 in
theorem p_X10_sum_b36 (hJ : za_J g) (C : za_C p s m args c cX10_sum 2 RX10 g D cy) (hr : meth.sig.returnType = none) (hk : meth.locks = false) (hR_X10_either : ∀ {M : za_M} {K : za_M → Prop}, R_X10_either M K → za_Mv l g D cy yX10_either cX10_either 1 none (9 + d) (423 + 60 * d) [.ref (g (27, 0, 0))] M K) (hR_X10_both : ∀ {M : za_M} {K : za_M → Prop}, R_X10_both M K → za_Mv l g D cy yX10_both cX10_both 1 none (9 + d) (423 + 60 * d) [.ref (g (27, 0, 0))] M K) (hR_X10_compared : ∀ {M : za_M} {K : za_M → Prop}, R_X10_compared M K → za_Mv l g D cy yX10_compared cX10_compared 2 none (9 + d) (423 + 60 * d) [.ref (g (27, 0, 0))] M K) (hR_X10_sum : ∀ {M : za_M} {K : za_M → Prop}, R_X10_sum M K → za_Mv l g D cy yX10_sum cX10_sum 2 none (9 + d) (423 + 60 * d) [.ref (g (27, 0, 0))] M K) (hR_X10_product : ∀ {M : za_M} {K : za_M → Prop}, R_X10_product M K → za_Mv l g D cy yX10_product cX10_product 2 none (9 + d) (423 + 60 * d) [.ref (g (27, 0, 0))] M K) (hR_X10_one : ∀ {M : za_M} {K : za_M → Prop}, R_X10_one M K → za_Mv l g D cy yX10_one cX10_one 4 none (9 + d) (423 + 60 * d) [.ref (g (27, 0, 0))] M K) {L36 : Int32 → za_M → Prop} (hL36 : ∀ (x1 : Int32) (M : za_M), L36 x1 M → zt p l e (za_rm (9 + (d + 1)) (423 + 60 * (d + 1))) s m args below meth c 0 0 (MQ below (za_Qv g D cy K) args s 0 0 (za_A g)) g D cy 2 M 36 [(0, .ref (g (27, 0, 0))), (1, .int x1)] []) : ∀ (x1 : Int32) (M : za_M), f_X10_sum_b36 R_X10_either R_X10_both R_X10_compared R_X10_sum R_X10_product R_X10_one K L36 x1 M → zt p l e (za_rm (9 + (d + 1)) (423 + 60 * (d + 1))) s m args below meth c 0 0 (MQ below (za_Qv g D cy K) args s 0 0 (za_A g)) g D cy 2 M 36 [(0, .ref (g (27, 0, 0))), (1, .int x1)] [] := by
  intro x1 M h
  unfold f_X10_sum_b36 at h
  refine zt_iload_n C 1 dX10_sum_36 rfl rfl ?_
  refine zt_if_le C 84 dX10_sum_37 (by decide) (fun q1 => ?_) (fun q1 => ?_)
  · replace h := za_ifp h q1
    exact zt_vret C hr hk dX10_sum_84 h
  · replace h := za_ifn h q1
    refine zt_aload_n C 0 dX10_sum_40 rfl rfl ?_
    refine zt_cVv C [] (hR_X10_product  h) (za_mem (j := 27) rfl (by decide) (by decide)) (za_E_27 g cy M 0 0) rfl py_X10_product pv_X10_114 (Nat.le_of_ble_eq_true rfl) ⟨by dsimp only [za_rm]; omega, by dsimp only [za_rm]; omega⟩ ⟨Nat.zero_le _, Nat.zero_le _⟩ dX10_sum_41 rfl (fun M2 h => ?_)
    refine zt_aload_n C 0 dX10_sum_44 rfl rfl ?_
    refine zt_iload_n C 1 dX10_sum_45 rfl rfl ?_
    refine zt_cVv C [.int x1] (m_X10_codes hJ  h) (za_mem (j := 27) rfl (by decide) (by decide)) (za_E_27 g cy M2 0 0) rfl py_X10_codes pv_X10_104 (Nat.le_of_ble_eq_true rfl) ⟨by dsimp only [za_rm]; omega, by dsimp only [za_rm]; omega⟩ ⟨Nat.zero_le _, Nat.zero_le _⟩ dX10_sum_46 rfl (fun M4 h => ?_)
    refine zt_aload_n C 0 dX10_sum_49 rfl rfl ?_
    refine zt_bipush C (v := 43) dX10_sum_50 zk_b43 ?_
    refine zt_cVi C [.int 43] (m_X10_takes hJ  h) (za_mem (j := 27) rfl (by decide) (by decide)) (za_E_27 g cy M4 0 0) rfl py_X10_takes pv_X10_100 (Nat.le_of_ble_eq_true rfl) ⟨by dsimp only [za_rm]; omega, by dsimp only [za_rm]; omega⟩ ⟨Nat.zero_le _, Nat.zero_le _⟩ dX10_sum_52 rfl (fun r7 M6 h => ?_)
    refine zt_if_eq C 64 dX10_sum_55 (by decide) (fun q8 => ?_) (fun q8 => ?_)
    · replace h := za_ifp h q8
      refine zt_aload_n C 0 dX10_sum_64 rfl rfl ?_
      refine zt_bipush C (v := 45) dX10_sum_65 zk_b45 ?_
      refine zt_cVi C [.int 45] (m_X10_takes hJ  h) (za_mem (j := 27) rfl (by decide) (by decide)) (za_E_27 g cy M6 0 0) rfl py_X10_takes pv_X10_100 (Nat.le_of_ble_eq_true rfl) ⟨by dsimp only [za_rm]; omega, by dsimp only [za_rm]; omega⟩ ⟨Nat.zero_le _, Nat.zero_le _⟩ dX10_sum_67 rfl (fun r10 M9 h => ?_)
      refine zt_if_eq C 79 dX10_sum_70 (by decide) (fun q11 => ?_) (fun q11 => ?_)
      · replace h := za_ifp h q11
        refine zt_iconst C (v := 0) dX10_sum_79 zk_i0 ?_
        refine zt_sub [0] (lv' := [(0, .ref (g (27, 0, 0)))]) rfl ?_
        exact p_X10_sum_b80 hJ C hr hk hR_X10_either hR_X10_both hR_X10_compared hR_X10_sum hR_X10_product hR_X10_one hL36 h
      · replace h := za_ifn h q11
        refine zt_sipush C (v := 20006) dX10_sum_73 zk_s20006 ?_
        refine zt_goto C 80 dX10_sum_76 (by decide) ?_
        refine zt_sub [0] (lv' := [(0, .ref (g (27, 0, 0)))]) rfl ?_
        exact p_X10_sum_b80 hJ C hr hk hR_X10_either hR_X10_both hR_X10_compared hR_X10_sum hR_X10_product hR_X10_one hL36 h
    · replace h := za_ifn h q8
      refine zt_sipush C (v := 20005) dX10_sum_58 zk_s20005 ?_
      refine zt_goto C 80 dX10_sum_61 (by decide) ?_
      refine zt_sub [0] (lv' := [(0, .ref (g (27, 0, 0)))]) rfl ?_
      exact p_X10_sum_b80 hJ C hr hk hR_X10_either hR_X10_both hR_X10_compared hR_X10_sum hR_X10_product hR_X10_one hL36 h
theorem p_X10_sum_b36_in (hJ : za_J g) (C : za_C p s m args c cX10_sum 2 RX10 g D cy) (hr : meth.sig.returnType = none) (hk : meth.locks = false) (hR_X10_either : ∀ {M : za_M} {K : za_M → Prop}, R_X10_either M K → za_Mv l g D cy yX10_either cX10_either 1 none (9 + d) (423 + 60 * d) [.ref (g (27, 0, 0))] M K) (hR_X10_both : ∀ {M : za_M} {K : za_M → Prop}, R_X10_both M K → za_Mv l g D cy yX10_both cX10_both 1 none (9 + d) (423 + 60 * d) [.ref (g (27, 0, 0))] M K) (hR_X10_compared : ∀ {M : za_M} {K : za_M → Prop}, R_X10_compared M K → za_Mv l g D cy yX10_compared cX10_compared 2 none (9 + d) (423 + 60 * d) [.ref (g (27, 0, 0))] M K) (hR_X10_sum : ∀ {M : za_M} {K : za_M → Prop}, R_X10_sum M K → za_Mv l g D cy yX10_sum cX10_sum 2 none (9 + d) (423 + 60 * d) [.ref (g (27, 0, 0))] M K) (hR_X10_product : ∀ {M : za_M} {K : za_M → Prop}, R_X10_product M K → za_Mv l g D cy yX10_product cX10_product 2 none (9 + d) (423 + 60 * d) [.ref (g (27, 0, 0))] M K) (hR_X10_one : ∀ {M : za_M} {K : za_M → Prop}, R_X10_one M K → za_Mv l g D cy yX10_one cX10_one 4 none (9 + d) (423 + 60 * d) [.ref (g (27, 0, 0))] M K) {n : Nat} {x1 : Int32} {M : za_M} (h : za_lp1 (f_X10_sum_b36 R_X10_either R_X10_both R_X10_compared R_X10_sum R_X10_product R_X10_one K) n x1 M) : zt p l e (za_rm (9 + (d + 1)) (423 + 60 * (d + 1))) s m args below meth c 0 0 (MQ below (za_Qv g D cy K) args s 0 0 (za_A g)) g D cy 2 M 36 [(0, .ref (g (27, 0, 0))), (1, .int x1)] [] := za_lp1_run (Z := fun x1 M => zt p l e (za_rm (9 + (d + 1)) (423 + 60 * (d + 1))) s m args below meth c 0 0 (MQ below (za_Qv g D cy K) args s 0 0 (za_A g)) g D cy 2 M 36 [(0, .ref (g (27, 0, 0))), (1, .int x1)] []) (fun L hL => p_X10_sum_b36 hJ C hr hk hR_X10_either hR_X10_both hR_X10_compared hR_X10_sum hR_X10_product hR_X10_one  hL) n x1 M h
set_option maxRecDepth 100000 in
set_option maxHeartbeats 4000000 in
theorem p_X10_sum_b35 (hJ : za_J g) (C : za_C p s m args c cX10_sum 2 RX10 g D cy) (hr : meth.sig.returnType = none) (hk : meth.locks = false) (hR_X10_either : ∀ {M : za_M} {K : za_M → Prop}, R_X10_either M K → za_Mv l g D cy yX10_either cX10_either 1 none (9 + d) (423 + 60 * d) [.ref (g (27, 0, 0))] M K) (hR_X10_both : ∀ {M : za_M} {K : za_M → Prop}, R_X10_both M K → za_Mv l g D cy yX10_both cX10_both 1 none (9 + d) (423 + 60 * d) [.ref (g (27, 0, 0))] M K) (hR_X10_compared : ∀ {M : za_M} {K : za_M → Prop}, R_X10_compared M K → za_Mv l g D cy yX10_compared cX10_compared 2 none (9 + d) (423 + 60 * d) [.ref (g (27, 0, 0))] M K) (hR_X10_sum : ∀ {M : za_M} {K : za_M → Prop}, R_X10_sum M K → za_Mv l g D cy yX10_sum cX10_sum 2 none (9 + d) (423 + 60 * d) [.ref (g (27, 0, 0))] M K) (hR_X10_product : ∀ {M : za_M} {K : za_M → Prop}, R_X10_product M K → za_Mv l g D cy yX10_product cX10_product 2 none (9 + d) (423 + 60 * d) [.ref (g (27, 0, 0))] M K) (hR_X10_one : ∀ {M : za_M} {K : za_M → Prop}, R_X10_one M K → za_Mv l g D cy yX10_one cX10_one 4 none (9 + d) (423 + 60 * d) [.ref (g (27, 0, 0))] M K) {s0 : Int32} {M : za_M} (h : f_X10_sum_b35 R_X10_either R_X10_both R_X10_compared R_X10_sum R_X10_product R_X10_one K s0 M) : zt p l e (za_rm (9 + (d + 1)) (423 + 60 * (d + 1))) s m args below meth c 0 0 (MQ below (za_Qv g D cy K) args s 0 0 (za_A g)) g D cy 2 M 35 [(0, .ref (g (27, 0, 0)))] [.int s0] := by
  unfold f_X10_sum_b35 at h
  refine zt_istore_n C [(1, .int s0), (0, .ref (g (27, 0, 0)))] dX10_sum_35 rfl (by decide) rfl ?_
  refine zt_sub [1, 0] (lv' := [(0, .ref (g (27, 0, 0))), (1, .int s0)]) rfl ?_
  obtain ⟨n, h⟩ := h
  exact p_X10_sum_b36_in hJ C hr hk hR_X10_either hR_X10_both hR_X10_compared hR_X10_sum hR_X10_product hR_X10_one  h
set_option maxRecDepth 100000 in
set_option maxHeartbeats 4000000 in
theorem p_X10_sum (hJ : za_J g) (C : za_C p s m args c cX10_sum 2 RX10 g D cy) (hr : meth.sig.returnType = none) (hk : meth.locks = false) (hR_X10_either : ∀ {M : za_M} {K : za_M → Prop}, R_X10_either M K → za_Mv l g D cy yX10_either cX10_either 1 none (9 + d) (423 + 60 * d) [.ref (g (27, 0, 0))] M K) (hR_X10_both : ∀ {M : za_M} {K : za_M → Prop}, R_X10_both M K → za_Mv l g D cy yX10_both cX10_both 1 none (9 + d) (423 + 60 * d) [.ref (g (27, 0, 0))] M K) (hR_X10_compared : ∀ {M : za_M} {K : za_M → Prop}, R_X10_compared M K → za_Mv l g D cy yX10_compared cX10_compared 2 none (9 + d) (423 + 60 * d) [.ref (g (27, 0, 0))] M K) (hR_X10_sum : ∀ {M : za_M} {K : za_M → Prop}, R_X10_sum M K → za_Mv l g D cy yX10_sum cX10_sum 2 none (9 + d) (423 + 60 * d) [.ref (g (27, 0, 0))] M K) (hR_X10_product : ∀ {M : za_M} {K : za_M → Prop}, R_X10_product M K → za_Mv l g D cy yX10_product cX10_product 2 none (9 + d) (423 + 60 * d) [.ref (g (27, 0, 0))] M K) (hR_X10_one : ∀ {M : za_M} {K : za_M → Prop}, R_X10_one M K → za_Mv l g D cy yX10_one cX10_one 4 none (9 + d) (423 + 60 * d) [.ref (g (27, 0, 0))] M K) {M : za_M} (h : fb_X10_sum R_X10_either R_X10_both R_X10_compared R_X10_sum R_X10_product R_X10_one M K) : zt p l e (za_rm (9 + (d + 1)) (423 + 60 * (d + 1))) s m args below meth c 0 0 (MQ below (za_Qv g D cy K) args s 0 0 (za_A g)) g D cy 2 M 0 [(0, .ref (g (27, 0, 0)))] [] := by
  unfold fb_X10_sum at h
  refine zt_aload_n C 0 dX10_sum_0 rfl rfl ?_
  refine zt_cVv C [] (hR_X10_product  h) (za_mem (j := 27) rfl (by decide) (by decide)) (za_E_27 g cy M 0 0) rfl py_X10_product pv_X10_114 (Nat.le_of_ble_eq_true rfl) ⟨by dsimp only [za_rm]; omega, by dsimp only [za_rm]; omega⟩ ⟨Nat.zero_le _, Nat.zero_le _⟩ dX10_sum_1 rfl (fun M12 h => ?_)
  refine zt_aload_n C 0 dX10_sum_4 rfl rfl ?_
  refine zt_bipush C (v := 43) dX10_sum_5 zk_b43 ?_
  refine zt_cVi C [.int 43] (m_X10_takes hJ  h) (za_mem (j := 27) rfl (by decide) (by decide)) (za_E_27 g cy M12 0 0) rfl py_X10_takes pv_X10_100 (Nat.le_of_ble_eq_true rfl) ⟨by dsimp only [za_rm]; omega, by dsimp only [za_rm]; omega⟩ ⟨Nat.zero_le _, Nat.zero_le _⟩ dX10_sum_7 rfl (fun r15 M14 h => ?_)
  refine zt_if_eq C 19 dX10_sum_10 (by decide) (fun q16 => ?_) (fun q16 => ?_)
  · replace h := za_ifp h q16
    refine zt_aload_n C 0 dX10_sum_19 rfl rfl ?_
    refine zt_bipush C (v := 45) dX10_sum_20 zk_b45 ?_
    refine zt_cVi C [.int 45] (m_X10_takes hJ  h) (za_mem (j := 27) rfl (by decide) (by decide)) (za_E_27 g cy M14 0 0) rfl py_X10_takes pv_X10_100 (Nat.le_of_ble_eq_true rfl) ⟨by dsimp only [za_rm]; omega, by dsimp only [za_rm]; omega⟩ ⟨Nat.zero_le _, Nat.zero_le _⟩ dX10_sum_22 rfl (fun r18 M17 h => ?_)
    refine zt_if_eq C 34 dX10_sum_25 (by decide) (fun q19 => ?_) (fun q19 => ?_)
    · replace h := za_ifp h q19
      refine zt_iconst C (v := 0) dX10_sum_34 zk_i0 ?_
      exact p_X10_sum_b35 hJ C hr hk hR_X10_either hR_X10_both hR_X10_compared hR_X10_sum hR_X10_product hR_X10_one  h
    · replace h := za_ifn h q19
      refine zt_sipush C (v := 20006) dX10_sum_28 zk_s20006 ?_
      refine zt_goto C 35 dX10_sum_31 (by decide) ?_
      exact p_X10_sum_b35 hJ C hr hk hR_X10_either hR_X10_both hR_X10_compared hR_X10_sum hR_X10_product hR_X10_one  h
  · replace h := za_ifn h q16
    refine zt_sipush C (v := 20005) dX10_sum_13 zk_s20005 ?_
    refine zt_goto C 35 dX10_sum_16 (by decide) ?_
    exact p_X10_sum_b35 hJ C hr hk hR_X10_either hR_X10_both hR_X10_compared hR_X10_sum hR_X10_product hR_X10_one  h
end
theorem mb_X10_sum {l : Launch} {g : za_L → Nat} {D : va_G} {cy : Nat → ClassId} {d : Nat} {R_X10_either : za_M → (za_M → Prop) → Prop} {R_X10_both : za_M → (za_M → Prop) → Prop} {R_X10_compared : za_M → (za_M → Prop) → Prop} {R_X10_sum : za_M → (za_M → Prop) → Prop} {R_X10_product : za_M → (za_M → Prop) → Prop} {R_X10_one : za_M → (za_M → Prop) → Prop} (hJ : za_J g) (hR_X10_either : ∀ {M : za_M} {K : za_M → Prop}, R_X10_either M K → za_Mv l g D cy yX10_either cX10_either 1 none (9 + d) (423 + 60 * d) [.ref (g (27, 0, 0))] M K) (hR_X10_both : ∀ {M : za_M} {K : za_M → Prop}, R_X10_both M K → za_Mv l g D cy yX10_both cX10_both 1 none (9 + d) (423 + 60 * d) [.ref (g (27, 0, 0))] M K) (hR_X10_compared : ∀ {M : za_M} {K : za_M → Prop}, R_X10_compared M K → za_Mv l g D cy yX10_compared cX10_compared 2 none (9 + d) (423 + 60 * d) [.ref (g (27, 0, 0))] M K) (hR_X10_sum : ∀ {M : za_M} {K : za_M → Prop}, R_X10_sum M K → za_Mv l g D cy yX10_sum cX10_sum 2 none (9 + d) (423 + 60 * d) [.ref (g (27, 0, 0))] M K) (hR_X10_product : ∀ {M : za_M} {K : za_M → Prop}, R_X10_product M K → za_Mv l g D cy yX10_product cX10_product 2 none (9 + d) (423 + 60 * d) [.ref (g (27, 0, 0))] M K) (hR_X10_one : ∀ {M : za_M} {K : za_M → Prop}, R_X10_one M K → za_Mv l g D cy yX10_one cX10_one 4 none (9 + d) (423 + 60 * d) [.ref (g (27, 0, 0))] M K) {M : za_M} {K : za_M → Prop} (h : fb_X10_sum R_X10_either R_X10_both R_X10_compared R_X10_sum R_X10_product R_X10_one M K) : za_Mv l g D cy yX10_sum cX10_sum 2 none (9 + (d + 1)) (423 + 60 * (d + 1)) [.ref (g (27, 0, 0))] M K := za_openv hJ (by decide) (Nat.le_of_ble_eq_true rfl) (fun p e s m args below meth c C hr hk => p_X10_sum hJ C hr hk hR_X10_either hR_X10_both hR_X10_compared hR_X10_sum hR_X10_product hR_X10_one  h)
def f_X10_product_b110 (R_X10_either : za_M → (za_M → Prop) → Prop) (R_X10_both : za_M → (za_M → Prop) → Prop) (R_X10_compared : za_M → (za_M → Prop) → Prop) (R_X10_sum : za_M → (za_M → Prop) → Prop) (R_X10_product : za_M → (za_M → Prop) → Prop) (R_X10_one : za_M → (za_M → Prop) → Prop) (K : za_M → Prop) (L51 : Int32 → za_M → Prop) (s0 : Int32) (M : za_M) : Prop :=
  L51 s0 M
def f_X10_product_b51 (R_X10_either : za_M → (za_M → Prop) → Prop) (R_X10_both : za_M → (za_M → Prop) → Prop) (R_X10_compared : za_M → (za_M → Prop) → Prop) (R_X10_sum : za_M → (za_M → Prop) → Prop) (R_X10_product : za_M → (za_M → Prop) → Prop) (R_X10_one : za_M → (za_M → Prop) → Prop) (K : za_M → Prop) (L51 : Int32 → za_M → Prop) (x1 : Int32) (M : za_M) : Prop :=
  if x1 ≤ 0 then (K M) else (R_X10_one M (fun M2 => f_X10_codes x1 M2 (fun M4 => f_X10_takes 42 M4 (fun r7 M6 => if r7 = 0 then (f_X10_takes 47 M6 (fun r10 M9 => if r10 = 0 then (f_X10_takes 37 M9 (fun r13 M12 => if r13 = 0 then (f_X10_product_b110 R_X10_either R_X10_both R_X10_compared R_X10_sum R_X10_product R_X10_one K L51 0 M12) else (f_X10_product_b110 R_X10_either R_X10_both R_X10_compared R_X10_sum R_X10_product R_X10_one K L51 20009 M12))) else (f_X10_product_b110 R_X10_either R_X10_both R_X10_compared R_X10_sum R_X10_product R_X10_one K L51 20008 M9))) else (f_X10_product_b110 R_X10_either R_X10_both R_X10_compared R_X10_sum R_X10_product R_X10_one K L51 20007 M6)))))
def f_X10_product_b50 (R_X10_either : za_M → (za_M → Prop) → Prop) (R_X10_both : za_M → (za_M → Prop) → Prop) (R_X10_compared : za_M → (za_M → Prop) → Prop) (R_X10_sum : za_M → (za_M → Prop) → Prop) (R_X10_product : za_M → (za_M → Prop) → Prop) (R_X10_one : za_M → (za_M → Prop) → Prop) (K : za_M → Prop) (s0 : Int32) (M : za_M) : Prop :=
  ∃ n, za_lp1 (f_X10_product_b51 R_X10_either R_X10_both R_X10_compared R_X10_sum R_X10_product R_X10_one K) n s0 M
def fb_X10_product (R_X10_either : za_M → (za_M → Prop) → Prop) (R_X10_both : za_M → (za_M → Prop) → Prop) (R_X10_compared : za_M → (za_M → Prop) → Prop) (R_X10_sum : za_M → (za_M → Prop) → Prop) (R_X10_product : za_M → (za_M → Prop) → Prop) (R_X10_one : za_M → (za_M → Prop) → Prop) (M : za_M) (K : za_M → Prop) : Prop :=
  R_X10_one M (fun M15 => f_X10_takes 42 M15 (fun r18 M17 => if r18 = 0 then (f_X10_takes 47 M17 (fun r21 M20 => if r21 = 0 then (f_X10_takes 37 M20 (fun r24 M23 => if r24 = 0 then (f_X10_product_b50 R_X10_either R_X10_both R_X10_compared R_X10_sum R_X10_product R_X10_one K 0 M23) else (f_X10_product_b50 R_X10_either R_X10_both R_X10_compared R_X10_sum R_X10_product R_X10_one K 20009 M23))) else (f_X10_product_b50 R_X10_either R_X10_both R_X10_compared R_X10_sum R_X10_product R_X10_one K 20008 M20))) else (f_X10_product_b50 R_X10_either R_X10_both R_X10_compared R_X10_sum R_X10_product R_X10_one K 20007 M17)))
section
variable {p : Program} {l : Launch} {e : Env} {s : State} {m : MethodId} {args : Array Value} {below : List Frame} {meth : Method} {c : Code} {g : za_L → Nat} {D : va_G} {cy : Nat → ClassId} {K : za_M → Prop} {d : Nat} {R_X10_either : za_M → (za_M → Prop) → Prop} {R_X10_both : za_M → (za_M → Prop) → Prop} {R_X10_compared : za_M → (za_M → Prop) → Prop} {R_X10_sum : za_M → (za_M → Prop) → Prop} {R_X10_product : za_M → (za_M → Prop) → Prop} {R_X10_one : za_M → (za_M → Prop) → Prop} 
set_option maxRecDepth 100000 in
set_option maxHeartbeats 4000000 in
theorem p_X10_product_b110 (hJ : za_J g) (C : za_C p s m args c cX10_product 2 RX10 g D cy) (hr : meth.sig.returnType = none) (hk : meth.locks = false) (hR_X10_either : ∀ {M : za_M} {K : za_M → Prop}, R_X10_either M K → za_Mv l g D cy yX10_either cX10_either 1 none (9 + d) (423 + 60 * d) [.ref (g (27, 0, 0))] M K) (hR_X10_both : ∀ {M : za_M} {K : za_M → Prop}, R_X10_both M K → za_Mv l g D cy yX10_both cX10_both 1 none (9 + d) (423 + 60 * d) [.ref (g (27, 0, 0))] M K) (hR_X10_compared : ∀ {M : za_M} {K : za_M → Prop}, R_X10_compared M K → za_Mv l g D cy yX10_compared cX10_compared 2 none (9 + d) (423 + 60 * d) [.ref (g (27, 0, 0))] M K) (hR_X10_sum : ∀ {M : za_M} {K : za_M → Prop}, R_X10_sum M K → za_Mv l g D cy yX10_sum cX10_sum 2 none (9 + d) (423 + 60 * d) [.ref (g (27, 0, 0))] M K) (hR_X10_product : ∀ {M : za_M} {K : za_M → Prop}, R_X10_product M K → za_Mv l g D cy yX10_product cX10_product 2 none (9 + d) (423 + 60 * d) [.ref (g (27, 0, 0))] M K) (hR_X10_one : ∀ {M : za_M} {K : za_M → Prop}, R_X10_one M K → za_Mv l g D cy yX10_one cX10_one 4 none (9 + d) (423 + 60 * d) [.ref (g (27, 0, 0))] M K) {s0 : Int32} {L51 : Int32 → za_M → Prop} (hL51 : ∀ (x1 : Int32) (M : za_M), L51 x1 M → zt p l e (za_rm (9 + (d + 1)) (423 + 60 * (d + 1))) s m args below meth c 0 0 (MQ below (za_Qv g D cy K) args s 0 0 (za_A g)) g D cy 2 M 51 [(0, .ref (g (27, 0, 0))), (1, .int x1)] []) {M : za_M} (h : f_X10_product_b110 R_X10_either R_X10_both R_X10_compared R_X10_sum R_X10_product R_X10_one K L51 s0 M) : zt p l e (za_rm (9 + (d + 1)) (423 + 60 * (d + 1))) s m args below meth c 0 0 (MQ below (za_Qv g D cy K) args s 0 0 (za_A g)) g D cy 2 M 110 [(0, .ref (g (27, 0, 0)))] [.int s0] := by
  unfold f_X10_product_b110 at h
  refine zt_istore_n C [(1, .int s0), (0, .ref (g (27, 0, 0)))] dX10_product_110 rfl (by decide) rfl ?_
  refine zt_goto C 51 dX10_product_111 (by decide) ?_
  refine zt_sub [1, 0] (lv' := [(0, .ref (g (27, 0, 0))), (1, .int s0)]) rfl ?_
  exact hL51 _ _ h
set_option maxRecDepth 100000 in
set_option maxHeartbeats 4000000 in
theorem p_X10_product_b51 (hJ : za_J g) (C : za_C p s m args c cX10_product 2 RX10 g D cy) (hr : meth.sig.returnType = none) (hk : meth.locks = false) (hR_X10_either : ∀ {M : za_M} {K : za_M → Prop}, R_X10_either M K → za_Mv l g D cy yX10_either cX10_either 1 none (9 + d) (423 + 60 * d) [.ref (g (27, 0, 0))] M K) (hR_X10_both : ∀ {M : za_M} {K : za_M → Prop}, R_X10_both M K → za_Mv l g D cy yX10_both cX10_both 1 none (9 + d) (423 + 60 * d) [.ref (g (27, 0, 0))] M K) (hR_X10_compared : ∀ {M : za_M} {K : za_M → Prop}, R_X10_compared M K → za_Mv l g D cy yX10_compared cX10_compared 2 none (9 + d) (423 + 60 * d) [.ref (g (27, 0, 0))] M K) (hR_X10_sum : ∀ {M : za_M} {K : za_M → Prop}, R_X10_sum M K → za_Mv l g D cy yX10_sum cX10_sum 2 none (9 + d) (423 + 60 * d) [.ref (g (27, 0, 0))] M K) (hR_X10_product : ∀ {M : za_M} {K : za_M → Prop}, R_X10_product M K → za_Mv l g D cy yX10_product cX10_product 2 none (9 + d) (423 + 60 * d) [.ref (g (27, 0, 0))] M K) (hR_X10_one : ∀ {M : za_M} {K : za_M → Prop}, R_X10_one M K → za_Mv l g D cy yX10_one cX10_one 4 none (9 + d) (423 + 60 * d) [.ref (g (27, 0, 0))] M K) {L51 : Int32 → za_M → Prop} (hL51 : ∀ (x1 : Int32) (M : za_M), L51 x1 M → zt p l e (za_rm (9 + (d + 1)) (423 + 60 * (d + 1))) s m args below meth c 0 0 (MQ below (za_Qv g D cy K) args s 0 0 (za_A g)) g D cy 2 M 51 [(0, .ref (g (27, 0, 0))), (1, .int x1)] []) : ∀ (x1 : Int32) (M : za_M), f_X10_product_b51 R_X10_either R_X10_both R_X10_compared R_X10_sum R_X10_product R_X10_one K L51 x1 M → zt p l e (za_rm (9 + (d + 1)) (423 + 60 * (d + 1))) s m args below meth c 0 0 (MQ below (za_Qv g D cy K) args s 0 0 (za_A g)) g D cy 2 M 51 [(0, .ref (g (27, 0, 0))), (1, .int x1)] [] := by
  intro x1 M h
  unfold f_X10_product_b51 at h
  refine zt_iload_n C 1 dX10_product_51 rfl rfl ?_
  refine zt_if_le C 114 dX10_product_52 (by decide) (fun q1 => ?_) (fun q1 => ?_)
  · replace h := za_ifp h q1
    exact zt_vret C hr hk dX10_product_114 h
  · replace h := za_ifn h q1
    refine zt_aload_n C 0 dX10_product_55 rfl rfl ?_
    refine zt_cVv C [] (hR_X10_one  h) (za_mem (j := 27) rfl (by decide) (by decide)) (za_E_27 g cy M 0 0) rfl py_X10_one pv_X10_117 (Nat.le_of_ble_eq_true rfl) ⟨by dsimp only [za_rm]; omega, by dsimp only [za_rm]; omega⟩ ⟨Nat.zero_le _, Nat.zero_le _⟩ dX10_product_56 rfl (fun M2 h => ?_)
    refine zt_aload_n C 0 dX10_product_59 rfl rfl ?_
    refine zt_iload_n C 1 dX10_product_60 rfl rfl ?_
    refine zt_cVv C [.int x1] (m_X10_codes hJ  h) (za_mem (j := 27) rfl (by decide) (by decide)) (za_E_27 g cy M2 0 0) rfl py_X10_codes pv_X10_104 (Nat.le_of_ble_eq_true rfl) ⟨by dsimp only [za_rm]; omega, by dsimp only [za_rm]; omega⟩ ⟨Nat.zero_le _, Nat.zero_le _⟩ dX10_product_61 rfl (fun M4 h => ?_)
    refine zt_aload_n C 0 dX10_product_64 rfl rfl ?_
    refine zt_bipush C (v := 42) dX10_product_65 zk_b42 ?_
    refine zt_cVi C [.int 42] (m_X10_takes hJ  h) (za_mem (j := 27) rfl (by decide) (by decide)) (za_E_27 g cy M4 0 0) rfl py_X10_takes pv_X10_100 (Nat.le_of_ble_eq_true rfl) ⟨by dsimp only [za_rm]; omega, by dsimp only [za_rm]; omega⟩ ⟨Nat.zero_le _, Nat.zero_le _⟩ dX10_product_67 rfl (fun r7 M6 h => ?_)
    refine zt_if_eq C 79 dX10_product_70 (by decide) (fun q8 => ?_) (fun q8 => ?_)
    · replace h := za_ifp h q8
      refine zt_aload_n C 0 dX10_product_79 rfl rfl ?_
      refine zt_bipush C (v := 47) dX10_product_80 zk_b47 ?_
      refine zt_cVi C [.int 47] (m_X10_takes hJ  h) (za_mem (j := 27) rfl (by decide) (by decide)) (za_E_27 g cy M6 0 0) rfl py_X10_takes pv_X10_100 (Nat.le_of_ble_eq_true rfl) ⟨by dsimp only [za_rm]; omega, by dsimp only [za_rm]; omega⟩ ⟨Nat.zero_le _, Nat.zero_le _⟩ dX10_product_82 rfl (fun r10 M9 h => ?_)
      refine zt_if_eq C 94 dX10_product_85 (by decide) (fun q11 => ?_) (fun q11 => ?_)
      · replace h := za_ifp h q11
        refine zt_aload_n C 0 dX10_product_94 rfl rfl ?_
        refine zt_bipush C (v := 37) dX10_product_95 zk_b37 ?_
        refine zt_cVi C [.int 37] (m_X10_takes hJ  h) (za_mem (j := 27) rfl (by decide) (by decide)) (za_E_27 g cy M9 0 0) rfl py_X10_takes pv_X10_100 (Nat.le_of_ble_eq_true rfl) ⟨by dsimp only [za_rm]; omega, by dsimp only [za_rm]; omega⟩ ⟨Nat.zero_le _, Nat.zero_le _⟩ dX10_product_97 rfl (fun r13 M12 h => ?_)
        refine zt_if_eq C 109 dX10_product_100 (by decide) (fun q14 => ?_) (fun q14 => ?_)
        · replace h := za_ifp h q14
          refine zt_iconst C (v := 0) dX10_product_109 zk_i0 ?_
          refine zt_sub [0] (lv' := [(0, .ref (g (27, 0, 0)))]) rfl ?_
          exact p_X10_product_b110 hJ C hr hk hR_X10_either hR_X10_both hR_X10_compared hR_X10_sum hR_X10_product hR_X10_one hL51 h
        · replace h := za_ifn h q14
          refine zt_sipush C (v := 20009) dX10_product_103 zk_s20009 ?_
          refine zt_goto C 110 dX10_product_106 (by decide) ?_
          refine zt_sub [0] (lv' := [(0, .ref (g (27, 0, 0)))]) rfl ?_
          exact p_X10_product_b110 hJ C hr hk hR_X10_either hR_X10_both hR_X10_compared hR_X10_sum hR_X10_product hR_X10_one hL51 h
      · replace h := za_ifn h q11
        refine zt_sipush C (v := 20008) dX10_product_88 zk_s20008 ?_
        refine zt_goto C 110 dX10_product_91 (by decide) ?_
        refine zt_sub [0] (lv' := [(0, .ref (g (27, 0, 0)))]) rfl ?_
        exact p_X10_product_b110 hJ C hr hk hR_X10_either hR_X10_both hR_X10_compared hR_X10_sum hR_X10_product hR_X10_one hL51 h
    · replace h := za_ifn h q8
      refine zt_sipush C (v := 20007) dX10_product_73 zk_s20007 ?_
      refine zt_goto C 110 dX10_product_76 (by decide) ?_
      refine zt_sub [0] (lv' := [(0, .ref (g (27, 0, 0)))]) rfl ?_
      exact p_X10_product_b110 hJ C hr hk hR_X10_either hR_X10_both hR_X10_compared hR_X10_sum hR_X10_product hR_X10_one hL51 h
theorem p_X10_product_b51_in (hJ : za_J g) (C : za_C p s m args c cX10_product 2 RX10 g D cy) (hr : meth.sig.returnType = none) (hk : meth.locks = false) (hR_X10_either : ∀ {M : za_M} {K : za_M → Prop}, R_X10_either M K → za_Mv l g D cy yX10_either cX10_either 1 none (9 + d) (423 + 60 * d) [.ref (g (27, 0, 0))] M K) (hR_X10_both : ∀ {M : za_M} {K : za_M → Prop}, R_X10_both M K → za_Mv l g D cy yX10_both cX10_both 1 none (9 + d) (423 + 60 * d) [.ref (g (27, 0, 0))] M K) (hR_X10_compared : ∀ {M : za_M} {K : za_M → Prop}, R_X10_compared M K → za_Mv l g D cy yX10_compared cX10_compared 2 none (9 + d) (423 + 60 * d) [.ref (g (27, 0, 0))] M K) (hR_X10_sum : ∀ {M : za_M} {K : za_M → Prop}, R_X10_sum M K → za_Mv l g D cy yX10_sum cX10_sum 2 none (9 + d) (423 + 60 * d) [.ref (g (27, 0, 0))] M K) (hR_X10_product : ∀ {M : za_M} {K : za_M → Prop}, R_X10_product M K → za_Mv l g D cy yX10_product cX10_product 2 none (9 + d) (423 + 60 * d) [.ref (g (27, 0, 0))] M K) (hR_X10_one : ∀ {M : za_M} {K : za_M → Prop}, R_X10_one M K → za_Mv l g D cy yX10_one cX10_one 4 none (9 + d) (423 + 60 * d) [.ref (g (27, 0, 0))] M K) {n : Nat} {x1 : Int32} {M : za_M} (h : za_lp1 (f_X10_product_b51 R_X10_either R_X10_both R_X10_compared R_X10_sum R_X10_product R_X10_one K) n x1 M) : zt p l e (za_rm (9 + (d + 1)) (423 + 60 * (d + 1))) s m args below meth c 0 0 (MQ below (za_Qv g D cy K) args s 0 0 (za_A g)) g D cy 2 M 51 [(0, .ref (g (27, 0, 0))), (1, .int x1)] [] := za_lp1_run (Z := fun x1 M => zt p l e (za_rm (9 + (d + 1)) (423 + 60 * (d + 1))) s m args below meth c 0 0 (MQ below (za_Qv g D cy K) args s 0 0 (za_A g)) g D cy 2 M 51 [(0, .ref (g (27, 0, 0))), (1, .int x1)] []) (fun L hL => p_X10_product_b51 hJ C hr hk hR_X10_either hR_X10_both hR_X10_compared hR_X10_sum hR_X10_product hR_X10_one  hL) n x1 M h
set_option maxRecDepth 100000 in
set_option maxHeartbeats 4000000 in
theorem p_X10_product_b50 (hJ : za_J g) (C : za_C p s m args c cX10_product 2 RX10 g D cy) (hr : meth.sig.returnType = none) (hk : meth.locks = false) (hR_X10_either : ∀ {M : za_M} {K : za_M → Prop}, R_X10_either M K → za_Mv l g D cy yX10_either cX10_either 1 none (9 + d) (423 + 60 * d) [.ref (g (27, 0, 0))] M K) (hR_X10_both : ∀ {M : za_M} {K : za_M → Prop}, R_X10_both M K → za_Mv l g D cy yX10_both cX10_both 1 none (9 + d) (423 + 60 * d) [.ref (g (27, 0, 0))] M K) (hR_X10_compared : ∀ {M : za_M} {K : za_M → Prop}, R_X10_compared M K → za_Mv l g D cy yX10_compared cX10_compared 2 none (9 + d) (423 + 60 * d) [.ref (g (27, 0, 0))] M K) (hR_X10_sum : ∀ {M : za_M} {K : za_M → Prop}, R_X10_sum M K → za_Mv l g D cy yX10_sum cX10_sum 2 none (9 + d) (423 + 60 * d) [.ref (g (27, 0, 0))] M K) (hR_X10_product : ∀ {M : za_M} {K : za_M → Prop}, R_X10_product M K → za_Mv l g D cy yX10_product cX10_product 2 none (9 + d) (423 + 60 * d) [.ref (g (27, 0, 0))] M K) (hR_X10_one : ∀ {M : za_M} {K : za_M → Prop}, R_X10_one M K → za_Mv l g D cy yX10_one cX10_one 4 none (9 + d) (423 + 60 * d) [.ref (g (27, 0, 0))] M K) {s0 : Int32} {M : za_M} (h : f_X10_product_b50 R_X10_either R_X10_both R_X10_compared R_X10_sum R_X10_product R_X10_one K s0 M) : zt p l e (za_rm (9 + (d + 1)) (423 + 60 * (d + 1))) s m args below meth c 0 0 (MQ below (za_Qv g D cy K) args s 0 0 (za_A g)) g D cy 2 M 50 [(0, .ref (g (27, 0, 0)))] [.int s0] := by
  unfold f_X10_product_b50 at h
  refine zt_istore_n C [(1, .int s0), (0, .ref (g (27, 0, 0)))] dX10_product_50 rfl (by decide) rfl ?_
  refine zt_sub [1, 0] (lv' := [(0, .ref (g (27, 0, 0))), (1, .int s0)]) rfl ?_
  obtain ⟨n, h⟩ := h
  exact p_X10_product_b51_in hJ C hr hk hR_X10_either hR_X10_both hR_X10_compared hR_X10_sum hR_X10_product hR_X10_one  h
set_option maxRecDepth 100000 in
set_option maxHeartbeats 4000000 in
theorem p_X10_product (hJ : za_J g) (C : za_C p s m args c cX10_product 2 RX10 g D cy) (hr : meth.sig.returnType = none) (hk : meth.locks = false) (hR_X10_either : ∀ {M : za_M} {K : za_M → Prop}, R_X10_either M K → za_Mv l g D cy yX10_either cX10_either 1 none (9 + d) (423 + 60 * d) [.ref (g (27, 0, 0))] M K) (hR_X10_both : ∀ {M : za_M} {K : za_M → Prop}, R_X10_both M K → za_Mv l g D cy yX10_both cX10_both 1 none (9 + d) (423 + 60 * d) [.ref (g (27, 0, 0))] M K) (hR_X10_compared : ∀ {M : za_M} {K : za_M → Prop}, R_X10_compared M K → za_Mv l g D cy yX10_compared cX10_compared 2 none (9 + d) (423 + 60 * d) [.ref (g (27, 0, 0))] M K) (hR_X10_sum : ∀ {M : za_M} {K : za_M → Prop}, R_X10_sum M K → za_Mv l g D cy yX10_sum cX10_sum 2 none (9 + d) (423 + 60 * d) [.ref (g (27, 0, 0))] M K) (hR_X10_product : ∀ {M : za_M} {K : za_M → Prop}, R_X10_product M K → za_Mv l g D cy yX10_product cX10_product 2 none (9 + d) (423 + 60 * d) [.ref (g (27, 0, 0))] M K) (hR_X10_one : ∀ {M : za_M} {K : za_M → Prop}, R_X10_one M K → za_Mv l g D cy yX10_one cX10_one 4 none (9 + d) (423 + 60 * d) [.ref (g (27, 0, 0))] M K) {M : za_M} (h : fb_X10_product R_X10_either R_X10_both R_X10_compared R_X10_sum R_X10_product R_X10_one M K) : zt p l e (za_rm (9 + (d + 1)) (423 + 60 * (d + 1))) s m args below meth c 0 0 (MQ below (za_Qv g D cy K) args s 0 0 (za_A g)) g D cy 2 M 0 [(0, .ref (g (27, 0, 0)))] [] := by
  unfold fb_X10_product at h
  refine zt_aload_n C 0 dX10_product_0 rfl rfl ?_
  refine zt_cVv C [] (hR_X10_one  h) (za_mem (j := 27) rfl (by decide) (by decide)) (za_E_27 g cy M 0 0) rfl py_X10_one pv_X10_117 (Nat.le_of_ble_eq_true rfl) ⟨by dsimp only [za_rm]; omega, by dsimp only [za_rm]; omega⟩ ⟨Nat.zero_le _, Nat.zero_le _⟩ dX10_product_1 rfl (fun M15 h => ?_)
  refine zt_aload_n C 0 dX10_product_4 rfl rfl ?_
  refine zt_bipush C (v := 42) dX10_product_5 zk_b42 ?_
  refine zt_cVi C [.int 42] (m_X10_takes hJ  h) (za_mem (j := 27) rfl (by decide) (by decide)) (za_E_27 g cy M15 0 0) rfl py_X10_takes pv_X10_100 (Nat.le_of_ble_eq_true rfl) ⟨by dsimp only [za_rm]; omega, by dsimp only [za_rm]; omega⟩ ⟨Nat.zero_le _, Nat.zero_le _⟩ dX10_product_7 rfl (fun r18 M17 h => ?_)
  refine zt_if_eq C 19 dX10_product_10 (by decide) (fun q19 => ?_) (fun q19 => ?_)
  · replace h := za_ifp h q19
    refine zt_aload_n C 0 dX10_product_19 rfl rfl ?_
    refine zt_bipush C (v := 47) dX10_product_20 zk_b47 ?_
    refine zt_cVi C [.int 47] (m_X10_takes hJ  h) (za_mem (j := 27) rfl (by decide) (by decide)) (za_E_27 g cy M17 0 0) rfl py_X10_takes pv_X10_100 (Nat.le_of_ble_eq_true rfl) ⟨by dsimp only [za_rm]; omega, by dsimp only [za_rm]; omega⟩ ⟨Nat.zero_le _, Nat.zero_le _⟩ dX10_product_22 rfl (fun r21 M20 h => ?_)
    refine zt_if_eq C 34 dX10_product_25 (by decide) (fun q22 => ?_) (fun q22 => ?_)
    · replace h := za_ifp h q22
      refine zt_aload_n C 0 dX10_product_34 rfl rfl ?_
      refine zt_bipush C (v := 37) dX10_product_35 zk_b37 ?_
      refine zt_cVi C [.int 37] (m_X10_takes hJ  h) (za_mem (j := 27) rfl (by decide) (by decide)) (za_E_27 g cy M20 0 0) rfl py_X10_takes pv_X10_100 (Nat.le_of_ble_eq_true rfl) ⟨by dsimp only [za_rm]; omega, by dsimp only [za_rm]; omega⟩ ⟨Nat.zero_le _, Nat.zero_le _⟩ dX10_product_37 rfl (fun r24 M23 h => ?_)
      refine zt_if_eq C 49 dX10_product_40 (by decide) (fun q25 => ?_) (fun q25 => ?_)
      · replace h := za_ifp h q25
        refine zt_iconst C (v := 0) dX10_product_49 zk_i0 ?_
        exact p_X10_product_b50 hJ C hr hk hR_X10_either hR_X10_both hR_X10_compared hR_X10_sum hR_X10_product hR_X10_one  h
      · replace h := za_ifn h q25
        refine zt_sipush C (v := 20009) dX10_product_43 zk_s20009 ?_
        refine zt_goto C 50 dX10_product_46 (by decide) ?_
        exact p_X10_product_b50 hJ C hr hk hR_X10_either hR_X10_both hR_X10_compared hR_X10_sum hR_X10_product hR_X10_one  h
    · replace h := za_ifn h q22
      refine zt_sipush C (v := 20008) dX10_product_28 zk_s20008 ?_
      refine zt_goto C 50 dX10_product_31 (by decide) ?_
      exact p_X10_product_b50 hJ C hr hk hR_X10_either hR_X10_both hR_X10_compared hR_X10_sum hR_X10_product hR_X10_one  h
  · replace h := za_ifn h q19
    refine zt_sipush C (v := 20007) dX10_product_13 zk_s20007 ?_
    refine zt_goto C 50 dX10_product_16 (by decide) ?_
    exact p_X10_product_b50 hJ C hr hk hR_X10_either hR_X10_both hR_X10_compared hR_X10_sum hR_X10_product hR_X10_one  h
end
theorem mb_X10_product {l : Launch} {g : za_L → Nat} {D : va_G} {cy : Nat → ClassId} {d : Nat} {R_X10_either : za_M → (za_M → Prop) → Prop} {R_X10_both : za_M → (za_M → Prop) → Prop} {R_X10_compared : za_M → (za_M → Prop) → Prop} {R_X10_sum : za_M → (za_M → Prop) → Prop} {R_X10_product : za_M → (za_M → Prop) → Prop} {R_X10_one : za_M → (za_M → Prop) → Prop} (hJ : za_J g) (hR_X10_either : ∀ {M : za_M} {K : za_M → Prop}, R_X10_either M K → za_Mv l g D cy yX10_either cX10_either 1 none (9 + d) (423 + 60 * d) [.ref (g (27, 0, 0))] M K) (hR_X10_both : ∀ {M : za_M} {K : za_M → Prop}, R_X10_both M K → za_Mv l g D cy yX10_both cX10_both 1 none (9 + d) (423 + 60 * d) [.ref (g (27, 0, 0))] M K) (hR_X10_compared : ∀ {M : za_M} {K : za_M → Prop}, R_X10_compared M K → za_Mv l g D cy yX10_compared cX10_compared 2 none (9 + d) (423 + 60 * d) [.ref (g (27, 0, 0))] M K) (hR_X10_sum : ∀ {M : za_M} {K : za_M → Prop}, R_X10_sum M K → za_Mv l g D cy yX10_sum cX10_sum 2 none (9 + d) (423 + 60 * d) [.ref (g (27, 0, 0))] M K) (hR_X10_product : ∀ {M : za_M} {K : za_M → Prop}, R_X10_product M K → za_Mv l g D cy yX10_product cX10_product 2 none (9 + d) (423 + 60 * d) [.ref (g (27, 0, 0))] M K) (hR_X10_one : ∀ {M : za_M} {K : za_M → Prop}, R_X10_one M K → za_Mv l g D cy yX10_one cX10_one 4 none (9 + d) (423 + 60 * d) [.ref (g (27, 0, 0))] M K) {M : za_M} {K : za_M → Prop} (h : fb_X10_product R_X10_either R_X10_both R_X10_compared R_X10_sum R_X10_product R_X10_one M K) : za_Mv l g D cy yX10_product cX10_product 2 none (9 + (d + 1)) (423 + 60 * (d + 1)) [.ref (g (27, 0, 0))] M K := za_openv hJ (by decide) (Nat.le_of_ble_eq_true rfl) (fun p e s m args below meth c C hr hk => p_X10_product hJ C hr hk hR_X10_either hR_X10_both hR_X10_compared hR_X10_sum hR_X10_product hR_X10_one  h)
def f_X10_one_b103 (R_X10_either : za_M → (za_M → Prop) → Prop) (R_X10_both : za_M → (za_M → Prop) → Prop) (R_X10_compared : za_M → (za_M → Prop) → Prop) (R_X10_sum : za_M → (za_M → Prop) → Prop) (R_X10_product : za_M → (za_M → Prop) → Prop) (R_X10_one : za_M → (za_M → Prop) → Prop) (K : za_M → Prop) (M : za_M) : Prop :=
  za_let ((M.1 (27, 0, 0) 7) - 1) fun y1 => za_let (za_up M (27, 0, 0) 7 y1) fun M3 => K M3
def f_X10_one_b100 (R_X10_either : za_M → (za_M → Prop) → Prop) (R_X10_both : za_M → (za_M → Prop) → Prop) (R_X10_compared : za_M → (za_M → Prop) → Prop) (R_X10_sum : za_M → (za_M → Prop) → Prop) (R_X10_product : za_M → (za_M → Prop) → Prop) (R_X10_one : za_M → (za_M → Prop) → Prop) (K : za_M → Prop) (s1 : Int32) (M : za_M) : Prop :=
  za_B s1 ∧ (za_let (za_up M (27, 0, 0) 9 s1) fun M6 => f_X10_one_b103 R_X10_either R_X10_both R_X10_compared R_X10_sum R_X10_product R_X10_one K M6)
def f_X10_one_b31 (R_X10_either : za_M → (za_M → Prop) → Prop) (R_X10_both : za_M → (za_M → Prop) → Prop) (R_X10_compared : za_M → (za_M → Prop) → Prop) (R_X10_sum : za_M → (za_M → Prop) → Prop) (R_X10_product : za_M → (za_M → Prop) → Prop) (R_X10_one : za_M → (za_M → Prop) → Prop) (K : za_M → Prop) (x1 : Int32) (s1 : Int32) (M : za_M) : Prop :=
  za_B s1 ∧ (za_let (za_up M (27, 0, 0) 9 s1) fun M9 => if (M9.1 (27, 0, 0) 9) = 0 then (za_let ((M9.1 (27, 0, 0) 7) + 1) fun y12 => za_let (za_up M9 (27, 0, 0) 7 y12) fun M14 => za_let ((M14.1 (27, 0, 0) 6) + 1) fun y16 => za_let (za_up M14 (27, 0, 0) 6 y16) fun M18 => if x1 = 33 then (R_X10_one M18 (fun M26 => f_X10_codes 20010 M26 (fun M28 => f_X10_one_b103 R_X10_either R_X10_both R_X10_compared R_X10_sum R_X10_product R_X10_one K M28))) else (R_X10_either M18 (fun M21 => f_X10_takes 41 M21 (fun r24 M23 => if r24 = 0 then (f_X10_one_b100 R_X10_either R_X10_both R_X10_compared R_X10_sum R_X10_product R_X10_one K 1 M23) else (f_X10_one_b100 R_X10_either R_X10_both R_X10_compared R_X10_sum R_X10_product R_X10_one K 0 M23))))) else (K M9))
def f_X10_one_b17 (R_X10_either : za_M → (za_M → Prop) → Prop) (R_X10_both : za_M → (za_M → Prop) → Prop) (R_X10_compared : za_M → (za_M → Prop) → Prop) (R_X10_sum : za_M → (za_M → Prop) → Prop) (R_X10_product : za_M → (za_M → Prop) → Prop) (R_X10_one : za_M → (za_M → Prop) → Prop) (K : za_M → Prop) (x1 : Int32) (M : za_M) : Prop :=
  if (M.1 (27, 0, 0) 7) = 5 then (f_X10_one_b31 R_X10_either R_X10_both R_X10_compared R_X10_sum R_X10_product R_X10_one K x1 1 M) else (f_X10_one_b31 R_X10_either R_X10_both R_X10_compared R_X10_sum R_X10_product R_X10_one K x1 0 M)
def f_X10_one_b218 (R_X10_either : za_M → (za_M → Prop) → Prop) (R_X10_both : za_M → (za_M → Prop) → Prop) (R_X10_compared : za_M → (za_M → Prop) → Prop) (R_X10_sum : za_M → (za_M → Prop) → Prop) (R_X10_product : za_M → (za_M → Prop) → Prop) (R_X10_one : za_M → (za_M → Prop) → Prop) (K : za_M → Prop) (x2 : Int32) (s1 : Int32) (M : za_M) : Prop :=
  za_B s1 ∧ (za_let (za_up M (27, 0, 0) 9 s1) fun M32 => if (M32.1 (27, 0, 0) 9) = 0 then (f_X10_codes (10000 + x2) M32 (fun M35 => za_let ((M35.1 (27, 0, 0) 6) + 1) fun y37 => za_let (za_up M35 (27, 0, 0) 6 y37) fun M39 => K M39)) else (K M32))
def f_X10_one_b213 (R_X10_either : za_M → (za_M → Prop) → Prop) (R_X10_both : za_M → (za_M → Prop) → Prop) (R_X10_compared : za_M → (za_M → Prop) → Prop) (R_X10_sum : za_M → (za_M → Prop) → Prop) (R_X10_product : za_M → (za_M → Prop) → Prop) (R_X10_one : za_M → (za_M → Prop) → Prop) (K : za_M → Prop) (x2 : Int32) (M : za_M) : Prop :=
  f_X10_one_b218 R_X10_either R_X10_both R_X10_compared R_X10_sum R_X10_product R_X10_one K x2 1 M
def f_X10_one_b200 (R_X10_either : za_M → (za_M → Prop) → Prop) (R_X10_both : za_M → (za_M → Prop) → Prop) (R_X10_compared : za_M → (za_M → Prop) → Prop) (R_X10_sum : za_M → (za_M → Prop) → Prop) (R_X10_product : za_M → (za_M → Prop) → Prop) (R_X10_one : za_M → (za_M → Prop) → Prop) (K : za_M → Prop) (s0 : Int32) (M : za_M) : Prop :=
  if (M.1 (27, 0, 0) 9) = 0 then (if 0 ≤ s0 then (f_X10_one_b218 R_X10_either R_X10_both R_X10_compared R_X10_sum R_X10_product R_X10_one K s0 0 M) else (f_X10_one_b213 R_X10_either R_X10_both R_X10_compared R_X10_sum R_X10_product R_X10_one K s0 M)) else (f_X10_one_b213 R_X10_either R_X10_both R_X10_compared R_X10_sum R_X10_product R_X10_one K s0 M)
def f_X10_one_b179 (R_X10_either : za_M → (za_M → Prop) → Prop) (R_X10_both : za_M → (za_M → Prop) → Prop) (R_X10_compared : za_M → (za_M → Prop) → Prop) (R_X10_sum : za_M → (za_M → Prop) → Prop) (R_X10_product : za_M → (za_M → Prop) → Prop) (R_X10_one : za_M → (za_M → Prop) → Prop) (K : za_M → Prop) (x2 : Int32) (M : za_M) : Prop :=
  f_X10_codes x2 M (fun M43 => K M43)
def f_X10_one_b131 (R_X10_either : za_M → (za_M → Prop) → Prop) (R_X10_both : za_M → (za_M → Prop) → Prop) (R_X10_compared : za_M → (za_M → Prop) → Prop) (R_X10_sum : za_M → (za_M → Prop) → Prop) (R_X10_product : za_M → (za_M → Prop) → Prop) (R_X10_one : za_M → (za_M → Prop) → Prop) (K : za_M → Prop) (L131 : Int32 → Int32 → za_M → Prop) (x2 : Int32) (x3 : Int32) (M : za_M) : Prop :=
  if 4 ≤ x3 then (f_X10_one_b179 R_X10_either R_X10_both R_X10_compared R_X10_sum R_X10_product R_X10_one K x2 M) else (f_X10_here M (fun r47 M46 => f_X10_within r47 48 57 M46 (fun r49 M48 => if r49 = 0 then (f_X10_one_b179 R_X10_either R_X10_both R_X10_compared R_X10_sum R_X10_product R_X10_one K x2 M48) else (f_X10_here M48 (fun r52 M51 => za_let (((10 * x2) + r52) - 48) fun y53 => za_let ((M51.1 (27, 0, 0) 6) + 1) fun y55 => za_let (za_up M51 (27, 0, 0) 6 y55) fun M57 => L131 y53 (x3 + 1) M57)))))
def fb_X10_one (R_X10_either : za_M → (za_M → Prop) → Prop) (R_X10_both : za_M → (za_M → Prop) → Prop) (R_X10_compared : za_M → (za_M → Prop) → Prop) (R_X10_sum : za_M → (za_M → Prop) → Prop) (R_X10_product : za_M → (za_M → Prop) → Prop) (R_X10_one : za_M → (za_M → Prop) → Prop) (M : za_M) (K : za_M → Prop) : Prop :=
  f_X10_here M (fun r60 M59 => if r60 = 33 then (f_X10_one_b17 R_X10_either R_X10_both R_X10_compared R_X10_sum R_X10_product R_X10_one K r60 M59) else (if r60 = 40 then (f_X10_one_b17 R_X10_either R_X10_both R_X10_compared R_X10_sum R_X10_product R_X10_one K r60 M59) else (f_X10_within r60 48 57 M59 (fun r64 M63 => if r64 = 0 then (if 0 ≤ r60 then (f_X10_nameOf r60 M63 (fun r68 M67 => f_X10_one_b200 R_X10_either R_X10_both R_X10_compared R_X10_sum R_X10_product R_X10_one K r68 M67)) else (f_X10_one_b200 R_X10_either R_X10_both R_X10_compared R_X10_sum R_X10_product R_X10_one K (-1) M63)) else (∃ n, za_lp2 (f_X10_one_b131 R_X10_either R_X10_both R_X10_compared R_X10_sum R_X10_product R_X10_one K) n 0 0 M63)))))
section
variable {p : Program} {l : Launch} {e : Env} {s : State} {m : MethodId} {args : Array Value} {below : List Frame} {meth : Method} {c : Code} {g : za_L → Nat} {D : va_G} {cy : Nat → ClassId} {K : za_M → Prop} {d : Nat} {R_X10_either : za_M → (za_M → Prop) → Prop} {R_X10_both : za_M → (za_M → Prop) → Prop} {R_X10_compared : za_M → (za_M → Prop) → Prop} {R_X10_sum : za_M → (za_M → Prop) → Prop} {R_X10_product : za_M → (za_M → Prop) → Prop} {R_X10_one : za_M → (za_M → Prop) → Prop} 
set_option maxRecDepth 100000 in
set_option maxHeartbeats 4000000 in
theorem p_X10_one_b103 (hJ : za_J g) (C : za_C p s m args c cX10_one 4 RX10 g D cy) (hr : meth.sig.returnType = none) (hk : meth.locks = false) (hR_X10_either : ∀ {M : za_M} {K : za_M → Prop}, R_X10_either M K → za_Mv l g D cy yX10_either cX10_either 1 none (9 + d) (423 + 60 * d) [.ref (g (27, 0, 0))] M K) (hR_X10_both : ∀ {M : za_M} {K : za_M → Prop}, R_X10_both M K → za_Mv l g D cy yX10_both cX10_both 1 none (9 + d) (423 + 60 * d) [.ref (g (27, 0, 0))] M K) (hR_X10_compared : ∀ {M : za_M} {K : za_M → Prop}, R_X10_compared M K → za_Mv l g D cy yX10_compared cX10_compared 2 none (9 + d) (423 + 60 * d) [.ref (g (27, 0, 0))] M K) (hR_X10_sum : ∀ {M : za_M} {K : za_M → Prop}, R_X10_sum M K → za_Mv l g D cy yX10_sum cX10_sum 2 none (9 + d) (423 + 60 * d) [.ref (g (27, 0, 0))] M K) (hR_X10_product : ∀ {M : za_M} {K : za_M → Prop}, R_X10_product M K → za_Mv l g D cy yX10_product cX10_product 2 none (9 + d) (423 + 60 * d) [.ref (g (27, 0, 0))] M K) (hR_X10_one : ∀ {M : za_M} {K : za_M → Prop}, R_X10_one M K → za_Mv l g D cy yX10_one cX10_one 4 none (9 + d) (423 + 60 * d) [.ref (g (27, 0, 0))] M K) {M : za_M} (h : f_X10_one_b103 R_X10_either R_X10_both R_X10_compared R_X10_sum R_X10_product R_X10_one K M) : zt p l e (za_rm (9 + (d + 1)) (423 + 60 * (d + 1))) s m args below meth c 0 0 (MQ below (za_Qv g D cy K) args s 0 0 (za_A g)) g D cy 4 M 103 [(0, .ref (g (27, 0, 0)))] [] := by
  unfold f_X10_one_b103 at h
  refine zt_aload_n C 0 dX10_one_103 rfl rfl ?_
  refine zt_dup C dX10_one_104 rfl ?_
  refine zt_get C (za_mem (j := 27) rfl (by decide) (by decide)) pf_X10_130 (za_E_27 g cy M 0 0) rfl dX10_one_105 ?_
  refine zt_iconst C (v := 1) dX10_one_108 zk_i1 ?_
  refine zt_isub C dX10_one_109 ?_
  refine zt_topi (fun y1 e2 => ?_)
  replace h := za_use h e2
  refine zt_put C (za_mem (j := 27) rfl (by decide) (by decide)) pf_X10_130 pt_X10_7 rfl rfl (za_E_27 g cy M 0 0) rfl (Nat.le_of_ble_eq_true rfl) dX10_one_110 ?_
  refine zt_topM (fun M3 e4 => ?_)
  replace h := za_use h e4
  refine zt_goto C 247 dX10_one_113 (by decide) ?_
  exact zt_vret C hr hk dX10_one_247 h
set_option maxRecDepth 100000 in
set_option maxHeartbeats 4000000 in
theorem p_X10_one_b100 (hJ : za_J g) (C : za_C p s m args c cX10_one 4 RX10 g D cy) (hr : meth.sig.returnType = none) (hk : meth.locks = false) (hR_X10_either : ∀ {M : za_M} {K : za_M → Prop}, R_X10_either M K → za_Mv l g D cy yX10_either cX10_either 1 none (9 + d) (423 + 60 * d) [.ref (g (27, 0, 0))] M K) (hR_X10_both : ∀ {M : za_M} {K : za_M → Prop}, R_X10_both M K → za_Mv l g D cy yX10_both cX10_both 1 none (9 + d) (423 + 60 * d) [.ref (g (27, 0, 0))] M K) (hR_X10_compared : ∀ {M : za_M} {K : za_M → Prop}, R_X10_compared M K → za_Mv l g D cy yX10_compared cX10_compared 2 none (9 + d) (423 + 60 * d) [.ref (g (27, 0, 0))] M K) (hR_X10_sum : ∀ {M : za_M} {K : za_M → Prop}, R_X10_sum M K → za_Mv l g D cy yX10_sum cX10_sum 2 none (9 + d) (423 + 60 * d) [.ref (g (27, 0, 0))] M K) (hR_X10_product : ∀ {M : za_M} {K : za_M → Prop}, R_X10_product M K → za_Mv l g D cy yX10_product cX10_product 2 none (9 + d) (423 + 60 * d) [.ref (g (27, 0, 0))] M K) (hR_X10_one : ∀ {M : za_M} {K : za_M → Prop}, R_X10_one M K → za_Mv l g D cy yX10_one cX10_one 4 none (9 + d) (423 + 60 * d) [.ref (g (27, 0, 0))] M K) {s1 : Int32} {M : za_M} (h : f_X10_one_b100 R_X10_either R_X10_both R_X10_compared R_X10_sum R_X10_product R_X10_one K s1 M) : zt p l e (za_rm (9 + (d + 1)) (423 + 60 * (d + 1))) s m args below meth c 0 0 (MQ below (za_Qv g D cy K) args s 0 0 (za_A g)) g D cy 4 M 100 [(0, .ref (g (27, 0, 0)))] [.int s1, .ref (g (27, 0, 0))] := by
  unfold f_X10_one_b100 at h
  obtain ⟨g5, h⟩ := h
  refine zt_put C (za_mem (j := 27) rfl (by decide) (by decide)) pf_X10_82 pt_X10_9 (za_Bn g5) (za_Bf g5) (za_E_27 g cy M 0 0) rfl (Nat.le_of_ble_eq_true rfl) dX10_one_100 ?_
  refine zt_topM (fun M6 e7 => ?_)
  replace h := za_use h e7
  exact p_X10_one_b103 hJ C hr hk hR_X10_either hR_X10_both hR_X10_compared hR_X10_sum hR_X10_product hR_X10_one  h
set_option maxRecDepth 100000 in
set_option maxHeartbeats 4000000 in
theorem p_X10_one_b31 (hJ : za_J g) (C : za_C p s m args c cX10_one 4 RX10 g D cy) (hr : meth.sig.returnType = none) (hk : meth.locks = false) (hR_X10_either : ∀ {M : za_M} {K : za_M → Prop}, R_X10_either M K → za_Mv l g D cy yX10_either cX10_either 1 none (9 + d) (423 + 60 * d) [.ref (g (27, 0, 0))] M K) (hR_X10_both : ∀ {M : za_M} {K : za_M → Prop}, R_X10_both M K → za_Mv l g D cy yX10_both cX10_both 1 none (9 + d) (423 + 60 * d) [.ref (g (27, 0, 0))] M K) (hR_X10_compared : ∀ {M : za_M} {K : za_M → Prop}, R_X10_compared M K → za_Mv l g D cy yX10_compared cX10_compared 2 none (9 + d) (423 + 60 * d) [.ref (g (27, 0, 0))] M K) (hR_X10_sum : ∀ {M : za_M} {K : za_M → Prop}, R_X10_sum M K → za_Mv l g D cy yX10_sum cX10_sum 2 none (9 + d) (423 + 60 * d) [.ref (g (27, 0, 0))] M K) (hR_X10_product : ∀ {M : za_M} {K : za_M → Prop}, R_X10_product M K → za_Mv l g D cy yX10_product cX10_product 2 none (9 + d) (423 + 60 * d) [.ref (g (27, 0, 0))] M K) (hR_X10_one : ∀ {M : za_M} {K : za_M → Prop}, R_X10_one M K → za_Mv l g D cy yX10_one cX10_one 4 none (9 + d) (423 + 60 * d) [.ref (g (27, 0, 0))] M K) {x1 : Int32} {s1 : Int32} {M : za_M} (h : f_X10_one_b31 R_X10_either R_X10_both R_X10_compared R_X10_sum R_X10_product R_X10_one K x1 s1 M) : zt p l e (za_rm (9 + (d + 1)) (423 + 60 * (d + 1))) s m args below meth c 0 0 (MQ below (za_Qv g D cy K) args s 0 0 (za_A g)) g D cy 4 M 31 [(0, .ref (g (27, 0, 0))), (1, .int x1)] [.int s1, .ref (g (27, 0, 0))] := by
  unfold f_X10_one_b31 at h
  obtain ⟨g8, h⟩ := h
  refine zt_put C (za_mem (j := 27) rfl (by decide) (by decide)) pf_X10_82 pt_X10_9 (za_Bn g8) (za_Bf g8) (za_E_27 g cy M 0 0) rfl (Nat.le_of_ble_eq_true rfl) dX10_one_31 ?_
  refine zt_topM (fun M9 e10 => ?_)
  replace h := za_use h e10
  refine zt_aload_n C 0 dX10_one_34 rfl rfl ?_
  refine zt_get C (za_mem (j := 27) rfl (by decide) (by decide)) pf_X10_82 (za_E_27 g cy M9 0 0) rfl dX10_one_35 ?_
  refine zt_if_ne C 247 dX10_one_38 (by decide) (fun q11 => ?_) (fun q11 => ?_)
  · replace h := za_ifn h q11
    exact zt_vret C hr hk dX10_one_247 h
  · replace h := za_ifp h q11
    refine zt_aload_n C 0 dX10_one_41 rfl rfl ?_
    refine zt_dup C dX10_one_42 rfl ?_
    refine zt_get C (za_mem (j := 27) rfl (by decide) (by decide)) pf_X10_130 (za_E_27 g cy M9 0 0) rfl dX10_one_43 ?_
    refine zt_iconst C (v := 1) dX10_one_46 zk_i1 ?_
    refine zt_iadd C dX10_one_47 ?_
    refine zt_topi (fun y12 e13 => ?_)
    replace h := za_use h e13
    refine zt_put C (za_mem (j := 27) rfl (by decide) (by decide)) pf_X10_130 pt_X10_7 rfl rfl (za_E_27 g cy M9 0 0) rfl (Nat.le_of_ble_eq_true rfl) dX10_one_48 ?_
    refine zt_topM (fun M14 e15 => ?_)
    replace h := za_use h e15
    refine zt_aload_n C 0 dX10_one_51 rfl rfl ?_
    refine zt_dup C dX10_one_52 rfl ?_
    refine zt_get C (za_mem (j := 27) rfl (by decide) (by decide)) pf_X10_86 (za_E_27 g cy M14 0 0) rfl dX10_one_53 ?_
    refine zt_iconst C (v := 1) dX10_one_56 zk_i1 ?_
    refine zt_iadd C dX10_one_57 ?_
    refine zt_topi (fun y16 e17 => ?_)
    replace h := za_use h e17
    refine zt_put C (za_mem (j := 27) rfl (by decide) (by decide)) pf_X10_86 pt_X10_6 rfl rfl (za_E_27 g cy M14 0 0) rfl (Nat.le_of_ble_eq_true rfl) dX10_one_58 ?_
    refine zt_topM (fun M18 e19 => ?_)
    replace h := za_use h e19
    refine zt_iload_n C 1 dX10_one_61 rfl rfl ?_
    refine zt_bipush C (v := 33) dX10_one_62 zk_b33 ?_
    refine zt_icmp_ne C 81 dX10_one_64 (by decide) (fun q20 => ?_) (fun q20 => ?_)
    · replace h := za_ifn h q20
      refine zt_aload_n C 0 dX10_one_81 rfl rfl ?_
      refine zt_cVv C [] (hR_X10_either  h) (za_mem (j := 27) rfl (by decide) (by decide)) (za_E_27 g cy M18 0 0) rfl py_X10_either pv_X10_133 (Nat.le_of_ble_eq_true rfl) ⟨by dsimp only [za_rm]; omega, by dsimp only [za_rm]; omega⟩ ⟨Nat.zero_le _, Nat.zero_le _⟩ dX10_one_82 rfl (fun M21 h => ?_)
      refine zt_aload_n C 0 dX10_one_85 rfl rfl ?_
      refine zt_aload_n C 0 dX10_one_86 rfl rfl ?_
      refine zt_bipush C (v := 41) dX10_one_87 zk_b41 ?_
      refine zt_cVi C [.int 41] (m_X10_takes hJ  h) (za_mem (j := 27) rfl (by decide) (by decide)) (za_E_27 g cy M21 0 0) rfl py_X10_takes pv_X10_100 (Nat.le_of_ble_eq_true rfl) ⟨by dsimp only [za_rm]; omega, by dsimp only [za_rm]; omega⟩ ⟨Nat.zero_le _, Nat.zero_le _⟩ dX10_one_89 rfl (fun r24 M23 h => ?_)
      refine zt_if_ne C 99 dX10_one_92 (by decide) (fun q25 => ?_) (fun q25 => ?_)
      · replace h := za_ifn h q25
        refine zt_iconst C (v := 0) dX10_one_99 zk_i0 ?_
        refine zt_sub [0] (lv' := [(0, .ref (g (27, 0, 0)))]) rfl ?_
        exact p_X10_one_b100 hJ C hr hk hR_X10_either hR_X10_both hR_X10_compared hR_X10_sum hR_X10_product hR_X10_one  h
      · replace h := za_ifp h q25
        refine zt_iconst C (v := 1) dX10_one_95 zk_i1 ?_
        refine zt_goto C 100 dX10_one_96 (by decide) ?_
        refine zt_sub [0] (lv' := [(0, .ref (g (27, 0, 0)))]) rfl ?_
        exact p_X10_one_b100 hJ C hr hk hR_X10_either hR_X10_both hR_X10_compared hR_X10_sum hR_X10_product hR_X10_one  h
    · replace h := za_ifp h q20
      refine zt_aload_n C 0 dX10_one_67 rfl rfl ?_
      refine zt_cVv C [] (hR_X10_one  h) (za_mem (j := 27) rfl (by decide) (by decide)) (za_E_27 g cy M18 0 0) rfl py_X10_one pv_X10_117 (Nat.le_of_ble_eq_true rfl) ⟨by dsimp only [za_rm]; omega, by dsimp only [za_rm]; omega⟩ ⟨Nat.zero_le _, Nat.zero_le _⟩ dX10_one_68 rfl (fun M26 h => ?_)
      refine zt_aload_n C 0 dX10_one_71 rfl rfl ?_
      refine zt_sipush C (v := 20010) dX10_one_72 zk_s20010 ?_
      refine zt_cVv C [.int 20010] (m_X10_codes hJ  h) (za_mem (j := 27) rfl (by decide) (by decide)) (za_E_27 g cy M26 0 0) rfl py_X10_codes pv_X10_104 (Nat.le_of_ble_eq_true rfl) ⟨by dsimp only [za_rm]; omega, by dsimp only [za_rm]; omega⟩ ⟨Nat.zero_le _, Nat.zero_le _⟩ dX10_one_75 rfl (fun M28 h => ?_)
      refine zt_goto C 103 dX10_one_78 (by decide) ?_
      refine zt_sub [0] (lv' := [(0, .ref (g (27, 0, 0)))]) rfl ?_
      exact p_X10_one_b103 hJ C hr hk hR_X10_either hR_X10_both hR_X10_compared hR_X10_sum hR_X10_product hR_X10_one  h
set_option maxRecDepth 100000 in
set_option maxHeartbeats 4000000 in
theorem p_X10_one_b17 (hJ : za_J g) (C : za_C p s m args c cX10_one 4 RX10 g D cy) (hr : meth.sig.returnType = none) (hk : meth.locks = false) (hR_X10_either : ∀ {M : za_M} {K : za_M → Prop}, R_X10_either M K → za_Mv l g D cy yX10_either cX10_either 1 none (9 + d) (423 + 60 * d) [.ref (g (27, 0, 0))] M K) (hR_X10_both : ∀ {M : za_M} {K : za_M → Prop}, R_X10_both M K → za_Mv l g D cy yX10_both cX10_both 1 none (9 + d) (423 + 60 * d) [.ref (g (27, 0, 0))] M K) (hR_X10_compared : ∀ {M : za_M} {K : za_M → Prop}, R_X10_compared M K → za_Mv l g D cy yX10_compared cX10_compared 2 none (9 + d) (423 + 60 * d) [.ref (g (27, 0, 0))] M K) (hR_X10_sum : ∀ {M : za_M} {K : za_M → Prop}, R_X10_sum M K → za_Mv l g D cy yX10_sum cX10_sum 2 none (9 + d) (423 + 60 * d) [.ref (g (27, 0, 0))] M K) (hR_X10_product : ∀ {M : za_M} {K : za_M → Prop}, R_X10_product M K → za_Mv l g D cy yX10_product cX10_product 2 none (9 + d) (423 + 60 * d) [.ref (g (27, 0, 0))] M K) (hR_X10_one : ∀ {M : za_M} {K : za_M → Prop}, R_X10_one M K → za_Mv l g D cy yX10_one cX10_one 4 none (9 + d) (423 + 60 * d) [.ref (g (27, 0, 0))] M K) {x1 : Int32} {M : za_M} (h : f_X10_one_b17 R_X10_either R_X10_both R_X10_compared R_X10_sum R_X10_product R_X10_one K x1 M) : zt p l e (za_rm (9 + (d + 1)) (423 + 60 * (d + 1))) s m args below meth c 0 0 (MQ below (za_Qv g D cy K) args s 0 0 (za_A g)) g D cy 4 M 17 [(0, .ref (g (27, 0, 0))), (1, .int x1)] [] := by
  unfold f_X10_one_b17 at h
  refine zt_aload_n C 0 dX10_one_17 rfl rfl ?_
  refine zt_aload_n C 0 dX10_one_18 rfl rfl ?_
  refine zt_get C (za_mem (j := 27) rfl (by decide) (by decide)) pf_X10_130 (za_E_27 g cy M 0 0) rfl dX10_one_19 ?_
  refine zt_iconst C (v := 5) dX10_one_22 zk_i5 ?_
  refine zt_icmp_ne C 30 dX10_one_23 (by decide) (fun q30 => ?_) (fun q30 => ?_)
  · replace h := za_ifn h q30
    refine zt_iconst C (v := 0) dX10_one_30 zk_i0 ?_
    exact p_X10_one_b31 hJ C hr hk hR_X10_either hR_X10_both hR_X10_compared hR_X10_sum hR_X10_product hR_X10_one  h
  · replace h := za_ifp h q30
    refine zt_iconst C (v := 1) dX10_one_26 zk_i1 ?_
    refine zt_goto C 31 dX10_one_27 (by decide) ?_
    exact p_X10_one_b31 hJ C hr hk hR_X10_either hR_X10_both hR_X10_compared hR_X10_sum hR_X10_product hR_X10_one  h
set_option maxRecDepth 100000 in
set_option maxHeartbeats 4000000 in
theorem p_X10_one_b218 (hJ : za_J g) (C : za_C p s m args c cX10_one 4 RX10 g D cy) (hr : meth.sig.returnType = none) (hk : meth.locks = false) (hR_X10_either : ∀ {M : za_M} {K : za_M → Prop}, R_X10_either M K → za_Mv l g D cy yX10_either cX10_either 1 none (9 + d) (423 + 60 * d) [.ref (g (27, 0, 0))] M K) (hR_X10_both : ∀ {M : za_M} {K : za_M → Prop}, R_X10_both M K → za_Mv l g D cy yX10_both cX10_both 1 none (9 + d) (423 + 60 * d) [.ref (g (27, 0, 0))] M K) (hR_X10_compared : ∀ {M : za_M} {K : za_M → Prop}, R_X10_compared M K → za_Mv l g D cy yX10_compared cX10_compared 2 none (9 + d) (423 + 60 * d) [.ref (g (27, 0, 0))] M K) (hR_X10_sum : ∀ {M : za_M} {K : za_M → Prop}, R_X10_sum M K → za_Mv l g D cy yX10_sum cX10_sum 2 none (9 + d) (423 + 60 * d) [.ref (g (27, 0, 0))] M K) (hR_X10_product : ∀ {M : za_M} {K : za_M → Prop}, R_X10_product M K → za_Mv l g D cy yX10_product cX10_product 2 none (9 + d) (423 + 60 * d) [.ref (g (27, 0, 0))] M K) (hR_X10_one : ∀ {M : za_M} {K : za_M → Prop}, R_X10_one M K → za_Mv l g D cy yX10_one cX10_one 4 none (9 + d) (423 + 60 * d) [.ref (g (27, 0, 0))] M K) {x2 : Int32} {s1 : Int32} {M : za_M} (h : f_X10_one_b218 R_X10_either R_X10_both R_X10_compared R_X10_sum R_X10_product R_X10_one K x2 s1 M) : zt p l e (za_rm (9 + (d + 1)) (423 + 60 * (d + 1))) s m args below meth c 0 0 (MQ below (za_Qv g D cy K) args s 0 0 (za_A g)) g D cy 4 M 218 [(0, .ref (g (27, 0, 0))), (2, .int x2)] [.int s1, .ref (g (27, 0, 0))] := by
  unfold f_X10_one_b218 at h
  obtain ⟨g31, h⟩ := h
  refine zt_put C (za_mem (j := 27) rfl (by decide) (by decide)) pf_X10_82 pt_X10_9 (za_Bn g31) (za_Bf g31) (za_E_27 g cy M 0 0) rfl (Nat.le_of_ble_eq_true rfl) dX10_one_218 ?_
  refine zt_topM (fun M32 e33 => ?_)
  replace h := za_use h e33
  refine zt_aload_n C 0 dX10_one_221 rfl rfl ?_
  refine zt_get C (za_mem (j := 27) rfl (by decide) (by decide)) pf_X10_82 (za_E_27 g cy M32 0 0) rfl dX10_one_222 ?_
  refine zt_if_ne C 247 dX10_one_225 (by decide) (fun q34 => ?_) (fun q34 => ?_)
  · replace h := za_ifn h q34
    exact zt_vret C hr hk dX10_one_247 h
  · replace h := za_ifp h q34
    refine zt_aload_n C 0 dX10_one_228 rfl rfl ?_
    refine zt_sipush C (v := 10000) dX10_one_229 zk_s10000 ?_
    refine zt_iload_n C 1 dX10_one_232 rfl rfl ?_
    refine zt_iadd C dX10_one_233 ?_
    refine zt_cVv C [.int (10000 + x2)] (m_X10_codes hJ  h) (za_mem (j := 27) rfl (by decide) (by decide)) (za_E_27 g cy M32 0 0) rfl py_X10_codes pv_X10_104 (Nat.le_of_ble_eq_true rfl) ⟨by dsimp only [za_rm]; omega, by dsimp only [za_rm]; omega⟩ ⟨Nat.zero_le _, Nat.zero_le _⟩ dX10_one_234 rfl (fun M35 h => ?_)
    refine zt_aload_n C 0 dX10_one_237 rfl rfl ?_
    refine zt_dup C dX10_one_238 rfl ?_
    refine zt_get C (za_mem (j := 27) rfl (by decide) (by decide)) pf_X10_86 (za_E_27 g cy M35 0 0) rfl dX10_one_239 ?_
    refine zt_iconst C (v := 1) dX10_one_242 zk_i1 ?_
    refine zt_iadd C dX10_one_243 ?_
    refine zt_topi (fun y37 e38 => ?_)
    replace h := za_use h e38
    refine zt_put C (za_mem (j := 27) rfl (by decide) (by decide)) pf_X10_86 pt_X10_6 rfl rfl (za_E_27 g cy M35 0 0) rfl (Nat.le_of_ble_eq_true rfl) dX10_one_244 ?_
    refine zt_topM (fun M39 e40 => ?_)
    replace h := za_use h e40
    exact zt_vret C hr hk dX10_one_247 h
set_option maxRecDepth 100000 in
set_option maxHeartbeats 4000000 in
theorem p_X10_one_b213 (hJ : za_J g) (C : za_C p s m args c cX10_one 4 RX10 g D cy) (hr : meth.sig.returnType = none) (hk : meth.locks = false) (hR_X10_either : ∀ {M : za_M} {K : za_M → Prop}, R_X10_either M K → za_Mv l g D cy yX10_either cX10_either 1 none (9 + d) (423 + 60 * d) [.ref (g (27, 0, 0))] M K) (hR_X10_both : ∀ {M : za_M} {K : za_M → Prop}, R_X10_both M K → za_Mv l g D cy yX10_both cX10_both 1 none (9 + d) (423 + 60 * d) [.ref (g (27, 0, 0))] M K) (hR_X10_compared : ∀ {M : za_M} {K : za_M → Prop}, R_X10_compared M K → za_Mv l g D cy yX10_compared cX10_compared 2 none (9 + d) (423 + 60 * d) [.ref (g (27, 0, 0))] M K) (hR_X10_sum : ∀ {M : za_M} {K : za_M → Prop}, R_X10_sum M K → za_Mv l g D cy yX10_sum cX10_sum 2 none (9 + d) (423 + 60 * d) [.ref (g (27, 0, 0))] M K) (hR_X10_product : ∀ {M : za_M} {K : za_M → Prop}, R_X10_product M K → za_Mv l g D cy yX10_product cX10_product 2 none (9 + d) (423 + 60 * d) [.ref (g (27, 0, 0))] M K) (hR_X10_one : ∀ {M : za_M} {K : za_M → Prop}, R_X10_one M K → za_Mv l g D cy yX10_one cX10_one 4 none (9 + d) (423 + 60 * d) [.ref (g (27, 0, 0))] M K) {x2 : Int32} {M : za_M} (h : f_X10_one_b213 R_X10_either R_X10_both R_X10_compared R_X10_sum R_X10_product R_X10_one K x2 M) : zt p l e (za_rm (9 + (d + 1)) (423 + 60 * (d + 1))) s m args below meth c 0 0 (MQ below (za_Qv g D cy K) args s 0 0 (za_A g)) g D cy 4 M 213 [(0, .ref (g (27, 0, 0))), (2, .int x2)] [.ref (g (27, 0, 0))] := by
  unfold f_X10_one_b213 at h
  refine zt_iconst C (v := 1) dX10_one_213 zk_i1 ?_
  refine zt_goto C 218 dX10_one_214 (by decide) ?_
  exact p_X10_one_b218 hJ C hr hk hR_X10_either hR_X10_both hR_X10_compared hR_X10_sum hR_X10_product hR_X10_one  h
set_option maxRecDepth 100000 in
set_option maxHeartbeats 4000000 in
theorem p_X10_one_b200 (hJ : za_J g) (C : za_C p s m args c cX10_one 4 RX10 g D cy) (hr : meth.sig.returnType = none) (hk : meth.locks = false) (hR_X10_either : ∀ {M : za_M} {K : za_M → Prop}, R_X10_either M K → za_Mv l g D cy yX10_either cX10_either 1 none (9 + d) (423 + 60 * d) [.ref (g (27, 0, 0))] M K) (hR_X10_both : ∀ {M : za_M} {K : za_M → Prop}, R_X10_both M K → za_Mv l g D cy yX10_both cX10_both 1 none (9 + d) (423 + 60 * d) [.ref (g (27, 0, 0))] M K) (hR_X10_compared : ∀ {M : za_M} {K : za_M → Prop}, R_X10_compared M K → za_Mv l g D cy yX10_compared cX10_compared 2 none (9 + d) (423 + 60 * d) [.ref (g (27, 0, 0))] M K) (hR_X10_sum : ∀ {M : za_M} {K : za_M → Prop}, R_X10_sum M K → za_Mv l g D cy yX10_sum cX10_sum 2 none (9 + d) (423 + 60 * d) [.ref (g (27, 0, 0))] M K) (hR_X10_product : ∀ {M : za_M} {K : za_M → Prop}, R_X10_product M K → za_Mv l g D cy yX10_product cX10_product 2 none (9 + d) (423 + 60 * d) [.ref (g (27, 0, 0))] M K) (hR_X10_one : ∀ {M : za_M} {K : za_M → Prop}, R_X10_one M K → za_Mv l g D cy yX10_one cX10_one 4 none (9 + d) (423 + 60 * d) [.ref (g (27, 0, 0))] M K) {s0 : Int32} {M : za_M} (h : f_X10_one_b200 R_X10_either R_X10_both R_X10_compared R_X10_sum R_X10_product R_X10_one K s0 M) : zt p l e (za_rm (9 + (d + 1)) (423 + 60 * (d + 1))) s m args below meth c 0 0 (MQ below (za_Qv g D cy K) args s 0 0 (za_A g)) g D cy 4 M 200 [(0, .ref (g (27, 0, 0)))] [.int s0] := by
  unfold f_X10_one_b200 at h
  refine zt_istore_n C [(2, .int s0), (0, .ref (g (27, 0, 0)))] dX10_one_200 rfl (by decide) rfl ?_
  refine zt_aload_n C 1 dX10_one_201 rfl rfl ?_
  refine zt_aload_n C 1 dX10_one_202 rfl rfl ?_
  refine zt_get C (za_mem (j := 27) rfl (by decide) (by decide)) pf_X10_82 (za_E_27 g cy M 0 0) rfl dX10_one_203 ?_
  refine zt_if_ne C 213 dX10_one_206 (by decide) (fun q41 => ?_) (fun q41 => ?_)
  · replace h := za_ifn h q41
    refine zt_sub [1, 0] (lv' := [(0, .ref (g (27, 0, 0))), (2, .int s0)]) rfl ?_
    exact p_X10_one_b213 hJ C hr hk hR_X10_either hR_X10_both hR_X10_compared hR_X10_sum hR_X10_product hR_X10_one  h
  · replace h := za_ifp h q41
    refine zt_iload_n C 0 dX10_one_209 rfl rfl ?_
    refine zt_if_ge C 217 dX10_one_210 (by decide) (fun q42 => ?_) (fun q42 => ?_)
    · replace h := za_ifp h q42
      refine zt_iconst C (v := 0) dX10_one_217 zk_i0 ?_
      refine zt_sub [1, 0] (lv' := [(0, .ref (g (27, 0, 0))), (2, .int s0)]) rfl ?_
      exact p_X10_one_b218 hJ C hr hk hR_X10_either hR_X10_both hR_X10_compared hR_X10_sum hR_X10_product hR_X10_one  h
    · replace h := za_ifn h q42
      refine zt_sub [1, 0] (lv' := [(0, .ref (g (27, 0, 0))), (2, .int s0)]) rfl ?_
      exact p_X10_one_b213 hJ C hr hk hR_X10_either hR_X10_both hR_X10_compared hR_X10_sum hR_X10_product hR_X10_one  h
set_option maxRecDepth 100000 in
set_option maxHeartbeats 4000000 in
theorem p_X10_one_b179 (hJ : za_J g) (C : za_C p s m args c cX10_one 4 RX10 g D cy) (hr : meth.sig.returnType = none) (hk : meth.locks = false) (hR_X10_either : ∀ {M : za_M} {K : za_M → Prop}, R_X10_either M K → za_Mv l g D cy yX10_either cX10_either 1 none (9 + d) (423 + 60 * d) [.ref (g (27, 0, 0))] M K) (hR_X10_both : ∀ {M : za_M} {K : za_M → Prop}, R_X10_both M K → za_Mv l g D cy yX10_both cX10_both 1 none (9 + d) (423 + 60 * d) [.ref (g (27, 0, 0))] M K) (hR_X10_compared : ∀ {M : za_M} {K : za_M → Prop}, R_X10_compared M K → za_Mv l g D cy yX10_compared cX10_compared 2 none (9 + d) (423 + 60 * d) [.ref (g (27, 0, 0))] M K) (hR_X10_sum : ∀ {M : za_M} {K : za_M → Prop}, R_X10_sum M K → za_Mv l g D cy yX10_sum cX10_sum 2 none (9 + d) (423 + 60 * d) [.ref (g (27, 0, 0))] M K) (hR_X10_product : ∀ {M : za_M} {K : za_M → Prop}, R_X10_product M K → za_Mv l g D cy yX10_product cX10_product 2 none (9 + d) (423 + 60 * d) [.ref (g (27, 0, 0))] M K) (hR_X10_one : ∀ {M : za_M} {K : za_M → Prop}, R_X10_one M K → za_Mv l g D cy yX10_one cX10_one 4 none (9 + d) (423 + 60 * d) [.ref (g (27, 0, 0))] M K) {x2 : Int32} {M : za_M} (h : f_X10_one_b179 R_X10_either R_X10_both R_X10_compared R_X10_sum R_X10_product R_X10_one K x2 M) : zt p l e (za_rm (9 + (d + 1)) (423 + 60 * (d + 1))) s m args below meth c 0 0 (MQ below (za_Qv g D cy K) args s 0 0 (za_A g)) g D cy 4 M 179 [(0, .ref (g (27, 0, 0))), (2, .int x2)] [] := by
  unfold f_X10_one_b179 at h
  refine zt_aload_n C 0 dX10_one_179 rfl rfl ?_
  refine zt_iload_n C 1 dX10_one_180 rfl rfl ?_
  refine zt_cVv C [.int x2] (m_X10_codes hJ  h) (za_mem (j := 27) rfl (by decide) (by decide)) (za_E_27 g cy M 0 0) rfl py_X10_codes pv_X10_104 (Nat.le_of_ble_eq_true rfl) ⟨by dsimp only [za_rm]; omega, by dsimp only [za_rm]; omega⟩ ⟨Nat.zero_le _, Nat.zero_le _⟩ dX10_one_181 rfl (fun M43 h => ?_)
  refine zt_goto C 247 dX10_one_184 (by decide) ?_
  exact zt_vret C hr hk dX10_one_247 h
set_option maxRecDepth 100000 in
set_option maxHeartbeats 4000000 in
theorem p_X10_one_b131 (hJ : za_J g) (C : za_C p s m args c cX10_one 4 RX10 g D cy) (hr : meth.sig.returnType = none) (hk : meth.locks = false) (hR_X10_either : ∀ {M : za_M} {K : za_M → Prop}, R_X10_either M K → za_Mv l g D cy yX10_either cX10_either 1 none (9 + d) (423 + 60 * d) [.ref (g (27, 0, 0))] M K) (hR_X10_both : ∀ {M : za_M} {K : za_M → Prop}, R_X10_both M K → za_Mv l g D cy yX10_both cX10_both 1 none (9 + d) (423 + 60 * d) [.ref (g (27, 0, 0))] M K) (hR_X10_compared : ∀ {M : za_M} {K : za_M → Prop}, R_X10_compared M K → za_Mv l g D cy yX10_compared cX10_compared 2 none (9 + d) (423 + 60 * d) [.ref (g (27, 0, 0))] M K) (hR_X10_sum : ∀ {M : za_M} {K : za_M → Prop}, R_X10_sum M K → za_Mv l g D cy yX10_sum cX10_sum 2 none (9 + d) (423 + 60 * d) [.ref (g (27, 0, 0))] M K) (hR_X10_product : ∀ {M : za_M} {K : za_M → Prop}, R_X10_product M K → za_Mv l g D cy yX10_product cX10_product 2 none (9 + d) (423 + 60 * d) [.ref (g (27, 0, 0))] M K) (hR_X10_one : ∀ {M : za_M} {K : za_M → Prop}, R_X10_one M K → za_Mv l g D cy yX10_one cX10_one 4 none (9 + d) (423 + 60 * d) [.ref (g (27, 0, 0))] M K) {L131 : Int32 → Int32 → za_M → Prop} (hL131 : ∀ (x2 : Int32) (x3 : Int32) (M : za_M), L131 x2 x3 M → zt p l e (za_rm (9 + (d + 1)) (423 + 60 * (d + 1))) s m args below meth c 0 0 (MQ below (za_Qv g D cy K) args s 0 0 (za_A g)) g D cy 4 M 131 [(0, .ref (g (27, 0, 0))), (2, .int x2), (3, .int x3)] []) : ∀ (x2 : Int32) (x3 : Int32) (M : za_M), f_X10_one_b131 R_X10_either R_X10_both R_X10_compared R_X10_sum R_X10_product R_X10_one K L131 x2 x3 M → zt p l e (za_rm (9 + (d + 1)) (423 + 60 * (d + 1))) s m args below meth c 0 0 (MQ below (za_Qv g D cy K) args s 0 0 (za_A g)) g D cy 4 M 131 [(0, .ref (g (27, 0, 0))), (2, .int x2), (3, .int x3)] [] := by
  intro x2 x3 M h
  unfold f_X10_one_b131 at h
  refine zt_iload_n C 2 dX10_one_131 rfl rfl ?_
  refine zt_iconst C (v := 4) dX10_one_132 zk_i4 ?_
  refine zt_icmp_ge C 179 dX10_one_133 (by decide) (fun q45 => ?_) (fun q45 => ?_)
  · replace h := za_ifp h q45
    refine zt_sub [0, 1] (lv' := [(0, .ref (g (27, 0, 0))), (2, .int x2)]) rfl ?_
    exact p_X10_one_b179 hJ C hr hk hR_X10_either hR_X10_both hR_X10_compared hR_X10_sum hR_X10_product hR_X10_one  h
  · replace h := za_ifn h q45
    refine zt_aload_n C 0 dX10_one_136 rfl rfl ?_
    refine zt_cVi C [] (m_X10_here hJ  h) (za_mem (j := 27) rfl (by decide) (by decide)) (za_E_27 g cy M 0 0) rfl py_X10_here pv_X10_90 (Nat.le_of_ble_eq_true rfl) ⟨by dsimp only [za_rm]; omega, by dsimp only [za_rm]; omega⟩ ⟨Nat.zero_le _, Nat.zero_le _⟩ dX10_one_137 rfl (fun r47 M46 h => ?_)
    refine zt_bipush C (v := 48) dX10_one_140 zk_b48 ?_
    refine zt_bipush C (v := 57) dX10_one_142 zk_b57 ?_
    refine zt_cSi C [.int r47, .int 48, .int 57] (m_X10_within hJ  h) py_X10_within ps_X10_70 (Nat.le_of_ble_eq_true rfl) ⟨by dsimp only [za_rm]; omega, by dsimp only [za_rm]; omega⟩ ⟨Nat.zero_le _, Nat.zero_le _⟩ dX10_one_144 rfl (fun r49 M48 h => ?_)
    refine zt_if_eq C 179 dX10_one_147 (by decide) (fun q50 => ?_) (fun q50 => ?_)
    · replace h := za_ifp h q50
      refine zt_sub [0, 1] (lv' := [(0, .ref (g (27, 0, 0))), (2, .int x2)]) rfl ?_
      exact p_X10_one_b179 hJ C hr hk hR_X10_either hR_X10_both hR_X10_compared hR_X10_sum hR_X10_product hR_X10_one  h
    · replace h := za_ifn h q50
      refine zt_bipush C (v := 10) dX10_one_150 zk_b10 ?_
      refine zt_iload_n C 1 dX10_one_152 rfl rfl ?_
      refine zt_imul C dX10_one_153 ?_
      refine zt_aload_n C 0 dX10_one_154 rfl rfl ?_
      refine zt_cVi C [] (m_X10_here hJ  h) (za_mem (j := 27) rfl (by decide) (by decide)) (za_E_27 g cy M48 0 0) rfl py_X10_here pv_X10_90 (Nat.le_of_ble_eq_true rfl) ⟨by dsimp only [za_rm]; omega, by dsimp only [za_rm]; omega⟩ ⟨Nat.zero_le _, Nat.zero_le _⟩ dX10_one_155 rfl (fun r52 M51 h => ?_)
      refine zt_iadd C dX10_one_158 ?_
      refine zt_bipush C (v := 48) dX10_one_159 zk_b48 ?_
      refine zt_isub C dX10_one_161 ?_
      refine zt_topi (fun y53 e54 => ?_)
      replace h := za_use h e54
      refine zt_istore_n C [(2, .int y53), (0, .ref (g (27, 0, 0))), (3, .int x3)] dX10_one_162 rfl (by decide) rfl ?_
      refine zt_aload_n C 1 dX10_one_163 rfl rfl ?_
      refine zt_dup C dX10_one_164 rfl ?_
      refine zt_get C (za_mem (j := 27) rfl (by decide) (by decide)) pf_X10_86 (za_E_27 g cy M51 0 0) rfl dX10_one_165 ?_
      refine zt_iconst C (v := 1) dX10_one_168 zk_i1 ?_
      refine zt_iadd C dX10_one_169 ?_
      refine zt_topi (fun y55 e56 => ?_)
      replace h := za_use h e56
      refine zt_put C (za_mem (j := 27) rfl (by decide) (by decide)) pf_X10_86 pt_X10_6 rfl rfl (za_E_27 g cy M51 0 0) rfl (Nat.le_of_ble_eq_true rfl) dX10_one_170 ?_
      refine zt_topM (fun M57 e58 => ?_)
      replace h := za_use h e58
      refine zt_iinc C (v := x3 + 1) 2 [(3, .int (x3 + 1)), (2, .int y53), (0, .ref (g (27, 0, 0)))] dX10_one_173 rfl (zk_n1 _) (by decide) rfl ?_
      refine zt_goto C 131 dX10_one_176 (by decide) ?_
      refine zt_sub [2, 1, 0] (lv' := [(0, .ref (g (27, 0, 0))), (2, .int y53), (3, .int (x3 + 1))]) rfl ?_
      exact hL131 _ _ _ h
theorem p_X10_one_b131_in (hJ : za_J g) (C : za_C p s m args c cX10_one 4 RX10 g D cy) (hr : meth.sig.returnType = none) (hk : meth.locks = false) (hR_X10_either : ∀ {M : za_M} {K : za_M → Prop}, R_X10_either M K → za_Mv l g D cy yX10_either cX10_either 1 none (9 + d) (423 + 60 * d) [.ref (g (27, 0, 0))] M K) (hR_X10_both : ∀ {M : za_M} {K : za_M → Prop}, R_X10_both M K → za_Mv l g D cy yX10_both cX10_both 1 none (9 + d) (423 + 60 * d) [.ref (g (27, 0, 0))] M K) (hR_X10_compared : ∀ {M : za_M} {K : za_M → Prop}, R_X10_compared M K → za_Mv l g D cy yX10_compared cX10_compared 2 none (9 + d) (423 + 60 * d) [.ref (g (27, 0, 0))] M K) (hR_X10_sum : ∀ {M : za_M} {K : za_M → Prop}, R_X10_sum M K → za_Mv l g D cy yX10_sum cX10_sum 2 none (9 + d) (423 + 60 * d) [.ref (g (27, 0, 0))] M K) (hR_X10_product : ∀ {M : za_M} {K : za_M → Prop}, R_X10_product M K → za_Mv l g D cy yX10_product cX10_product 2 none (9 + d) (423 + 60 * d) [.ref (g (27, 0, 0))] M K) (hR_X10_one : ∀ {M : za_M} {K : za_M → Prop}, R_X10_one M K → za_Mv l g D cy yX10_one cX10_one 4 none (9 + d) (423 + 60 * d) [.ref (g (27, 0, 0))] M K) {n : Nat} {x2 : Int32} {x3 : Int32} {M : za_M} (h : za_lp2 (f_X10_one_b131 R_X10_either R_X10_both R_X10_compared R_X10_sum R_X10_product R_X10_one K) n x2 x3 M) : zt p l e (za_rm (9 + (d + 1)) (423 + 60 * (d + 1))) s m args below meth c 0 0 (MQ below (za_Qv g D cy K) args s 0 0 (za_A g)) g D cy 4 M 131 [(0, .ref (g (27, 0, 0))), (2, .int x2), (3, .int x3)] [] := za_lp2_run (Z := fun x2 x3 M => zt p l e (za_rm (9 + (d + 1)) (423 + 60 * (d + 1))) s m args below meth c 0 0 (MQ below (za_Qv g D cy K) args s 0 0 (za_A g)) g D cy 4 M 131 [(0, .ref (g (27, 0, 0))), (2, .int x2), (3, .int x3)] []) (fun L hL => p_X10_one_b131 hJ C hr hk hR_X10_either hR_X10_both hR_X10_compared hR_X10_sum hR_X10_product hR_X10_one  hL) n x2 x3 M h
set_option maxRecDepth 100000 in
set_option maxHeartbeats 4000000 in
theorem p_X10_one (hJ : za_J g) (C : za_C p s m args c cX10_one 4 RX10 g D cy) (hr : meth.sig.returnType = none) (hk : meth.locks = false) (hR_X10_either : ∀ {M : za_M} {K : za_M → Prop}, R_X10_either M K → za_Mv l g D cy yX10_either cX10_either 1 none (9 + d) (423 + 60 * d) [.ref (g (27, 0, 0))] M K) (hR_X10_both : ∀ {M : za_M} {K : za_M → Prop}, R_X10_both M K → za_Mv l g D cy yX10_both cX10_both 1 none (9 + d) (423 + 60 * d) [.ref (g (27, 0, 0))] M K) (hR_X10_compared : ∀ {M : za_M} {K : za_M → Prop}, R_X10_compared M K → za_Mv l g D cy yX10_compared cX10_compared 2 none (9 + d) (423 + 60 * d) [.ref (g (27, 0, 0))] M K) (hR_X10_sum : ∀ {M : za_M} {K : za_M → Prop}, R_X10_sum M K → za_Mv l g D cy yX10_sum cX10_sum 2 none (9 + d) (423 + 60 * d) [.ref (g (27, 0, 0))] M K) (hR_X10_product : ∀ {M : za_M} {K : za_M → Prop}, R_X10_product M K → za_Mv l g D cy yX10_product cX10_product 2 none (9 + d) (423 + 60 * d) [.ref (g (27, 0, 0))] M K) (hR_X10_one : ∀ {M : za_M} {K : za_M → Prop}, R_X10_one M K → za_Mv l g D cy yX10_one cX10_one 4 none (9 + d) (423 + 60 * d) [.ref (g (27, 0, 0))] M K) {M : za_M} (h : fb_X10_one R_X10_either R_X10_both R_X10_compared R_X10_sum R_X10_product R_X10_one M K) : zt p l e (za_rm (9 + (d + 1)) (423 + 60 * (d + 1))) s m args below meth c 0 0 (MQ below (za_Qv g D cy K) args s 0 0 (za_A g)) g D cy 4 M 0 [(0, .ref (g (27, 0, 0)))] [] := by
  unfold fb_X10_one at h
  refine zt_aload_n C 0 dX10_one_0 rfl rfl ?_
  refine zt_cVi C [] (m_X10_here hJ  h) (za_mem (j := 27) rfl (by decide) (by decide)) (za_E_27 g cy M 0 0) rfl py_X10_here pv_X10_90 (Nat.le_of_ble_eq_true rfl) ⟨by dsimp only [za_rm]; omega, by dsimp only [za_rm]; omega⟩ ⟨Nat.zero_le _, Nat.zero_le _⟩ dX10_one_1 rfl (fun r60 M59 h => ?_)
  refine zt_istore_n C [(1, .int r60), (0, .ref (g (27, 0, 0)))] dX10_one_4 rfl (by decide) rfl ?_
  refine zt_iload_n C 0 dX10_one_5 rfl rfl ?_
  refine zt_bipush C (v := 33) dX10_one_6 zk_b33 ?_
  refine zt_icmp_eq C 17 dX10_one_8 (by decide) (fun q61 => ?_) (fun q61 => ?_)
  · replace h := za_ifp h q61
    refine zt_sub [1, 0] (lv' := [(0, .ref (g (27, 0, 0))), (1, .int r60)]) rfl ?_
    exact p_X10_one_b17 hJ C hr hk hR_X10_either hR_X10_both hR_X10_compared hR_X10_sum hR_X10_product hR_X10_one  h
  · replace h := za_ifn h q61
    refine zt_iload_n C 0 dX10_one_11 rfl rfl ?_
    refine zt_bipush C (v := 40) dX10_one_12 zk_b40 ?_
    refine zt_icmp_ne C 116 dX10_one_14 (by decide) (fun q62 => ?_) (fun q62 => ?_)
    · replace h := za_ifn h q62
      refine zt_iload_n C 0 dX10_one_116 rfl rfl ?_
      refine zt_bipush C (v := 48) dX10_one_117 zk_b48 ?_
      refine zt_bipush C (v := 57) dX10_one_119 zk_b57 ?_
      refine zt_cSi C [.int r60, .int 48, .int 57] (m_X10_within hJ  h) py_X10_within ps_X10_70 (Nat.le_of_ble_eq_true rfl) ⟨by dsimp only [za_rm]; omega, by dsimp only [za_rm]; omega⟩ ⟨Nat.zero_le _, Nat.zero_le _⟩ dX10_one_121 rfl (fun r64 M63 h => ?_)
      refine zt_if_eq C 187 dX10_one_124 (by decide) (fun q65 => ?_) (fun q65 => ?_)
      · replace h := za_ifp h q65
        refine zt_iload_n C 0 dX10_one_187 rfl rfl ?_
        refine zt_if_ge C 195 dX10_one_188 (by decide) (fun q66 => ?_) (fun q66 => ?_)
        · replace h := za_ifp h q66
          refine zt_aload_n C 1 dX10_one_195 rfl rfl ?_
          refine zt_iload_n C 0 dX10_one_196 rfl rfl ?_
          refine zt_cVi C [.int r60] (m_X10_nameOf hJ  h) (za_mem (j := 27) rfl (by decide) (by decide)) (za_E_27 g cy M63 0 0) rfl py_X10_nameOf pv_X10_136 (Nat.le_of_ble_eq_true rfl) ⟨by dsimp only [za_rm]; omega, by dsimp only [za_rm]; omega⟩ ⟨Nat.zero_le _, Nat.zero_le _⟩ dX10_one_197 rfl (fun r68 M67 h => ?_)
          refine zt_sub [1] (lv' := [(0, .ref (g (27, 0, 0)))]) rfl ?_
          exact p_X10_one_b200 hJ C hr hk hR_X10_either hR_X10_both hR_X10_compared hR_X10_sum hR_X10_product hR_X10_one  h
        · replace h := za_ifn h q66
          refine zt_iconst C (v := (-1)) dX10_one_191 zk_im1 ?_
          refine zt_goto C 200 dX10_one_192 (by decide) ?_
          refine zt_sub [1] (lv' := [(0, .ref (g (27, 0, 0)))]) rfl ?_
          exact p_X10_one_b200 hJ C hr hk hR_X10_either hR_X10_both hR_X10_compared hR_X10_sum hR_X10_product hR_X10_one  h
      · replace h := za_ifn h q65
        refine zt_iconst C (v := 0) dX10_one_127 zk_i0 ?_
        refine zt_istore_n C [(2, .int 0), (1, .int r60), (0, .ref (g (27, 0, 0)))] dX10_one_128 rfl (by decide) rfl ?_
        refine zt_iconst C (v := 0) dX10_one_129 zk_i0 ?_
        refine zt_istore_n C [(3, .int 0), (2, .int 0), (1, .int r60), (0, .ref (g (27, 0, 0)))] dX10_one_130 rfl (by decide) rfl ?_
        refine zt_sub [3, 1, 0] (lv' := [(0, .ref (g (27, 0, 0))), (2, .int 0), (3, .int 0)]) rfl ?_
        obtain ⟨n, h⟩ := h
        exact p_X10_one_b131_in hJ C hr hk hR_X10_either hR_X10_both hR_X10_compared hR_X10_sum hR_X10_product hR_X10_one  h
    · replace h := za_ifp h q62
      refine zt_sub [1, 0] (lv' := [(0, .ref (g (27, 0, 0))), (1, .int r60)]) rfl ?_
      exact p_X10_one_b17 hJ C hr hk hR_X10_either hR_X10_both hR_X10_compared hR_X10_sum hR_X10_product hR_X10_one  h
end
theorem mb_X10_one {l : Launch} {g : za_L → Nat} {D : va_G} {cy : Nat → ClassId} {d : Nat} {R_X10_either : za_M → (za_M → Prop) → Prop} {R_X10_both : za_M → (za_M → Prop) → Prop} {R_X10_compared : za_M → (za_M → Prop) → Prop} {R_X10_sum : za_M → (za_M → Prop) → Prop} {R_X10_product : za_M → (za_M → Prop) → Prop} {R_X10_one : za_M → (za_M → Prop) → Prop} (hJ : za_J g) (hR_X10_either : ∀ {M : za_M} {K : za_M → Prop}, R_X10_either M K → za_Mv l g D cy yX10_either cX10_either 1 none (9 + d) (423 + 60 * d) [.ref (g (27, 0, 0))] M K) (hR_X10_both : ∀ {M : za_M} {K : za_M → Prop}, R_X10_both M K → za_Mv l g D cy yX10_both cX10_both 1 none (9 + d) (423 + 60 * d) [.ref (g (27, 0, 0))] M K) (hR_X10_compared : ∀ {M : za_M} {K : za_M → Prop}, R_X10_compared M K → za_Mv l g D cy yX10_compared cX10_compared 2 none (9 + d) (423 + 60 * d) [.ref (g (27, 0, 0))] M K) (hR_X10_sum : ∀ {M : za_M} {K : za_M → Prop}, R_X10_sum M K → za_Mv l g D cy yX10_sum cX10_sum 2 none (9 + d) (423 + 60 * d) [.ref (g (27, 0, 0))] M K) (hR_X10_product : ∀ {M : za_M} {K : za_M → Prop}, R_X10_product M K → za_Mv l g D cy yX10_product cX10_product 2 none (9 + d) (423 + 60 * d) [.ref (g (27, 0, 0))] M K) (hR_X10_one : ∀ {M : za_M} {K : za_M → Prop}, R_X10_one M K → za_Mv l g D cy yX10_one cX10_one 4 none (9 + d) (423 + 60 * d) [.ref (g (27, 0, 0))] M K) {M : za_M} {K : za_M → Prop} (h : fb_X10_one R_X10_either R_X10_both R_X10_compared R_X10_sum R_X10_product R_X10_one M K) : za_Mv l g D cy yX10_one cX10_one 4 none (9 + (d + 1)) (423 + 60 * (d + 1)) [.ref (g (27, 0, 0))] M K := za_openv hJ (by decide) (Nat.le_of_ble_eq_true rfl) (fun p e s m args below meth c C hr hk => p_X10_one hJ C hr hk hR_X10_either hR_X10_both hR_X10_compared hR_X10_sum hR_X10_product hR_X10_one  h)
def fg_X10 : Nat → (za_M → (za_M → Prop) → Prop) × (za_M → (za_M → Prop) → Prop) × (za_M → (za_M → Prop) → Prop) × (za_M → (za_M → Prop) → Prop) × (za_M → (za_M → Prop) → Prop) × (za_M → (za_M → Prop) → Prop)
  | 0 => (fun _ _ => False, fun _ _ => False, fun _ _ => False, fun _ _ => False, fun _ _ => False, fun _ _ => False)
  | d+1 => (fb_X10_either ((fg_X10 d).1) ((fg_X10 d).2.1) ((fg_X10 d).2.2.1) ((fg_X10 d).2.2.2.1) ((fg_X10 d).2.2.2.2.1) ((fg_X10 d).2.2.2.2.2), fb_X10_both ((fg_X10 d).1) ((fg_X10 d).2.1) ((fg_X10 d).2.2.1) ((fg_X10 d).2.2.2.1) ((fg_X10 d).2.2.2.2.1) ((fg_X10 d).2.2.2.2.2), fb_X10_compared ((fg_X10 d).1) ((fg_X10 d).2.1) ((fg_X10 d).2.2.1) ((fg_X10 d).2.2.2.1) ((fg_X10 d).2.2.2.2.1) ((fg_X10 d).2.2.2.2.2), fb_X10_sum ((fg_X10 d).1) ((fg_X10 d).2.1) ((fg_X10 d).2.2.1) ((fg_X10 d).2.2.2.1) ((fg_X10 d).2.2.2.2.1) ((fg_X10 d).2.2.2.2.2), fb_X10_product ((fg_X10 d).1) ((fg_X10 d).2.1) ((fg_X10 d).2.2.1) ((fg_X10 d).2.2.2.1) ((fg_X10 d).2.2.2.2.1) ((fg_X10 d).2.2.2.2.2), fb_X10_one ((fg_X10 d).1) ((fg_X10 d).2.1) ((fg_X10 d).2.2.1) ((fg_X10 d).2.2.2.1) ((fg_X10 d).2.2.2.2.1) ((fg_X10 d).2.2.2.2.2))
def f_X10_either (d : Nat) : za_M → (za_M → Prop) → Prop := (fg_X10 d).1
def f_X10_both (d : Nat) : za_M → (za_M → Prop) → Prop := (fg_X10 d).2.1
def f_X10_compared (d : Nat) : za_M → (za_M → Prop) → Prop := (fg_X10 d).2.2.1
def f_X10_sum (d : Nat) : za_M → (za_M → Prop) → Prop := (fg_X10 d).2.2.2.1
def f_X10_product (d : Nat) : za_M → (za_M → Prop) → Prop := (fg_X10 d).2.2.2.2.1
def f_X10_one (d : Nat) : za_M → (za_M → Prop) → Prop := (fg_X10 d).2.2.2.2.2
set_option maxHeartbeats 4000000 in
theorem mg_X10 {l : Launch} {g : za_L → Nat} {D : va_G} {cy : Nat → ClassId} (hJ : za_J g) : ∀ d : Nat, (∀ {M : za_M} {K : za_M → Prop}, ((fg_X10 d).1) M K → za_Mv l g D cy yX10_either cX10_either 1 none (9 + d) (423 + 60 * d) [.ref (g (27, 0, 0))] M K) ∧ (∀ {M : za_M} {K : za_M → Prop}, ((fg_X10 d).2.1) M K → za_Mv l g D cy yX10_both cX10_both 1 none (9 + d) (423 + 60 * d) [.ref (g (27, 0, 0))] M K) ∧ (∀ {M : za_M} {K : za_M → Prop}, ((fg_X10 d).2.2.1) M K → za_Mv l g D cy yX10_compared cX10_compared 2 none (9 + d) (423 + 60 * d) [.ref (g (27, 0, 0))] M K) ∧ (∀ {M : za_M} {K : za_M → Prop}, ((fg_X10 d).2.2.2.1) M K → za_Mv l g D cy yX10_sum cX10_sum 2 none (9 + d) (423 + 60 * d) [.ref (g (27, 0, 0))] M K) ∧ (∀ {M : za_M} {K : za_M → Prop}, ((fg_X10 d).2.2.2.2.1) M K → za_Mv l g D cy yX10_product cX10_product 2 none (9 + d) (423 + 60 * d) [.ref (g (27, 0, 0))] M K) ∧ (∀ {M : za_M} {K : za_M → Prop}, ((fg_X10 d).2.2.2.2.2) M K → za_Mv l g D cy yX10_one cX10_one 4 none (9 + d) (423 + 60 * d) [.ref (g (27, 0, 0))] M K) := by
  intro d
  induction d with
  | zero => exact ⟨fun h => h.elim, fun h => h.elim, fun h => h.elim, fun h => h.elim, fun h => h.elim, fun h => h.elim⟩
  | succ d ih => exact ⟨fun h => mb_X10_either hJ (ih.1) (ih.2.1) (ih.2.2.1) (ih.2.2.2.1) (ih.2.2.2.2.1) (ih.2.2.2.2.2)  h, fun h => mb_X10_both hJ (ih.1) (ih.2.1) (ih.2.2.1) (ih.2.2.2.1) (ih.2.2.2.2.1) (ih.2.2.2.2.2)  h, fun h => mb_X10_compared hJ (ih.1) (ih.2.1) (ih.2.2.1) (ih.2.2.2.1) (ih.2.2.2.2.1) (ih.2.2.2.2.2)  h, fun h => mb_X10_sum hJ (ih.1) (ih.2.1) (ih.2.2.1) (ih.2.2.2.1) (ih.2.2.2.2.1) (ih.2.2.2.2.2)  h, fun h => mb_X10_product hJ (ih.1) (ih.2.1) (ih.2.2.1) (ih.2.2.2.1) (ih.2.2.2.2.1) (ih.2.2.2.2.2)  h, fun h => mb_X10_one hJ (ih.1) (ih.2.1) (ih.2.2.1) (ih.2.2.2.1) (ih.2.2.2.2.1) (ih.2.2.2.2.2)  h⟩
theorem m_X10_either {l : Launch} {g : za_L → Nat} {D : va_G} {cy : Nat → ClassId} (hJ : za_J g) {M : za_M} {K : za_M → Prop} (h : f_X10_either 100 M K) : za_Mv l g D cy yX10_either cX10_either 1 none 109 6423 [.ref (g (27, 0, 0))] M K := (mg_X10 hJ 100).1  h
theorem m_X10_both {l : Launch} {g : za_L → Nat} {D : va_G} {cy : Nat → ClassId} (hJ : za_J g) {M : za_M} {K : za_M → Prop} (h : f_X10_both 100 M K) : za_Mv l g D cy yX10_both cX10_both 1 none 109 6423 [.ref (g (27, 0, 0))] M K := (mg_X10 hJ 100).2.1  h
theorem m_X10_compared {l : Launch} {g : za_L → Nat} {D : va_G} {cy : Nat → ClassId} (hJ : za_J g) {M : za_M} {K : za_M → Prop} (h : f_X10_compared 100 M K) : za_Mv l g D cy yX10_compared cX10_compared 2 none 109 6423 [.ref (g (27, 0, 0))] M K := (mg_X10 hJ 100).2.2.1  h
theorem m_X10_sum {l : Launch} {g : za_L → Nat} {D : va_G} {cy : Nat → ClassId} (hJ : za_J g) {M : za_M} {K : za_M → Prop} (h : f_X10_sum 100 M K) : za_Mv l g D cy yX10_sum cX10_sum 2 none 109 6423 [.ref (g (27, 0, 0))] M K := (mg_X10 hJ 100).2.2.2.1  h
theorem m_X10_product {l : Launch} {g : za_L → Nat} {D : va_G} {cy : Nat → ClassId} (hJ : za_J g) {M : za_M} {K : za_M → Prop} (h : f_X10_product 100 M K) : za_Mv l g D cy yX10_product cX10_product 2 none 109 6423 [.ref (g (27, 0, 0))] M K := (mg_X10 hJ 100).2.2.2.2.1  h
theorem m_X10_one {l : Launch} {g : za_L → Nat} {D : va_G} {cy : Nat → ClassId} (hJ : za_J g) {M : za_M} {K : za_M → Prop} (h : f_X10_one 100 M K) : za_Mv l g D cy yX10_one cX10_one 4 none 109 6423 [.ref (g (27, 0, 0))] M K := (mg_X10 hJ 100).2.2.2.2.2  h

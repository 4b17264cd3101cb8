/-! X8 -/
def fb_X8_own (R_X8_own : Int32 → Int32 → Int32 → za_M → (Int32 → za_M → Prop) → Prop) (R_X8_above : Int32 → Int32 → Int32 → Int32 → za_M → (Int32 → za_M → Prop) → Prop) (R_X8_from : Int32 → Int32 → Int32 → Int32 → za_M → (Int32 → za_M → Prop) → Prop) (R_X8_speakBody : Int32 → Int32 → Int32 → za_M → (Int32 → za_M → Prop) → Prop) (x1 : Int32) (x2 : Int32) (x3 : Int32) (M : za_M) (K : Int32 → za_M → Prop) : Prop :=
  R_X8_from (M.1 (8, 0, 0) 2) x1 x2 x3 M (fun r2 M1 => K r2 M1)
section
variable {p : Program} {l : Launch} {e : Env} {s : State} {m : MethodId} {args : Array Value} {below : List Frame} {meth : Method} {c : Code} {g : za_L → Nat} {D : va_G} {cy : Nat → ClassId} {K : Int32 → za_M → Prop} {d : Nat} {R_X8_own : Int32 → Int32 → Int32 → za_M → (Int32 → za_M → Prop) → Prop} {R_X8_above : Int32 → Int32 → Int32 → Int32 → za_M → (Int32 → za_M → Prop) → Prop} {R_X8_from : Int32 → Int32 → Int32 → Int32 → za_M → (Int32 → za_M → Prop) → Prop} {R_X8_speakBody : Int32 → Int32 → Int32 → za_M → (Int32 → za_M → Prop) → Prop} 
set_option maxRecDepth 100000 in
set_option maxHeartbeats 4000000 in
theorem p_X8_own (hJ : za_J g) (C : za_C p s m args c cX8_own 4 RX8 g D cy) (hr : meth.sig.returnType = (some .int)) (hk : meth.locks = false) (hR_X8_own : ∀ {x1 : Int32} {x2 : Int32} {x3 : Int32} {M : za_M} {K : Int32 → za_M → Prop}, R_X8_own x1 x2 x3 M K → za_Mi l g D cy yX8_own cX8_own 4 (some .int) (2 + d) (86 + 60 * d) [.ref (g (8, 0, 0)), .int x1, .int x2, .int x3] M K) (hR_X8_above : ∀ {x1 : Int32} {x2 : Int32} {x3 : Int32} {x4 : Int32} {M : za_M} {K : Int32 → za_M → Prop}, R_X8_above x1 x2 x3 x4 M K → za_Mi l g D cy yX8_above cX8_above 5 (some .int) (2 + d) (86 + 60 * d) [.ref (g (8, 0, 0)), .int x1, .int x2, .int x3, .int x4] M K) (hR_X8_from : ∀ {x1 : Int32} {x2 : Int32} {x3 : Int32} {x4 : Int32} {M : za_M} {K : Int32 → za_M → Prop}, R_X8_from x1 x2 x3 x4 M K → za_Mi l g D cy yX8_from cX8_from 8 (some .int) (2 + d) (86 + 60 * d) [.ref (g (8, 0, 0)), .int x1, .int x2, .int x3, .int x4] M K) (hR_X8_speakBody : ∀ {x1 : Int32} {x2 : Int32} {x3 : Int32} {M : za_M} {K : Int32 → za_M → Prop}, R_X8_speakBody x1 x2 x3 M K → za_Mi l g D cy yX8_speakBody cX8_speakBody 4 (some .int) (2 + d) (86 + 60 * d) [.ref (g (8, 0, 0)), .int x1, .int x2, .int x3] M K) {x1 : Int32} {x2 : Int32} {x3 : Int32} {M : za_M} (h : fb_X8_own R_X8_own R_X8_above R_X8_from R_X8_speakBody x1 x2 x3 M K) : zt p l e (za_rm (2 + (d + 1)) (86 + 60 * (d + 1))) s m args below meth c 0 0 (MQ below (za_Qi g D cy K) args s 0 0 (za_A g)) g D cy 4 M 0 [(0, .ref (g (8, 0, 0))), (1, .int x1), (2, .int x2), (3, .int x3)] [] := by
  unfold fb_X8_own at h
  refine zt_aload_n C 0 dX8_own_0 rfl rfl ?_
  refine zt_aload_n C 0 dX8_own_1 rfl rfl ?_
  refine zt_get C (za_mem (j := 8) rfl (by decide) (by decide)) pf_X8_21 (za_E_8 g cy M 0 0) rfl dX8_own_2 ?_
  refine zt_iload_n C 1 dX8_own_5 rfl rfl ?_
  refine zt_iload_n C 2 dX8_own_6 rfl rfl ?_
  refine zt_iload_n C 3 dX8_own_7 rfl rfl ?_
  refine zt_cVi C [.int (M.1 (8, 0, 0) 2), .int x1, .int x2, .int x3] (hR_X8_from  h) (za_mem (j := 8) rfl (by decide) (by decide)) (za_E_8 g cy M 0 0) rfl py_X8_from pv_X8_36 (Nat.le_of_ble_eq_true rfl) ⟨by dsimp only [za_rm]; omega, by dsimp only [za_rm]; omega⟩ ⟨Nat.zero_le _, Nat.zero_le _⟩ dX8_own_8 rfl (fun r2 M1 h => ?_)
  exact zt_ret C hr hk rfl dX8_own_11 h
end
theorem mb_X8_own {l : Launch} {g : za_L → Nat} {D : va_G} {cy : Nat → ClassId} {d : Nat} {R_X8_own : Int32 → Int32 → Int32 → za_M → (Int32 → za_M → Prop) → Prop} {R_X8_above : Int32 → Int32 → Int32 → Int32 → za_M → (Int32 → za_M → Prop) → Prop} {R_X8_from : Int32 → Int32 → Int32 → Int32 → za_M → (Int32 → za_M → Prop) → Prop} {R_X8_speakBody : Int32 → Int32 → Int32 → za_M → (Int32 → za_M → Prop) → Prop} (hJ : za_J g) (hR_X8_own : ∀ {x1 : Int32} {x2 : Int32} {x3 : Int32} {M : za_M} {K : Int32 → za_M → Prop}, R_X8_own x1 x2 x3 M K → za_Mi l g D cy yX8_own cX8_own 4 (some .int) (2 + d) (86 + 60 * d) [.ref (g (8, 0, 0)), .int x1, .int x2, .int x3] M K) (hR_X8_above : ∀ {x1 : Int32} {x2 : Int32} {x3 : Int32} {x4 : Int32} {M : za_M} {K : Int32 → za_M → Prop}, R_X8_above x1 x2 x3 x4 M K → za_Mi l g D cy yX8_above cX8_above 5 (some .int) (2 + d) (86 + 60 * d) [.ref (g (8, 0, 0)), .int x1, .int x2, .int x3, .int x4] M K) (hR_X8_from : ∀ {x1 : Int32} {x2 : Int32} {x3 : Int32} {x4 : Int32} {M : za_M} {K : Int32 → za_M → Prop}, R_X8_from x1 x2 x3 x4 M K → za_Mi l g D cy yX8_from cX8_from 8 (some .int) (2 + d) (86 + 60 * d) [.ref (g (8, 0, 0)), .int x1, .int x2, .int x3, .int x4] M K) (hR_X8_speakBody : ∀ {x1 : Int32} {x2 : Int32} {x3 : Int32} {M : za_M} {K : Int32 → za_M → Prop}, R_X8_speakBody x1 x2 x3 M K → za_Mi l g D cy yX8_speakBody cX8_speakBody 4 (some .int) (2 + d) (86 + 60 * d) [.ref (g (8, 0, 0)), .int x1, .int x2, .int x3] M K) {x1 : Int32} {x2 : Int32} {x3 : Int32} {M : za_M} {K : Int32 → za_M → Prop} (h : fb_X8_own R_X8_own R_X8_above R_X8_from R_X8_speakBody x1 x2 x3 M K) : za_Mi l g D cy yX8_own cX8_own 4 (some .int) (2 + (d + 1)) (86 + 60 * (d + 1)) [.ref (g (8, 0, 0)), .int x1, .int x2, .int x3] M K := za_openi hJ (by decide) (Nat.le_of_ble_eq_true rfl) (fun p e s m args below meth c C hr hk => p_X8_own hJ C hr hk hR_X8_own hR_X8_above hR_X8_from hR_X8_speakBody  h)
def fb_X8_above (R_X8_own : Int32 → Int32 → Int32 → za_M → (Int32 → za_M → Prop) → Prop) (R_X8_above : Int32 → Int32 → Int32 → Int32 → za_M → (Int32 → za_M → Prop) → Prop) (R_X8_from : Int32 → Int32 → Int32 → Int32 → za_M → (Int32 → za_M → Prop) → Prop) (R_X8_speakBody : Int32 → Int32 → Int32 → za_M → (Int32 → za_M → Prop) → Prop) (x1 : Int32) (x2 : Int32) (x3 : Int32) (x4 : Int32) (M : za_M) (K : Int32 → za_M → Prop) : Prop :=
  vp_in x1 7 ∧ (R_X8_from (za_t0 x1.toNatClampNeg) x2 x3 x4 M (fun r3 M2 => K r3 M2))
section
variable {p : Program} {l : Launch} {e : Env} {s : State} {m : MethodId} {args : Array Value} {below : List Frame} {meth : Method} {c : Code} {g : za_L → Nat} {D : va_G} {cy : Nat → ClassId} {K : Int32 → za_M → Prop} {d : Nat} {R_X8_own : Int32 → Int32 → Int32 → za_M → (Int32 → za_M → Prop) → Prop} {R_X8_above : Int32 → Int32 → Int32 → Int32 → za_M → (Int32 → za_M → Prop) → Prop} {R_X8_from : Int32 → Int32 → Int32 → Int32 → za_M → (Int32 → za_M → Prop) → Prop} {R_X8_speakBody : Int32 → Int32 → Int32 → za_M → (Int32 → za_M → Prop) → Prop} 
set_option maxRecDepth 100000 in
set_option maxHeartbeats 4000000 in
theorem p_X8_above (hJ : za_J g) (C : za_C p s m args c cX8_above 5 RX8 g D cy) (hr : meth.sig.returnType = (some .int)) (hk : meth.locks = false) (hR_X8_own : ∀ {x1 : Int32} {x2 : Int32} {x3 : Int32} {M : za_M} {K : Int32 → za_M → Prop}, R_X8_own x1 x2 x3 M K → za_Mi l g D cy yX8_own cX8_own 4 (some .int) (2 + d) (86 + 60 * d) [.ref (g (8, 0, 0)), .int x1, .int x2, .int x3] M K) (hR_X8_above : ∀ {x1 : Int32} {x2 : Int32} {x3 : Int32} {x4 : Int32} {M : za_M} {K : Int32 → za_M → Prop}, R_X8_above x1 x2 x3 x4 M K → za_Mi l g D cy yX8_above cX8_above 5 (some .int) (2 + d) (86 + 60 * d) [.ref (g (8, 0, 0)), .int x1, .int x2, .int x3, .int x4] M K) (hR_X8_from : ∀ {x1 : Int32} {x2 : Int32} {x3 : Int32} {x4 : Int32} {M : za_M} {K : Int32 → za_M → Prop}, R_X8_from x1 x2 x3 x4 M K → za_Mi l g D cy yX8_from cX8_from 8 (some .int) (2 + d) (86 + 60 * d) [.ref (g (8, 0, 0)), .int x1, .int x2, .int x3, .int x4] M K) (hR_X8_speakBody : ∀ {x1 : Int32} {x2 : Int32} {x3 : Int32} {M : za_M} {K : Int32 → za_M → Prop}, R_X8_speakBody x1 x2 x3 M K → za_Mi l g D cy yX8_speakBody cX8_speakBody 4 (some .int) (2 + d) (86 + 60 * d) [.ref (g (8, 0, 0)), .int x1, .int x2, .int x3] M K) {x1 : Int32} {x2 : Int32} {x3 : Int32} {x4 : Int32} {M : za_M} (h : fb_X8_above R_X8_own R_X8_above R_X8_from R_X8_speakBody x1 x2 x3 x4 M K) : zt p l e (za_rm (2 + (d + 1)) (86 + 60 * (d + 1))) s m args below meth c 0 0 (MQ below (za_Qi g D cy K) args s 0 0 (za_A g)) g D cy 5 M 0 [(0, .ref (g (8, 0, 0))), (1, .int x1), (2, .int x2), (3, .int x3), (4, .int x4)] [] := by
  unfold fb_X8_above at h
  refine zt_aload_n C 0 dX8_above_0 rfl rfl ?_
  refine zt_getsN C (host := "AshLoans") C.2.2.2.2.2.1.2.2.1.1 (by decide +kernel) dX8_above_1 ?_
  refine zt_iload_n C 1 dX8_above_4 rfl rfl ?_
  obtain ⟨g1, h⟩ := h
  refine zt_tald C C.2.2.2.2.2.1.2.2.1.2 g1 dX8_above_5 ?_
  refine zt_iload_n C 2 dX8_above_6 rfl rfl ?_
  refine zt_iload_n C 3 dX8_above_7 rfl rfl ?_
  refine zt_iload C 4 dX8_above_8 rfl ?_
  refine zt_cVi C [.int (za_t0 x1.toNatClampNeg), .int x2, .int x3, .int x4] (hR_X8_from  h) (za_mem (j := 8) rfl (by decide) (by decide)) (za_E_8 g cy M 0 0) rfl py_X8_from pv_X8_36 (Nat.le_of_ble_eq_true rfl) ⟨by dsimp only [za_rm]; omega, by dsimp only [za_rm]; omega⟩ ⟨Nat.zero_le _, Nat.zero_le _⟩ dX8_above_10 rfl (fun r3 M2 h => ?_)
  exact zt_ret C hr hk rfl dX8_above_13 h
end
theorem mb_X8_above {l : Launch} {g : za_L → Nat} {D : va_G} {cy : Nat → ClassId} {d : Nat} {R_X8_own : Int32 → Int32 → Int32 → za_M → (Int32 → za_M → Prop) → Prop} {R_X8_above : Int32 → Int32 → Int32 → Int32 → za_M → (Int32 → za_M → Prop) → Prop} {R_X8_from : Int32 → Int32 → Int32 → Int32 → za_M → (Int32 → za_M → Prop) → Prop} {R_X8_speakBody : Int32 → Int32 → Int32 → za_M → (Int32 → za_M → Prop) → Prop} (hJ : za_J g) (hR_X8_own : ∀ {x1 : Int32} {x2 : Int32} {x3 : Int32} {M : za_M} {K : Int32 → za_M → Prop}, R_X8_own x1 x2 x3 M K → za_Mi l g D cy yX8_own cX8_own 4 (some .int) (2 + d) (86 + 60 * d) [.ref (g (8, 0, 0)), .int x1, .int x2, .int x3] M K) (hR_X8_above : ∀ {x1 : Int32} {x2 : Int32} {x3 : Int32} {x4 : Int32} {M : za_M} {K : Int32 → za_M → Prop}, R_X8_above x1 x2 x3 x4 M K → za_Mi l g D cy yX8_above cX8_above 5 (some .int) (2 + d) (86 + 60 * d) [.ref (g (8, 0, 0)), .int x1, .int x2, .int x3, .int x4] M K) (hR_X8_from : ∀ {x1 : Int32} {x2 : Int32} {x3 : Int32} {x4 : Int32} {M : za_M} {K : Int32 → za_M → Prop}, R_X8_from x1 x2 x3 x4 M K → za_Mi l g D cy yX8_from cX8_from 8 (some .int) (2 + d) (86 + 60 * d) [.ref (g (8, 0, 0)), .int x1, .int x2, .int x3, .int x4] M K) (hR_X8_speakBody : ∀ {x1 : Int32} {x2 : Int32} {x3 : Int32} {M : za_M} {K : Int32 → za_M → Prop}, R_X8_speakBody x1 x2 x3 M K → za_Mi l g D cy yX8_speakBody cX8_speakBody 4 (some .int) (2 + d) (86 + 60 * d) [.ref (g (8, 0, 0)), .int x1, .int x2, .int x3] M K) {x1 : Int32} {x2 : Int32} {x3 : Int32} {x4 : Int32} {M : za_M} {K : Int32 → za_M → Prop} (h : fb_X8_above R_X8_own R_X8_above R_X8_from R_X8_speakBody x1 x2 x3 x4 M K) : za_Mi l g D cy yX8_above cX8_above 5 (some .int) (2 + (d + 1)) (86 + 60 * (d + 1)) [.ref (g (8, 0, 0)), .int x1, .int x2, .int x3, .int x4] M K := za_openi hJ (by decide) (Nat.le_of_ble_eq_true rfl) (fun p e s m args below meth c C hr hk => p_X8_above hJ C hr hk hR_X8_own hR_X8_above hR_X8_from hR_X8_speakBody  h)
def f_X8_from_b6 (R_X8_own : Int32 → Int32 → Int32 → za_M → (Int32 → za_M → Prop) → Prop) (R_X8_above : Int32 → Int32 → Int32 → Int32 → za_M → (Int32 → za_M → Prop) → Prop) (R_X8_from : Int32 → Int32 → Int32 → Int32 → za_M → (Int32 → za_M → Prop) → Prop) (R_X8_speakBody : Int32 → Int32 → Int32 → za_M → (Int32 → za_M → Prop) → Prop) (K : Int32 → za_M → Prop) (x2 : Int32) (x3 : Int32) (x4 : Int32) (L6 : Int32 → Int32 → za_M → Prop) (x5 : Int32) (x6 : Int32) (M : za_M) : Prop :=
  if 7 ≤ x6 then (K 0 M) else (f_X9_within x5 0 6 M (fun r3 M2 => if r3 = 0 then (K 0 M2) else (vp_in ((x5 * 4) + x2) 28 ∧ (za_let (za_t3 ((x5 * 4) + x2).toNatClampNeg) fun y6 => if y6 = 0 then (vp_in x5 7 ∧ (za_let (za_t0 x5.toNatClampNeg) fun y10 => L6 y10 (x6 + 1) M2)) else (if 40 ≤ x4 then (K 0 M2) else (R_X8_speakBody y6 x3 (x4 + 1) M2 (fun r14 M13 => K r14 M13)))))))
def fb_X8_from (R_X8_own : Int32 → Int32 → Int32 → za_M → (Int32 → za_M → Prop) → Prop) (R_X8_above : Int32 → Int32 → Int32 → Int32 → za_M → (Int32 → za_M → Prop) → Prop) (R_X8_from : Int32 → Int32 → Int32 → Int32 → za_M → (Int32 → za_M → Prop) → Prop) (R_X8_speakBody : Int32 → Int32 → Int32 → za_M → (Int32 → za_M → Prop) → Prop) (x1 : Int32) (x2 : Int32) (x3 : Int32) (x4 : Int32) (M : za_M) (K : Int32 → za_M → Prop) : Prop :=
  ∃ n, za_lp2 (f_X8_from_b6 R_X8_own R_X8_above R_X8_from R_X8_speakBody K x2 x3 x4) n x1 0 M
section
variable {p : Program} {l : Launch} {e : Env} {s : State} {m : MethodId} {args : Array Value} {below : List Frame} {meth : Method} {c : Code} {g : za_L → Nat} {D : va_G} {cy : Nat → ClassId} {K : Int32 → za_M → Prop} {d : Nat} {R_X8_own : Int32 → Int32 → Int32 → za_M → (Int32 → za_M → Prop) → Prop} {R_X8_above : Int32 → Int32 → Int32 → Int32 → za_M → (Int32 → za_M → Prop) → Prop} {R_X8_from : Int32 → Int32 → Int32 → Int32 → za_M → (Int32 → za_M → Prop) → Prop} {R_X8_speakBody : Int32 → Int32 → Int32 → za_M → (Int32 → za_M → Prop) → Prop} 
set_option maxRecDepth 100000 in
set_option maxHeartbeats 4000000 in
theorem p_X8_from_b6 (hJ : za_J g) (C : za_C p s m args c cX8_from 8 RX8 g D cy) (hr : meth.sig.returnType = (some .int)) (hk : meth.locks = false) (hR_X8_own : ∀ {x1 : Int32} {x2 : Int32} {x3 : Int32} {M : za_M} {K : Int32 → za_M → Prop}, R_X8_own x1 x2 x3 M K → za_Mi l g D cy yX8_own cX8_own 4 (some .int) (2 + d) (86 + 60 * d) [.ref (g (8, 0, 0)), .int x1, .int x2, .int x3] M K) (hR_X8_above : ∀ {x1 : Int32} {x2 : Int32} {x3 : Int32} {x4 : Int32} {M : za_M} {K : Int32 → za_M → Prop}, R_X8_above x1 x2 x3 x4 M K → za_Mi l g D cy yX8_above cX8_above 5 (some .int) (2 + d) (86 + 60 * d) [.ref (g (8, 0, 0)), .int x1, .int x2, .int x3, .int x4] M K) (hR_X8_from : ∀ {x1 : Int32} {x2 : Int32} {x3 : Int32} {x4 : Int32} {M : za_M} {K : Int32 → za_M → Prop}, R_X8_from x1 x2 x3 x4 M K → za_Mi l g D cy yX8_from cX8_from 8 (some .int) (2 + d) (86 + 60 * d) [.ref (g (8, 0, 0)), .int x1, .int x2, .int x3, .int x4] M K) (hR_X8_speakBody : ∀ {x1 : Int32} {x2 : Int32} {x3 : Int32} {M : za_M} {K : Int32 → za_M → Prop}, R_X8_speakBody x1 x2 x3 M K → za_Mi l g D cy yX8_speakBody cX8_speakBody 4 (some .int) (2 + d) (86 + 60 * d) [.ref (g (8, 0, 0)), .int x1, .int x2, .int x3] M K) {x2 : Int32} {x3 : Int32} {x4 : Int32} {L6 : Int32 → Int32 → za_M → Prop} (hL6 : ∀ (x5 : Int32) (x6 : Int32) (M : za_M), L6 x5 x6 M → zt p l e (za_rm (2 + (d + 1)) (86 + 60 * (d + 1))) s m args below meth c 0 0 (MQ below (za_Qi g D cy K) args s 0 0 (za_A g)) g D cy 8 M 6 [(0, .ref (g (8, 0, 0))), (2, .int x2), (3, .int x3), (4, .int x4), (5, .int x5), (6, .int x6)] []) : ∀ (x5 : Int32) (x6 : Int32) (M : za_M), f_X8_from_b6 R_X8_own R_X8_above R_X8_from R_X8_speakBody K x2 x3 x4 L6 x5 x6 M → zt p l e (za_rm (2 + (d + 1)) (86 + 60 * (d + 1))) s m args below meth c 0 0 (MQ below (za_Qi g D cy K) args s 0 0 (za_A g)) g D cy 8 M 6 [(0, .ref (g (8, 0, 0))), (2, .int x2), (3, .int x3), (4, .int x4), (5, .int x5), (6, .int x6)] [] := by
  intro x5 x6 M h
  unfold f_X8_from_b6 at h
  refine zt_iload C 5 dX8_from_6 rfl ?_
  refine zt_bipush C (v := 7) dX8_from_8 zk_b7 ?_
  refine zt_icmp_ge C 78 dX8_from_10 (by decide) (fun q1 => ?_) (fun q1 => ?_)
  · replace h := za_ifp h q1
    refine zt_iconst C (v := 0) dX8_from_78 zk_i0 ?_
    exact zt_ret C hr hk rfl dX8_from_79 h
  · replace h := za_ifn h q1
    refine zt_iload C 4 dX8_from_13 rfl ?_
    refine zt_iconst C (v := 0) dX8_from_15 zk_i0 ?_
    refine zt_bipush C (v := 6) dX8_from_16 zk_b6 ?_
    refine zt_cNi C [.int x5, .int 0, .int 6] (m_X9_within hJ  h) py_X9_within pn_X8_43 (Nat.le_of_ble_eq_true rfl) ⟨by dsimp only [za_rm]; omega, by dsimp only [za_rm]; omega⟩ ⟨Nat.zero_le _, Nat.zero_le _⟩ dX8_from_18 rfl (fun r3 M2 h => ?_)
    refine zt_if_eq C 78 dX8_from_21 (by decide) (fun q4 => ?_) (fun q4 => ?_)
    · replace h := za_ifp h q4
      refine zt_iconst C (v := 0) dX8_from_78 zk_i0 ?_
      exact zt_ret C hr hk rfl dX8_from_79 h
    · replace h := za_ifn h q4
      refine zt_gets C C.2.2.2.2.2.1.2.2.2.2.2.1.1 w_793 dX8_from_24 ?_
      refine zt_iload C 4 dX8_from_27 rfl ?_
      refine zt_iconst C (v := 4) dX8_from_29 zk_i4 ?_
      refine zt_imul C dX8_from_30 ?_
      refine zt_iload_n C 1 dX8_from_31 rfl rfl ?_
      refine zt_iadd C dX8_from_32 ?_
      obtain ⟨g5, h⟩ := h
      refine zt_tald C C.2.2.2.2.2.1.2.2.2.2.2.1.2 g5 dX8_from_33 ?_
      refine zt_topi (fun y6 e7 => ?_)
      replace h := za_use h e7
      refine zt_istore C [(7, .int y6), (0, .ref (g (8, 0, 0))), (2, .int x2), (3, .int x3), (4, .int x4), (5, .int x5), (6, .int x6)] dX8_from_34 (by decide) rfl ?_
      refine zt_iload C 0 dX8_from_36 rfl ?_
      refine zt_if_eq C 64 dX8_from_38 (by decide) (fun q8 => ?_) (fun q8 => ?_)
      · replace h := za_ifp h q8
        refine zt_getsN C (host := "AshLoans") C.2.2.2.2.2.1.2.2.1.1 (by decide +kernel) dX8_from_64 ?_
        refine zt_iload C 5 dX8_from_67 rfl ?_
        obtain ⟨g9, h⟩ := h
        refine zt_tald C C.2.2.2.2.2.1.2.2.1.2 g9 dX8_from_69 ?_
        refine zt_topi (fun y10 e11 => ?_)
        replace h := za_use h e11
        refine zt_istore C [(5, .int y10), (7, .int y6), (0, .ref (g (8, 0, 0))), (2, .int x2), (3, .int x3), (4, .int x4), (6, .int x6)] dX8_from_70 (by decide) rfl ?_
        refine zt_iinc C (v := x6 + 1) 6 [(6, .int (x6 + 1)), (5, .int y10), (7, .int y6), (0, .ref (g (8, 0, 0))), (2, .int x2), (3, .int x3), (4, .int x4)] dX8_from_72 rfl (zk_n1 _) (by decide) rfl ?_
        refine zt_goto C 6 dX8_from_75 (by decide) ?_
        refine zt_sub [3, 4, 5, 6, 1, 0] (lv' := [(0, .ref (g (8, 0, 0))), (2, .int x2), (3, .int x3), (4, .int x4), (5, .int y10), (6, .int (x6 + 1))]) rfl ?_
        exact hL6 _ _ _ h
      · replace h := za_ifn h q8
        refine zt_iload C 4 dX8_from_41 rfl ?_
        refine zt_bipush C (v := 40) dX8_from_43 zk_b40 ?_
        refine zt_icmp_ge C 62 dX8_from_45 (by decide) (fun q12 => ?_) (fun q12 => ?_)
        · replace h := za_ifp h q12
          refine zt_iconst C (v := 0) dX8_from_62 zk_i0 ?_
          exact zt_ret C hr hk rfl dX8_from_63 h
        · replace h := za_ifn h q12
          refine zt_aload_n C 1 dX8_from_48 rfl rfl ?_
          refine zt_iload C 0 dX8_from_49 rfl ?_
          refine zt_iload_n C 3 dX8_from_51 rfl rfl ?_
          refine zt_iload C 4 dX8_from_52 rfl ?_
          refine zt_iconst C (v := 1) dX8_from_54 zk_i1 ?_
          refine zt_iadd C dX8_from_55 ?_
          refine zt_cVi C [.int y6, .int x3, .int (x4 + 1)] (hR_X8_speakBody  h) (za_mem (j := 8) rfl (by decide) (by decide)) (za_E_8 g cy M2 0 0) rfl py_X8_speakBody pv_X8_50 (Nat.le_of_ble_eq_true rfl) ⟨by dsimp only [za_rm]; omega, by dsimp only [za_rm]; omega⟩ ⟨Nat.zero_le _, Nat.zero_le _⟩ dX8_from_56 rfl (fun r14 M13 h => ?_)
          refine zt_goto C 63 dX8_from_59 (by decide) ?_
          exact zt_ret C hr hk rfl dX8_from_63 h
theorem p_X8_from_b6_in (hJ : za_J g) (C : za_C p s m args c cX8_from 8 RX8 g D cy) (hr : meth.sig.returnType = (some .int)) (hk : meth.locks = false) (hR_X8_own : ∀ {x1 : Int32} {x2 : Int32} {x3 : Int32} {M : za_M} {K : Int32 → za_M → Prop}, R_X8_own x1 x2 x3 M K → za_Mi l g D cy yX8_own cX8_own 4 (some .int) (2 + d) (86 + 60 * d) [.ref (g (8, 0, 0)), .int x1, .int x2, .int x3] M K) (hR_X8_above : ∀ {x1 : Int32} {x2 : Int32} {x3 : Int32} {x4 : Int32} {M : za_M} {K : Int32 → za_M → Prop}, R_X8_above x1 x2 x3 x4 M K → za_Mi l g D cy yX8_above cX8_above 5 (some .int) (2 + d) (86 + 60 * d) [.ref (g (8, 0, 0)), .int x1, .int x2, .int x3, .int x4] M K) (hR_X8_from : ∀ {x1 : Int32} {x2 : Int32} {x3 : Int32} {x4 : Int32} {M : za_M} {K : Int32 → za_M → Prop}, R_X8_from x1 x2 x3 x4 M K → za_Mi l g D cy yX8_from cX8_from 8 (some .int) (2 + d) (86 + 60 * d) [.ref (g (8, 0, 0)), .int x1, .int x2, .int x3, .int x4] M K) (hR_X8_speakBody : ∀ {x1 : Int32} {x2 : Int32} {x3 : Int32} {M : za_M} {K : Int32 → za_M → Prop}, R_X8_speakBody x1 x2 x3 M K → za_Mi l g D cy yX8_speakBody cX8_speakBody 4 (some .int) (2 + d) (86 + 60 * d) [.ref (g (8, 0, 0)), .int x1, .int x2, .int x3] M K) {x2 : Int32} {x3 : Int32} {x4 : Int32} {n : Nat} {x5 : Int32} {x6 : Int32} {M : za_M} (h : za_lp2 (f_X8_from_b6 R_X8_own R_X8_above R_X8_from R_X8_speakBody K x2 x3 x4) n x5 x6 M) : zt p l e (za_rm (2 + (d + 1)) (86 + 60 * (d + 1))) s m args below meth c 0 0 (MQ below (za_Qi g D cy K) args s 0 0 (za_A g)) g D cy 8 M 6 [(0, .ref (g (8, 0, 0))), (2, .int x2), (3, .int x3), (4, .int x4), (5, .int x5), (6, .int x6)] [] := za_lp2_run (Z := fun x5 x6 M => zt p l e (za_rm (2 + (d + 1)) (86 + 60 * (d + 1))) s m args below meth c 0 0 (MQ below (za_Qi g D cy K) args s 0 0 (za_A g)) g D cy 8 M 6 [(0, .ref (g (8, 0, 0))), (2, .int x2), (3, .int x3), (4, .int x4), (5, .int x5), (6, .int x6)] []) (fun L hL => p_X8_from_b6 hJ C hr hk hR_X8_own hR_X8_above hR_X8_from hR_X8_speakBody  hL) n x5 x6 M h
set_option maxRecDepth 100000 in
set_option maxHeartbeats 4000000 in
theorem p_X8_from (hJ : za_J g) (C : za_C p s m args c cX8_from 8 RX8 g D cy) (hr : meth.sig.returnType = (some .int)) (hk : meth.locks = false) (hR_X8_own : ∀ {x1 : Int32} {x2 : Int32} {x3 : Int32} {M : za_M} {K : Int32 → za_M → Prop}, R_X8_own x1 x2 x3 M K → za_Mi l g D cy yX8_own cX8_own 4 (some .int) (2 + d) (86 + 60 * d) [.ref (g (8, 0, 0)), .int x1, .int x2, .int x3] M K) (hR_X8_above : ∀ {x1 : Int32} {x2 : Int32} {x3 : Int32} {x4 : Int32} {M : za_M} {K : Int32 → za_M → Prop}, R_X8_above x1 x2 x3 x4 M K → za_Mi l g D cy yX8_above cX8_above 5 (some .int) (2 + d) (86 + 60 * d) [.ref (g (8, 0, 0)), .int x1, .int x2, .int x3, .int x4] M K) (hR_X8_from : ∀ {x1 : Int32} {x2 : Int32} {x3 : Int32} {x4 : Int32} {M : za_M} {K : Int32 → za_M → Prop}, R_X8_from x1 x2 x3 x4 M K → za_Mi l g D cy yX8_from cX8_from 8 (some .int) (2 + d) (86 + 60 * d) [.ref (g (8, 0, 0)), .int x1, .int x2, .int x3, .int x4] M K) (hR_X8_speakBody : ∀ {x1 : Int32} {x2 : Int32} {x3 : Int32} {M : za_M} {K : Int32 → za_M → Prop}, R_X8_speakBody x1 x2 x3 M K → za_Mi l g D cy yX8_speakBody cX8_speakBody 4 (some .int) (2 + d) (86 + 60 * d) [.ref (g (8, 0, 0)), .int x1, .int x2, .int x3] M K) {x1 : Int32} {x2 : Int32} {x3 : Int32} {x4 : Int32} {M : za_M} (h : fb_X8_from R_X8_own R_X8_above R_X8_from R_X8_speakBody x1 x2 x3 x4 M K) : zt p l e (za_rm (2 + (d + 1)) (86 + 60 * (d + 1))) s m args below meth c 0 0 (MQ below (za_Qi g D cy K) args s 0 0 (za_A g)) g D cy 8 M 0 [(0, .ref (g (8, 0, 0))), (1, .int x1), (2, .int x2), (3, .int x3), (4, .int x4)] [] := by
  unfold fb_X8_from at h
  refine zt_iload_n C 1 dX8_from_0 rfl rfl ?_
  refine zt_istore C [(5, .int x1), (0, .ref (g (8, 0, 0))), (1, .int x1), (2, .int x2), (3, .int x3), (4, .int x4)] dX8_from_1 (by decide) rfl ?_
  refine zt_iconst C (v := 0) dX8_from_3 zk_i0 ?_
  refine zt_istore C [(6, .int 0), (5, .int x1), (0, .ref (g (8, 0, 0))), (1, .int x1), (2, .int x2), (3, .int x3), (4, .int x4)] dX8_from_4 (by decide) rfl ?_
  refine zt_sub [2, 4, 5, 6, 1, 0] (lv' := [(0, .ref (g (8, 0, 0))), (2, .int x2), (3, .int x3), (4, .int x4), (5, .int x1), (6, .int 0)]) rfl ?_
  obtain ⟨n, h⟩ := h
  exact p_X8_from_b6_in hJ C hr hk hR_X8_own hR_X8_above hR_X8_from hR_X8_speakBody  h
end
theorem mb_X8_from {l : Launch} {g : za_L → Nat} {D : va_G} {cy : Nat → ClassId} {d : Nat} {R_X8_own : Int32 → Int32 → Int32 → za_M → (Int32 → za_M → Prop) → Prop} {R_X8_above : Int32 → Int32 → Int32 → Int32 → za_M → (Int32 → za_M → Prop) → Prop} {R_X8_from : Int32 → Int32 → Int32 → Int32 → za_M → (Int32 → za_M → Prop) → Prop} {R_X8_speakBody : Int32 → Int32 → Int32 → za_M → (Int32 → za_M → Prop) → Prop} (hJ : za_J g) (hR_X8_own : ∀ {x1 : Int32} {x2 : Int32} {x3 : Int32} {M : za_M} {K : Int32 → za_M → Prop}, R_X8_own x1 x2 x3 M K → za_Mi l g D cy yX8_own cX8_own 4 (some .int) (2 + d) (86 + 60 * d) [.ref (g (8, 0, 0)), .int x1, .int x2, .int x3] M K) (hR_X8_above : ∀ {x1 : Int32} {x2 : Int32} {x3 : Int32} {x4 : Int32} {M : za_M} {K : Int32 → za_M → Prop}, R_X8_above x1 x2 x3 x4 M K → za_Mi l g D cy yX8_above cX8_above 5 (some .int) (2 + d) (86 + 60 * d) [.ref (g (8, 0, 0)), .int x1, .int x2, .int x3, .int x4] M K) (hR_X8_from : ∀ {x1 : Int32} {x2 : Int32} {x3 : Int32} {x4 : Int32} {M : za_M} {K : Int32 → za_M → Prop}, R_X8_from x1 x2 x3 x4 M K → za_Mi l g D cy yX8_from cX8_from 8 (some .int) (2 + d) (86 + 60 * d) [.ref (g (8, 0, 0)), .int x1, .int x2, .int x3, .int x4] M K) (hR_X8_speakBody : ∀ {x1 : Int32} {x2 : Int32} {x3 : Int32} {M : za_M} {K : Int32 → za_M → Prop}, R_X8_speakBody x1 x2 x3 M K → za_Mi l g D cy yX8_speakBody cX8_speakBody 4 (some .int) (2 + d) (86 + 60 * d) [.ref (g (8, 0, 0)), .int x1, .int x2, .int x3] M K) {x1 : Int32} {x2 : Int32} {x3 : Int32} {x4 : Int32} {M : za_M} {K : Int32 → za_M → Prop} (h : fb_X8_from R_X8_own R_X8_above R_X8_from R_X8_speakBody x1 x2 x3 x4 M K) : za_Mi l g D cy yX8_from cX8_from 8 (some .int) (2 + (d + 1)) (86 + 60 * (d + 1)) [.ref (g (8, 0, 0)), .int x1, .int x2, .int x3, .int x4] M K := za_openi hJ (by decide) (Nat.le_of_ble_eq_true rfl) (fun p e s m args below meth c C hr hk => p_X8_from hJ C hr hk hR_X8_own hR_X8_above hR_X8_from hR_X8_speakBody  h)
def fb_X8_speakBody (R_X8_own : Int32 → Int32 → Int32 → za_M → (Int32 → za_M → Prop) → Prop) (R_X8_above : Int32 → Int32 → Int32 → Int32 → za_M → (Int32 → za_M → Prop) → Prop) (R_X8_from : Int32 → Int32 → Int32 → Int32 → za_M → (Int32 → za_M → Prop) → Prop) (R_X8_speakBody : Int32 → Int32 → Int32 → za_M → (Int32 → za_M → Prop) → Prop) (x1 : Int32) (x2 : Int32) (x3 : Int32) (M : za_M) (K : Int32 → za_M → Prop) : Prop :=
  f_X8_note x1 M (fun M1 => if x1 = 10 then (K (x2 + (M1.1 (8, 0, 0) 3)) M1) else if x1 = 11 then (R_X8_own 0 x2 x3 M1 (fun r6 M5 => K (r6 * 2) M5)) else if x1 = 12 then (K (x2 - (M1.1 (8, 0, 0) 4)) M1) else if x1 = 13 then (R_X8_own 1 x2 x3 M1 (fun r10 M9 => R_X8_own 2 x2 x3 M9 (fun r12 M11 => K (r10 ^^^ r12) M11))) else if x1 = 20 then (R_X8_above 1 0 x2 x3 M1 (fun r15 M14 => K (r15 * 3) M14)) else if x1 = 30 then (R_X8_above 2 1 x2 x3 M1 (fun r18 M17 => R_X8_own 2 1 x3 M17 (fun r20 M19 => K (r18 - r20) M19))) else if x1 = 40 then (R_X8_above 3 2 x2 x3 M1 (fun r23 M22 => K (-r23) M22)) else if x1 = 50 then (R_X8_above 4 3 x2 x3 M1 (fun r26 M25 => R_X8_own 0 2 x3 M25 (fun r28 M27 => K (r26 - r28) M27))) else if x1 = 60 then (R_X8_above 5 1 (x2 + 1) x3 M1 (fun r31 M30 => K r31 M30)) else if x1 = 70 then (R_X8_above 6 2 x2 x3 M1 (fun r34 M33 => K (r34 ^^^ (M33.1 (8, 0, 0) 3)) M33)) else if x1 = 71 then (R_X8_own 1 x2 x3 M1 (fun r37 M36 => R_X8_above 6 3 x2 x3 M36 (fun r39 M38 => K (r37 - r39) M38))) else (K 0 M1))
section
variable {p : Program} {l : Launch} {e : Env} {s : State} {m : MethodId} {args : Array Value} {below : List Frame} {meth : Method} {c : Code} {g : za_L → Nat} {D : va_G} {cy : Nat → ClassId} {K : Int32 → za_M → Prop} {d : Nat} {R_X8_own : Int32 → Int32 → Int32 → za_M → (Int32 → za_M → Prop) → Prop} {R_X8_above : Int32 → Int32 → Int32 → Int32 → za_M → (Int32 → za_M → Prop) → Prop} {R_X8_from : Int32 → Int32 → Int32 → Int32 → za_M → (Int32 → za_M → Prop) → Prop} {R_X8_speakBody : Int32 → Int32 → Int32 → za_M → (Int32 → za_M → Prop) → Prop} 
set_option maxRecDepth 100000 in
set_option maxHeartbeats 4000000 in
theorem p_X8_speakBody (hJ : za_J g) (C : za_C p s m args c cX8_speakBody 4 RX8 g D cy) (hr : meth.sig.returnType = (some .int)) (hk : meth.locks = false) (hR_X8_own : ∀ {x1 : Int32} {x2 : Int32} {x3 : Int32} {M : za_M} {K : Int32 → za_M → Prop}, R_X8_own x1 x2 x3 M K → za_Mi l g D cy yX8_own cX8_own 4 (some .int) (2 + d) (86 + 60 * d) [.ref (g (8, 0, 0)), .int x1, .int x2, .int x3] M K) (hR_X8_above : ∀ {x1 : Int32} {x2 : Int32} {x3 : Int32} {x4 : Int32} {M : za_M} {K : Int32 → za_M → Prop}, R_X8_above x1 x2 x3 x4 M K → za_Mi l g D cy yX8_above cX8_above 5 (some .int) (2 + d) (86 + 60 * d) [.ref (g (8, 0, 0)), .int x1, .int x2, .int x3, .int x4] M K) (hR_X8_from : ∀ {x1 : Int32} {x2 : Int32} {x3 : Int32} {x4 : Int32} {M : za_M} {K : Int32 → za_M → Prop}, R_X8_from x1 x2 x3 x4 M K → za_Mi l g D cy yX8_from cX8_from 8 (some .int) (2 + d) (86 + 60 * d) [.ref (g (8, 0, 0)), .int x1, .int x2, .int x3, .int x4] M K) (hR_X8_speakBody : ∀ {x1 : Int32} {x2 : Int32} {x3 : Int32} {M : za_M} {K : Int32 → za_M → Prop}, R_X8_speakBody x1 x2 x3 M K → za_Mi l g D cy yX8_speakBody cX8_speakBody 4 (some .int) (2 + d) (86 + 60 * d) [.ref (g (8, 0, 0)), .int x1, .int x2, .int x3] M K) {x1 : Int32} {x2 : Int32} {x3 : Int32} {M : za_M} (h : fb_X8_speakBody R_X8_own R_X8_above R_X8_from R_X8_speakBody x1 x2 x3 M K) : zt p l e (za_rm (2 + (d + 1)) (86 + 60 * (d + 1))) s m args below meth c 0 0 (MQ below (za_Qi g D cy K) args s 0 0 (za_A g)) g D cy 4 M 0 [(0, .ref (g (8, 0, 0))), (1, .int x1), (2, .int x2), (3, .int x3)] [] := by
  unfold fb_X8_speakBody at h
  refine zt_aload_n C 0 dX8_speakBody_0 rfl rfl ?_
  refine zt_iload_n C 1 dX8_speakBody_1 rfl rfl ?_
  refine zt_cVv C [.int x1] (m_X8_note hJ  h) (za_mem (j := 8) rfl (by decide) (by decide)) (za_E_8 g cy M 0 0) rfl py_X8_note pv_X8_53 (Nat.le_of_ble_eq_true rfl) ⟨by dsimp only [za_rm]; omega, by dsimp only [za_rm]; omega⟩ ⟨Nat.zero_le _, Nat.zero_le _⟩ dX8_speakBody_2 rfl (fun M1 h => ?_)
  refine zt_iload_n C 1 dX8_speakBody_5 rfl rfl ?_
  by_cases q3 : x1 = 10
  · replace h := za_ifp h q3
    refine zt_lookup C (off := 98) 104 dX8_speakBody_6 (by decide) (by rw [q3]; decide) (by decide) ?_
    refine zt_iload_n C 2 dX8_speakBody_104 rfl rfl ?_
    refine zt_aload_n C 0 dX8_speakBody_105 rfl rfl ?_
    refine zt_get C (za_mem (j := 8) rfl (by decide) (by decide)) pf_X8_26 (za_E_8 g cy M1 0 0) rfl dX8_speakBody_106 ?_
    refine zt_iadd C dX8_speakBody_109 ?_
    exact zt_ret C hr hk rfl dX8_speakBody_110 h
  replace h := za_ifn h q3
  by_cases q4 : x1 = 11
  · replace h := za_ifp h q4
    refine zt_lookup C (off := 105) 111 dX8_speakBody_6 (by decide) (by rw [q4]; decide) (by decide) ?_
    refine zt_aload_n C 0 dX8_speakBody_111 rfl rfl ?_
    refine zt_iconst C (v := 0) dX8_speakBody_112 zk_i0 ?_
    refine zt_iload_n C 2 dX8_speakBody_113 rfl rfl ?_
    refine zt_iload_n C 3 dX8_speakBody_114 rfl rfl ?_
    refine zt_cVi C [.int 0, .int x2, .int x3] (hR_X8_own  h) (za_mem (j := 8) rfl (by decide) (by decide)) (za_E_8 g cy M1 0 0) rfl py_X8_own pv_X8_32 (Nat.le_of_ble_eq_true rfl) ⟨by dsimp only [za_rm]; omega, by dsimp only [za_rm]; omega⟩ ⟨Nat.zero_le _, Nat.zero_le _⟩ dX8_speakBody_115 rfl (fun r6 M5 h => ?_)
    refine zt_iconst C (v := 2) dX8_speakBody_118 zk_i2 ?_
    refine zt_imul C dX8_speakBody_119 ?_
    exact zt_ret C hr hk rfl dX8_speakBody_120 h
  replace h := za_ifn h q4
  by_cases q7 : x1 = 12
  · replace h := za_ifp h q7
    refine zt_lookup C (off := 115) 121 dX8_speakBody_6 (by decide) (by rw [q7]; decide) (by decide) ?_
    refine zt_iload_n C 2 dX8_speakBody_121 rfl rfl ?_
    refine zt_aload_n C 0 dX8_speakBody_122 rfl rfl ?_
    refine zt_get C (za_mem (j := 8) rfl (by decide) (by decide)) pf_X8_25 (za_E_8 g cy M1 0 0) rfl dX8_speakBody_123 ?_
    refine zt_isub C dX8_speakBody_126 ?_
    exact zt_ret C hr hk rfl dX8_speakBody_127 h
  replace h := za_ifn h q7
  by_cases q8 : x1 = 13
  · replace h := za_ifp h q8
    refine zt_lookup C (off := 122) 128 dX8_speakBody_6 (by decide) (by rw [q8]; decide) (by decide) ?_
    refine zt_aload_n C 0 dX8_speakBody_128 rfl rfl ?_
    refine zt_iconst C (v := 1) dX8_speakBody_129 zk_i1 ?_
    refine zt_iload_n C 2 dX8_speakBody_130 rfl rfl ?_
    refine zt_iload_n C 3 dX8_speakBody_131 rfl rfl ?_
    refine zt_cVi C [.int 1, .int x2, .int x3] (hR_X8_own  h) (za_mem (j := 8) rfl (by decide) (by decide)) (za_E_8 g cy M1 0 0) rfl py_X8_own pv_X8_32 (Nat.le_of_ble_eq_true rfl) ⟨by dsimp only [za_rm]; omega, by dsimp only [za_rm]; omega⟩ ⟨Nat.zero_le _, Nat.zero_le _⟩ dX8_speakBody_132 rfl (fun r10 M9 h => ?_)
    refine zt_aload_n C 0 dX8_speakBody_135 rfl rfl ?_
    refine zt_iconst C (v := 2) dX8_speakBody_136 zk_i2 ?_
    refine zt_iload_n C 2 dX8_speakBody_137 rfl rfl ?_
    refine zt_iload_n C 3 dX8_speakBody_138 rfl rfl ?_
    refine zt_cVi C [.int 2, .int x2, .int x3] (hR_X8_own  h) (za_mem (j := 8) rfl (by decide) (by decide)) (za_E_8 g cy M9 0 0) rfl py_X8_own pv_X8_32 (Nat.le_of_ble_eq_true rfl) ⟨by dsimp only [za_rm]; omega, by dsimp only [za_rm]; omega⟩ ⟨Nat.zero_le _, Nat.zero_le _⟩ dX8_speakBody_139 rfl (fun r12 M11 h => ?_)
    refine zt_ixor C dX8_speakBody_142 ?_
    exact zt_ret C hr hk rfl dX8_speakBody_143 h
  replace h := za_ifn h q8
  by_cases q13 : x1 = 20
  · replace h := za_ifp h q13
    refine zt_lookup C (off := 138) 144 dX8_speakBody_6 (by decide) (by rw [q13]; decide) (by decide) ?_
    refine zt_aload_n C 0 dX8_speakBody_144 rfl rfl ?_
    refine zt_iconst C (v := 1) dX8_speakBody_145 zk_i1 ?_
    refine zt_iconst C (v := 0) dX8_speakBody_146 zk_i0 ?_
    refine zt_iload_n C 2 dX8_speakBody_147 rfl rfl ?_
    refine zt_iload_n C 3 dX8_speakBody_148 rfl rfl ?_
    refine zt_cVi C [.int 1, .int 0, .int x2, .int x3] (hR_X8_above  h) (za_mem (j := 8) rfl (by decide) (by decide)) (za_E_8 g cy M1 0 0) rfl py_X8_above pv_X8_57 (Nat.le_of_ble_eq_true rfl) ⟨by dsimp only [za_rm]; omega, by dsimp only [za_rm]; omega⟩ ⟨Nat.zero_le _, Nat.zero_le _⟩ dX8_speakBody_149 rfl (fun r15 M14 h => ?_)
    refine zt_iconst C (v := 3) dX8_speakBody_152 zk_i3 ?_
    refine zt_imul C dX8_speakBody_153 ?_
    exact zt_ret C hr hk rfl dX8_speakBody_154 h
  replace h := za_ifn h q13
  by_cases q16 : x1 = 30
  · replace h := za_ifp h q16
    refine zt_lookup C (off := 149) 155 dX8_speakBody_6 (by decide) (by rw [q16]; decide) (by decide) ?_
    refine zt_aload_n C 0 dX8_speakBody_155 rfl rfl ?_
    refine zt_iconst C (v := 2) dX8_speakBody_156 zk_i2 ?_
    refine zt_iconst C (v := 1) dX8_speakBody_157 zk_i1 ?_
    refine zt_iload_n C 2 dX8_speakBody_158 rfl rfl ?_
    refine zt_iload_n C 3 dX8_speakBody_159 rfl rfl ?_
    refine zt_cVi C [.int 2, .int 1, .int x2, .int x3] (hR_X8_above  h) (za_mem (j := 8) rfl (by decide) (by decide)) (za_E_8 g cy M1 0 0) rfl py_X8_above pv_X8_57 (Nat.le_of_ble_eq_true rfl) ⟨by dsimp only [za_rm]; omega, by dsimp only [za_rm]; omega⟩ ⟨Nat.zero_le _, Nat.zero_le _⟩ dX8_speakBody_160 rfl (fun r18 M17 h => ?_)
    refine zt_aload_n C 0 dX8_speakBody_163 rfl rfl ?_
    refine zt_iconst C (v := 2) dX8_speakBody_164 zk_i2 ?_
    refine zt_iconst C (v := 1) dX8_speakBody_165 zk_i1 ?_
    refine zt_iload_n C 3 dX8_speakBody_166 rfl rfl ?_
    refine zt_cVi C [.int 2, .int 1, .int x3] (hR_X8_own  h) (za_mem (j := 8) rfl (by decide) (by decide)) (za_E_8 g cy M17 0 0) rfl py_X8_own pv_X8_32 (Nat.le_of_ble_eq_true rfl) ⟨by dsimp only [za_rm]; omega, by dsimp only [za_rm]; omega⟩ ⟨Nat.zero_le _, Nat.zero_le _⟩ dX8_speakBody_167 rfl (fun r20 M19 h => ?_)
    refine zt_isub C dX8_speakBody_170 ?_
    exact zt_ret C hr hk rfl dX8_speakBody_171 h
  replace h := za_ifn h q16
  by_cases q21 : x1 = 40
  · replace h := za_ifp h q21
    refine zt_lookup C (off := 166) 172 dX8_speakBody_6 (by decide) (by rw [q21]; decide) (by decide) ?_
    refine zt_aload_n C 0 dX8_speakBody_172 rfl rfl ?_
    refine zt_iconst C (v := 3) dX8_speakBody_173 zk_i3 ?_
    refine zt_iconst C (v := 2) dX8_speakBody_174 zk_i2 ?_
    refine zt_iload_n C 2 dX8_speakBody_175 rfl rfl ?_
    refine zt_iload_n C 3 dX8_speakBody_176 rfl rfl ?_
    refine zt_cVi C [.int 3, .int 2, .int x2, .int x3] (hR_X8_above  h) (za_mem (j := 8) rfl (by decide) (by decide)) (za_E_8 g cy M1 0 0) rfl py_X8_above pv_X8_57 (Nat.le_of_ble_eq_true rfl) ⟨by dsimp only [za_rm]; omega, by dsimp only [za_rm]; omega⟩ ⟨Nat.zero_le _, Nat.zero_le _⟩ dX8_speakBody_177 rfl (fun r23 M22 h => ?_)
    refine zt_ineg C dX8_speakBody_180 ?_
    exact zt_ret C hr hk rfl dX8_speakBody_181 h
  replace h := za_ifn h q21
  by_cases q24 : x1 = 50
  · replace h := za_ifp h q24
    refine zt_lookup C (off := 176) 182 dX8_speakBody_6 (by decide) (by rw [q24]; decide) (by decide) ?_
    refine zt_aload_n C 0 dX8_speakBody_182 rfl rfl ?_
    refine zt_iconst C (v := 4) dX8_speakBody_183 zk_i4 ?_
    refine zt_iconst C (v := 3) dX8_speakBody_184 zk_i3 ?_
    refine zt_iload_n C 2 dX8_speakBody_185 rfl rfl ?_
    refine zt_iload_n C 3 dX8_speakBody_186 rfl rfl ?_
    refine zt_cVi C [.int 4, .int 3, .int x2, .int x3] (hR_X8_above  h) (za_mem (j := 8) rfl (by decide) (by decide)) (za_E_8 g cy M1 0 0) rfl py_X8_above pv_X8_57 (Nat.le_of_ble_eq_true rfl) ⟨by dsimp only [za_rm]; omega, by dsimp only [za_rm]; omega⟩ ⟨Nat.zero_le _, Nat.zero_le _⟩ dX8_speakBody_187 rfl (fun r26 M25 h => ?_)
    refine zt_aload_n C 0 dX8_speakBody_190 rfl rfl ?_
    refine zt_iconst C (v := 0) dX8_speakBody_191 zk_i0 ?_
    refine zt_iconst C (v := 2) dX8_speakBody_192 zk_i2 ?_
    refine zt_iload_n C 3 dX8_speakBody_193 rfl rfl ?_
    refine zt_cVi C [.int 0, .int 2, .int x3] (hR_X8_own  h) (za_mem (j := 8) rfl (by decide) (by decide)) (za_E_8 g cy M25 0 0) rfl py_X8_own pv_X8_32 (Nat.le_of_ble_eq_true rfl) ⟨by dsimp only [za_rm]; omega, by dsimp only [za_rm]; omega⟩ ⟨Nat.zero_le _, Nat.zero_le _⟩ dX8_speakBody_194 rfl (fun r28 M27 h => ?_)
    refine zt_isub C dX8_speakBody_197 ?_
    exact zt_ret C hr hk rfl dX8_speakBody_198 h
  replace h := za_ifn h q24
  by_cases q29 : x1 = 60
  · replace h := za_ifp h q29
    refine zt_lookup C (off := 193) 199 dX8_speakBody_6 (by decide) (by rw [q29]; decide) (by decide) ?_
    refine zt_aload_n C 0 dX8_speakBody_199 rfl rfl ?_
    refine zt_iconst C (v := 5) dX8_speakBody_200 zk_i5 ?_
    refine zt_iconst C (v := 1) dX8_speakBody_201 zk_i1 ?_
    refine zt_iload_n C 2 dX8_speakBody_202 rfl rfl ?_
    refine zt_iconst C (v := 1) dX8_speakBody_203 zk_i1 ?_
    refine zt_iadd C dX8_speakBody_204 ?_
    refine zt_iload_n C 3 dX8_speakBody_205 rfl rfl ?_
    refine zt_cVi C [.int 5, .int 1, .int (x2 + 1), .int x3] (hR_X8_above  h) (za_mem (j := 8) rfl (by decide) (by decide)) (za_E_8 g cy M1 0 0) rfl py_X8_above pv_X8_57 (Nat.le_of_ble_eq_true rfl) ⟨by dsimp only [za_rm]; omega, by dsimp only [za_rm]; omega⟩ ⟨Nat.zero_le _, Nat.zero_le _⟩ dX8_speakBody_206 rfl (fun r31 M30 h => ?_)
    exact zt_ret C hr hk rfl dX8_speakBody_209 h
  replace h := za_ifn h q29
  by_cases q32 : x1 = 70
  · replace h := za_ifp h q32
    refine zt_lookup C (off := 204) 210 dX8_speakBody_6 (by decide) (by rw [q32]; decide) (by decide) ?_
    refine zt_aload_n C 0 dX8_speakBody_210 rfl rfl ?_
    refine zt_bipush C (v := 6) dX8_speakBody_211 zk_b6 ?_
    refine zt_iconst C (v := 2) dX8_speakBody_213 zk_i2 ?_
    refine zt_iload_n C 2 dX8_speakBody_214 rfl rfl ?_
    refine zt_iload_n C 3 dX8_speakBody_215 rfl rfl ?_
    refine zt_cVi C [.int 6, .int 2, .int x2, .int x3] (hR_X8_above  h) (za_mem (j := 8) rfl (by decide) (by decide)) (za_E_8 g cy M1 0 0) rfl py_X8_above pv_X8_57 (Nat.le_of_ble_eq_true rfl) ⟨by dsimp only [za_rm]; omega, by dsimp only [za_rm]; omega⟩ ⟨Nat.zero_le _, Nat.zero_le _⟩ dX8_speakBody_216 rfl (fun r34 M33 h => ?_)
    refine zt_aload_n C 0 dX8_speakBody_219 rfl rfl ?_
    refine zt_get C (za_mem (j := 8) rfl (by decide) (by decide)) pf_X8_26 (za_E_8 g cy M33 0 0) rfl dX8_speakBody_220 ?_
    refine zt_ixor C dX8_speakBody_223 ?_
    exact zt_ret C hr hk rfl dX8_speakBody_224 h
  replace h := za_ifn h q32
  by_cases q35 : x1 = 71
  · replace h := za_ifp h q35
    refine zt_lookup C (off := 219) 225 dX8_speakBody_6 (by decide) (by rw [q35]; decide) (by decide) ?_
    refine zt_aload_n C 0 dX8_speakBody_225 rfl rfl ?_
    refine zt_iconst C (v := 1) dX8_speakBody_226 zk_i1 ?_
    refine zt_iload_n C 2 dX8_speakBody_227 rfl rfl ?_
    refine zt_iload_n C 3 dX8_speakBody_228 rfl rfl ?_
    refine zt_cVi C [.int 1, .int x2, .int x3] (hR_X8_own  h) (za_mem (j := 8) rfl (by decide) (by decide)) (za_E_8 g cy M1 0 0) rfl py_X8_own pv_X8_32 (Nat.le_of_ble_eq_true rfl) ⟨by dsimp only [za_rm]; omega, by dsimp only [za_rm]; omega⟩ ⟨Nat.zero_le _, Nat.zero_le _⟩ dX8_speakBody_229 rfl (fun r37 M36 h => ?_)
    refine zt_aload_n C 0 dX8_speakBody_232 rfl rfl ?_
    refine zt_bipush C (v := 6) dX8_speakBody_233 zk_b6 ?_
    refine zt_iconst C (v := 3) dX8_speakBody_235 zk_i3 ?_
    refine zt_iload_n C 2 dX8_speakBody_236 rfl rfl ?_
    refine zt_iload_n C 3 dX8_speakBody_237 rfl rfl ?_
    refine zt_cVi C [.int 6, .int 3, .int x2, .int x3] (hR_X8_above  h) (za_mem (j := 8) rfl (by decide) (by decide)) (za_E_8 g cy M36 0 0) rfl py_X8_above pv_X8_57 (Nat.le_of_ble_eq_true rfl) ⟨by dsimp only [za_rm]; omega, by dsimp only [za_rm]; omega⟩ ⟨Nat.zero_le _, Nat.zero_le _⟩ dX8_speakBody_238 rfl (fun r39 M38 h => ?_)
    refine zt_isub C dX8_speakBody_241 ?_
    exact zt_ret C hr hk rfl dX8_speakBody_242 h
  replace h := za_ifn h q35
  refine zt_lookup C (off := 237) 243 dX8_speakBody_6 (by decide) (by show Op.lookupswitch.offset [(10, 98), (11, 105), (12, 115), (13, 122), (20, 138), (30, 149), (40, 166), (50, 176), (60, 193), (70, 204), (71, 219)] 237 _ = _; rw [lv_osw q3 (by decide), lv_osw q4 (by decide), lv_osw q7 (by decide), lv_osw q8 (by decide), lv_osw q13 (by decide), lv_osw q16 (by decide), lv_osw q21 (by decide), lv_osw q24 (by decide), lv_osw q29 (by decide), lv_osw q32 (by decide), lv_osw q35 (by decide)]; rfl) (by decide) ?_
  refine zt_iconst C (v := 0) dX8_speakBody_243 zk_i0 ?_
  exact zt_ret C hr hk rfl dX8_speakBody_244 h
end
theorem mb_X8_speakBody {l : Launch} {g : za_L → Nat} {D : va_G} {cy : Nat → ClassId} {d : Nat} {R_X8_own : Int32 → Int32 → Int32 → za_M → (Int32 → za_M → Prop) → Prop} {R_X8_above : Int32 → Int32 → Int32 → Int32 → za_M → (Int32 → za_M → Prop) → Prop} {R_X8_from : Int32 → Int32 → Int32 → Int32 → za_M → (Int32 → za_M → Prop) → Prop} {R_X8_speakBody : Int32 → Int32 → Int32 → za_M → (Int32 → za_M → Prop) → Prop} (hJ : za_J g) (hR_X8_own : ∀ {x1 : Int32} {x2 : Int32} {x3 : Int32} {M : za_M} {K : Int32 → za_M → Prop}, R_X8_own x1 x2 x3 M K → za_Mi l g D cy yX8_own cX8_own 4 (some .int) (2 + d) (86 + 60 * d) [.ref (g (8, 0, 0)), .int x1, .int x2, .int x3] M K) (hR_X8_above : ∀ {x1 : Int32} {x2 : Int32} {x3 : Int32} {x4 : Int32} {M : za_M} {K : Int32 → za_M → Prop}, R_X8_above x1 x2 x3 x4 M K → za_Mi l g D cy yX8_above cX8_above 5 (some .int) (2 + d) (86 + 60 * d) [.ref (g (8, 0, 0)), .int x1, .int x2, .int x3, .int x4] M K) (hR_X8_from : ∀ {x1 : Int32} {x2 : Int32} {x3 : Int32} {x4 : Int32} {M : za_M} {K : Int32 → za_M → Prop}, R_X8_from x1 x2 x3 x4 M K → za_Mi l g D cy yX8_from cX8_from 8 (some .int) (2 + d) (86 + 60 * d) [.ref (g (8, 0, 0)), .int x1, .int x2, .int x3, .int x4] M K) (hR_X8_speakBody : ∀ {x1 : Int32} {x2 : Int32} {x3 : Int32} {M : za_M} {K : Int32 → za_M → Prop}, R_X8_speakBody x1 x2 x3 M K → za_Mi l g D cy yX8_speakBody cX8_speakBody 4 (some .int) (2 + d) (86 + 60 * d) [.ref (g (8, 0, 0)), .int x1, .int x2, .int x3] M K) {x1 : Int32} {x2 : Int32} {x3 : Int32} {M : za_M} {K : Int32 → za_M → Prop} (h : fb_X8_speakBody R_X8_own R_X8_above R_X8_from R_X8_speakBody x1 x2 x3 M K) : za_Mi l g D cy yX8_speakBody cX8_speakBody 4 (some .int) (2 + (d + 1)) (86 + 60 * (d + 1)) [.ref (g (8, 0, 0)), .int x1, .int x2, .int x3] M K := za_openi hJ (by decide) (Nat.le_of_ble_eq_true rfl) (fun p e s m args below meth c C hr hk => p_X8_speakBody hJ C hr hk hR_X8_own hR_X8_above hR_X8_from hR_X8_speakBody  h)
def fg_X8 : Nat → (Int32 → Int32 → Int32 → za_M → (Int32 → za_M → Prop) → Prop) × (Int32 → Int32 → Int32 → Int32 → za_M → (Int32 → za_M → Prop) → Prop) × (Int32 → Int32 → Int32 → Int32 → za_M → (Int32 → za_M → Prop) → Prop) × (Int32 → Int32 → Int32 → za_M → (Int32 → za_M → Prop) → Prop)
  | 0 => (fun _ _ _ _ _ => False, fun _ _ _ _ _ _ => False, fun _ _ _ _ _ _ => False, fun _ _ _ _ _ => False)
  | d+1 => (fb_X8_own ((fg_X8 d).1) ((fg_X8 d).2.1) ((fg_X8 d).2.2.1) ((fg_X8 d).2.2.2), fb_X8_above ((fg_X8 d).1) ((fg_X8 d).2.1) ((fg_X8 d).2.2.1) ((fg_X8 d).2.2.2), fb_X8_from ((fg_X8 d).1) ((fg_X8 d).2.1) ((fg_X8 d).2.2.1) ((fg_X8 d).2.2.2), fb_X8_speakBody ((fg_X8 d).1) ((fg_X8 d).2.1) ((fg_X8 d).2.2.1) ((fg_X8 d).2.2.2))
def f_X8_own (d : Nat) : Int32 → Int32 → Int32 → za_M → (Int32 → za_M → Prop) → Prop := (fg_X8 d).1
def f_X8_above (d : Nat) : Int32 → Int32 → Int32 → Int32 → za_M → (Int32 → za_M → Prop) → Prop := (fg_X8 d).2.1
def f_X8_from (d : Nat) : Int32 → Int32 → Int32 → Int32 → za_M → (Int32 → za_M → Prop) → Prop := (fg_X8 d).2.2.1
def f_X8_speakBody (d : Nat) : Int32 → Int32 → Int32 → za_M → (Int32 → za_M → Prop) → Prop := (fg_X8 d).2.2.2
set_option maxHeartbeats 4000000 in
theorem mg_X8 {l : Launch} {g : za_L → Nat} {D : va_G} {cy : Nat → ClassId} (hJ : za_J g) : ∀ d : Nat, (∀ {x1 : Int32} {x2 : Int32} {x3 : Int32} {M : za_M} {K : Int32 → za_M → Prop}, ((fg_X8 d).1) x1 x2 x3 M K → za_Mi l g D cy yX8_own cX8_own 4 (some .int) (2 + d) (86 + 60 * d) [.ref (g (8, 0, 0)), .int x1, .int x2, .int x3] M K) ∧ (∀ {x1 : Int32} {x2 : Int32} {x3 : Int32} {x4 : Int32} {M : za_M} {K : Int32 → za_M → Prop}, ((fg_X8 d).2.1) x1 x2 x3 x4 M K → za_Mi l g D cy yX8_above cX8_above 5 (some .int) (2 + d) (86 + 60 * d) [.ref (g (8, 0, 0)), .int x1, .int x2, .int x3, .int x4] M K) ∧ (∀ {x1 : Int32} {x2 : Int32} {x3 : Int32} {x4 : Int32} {M : za_M} {K : Int32 → za_M → Prop}, ((fg_X8 d).2.2.1) x1 x2 x3 x4 M K → za_Mi l g D cy yX8_from cX8_from 8 (some .int) (2 + d) (86 + 60 * d) [.ref (g (8, 0, 0)), .int x1, .int x2, .int x3, .int x4] M K) ∧ (∀ {x1 : Int32} {x2 : Int32} {x3 : Int32} {M : za_M} {K : Int32 → za_M → Prop}, ((fg_X8 d).2.2.2) x1 x2 x3 M K → za_Mi l g D cy yX8_speakBody cX8_speakBody 4 (some .int) (2 + d) (86 + 60 * d) [.ref (g (8, 0, 0)), .int x1, .int x2, .int x3] M K) := by
  intro d
  induction d with
  | zero => exact ⟨fun h => h.elim, fun h => h.elim, fun h => h.elim, fun h => h.elim⟩
  | succ d ih => exact ⟨fun h => mb_X8_own hJ (ih.1) (ih.2.1) (ih.2.2.1) (ih.2.2.2)  h, fun h => mb_X8_above hJ (ih.1) (ih.2.1) (ih.2.2.1) (ih.2.2.2)  h, fun h => mb_X8_from hJ (ih.1) (ih.2.1) (ih.2.2.1) (ih.2.2.2)  h, fun h => mb_X8_speakBody hJ (ih.1) (ih.2.1) (ih.2.2.1) (ih.2.2.2)  h⟩
theorem m_X8_own {l : Launch} {g : za_L → Nat} {D : va_G} {cy : Nat → ClassId} (hJ : za_J g) {x1 : Int32} {x2 : Int32} {x3 : Int32} {M : za_M} {K : Int32 → za_M → Prop} (h : f_X8_own 100 x1 x2 x3 M K) : za_Mi l g D cy yX8_own cX8_own 4 (some .int) 102 6086 [.ref (g (8, 0, 0)), .int x1, .int x2, .int x3] M K := (mg_X8 hJ 100).1  h
theorem m_X8_above {l : Launch} {g : za_L → Nat} {D : va_G} {cy : Nat → ClassId} (hJ : za_J g) {x1 : Int32} {x2 : Int32} {x3 : Int32} {x4 : Int32} {M : za_M} {K : Int32 → za_M → Prop} (h : f_X8_above 100 x1 x2 x3 x4 M K) : za_Mi l g D cy yX8_above cX8_above 5 (some .int) 102 6086 [.ref (g (8, 0, 0)), .int x1, .int x2, .int x3, .int x4] M K := (mg_X8 hJ 100).2.1  h
theorem m_X8_from {l : Launch} {g : za_L → Nat} {D : va_G} {cy : Nat → ClassId} (hJ : za_J g) {x1 : Int32} {x2 : Int32} {x3 : Int32} {x4 : Int32} {M : za_M} {K : Int32 → za_M → Prop} (h : f_X8_from 100 x1 x2 x3 x4 M K) : za_Mi l g D cy yX8_from cX8_from 8 (some .int) 102 6086 [.ref (g (8, 0, 0)), .int x1, .int x2, .int x3, .int x4] M K := (mg_X8 hJ 100).2.2.1  h
theorem m_X8_speakBody {l : Launch} {g : za_L → Nat} {D : va_G} {cy : Nat → ClassId} (hJ : za_J g) {x1 : Int32} {x2 : Int32} {x3 : Int32} {M : za_M} {K : Int32 → za_M → Prop} (h : f_X8_speakBody 100 x1 x2 x3 M K) : za_Mi l g D cy yX8_speakBody cX8_speakBody 4 (some .int) 102 6086 [.ref (g (8, 0, 0)), .int x1, .int x2, .int x3] M K := (mg_X8 hJ 100).2.2.2  h
/-! X8_speak -/
def f_X8_speak (c1 : Nat) (i1 : Nat) (x2 : Int32) (x3 : Int32) (x4 : Int32) (M : za_M) (K : Int32 → za_M → Prop) : Prop :=
  za_let (M.1 (3, c1, i1) 0) fun y1 => za_let (za_up M (8, 0, 0) 2 y1) fun M3 => za_let (M3.1 (3, c1, i1) 1) fun y5 => za_let (za_up M3 (8, 0, 0) 4 y5) fun M7 => za_let (za_up M7 (8, 0, 0) 3 x2) fun M9 => za_let (za_up M9 (8, 0, 0) 1 0) fun M11 => f_X8_own 100 x3 x4 0 M11 (fun r14 M13 => K r14 M13)
section
variable {p : Program} {l : Launch} {e : Env} {s : State} {m : MethodId} {args : Array Value} {below : List Frame} {meth : Method} {c : Code} {g : za_L → Nat} {D : va_G} {cy : Nat → ClassId} {K : Int32 → za_M → Prop}
set_option maxRecDepth 100000 in
set_option maxHeartbeats 4000000 in
theorem p_X8_speak (hJ : za_J g) (C : za_C p s m args c cX8_speak 5 RX8 g D cy) (hr : meth.sig.returnType = (some .int)) (hk : meth.locks = false) {c1 : Nat} (hc1 : c1 < 3) {i1 : Nat} (hi1 : i1 < 5) {x2 : Int32} {x3 : Int32} {x4 : Int32} {M : za_M} (h : f_X8_speak c1 i1 x2 x3 x4 M K) : zt p l e (za_rm 103 6109) s m args below meth c 0 0 (MQ below (za_Qi g D cy K) args s 0 0 (za_A g)) g D cy 5 M 0 [(0, .ref (g (8, 0, 0))), (1, .ref (g (3, c1, i1))), (2, .int x2), (3, .int x3), (4, .int x4)] [] := by
  unfold f_X8_speak at h
  refine zt_aload_n C 0 dX8_speak_0 rfl rfl ?_
  refine zt_aload_n C 1 dX8_speak_1 rfl rfl ?_
  refine zt_get C (za_mem (j := 3) rfl hc1 hi1) pf_X8_15 (za_E_3 g cy M c1 i1) rfl dX8_speak_2 ?_
  refine zt_topi (fun y1 e2 => ?_)
  replace h := za_use h e2
  refine zt_put C (za_mem (j := 8) rfl (by decide) (by decide)) pf_X8_21 pt_X8_2 rfl rfl (za_E_8 g cy M 0 0) rfl (Nat.le_of_ble_eq_true rfl) dX8_speak_5 ?_
  refine zt_topM (fun M3 e4 => ?_)
  replace h := za_use h e4
  refine zt_aload_n C 0 dX8_speak_8 rfl rfl ?_
  refine zt_aload_n C 1 dX8_speak_9 rfl rfl ?_
  refine zt_get C (za_mem (j := 3) rfl hc1 hi1) pf_X8_22 (za_E_3 g cy M3 c1 i1) rfl dX8_speak_10 ?_
  refine zt_topi (fun y5 e6 => ?_)
  replace h := za_use h e6
  refine zt_put C (za_mem (j := 8) rfl (by decide) (by decide)) pf_X8_25 pt_X8_4 rfl rfl (za_E_8 g cy M3 0 0) rfl (Nat.le_of_ble_eq_true rfl) dX8_speak_13 ?_
  refine zt_topM (fun M7 e8 => ?_)
  replace h := za_use h e8
  refine zt_aload_n C 0 dX8_speak_16 rfl rfl ?_
  refine zt_iload_n C 2 dX8_speak_17 rfl rfl ?_
  refine zt_put C (za_mem (j := 8) rfl (by decide) (by decide)) pf_X8_26 pt_X8_3 rfl rfl (za_E_8 g cy M7 0 0) rfl (Nat.le_of_ble_eq_true rfl) dX8_speak_18 ?_
  refine zt_topM (fun M9 e10 => ?_)
  replace h := za_use h e10
  refine zt_aload_n C 0 dX8_speak_21 rfl rfl ?_
  refine zt_iconst C (v := 0) dX8_speak_22 zk_i0 ?_
  refine zt_put C (za_mem (j := 8) rfl (by decide) (by decide)) pf_X8_29 pt_X8_1 rfl rfl (za_E_8 g cy M9 0 0) rfl (Nat.le_of_ble_eq_true rfl) dX8_speak_23 ?_
  refine zt_topM (fun M11 e12 => ?_)
  replace h := za_use h e12
  refine zt_aload_n C 0 dX8_speak_26 rfl rfl ?_
  refine zt_iload_n C 3 dX8_speak_27 rfl rfl ?_
  refine zt_iload C 4 dX8_speak_28 rfl ?_
  refine zt_iconst C (v := 0) dX8_speak_30 zk_i0 ?_
  refine zt_cVi C [.int x3, .int x4, .int 0] (m_X8_own hJ  h) (za_mem (j := 8) rfl (by decide) (by decide)) (za_E_8 g cy M11 0 0) rfl py_X8_own pv_X8_32 (Nat.le_of_ble_eq_true rfl) ⟨Nat.le_of_ble_eq_true rfl, Nat.le_of_ble_eq_true rfl⟩ ⟨Nat.zero_le _, Nat.zero_le _⟩ dX8_speak_31 rfl (fun r14 M13 h => ?_)
  exact zt_ret C hr hk rfl dX8_speak_34 h
end
theorem m_X8_speak {l : Launch} {g : za_L → Nat} {D : va_G} {cy : Nat → ClassId} (hJ : za_J g)  {c1 : Nat} (hc1 : c1 < 3) {i1 : Nat} (hi1 : i1 < 5) {x2 : Int32} {x3 : Int32} {x4 : Int32} {M : za_M} {K : Int32 → za_M → Prop} (h : f_X8_speak c1 i1 x2 x3 x4 M K) : za_Mi l g D cy yX8_speak cX8_speak 5 (some .int) 103 6109 [.ref (g (8, 0, 0)), .ref (g (3, c1, i1)), .int x2, .int x3, .int x4] M K := za_openi hJ (by decide) (Nat.le_of_ble_eq_true rfl) (fun p e s m args below meth c C hr hk => p_X8_speak hJ C hr hk hc1 hi1 h)
/-! X9_isKindAndNumber -/
def f_X9_isKindAndNumber (x0 : Int32) (M : za_M) (K : Int32 → za_M → Prop) : Prop :=
  f_X9_within x0 0 69 M (fun r2 M1 => za_B r2 ∧ (K r2 M1))
section
variable {p : Program} {l : Launch} {e : Env} {s : State} {m : MethodId} {args : Array Value} {below : List Frame} {meth : Method} {c : Code} {g : za_L → Nat} {D : va_G} {cy : Nat → ClassId} {K : Int32 → za_M → Prop}
set_option maxRecDepth 100000 in
set_option maxHeartbeats 4000000 in
theorem p_X9_isKindAndNumber (hJ : za_J g) (C : za_C p s m args c cX9_isKindAndNumber 1 RX9 g D cy) (hr : meth.sig.returnType = (some .boolean)) (hk : meth.locks = false) {x0 : Int32} {M : za_M} (h : f_X9_isKindAndNumber x0 M K) : zt p l e (za_rm 2 86) s m args below meth c 0 0 (MQ below (za_Qi g D cy K) args s 0 0 (za_A g)) g D cy 1 M 0 [(0, .int x0)] [] := by
  unfold f_X9_isKindAndNumber at h
  refine zt_iload_n C 0 dX9_isKindAndNumber_0 rfl rfl ?_
  refine zt_iconst C (v := 0) dX9_isKindAndNumber_1 zk_i0 ?_
  refine zt_bipush C (v := 69) dX9_isKindAndNumber_2 zk_b69 ?_
  refine zt_cSi C [.int x0, .int 0, .int 69] (m_X9_within hJ  h) py_X9_within ps_X9_100 (Nat.le_of_ble_eq_true rfl) ⟨Nat.le_of_ble_eq_true rfl, Nat.le_of_ble_eq_true rfl⟩ ⟨Nat.zero_le _, Nat.zero_le _⟩ dX9_isKindAndNumber_4 rfl (fun r2 M1 h => ?_)
  obtain ⟨g3, h⟩ := h
  exact zt_ret C hr hk (za_Bn g3) dX9_isKindAndNumber_7 h
end
theorem m_X9_isKindAndNumber {l : Launch} {g : za_L → Nat} {D : va_G} {cy : Nat → ClassId} (hJ : za_J g)  {x0 : Int32} {M : za_M} {K : Int32 → za_M → Prop} (h : f_X9_isKindAndNumber x0 M K) : za_Mi l g D cy yX9_isKindAndNumber cX9_isKindAndNumber 1 (some .boolean) 2 86 [.int x0] M K := za_openi hJ (by decide) (Nat.le_of_ble_eq_true rfl) (fun p e s m args below meth c C hr hk => p_X9_isKindAndNumber hJ C hr hk  h)
/-! X9_fail -/
def f_X9_fail (x1 : Int32) (M : za_M) (K : Int32 → za_M → Prop) : Prop :=
  f_X9_within x1 1 5 M (fun r2 M1 => if r2 = 0 then (K ((-1000000000) - x1) M1) else (vp_in x1 6 ∧ (za_let ((M1.1 (24, 0, 0) x1.toNatClampNeg) + 1) fun y5 => vp_in x1 6 ∧ (za_let (za_up M1 (24, 0, 0) x1.toNatClampNeg y5) fun M8 => K ((-1000000000) - x1) M8))))
section
variable {p : Program} {l : Launch} {e : Env} {s : State} {m : MethodId} {args : Array Value} {below : List Frame} {meth : Method} {c : Code} {g : za_L → Nat} {D : va_G} {cy : Nat → ClassId} {K : Int32 → za_M → Prop}
set_option maxRecDepth 100000 in
set_option maxHeartbeats 4000000 in
theorem p_X9_fail (hJ : za_J g) (C : za_C p s m args c cX9_fail 2 RX9 g D cy) (hr : meth.sig.returnType = (some .int)) (hk : meth.locks = false) {x1 : Int32} {M : za_M} (h : f_X9_fail x1 M K) : zt p l e (za_rm 2 86) s m args below meth c 0 0 (MQ below (za_Qi g D cy K) args s 0 0 (za_A g)) g D cy 2 M 0 [(0, .ref (g (0, 0, 0))), (1, .int x1)] [] := by
  unfold f_X9_fail at h
  refine zt_iload_n C 1 dX9_fail_0 rfl rfl ?_
  refine zt_iconst C (v := 1) dX9_fail_1 zk_i1 ?_
  refine zt_iconst C (v := 5) dX9_fail_2 zk_i5 ?_
  refine zt_cSi C [.int x1, .int 1, .int 5] (m_X9_within hJ  h) py_X9_within ps_X9_100 (Nat.le_of_ble_eq_true rfl) ⟨Nat.le_of_ble_eq_true rfl, Nat.le_of_ble_eq_true rfl⟩ ⟨Nat.zero_le _, Nat.zero_le _⟩ dX9_fail_3 rfl (fun r2 M1 h => ?_)
  refine zt_if_eq C 19 dX9_fail_6 (by decide) (fun q3 => ?_) (fun q3 => ?_)
  · replace h := za_ifp h q3
    refine zt_ldcw C w_398 dX9_fail_19 ?_
    refine zt_iload_n C 1 dX9_fail_22 rfl rfl ?_
    refine zt_isub C dX9_fail_23 ?_
    exact zt_ret C hr hk rfl dX9_fail_24 h
  · replace h := za_ifn h q3
    refine zt_aload_n C 0 dX9_fail_9 rfl rfl ?_
    refine zt_get C (za_mem (j := 0) rfl (by decide) (by decide)) pf_X9_46 (za_E_0 g cy M1 0 0) rfl dX9_fail_10 ?_
    refine zt_iload_n C 1 dX9_fail_13 rfl rfl ?_
    refine zt_dup2_11 C dX9_fail_14 rfl rfl ?_
    obtain ⟨g4, h⟩ := h
    refine zt_iald C (za_mem (j := 24) rfl (by decide) (by decide)) (fun W9 => za_E_24 g cy W9 0 0) g4 dX9_fail_15 ?_
    refine zt_iconst C (v := 1) dX9_fail_16 zk_i1 ?_
    refine zt_iadd C dX9_fail_17 ?_
    refine zt_topi (fun y5 e6 => ?_)
    replace h := za_use h e6
    obtain ⟨g7, h⟩ := h
    refine zt_iast C (za_mem (j := 24) rfl (by decide) (by decide)) (fun W9 => za_E_24 g cy W9 0 0) g7 dX9_fail_18 ?_
    refine zt_topM (fun M8 e9 => ?_)
    replace h := za_use h e9
    refine zt_ldcw C w_398 dX9_fail_19 ?_
    refine zt_iload_n C 1 dX9_fail_22 rfl rfl ?_
    refine zt_isub C dX9_fail_23 ?_
    exact zt_ret C hr hk rfl dX9_fail_24 h
end
theorem m_X9_fail {l : Launch} {g : za_L → Nat} {D : va_G} {cy : Nat → ClassId} (hJ : za_J g)  {x1 : Int32} {M : za_M} {K : Int32 → za_M → Prop} (h : f_X9_fail x1 M K) : za_Mi l g D cy yX9_fail cX9_fail 2 (some .int) 2 86 [.ref (g (0, 0, 0)), .int x1] M K := za_openi hJ (by decide) (Nat.le_of_ble_eq_true rfl) (fun p e s m args below meth c C hr hk => p_X9_fail hJ C hr hk  h)

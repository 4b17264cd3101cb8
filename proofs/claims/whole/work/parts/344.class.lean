/-! constructors: the class -/
theorem v_oX9 : Cond.methodLink RX9 1 Lib.objectInit ∈ lw_gd := za_gd 98 (by decide +kernel) rfl
theorem v_cX9_7 : Cond.classLink RX9 7 RX7 ∈ lw_gd := za_gd 101 (by decide +kernel) rfl
theorem v_nX7 : Cond.instantiable RX7 7 ∈ lw_gd := za_gd 102 (by decide +kernel) rfl
theorem v_iX7 : Cond.initialized RX7 ∈ lw_gd := za_gd 76 (by decide +kernel) rfl
theorem v_lX9_9 : Cond.methodLink RX9 9 yX7_init ∈ lw_gd := za_gd 103 (by decide +kernel) rfl
theorem v_kX7 : Cond.code yX7_init cX7_init 2 none ∈ lw_gd := za_gd 105 (by decide +kernel) rfl
theorem vy_X7 : za_Y yX7_init cX7_init 2 none 0 := ⟨v_kX7, v_iX7, by decide +kernel⟩
theorem v_mX7 : Cond.instanceMethod yX7_init ∈ lw_gd := za_gd 104 (by decide +kernel) rfl
theorem vt_X9_0 : zn_FT 0 10 TX9 (.object RX7) true := ⟨rfl, by decide +kernel, ⟨tyX9, tyX9_ok⟩, nmX9⟩
theorem vt_X9_1 : zn_FT 1 10 TX9 (.object RX7) true := ⟨rfl, by decide +kernel, ⟨tyX9, tyX9_ok⟩, nmX9⟩
theorem v_cX9_19 : Cond.classLink RX9 19 RX1 ∈ lw_gd := za_gd 279 (by decide +kernel) rfl
theorem v_lX9_21 : Cond.methodLink RX9 21 yX1_init ∈ lw_gd := za_gd 280 (by decide +kernel) rfl
theorem vt_X9_2 : zn_FT 2 10 TX9 (.object RX1) true := ⟨rfl, by decide +kernel, ⟨tyX9, tyX9_ok⟩, nmX9⟩
theorem v_cX9_26 : Cond.classLink RX9 26 RX5 ∈ lw_gd := za_gd 281 (by decide +kernel) rfl
theorem v_nX5 : Cond.instantiable RX5 6 ∈ lw_gd := za_gd 282 (by decide +kernel) rfl
theorem v_iX5 : Cond.initialized RX5 ∈ lw_gd := za_gd 82 (by decide +kernel) rfl
theorem v_kX5 : Cond.code yX5_init cX5_init 1 none ∈ lw_gd := za_gd 285 (by decide +kernel) rfl
theorem vy_X5 : za_Y yX5_init cX5_init 1 none 0 := ⟨v_kX5, v_iX5, by decide +kernel⟩
theorem v_mX5 : Cond.instanceMethod yX5_init ∈ lw_gd := za_gd 284 (by decide +kernel) rfl
theorem vt_X9_3 : zn_FT 3 10 TX9 (.object RX5) true := ⟨rfl, by decide +kernel, ⟨tyX9, tyX9_ok⟩, nmX9⟩
theorem v_cX9_33 : Cond.classLink RX9 33 RX8 ∈ lw_gd := za_gd 309 (by decide +kernel) rfl
theorem v_nX8 : Cond.instantiable RX8 5 ∈ lw_gd := za_gd 310 (by decide +kernel) rfl
theorem v_iX8 : Cond.initialized RX8 ∈ lw_gd := za_gd 83 (by decide +kernel) rfl
theorem v_kX8 : Cond.code yX8_init cX8_init 1 none ∈ lw_gd := za_gd 313 (by decide +kernel) rfl
theorem vy_X8 : za_Y yX8_init cX8_init 1 none 0 := ⟨v_kX8, v_iX8, by decide +kernel⟩
theorem v_mX8 : Cond.instanceMethod yX8_init ∈ lw_gd := za_gd 312 (by decide +kernel) rfl
theorem vt_X9_4 : zn_FT 4 10 TX9 (.object RX8) true := ⟨rfl, by decide +kernel, ⟨tyX9, tyX9_ok⟩, nmX9⟩
theorem v_cX9_40 : Cond.classLink RX9 40 RX6 ∈ lw_gd := za_gd 333 (by decide +kernel) rfl
theorem vt_X9_5 : zn_FT 5 10 TX9 (.array (.object RX6)) true := ⟨rfl, by decide +kernel, ⟨tyX9, tyX9_ok⟩, nmX9⟩
theorem vt_X9_6 : zn_FT 6 10 TX9 (.array .int) true := ⟨rfl, by decide +kernel, ⟨tyX9, tyX9_ok⟩, nmX9⟩
theorem vt_X9_7 : zn_FT 7 10 TX9 (.array .int) true := ⟨rfl, by decide +kernel, ⟨tyX9, tyX9_ok⟩, nmX9⟩
theorem vt_X9_8 : zn_FT 8 10 TX9 (.array .int) true := ⟨rfl, by decide +kernel, ⟨tyX9, tyX9_ok⟩, nmX9⟩
theorem v_nX6 : Cond.instantiable RX6 3 ∈ lw_gd := za_gd 335 (by decide +kernel) rfl
theorem v_iX6 : Cond.initialized RX6 ∈ lw_gd := za_gd 84 (by decide +kernel) rfl
theorem v_kX6 : Cond.code yX6_init cX6_init 1 none ∈ lw_gd := za_gd 338 (by decide +kernel) rfl
theorem vy_X6 : za_Y yX6_init cX6_init 1 none 0 := ⟨v_kX6, v_iX6, by decide +kernel⟩
theorem v_mX6 : Cond.instanceMethod yX6_init ∈ lw_gd := za_gd 337 (by decide +kernel) rfl
def zAn : List za_L := (1, 0, 0) :: (zSn 0 ++ ((1, 1, 0) :: (zSn 1 ++ ((2, 2, 0) :: (zCn 2 ++ [(7, 0, 0), (19, 0, 0), (20, 0, 0), (8, 0, 0), (21, 0, 0), (22, 0, 0), (24, 0, 0), (25, 0, 0), (26, 0, 0), (9, 0, 0), (23, 0, 0), (9, 0, 1), (23, 0, 1), (9, 0, 2), (23, 0, 2), (9, 0, 3), (23, 0, 3)])))))
def zgS (g : za_L → Nat) (c : Nat) (a : za_L → Nat) : Prop := (∀ i, g (3, c, i) = a (3, 0, i)) ∧ (∀ i, g (4, c, i) = a (4, 0, i)) ∧ (∀ i, g (5, c, i) = a (5, 0, i)) ∧ (∀ i, g (6, c, i) = a (6, 0, i)) ∧ (∀ i, g (10, c, i) = a (10, 0, i)) ∧ (∀ i, g (11, c, i) = a (11, 0, i)) ∧ (∀ i, g (12, c, i) = a (12, 0, i)) ∧ (∀ i, g (13, c, i) = a (13, 0, i)) ∧ (∀ i, g (14, c, i) = a (14, 0, i)) ∧ (∀ i, g (15, c, i) = a (15, 0, i)) ∧ (∀ i, g (16, c, i) = a (16, 0, i)) ∧ (∀ i, g (17, c, i) = a (17, 0, i)) ∧ (∀ i, g (18, c, i) = a (18, 0, i))
def zgC (g : za_L → Nat) (c : Nat) (a : za_L → Nat) : Prop := (∀ i, g (3, c, i) = a (3, 0, i)) ∧ (∀ i, g (4, c, i) = a (4, 0, i)) ∧ (∀ i, g (5, c, i) = a (5, 0, i)) ∧ (∀ i, g (10, c, i) = a (10, 0, i)) ∧ (∀ i, g (11, c, i) = a (11, 0, i)) ∧ (∀ i, g (12, c, i) = a (12, 0, i)) ∧ (∀ i, g (13, c, i) = a (13, 0, i))
set_option maxRecDepth 100000 in
theorem zn_sC {cy : Nat → ClassId} {g a : za_L → Nat} {c k : Nat} (e : g (2, c, 0) = k) (h : zgC g c a) : ((k, za_E a cy zMz (2, 0, 0)) :: (zCn 0).map fun x => (a x, za_E a cy zMz x)) = ((2, c, 0) :: zCn c).map fun x => (g x, za_E g cy zMz x) := by
  obtain ⟨h3, h4, h5, h10, h11, h12, h13⟩ := h
  unfold zCn
  simp only [List.map_cons, List.map_nil, za_E_2, za_E_3, za_E_4, za_E_5, za_E_10, za_E_11, za_E_12, za_E_13, e, h3, h4, h5, h10, h11, h12, h13]
  try rfl
set_option maxRecDepth 100000 in
theorem zn_sS {cy : Nat → ClassId} {g a : za_L → Nat} {c k : Nat} (e : g (1, c, 0) = k) (e2 : g (2, c, 0) = a (2, 0, 0)) (h : zgS g c a) : ((k, za_E a cy zMz (1, 0, 0)) :: (zSn 0).map fun x => (a x, za_E a cy zMz x)) = ((1, c, 0) :: zSn c).map fun x => (g x, za_E g cy zMz x) := by
  obtain ⟨h3, h4, h5, h6, h10, h11, h12, h13, h14, h15, h16, h17, h18⟩ := h
  unfold zSn zCn
  simp only [List.map_cons, List.map_nil, List.cons_append, List.nil_append, za_E_1, za_E_2, za_E_3, za_E_4, za_E_5, za_E_6, za_E_10, za_E_11, za_E_12, za_E_13, za_E_14, za_E_15, za_E_16, za_E_17, za_E_18, e, e2, h3, h4, h5, h6, h10, h11, h12, h13, h14, h15, h16, h17, h18]
  try rfl
set_option maxRecDepth 100000 in
theorem zA_out {cy : Nat → ClassId} {g a0 a1 a2 ar av as0 as1 as2 as3 : za_L → Nat} {h0 s0 s1 k2 rd vo sh er sd lm h1 h2 h3 h4 : Nat} (e1 : g (1, 0, 0) = s0) (e2 : g (1, 1, 0) = s1) (hS0 : zgS g 0 a0) (hS1 : zgS g 1 a1) (e3 : g (2, 2, 0) = k2) (hC2 : zgC g 2 a2) (hT : g (7, 0, 0) = rd ∧ g (19, 0, 0) = ar (19, 0, 0) ∧ g (20, 0, 0) = ar (20, 0, 0) ∧ g (8, 0, 0) = vo ∧ g (21, 0, 0) = av (21, 0, 0) ∧ g (22, 0, 0) = sh ∧ g (24, 0, 0) = er ∧ g (25, 0, 0) = sd ∧ g (26, 0, 0) = lm) (hH : g (9, 0, 0) = h1 ∧ g (23, 0, 0) = as0 (23, 0, 0) ∧ g (9, 0, 1) = h2 ∧ g (23, 0, 1) = as1 (23, 0, 0) ∧ g (9, 0, 2) = h3 ∧ g (23, 0, 2) = as2 (23, 0, 0) ∧ g (9, 0, 3) = h4 ∧ g (23, 0, 3) = as3 (23, 0, 0)) (f0 : g (2, 0, 0) = a0 (2, 0, 0) := by rfl) (f1 : g (2, 1, 0) = a1 (2, 0, 0) := by rfl) : ((h0, .inr (9, [.ref s0, .ref s1, .ref k2, .ref rd, .ref vo, .ref sh, .ref er, .ref sd, .ref lm, .int 0])) :: ((((s0, za_E a0 cy zMz (1, 0, 0)) :: (zSn 0).map fun x => (a0 x, za_E a0 cy zMz x)) ++ (((s1, za_E a1 cy zMz (1, 0, 0)) :: (zSn 0).map fun x => (a1 x, za_E a1 cy zMz x)) ++ (((k2, za_E a2 cy zMz (2, 0, 0)) :: (zCn 0).map fun x => (a2 x, za_E a2 cy zMz x)) ++ ([(rd, .inr (5, [.ref (ar (19, 0, 0)), .ref (ar (20, 0, 0)), .int 0, .int 0, .int 0, .int 0])), (ar (19, 0, 0), zeI cy 50), (ar (20, 0, 0), zeI cy 50)] ++ [(vo, .inr (8, [.ref (av (21, 0, 0)), .int 0, .int 0, .int 0, .int 0])), (av (21, 0, 0), zeI cy 40)])))) ++ [(sh, zeR cy 5 4 (fun j => some (g (9, 0, j)))), (er, zeI cy 6), (sd, zeI cy 5), (lm, zeI cy 5), (h1, .inr (6, [.ref (as0 (23, 0, 0)), .int 0, .int 0])), (as0 (23, 0, 0), zeI cy 40), (h2, .inr (6, [.ref (as1 (23, 0, 0)), .int 0, .int 0])), (as1 (23, 0, 0), zeI cy 40), (h3, .inr (6, [.ref (as2 (23, 0, 0)), .int 0, .int 0])), (as2 (23, 0, 0), zeI cy 40), (h4, .inr (6, [.ref (as3 (23, 0, 0)), .int 0, .int 0])), (as3 (23, 0, 0), zeI cy 40)])) = (h0, za_E g cy zMz (0, 0, 0)) :: zAn.map fun x => (g x, za_E g cy zMz x) := by
  obtain ⟨t1, t2, t3, t4, t5, t6, t7, t8, t9⟩ := hT
  obtain ⟨u1, u2, u3, u4, u5, u6, u7, u8⟩ := hH
  rw [zn_sS e1 f0 hS0, zn_sS e2 f1 hS1, zn_sC e3 hC2]
  unfold zAn
  simp only [List.map_cons, List.map_append, List.cons_append, List.nil_append, List.append_assoc, List.map_nil, za_E_0, za_E_7, za_E_8, za_E_9, za_E_19, za_E_20, za_E_21, za_E_22, za_E_23, za_E_24, za_E_25, za_E_26, t1, t2, t3, t4, t5, t6, t7, t8, t9, u1, u2, u3, u4, u5, u6, u7, u8, e1, e2, e3]
  try rfl
theorem zl_atY (x y : Nat × va_E) (Y Z : va_W) : (x :: (Y ++ y :: Z))[Y.length + 1]? = some y := by simp
theorem zl_atY2 (x : Nat × va_E) (Y Z : va_W) (k : Nat) : (x :: (Y ++ Z))[Y.length + 1 + k]? = Z[k]? := by
  rw [show Y.length + 1 + k = (Y.length + k) + 1 by omega, List.getElem?_cons_succ, List.getElem?_append_right (by omega), Nat.add_sub_cancel_left]
theorem zl_setY (x y y' : Nat × va_E) (Y Z : va_W) : (x :: (Y ++ y :: Z)).set (Y.length + 1) y' = x :: (Y ++ y' :: Z) := by simp
set_option maxRecDepth 100000 in
set_option maxHeartbeats 4000000 in
theorem n_X9_loop {l : Launch} {sa : Nat → Nat} {D : va_G} {cy : Nat → ClassId} {p : Program} {e : Env} {s : State} {m : MethodId} {args : Array Value} {below : List Frame} {meth : Method} {c : Code} {A : Nat → Prop} {Q : State → Prop} (C : zn_C p s m args c cX9_init 2 yX9_init.cls sa D cy A) {h0 s0 s1 k2 rd vo sh er sd lm : Nat} (Y : va_W) (kk : ∀ (h1 h2 h3 h4 : Nat) (as0 as1 as2 as3 : za_L → Nat), zn p l e { frames := 4, cells := 118, slots := 1301, locals := 96 } s m args below meth c A Q D 2 ((h0, .inr (9, [.ref s0, .ref s1, .ref k2, .ref rd, .ref vo, .ref sh, .ref er, .ref sd, .ref lm, .int 0])) :: (Y ++ [(sh, zeR cy 5 4 (va_up (va_up (va_up (va_up (fun _ => none) 0 (some h1)) 1 (some h2)) 2 (some h3)) 3 (some h4))), (er, zeI cy 6), (sd, zeI cy 5), (lm, zeI cy 5), (h1, .inr (6, [.ref (as0 (23, 0, 0)), .int 0, .int 0])), (as0 (23, 0, 0), zeI cy 40), (h2, .inr (6, [.ref (as1 (23, 0, 0)), .int 0, .int 0])), (as1 (23, 0, 0), zeI cy 40), (h3, .inr (6, [.ref (as2 (23, 0, 0)), .int 0, .int 0])), (as2 (23, 0, 0), zeI cy 40), (h4, .inr (6, [.ref (as3 (23, 0, 0)), .int 0, .int 0])), (as3 (23, 0, 0), zeI cy 40)])) 115 [(0, .ref h0), (1, .int (nI 4))] [] 118 1301) : zn p l e { frames := 4, cells := 118, slots := 1301, locals := 96 } s m args below meth c A Q D 2 ((h0, .inr (9, [.ref s0, .ref s1, .ref k2, .ref rd, .ref vo, .ref sh, .ref er, .ref sd, .ref lm, .int 0])) :: (Y ++ [(sh, zeR cy 5 4 (fun _ => none)), (er, zeI cy 6), (sd, zeI cy 5), (lm, zeI cy 5)])) 91 [(0, .ref h0), (1, .int (nI 0))] [] 110 1129 := by
  refine zn_iload_n C 1 dX9_init_91 rfl rfl ?_
  refine zn_iconst C (v := nI 4) dX9_init_92 (by decide) ?_
  refine zn_icmp_ge C 115 dX9_init_93 (by decide) (fun q => absurd q (by decide)) (fun _ => ?_)
  refine zn_aload_n C 0 dX9_init_96 rfl rfl ?_
  refine zn_get C 0 rfl pf_X9_42 rfl dX9_init_97 ?_
  refine zn_iload_n C 1 dX9_init_100 rfl rfl ?_
  refine zn_new C (ci := 6) (fs := [.null, .int 0, .int 0]) gin_X6 tyX6 tyX6_ok v_cX9_40 v_nX6 v_iX6 rfl (fun j hj => by rcases (show j = 0 ∨ j = 1 ∨ j = 2 by omega) with rfl | rfl | rfl <;> rfl) (Nat.le_of_ble_eq_true rfl) (Nat.le_of_ble_eq_true rfl) dX9_init_101 (fun h1 => ?_)
  refine zn_dup C dX9_init_104 rfl ?_
  refine zn_callN C [] n_X6 rfl vy_X6 (by decide +kernel) v_mX6 (Nat.le_of_ble_eq_true rfl) (by exact ⟨(Nat.le_of_ble_eq_true rfl), (Nat.le_of_ble_eq_true rfl)⟩) (by exact ⟨(Nat.le_of_ble_eq_true rfl), (Nat.le_of_ble_eq_true rfl)⟩) dX9_init_105 rfl rfl (fun as0 => ?_)
  refine zn_ws (ws' := ((h0, .inr (9, [.ref s0, .ref s1, .ref k2, .ref rd, .ref vo, .ref sh, .ref er, .ref sd, .ref lm, .int 0])) :: (Y ++ [(sh, zeR cy 5 4 (fun _ => none)), (er, zeI cy 6), (sd, zeI cy 5), (lm, zeI cy 5), (h1, .inr (6, [.ref (as0 (23, 0, 0)), .int 0, .int 0])), (as0 (23, 0, 0), zeI cy 40)]))) (by simp only [List.cons_append, List.append_assoc, List.nil_append]) ?_
  refine zn_aast C (Y.length + 1) 5 (Y.length + 1 + 4) 6 (zl_atY _ _ _ _) rfl (zl_atY2 _ _ _ 4) rfl (i := 0) (by decide) (by decide) dX9_init_108 (ws' := ((h0, .inr (9, [.ref s0, .ref s1, .ref k2, .ref rd, .ref vo, .ref sh, .ref er, .ref sd, .ref lm, .int 0])) :: (Y ++ [(sh, zeR cy 5 4 (va_up (fun _ => none) 0 (some h1))), (er, zeI cy 6), (sd, zeI cy 5), (lm, zeI cy 5), (h1, .inr (6, [.ref (as0 (23, 0, 0)), .int 0, .int 0])), (as0 (23, 0, 0), zeI cy 40)]))) (zl_setY _ _ _ _ _) ?_
  refine zn_iinc C (v := nI 1) 1 _ dX9_init_109 rfl (by decide) (by decide) rfl ?_
  refine zn_goto C 91 dX9_init_112 (by decide) ?_
  refine zn_sub [1, 0] (lv' := [(0, .ref h0), (1, .int (nI 1))]) rfl ?_
  refine zn_iload_n C 1 dX9_init_91 rfl rfl ?_
  refine zn_iconst C (v := nI 4) dX9_init_92 (by decide) ?_
  refine zn_icmp_ge C 115 dX9_init_93 (by decide) (fun q => absurd q (by decide)) (fun _ => ?_)
  refine zn_aload_n C 0 dX9_init_96 rfl rfl ?_
  refine zn_get C 0 rfl pf_X9_42 rfl dX9_init_97 ?_
  refine zn_iload_n C 1 dX9_init_100 rfl rfl ?_
  refine zn_new C (ci := 6) (fs := [.null, .int 0, .int 0]) gin_X6 tyX6 tyX6_ok v_cX9_40 v_nX6 v_iX6 rfl (fun j hj => by rcases (show j = 0 ∨ j = 1 ∨ j = 2 by omega) with rfl | rfl | rfl <;> rfl) (Nat.le_of_ble_eq_true rfl) (Nat.le_of_ble_eq_true rfl) dX9_init_101 (fun h2 => ?_)
  refine zn_dup C dX9_init_104 rfl ?_
  refine zn_callN C [] n_X6 rfl vy_X6 (by decide +kernel) v_mX6 (Nat.le_of_ble_eq_true rfl) (by exact ⟨(Nat.le_of_ble_eq_true rfl), (Nat.le_of_ble_eq_true rfl)⟩) (by exact ⟨(Nat.le_of_ble_eq_true rfl), (Nat.le_of_ble_eq_true rfl)⟩) dX9_init_105 rfl rfl (fun as1 => ?_)
  refine zn_ws (ws' := ((h0, .inr (9, [.ref s0, .ref s1, .ref k2, .ref rd, .ref vo, .ref sh, .ref er, .ref sd, .ref lm, .int 0])) :: (Y ++ [(sh, zeR cy 5 4 (va_up (fun _ => none) 0 (some h1))), (er, zeI cy 6), (sd, zeI cy 5), (lm, zeI cy 5), (h1, .inr (6, [.ref (as0 (23, 0, 0)), .int 0, .int 0])), (as0 (23, 0, 0), zeI cy 40), (h2, .inr (6, [.ref (as1 (23, 0, 0)), .int 0, .int 0])), (as1 (23, 0, 0), zeI cy 40)]))) (by simp only [List.cons_append, List.append_assoc, List.nil_append]) ?_
  refine zn_aast C (Y.length + 1) 5 (Y.length + 1 + 6) 6 (zl_atY _ _ _ _) rfl (zl_atY2 _ _ _ 6) rfl (i := 1) (by decide) (by decide) dX9_init_108 (ws' := ((h0, .inr (9, [.ref s0, .ref s1, .ref k2, .ref rd, .ref vo, .ref sh, .ref er, .ref sd, .ref lm, .int 0])) :: (Y ++ [(sh, zeR cy 5 4 (va_up (va_up (fun _ => none) 0 (some h1)) 1 (some h2))), (er, zeI cy 6), (sd, zeI cy 5), (lm, zeI cy 5), (h1, .inr (6, [.ref (as0 (23, 0, 0)), .int 0, .int 0])), (as0 (23, 0, 0), zeI cy 40), (h2, .inr (6, [.ref (as1 (23, 0, 0)), .int 0, .int 0])), (as1 (23, 0, 0), zeI cy 40)]))) (zl_setY _ _ _ _ _) ?_
  refine zn_iinc C (v := nI 2) 1 _ dX9_init_109 rfl (by decide) (by decide) rfl ?_
  refine zn_goto C 91 dX9_init_112 (by decide) ?_
  refine zn_sub [1, 0] (lv' := [(0, .ref h0), (1, .int (nI 2))]) rfl ?_
  refine zn_iload_n C 1 dX9_init_91 rfl rfl ?_
  refine zn_iconst C (v := nI 4) dX9_init_92 (by decide) ?_
  refine zn_icmp_ge C 115 dX9_init_93 (by decide) (fun q => absurd q (by decide)) (fun _ => ?_)
  refine zn_aload_n C 0 dX9_init_96 rfl rfl ?_
  refine zn_get C 0 rfl pf_X9_42 rfl dX9_init_97 ?_
  refine zn_iload_n C 1 dX9_init_100 rfl rfl ?_
  refine zn_new C (ci := 6) (fs := [.null, .int 0, .int 0]) gin_X6 tyX6 tyX6_ok v_cX9_40 v_nX6 v_iX6 rfl (fun j hj => by rcases (show j = 0 ∨ j = 1 ∨ j = 2 by omega) with rfl | rfl | rfl <;> rfl) (Nat.le_of_ble_eq_true rfl) (Nat.le_of_ble_eq_true rfl) dX9_init_101 (fun h3 => ?_)
  refine zn_dup C dX9_init_104 rfl ?_
  refine zn_callN C [] n_X6 rfl vy_X6 (by decide +kernel) v_mX6 (Nat.le_of_ble_eq_true rfl) (by exact ⟨(Nat.le_of_ble_eq_true rfl), (Nat.le_of_ble_eq_true rfl)⟩) (by exact ⟨(Nat.le_of_ble_eq_true rfl), (Nat.le_of_ble_eq_true rfl)⟩) dX9_init_105 rfl rfl (fun as2 => ?_)
  refine zn_ws (ws' := ((h0, .inr (9, [.ref s0, .ref s1, .ref k2, .ref rd, .ref vo, .ref sh, .ref er, .ref sd, .ref lm, .int 0])) :: (Y ++ [(sh, zeR cy 5 4 (va_up (va_up (fun _ => none) 0 (some h1)) 1 (some h2))), (er, zeI cy 6), (sd, zeI cy 5), (lm, zeI cy 5), (h1, .inr (6, [.ref (as0 (23, 0, 0)), .int 0, .int 0])), (as0 (23, 0, 0), zeI cy 40), (h2, .inr (6, [.ref (as1 (23, 0, 0)), .int 0, .int 0])), (as1 (23, 0, 0), zeI cy 40), (h3, .inr (6, [.ref (as2 (23, 0, 0)), .int 0, .int 0])), (as2 (23, 0, 0), zeI cy 40)]))) (by simp only [List.cons_append, List.append_assoc, List.nil_append]) ?_
  refine zn_aast C (Y.length + 1) 5 (Y.length + 1 + 8) 6 (zl_atY _ _ _ _) rfl (zl_atY2 _ _ _ 8) rfl (i := 2) (by decide) (by decide) dX9_init_108 (ws' := ((h0, .inr (9, [.ref s0, .ref s1, .ref k2, .ref rd, .ref vo, .ref sh, .ref er, .ref sd, .ref lm, .int 0])) :: (Y ++ [(sh, zeR cy 5 4 (va_up (va_up (va_up (fun _ => none) 0 (some h1)) 1 (some h2)) 2 (some h3))), (er, zeI cy 6), (sd, zeI cy 5), (lm, zeI cy 5), (h1, .inr (6, [.ref (as0 (23, 0, 0)), .int 0, .int 0])), (as0 (23, 0, 0), zeI cy 40), (h2, .inr (6, [.ref (as1 (23, 0, 0)), .int 0, .int 0])), (as1 (23, 0, 0), zeI cy 40), (h3, .inr (6, [.ref (as2 (23, 0, 0)), .int 0, .int 0])), (as2 (23, 0, 0), zeI cy 40)]))) (zl_setY _ _ _ _ _) ?_
  refine zn_iinc C (v := nI 3) 1 _ dX9_init_109 rfl (by decide) (by decide) rfl ?_
  refine zn_goto C 91 dX9_init_112 (by decide) ?_
  refine zn_sub [1, 0] (lv' := [(0, .ref h0), (1, .int (nI 3))]) rfl ?_
  refine zn_iload_n C 1 dX9_init_91 rfl rfl ?_
  refine zn_iconst C (v := nI 4) dX9_init_92 (by decide) ?_
  refine zn_icmp_ge C 115 dX9_init_93 (by decide) (fun q => absurd q (by decide)) (fun _ => ?_)
  refine zn_aload_n C 0 dX9_init_96 rfl rfl ?_
  refine zn_get C 0 rfl pf_X9_42 rfl dX9_init_97 ?_
  refine zn_iload_n C 1 dX9_init_100 rfl rfl ?_
  refine zn_new C (ci := 6) (fs := [.null, .int 0, .int 0]) gin_X6 tyX6 tyX6_ok v_cX9_40 v_nX6 v_iX6 rfl (fun j hj => by rcases (show j = 0 ∨ j = 1 ∨ j = 2 by omega) with rfl | rfl | rfl <;> rfl) (Nat.le_of_ble_eq_true rfl) (Nat.le_of_ble_eq_true rfl) dX9_init_101 (fun h4 => ?_)
  refine zn_dup C dX9_init_104 rfl ?_
  refine zn_callN C [] n_X6 rfl vy_X6 (by decide +kernel) v_mX6 (Nat.le_of_ble_eq_true rfl) (by exact ⟨(Nat.le_of_ble_eq_true rfl), (Nat.le_of_ble_eq_true rfl)⟩) (by exact ⟨(Nat.le_of_ble_eq_true rfl), (Nat.le_of_ble_eq_true rfl)⟩) dX9_init_105 rfl rfl (fun as3 => ?_)
  refine zn_ws (ws' := ((h0, .inr (9, [.ref s0, .ref s1, .ref k2, .ref rd, .ref vo, .ref sh, .ref er, .ref sd, .ref lm, .int 0])) :: (Y ++ [(sh, zeR cy 5 4 (va_up (va_up (va_up (fun _ => none) 0 (some h1)) 1 (some h2)) 2 (some h3))), (er, zeI cy 6), (sd, zeI cy 5), (lm, zeI cy 5), (h1, .inr (6, [.ref (as0 (23, 0, 0)), .int 0, .int 0])), (as0 (23, 0, 0), zeI cy 40), (h2, .inr (6, [.ref (as1 (23, 0, 0)), .int 0, .int 0])), (as1 (23, 0, 0), zeI cy 40), (h3, .inr (6, [.ref (as2 (23, 0, 0)), .int 0, .int 0])), (as2 (23, 0, 0), zeI cy 40), (h4, .inr (6, [.ref (as3 (23, 0, 0)), .int 0, .int 0])), (as3 (23, 0, 0), zeI cy 40)]))) (by simp only [List.cons_append, List.append_assoc, List.nil_append]) ?_
  refine zn_aast C (Y.length + 1) 5 (Y.length + 1 + 10) 6 (zl_atY _ _ _ _) rfl (zl_atY2 _ _ _ 10) rfl (i := 3) (by decide) (by decide) dX9_init_108 (ws' := ((h0, .inr (9, [.ref s0, .ref s1, .ref k2, .ref rd, .ref vo, .ref sh, .ref er, .ref sd, .ref lm, .int 0])) :: (Y ++ [(sh, zeR cy 5 4 (va_up (va_up (va_up (va_up (fun _ => none) 0 (some h1)) 1 (some h2)) 2 (some h3)) 3 (some h4))), (er, zeI cy 6), (sd, zeI cy 5), (lm, zeI cy 5), (h1, .inr (6, [.ref (as0 (23, 0, 0)), .int 0, .int 0])), (as0 (23, 0, 0), zeI cy 40), (h2, .inr (6, [.ref (as1 (23, 0, 0)), .int 0, .int 0])), (as1 (23, 0, 0), zeI cy 40), (h3, .inr (6, [.ref (as2 (23, 0, 0)), .int 0, .int 0])), (as2 (23, 0, 0), zeI cy 40), (h4, .inr (6, [.ref (as3 (23, 0, 0)), .int 0, .int 0])), (as3 (23, 0, 0), zeI cy 40)]))) (zl_setY _ _ _ _ _) ?_
  refine zn_iinc C (v := nI 4) 1 _ dX9_init_109 rfl (by decide) (by decide) rfl ?_
  refine zn_goto C 91 dX9_init_112 (by decide) ?_
  refine zn_sub [1, 0] (lv' := [(0, .ref h0), (1, .int (nI 4))]) rfl ?_
  refine zn_iload_n C 1 dX9_init_91 rfl rfl ?_
  refine zn_iconst C (v := nI 4) dX9_init_92 (by decide) ?_
  refine zn_icmp_ge C 115 dX9_init_93 (by decide) (fun _ => ?_) (fun q => absurd (by decide) q)
  exact kk h1 h2 h3 h4 as0 as1 as2 as3
set_option maxRecDepth 100000 in
set_option maxHeartbeats 4000000 in
theorem n_X9 {l : Launch} {sa : Nat → Nat} {D : va_G} {cy : Nat → ClassId} : zn_M l sa D cy yX9_init cX9_init 2 4 96 118 1301 (.inr (9, [.null, .null, .null, .null, .null, .null, .null, .null, .null, .int 0])) [] (fun h a => (h, za_E a cy zMz (0, 0, 0)) :: zAn.map fun x => (a x, za_E a cy zMz x)) := zn_open (by decide) (fun h0 => (Nat.le_of_ble_eq_true rfl)) rfl (fun p e s m args below meth c h0 A C hin hr hk => by
  refine zn_aload_n C 0 dX9_init_0 rfl rfl ?_
  refine zn_obj C v_oX9 v_oi v_oc dX9_init_1 (Nat.le_of_ble_eq_true rfl) (Nat.le_of_ble_eq_true rfl) ?_
  refine zn_aload_n C 0 dX9_init_4 rfl rfl ?_
  refine zn_new C (ci := 7) (fs := [.null, .null, .null, .null, .int 0, .int 0, .int 0]) gin_X7 tyX7 tyX7_ok v_cX9_7 v_nX7 v_iX7 rfl (fun j hj => by rcases (show j = 0 ∨ j = 1 ∨ j = 2 ∨ j = 3 ∨ j = 4 ∨ j = 5 ∨ j = 6 by omega) with rfl | rfl | rfl | rfl | rfl | rfl | rfl <;> rfl) (Nat.le_of_ble_eq_true rfl) (Nat.le_of_ble_eq_true rfl) dX9_init_5 (fun s0 => ?_)
  refine zn_dup C dX9_init_8 rfl ?_
  refine zn_call C [] n_X7 rfl vy_X7 v_lX9_9 v_mX7 (Nat.le_of_ble_eq_true rfl) (by exact ⟨(Nat.le_of_ble_eq_true rfl), (Nat.le_of_ble_eq_true rfl)⟩) (by exact ⟨(Nat.le_of_ble_eq_true rfl), (Nat.le_of_ble_eq_true rfl)⟩) dX9_init_9 rfl rfl (fun a0 => ?_)
  refine zn_putF C hin 0 rfl pf_X9_10 vt_X9_0 rfl rfl rfl (Nat.le_of_ble_eq_true rfl) dX9_init_12 (ws' := ([(h0, .inr (9, [.ref s0, .null, .null, .null, .null, .null, .null, .null, .null, .int 0]))] ++ ((s0, za_E a0 cy zMz (1, 0, 0)) :: (zSn 0).map fun x => (a0 x, za_E a0 cy zMz x)))) rfl ?_
  refine zn_aload_n C 0 dX9_init_15 rfl rfl ?_
  refine zn_new C (ci := 7) (fs := [.null, .null, .null, .null, .int 0, .int 0, .int 0]) gin_X7 tyX7 tyX7_ok v_cX9_7 v_nX7 v_iX7 rfl (fun j hj => by rcases (show j = 0 ∨ j = 1 ∨ j = 2 ∨ j = 3 ∨ j = 4 ∨ j = 5 ∨ j = 6 by omega) with rfl | rfl | rfl | rfl | rfl | rfl | rfl <;> rfl) (Nat.le_of_ble_eq_true rfl) (Nat.le_of_ble_eq_true rfl) dX9_init_16 (fun s1 => ?_)
  refine zn_dup C dX9_init_19 rfl ?_
  refine zn_call C [] n_X7 rfl vy_X7 v_lX9_9 v_mX7 (Nat.le_of_ble_eq_true rfl) (by exact ⟨(Nat.le_of_ble_eq_true rfl), (Nat.le_of_ble_eq_true rfl)⟩) (by exact ⟨(Nat.le_of_ble_eq_true rfl), (Nat.le_of_ble_eq_true rfl)⟩) dX9_init_20 rfl rfl (fun a1 => ?_)
  refine zn_putF C hin 0 rfl pf_X9_16 vt_X9_1 rfl rfl rfl (Nat.le_of_ble_eq_true rfl) dX9_init_23 (ws' := (([(h0, .inr (9, [.ref s0, .ref s1, .null, .null, .null, .null, .null, .null, .null, .int 0]))] ++ ((s0, za_E a0 cy zMz (1, 0, 0)) :: (zSn 0).map fun x => (a0 x, za_E a0 cy zMz x))) ++ ((s1, za_E a1 cy zMz (1, 0, 0)) :: (zSn 0).map fun x => (a1 x, za_E a1 cy zMz x)))) rfl ?_
  refine zn_aload_n C 0 dX9_init_26 rfl rfl ?_
  refine zn_new C (ci := 1) (fs := [.null, .null, .null, .int 0, .int 0, .int 0, .int 0]) gin_X1 tyX1 tyX1_ok v_cX9_19 v_nX1 v_iX1 rfl (fun j hj => by rcases (show j = 0 ∨ j = 1 ∨ j = 2 ∨ j = 3 ∨ j = 4 ∨ j = 5 ∨ j = 6 by omega) with rfl | rfl | rfl | rfl | rfl | rfl | rfl <;> rfl) (Nat.le_of_ble_eq_true rfl) (Nat.le_of_ble_eq_true rfl) dX9_init_27 (fun k2 => ?_)
  refine zn_dup C dX9_init_30 rfl ?_
  refine zn_call C [] n_X1 rfl vy_X1 v_lX9_21 v_mX1 (Nat.le_of_ble_eq_true rfl) (by exact ⟨(Nat.le_of_ble_eq_true rfl), (Nat.le_of_ble_eq_true rfl)⟩) (by exact ⟨(Nat.le_of_ble_eq_true rfl), (Nat.le_of_ble_eq_true rfl)⟩) dX9_init_31 rfl rfl (fun a2 => ?_)
  refine zn_putF C hin 0 rfl pf_X9_22 vt_X9_2 rfl rfl rfl (Nat.le_of_ble_eq_true rfl) dX9_init_34 (ws' := ((([(h0, .inr (9, [.ref s0, .ref s1, .ref k2, .null, .null, .null, .null, .null, .null, .int 0]))] ++ ((s0, za_E a0 cy zMz (1, 0, 0)) :: (zSn 0).map fun x => (a0 x, za_E a0 cy zMz x))) ++ ((s1, za_E a1 cy zMz (1, 0, 0)) :: (zSn 0).map fun x => (a1 x, za_E a1 cy zMz x))) ++ ((k2, za_E a2 cy zMz (2, 0, 0)) :: (zCn 0).map fun x => (a2 x, za_E a2 cy zMz x)))) rfl ?_
  refine zn_aload_n C 0 dX9_init_37 rfl rfl ?_
  refine zn_new C (ci := 5) (fs := [.null, .null, .int 0, .int 0, .int 0, .int 0]) gin_X5 tyX5 tyX5_ok v_cX9_26 v_nX5 v_iX5 rfl (fun j hj => by rcases (show j = 0 ∨ j = 1 ∨ j = 2 ∨ j = 3 ∨ j = 4 ∨ j = 5 by omega) with rfl | rfl | rfl | rfl | rfl | rfl <;> rfl) (Nat.le_of_ble_eq_true rfl) (Nat.le_of_ble_eq_true rfl) dX9_init_38 (fun rd => ?_)
  refine zn_dup C dX9_init_41 rfl ?_
  refine zn_callN C [] n_X5 rfl vy_X5 (by decide +kernel) v_mX5 (Nat.le_of_ble_eq_true rfl) (by exact ⟨(Nat.le_of_ble_eq_true rfl), (Nat.le_of_ble_eq_true rfl)⟩) (by exact ⟨(Nat.le_of_ble_eq_true rfl), (Nat.le_of_ble_eq_true rfl)⟩) dX9_init_42 rfl rfl (fun ar => ?_)
  refine zn_putF C hin 0 rfl pf_X9_29 vt_X9_3 rfl rfl rfl (Nat.le_of_ble_eq_true rfl) dX9_init_45 (ws' := (((([(h0, .inr (9, [.ref s0, .ref s1, .ref k2, .ref rd, .null, .null, .null, .null, .null, .int 0]))] ++ ((s0, za_E a0 cy zMz (1, 0, 0)) :: (zSn 0).map fun x => (a0 x, za_E a0 cy zMz x))) ++ ((s1, za_E a1 cy zMz (1, 0, 0)) :: (zSn 0).map fun x => (a1 x, za_E a1 cy zMz x))) ++ ((k2, za_E a2 cy zMz (2, 0, 0)) :: (zCn 0).map fun x => (a2 x, za_E a2 cy zMz x))) ++ [(rd, .inr (5, [.ref (ar (19, 0, 0)), .ref (ar (20, 0, 0)), .int 0, .int 0, .int 0, .int 0])), (ar (19, 0, 0), zeI cy 50), (ar (20, 0, 0), zeI cy 50)])) rfl ?_
  refine zn_aload_n C 0 dX9_init_48 rfl rfl ?_
  refine zn_new C (ci := 8) (fs := [.null, .int 0, .int 0, .int 0, .int 0]) gin_X8 tyX8 tyX8_ok v_cX9_33 v_nX8 v_iX8 rfl (fun j hj => by rcases (show j = 0 ∨ j = 1 ∨ j = 2 ∨ j = 3 ∨ j = 4 by omega) with rfl | rfl | rfl | rfl | rfl <;> rfl) (Nat.le_of_ble_eq_true rfl) (Nat.le_of_ble_eq_true rfl) dX9_init_49 (fun vo => ?_)
  refine zn_dup C dX9_init_52 rfl ?_
  refine zn_callN C [] n_X8 rfl vy_X8 (by decide +kernel) v_mX8 (Nat.le_of_ble_eq_true rfl) (by exact ⟨(Nat.le_of_ble_eq_true rfl), (Nat.le_of_ble_eq_true rfl)⟩) (by exact ⟨(Nat.le_of_ble_eq_true rfl), (Nat.le_of_ble_eq_true rfl)⟩) dX9_init_53 rfl rfl (fun av => ?_)
  refine zn_putF C hin 0 rfl pf_X9_36 vt_X9_4 rfl rfl rfl (Nat.le_of_ble_eq_true rfl) dX9_init_56 (ws' := ((((([(h0, .inr (9, [.ref s0, .ref s1, .ref k2, .ref rd, .ref vo, .null, .null, .null, .null, .int 0]))] ++ ((s0, za_E a0 cy zMz (1, 0, 0)) :: (zSn 0).map fun x => (a0 x, za_E a0 cy zMz x))) ++ ((s1, za_E a1 cy zMz (1, 0, 0)) :: (zSn 0).map fun x => (a1 x, za_E a1 cy zMz x))) ++ ((k2, za_E a2 cy zMz (2, 0, 0)) :: (zCn 0).map fun x => (a2 x, za_E a2 cy zMz x))) ++ [(rd, .inr (5, [.ref (ar (19, 0, 0)), .ref (ar (20, 0, 0)), .int 0, .int 0, .int 0, .int 0])), (ar (19, 0, 0), zeI cy 50), (ar (20, 0, 0), zeI cy 50)]) ++ [(vo, .inr (8, [.ref (av (21, 0, 0)), .int 0, .int 0, .int 0, .int 0])), (av (21, 0, 0), zeI cy 40)])) rfl ?_
  refine zn_aload_n C 0 dX9_init_59 rfl rfl ?_
  refine zn_iconst C (v := nI 4) dX9_init_60 (by decide) ?_
  refine zn_newq C 4 5 rfl v_cX9_40 (by decide) (nI_pos (by decide)) (nI_clamp (by decide)) (Nat.le_of_ble_eq_true rfl) (Nat.le_of_ble_eq_true rfl) (Nat.le_of_ble_eq_true rfl) dX9_init_61 (fun sh => ?_)
  refine zn_putF C hin 0 rfl pf_X9_42 vt_X9_5 rfl rfl rfl (Nat.le_of_ble_eq_true rfl) dX9_init_64 (ws' := (((((([(h0, .inr (9, [.ref s0, .ref s1, .ref k2, .ref rd, .ref vo, .ref sh, .null, .null, .null, .int 0]))] ++ ((s0, za_E a0 cy zMz (1, 0, 0)) :: (zSn 0).map fun x => (a0 x, za_E a0 cy zMz x))) ++ ((s1, za_E a1 cy zMz (1, 0, 0)) :: (zSn 0).map fun x => (a1 x, za_E a1 cy zMz x))) ++ ((k2, za_E a2 cy zMz (2, 0, 0)) :: (zCn 0).map fun x => (a2 x, za_E a2 cy zMz x))) ++ [(rd, .inr (5, [.ref (ar (19, 0, 0)), .ref (ar (20, 0, 0)), .int 0, .int 0, .int 0, .int 0])), (ar (19, 0, 0), zeI cy 50), (ar (20, 0, 0), zeI cy 50)]) ++ [(vo, .inr (8, [.ref (av (21, 0, 0)), .int 0, .int 0, .int 0, .int 0])), (av (21, 0, 0), zeI cy 40)]) ++ [(sh, zeR cy 5 4 (fun _ => none))])) rfl ?_
  refine zn_aload_n C 0 dX9_init_67 rfl rfl ?_
  refine zn_bipush C (v := nI 6) dX9_init_68 (by decide) ?_
  refine zn_newa C 6 v_ai (nI_pos (by decide)) (nI_clamp (by decide)) (Nat.le_of_ble_eq_true rfl) (Nat.le_of_ble_eq_true rfl) (Nat.le_of_ble_eq_true rfl) dX9_init_70 (fun er => ?_)
  refine zn_putF C hin 0 rfl pf_X9_46 vt_X9_6 rfl rfl rfl (Nat.le_of_ble_eq_true rfl) dX9_init_72 (ws' := ((((((([(h0, .inr (9, [.ref s0, .ref s1, .ref k2, .ref rd, .ref vo, .ref sh, .ref er, .null, .null, .int 0]))] ++ ((s0, za_E a0 cy zMz (1, 0, 0)) :: (zSn 0).map fun x => (a0 x, za_E a0 cy zMz x))) ++ ((s1, za_E a1 cy zMz (1, 0, 0)) :: (zSn 0).map fun x => (a1 x, za_E a1 cy zMz x))) ++ ((k2, za_E a2 cy zMz (2, 0, 0)) :: (zCn 0).map fun x => (a2 x, za_E a2 cy zMz x))) ++ [(rd, .inr (5, [.ref (ar (19, 0, 0)), .ref (ar (20, 0, 0)), .int 0, .int 0, .int 0, .int 0])), (ar (19, 0, 0), zeI cy 50), (ar (20, 0, 0), zeI cy 50)]) ++ [(vo, .inr (8, [.ref (av (21, 0, 0)), .int 0, .int 0, .int 0, .int 0])), (av (21, 0, 0), zeI cy 40)]) ++ [(sh, zeR cy 5 4 (fun _ => none))]) ++ [(er, zeI cy 6)])) rfl ?_
  refine zn_aload_n C 0 dX9_init_75 rfl rfl ?_
  refine zn_iconst C (v := nI 5) dX9_init_76 (by decide) ?_
  refine zn_newa C 5 v_ai (nI_pos (by decide)) (nI_clamp (by decide)) (Nat.le_of_ble_eq_true rfl) (Nat.le_of_ble_eq_true rfl) (Nat.le_of_ble_eq_true rfl) dX9_init_77 (fun sd => ?_)
  refine zn_putF C hin 0 rfl pf_X9_50 vt_X9_7 rfl rfl rfl (Nat.le_of_ble_eq_true rfl) dX9_init_79 (ws' := (((((((([(h0, .inr (9, [.ref s0, .ref s1, .ref k2, .ref rd, .ref vo, .ref sh, .ref er, .ref sd, .null, .int 0]))] ++ ((s0, za_E a0 cy zMz (1, 0, 0)) :: (zSn 0).map fun x => (a0 x, za_E a0 cy zMz x))) ++ ((s1, za_E a1 cy zMz (1, 0, 0)) :: (zSn 0).map fun x => (a1 x, za_E a1 cy zMz x))) ++ ((k2, za_E a2 cy zMz (2, 0, 0)) :: (zCn 0).map fun x => (a2 x, za_E a2 cy zMz x))) ++ [(rd, .inr (5, [.ref (ar (19, 0, 0)), .ref (ar (20, 0, 0)), .int 0, .int 0, .int 0, .int 0])), (ar (19, 0, 0), zeI cy 50), (ar (20, 0, 0), zeI cy 50)]) ++ [(vo, .inr (8, [.ref (av (21, 0, 0)), .int 0, .int 0, .int 0, .int 0])), (av (21, 0, 0), zeI cy 40)]) ++ [(sh, zeR cy 5 4 (fun _ => none))]) ++ [(er, zeI cy 6)]) ++ [(sd, zeI cy 5)])) rfl ?_
  refine zn_aload_n C 0 dX9_init_82 rfl rfl ?_
  refine zn_iconst C (v := nI 5) dX9_init_83 (by decide) ?_
  refine zn_newa C 5 v_ai (nI_pos (by decide)) (nI_clamp (by decide)) (Nat.le_of_ble_eq_true rfl) (Nat.le_of_ble_eq_true rfl) (Nat.le_of_ble_eq_true rfl) dX9_init_84 (fun lm => ?_)
  refine zn_putF C hin 0 rfl pf_X9_53 vt_X9_8 rfl rfl rfl (Nat.le_of_ble_eq_true rfl) dX9_init_86 (ws' := ((((((((([(h0, .inr (9, [.ref s0, .ref s1, .ref k2, .ref rd, .ref vo, .ref sh, .ref er, .ref sd, .ref lm, .int 0]))] ++ ((s0, za_E a0 cy zMz (1, 0, 0)) :: (zSn 0).map fun x => (a0 x, za_E a0 cy zMz x))) ++ ((s1, za_E a1 cy zMz (1, 0, 0)) :: (zSn 0).map fun x => (a1 x, za_E a1 cy zMz x))) ++ ((k2, za_E a2 cy zMz (2, 0, 0)) :: (zCn 0).map fun x => (a2 x, za_E a2 cy zMz x))) ++ [(rd, .inr (5, [.ref (ar (19, 0, 0)), .ref (ar (20, 0, 0)), .int 0, .int 0, .int 0, .int 0])), (ar (19, 0, 0), zeI cy 50), (ar (20, 0, 0), zeI cy 50)]) ++ [(vo, .inr (8, [.ref (av (21, 0, 0)), .int 0, .int 0, .int 0, .int 0])), (av (21, 0, 0), zeI cy 40)]) ++ [(sh, zeR cy 5 4 (fun _ => none))]) ++ [(er, zeI cy 6)]) ++ [(sd, zeI cy 5)]) ++ [(lm, zeI cy 5)])) rfl ?_
  refine zn_iconst C (v := nI 0) dX9_init_89 (by decide) ?_
  refine zn_istore_n C _ dX9_init_90 rfl (by decide) rfl ?_
  refine zn_sub [1, 0] (lv' := [(0, .ref h0), (1, .int (nI 0))]) rfl ?_
  refine zn_ws (ws' := ((h0, .inr (9, [.ref s0, .ref s1, .ref k2, .ref rd, .ref vo, .ref sh, .ref er, .ref sd, .ref lm, .int 0])) :: ((((s0, za_E a0 cy zMz (1, 0, 0)) :: (zSn 0).map fun x => (a0 x, za_E a0 cy zMz x)) ++ (((s1, za_E a1 cy zMz (1, 0, 0)) :: (zSn 0).map fun x => (a1 x, za_E a1 cy zMz x)) ++ (((k2, za_E a2 cy zMz (2, 0, 0)) :: (zCn 0).map fun x => (a2 x, za_E a2 cy zMz x)) ++ ([(rd, .inr (5, [.ref (ar (19, 0, 0)), .ref (ar (20, 0, 0)), .int 0, .int 0, .int 0, .int 0])), (ar (19, 0, 0), zeI cy 50), (ar (20, 0, 0), zeI cy 50)] ++ [(vo, .inr (8, [.ref (av (21, 0, 0)), .int 0, .int 0, .int 0, .int 0])), (av (21, 0, 0), zeI cy 40)])))) ++ [(sh, zeR cy 5 4 (fun _ => none)), (er, zeI cy 6), (sd, zeI cy 5), (lm, zeI cy 5)]))) (by simp only [List.cons_append, List.append_assoc, List.nil_append]) ?_
  refine n_X9_loop C (l := l) (Q := _) (s0 := s0) (s1 := s1) (k2 := k2) (rd := rd) (vo := vo) _ (fun h1 h2 h3 h4 as0 as1 as2 as3 => ?_)
  refine zn_vret C (fun n => match n.1 with
    | 1 => (match n.2.1 with | 0 => s0 | _ => s1)
    | 2 => (match n.2.1 with | 0 => a0 (2, 0, 0) | 1 => a1 (2, 0, 0) | _ => k2)
    | 7 => rd
    | 19 => ar (19, 0, 0)
    | 20 => ar (20, 0, 0)
    | 8 => vo
    | 21 => av (21, 0, 0)
    | 22 => sh
    | 24 => er
    | 25 => sd
    | 26 => lm
    | 9 => (match n.2.2 with | 0 => h1 | 1 => h2 | 2 => h3 | _ => h4)
    | 23 => (match n.2.2 with | 0 => as0 (23, 0, 0) | 1 => as1 (23, 0, 0) | 2 => as2 (23, 0, 0) | _ => as3 (23, 0, 0))
    | _ => (match n.2.1 with | 0 => a0 (n.1, 0, n.2.2) | 1 => a1 (n.1, 0, n.2.2) | _ => a2 (n.1, 0, n.2.2))) hr hk dX9_init_115 (fun H hP hD => ?_)
  have eO := zA_out (cy := cy) (g := (fun n => match n.1 with     | 1 => (match n.2.1 with | 0 => s0 | _ => s1)     | 2 => (match n.2.1 with | 0 => a0 (2, 0, 0) | 1 => a1 (2, 0, 0) | _ => k2)     | 7 => rd     | 19 => ar (19, 0, 0)     | 20 => ar (20, 0, 0)     | 8 => vo     | 21 => av (21, 0, 0)     | 22 => sh     | 24 => er     | 25 => sd     | 26 => lm     | 9 => (match n.2.2 with | 0 => h1 | 1 => h2 | 2 => h3 | _ => h4)     | 23 => (match n.2.2 with | 0 => as0 (23, 0, 0) | 1 => as1 (23, 0, 0) | 2 => as2 (23, 0, 0) | _ => as3 (23, 0, 0))     | _ => (match n.2.1 with | 0 => a0 (n.1, 0, n.2.2) | 1 => a1 (n.1, 0, n.2.2) | _ => a2 (n.1, 0, n.2.2)))) (h0 := h0) (s0 := s0) (s1 := s1) (k2 := k2) (a0 := a0) (a1 := a1) (a2 := a2) (ar := ar) (av := av) (as0 := as0) (as1 := as1) (as2 := as2) (as3 := as3) (rd := rd) (vo := vo) (sh := sh) (er := er) (sd := sd) (lm := lm) (h1 := h1) (h2 := h2) (h3 := h3) (h4 := h4) rfl rfl ⟨fun _ => rfl, fun _ => rfl, fun _ => rfl, fun _ => rfl, fun _ => rfl, fun _ => rfl, fun _ => rfl, fun _ => rfl, fun _ => rfl, fun _ => rfl, fun _ => rfl, fun _ => rfl, fun _ => rfl⟩ ⟨fun _ => rfl, fun _ => rfl, fun _ => rfl, fun _ => rfl, fun _ => rfl, fun _ => rfl, fun _ => rfl, fun _ => rfl, fun _ => rfl, fun _ => rfl, fun _ => rfl, fun _ => rfl, fun _ => rfl⟩ rfl ⟨fun _ => rfl, fun _ => rfl, fun _ => rfl, fun _ => rfl, fun _ => rfl, fun _ => rfl, fun _ => rfl⟩ ⟨rfl, rfl, rfl, rfl, rfl, rfl, rfl, rfl, rfl⟩ ⟨rfl, rfl, rfl, rfl, rfl, rfl, rfl, rfl⟩
  rw [← eO]
  exact ⟨zn_Pa hP _ (zl_atY _ _ _ _) (fun j hj => by rcases (show j = 0 ∨ j = 1 ∨ j = 2 ∨ j = 3 by omega) with rfl | rfl | rfl | rfl <;> rfl) (zl_setY _ _ _ _ _), by have h9 := hD.set (zl_atY _ _ _ _) (e := zeR cy 5 4 (fun j => some ((fun n => match n.1 with     | 1 => (match n.2.1 with | 0 => s0 | _ => s1)     | 2 => (match n.2.1 with | 0 => a0 (2, 0, 0) | 1 => a1 (2, 0, 0) | _ => k2)     | 7 => rd     | 19 => ar (19, 0, 0)     | 20 => ar (20, 0, 0)     | 8 => vo     | 21 => av (21, 0, 0)     | 22 => sh     | 24 => er     | 25 => sd     | 26 => lm     | 9 => (match n.2.2 with | 0 => h1 | 1 => h2 | 2 => h3 | _ => h4)     | 23 => (match n.2.2 with | 0 => as0 (23, 0, 0) | 1 => as1 (23, 0, 0) | 2 => as2 (23, 0, 0) | _ => as3 (23, 0, 0))     | _ => (match n.2.1 with | 0 => a0 (n.1, 0, n.2.2) | 1 => a1 (n.1, 0, n.2.2) | _ => a2 (n.1, 0, n.2.2))) (9, 0, j)))); rw [zl_setY] at h9; exact h9⟩)

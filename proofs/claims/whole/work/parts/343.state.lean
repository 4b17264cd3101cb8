/-! constructors: the state -/
theorem v_oX7 : Cond.methodLink RX7 3 Lib.objectInit ∈ lw_gd := za_gd 106 (by decide +kernel) rfl
theorem v_cX7_9 : Cond.classLink RX7 9 RX1 ∈ lw_gd := za_gd 107 (by decide +kernel) rfl
theorem v_nX1 : Cond.instantiable RX1 7 ∈ lw_gd := za_gd 108 (by decide +kernel) rfl
theorem v_iX1 : Cond.initialized RX1 ∈ lw_gd := za_gd 77 (by decide +kernel) rfl
theorem v_lX7_11 : Cond.methodLink RX7 11 yX1_init ∈ lw_gd := za_gd 109 (by decide +kernel) rfl
theorem v_kX1 : Cond.code yX1_init cX1_init 2 none ∈ lw_gd := za_gd 111 (by decide +kernel) rfl
theorem vy_X1 : za_Y yX1_init cX1_init 2 none 0 := ⟨v_kX1, v_iX1, by decide +kernel⟩
theorem v_mX1 : Cond.instanceMethod yX1_init ∈ lw_gd := za_gd 110 (by decide +kernel) rfl
theorem vt_X7_0 : zn_FT 0 7 TX7 (.object RX1) true := ⟨rfl, by decide +kernel, ⟨tyX7, tyX7_ok⟩, nmX7⟩
theorem v_cX7_18 : Cond.classLink RX7 18 RX2 ∈ lw_gd := za_gd 228 (by decide +kernel) rfl
theorem vt_X7_1 : zn_FT 1 7 TX7 (.array (.object RX2)) true := ⟨rfl, by decide +kernel, ⟨tyX7, tyX7_ok⟩, nmX7⟩
theorem vt_X7_2 : zn_FT 2 7 TX7 (.array .int) true := ⟨rfl, by decide +kernel, ⟨tyX7, tyX7_ok⟩, nmX7⟩
theorem vt_X7_3 : zn_FT 3 7 TX7 (.array .int) true := ⟨rfl, by decide +kernel, ⟨tyX7, tyX7_ok⟩, nmX7⟩
theorem vt_X7_6 : zn_FT 6 7 TX7 .int false := ⟨rfl, by decide +kernel, ⟨tyX7, tyX7_ok⟩, nmX7⟩
theorem v_nX2 : Cond.instantiable RX2 4 ∈ lw_gd := za_gd 230 (by decide +kernel) rfl
theorem v_iX2 : Cond.initialized RX2 ∈ lw_gd := za_gd 81 (by decide +kernel) rfl
theorem v_lX7_35 : Cond.methodLink RX7 35 yX2_init ∈ lw_gd := za_gd 231 (by decide +kernel) rfl
theorem v_kX2 : Cond.code yX2_init cX2_init 2 none ∈ lw_gd := za_gd 233 (by decide +kernel) rfl
theorem vy_X2 : za_Y yX2_init cX2_init 2 none 1 := ⟨v_kX2, v_iX2, by decide +kernel⟩
theorem v_mX2 : Cond.instanceMethod yX2_init ∈ lw_gd := za_gd 232 (by decide +kernel) rfl
def zSn (c : Nat) : List za_L := (2, c, 0) :: (zCn c ++ [(14, c, 0), (15, c, 0), (16, c, 0), (6, c, 0), (17, c, 0), (18, c, 0), (6, c, 1), (17, c, 1), (18, c, 1)])
set_option maxRecDepth 100000 in
set_option maxHeartbeats 4000000 in
theorem n_X7 {l : Launch} {sa : Nat → Nat} {D : va_G} {cy : Nat → ClassId} : zn_M l sa D cy yX7_init cX7_init 2 3 72 36 408 (.inr (7, [.null, .null, .null, .null, .int 0, .int 0, .int 0])) [] (fun h a => (h, za_E a cy zMz (1, 0, 0)) :: (zSn 0).map fun x => (a x, za_E a cy zMz x)) := zn_open (by decide) (fun h0 => (Nat.le_of_ble_eq_true rfl)) rfl (fun p e s m args below meth c h0 A C hin hr hk => by
  refine zn_aload_n C 0 dX7_init_0 rfl rfl ?_
  refine zn_obj C v_oX7 v_oi v_oc dX7_init_1 (Nat.le_of_ble_eq_true rfl) (Nat.le_of_ble_eq_true rfl) ?_
  refine zn_aload_n C 0 dX7_init_4 rfl rfl ?_
  refine zn_new C (ci := 1) (fs := [.null, .null, .null, .int 0, .int 0, .int 0, .int 0]) gin_X1 tyX1 tyX1_ok v_cX7_9 v_nX1 v_iX1 rfl (fun j hj => by rcases (show j = 0 ∨ j = 1 ∨ j = 2 ∨ j = 3 ∨ j = 4 ∨ j = 5 ∨ j = 6 by omega) with rfl | rfl | rfl | rfl | rfl | rfl | rfl <;> rfl) (Nat.le_of_ble_eq_true rfl) (Nat.le_of_ble_eq_true rfl) dX7_init_5 (fun k => ?_)
  refine zn_dup C dX7_init_8 rfl ?_
  refine zn_call C [] n_X1 rfl vy_X1 v_lX7_11 v_mX1 (Nat.le_of_ble_eq_true rfl) (by exact ⟨(Nat.le_of_ble_eq_true rfl), (Nat.le_of_ble_eq_true rfl)⟩) (by exact ⟨(Nat.le_of_ble_eq_true rfl), (Nat.le_of_ble_eq_true rfl)⟩) dX7_init_9 rfl rfl (fun ga => ?_)
  refine zn_putF C hin 0 rfl pf_X7_12 vt_X7_0 rfl rfl rfl (Nat.le_of_ble_eq_true rfl) dX7_init_12 (ws' := ([(h0, .inr (7, [.ref k, .null, .null, .null, .int 0, .int 0, .int 0]))] ++ ((k, za_E ga cy zMz (2, 0, 0)) :: (zCn 0).map fun x => (ga x, za_E ga cy zMz x)))) rfl ?_
  refine zn_aload_n C 0 dX7_init_15 rfl rfl ?_
  refine zn_iconst C (v := nI 2) dX7_init_16 (by decide) ?_
  refine zn_newq C 2 4 rfl v_cX7_18 (by decide) (nI_pos (by decide)) (nI_clamp (by decide)) (Nat.le_of_ble_eq_true rfl) (Nat.le_of_ble_eq_true rfl) (Nat.le_of_ble_eq_true rfl) dX7_init_17 (fun lw => ?_)
  refine zn_putF C hin 0 rfl pf_X7_20 vt_X7_1 rfl rfl rfl (Nat.le_of_ble_eq_true rfl) dX7_init_20 (ws' := ([(h0, .inr (7, [.ref k, .ref lw, .null, .null, .int 0, .int 0, .int 0]))] ++ ((k, za_E ga cy zMz (2, 0, 0)) :: (zCn 0).map fun x => (ga x, za_E ga cy zMz x))) ++ [(lw, zeR cy 4 2 (fun _ => none))]) rfl ?_
  refine zn_aload_n C 0 dX7_init_23 rfl rfl ?_
  refine zn_bipush C (v := nI 50) dX7_init_24 (by decide) ?_
  refine zn_newa C 50 v_ai (nI_pos (by decide)) (nI_clamp (by decide)) (Nat.le_of_ble_eq_true rfl) (Nat.le_of_ble_eq_true rfl) (Nat.le_of_ble_eq_true rfl) dX7_init_26 (fun tp => ?_)
  refine zn_putF C hin 0 rfl pf_X7_24 vt_X7_2 rfl rfl rfl (Nat.le_of_ble_eq_true rfl) dX7_init_28 (ws' := ([(h0, .inr (7, [.ref k, .ref lw, .ref tp, .null, .int 0, .int 0, .int 0]))] ++ ((k, za_E ga cy zMz (2, 0, 0)) :: (zCn 0).map fun x => (ga x, za_E ga cy zMz x))) ++ [(lw, zeR cy 4 2 (fun _ => none)), (tp, zeI cy 50)]) rfl ?_
  refine zn_aload_n C 0 dX7_init_31 rfl rfl ?_
  refine zn_bipush C (v := nI 20) dX7_init_32 (by decide) ?_
  refine zn_newa C 20 v_ai (nI_pos (by decide)) (nI_clamp (by decide)) (Nat.le_of_ble_eq_true rfl) (Nat.le_of_ble_eq_true rfl) (Nat.le_of_ble_eq_true rfl) dX7_init_34 (fun wt => ?_)
  refine zn_putF C hin 0 rfl pf_X7_28 vt_X7_3 rfl rfl rfl (Nat.le_of_ble_eq_true rfl) dX7_init_36 (ws' := ([(h0, .inr (7, [.ref k, .ref lw, .ref tp, .ref wt, .int 0, .int 0, .int 0]))] ++ ((k, za_E ga cy zMz (2, 0, 0)) :: (zCn 0).map fun x => (ga x, za_E ga cy zMz x))) ++ [(lw, zeR cy 4 2 (fun _ => none)), (tp, zeI cy 50), (wt, zeI cy 20)]) rfl ?_
  refine zn_aload_n C 0 dX7_init_39 rfl rfl ?_
  refine zn_iconst C (v := 1) dX7_init_40 (by decide) ?_
  refine zn_put C 0 rfl pf_X7_31 vt_X7_6 rfl rfl (Nat.le_of_ble_eq_true rfl) dX7_init_41 (ws' := ([(h0, .inr (7, [.ref k, .ref lw, .ref tp, .ref wt, .int 0, .int 0, .int 1]))] ++ ((k, za_E ga cy zMz (2, 0, 0)) :: (zCn 0).map fun x => (ga x, za_E ga cy zMz x))) ++ [(lw, zeR cy 4 2 (fun _ => none)), (tp, zeI cy 50), (wt, zeI cy 20)]) rfl ?_
  refine zn_iconst C (v := nI 0) dX7_init_44 (by decide) ?_
  refine zn_istore_n C _ dX7_init_45 rfl (by decide) rfl ?_
  refine zn_sub [1, 0] (lv' := [(0, .ref h0), (1, .int (nI 0))]) rfl ?_
  refine zn_iload_n C 1 dX7_init_46 rfl rfl ?_
  refine zn_iconst C (v := nI 2) dX7_init_47 (by decide) ?_
  refine zn_icmp_ge C 71 dX7_init_48 (by decide) (fun q => absurd q (by decide)) (fun _ => ?_)
  refine zn_aload_n C 0 dX7_init_51 rfl rfl ?_
  refine zn_get C 0 rfl pf_X7_20 rfl dX7_init_52 ?_
  refine zn_iload_n C 1 dX7_init_55 rfl rfl ?_
  refine zn_new C (ci := 2) (fs := [.int 0, .null, .null, .int 0]) gin_X2 tyX2 tyX2_ok v_cX7_18 v_nX2 v_iX2 rfl (fun j hj => by rcases (show j = 0 ∨ j = 1 ∨ j = 2 ∨ j = 3 by omega) with rfl | rfl | rfl | rfl <;> rfl) (Nat.le_of_ble_eq_true rfl) (Nat.le_of_ble_eq_true rfl) dX7_init_56 (fun u0 => ?_)
  refine zn_dup C dX7_init_59 rfl ?_
  refine zn_iload_n C 1 dX7_init_60 rfl rfl ?_
  have hu0 := n_X2 (l := l) (sa := sa) (D := D) (cy := cy) (u := nI 0)
  refine zn_call C [.int (nI 0)] hu0 rfl vy_X2 v_lX7_35 v_mX2 (Nat.le_of_ble_eq_true rfl) (by exact ⟨(Nat.le_of_ble_eq_true rfl), (Nat.le_of_ble_eq_true rfl)⟩) (by exact ⟨(Nat.le_of_ble_eq_true rfl), (Nat.le_of_ble_eq_true rfl)⟩) dX7_init_61 rfl rfl (fun v0 => ?_)
  refine zn_ws (ws' := ([(h0, .inr (7, [.ref k, .ref lw, .ref tp, .ref wt, .int 0, .int 0, .int 1]))] ++ ((k, za_E ga cy zMz (2, 0, 0)) :: (zCn 0).map fun x => (ga x, za_E ga cy zMz x))) ++ [(lw, zeR cy 4 2 (fun _ => none)), (tp, zeI cy 50), (wt, zeI cy 20), (u0, .inr (2, [.int (nI 0), .ref (v0 (17, 0, 0)), .ref (v0 (18, 0, 0)), .int 0])), (v0 (17, 0, 0), zeI cy 50), (v0 (18, 0, 0), zeI cy 50)]) rfl ?_
  refine zn_aast C 28 4 31 2 rfl rfl rfl rfl (i := 0) (by decide) (by decide) dX7_init_64 (ws' := ([(h0, .inr (7, [.ref k, .ref lw, .ref tp, .ref wt, .int 0, .int 0, .int 1]))] ++ ((k, za_E ga cy zMz (2, 0, 0)) :: (zCn 0).map fun x => (ga x, za_E ga cy zMz x))) ++ [(lw, zeR cy 4 2 (va_up (fun _ => none) 0 (some u0))), (tp, zeI cy 50), (wt, zeI cy 20), (u0, .inr (2, [.int (nI 0), .ref (v0 (17, 0, 0)), .ref (v0 (18, 0, 0)), .int 0])), (v0 (17, 0, 0), zeI cy 50), (v0 (18, 0, 0), zeI cy 50)]) rfl ?_
  refine zn_iinc C (v := nI 1) 1 _ dX7_init_65 rfl (by decide) (by decide) rfl ?_
  refine zn_goto C 46 dX7_init_68 (by decide) ?_
  refine zn_sub [1, 0] (lv' := [(0, .ref h0), (1, .int (nI 1))]) rfl ?_
  refine zn_iload_n C 1 dX7_init_46 rfl rfl ?_
  refine zn_iconst C (v := nI 2) dX7_init_47 (by decide) ?_
  refine zn_icmp_ge C 71 dX7_init_48 (by decide) (fun q => absurd q (by decide)) (fun _ => ?_)
  refine zn_aload_n C 0 dX7_init_51 rfl rfl ?_
  refine zn_get C 0 rfl pf_X7_20 rfl dX7_init_52 ?_
  refine zn_iload_n C 1 dX7_init_55 rfl rfl ?_
  refine zn_new C (ci := 2) (fs := [.int 0, .null, .null, .int 0]) gin_X2 tyX2 tyX2_ok v_cX7_18 v_nX2 v_iX2 rfl (fun j hj => by rcases (show j = 0 ∨ j = 1 ∨ j = 2 ∨ j = 3 by omega) with rfl | rfl | rfl | rfl <;> rfl) (Nat.le_of_ble_eq_true rfl) (Nat.le_of_ble_eq_true rfl) dX7_init_56 (fun u1 => ?_)
  refine zn_dup C dX7_init_59 rfl ?_
  refine zn_iload_n C 1 dX7_init_60 rfl rfl ?_
  have hu1 := n_X2 (l := l) (sa := sa) (D := D) (cy := cy) (u := nI 1)
  refine zn_call C [.int (nI 1)] hu1 rfl vy_X2 v_lX7_35 v_mX2 (Nat.le_of_ble_eq_true rfl) (by exact ⟨(Nat.le_of_ble_eq_true rfl), (Nat.le_of_ble_eq_true rfl)⟩) (by exact ⟨(Nat.le_of_ble_eq_true rfl), (Nat.le_of_ble_eq_true rfl)⟩) dX7_init_61 rfl rfl (fun v1 => ?_)
  refine zn_ws (ws' := ([(h0, .inr (7, [.ref k, .ref lw, .ref tp, .ref wt, .int 0, .int 0, .int 1]))] ++ ((k, za_E ga cy zMz (2, 0, 0)) :: (zCn 0).map fun x => (ga x, za_E ga cy zMz x))) ++ [(lw, zeR cy 4 2 (va_up (fun _ => none) 0 (some u0))), (tp, zeI cy 50), (wt, zeI cy 20), (u0, .inr (2, [.int (nI 0), .ref (v0 (17, 0, 0)), .ref (v0 (18, 0, 0)), .int 0])), (v0 (17, 0, 0), zeI cy 50), (v0 (18, 0, 0), zeI cy 50), (u1, .inr (2, [.int (nI 1), .ref (v1 (17, 0, 0)), .ref (v1 (18, 0, 0)), .int 0])), (v1 (17, 0, 0), zeI cy 50), (v1 (18, 0, 0), zeI cy 50)]) rfl ?_
  refine zn_aast C 28 4 34 2 rfl rfl rfl rfl (i := 1) (by decide) (by decide) dX7_init_64 (ws' := ([(h0, .inr (7, [.ref k, .ref lw, .ref tp, .ref wt, .int 0, .int 0, .int 1]))] ++ ((k, za_E ga cy zMz (2, 0, 0)) :: (zCn 0).map fun x => (ga x, za_E ga cy zMz x))) ++ [(lw, zeR cy 4 2 (va_up (va_up (fun _ => none) 0 (some u0)) 1 (some u1))), (tp, zeI cy 50), (wt, zeI cy 20), (u0, .inr (2, [.int (nI 0), .ref (v0 (17, 0, 0)), .ref (v0 (18, 0, 0)), .int 0])), (v0 (17, 0, 0), zeI cy 50), (v0 (18, 0, 0), zeI cy 50), (u1, .inr (2, [.int (nI 1), .ref (v1 (17, 0, 0)), .ref (v1 (18, 0, 0)), .int 0])), (v1 (17, 0, 0), zeI cy 50), (v1 (18, 0, 0), zeI cy 50)]) rfl ?_
  refine zn_iinc C (v := nI 2) 1 _ dX7_init_65 rfl (by decide) (by decide) rfl ?_
  refine zn_goto C 46 dX7_init_68 (by decide) ?_
  refine zn_sub [1, 0] (lv' := [(0, .ref h0), (1, .int (nI 2))]) rfl ?_
  refine zn_iload_n C 1 dX7_init_46 rfl rfl ?_
  refine zn_iconst C (v := nI 2) dX7_init_47 (by decide) ?_
  refine zn_icmp_ge C 71 dX7_init_48 (by decide) (fun _ => ?_) (fun q => absurd (by decide) q)
  refine zn_vret C (fun n => match n.1 with
    | 2 => k
    | 14 => lw
    | 15 => tp
    | 16 => wt
    | 6 => (match n.2.2 with | 0 => u0 | _ => u1)
    | 17 => (match n.2.2 with | 0 => v0 (17, 0, 0) | _ => v1 (17, 0, 0))
    | 18 => (match n.2.2 with | 0 => v0 (18, 0, 0) | _ => v1 (18, 0, 0))
    | _ => ga (n.1, 0, n.2.2)) hr hk dX7_init_71 (fun H hP hD => ⟨?_, ?_⟩)
  · have h1 := zn_Pa hP 28 rfl (g := fun j => some ((fun n => match n.1 with     | 2 => k     | 14 => lw     | 15 => tp     | 16 => wt     | 6 => (match n.2.2 with | 0 => u0 | _ => u1)     | 17 => (match n.2.2 with | 0 => v0 (17, 0, 0) | _ => v1 (17, 0, 0))     | 18 => (match n.2.2 with | 0 => v0 (18, 0, 0) | _ => v1 (18, 0, 0))     | _ => ga (n.1, 0, n.2.2)) (6, 0, j))) (fun j hj => by rcases (show j = 0 ∨ j = 1 by omega) with rfl | rfl <;> rfl) rfl
    exact h1
  · exact (hD.set (p := 28) rfl))

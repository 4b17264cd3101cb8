/-! constructors: the county -/
def zCn (c : Nat) : List za_L := [(10, c, 0), (11, c, 0), (12, c, 0), (3, c, 0), (3, c, 1), (3, c, 2), (3, c, 3), (3, c, 4), (4, c, 0), (13, c, 0), (4, c, 1), (13, c, 1), (4, c, 2), (13, c, 2), (4, c, 3), (13, c, 3), (5, c, 0), (5, c, 1), (5, c, 2), (5, c, 3), (5, c, 4), (5, c, 5), (5, c, 6), (5, c, 7), (5, c, 8), (5, c, 9)]
set_option maxRecDepth 100000 in
set_option maxHeartbeats 4000000 in
theorem n_X1 {l : Launch} {sa : Nat → Nat} {D : va_G} {cy : Nat → ClassId} : zn_M l sa D cy yX1_init cX1_init 2 2 48 26 121 (.inr (1, [.null, .null, .null, .int 0, .int 0, .int 0, .int 0])) [] (fun h a => (h, za_E a cy zMz (2, 0, 0)) :: (zCn 0).map fun x => (a x, za_E a cy zMz x)) := zn_open (by decide) (fun h0 => (Nat.le_of_ble_eq_true rfl)) rfl (fun p e s m args below meth c h0 A C hin hr hk => by
  refine zn_aload_n C 0 dX1_init_0 rfl rfl ?_
  refine zn_obj C v_oX1 v_oi v_oc dX1_init_1 (Nat.le_of_ble_eq_true rfl) (Nat.le_of_ble_eq_true rfl) ?_
  refine zn_aload_n C 0 dX1_init_4 rfl rfl ?_
  refine zn_iconst C (v := nI 5) dX1_init_5 (by decide) ?_
  refine zn_newq C 5 1 rfl v_cX1_9 (by decide) (nI_pos (by decide)) (nI_clamp (by decide)) (Nat.le_of_ble_eq_true rfl) (Nat.le_of_ble_eq_true rfl) (Nat.le_of_ble_eq_true rfl) dX1_init_6 (fun x => ?_)
  refine zn_putF C hin 0 rfl pf_X1_11 vt_X1_0 rfl rfl rfl (Nat.le_of_ble_eq_true rfl) dX1_init_9 (ws' := [(h0, .inr (1, [.ref x, .null, .null, .int 0, .int 0, .int 0, .int 0])), (x, zeR cy 1 5 (fun _ => none))]) rfl ?_
  refine zn_aload_n C 0 dX1_init_12 rfl rfl ?_
  refine zn_iconst C (v := nI 4) dX1_init_13 (by decide) ?_
  refine zn_newq C 4 2 rfl v_cX1_17 (by decide) (nI_pos (by decide)) (nI_clamp (by decide)) (Nat.le_of_ble_eq_true rfl) (Nat.le_of_ble_eq_true rfl) (Nat.le_of_ble_eq_true rfl) dX1_init_14 (fun y => ?_)
  refine zn_putF C hin 0 rfl pf_X1_19 vt_X1_1 rfl rfl rfl (Nat.le_of_ble_eq_true rfl) dX1_init_17 (ws' := [(h0, .inr (1, [.ref x, .ref y, .null, .int 0, .int 0, .int 0, .int 0])), (x, zeR cy 1 5 (fun _ => none)), (y, zeR cy 2 4 (fun _ => none))]) rfl ?_
  refine zn_aload_n C 0 dX1_init_20 rfl rfl ?_
  refine zn_bipush C (v := nI 10) dX1_init_21 (by decide) ?_
  refine zn_newq C 10 3 rfl v_cX1_23 (by decide) (nI_pos (by decide)) (nI_clamp (by decide)) (Nat.le_of_ble_eq_true rfl) (Nat.le_of_ble_eq_true rfl) (Nat.le_of_ble_eq_true rfl) dX1_init_23 (fun z => ?_)
  refine zn_putF C hin 0 rfl pf_X1_25 vt_X1_2 rfl rfl rfl (Nat.le_of_ble_eq_true rfl) dX1_init_26 (ws' := [(h0, .inr (1, [.ref x, .ref y, .ref z, .int 0, .int 0, .int 0, .int 0])), (x, zeR cy 1 5 (fun _ => none)), (y, zeR cy 2 4 (fun _ => none)), (z, zeR cy 3 10 (fun _ => none))]) rfl ?_
  refine zn_iconst C (v := nI 0) dX1_init_29 (by decide) ?_
  refine zn_istore_n C _ dX1_init_30 rfl (by decide) rfl ?_
  refine zn_sub [1, 0] (lv' := [(0, .ref h0), (1, .int (nI 0))]) rfl ?_
  refine zn_iload_n C 1 dX1_init_31 rfl rfl ?_
  refine zn_iconst C (v := nI 5) dX1_init_32 (by decide) ?_
  refine zn_icmp_ge C 55 dX1_init_33 (by decide) (fun q => absurd q (by decide)) (fun _ => ?_)
  refine zn_aload_n C 0 dX1_init_36 rfl rfl ?_
  refine zn_get C 0 rfl pf_X1_11 rfl dX1_init_37 ?_
  refine zn_iload_n C 1 dX1_init_40 rfl rfl ?_
  refine zn_new C (ci := 0) (fs := [.int 0, .int 0, .int 0, .int 0]) gin_X0 tyX0 tyX0_ok v_cX1_9 v_nX0 v_iX0 rfl (fun j hj => by rcases (show j = 0 ∨ j = 1 ∨ j = 2 ∨ j = 3 by omega) with rfl | rfl | rfl | rfl <;> rfl) (Nat.le_of_ble_eq_true rfl) (Nat.le_of_ble_eq_true rfl) dX1_init_41 (fun a0 => ?_)
  refine zn_dup C dX1_init_44 rfl ?_
  refine zn_callN C [] n_X0 rfl vy_X0 (by decide +kernel) v_mX0 (Nat.le_of_ble_eq_true rfl) (by exact ⟨(Nat.le_of_ble_eq_true rfl), (Nat.le_of_ble_eq_true rfl)⟩) (by exact ⟨(Nat.le_of_ble_eq_true rfl), (Nat.le_of_ble_eq_true rfl)⟩) dX1_init_45 rfl rfl (fun ua0 => ?_)
  refine zn_ws (ws' := [(h0, .inr (1, [.ref x, .ref y, .ref z, .int 0, .int 0, .int 0, .int 0])), (x, zeR cy 1 5 (fun _ => none)), (y, zeR cy 2 4 (fun _ => none)), (z, zeR cy 3 10 (fun _ => none)), (a0, zeA)]) rfl ?_
  refine zn_aast C 1 1 4 0 rfl rfl rfl rfl (i := 0) (by decide) (by decide) dX1_init_48 (ws' := [(h0, .inr (1, [.ref x, .ref y, .ref z, .int 0, .int 0, .int 0, .int 0])), (x, zeR cy 1 5 (va_up (fun _ => none) 0 (some a0))), (y, zeR cy 2 4 (fun _ => none)), (z, zeR cy 3 10 (fun _ => none)), (a0, zeA)]) rfl ?_
  refine zn_iinc C (v := nI 1) 1 _ dX1_init_49 rfl (by decide) (by decide) rfl ?_
  refine zn_goto C 31 dX1_init_52 (by decide) ?_
  refine zn_sub [1, 0] (lv' := [(0, .ref h0), (1, .int (nI 1))]) rfl ?_
  refine zn_iload_n C 1 dX1_init_31 rfl rfl ?_
  refine zn_iconst C (v := nI 5) dX1_init_32 (by decide) ?_
  refine zn_icmp_ge C 55 dX1_init_33 (by decide) (fun q => absurd q (by decide)) (fun _ => ?_)
  refine zn_aload_n C 0 dX1_init_36 rfl rfl ?_
  refine zn_get C 0 rfl pf_X1_11 rfl dX1_init_37 ?_
  refine zn_iload_n C 1 dX1_init_40 rfl rfl ?_
  refine zn_new C (ci := 0) (fs := [.int 0, .int 0, .int 0, .int 0]) gin_X0 tyX0 tyX0_ok v_cX1_9 v_nX0 v_iX0 rfl (fun j hj => by rcases (show j = 0 ∨ j = 1 ∨ j = 2 ∨ j = 3 by omega) with rfl | rfl | rfl | rfl <;> rfl) (Nat.le_of_ble_eq_true rfl) (Nat.le_of_ble_eq_true rfl) dX1_init_41 (fun a1 => ?_)
  refine zn_dup C dX1_init_44 rfl ?_
  refine zn_callN C [] n_X0 rfl vy_X0 (by decide +kernel) v_mX0 (Nat.le_of_ble_eq_true rfl) (by exact ⟨(Nat.le_of_ble_eq_true rfl), (Nat.le_of_ble_eq_true rfl)⟩) (by exact ⟨(Nat.le_of_ble_eq_true rfl), (Nat.le_of_ble_eq_true rfl)⟩) dX1_init_45 rfl rfl (fun ua1 => ?_)
  refine zn_ws (ws' := [(h0, .inr (1, [.ref x, .ref y, .ref z, .int 0, .int 0, .int 0, .int 0])), (x, zeR cy 1 5 (va_up (fun _ => none) 0 (some a0))), (y, zeR cy 2 4 (fun _ => none)), (z, zeR cy 3 10 (fun _ => none)), (a0, zeA), (a1, zeA)]) rfl ?_
  refine zn_aast C 1 1 5 0 rfl rfl rfl rfl (i := 1) (by decide) (by decide) dX1_init_48 (ws' := [(h0, .inr (1, [.ref x, .ref y, .ref z, .int 0, .int 0, .int 0, .int 0])), (x, zeR cy 1 5 (va_up (va_up (fun _ => none) 0 (some a0)) 1 (some a1))), (y, zeR cy 2 4 (fun _ => none)), (z, zeR cy 3 10 (fun _ => none)), (a0, zeA), (a1, zeA)]) rfl ?_
  refine zn_iinc C (v := nI 2) 1 _ dX1_init_49 rfl (by decide) (by decide) rfl ?_
  refine zn_goto C 31 dX1_init_52 (by decide) ?_
  refine zn_sub [1, 0] (lv' := [(0, .ref h0), (1, .int (nI 2))]) rfl ?_
  refine zn_iload_n C 1 dX1_init_31 rfl rfl ?_
  refine zn_iconst C (v := nI 5) dX1_init_32 (by decide) ?_
  refine zn_icmp_ge C 55 dX1_init_33 (by decide) (fun q => absurd q (by decide)) (fun _ => ?_)
  refine zn_aload_n C 0 dX1_init_36 rfl rfl ?_
  refine zn_get C 0 rfl pf_X1_11 rfl dX1_init_37 ?_
  refine zn_iload_n C 1 dX1_init_40 rfl rfl ?_
  refine zn_new C (ci := 0) (fs := [.int 0, .int 0, .int 0, .int 0]) gin_X0 tyX0 tyX0_ok v_cX1_9 v_nX0 v_iX0 rfl (fun j hj => by rcases (show j = 0 ∨ j = 1 ∨ j = 2 ∨ j = 3 by omega) with rfl | rfl | rfl | rfl <;> rfl) (Nat.le_of_ble_eq_true rfl) (Nat.le_of_ble_eq_true rfl) dX1_init_41 (fun a2 => ?_)
  refine zn_dup C dX1_init_44 rfl ?_
  refine zn_callN C [] n_X0 rfl vy_X0 (by decide +kernel) v_mX0 (Nat.le_of_ble_eq_true rfl) (by exact ⟨(Nat.le_of_ble_eq_true rfl), (Nat.le_of_ble_eq_true rfl)⟩) (by exact ⟨(Nat.le_of_ble_eq_true rfl), (Nat.le_of_ble_eq_true rfl)⟩) dX1_init_45 rfl rfl (fun ua2 => ?_)
  refine zn_ws (ws' := [(h0, .inr (1, [.ref x, .ref y, .ref z, .int 0, .int 0, .int 0, .int 0])), (x, zeR cy 1 5 (va_up (va_up (fun _ => none) 0 (some a0)) 1 (some a1))), (y, zeR cy 2 4 (fun _ => none)), (z, zeR cy 3 10 (fun _ => none)), (a0, zeA), (a1, zeA), (a2, zeA)]) rfl ?_
  refine zn_aast C 1 1 6 0 rfl rfl rfl rfl (i := 2) (by decide) (by decide) dX1_init_48 (ws' := [(h0, .inr (1, [.ref x, .ref y, .ref z, .int 0, .int 0, .int 0, .int 0])), (x, zeR cy 1 5 (va_up (va_up (va_up (fun _ => none) 0 (some a0)) 1 (some a1)) 2 (some a2))), (y, zeR cy 2 4 (fun _ => none)), (z, zeR cy 3 10 (fun _ => none)), (a0, zeA), (a1, zeA), (a2, zeA)]) rfl ?_
  refine zn_iinc C (v := nI 3) 1 _ dX1_init_49 rfl (by decide) (by decide) rfl ?_
  refine zn_goto C 31 dX1_init_52 (by decide) ?_
  refine zn_sub [1, 0] (lv' := [(0, .ref h0), (1, .int (nI 3))]) rfl ?_
  refine zn_iload_n C 1 dX1_init_31 rfl rfl ?_
  refine zn_iconst C (v := nI 5) dX1_init_32 (by decide) ?_
  refine zn_icmp_ge C 55 dX1_init_33 (by decide) (fun q => absurd q (by decide)) (fun _ => ?_)
  refine zn_aload_n C 0 dX1_init_36 rfl rfl ?_
  refine zn_get C 0 rfl pf_X1_11 rfl dX1_init_37 ?_
  refine zn_iload_n C 1 dX1_init_40 rfl rfl ?_
  refine zn_new C (ci := 0) (fs := [.int 0, .int 0, .int 0, .int 0]) gin_X0 tyX0 tyX0_ok v_cX1_9 v_nX0 v_iX0 rfl (fun j hj => by rcases (show j = 0 ∨ j = 1 ∨ j = 2 ∨ j = 3 by omega) with rfl | rfl | rfl | rfl <;> rfl) (Nat.le_of_ble_eq_true rfl) (Nat.le_of_ble_eq_true rfl) dX1_init_41 (fun a3 => ?_)
  refine zn_dup C dX1_init_44 rfl ?_
  refine zn_callN C [] n_X0 rfl vy_X0 (by decide +kernel) v_mX0 (Nat.le_of_ble_eq_true rfl) (by exact ⟨(Nat.le_of_ble_eq_true rfl), (Nat.le_of_ble_eq_true rfl)⟩) (by exact ⟨(Nat.le_of_ble_eq_true rfl), (Nat.le_of_ble_eq_true rfl)⟩) dX1_init_45 rfl rfl (fun ua3 => ?_)
  refine zn_ws (ws' := [(h0, .inr (1, [.ref x, .ref y, .ref z, .int 0, .int 0, .int 0, .int 0])), (x, zeR cy 1 5 (va_up (va_up (va_up (fun _ => none) 0 (some a0)) 1 (some a1)) 2 (some a2))), (y, zeR cy 2 4 (fun _ => none)), (z, zeR cy 3 10 (fun _ => none)), (a0, zeA), (a1, zeA), (a2, zeA), (a3, zeA)]) rfl ?_
  refine zn_aast C 1 1 7 0 rfl rfl rfl rfl (i := 3) (by decide) (by decide) dX1_init_48 (ws' := [(h0, .inr (1, [.ref x, .ref y, .ref z, .int 0, .int 0, .int 0, .int 0])), (x, zeR cy 1 5 (va_up (va_up (va_up (va_up (fun _ => none) 0 (some a0)) 1 (some a1)) 2 (some a2)) 3 (some a3))), (y, zeR cy 2 4 (fun _ => none)), (z, zeR cy 3 10 (fun _ => none)), (a0, zeA), (a1, zeA), (a2, zeA), (a3, zeA)]) rfl ?_
  refine zn_iinc C (v := nI 4) 1 _ dX1_init_49 rfl (by decide) (by decide) rfl ?_
  refine zn_goto C 31 dX1_init_52 (by decide) ?_
  refine zn_sub [1, 0] (lv' := [(0, .ref h0), (1, .int (nI 4))]) rfl ?_
  refine zn_iload_n C 1 dX1_init_31 rfl rfl ?_
  refine zn_iconst C (v := nI 5) dX1_init_32 (by decide) ?_
  refine zn_icmp_ge C 55 dX1_init_33 (by decide) (fun q => absurd q (by decide)) (fun _ => ?_)
  refine zn_aload_n C 0 dX1_init_36 rfl rfl ?_
  refine zn_get C 0 rfl pf_X1_11 rfl dX1_init_37 ?_
  refine zn_iload_n C 1 dX1_init_40 rfl rfl ?_
  refine zn_new C (ci := 0) (fs := [.int 0, .int 0, .int 0, .int 0]) gin_X0 tyX0 tyX0_ok v_cX1_9 v_nX0 v_iX0 rfl (fun j hj => by rcases (show j = 0 ∨ j = 1 ∨ j = 2 ∨ j = 3 by omega) with rfl | rfl | rfl | rfl <;> rfl) (Nat.le_of_ble_eq_true rfl) (Nat.le_of_ble_eq_true rfl) dX1_init_41 (fun a4 => ?_)
  refine zn_dup C dX1_init_44 rfl ?_
  refine zn_callN C [] n_X0 rfl vy_X0 (by decide +kernel) v_mX0 (Nat.le_of_ble_eq_true rfl) (by exact ⟨(Nat.le_of_ble_eq_true rfl), (Nat.le_of_ble_eq_true rfl)⟩) (by exact ⟨(Nat.le_of_ble_eq_true rfl), (Nat.le_of_ble_eq_true rfl)⟩) dX1_init_45 rfl rfl (fun ua4 => ?_)
  refine zn_ws (ws' := [(h0, .inr (1, [.ref x, .ref y, .ref z, .int 0, .int 0, .int 0, .int 0])), (x, zeR cy 1 5 (va_up (va_up (va_up (va_up (fun _ => none) 0 (some a0)) 1 (some a1)) 2 (some a2)) 3 (some a3))), (y, zeR cy 2 4 (fun _ => none)), (z, zeR cy 3 10 (fun _ => none)), (a0, zeA), (a1, zeA), (a2, zeA), (a3, zeA), (a4, zeA)]) rfl ?_
  refine zn_aast C 1 1 8 0 rfl rfl rfl rfl (i := 4) (by decide) (by decide) dX1_init_48 (ws' := [(h0, .inr (1, [.ref x, .ref y, .ref z, .int 0, .int 0, .int 0, .int 0])), (x, zeR cy 1 5 (va_up (va_up (va_up (va_up (va_up (fun _ => none) 0 (some a0)) 1 (some a1)) 2 (some a2)) 3 (some a3)) 4 (some a4))), (y, zeR cy 2 4 (fun _ => none)), (z, zeR cy 3 10 (fun _ => none)), (a0, zeA), (a1, zeA), (a2, zeA), (a3, zeA), (a4, zeA)]) rfl ?_
  refine zn_iinc C (v := nI 5) 1 _ dX1_init_49 rfl (by decide) (by decide) rfl ?_
  refine zn_goto C 31 dX1_init_52 (by decide) ?_
  refine zn_sub [1, 0] (lv' := [(0, .ref h0), (1, .int (nI 5))]) rfl ?_
  refine zn_iload_n C 1 dX1_init_31 rfl rfl ?_
  refine zn_iconst C (v := nI 5) dX1_init_32 (by decide) ?_
  refine zn_icmp_ge C 55 dX1_init_33 (by decide) (fun _ => ?_) (fun q => absurd (by decide) q)
  refine zn_iconst C (v := nI 0) dX1_init_55 (by decide) ?_
  refine zn_istore_n C _ dX1_init_56 rfl (by decide) rfl ?_
  refine zn_sub [1, 0] (lv' := [(0, .ref h0), (1, .int (nI 0))]) rfl ?_
  refine zn_iload_n C 1 dX1_init_57 rfl rfl ?_
  refine zn_iconst C (v := nI 4) dX1_init_58 (by decide) ?_
  refine zn_icmp_ge C 81 dX1_init_59 (by decide) (fun q => absurd q (by decide)) (fun _ => ?_)
  refine zn_aload_n C 0 dX1_init_62 rfl rfl ?_
  refine zn_get C 0 rfl pf_X1_19 rfl dX1_init_63 ?_
  refine zn_iload_n C 1 dX1_init_66 rfl rfl ?_
  refine zn_new C (ci := 4) (fs := [.null, .int 0, .int 0]) gin_X4 tyX4 tyX4_ok v_cX1_17 v_nX4 v_iX4 rfl (fun j hj => by rcases (show j = 0 ∨ j = 1 ∨ j = 2 by omega) with rfl | rfl | rfl <;> rfl) (Nat.le_of_ble_eq_true rfl) (Nat.le_of_ble_eq_true rfl) dX1_init_67 (fun p0 => ?_)
  refine zn_dup C dX1_init_70 rfl ?_
  refine zn_callN C [] n_X4 rfl vy_X4 (by decide +kernel) v_mX4 (Nat.le_of_ble_eq_true rfl) (by exact ⟨(Nat.le_of_ble_eq_true rfl), (Nat.le_of_ble_eq_true rfl)⟩) (by exact ⟨(Nat.le_of_ble_eq_true rfl), (Nat.le_of_ble_eq_true rfl)⟩) dX1_init_71 rfl rfl (fun w0 => ?_)
  obtain ⟨b0, hb0⟩ : ∃ b, b = w0 (13, 0, 0) := ⟨_, rfl⟩
  refine zn_ws (ws' := [(h0, .inr (1, [.ref x, .ref y, .ref z, .int 0, .int 0, .int 0, .int 0])), (x, zeR cy 1 5 (va_up (va_up (va_up (va_up (va_up (fun _ => none) 0 (some a0)) 1 (some a1)) 2 (some a2)) 3 (some a3)) 4 (some a4))), (y, zeR cy 2 4 (fun _ => none)), (z, zeR cy 3 10 (fun _ => none)), (a0, zeA), (a1, zeA), (a2, zeA), (a3, zeA), (a4, zeA), (p0, zeP b0), (b0, zeI cy 5)]) (by rw [hb0]; rfl) ?_
  refine zn_aast C 2 2 9 4 rfl rfl rfl rfl (i := 0) (by decide) (by decide) dX1_init_74 (ws' := [(h0, .inr (1, [.ref x, .ref y, .ref z, .int 0, .int 0, .int 0, .int 0])), (x, zeR cy 1 5 (va_up (va_up (va_up (va_up (va_up (fun _ => none) 0 (some a0)) 1 (some a1)) 2 (some a2)) 3 (some a3)) 4 (some a4))), (y, zeR cy 2 4 (va_up (fun _ => none) 0 (some p0))), (z, zeR cy 3 10 (fun _ => none)), (a0, zeA), (a1, zeA), (a2, zeA), (a3, zeA), (a4, zeA), (p0, zeP b0), (b0, zeI cy 5)]) rfl ?_
  refine zn_iinc C (v := nI 1) 1 _ dX1_init_75 rfl (by decide) (by decide) rfl ?_
  refine zn_goto C 57 dX1_init_78 (by decide) ?_
  refine zn_sub [1, 0] (lv' := [(0, .ref h0), (1, .int (nI 1))]) rfl ?_
  refine zn_iload_n C 1 dX1_init_57 rfl rfl ?_
  refine zn_iconst C (v := nI 4) dX1_init_58 (by decide) ?_
  refine zn_icmp_ge C 81 dX1_init_59 (by decide) (fun q => absurd q (by decide)) (fun _ => ?_)
  refine zn_aload_n C 0 dX1_init_62 rfl rfl ?_
  refine zn_get C 0 rfl pf_X1_19 rfl dX1_init_63 ?_
  refine zn_iload_n C 1 dX1_init_66 rfl rfl ?_
  refine zn_new C (ci := 4) (fs := [.null, .int 0, .int 0]) gin_X4 tyX4 tyX4_ok v_cX1_17 v_nX4 v_iX4 rfl (fun j hj => by rcases (show j = 0 ∨ j = 1 ∨ j = 2 by omega) with rfl | rfl | rfl <;> rfl) (Nat.le_of_ble_eq_true rfl) (Nat.le_of_ble_eq_true rfl) dX1_init_67 (fun p1 => ?_)
  refine zn_dup C dX1_init_70 rfl ?_
  refine zn_callN C [] n_X4 rfl vy_X4 (by decide +kernel) v_mX4 (Nat.le_of_ble_eq_true rfl) (by exact ⟨(Nat.le_of_ble_eq_true rfl), (Nat.le_of_ble_eq_true rfl)⟩) (by exact ⟨(Nat.le_of_ble_eq_true rfl), (Nat.le_of_ble_eq_true rfl)⟩) dX1_init_71 rfl rfl (fun w1 => ?_)
  obtain ⟨b1, hb1⟩ : ∃ b, b = w1 (13, 0, 0) := ⟨_, rfl⟩
  refine zn_ws (ws' := [(h0, .inr (1, [.ref x, .ref y, .ref z, .int 0, .int 0, .int 0, .int 0])), (x, zeR cy 1 5 (va_up (va_up (va_up (va_up (va_up (fun _ => none) 0 (some a0)) 1 (some a1)) 2 (some a2)) 3 (some a3)) 4 (some a4))), (y, zeR cy 2 4 (va_up (fun _ => none) 0 (some p0))), (z, zeR cy 3 10 (fun _ => none)), (a0, zeA), (a1, zeA), (a2, zeA), (a3, zeA), (a4, zeA), (p0, zeP b0), (b0, zeI cy 5), (p1, zeP b1), (b1, zeI cy 5)]) (by rw [hb1]; rfl) ?_
  refine zn_aast C 2 2 11 4 rfl rfl rfl rfl (i := 1) (by decide) (by decide) dX1_init_74 (ws' := [(h0, .inr (1, [.ref x, .ref y, .ref z, .int 0, .int 0, .int 0, .int 0])), (x, zeR cy 1 5 (va_up (va_up (va_up (va_up (va_up (fun _ => none) 0 (some a0)) 1 (some a1)) 2 (some a2)) 3 (some a3)) 4 (some a4))), (y, zeR cy 2 4 (va_up (va_up (fun _ => none) 0 (some p0)) 1 (some p1))), (z, zeR cy 3 10 (fun _ => none)), (a0, zeA), (a1, zeA), (a2, zeA), (a3, zeA), (a4, zeA), (p0, zeP b0), (b0, zeI cy 5), (p1, zeP b1), (b1, zeI cy 5)]) rfl ?_
  refine zn_iinc C (v := nI 2) 1 _ dX1_init_75 rfl (by decide) (by decide) rfl ?_
  refine zn_goto C 57 dX1_init_78 (by decide) ?_
  refine zn_sub [1, 0] (lv' := [(0, .ref h0), (1, .int (nI 2))]) rfl ?_
  refine zn_iload_n C 1 dX1_init_57 rfl rfl ?_
  refine zn_iconst C (v := nI 4) dX1_init_58 (by decide) ?_
  refine zn_icmp_ge C 81 dX1_init_59 (by decide) (fun q => absurd q (by decide)) (fun _ => ?_)
  refine zn_aload_n C 0 dX1_init_62 rfl rfl ?_
  refine zn_get C 0 rfl pf_X1_19 rfl dX1_init_63 ?_
  refine zn_iload_n C 1 dX1_init_66 rfl rfl ?_
  refine zn_new C (ci := 4) (fs := [.null, .int 0, .int 0]) gin_X4 tyX4 tyX4_ok v_cX1_17 v_nX4 v_iX4 rfl (fun j hj => by rcases (show j = 0 ∨ j = 1 ∨ j = 2 by omega) with rfl | rfl | rfl <;> rfl) (Nat.le_of_ble_eq_true rfl) (Nat.le_of_ble_eq_true rfl) dX1_init_67 (fun p2 => ?_)
  refine zn_dup C dX1_init_70 rfl ?_
  refine zn_callN C [] n_X4 rfl vy_X4 (by decide +kernel) v_mX4 (Nat.le_of_ble_eq_true rfl) (by exact ⟨(Nat.le_of_ble_eq_true rfl), (Nat.le_of_ble_eq_true rfl)⟩) (by exact ⟨(Nat.le_of_ble_eq_true rfl), (Nat.le_of_ble_eq_true rfl)⟩) dX1_init_71 rfl rfl (fun w2 => ?_)
  obtain ⟨b2, hb2⟩ : ∃ b, b = w2 (13, 0, 0) := ⟨_, rfl⟩
  refine zn_ws (ws' := [(h0, .inr (1, [.ref x, .ref y, .ref z, .int 0, .int 0, .int 0, .int 0])), (x, zeR cy 1 5 (va_up (va_up (va_up (va_up (va_up (fun _ => none) 0 (some a0)) 1 (some a1)) 2 (some a2)) 3 (some a3)) 4 (some a4))), (y, zeR cy 2 4 (va_up (va_up (fun _ => none) 0 (some p0)) 1 (some p1))), (z, zeR cy 3 10 (fun _ => none)), (a0, zeA), (a1, zeA), (a2, zeA), (a3, zeA), (a4, zeA), (p0, zeP b0), (b0, zeI cy 5), (p1, zeP b1), (b1, zeI cy 5), (p2, zeP b2), (b2, zeI cy 5)]) (by rw [hb2]; rfl) ?_
  refine zn_aast C 2 2 13 4 rfl rfl rfl rfl (i := 2) (by decide) (by decide) dX1_init_74 (ws' := [(h0, .inr (1, [.ref x, .ref y, .ref z, .int 0, .int 0, .int 0, .int 0])), (x, zeR cy 1 5 (va_up (va_up (va_up (va_up (va_up (fun _ => none) 0 (some a0)) 1 (some a1)) 2 (some a2)) 3 (some a3)) 4 (some a4))), (y, zeR cy 2 4 (va_up (va_up (va_up (fun _ => none) 0 (some p0)) 1 (some p1)) 2 (some p2))), (z, zeR cy 3 10 (fun _ => none)), (a0, zeA), (a1, zeA), (a2, zeA), (a3, zeA), (a4, zeA), (p0, zeP b0), (b0, zeI cy 5), (p1, zeP b1), (b1, zeI cy 5), (p2, zeP b2), (b2, zeI cy 5)]) rfl ?_
  refine zn_iinc C (v := nI 3) 1 _ dX1_init_75 rfl (by decide) (by decide) rfl ?_
  refine zn_goto C 57 dX1_init_78 (by decide) ?_
  refine zn_sub [1, 0] (lv' := [(0, .ref h0), (1, .int (nI 3))]) rfl ?_
  refine zn_iload_n C 1 dX1_init_57 rfl rfl ?_
  refine zn_iconst C (v := nI 4) dX1_init_58 (by decide) ?_
  refine zn_icmp_ge C 81 dX1_init_59 (by decide) (fun q => absurd q (by decide)) (fun _ => ?_)
  refine zn_aload_n C 0 dX1_init_62 rfl rfl ?_
  refine zn_get C 0 rfl pf_X1_19 rfl dX1_init_63 ?_
  refine zn_iload_n C 1 dX1_init_66 rfl rfl ?_
  refine zn_new C (ci := 4) (fs := [.null, .int 0, .int 0]) gin_X4 tyX4 tyX4_ok v_cX1_17 v_nX4 v_iX4 rfl (fun j hj => by rcases (show j = 0 ∨ j = 1 ∨ j = 2 by omega) with rfl | rfl | rfl <;> rfl) (Nat.le_of_ble_eq_true rfl) (Nat.le_of_ble_eq_true rfl) dX1_init_67 (fun p3 => ?_)
  refine zn_dup C dX1_init_70 rfl ?_
  refine zn_callN C [] n_X4 rfl vy_X4 (by decide +kernel) v_mX4 (Nat.le_of_ble_eq_true rfl) (by exact ⟨(Nat.le_of_ble_eq_true rfl), (Nat.le_of_ble_eq_true rfl)⟩) (by exact ⟨(Nat.le_of_ble_eq_true rfl), (Nat.le_of_ble_eq_true rfl)⟩) dX1_init_71 rfl rfl (fun w3 => ?_)
  obtain ⟨b3, hb3⟩ : ∃ b, b = w3 (13, 0, 0) := ⟨_, rfl⟩
  refine zn_ws (ws' := [(h0, .inr (1, [.ref x, .ref y, .ref z, .int 0, .int 0, .int 0, .int 0])), (x, zeR cy 1 5 (va_up (va_up (va_up (va_up (va_up (fun _ => none) 0 (some a0)) 1 (some a1)) 2 (some a2)) 3 (some a3)) 4 (some a4))), (y, zeR cy 2 4 (va_up (va_up (va_up (fun _ => none) 0 (some p0)) 1 (some p1)) 2 (some p2))), (z, zeR cy 3 10 (fun _ => none)), (a0, zeA), (a1, zeA), (a2, zeA), (a3, zeA), (a4, zeA), (p0, zeP b0), (b0, zeI cy 5), (p1, zeP b1), (b1, zeI cy 5), (p2, zeP b2), (b2, zeI cy 5), (p3, zeP b3), (b3, zeI cy 5)]) (by rw [hb3]; rfl) ?_
  refine zn_aast C 2 2 15 4 rfl rfl rfl rfl (i := 3) (by decide) (by decide) dX1_init_74 (ws' := [(h0, .inr (1, [.ref x, .ref y, .ref z, .int 0, .int 0, .int 0, .int 0])), (x, zeR cy 1 5 (va_up (va_up (va_up (va_up (va_up (fun _ => none) 0 (some a0)) 1 (some a1)) 2 (some a2)) 3 (some a3)) 4 (some a4))), (y, zeR cy 2 4 (va_up (va_up (va_up (va_up (fun _ => none) 0 (some p0)) 1 (some p1)) 2 (some p2)) 3 (some p3))), (z, zeR cy 3 10 (fun _ => none)), (a0, zeA), (a1, zeA), (a2, zeA), (a3, zeA), (a4, zeA), (p0, zeP b0), (b0, zeI cy 5), (p1, zeP b1), (b1, zeI cy 5), (p2, zeP b2), (b2, zeI cy 5), (p3, zeP b3), (b3, zeI cy 5)]) rfl ?_
  refine zn_iinc C (v := nI 4) 1 _ dX1_init_75 rfl (by decide) (by decide) rfl ?_
  refine zn_goto C 57 dX1_init_78 (by decide) ?_
  refine zn_sub [1, 0] (lv' := [(0, .ref h0), (1, .int (nI 4))]) rfl ?_
  refine zn_iload_n C 1 dX1_init_57 rfl rfl ?_
  refine zn_iconst C (v := nI 4) dX1_init_58 (by decide) ?_
  refine zn_icmp_ge C 81 dX1_init_59 (by decide) (fun _ => ?_) (fun q => absurd (by decide) q)
  refine zn_iconst C (v := nI 0) dX1_init_81 (by decide) ?_
  refine zn_istore_n C _ dX1_init_82 rfl (by decide) rfl ?_
  refine zn_sub [1, 0] (lv' := [(0, .ref h0), (1, .int (nI 0))]) rfl ?_
  refine zn_iload_n C 1 dX1_init_83 rfl rfl ?_
  refine zn_bipush C (v := nI 10) dX1_init_84 (by decide) ?_
  refine zn_icmp_ge C 108 dX1_init_86 (by decide) (fun q => absurd q (by decide)) (fun _ => ?_)
  refine zn_aload_n C 0 dX1_init_89 rfl rfl ?_
  refine zn_get C 0 rfl pf_X1_25 rfl dX1_init_90 ?_
  refine zn_iload_n C 1 dX1_init_93 rfl rfl ?_
  refine zn_new C (ci := 3) (fs := [.int 0, .int 0, .int 0, .int 0, .int 0]) gin_X3 tyX3 tyX3_ok v_cX1_23 v_nX3 v_iX3 rfl (fun j hj => by rcases (show j = 0 ∨ j = 1 ∨ j = 2 ∨ j = 3 ∨ j = 4 by omega) with rfl | rfl | rfl | rfl | rfl <;> rfl) (Nat.le_of_ble_eq_true rfl) (Nat.le_of_ble_eq_true rfl) dX1_init_94 (fun l0 => ?_)
  refine zn_dup C dX1_init_97 rfl ?_
  refine zn_callN C [] n_X3 rfl vy_X3 (by decide +kernel) v_mX3 (Nat.le_of_ble_eq_true rfl) (by exact ⟨(Nat.le_of_ble_eq_true rfl), (Nat.le_of_ble_eq_true rfl)⟩) (by exact ⟨(Nat.le_of_ble_eq_true rfl), (Nat.le_of_ble_eq_true rfl)⟩) dX1_init_98 rfl rfl (fun ul0 => ?_)
  refine zn_ws (ws' := [(h0, .inr (1, [.ref x, .ref y, .ref z, .int 0, .int 0, .int 0, .int 0])), (x, zeR cy 1 5 (va_up (va_up (va_up (va_up (va_up (fun _ => none) 0 (some a0)) 1 (some a1)) 2 (some a2)) 3 (some a3)) 4 (some a4))), (y, zeR cy 2 4 (va_up (va_up (va_up (va_up (fun _ => none) 0 (some p0)) 1 (some p1)) 2 (some p2)) 3 (some p3))), (z, zeR cy 3 10 (fun _ => none)), (a0, zeA), (a1, zeA), (a2, zeA), (a3, zeA), (a4, zeA), (p0, zeP b0), (b0, zeI cy 5), (p1, zeP b1), (b1, zeI cy 5), (p2, zeP b2), (b2, zeI cy 5), (p3, zeP b3), (b3, zeI cy 5), (l0, zeL)]) rfl ?_
  refine zn_aast C 3 3 17 3 rfl rfl rfl rfl (i := 0) (by decide) (by decide) dX1_init_101 (ws' := [(h0, .inr (1, [.ref x, .ref y, .ref z, .int 0, .int 0, .int 0, .int 0])), (x, zeR cy 1 5 (va_up (va_up (va_up (va_up (va_up (fun _ => none) 0 (some a0)) 1 (some a1)) 2 (some a2)) 3 (some a3)) 4 (some a4))), (y, zeR cy 2 4 (va_up (va_up (va_up (va_up (fun _ => none) 0 (some p0)) 1 (some p1)) 2 (some p2)) 3 (some p3))), (z, zeR cy 3 10 (va_up (fun _ => none) 0 (some l0))), (a0, zeA), (a1, zeA), (a2, zeA), (a3, zeA), (a4, zeA), (p0, zeP b0), (b0, zeI cy 5), (p1, zeP b1), (b1, zeI cy 5), (p2, zeP b2), (b2, zeI cy 5), (p3, zeP b3), (b3, zeI cy 5), (l0, zeL)]) rfl ?_
  refine zn_iinc C (v := nI 1) 1 _ dX1_init_102 rfl (by decide) (by decide) rfl ?_
  refine zn_goto C 83 dX1_init_105 (by decide) ?_
  refine zn_sub [1, 0] (lv' := [(0, .ref h0), (1, .int (nI 1))]) rfl ?_
  refine zn_iload_n C 1 dX1_init_83 rfl rfl ?_
  refine zn_bipush C (v := nI 10) dX1_init_84 (by decide) ?_
  refine zn_icmp_ge C 108 dX1_init_86 (by decide) (fun q => absurd q (by decide)) (fun _ => ?_)
  refine zn_aload_n C 0 dX1_init_89 rfl rfl ?_
  refine zn_get C 0 rfl pf_X1_25 rfl dX1_init_90 ?_
  refine zn_iload_n C 1 dX1_init_93 rfl rfl ?_
  refine zn_new C (ci := 3) (fs := [.int 0, .int 0, .int 0, .int 0, .int 0]) gin_X3 tyX3 tyX3_ok v_cX1_23 v_nX3 v_iX3 rfl (fun j hj => by rcases (show j = 0 ∨ j = 1 ∨ j = 2 ∨ j = 3 ∨ j = 4 by omega) with rfl | rfl | rfl | rfl | rfl <;> rfl) (Nat.le_of_ble_eq_true rfl) (Nat.le_of_ble_eq_true rfl) dX1_init_94 (fun l1 => ?_)
  refine zn_dup C dX1_init_97 rfl ?_
  refine zn_callN C [] n_X3 rfl vy_X3 (by decide +kernel) v_mX3 (Nat.le_of_ble_eq_true rfl) (by exact ⟨(Nat.le_of_ble_eq_true rfl), (Nat.le_of_ble_eq_true rfl)⟩) (by exact ⟨(Nat.le_of_ble_eq_true rfl), (Nat.le_of_ble_eq_true rfl)⟩) dX1_init_98 rfl rfl (fun ul1 => ?_)
  refine zn_ws (ws' := [(h0, .inr (1, [.ref x, .ref y, .ref z, .int 0, .int 0, .int 0, .int 0])), (x, zeR cy 1 5 (va_up (va_up (va_up (va_up (va_up (fun _ => none) 0 (some a0)) 1 (some a1)) 2 (some a2)) 3 (some a3)) 4 (some a4))), (y, zeR cy 2 4 (va_up (va_up (va_up (va_up (fun _ => none) 0 (some p0)) 1 (some p1)) 2 (some p2)) 3 (some p3))), (z, zeR cy 3 10 (va_up (fun _ => none) 0 (some l0))), (a0, zeA), (a1, zeA), (a2, zeA), (a3, zeA), (a4, zeA), (p0, zeP b0), (b0, zeI cy 5), (p1, zeP b1), (b1, zeI cy 5), (p2, zeP b2), (b2, zeI cy 5), (p3, zeP b3), (b3, zeI cy 5), (l0, zeL), (l1, zeL)]) rfl ?_
  refine zn_aast C 3 3 18 3 rfl rfl rfl rfl (i := 1) (by decide) (by decide) dX1_init_101 (ws' := [(h0, .inr (1, [.ref x, .ref y, .ref z, .int 0, .int 0, .int 0, .int 0])), (x, zeR cy 1 5 (va_up (va_up (va_up (va_up (va_up (fun _ => none) 0 (some a0)) 1 (some a1)) 2 (some a2)) 3 (some a3)) 4 (some a4))), (y, zeR cy 2 4 (va_up (va_up (va_up (va_up (fun _ => none) 0 (some p0)) 1 (some p1)) 2 (some p2)) 3 (some p3))), (z, zeR cy 3 10 (va_up (va_up (fun _ => none) 0 (some l0)) 1 (some l1))), (a0, zeA), (a1, zeA), (a2, zeA), (a3, zeA), (a4, zeA), (p0, zeP b0), (b0, zeI cy 5), (p1, zeP b1), (b1, zeI cy 5), (p2, zeP b2), (b2, zeI cy 5), (p3, zeP b3), (b3, zeI cy 5), (l0, zeL), (l1, zeL)]) rfl ?_
  refine zn_iinc C (v := nI 2) 1 _ dX1_init_102 rfl (by decide) (by decide) rfl ?_
  refine zn_goto C 83 dX1_init_105 (by decide) ?_
  refine zn_sub [1, 0] (lv' := [(0, .ref h0), (1, .int (nI 2))]) rfl ?_
  refine zn_iload_n C 1 dX1_init_83 rfl rfl ?_
  refine zn_bipush C (v := nI 10) dX1_init_84 (by decide) ?_
  refine zn_icmp_ge C 108 dX1_init_86 (by decide) (fun q => absurd q (by decide)) (fun _ => ?_)
  refine zn_aload_n C 0 dX1_init_89 rfl rfl ?_
  refine zn_get C 0 rfl pf_X1_25 rfl dX1_init_90 ?_
  refine zn_iload_n C 1 dX1_init_93 rfl rfl ?_
  refine zn_new C (ci := 3) (fs := [.int 0, .int 0, .int 0, .int 0, .int 0]) gin_X3 tyX3 tyX3_ok v_cX1_23 v_nX3 v_iX3 rfl (fun j hj => by rcases (show j = 0 ∨ j = 1 ∨ j = 2 ∨ j = 3 ∨ j = 4 by omega) with rfl | rfl | rfl | rfl | rfl <;> rfl) (Nat.le_of_ble_eq_true rfl) (Nat.le_of_ble_eq_true rfl) dX1_init_94 (fun l2 => ?_)
  refine zn_dup C dX1_init_97 rfl ?_
  refine zn_callN C [] n_X3 rfl vy_X3 (by decide +kernel) v_mX3 (Nat.le_of_ble_eq_true rfl) (by exact ⟨(Nat.le_of_ble_eq_true rfl), (Nat.le_of_ble_eq_true rfl)⟩) (by exact ⟨(Nat.le_of_ble_eq_true rfl), (Nat.le_of_ble_eq_true rfl)⟩) dX1_init_98 rfl rfl (fun ul2 => ?_)
  refine zn_ws (ws' := [(h0, .inr (1, [.ref x, .ref y, .ref z, .int 0, .int 0, .int 0, .int 0])), (x, zeR cy 1 5 (va_up (va_up (va_up (va_up (va_up (fun _ => none) 0 (some a0)) 1 (some a1)) 2 (some a2)) 3 (some a3)) 4 (some a4))), (y, zeR cy 2 4 (va_up (va_up (va_up (va_up (fun _ => none) 0 (some p0)) 1 (some p1)) 2 (some p2)) 3 (some p3))), (z, zeR cy 3 10 (va_up (va_up (fun _ => none) 0 (some l0)) 1 (some l1))), (a0, zeA), (a1, zeA), (a2, zeA), (a3, zeA), (a4, zeA), (p0, zeP b0), (b0, zeI cy 5), (p1, zeP b1), (b1, zeI cy 5), (p2, zeP b2), (b2, zeI cy 5), (p3, zeP b3), (b3, zeI cy 5), (l0, zeL), (l1, zeL), (l2, zeL)]) rfl ?_
  refine zn_aast C 3 3 19 3 rfl rfl rfl rfl (i := 2) (by decide) (by decide) dX1_init_101 (ws' := [(h0, .inr (1, [.ref x, .ref y, .ref z, .int 0, .int 0, .int 0, .int 0])), (x, zeR cy 1 5 (va_up (va_up (va_up (va_up (va_up (fun _ => none) 0 (some a0)) 1 (some a1)) 2 (some a2)) 3 (some a3)) 4 (some a4))), (y, zeR cy 2 4 (va_up (va_up (va_up (va_up (fun _ => none) 0 (some p0)) 1 (some p1)) 2 (some p2)) 3 (some p3))), (z, zeR cy 3 10 (va_up (va_up (va_up (fun _ => none) 0 (some l0)) 1 (some l1)) 2 (some l2))), (a0, zeA), (a1, zeA), (a2, zeA), (a3, zeA), (a4, zeA), (p0, zeP b0), (b0, zeI cy 5), (p1, zeP b1), (b1, zeI cy 5), (p2, zeP b2), (b2, zeI cy 5), (p3, zeP b3), (b3, zeI cy 5), (l0, zeL), (l1, zeL), (l2, zeL)]) rfl ?_
  refine zn_iinc C (v := nI 3) 1 _ dX1_init_102 rfl (by decide) (by decide) rfl ?_
  refine zn_goto C 83 dX1_init_105 (by decide) ?_
  refine zn_sub [1, 0] (lv' := [(0, .ref h0), (1, .int (nI 3))]) rfl ?_
  refine zn_iload_n C 1 dX1_init_83 rfl rfl ?_
  refine zn_bipush C (v := nI 10) dX1_init_84 (by decide) ?_
  refine zn_icmp_ge C 108 dX1_init_86 (by decide) (fun q => absurd q (by decide)) (fun _ => ?_)
  refine zn_aload_n C 0 dX1_init_89 rfl rfl ?_
  refine zn_get C 0 rfl pf_X1_25 rfl dX1_init_90 ?_
  refine zn_iload_n C 1 dX1_init_93 rfl rfl ?_
  refine zn_new C (ci := 3) (fs := [.int 0, .int 0, .int 0, .int 0, .int 0]) gin_X3 tyX3 tyX3_ok v_cX1_23 v_nX3 v_iX3 rfl (fun j hj => by rcases (show j = 0 ∨ j = 1 ∨ j = 2 ∨ j = 3 ∨ j = 4 by omega) with rfl | rfl | rfl | rfl | rfl <;> rfl) (Nat.le_of_ble_eq_true rfl) (Nat.le_of_ble_eq_true rfl) dX1_init_94 (fun l3 => ?_)
  refine zn_dup C dX1_init_97 rfl ?_
  refine zn_callN C [] n_X3 rfl vy_X3 (by decide +kernel) v_mX3 (Nat.le_of_ble_eq_true rfl) (by exact ⟨(Nat.le_of_ble_eq_true rfl), (Nat.le_of_ble_eq_true rfl)⟩) (by exact ⟨(Nat.le_of_ble_eq_true rfl), (Nat.le_of_ble_eq_true rfl)⟩) dX1_init_98 rfl rfl (fun ul3 => ?_)
  refine zn_ws (ws' := [(h0, .inr (1, [.ref x, .ref y, .ref z, .int 0, .int 0, .int 0, .int 0])), (x, zeR cy 1 5 (va_up (va_up (va_up (va_up (va_up (fun _ => none) 0 (some a0)) 1 (some a1)) 2 (some a2)) 3 (some a3)) 4 (some a4))), (y, zeR cy 2 4 (va_up (va_up (va_up (va_up (fun _ => none) 0 (some p0)) 1 (some p1)) 2 (some p2)) 3 (some p3))), (z, zeR cy 3 10 (va_up (va_up (va_up (fun _ => none) 0 (some l0)) 1 (some l1)) 2 (some l2))), (a0, zeA), (a1, zeA), (a2, zeA), (a3, zeA), (a4, zeA), (p0, zeP b0), (b0, zeI cy 5), (p1, zeP b1), (b1, zeI cy 5), (p2, zeP b2), (b2, zeI cy 5), (p3, zeP b3), (b3, zeI cy 5), (l0, zeL), (l1, zeL), (l2, zeL), (l3, zeL)]) rfl ?_
  refine zn_aast C 3 3 20 3 rfl rfl rfl rfl (i := 3) (by decide) (by decide) dX1_init_101 (ws' := [(h0, .inr (1, [.ref x, .ref y, .ref z, .int 0, .int 0, .int 0, .int 0])), (x, zeR cy 1 5 (va_up (va_up (va_up (va_up (va_up (fun _ => none) 0 (some a0)) 1 (some a1)) 2 (some a2)) 3 (some a3)) 4 (some a4))), (y, zeR cy 2 4 (va_up (va_up (va_up (va_up (fun _ => none) 0 (some p0)) 1 (some p1)) 2 (some p2)) 3 (some p3))), (z, zeR cy 3 10 (va_up (va_up (va_up (va_up (fun _ => none) 0 (some l0)) 1 (some l1)) 2 (some l2)) 3 (some l3))), (a0, zeA), (a1, zeA), (a2, zeA), (a3, zeA), (a4, zeA), (p0, zeP b0), (b0, zeI cy 5), (p1, zeP b1), (b1, zeI cy 5), (p2, zeP b2), (b2, zeI cy 5), (p3, zeP b3), (b3, zeI cy 5), (l0, zeL), (l1, zeL), (l2, zeL), (l3, zeL)]) rfl ?_
  refine zn_iinc C (v := nI 4) 1 _ dX1_init_102 rfl (by decide) (by decide) rfl ?_
  refine zn_goto C 83 dX1_init_105 (by decide) ?_
  refine zn_sub [1, 0] (lv' := [(0, .ref h0), (1, .int (nI 4))]) rfl ?_
  refine zn_iload_n C 1 dX1_init_83 rfl rfl ?_
  refine zn_bipush C (v := nI 10) dX1_init_84 (by decide) ?_
  refine zn_icmp_ge C 108 dX1_init_86 (by decide) (fun q => absurd q (by decide)) (fun _ => ?_)
  refine zn_aload_n C 0 dX1_init_89 rfl rfl ?_
  refine zn_get C 0 rfl pf_X1_25 rfl dX1_init_90 ?_
  refine zn_iload_n C 1 dX1_init_93 rfl rfl ?_
  refine zn_new C (ci := 3) (fs := [.int 0, .int 0, .int 0, .int 0, .int 0]) gin_X3 tyX3 tyX3_ok v_cX1_23 v_nX3 v_iX3 rfl (fun j hj => by rcases (show j = 0 ∨ j = 1 ∨ j = 2 ∨ j = 3 ∨ j = 4 by omega) with rfl | rfl | rfl | rfl | rfl <;> rfl) (Nat.le_of_ble_eq_true rfl) (Nat.le_of_ble_eq_true rfl) dX1_init_94 (fun l4 => ?_)
  refine zn_dup C dX1_init_97 rfl ?_
  refine zn_callN C [] n_X3 rfl vy_X3 (by decide +kernel) v_mX3 (Nat.le_of_ble_eq_true rfl) (by exact ⟨(Nat.le_of_ble_eq_true rfl), (Nat.le_of_ble_eq_true rfl)⟩) (by exact ⟨(Nat.le_of_ble_eq_true rfl), (Nat.le_of_ble_eq_true rfl)⟩) dX1_init_98 rfl rfl (fun ul4 => ?_)
  refine zn_ws (ws' := [(h0, .inr (1, [.ref x, .ref y, .ref z, .int 0, .int 0, .int 0, .int 0])), (x, zeR cy 1 5 (va_up (va_up (va_up (va_up (va_up (fun _ => none) 0 (some a0)) 1 (some a1)) 2 (some a2)) 3 (some a3)) 4 (some a4))), (y, zeR cy 2 4 (va_up (va_up (va_up (va_up (fun _ => none) 0 (some p0)) 1 (some p1)) 2 (some p2)) 3 (some p3))), (z, zeR cy 3 10 (va_up (va_up (va_up (va_up (fun _ => none) 0 (some l0)) 1 (some l1)) 2 (some l2)) 3 (some l3))), (a0, zeA), (a1, zeA), (a2, zeA), (a3, zeA), (a4, zeA), (p0, zeP b0), (b0, zeI cy 5), (p1, zeP b1), (b1, zeI cy 5), (p2, zeP b2), (b2, zeI cy 5), (p3, zeP b3), (b3, zeI cy 5), (l0, zeL), (l1, zeL), (l2, zeL), (l3, zeL), (l4, zeL)]) rfl ?_
  refine zn_aast C 3 3 21 3 rfl rfl rfl rfl (i := 4) (by decide) (by decide) dX1_init_101 (ws' := [(h0, .inr (1, [.ref x, .ref y, .ref z, .int 0, .int 0, .int 0, .int 0])), (x, zeR cy 1 5 (va_up (va_up (va_up (va_up (va_up (fun _ => none) 0 (some a0)) 1 (some a1)) 2 (some a2)) 3 (some a3)) 4 (some a4))), (y, zeR cy 2 4 (va_up (va_up (va_up (va_up (fun _ => none) 0 (some p0)) 1 (some p1)) 2 (some p2)) 3 (some p3))), (z, zeR cy 3 10 (va_up (va_up (va_up (va_up (va_up (fun _ => none) 0 (some l0)) 1 (some l1)) 2 (some l2)) 3 (some l3)) 4 (some l4))), (a0, zeA), (a1, zeA), (a2, zeA), (a3, zeA), (a4, zeA), (p0, zeP b0), (b0, zeI cy 5), (p1, zeP b1), (b1, zeI cy 5), (p2, zeP b2), (b2, zeI cy 5), (p3, zeP b3), (b3, zeI cy 5), (l0, zeL), (l1, zeL), (l2, zeL), (l3, zeL), (l4, zeL)]) rfl ?_
  refine zn_iinc C (v := nI 5) 1 _ dX1_init_102 rfl (by decide) (by decide) rfl ?_
  refine zn_goto C 83 dX1_init_105 (by decide) ?_
  refine zn_sub [1, 0] (lv' := [(0, .ref h0), (1, .int (nI 5))]) rfl ?_
  refine zn_iload_n C 1 dX1_init_83 rfl rfl ?_
  refine zn_bipush C (v := nI 10) dX1_init_84 (by decide) ?_
  refine zn_icmp_ge C 108 dX1_init_86 (by decide) (fun q => absurd q (by decide)) (fun _ => ?_)
  refine zn_aload_n C 0 dX1_init_89 rfl rfl ?_
  refine zn_get C 0 rfl pf_X1_25 rfl dX1_init_90 ?_
  refine zn_iload_n C 1 dX1_init_93 rfl rfl ?_
  refine zn_new C (ci := 3) (fs := [.int 0, .int 0, .int 0, .int 0, .int 0]) gin_X3 tyX3 tyX3_ok v_cX1_23 v_nX3 v_iX3 rfl (fun j hj => by rcases (show j = 0 ∨ j = 1 ∨ j = 2 ∨ j = 3 ∨ j = 4 by omega) with rfl | rfl | rfl | rfl | rfl <;> rfl) (Nat.le_of_ble_eq_true rfl) (Nat.le_of_ble_eq_true rfl) dX1_init_94 (fun l5 => ?_)
  refine zn_dup C dX1_init_97 rfl ?_
  refine zn_callN C [] n_X3 rfl vy_X3 (by decide +kernel) v_mX3 (Nat.le_of_ble_eq_true rfl) (by exact ⟨(Nat.le_of_ble_eq_true rfl), (Nat.le_of_ble_eq_true rfl)⟩) (by exact ⟨(Nat.le_of_ble_eq_true rfl), (Nat.le_of_ble_eq_true rfl)⟩) dX1_init_98 rfl rfl (fun ul5 => ?_)
  refine zn_ws (ws' := [(h0, .inr (1, [.ref x, .ref y, .ref z, .int 0, .int 0, .int 0, .int 0])), (x, zeR cy 1 5 (va_up (va_up (va_up (va_up (va_up (fun _ => none) 0 (some a0)) 1 (some a1)) 2 (some a2)) 3 (some a3)) 4 (some a4))), (y, zeR cy 2 4 (va_up (va_up (va_up (va_up (fun _ => none) 0 (some p0)) 1 (some p1)) 2 (some p2)) 3 (some p3))), (z, zeR cy 3 10 (va_up (va_up (va_up (va_up (va_up (fun _ => none) 0 (some l0)) 1 (some l1)) 2 (some l2)) 3 (some l3)) 4 (some l4))), (a0, zeA), (a1, zeA), (a2, zeA), (a3, zeA), (a4, zeA), (p0, zeP b0), (b0, zeI cy 5), (p1, zeP b1), (b1, zeI cy 5), (p2, zeP b2), (b2, zeI cy 5), (p3, zeP b3), (b3, zeI cy 5), (l0, zeL), (l1, zeL), (l2, zeL), (l3, zeL), (l4, zeL), (l5, zeL)]) rfl ?_
  refine zn_aast C 3 3 22 3 rfl rfl rfl rfl (i := 5) (by decide) (by decide) dX1_init_101 (ws' := [(h0, .inr (1, [.ref x, .ref y, .ref z, .int 0, .int 0, .int 0, .int 0])), (x, zeR cy 1 5 (va_up (va_up (va_up (va_up (va_up (fun _ => none) 0 (some a0)) 1 (some a1)) 2 (some a2)) 3 (some a3)) 4 (some a4))), (y, zeR cy 2 4 (va_up (va_up (va_up (va_up (fun _ => none) 0 (some p0)) 1 (some p1)) 2 (some p2)) 3 (some p3))), (z, zeR cy 3 10 (va_up (va_up (va_up (va_up (va_up (va_up (fun _ => none) 0 (some l0)) 1 (some l1)) 2 (some l2)) 3 (some l3)) 4 (some l4)) 5 (some l5))), (a0, zeA), (a1, zeA), (a2, zeA), (a3, zeA), (a4, zeA), (p0, zeP b0), (b0, zeI cy 5), (p1, zeP b1), (b1, zeI cy 5), (p2, zeP b2), (b2, zeI cy 5), (p3, zeP b3), (b3, zeI cy 5), (l0, zeL), (l1, zeL), (l2, zeL), (l3, zeL), (l4, zeL), (l5, zeL)]) rfl ?_
  refine zn_iinc C (v := nI 6) 1 _ dX1_init_102 rfl (by decide) (by decide) rfl ?_
  refine zn_goto C 83 dX1_init_105 (by decide) ?_
  refine zn_sub [1, 0] (lv' := [(0, .ref h0), (1, .int (nI 6))]) rfl ?_
  refine zn_iload_n C 1 dX1_init_83 rfl rfl ?_
  refine zn_bipush C (v := nI 10) dX1_init_84 (by decide) ?_
  refine zn_icmp_ge C 108 dX1_init_86 (by decide) (fun q => absurd q (by decide)) (fun _ => ?_)
  refine zn_aload_n C 0 dX1_init_89 rfl rfl ?_
  refine zn_get C 0 rfl pf_X1_25 rfl dX1_init_90 ?_
  refine zn_iload_n C 1 dX1_init_93 rfl rfl ?_
  refine zn_new C (ci := 3) (fs := [.int 0, .int 0, .int 0, .int 0, .int 0]) gin_X3 tyX3 tyX3_ok v_cX1_23 v_nX3 v_iX3 rfl (fun j hj => by rcases (show j = 0 ∨ j = 1 ∨ j = 2 ∨ j = 3 ∨ j = 4 by omega) with rfl | rfl | rfl | rfl | rfl <;> rfl) (Nat.le_of_ble_eq_true rfl) (Nat.le_of_ble_eq_true rfl) dX1_init_94 (fun l6 => ?_)
  refine zn_dup C dX1_init_97 rfl ?_
  refine zn_callN C [] n_X3 rfl vy_X3 (by decide +kernel) v_mX3 (Nat.le_of_ble_eq_true rfl) (by exact ⟨(Nat.le_of_ble_eq_true rfl), (Nat.le_of_ble_eq_true rfl)⟩) (by exact ⟨(Nat.le_of_ble_eq_true rfl), (Nat.le_of_ble_eq_true rfl)⟩) dX1_init_98 rfl rfl (fun ul6 => ?_)
  refine zn_ws (ws' := [(h0, .inr (1, [.ref x, .ref y, .ref z, .int 0, .int 0, .int 0, .int 0])), (x, zeR cy 1 5 (va_up (va_up (va_up (va_up (va_up (fun _ => none) 0 (some a0)) 1 (some a1)) 2 (some a2)) 3 (some a3)) 4 (some a4))), (y, zeR cy 2 4 (va_up (va_up (va_up (va_up (fun _ => none) 0 (some p0)) 1 (some p1)) 2 (some p2)) 3 (some p3))), (z, zeR cy 3 10 (va_up (va_up (va_up (va_up (va_up (va_up (fun _ => none) 0 (some l0)) 1 (some l1)) 2 (some l2)) 3 (some l3)) 4 (some l4)) 5 (some l5))), (a0, zeA), (a1, zeA), (a2, zeA), (a3, zeA), (a4, zeA), (p0, zeP b0), (b0, zeI cy 5), (p1, zeP b1), (b1, zeI cy 5), (p2, zeP b2), (b2, zeI cy 5), (p3, zeP b3), (b3, zeI cy 5), (l0, zeL), (l1, zeL), (l2, zeL), (l3, zeL), (l4, zeL), (l5, zeL), (l6, zeL)]) rfl ?_
  refine zn_aast C 3 3 23 3 rfl rfl rfl rfl (i := 6) (by decide) (by decide) dX1_init_101 (ws' := [(h0, .inr (1, [.ref x, .ref y, .ref z, .int 0, .int 0, .int 0, .int 0])), (x, zeR cy 1 5 (va_up (va_up (va_up (va_up (va_up (fun _ => none) 0 (some a0)) 1 (some a1)) 2 (some a2)) 3 (some a3)) 4 (some a4))), (y, zeR cy 2 4 (va_up (va_up (va_up (va_up (fun _ => none) 0 (some p0)) 1 (some p1)) 2 (some p2)) 3 (some p3))), (z, zeR cy 3 10 (va_up (va_up (va_up (va_up (va_up (va_up (va_up (fun _ => none) 0 (some l0)) 1 (some l1)) 2 (some l2)) 3 (some l3)) 4 (some l4)) 5 (some l5)) 6 (some l6))), (a0, zeA), (a1, zeA), (a2, zeA), (a3, zeA), (a4, zeA), (p0, zeP b0), (b0, zeI cy 5), (p1, zeP b1), (b1, zeI cy 5), (p2, zeP b2), (b2, zeI cy 5), (p3, zeP b3), (b3, zeI cy 5), (l0, zeL), (l1, zeL), (l2, zeL), (l3, zeL), (l4, zeL), (l5, zeL), (l6, zeL)]) rfl ?_
  refine zn_iinc C (v := nI 7) 1 _ dX1_init_102 rfl (by decide) (by decide) rfl ?_
  refine zn_goto C 83 dX1_init_105 (by decide) ?_
  refine zn_sub [1, 0] (lv' := [(0, .ref h0), (1, .int (nI 7))]) rfl ?_
  refine zn_iload_n C 1 dX1_init_83 rfl rfl ?_
  refine zn_bipush C (v := nI 10) dX1_init_84 (by decide) ?_
  refine zn_icmp_ge C 108 dX1_init_86 (by decide) (fun q => absurd q (by decide)) (fun _ => ?_)
  refine zn_aload_n C 0 dX1_init_89 rfl rfl ?_
  refine zn_get C 0 rfl pf_X1_25 rfl dX1_init_90 ?_
  refine zn_iload_n C 1 dX1_init_93 rfl rfl ?_
  refine zn_new C (ci := 3) (fs := [.int 0, .int 0, .int 0, .int 0, .int 0]) gin_X3 tyX3 tyX3_ok v_cX1_23 v_nX3 v_iX3 rfl (fun j hj => by rcases (show j = 0 ∨ j = 1 ∨ j = 2 ∨ j = 3 ∨ j = 4 by omega) with rfl | rfl | rfl | rfl | rfl <;> rfl) (Nat.le_of_ble_eq_true rfl) (Nat.le_of_ble_eq_true rfl) dX1_init_94 (fun l7 => ?_)
  refine zn_dup C dX1_init_97 rfl ?_
  refine zn_callN C [] n_X3 rfl vy_X3 (by decide +kernel) v_mX3 (Nat.le_of_ble_eq_true rfl) (by exact ⟨(Nat.le_of_ble_eq_true rfl), (Nat.le_of_ble_eq_true rfl)⟩) (by exact ⟨(Nat.le_of_ble_eq_true rfl), (Nat.le_of_ble_eq_true rfl)⟩) dX1_init_98 rfl rfl (fun ul7 => ?_)
  refine zn_ws (ws' := [(h0, .inr (1, [.ref x, .ref y, .ref z, .int 0, .int 0, .int 0, .int 0])), (x, zeR cy 1 5 (va_up (va_up (va_up (va_up (va_up (fun _ => none) 0 (some a0)) 1 (some a1)) 2 (some a2)) 3 (some a3)) 4 (some a4))), (y, zeR cy 2 4 (va_up (va_up (va_up (va_up (fun _ => none) 0 (some p0)) 1 (some p1)) 2 (some p2)) 3 (some p3))), (z, zeR cy 3 10 (va_up (va_up (va_up (va_up (va_up (va_up (va_up (fun _ => none) 0 (some l0)) 1 (some l1)) 2 (some l2)) 3 (some l3)) 4 (some l4)) 5 (some l5)) 6 (some l6))), (a0, zeA), (a1, zeA), (a2, zeA), (a3, zeA), (a4, zeA), (p0, zeP b0), (b0, zeI cy 5), (p1, zeP b1), (b1, zeI cy 5), (p2, zeP b2), (b2, zeI cy 5), (p3, zeP b3), (b3, zeI cy 5), (l0, zeL), (l1, zeL), (l2, zeL), (l3, zeL), (l4, zeL), (l5, zeL), (l6, zeL), (l7, zeL)]) rfl ?_
  refine zn_aast C 3 3 24 3 rfl rfl rfl rfl (i := 7) (by decide) (by decide) dX1_init_101 (ws' := [(h0, .inr (1, [.ref x, .ref y, .ref z, .int 0, .int 0, .int 0, .int 0])), (x, zeR cy 1 5 (va_up (va_up (va_up (va_up (va_up (fun _ => none) 0 (some a0)) 1 (some a1)) 2 (some a2)) 3 (some a3)) 4 (some a4))), (y, zeR cy 2 4 (va_up (va_up (va_up (va_up (fun _ => none) 0 (some p0)) 1 (some p1)) 2 (some p2)) 3 (some p3))), (z, zeR cy 3 10 (va_up (va_up (va_up (va_up (va_up (va_up (va_up (va_up (fun _ => none) 0 (some l0)) 1 (some l1)) 2 (some l2)) 3 (some l3)) 4 (some l4)) 5 (some l5)) 6 (some l6)) 7 (some l7))), (a0, zeA), (a1, zeA), (a2, zeA), (a3, zeA), (a4, zeA), (p0, zeP b0), (b0, zeI cy 5), (p1, zeP b1), (b1, zeI cy 5), (p2, zeP b2), (b2, zeI cy 5), (p3, zeP b3), (b3, zeI cy 5), (l0, zeL), (l1, zeL), (l2, zeL), (l3, zeL), (l4, zeL), (l5, zeL), (l6, zeL), (l7, zeL)]) rfl ?_
  refine zn_iinc C (v := nI 8) 1 _ dX1_init_102 rfl (by decide) (by decide) rfl ?_
  refine zn_goto C 83 dX1_init_105 (by decide) ?_
  refine zn_sub [1, 0] (lv' := [(0, .ref h0), (1, .int (nI 8))]) rfl ?_
  refine zn_iload_n C 1 dX1_init_83 rfl rfl ?_
  refine zn_bipush C (v := nI 10) dX1_init_84 (by decide) ?_
  refine zn_icmp_ge C 108 dX1_init_86 (by decide) (fun q => absurd q (by decide)) (fun _ => ?_)
  refine zn_aload_n C 0 dX1_init_89 rfl rfl ?_
  refine zn_get C 0 rfl pf_X1_25 rfl dX1_init_90 ?_
  refine zn_iload_n C 1 dX1_init_93 rfl rfl ?_
  refine zn_new C (ci := 3) (fs := [.int 0, .int 0, .int 0, .int 0, .int 0]) gin_X3 tyX3 tyX3_ok v_cX1_23 v_nX3 v_iX3 rfl (fun j hj => by rcases (show j = 0 ∨ j = 1 ∨ j = 2 ∨ j = 3 ∨ j = 4 by omega) with rfl | rfl | rfl | rfl | rfl <;> rfl) (Nat.le_of_ble_eq_true rfl) (Nat.le_of_ble_eq_true rfl) dX1_init_94 (fun l8 => ?_)
  refine zn_dup C dX1_init_97 rfl ?_
  refine zn_callN C [] n_X3 rfl vy_X3 (by decide +kernel) v_mX3 (Nat.le_of_ble_eq_true rfl) (by exact ⟨(Nat.le_of_ble_eq_true rfl), (Nat.le_of_ble_eq_true rfl)⟩) (by exact ⟨(Nat.le_of_ble_eq_true rfl), (Nat.le_of_ble_eq_true rfl)⟩) dX1_init_98 rfl rfl (fun ul8 => ?_)
  refine zn_ws (ws' := [(h0, .inr (1, [.ref x, .ref y, .ref z, .int 0, .int 0, .int 0, .int 0])), (x, zeR cy 1 5 (va_up (va_up (va_up (va_up (va_up (fun _ => none) 0 (some a0)) 1 (some a1)) 2 (some a2)) 3 (some a3)) 4 (some a4))), (y, zeR cy 2 4 (va_up (va_up (va_up (va_up (fun _ => none) 0 (some p0)) 1 (some p1)) 2 (some p2)) 3 (some p3))), (z, zeR cy 3 10 (va_up (va_up (va_up (va_up (va_up (va_up (va_up (va_up (fun _ => none) 0 (some l0)) 1 (some l1)) 2 (some l2)) 3 (some l3)) 4 (some l4)) 5 (some l5)) 6 (some l6)) 7 (some l7))), (a0, zeA), (a1, zeA), (a2, zeA), (a3, zeA), (a4, zeA), (p0, zeP b0), (b0, zeI cy 5), (p1, zeP b1), (b1, zeI cy 5), (p2, zeP b2), (b2, zeI cy 5), (p3, zeP b3), (b3, zeI cy 5), (l0, zeL), (l1, zeL), (l2, zeL), (l3, zeL), (l4, zeL), (l5, zeL), (l6, zeL), (l7, zeL), (l8, zeL)]) rfl ?_
  refine zn_aast C 3 3 25 3 rfl rfl rfl rfl (i := 8) (by decide) (by decide) dX1_init_101 (ws' := [(h0, .inr (1, [.ref x, .ref y, .ref z, .int 0, .int 0, .int 0, .int 0])), (x, zeR cy 1 5 (va_up (va_up (va_up (va_up (va_up (fun _ => none) 0 (some a0)) 1 (some a1)) 2 (some a2)) 3 (some a3)) 4 (some a4))), (y, zeR cy 2 4 (va_up (va_up (va_up (va_up (fun _ => none) 0 (some p0)) 1 (some p1)) 2 (some p2)) 3 (some p3))), (z, zeR cy 3 10 (va_up (va_up (va_up (va_up (va_up (va_up (va_up (va_up (va_up (fun _ => none) 0 (some l0)) 1 (some l1)) 2 (some l2)) 3 (some l3)) 4 (some l4)) 5 (some l5)) 6 (some l6)) 7 (some l7)) 8 (some l8))), (a0, zeA), (a1, zeA), (a2, zeA), (a3, zeA), (a4, zeA), (p0, zeP b0), (b0, zeI cy 5), (p1, zeP b1), (b1, zeI cy 5), (p2, zeP b2), (b2, zeI cy 5), (p3, zeP b3), (b3, zeI cy 5), (l0, zeL), (l1, zeL), (l2, zeL), (l3, zeL), (l4, zeL), (l5, zeL), (l6, zeL), (l7, zeL), (l8, zeL)]) rfl ?_
  refine zn_iinc C (v := nI 9) 1 _ dX1_init_102 rfl (by decide) (by decide) rfl ?_
  refine zn_goto C 83 dX1_init_105 (by decide) ?_
  refine zn_sub [1, 0] (lv' := [(0, .ref h0), (1, .int (nI 9))]) rfl ?_
  refine zn_iload_n C 1 dX1_init_83 rfl rfl ?_
  refine zn_bipush C (v := nI 10) dX1_init_84 (by decide) ?_
  refine zn_icmp_ge C 108 dX1_init_86 (by decide) (fun q => absurd q (by decide)) (fun _ => ?_)
  refine zn_aload_n C 0 dX1_init_89 rfl rfl ?_
  refine zn_get C 0 rfl pf_X1_25 rfl dX1_init_90 ?_
  refine zn_iload_n C 1 dX1_init_93 rfl rfl ?_
  refine zn_new C (ci := 3) (fs := [.int 0, .int 0, .int 0, .int 0, .int 0]) gin_X3 tyX3 tyX3_ok v_cX1_23 v_nX3 v_iX3 rfl (fun j hj => by rcases (show j = 0 ∨ j = 1 ∨ j = 2 ∨ j = 3 ∨ j = 4 by omega) with rfl | rfl | rfl | rfl | rfl <;> rfl) (Nat.le_of_ble_eq_true rfl) (Nat.le_of_ble_eq_true rfl) dX1_init_94 (fun l9 => ?_)
  refine zn_dup C dX1_init_97 rfl ?_
  refine zn_callN C [] n_X3 rfl vy_X3 (by decide +kernel) v_mX3 (Nat.le_of_ble_eq_true rfl) (by exact ⟨(Nat.le_of_ble_eq_true rfl), (Nat.le_of_ble_eq_true rfl)⟩) (by exact ⟨(Nat.le_of_ble_eq_true rfl), (Nat.le_of_ble_eq_true rfl)⟩) dX1_init_98 rfl rfl (fun ul9 => ?_)
  refine zn_ws (ws' := [(h0, .inr (1, [.ref x, .ref y, .ref z, .int 0, .int 0, .int 0, .int 0])), (x, zeR cy 1 5 (va_up (va_up (va_up (va_up (va_up (fun _ => none) 0 (some a0)) 1 (some a1)) 2 (some a2)) 3 (some a3)) 4 (some a4))), (y, zeR cy 2 4 (va_up (va_up (va_up (va_up (fun _ => none) 0 (some p0)) 1 (some p1)) 2 (some p2)) 3 (some p3))), (z, zeR cy 3 10 (va_up (va_up (va_up (va_up (va_up (va_up (va_up (va_up (va_up (fun _ => none) 0 (some l0)) 1 (some l1)) 2 (some l2)) 3 (some l3)) 4 (some l4)) 5 (some l5)) 6 (some l6)) 7 (some l7)) 8 (some l8))), (a0, zeA), (a1, zeA), (a2, zeA), (a3, zeA), (a4, zeA), (p0, zeP b0), (b0, zeI cy 5), (p1, zeP b1), (b1, zeI cy 5), (p2, zeP b2), (b2, zeI cy 5), (p3, zeP b3), (b3, zeI cy 5), (l0, zeL), (l1, zeL), (l2, zeL), (l3, zeL), (l4, zeL), (l5, zeL), (l6, zeL), (l7, zeL), (l8, zeL), (l9, zeL)]) rfl ?_
  refine zn_aast C 3 3 26 3 rfl rfl rfl rfl (i := 9) (by decide) (by decide) dX1_init_101 (ws' := [(h0, .inr (1, [.ref x, .ref y, .ref z, .int 0, .int 0, .int 0, .int 0])), (x, zeR cy 1 5 (va_up (va_up (va_up (va_up (va_up (fun _ => none) 0 (some a0)) 1 (some a1)) 2 (some a2)) 3 (some a3)) 4 (some a4))), (y, zeR cy 2 4 (va_up (va_up (va_up (va_up (fun _ => none) 0 (some p0)) 1 (some p1)) 2 (some p2)) 3 (some p3))), (z, zeR cy 3 10 (va_up (va_up (va_up (va_up (va_up (va_up (va_up (va_up (va_up (va_up (fun _ => none) 0 (some l0)) 1 (some l1)) 2 (some l2)) 3 (some l3)) 4 (some l4)) 5 (some l5)) 6 (some l6)) 7 (some l7)) 8 (some l8)) 9 (some l9))), (a0, zeA), (a1, zeA), (a2, zeA), (a3, zeA), (a4, zeA), (p0, zeP b0), (b0, zeI cy 5), (p1, zeP b1), (b1, zeI cy 5), (p2, zeP b2), (b2, zeI cy 5), (p3, zeP b3), (b3, zeI cy 5), (l0, zeL), (l1, zeL), (l2, zeL), (l3, zeL), (l4, zeL), (l5, zeL), (l6, zeL), (l7, zeL), (l8, zeL), (l9, zeL)]) rfl ?_
  refine zn_iinc C (v := nI 10) 1 _ dX1_init_102 rfl (by decide) (by decide) rfl ?_
  refine zn_goto C 83 dX1_init_105 (by decide) ?_
  refine zn_sub [1, 0] (lv' := [(0, .ref h0), (1, .int (nI 10))]) rfl ?_
  refine zn_iload_n C 1 dX1_init_83 rfl rfl ?_
  refine zn_bipush C (v := nI 10) dX1_init_84 (by decide) ?_
  refine zn_icmp_ge C 108 dX1_init_86 (by decide) (fun _ => ?_) (fun q => absurd (by decide) q)
  refine zn_vret C (fun n => match n.1 with
    | 10 => x
    | 11 => y
    | 12 => z
    | 3 => (match n.2.2 with | 0 => a0 | 1 => a1 | 2 => a2 | 3 => a3 | _ => a4)
    | 4 => (match n.2.2 with | 0 => p0 | 1 => p1 | 2 => p2 | _ => p3)
    | 13 => (match n.2.2 with | 0 => b0 | 1 => b1 | 2 => b2 | _ => b3)
    | _ => (match n.2.2 with | 0 => l0 | 1 => l1 | 2 => l2 | 3 => l3 | 4 => l4 | 5 => l5 | 6 => l6 | 7 => l7 | 8 => l8 | _ => l9)) hr hk dX1_init_108 (fun H hP hD => ⟨?_, ?_⟩)
  · have h1 := zn_Pa hP 1 rfl (g := fun j => some ((fun n => match n.1 with     | 10 => x     | 11 => y     | 12 => z     | 3 => (match n.2.2 with | 0 => a0 | 1 => a1 | 2 => a2 | 3 => a3 | _ => a4)     | 4 => (match n.2.2 with | 0 => p0 | 1 => p1 | 2 => p2 | _ => p3)     | 13 => (match n.2.2 with | 0 => b0 | 1 => b1 | 2 => b2 | _ => b3)     | _ => (match n.2.2 with | 0 => l0 | 1 => l1 | 2 => l2 | 3 => l3 | 4 => l4 | 5 => l5 | 6 => l6 | 7 => l7 | 8 => l8 | _ => l9)) (3, 0, j))) (fun j hj => by rcases (show j = 0 ∨ j = 1 ∨ j = 2 ∨ j = 3 ∨ j = 4 by omega) with rfl | rfl | rfl | rfl | rfl <;> rfl) rfl
    have h2 := zn_Pa h1 2 rfl (g := fun j => some ((fun n => match n.1 with     | 10 => x     | 11 => y     | 12 => z     | 3 => (match n.2.2 with | 0 => a0 | 1 => a1 | 2 => a2 | 3 => a3 | _ => a4)     | 4 => (match n.2.2 with | 0 => p0 | 1 => p1 | 2 => p2 | _ => p3)     | 13 => (match n.2.2 with | 0 => b0 | 1 => b1 | 2 => b2 | _ => b3)     | _ => (match n.2.2 with | 0 => l0 | 1 => l1 | 2 => l2 | 3 => l3 | 4 => l4 | 5 => l5 | 6 => l6 | 7 => l7 | 8 => l8 | _ => l9)) (4, 0, j))) (fun j hj => by rcases (show j = 0 ∨ j = 1 ∨ j = 2 ∨ j = 3 by omega) with rfl | rfl | rfl | rfl <;> rfl) rfl
    have h3 := zn_Pa h2 3 rfl (g := fun j => some ((fun n => match n.1 with     | 10 => x     | 11 => y     | 12 => z     | 3 => (match n.2.2 with | 0 => a0 | 1 => a1 | 2 => a2 | 3 => a3 | _ => a4)     | 4 => (match n.2.2 with | 0 => p0 | 1 => p1 | 2 => p2 | _ => p3)     | 13 => (match n.2.2 with | 0 => b0 | 1 => b1 | 2 => b2 | _ => b3)     | _ => (match n.2.2 with | 0 => l0 | 1 => l1 | 2 => l2 | 3 => l3 | 4 => l4 | 5 => l5 | 6 => l6 | 7 => l7 | 8 => l8 | _ => l9)) (5, 0, j % 10))) (fun j hj => by rcases (show j = 0 ∨ j = 1 ∨ j = 2 ∨ j = 3 ∨ j = 4 ∨ j = 5 ∨ j = 6 ∨ j = 7 ∨ j = 8 ∨ j = 9 by omega) with rfl | rfl | rfl | rfl | rfl | rfl | rfl | rfl | rfl | rfl <;> rfl) rfl
    exact h3
  · exact ((hD.set (p := 1) rfl).set (p := 2) rfl).set (p := 3) rfl)

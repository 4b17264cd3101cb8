/-! constructors: the reference -/
theorem v_oX10 : Cond.methodLink RX10 3 Lib.objectInit ∈ lw_gd := za_gd 886 (by decide +kernel) rfl
theorem vt_X10_0 : zn_FT 0 23 TX10 (.array .int) true := ⟨rfl, by decide +kernel, ⟨tyX10, tyX10_ok⟩, nmX10⟩
theorem vt_X10_1 : zn_FT 1 23 TX10 (.array .int) true := ⟨rfl, by decide +kernel, ⟨tyX10, tyX10_ok⟩, nmX10⟩
theorem vt_X10_2 : zn_FT 2 23 TX10 (.array .int) true := ⟨rfl, by decide +kernel, ⟨tyX10, tyX10_ok⟩, nmX10⟩
theorem vt_X10_4 : zn_FT 4 23 TX10 (.array .int) true := ⟨rfl, by decide +kernel, ⟨tyX10, tyX10_ok⟩, nmX10⟩
theorem v_cX10_22 : Cond.classLink RX10 22 "java/lang/String" ∈ lw_gd := za_gd 887 (by decide +kernel) rfl
theorem vt_X10_5 : zn_FT 5 23 TX10 (.array (.object "java/lang/String")) true := ⟨rfl, by decide +kernel, ⟨tyX10, tyX10_ok⟩, nmX10⟩
theorem vt_X10_10 : zn_FT 10 23 TX10 (.array .int) true := ⟨rfl, by decide +kernel, ⟨tyX10, tyX10_ok⟩, nmX10⟩
theorem vt_X10_12 : zn_FT 12 23 TX10 (.array .int) true := ⟨rfl, by decide +kernel, ⟨tyX10, tyX10_ok⟩, nmX10⟩
theorem vt_X10_13 : zn_FT 13 23 TX10 (.array .int) true := ⟨rfl, by decide +kernel, ⟨tyX10, tyX10_ok⟩, nmX10⟩
theorem vt_X10_14 : zn_FT 14 23 TX10 (.array .int) true := ⟨rfl, by decide +kernel, ⟨tyX10, tyX10_ok⟩, nmX10⟩
theorem vt_X10_19 : zn_FT 19 23 TX10 (.array .int) true := ⟨rfl, by decide +kernel, ⟨tyX10, tyX10_ok⟩, nmX10⟩
theorem vt_X10_20 : zn_FT 20 23 TX10 (.array .int) true := ⟨rfl, by decide +kernel, ⟨tyX10, tyX10_ok⟩, nmX10⟩
theorem vt_X10_21 : zn_FT 21 23 TX10 (.array .int) true := ⟨rfl, by decide +kernel, ⟨tyX10, tyX10_ok⟩, nmX10⟩
theorem vt_X10_22 : zn_FT 22 23 TX10 (.array .int) true := ⟨rfl, by decide +kernel, ⟨tyX10, tyX10_ok⟩, nmX10⟩
def zMn : List za_L := [(28, 0, 0), (29, 0, 0), (30, 0, 0), (31, 0, 0), (32, 0, 0), (33, 0, 0), (34, 0, 0), (35, 0, 0), (36, 0, 0), (37, 0, 0), (38, 0, 0), (39, 0, 0), (40, 0, 0)]
set_option maxRecDepth 100000 in
set_option maxHeartbeats 4000000 in
theorem n_X10 {l : Launch} {sa : Nat → Nat} {D : va_G} {cy : Nat → ClassId} : zn_M l sa D cy yX10_init cX10_init 1 1 24 13 1217 (.inr (10, [.null, .null, .null, .int 0, .null, .null, .int 0, .int 0, .int 0, .int 0, .null, .int 0, .null, .null, .null, .int 0, .int 0, .int 0, .int 0, .null, .null, .null, .null])) [] (fun h a => (h, za_E a cy zMz (27, 0, 0)) :: zMn.map fun x => (a x, za_E (fun n => match n.1 with | 41 => sa n.2.2 | _ => a n) cy zMz x)) := zn_open (by decide) (fun h0 => (Nat.le_of_ble_eq_true rfl)) rfl (fun p e s m args below meth c h0 A C hin hr hk => by
  refine zn_aload_n C 0 dX10_init_0 rfl rfl ?_
  refine zn_obj C v_oX10 v_oi v_oc dX10_init_1 (Nat.le_of_ble_eq_true rfl) (Nat.le_of_ble_eq_true rfl) ?_
  refine zn_aload_n C 0 dX10_init_4 rfl rfl ?_
  refine zn_sipush C (v := nI 279) dX10_init_5 (by decide) ?_
  refine zn_newa C 279 v_ai (nI_pos (by decide)) (nI_clamp (by decide)) (Nat.le_of_ble_eq_true rfl) (Nat.le_of_ble_eq_true rfl) (Nat.le_of_ble_eq_true rfl) dX10_init_8 (fun q28 => ?_)
  refine zn_putF C hin 0 rfl pf_X10_9 vt_X10_0 rfl rfl rfl (Nat.le_of_ble_eq_true rfl) dX10_init_10 (ws' := [(h0, .inr (10, [.ref q28, .null, .null, .int 0, .null, .null, .int 0, .int 0, .int 0, .int 0, .null, .int 0, .null, .null, .null, .int 0, .int 0, .int 0, .int 0, .null, .null, .null, .null])), (q28, zeI cy 279)]) rfl ?_
  refine zn_aload_n C 0 dX10_init_13 rfl rfl ?_
  refine zn_sipush C (v := nI 279) dX10_init_14 (by decide) ?_
  refine zn_newa C 279 v_ai (nI_pos (by decide)) (nI_clamp (by decide)) (Nat.le_of_ble_eq_true rfl) (Nat.le_of_ble_eq_true rfl) (Nat.le_of_ble_eq_true rfl) dX10_init_17 (fun q29 => ?_)
  refine zn_putF C hin 0 rfl pf_X10_13 vt_X10_1 rfl rfl rfl (Nat.le_of_ble_eq_true rfl) dX10_init_19 (ws' := [(h0, .inr (10, [.ref q28, .ref q29, .null, .int 0, .null, .null, .int 0, .int 0, .int 0, .int 0, .null, .int 0, .null, .null, .null, .int 0, .int 0, .int 0, .int 0, .null, .null, .null, .null])), (q28, zeI cy 279), (q29, zeI cy 279)]) rfl ?_
  refine zn_aload_n C 0 dX10_init_22 rfl rfl ?_
  refine zn_sipush C (v := nI 279) dX10_init_23 (by decide) ?_
  refine zn_newa C 279 v_ai (nI_pos (by decide)) (nI_clamp (by decide)) (Nat.le_of_ble_eq_true rfl) (Nat.le_of_ble_eq_true rfl) (Nat.le_of_ble_eq_true rfl) dX10_init_26 (fun q30 => ?_)
  refine zn_putF C hin 0 rfl pf_X10_16 vt_X10_2 rfl rfl rfl (Nat.le_of_ble_eq_true rfl) dX10_init_28 (ws' := [(h0, .inr (10, [.ref q28, .ref q29, .ref q30, .int 0, .null, .null, .int 0, .int 0, .int 0, .int 0, .null, .int 0, .null, .null, .null, .int 0, .int 0, .int 0, .int 0, .null, .null, .null, .null])), (q28, zeI cy 279), (q29, zeI cy 279), (q30, zeI cy 279)]) rfl ?_
  refine zn_aload_n C 0 dX10_init_31 rfl rfl ?_
  refine zn_bipush C (v := nI 6) dX10_init_32 (by decide) ?_
  refine zn_newa C 6 v_ai (nI_pos (by decide)) (nI_clamp (by decide)) (Nat.le_of_ble_eq_true rfl) (Nat.le_of_ble_eq_true rfl) (Nat.le_of_ble_eq_true rfl) dX10_init_34 (fun q31 => ?_)
  refine zn_putF C hin 0 rfl pf_X10_19 vt_X10_4 rfl rfl rfl (Nat.le_of_ble_eq_true rfl) dX10_init_36 (ws' := [(h0, .inr (10, [.ref q28, .ref q29, .ref q30, .int 0, .ref q31, .null, .int 0, .int 0, .int 0, .int 0, .null, .int 0, .null, .null, .null, .int 0, .int 0, .int 0, .int 0, .null, .null, .null, .null])), (q28, zeI cy 279), (q29, zeI cy 279), (q30, zeI cy 279), (q31, zeI cy 6)]) rfl ?_
  refine zn_aload_n C 0 dX10_init_39 rfl rfl ?_
  refine zn_iconst C (v := nI 2) dX10_init_40 (by decide) ?_
  refine zn_newq C 2 6 rfl v_cX10_22 (by decide) (nI_pos (by decide)) (nI_clamp (by decide)) (Nat.le_of_ble_eq_true rfl) (Nat.le_of_ble_eq_true rfl) (Nat.le_of_ble_eq_true rfl) dX10_init_41 (fun q32 => ?_)
  refine zn_ws (ws' := [(h0, .inr (10, [.ref q28, .ref q29, .ref q30, .int 0, .ref q31, .null, .int 0, .int 0, .int 0, .int 0, .null, .int 0, .null, .null, .null, .int 0, .int 0, .int 0, .int 0, .null, .null, .null, .null])), (q28, zeI cy 279), (q29, zeI cy 279), (q30, zeI cy 279), (q31, zeI cy 6), (q32, zeR cy 6 2 (fun _ => none))]) rfl ?_
  refine zn_dup C dX10_init_44 rfl ?_
  refine zn_iconst C (v := nI 0) dX10_init_45 (by decide) ?_
  refine zn_ldcS C (u := 0) C.2.2.2.2.2.1.2.2.2.1 dX10_init_46 ?_
  refine zn_aastS C 5 0 (by decide) rfl (i := 0) (by decide) (by decide) dX10_init_48 (ws' := [(h0, .inr (10, [.ref q28, .ref q29, .ref q30, .int 0, .ref q31, .null, .int 0, .int 0, .int 0, .int 0, .null, .int 0, .null, .null, .null, .int 0, .int 0, .int 0, .int 0, .null, .null, .null, .null])), (q28, zeI cy 279), (q29, zeI cy 279), (q30, zeI cy 279), (q31, zeI cy 6), (q32, zeR cy 6 2 (va_up (fun _ => none) 0 (some (sa 0))))]) rfl ?_
  refine zn_dup C dX10_init_49 rfl ?_
  refine zn_iconst C (v := nI 1) dX10_init_50 (by decide) ?_
  refine zn_ldcS C (u := 1) C.2.2.2.2.2.1.2.2.2.2 dX10_init_51 ?_
  refine zn_aastS C 5 1 (by decide) rfl (i := 1) (by decide) (by decide) dX10_init_53 (ws' := [(h0, .inr (10, [.ref q28, .ref q29, .ref q30, .int 0, .ref q31, .null, .int 0, .int 0, .int 0, .int 0, .null, .int 0, .null, .null, .null, .int 0, .int 0, .int 0, .int 0, .null, .null, .null, .null])), (q28, zeI cy 279), (q29, zeI cy 279), (q30, zeI cy 279), (q31, zeI cy 6), (q32, zeR cy 6 2 (va_up (va_up (fun _ => none) 0 (some (sa 0))) 1 (some (sa 1))))]) rfl ?_
  refine zn_putF C hin 0 rfl pf_X10n28 vt_X10_5 rfl rfl rfl (Nat.le_of_ble_eq_true rfl) dX10_init_54 (ws' := [(h0, .inr (10, [.ref q28, .ref q29, .ref q30, .int 0, .ref q31, .ref q32, .int 0, .int 0, .int 0, .int 0, .null, .int 0, .null, .null, .null, .int 0, .int 0, .int 0, .int 0, .null, .null, .null, .null])), (q28, zeI cy 279), (q29, zeI cy 279), (q30, zeI cy 279), (q31, zeI cy 6), (q32, zeR cy 6 2 (va_up (va_up (fun _ => none) 0 (some (sa 0))) 1 (some (sa 1))))]) rfl ?_
  refine zn_aload_n C 0 dX10_init_57 rfl rfl ?_
  refine zn_bipush C (v := nI 60) dX10_init_58 (by decide) ?_
  refine zn_newa C 60 v_ai (nI_pos (by decide)) (nI_clamp (by decide)) (Nat.le_of_ble_eq_true rfl) (Nat.le_of_ble_eq_true rfl) (Nat.le_of_ble_eq_true rfl) dX10_init_60 (fun q33 => ?_)
  refine zn_putF C hin 0 rfl pf_X10_32 vt_X10_10 rfl rfl rfl (Nat.le_of_ble_eq_true rfl) dX10_init_62 (ws' := [(h0, .inr (10, [.ref q28, .ref q29, .ref q30, .int 0, .ref q31, .ref q32, .int 0, .int 0, .int 0, .int 0, .ref q33, .int 0, .null, .null, .null, .int 0, .int 0, .int 0, .int 0, .null, .null, .null, .null])), (q28, zeI cy 279), (q29, zeI cy 279), (q30, zeI cy 279), (q31, zeI cy 6), (q32, zeR cy 6 2 (va_up (va_up (fun _ => none) 0 (some (sa 0))) 1 (some (sa 1)))), (q33, zeI cy 60)]) rfl ?_
  refine zn_aload_n C 0 dX10_init_65 rfl rfl ?_
  refine zn_iconst C (v := nI 4) dX10_init_66 (by decide) ?_
  refine zn_newa C 4 v_ai (nI_pos (by decide)) (nI_clamp (by decide)) (Nat.le_of_ble_eq_true rfl) (Nat.le_of_ble_eq_true rfl) (Nat.le_of_ble_eq_true rfl) dX10_init_67 (fun q34 => ?_)
  refine zn_putF C hin 0 rfl pf_X10_35 vt_X10_12 rfl rfl rfl (Nat.le_of_ble_eq_true rfl) dX10_init_69 (ws' := [(h0, .inr (10, [.ref q28, .ref q29, .ref q30, .int 0, .ref q31, .ref q32, .int 0, .int 0, .int 0, .int 0, .ref q33, .int 0, .ref q34, .null, .null, .int 0, .int 0, .int 0, .int 0, .null, .null, .null, .null])), (q28, zeI cy 279), (q29, zeI cy 279), (q30, zeI cy 279), (q31, zeI cy 6), (q32, zeR cy 6 2 (va_up (va_up (fun _ => none) 0 (some (sa 0))) 1 (some (sa 1)))), (q33, zeI cy 60), (q34, zeI cy 4)]) rfl ?_
  refine zn_aload_n C 0 dX10_init_72 rfl rfl ?_
  refine zn_bipush C (v := nI 60) dX10_init_73 (by decide) ?_
  refine zn_newa C 60 v_ai (nI_pos (by decide)) (nI_clamp (by decide)) (Nat.le_of_ble_eq_true rfl) (Nat.le_of_ble_eq_true rfl) (Nat.le_of_ble_eq_true rfl) dX10_init_75 (fun q35 => ?_)
  refine zn_putF C hin 0 rfl pf_X10_38 vt_X10_13 rfl rfl rfl (Nat.le_of_ble_eq_true rfl) dX10_init_77 (ws' := [(h0, .inr (10, [.ref q28, .ref q29, .ref q30, .int 0, .ref q31, .ref q32, .int 0, .int 0, .int 0, .int 0, .ref q33, .int 0, .ref q34, .ref q35, .null, .int 0, .int 0, .int 0, .int 0, .null, .null, .null, .null])), (q28, zeI cy 279), (q29, zeI cy 279), (q30, zeI cy 279), (q31, zeI cy 6), (q32, zeR cy 6 2 (va_up (va_up (fun _ => none) 0 (some (sa 0))) 1 (some (sa 1)))), (q33, zeI cy 60), (q34, zeI cy 4), (q35, zeI cy 60)]) rfl ?_
  refine zn_aload_n C 0 dX10_init_80 rfl rfl ?_
  refine zn_bipush C (v := nI 40) dX10_init_81 (by decide) ?_
  refine zn_newa C 40 v_ai (nI_pos (by decide)) (nI_clamp (by decide)) (Nat.le_of_ble_eq_true rfl) (Nat.le_of_ble_eq_true rfl) (Nat.le_of_ble_eq_true rfl) dX10_init_83 (fun q36 => ?_)
  refine zn_putF C hin 0 rfl pf_X10_41 vt_X10_14 rfl rfl rfl (Nat.le_of_ble_eq_true rfl) dX10_init_85 (ws' := [(h0, .inr (10, [.ref q28, .ref q29, .ref q30, .int 0, .ref q31, .ref q32, .int 0, .int 0, .int 0, .int 0, .ref q33, .int 0, .ref q34, .ref q35, .ref q36, .int 0, .int 0, .int 0, .int 0, .null, .null, .null, .null])), (q28, zeI cy 279), (q29, zeI cy 279), (q30, zeI cy 279), (q31, zeI cy 6), (q32, zeR cy 6 2 (va_up (va_up (fun _ => none) 0 (some (sa 0))) 1 (some (sa 1)))), (q33, zeI cy 60), (q34, zeI cy 4), (q35, zeI cy 60), (q36, zeI cy 40)]) rfl ?_
  refine zn_aload_n C 0 dX10_init_88 rfl rfl ?_
  refine zn_iconst C (v := nI 4) dX10_init_89 (by decide) ?_
  refine zn_newa C 4 v_ai (nI_pos (by decide)) (nI_clamp (by decide)) (Nat.le_of_ble_eq_true rfl) (Nat.le_of_ble_eq_true rfl) (Nat.le_of_ble_eq_true rfl) dX10_init_90 (fun q37 => ?_)
  refine zn_putF C hin 0 rfl pf_X10_44 vt_X10_19 rfl rfl rfl (Nat.le_of_ble_eq_true rfl) dX10_init_92 (ws' := [(h0, .inr (10, [.ref q28, .ref q29, .ref q30, .int 0, .ref q31, .ref q32, .int 0, .int 0, .int 0, .int 0, .ref q33, .int 0, .ref q34, .ref q35, .ref q36, .int 0, .int 0, .int 0, .int 0, .ref q37, .null, .null, .null])), (q28, zeI cy 279), (q29, zeI cy 279), (q30, zeI cy 279), (q31, zeI cy 6), (q32, zeR cy 6 2 (va_up (va_up (fun _ => none) 0 (some (sa 0))) 1 (some (sa 1)))), (q33, zeI cy 60), (q34, zeI cy 4), (q35, zeI cy 60), (q36, zeI cy 40), (q37, zeI cy 4)]) rfl ?_
  refine zn_aload_n C 0 dX10_init_95 rfl rfl ?_
  refine zn_iconst C (v := nI 4) dX10_init_96 (by decide) ?_
  refine zn_newa C 4 v_ai (nI_pos (by decide)) (nI_clamp (by decide)) (Nat.le_of_ble_eq_true rfl) (Nat.le_of_ble_eq_true rfl) (Nat.le_of_ble_eq_true rfl) dX10_init_97 (fun q38 => ?_)
  refine zn_putF C hin 0 rfl pf_X10_47 vt_X10_20 rfl rfl rfl (Nat.le_of_ble_eq_true rfl) dX10_init_99 (ws' := [(h0, .inr (10, [.ref q28, .ref q29, .ref q30, .int 0, .ref q31, .ref q32, .int 0, .int 0, .int 0, .int 0, .ref q33, .int 0, .ref q34, .ref q35, .ref q36, .int 0, .int 0, .int 0, .int 0, .ref q37, .ref q38, .null, .null])), (q28, zeI cy 279), (q29, zeI cy 279), (q30, zeI cy 279), (q31, zeI cy 6), (q32, zeR cy 6 2 (va_up (va_up (fun _ => none) 0 (some (sa 0))) 1 (some (sa 1)))), (q33, zeI cy 60), (q34, zeI cy 4), (q35, zeI cy 60), (q36, zeI cy 40), (q37, zeI cy 4), (q38, zeI cy 4)]) rfl ?_
  refine zn_aload_n C 0 dX10_init_102 rfl rfl ?_
  refine zn_sipush C (v := nI 160) dX10_init_103 (by decide) ?_
  refine zn_newa C 160 v_ai (nI_pos (by decide)) (nI_clamp (by decide)) (Nat.le_of_ble_eq_true rfl) (Nat.le_of_ble_eq_true rfl) (Nat.le_of_ble_eq_true rfl) dX10_init_106 (fun q39 => ?_)
  refine zn_putF C hin 0 rfl pf_X10_50 vt_X10_21 rfl rfl rfl (Nat.le_of_ble_eq_true rfl) dX10_init_108 (ws' := [(h0, .inr (10, [.ref q28, .ref q29, .ref q30, .int 0, .ref q31, .ref q32, .int 0, .int 0, .int 0, .int 0, .ref q33, .int 0, .ref q34, .ref q35, .ref q36, .int 0, .int 0, .int 0, .int 0, .ref q37, .ref q38, .ref q39, .null])), (q28, zeI cy 279), (q29, zeI cy 279), (q30, zeI cy 279), (q31, zeI cy 6), (q32, zeR cy 6 2 (va_up (va_up (fun _ => none) 0 (some (sa 0))) 1 (some (sa 1)))), (q33, zeI cy 60), (q34, zeI cy 4), (q35, zeI cy 60), (q36, zeI cy 40), (q37, zeI cy 4), (q38, zeI cy 4), (q39, zeI cy 160)]) rfl ?_
  refine zn_aload_n C 0 dX10_init_111 rfl rfl ?_
  refine zn_bipush C (v := nI 40) dX10_init_112 (by decide) ?_
  refine zn_newa C 40 v_ai (nI_pos (by decide)) (nI_clamp (by decide)) (Nat.le_of_ble_eq_true rfl) (Nat.le_of_ble_eq_true rfl) (Nat.le_of_ble_eq_true rfl) dX10_init_114 (fun q40 => ?_)
  refine zn_putF C hin 0 rfl pf_X10_53 vt_X10_22 rfl rfl rfl (Nat.le_of_ble_eq_true rfl) dX10_init_116 (ws' := [(h0, .inr (10, [.ref q28, .ref q29, .ref q30, .int 0, .ref q31, .ref q32, .int 0, .int 0, .int 0, .int 0, .ref q33, .int 0, .ref q34, .ref q35, .ref q36, .int 0, .int 0, .int 0, .int 0, .ref q37, .ref q38, .ref q39, .ref q40])), (q28, zeI cy 279), (q29, zeI cy 279), (q30, zeI cy 279), (q31, zeI cy 6), (q32, zeR cy 6 2 (va_up (va_up (fun _ => none) 0 (some (sa 0))) 1 (some (sa 1)))), (q33, zeI cy 60), (q34, zeI cy 4), (q35, zeI cy 60), (q36, zeI cy 40), (q37, zeI cy 4), (q38, zeI cy 4), (q39, zeI cy 160), (q40, zeI cy 40)]) rfl ?_
  refine zn_aload_n C 0 dX10_init_119 rfl rfl ?_
  refine zn_get C 0 rfl pf_X10_9 rfl dX10_init_120 ?_
  refine zn_iconst C (v := nI 4) dX10_init_123 (by decide) ?_
  refine zn_iconst C (v := 1) dX10_init_124 (by decide) ?_
  refine zn_iast C 1 rfl (i := 4) (by decide) (by decide) dX10_init_125 (ws' := [(h0, .inr (10, [.ref q28, .ref q29, .ref q30, .int 0, .ref q31, .ref q32, .int 0, .int 0, .int 0, .int 0, .ref q33, .int 0, .ref q34, .ref q35, .ref q36, .int 0, .int 0, .int 0, .int 0, .ref q37, .ref q38, .ref q39, .ref q40])), (q28, .inl (cy 0, 279, .inl (upd (fun _ => 0) 4 1))), (q29, zeI cy 279), (q30, zeI cy 279), (q31, zeI cy 6), (q32, zeR cy 6 2 (va_up (va_up (fun _ => none) 0 (some (sa 0))) 1 (some (sa 1)))), (q33, zeI cy 60), (q34, zeI cy 4), (q35, zeI cy 60), (q36, zeI cy 40), (q37, zeI cy 4), (q38, zeI cy 4), (q39, zeI cy 160), (q40, zeI cy 40)]) rfl ?_
  refine zn_vret C (fun n => match n.1 with
    | 28 => q28
    | 29 => q29
    | 30 => q30
    | 31 => q31
    | 32 => q32
    | 33 => q33
    | 34 => q34
    | 35 => q35
    | 36 => q36
    | 37 => q37
    | 38 => q38
    | 39 => q39
    | 40 => q40
    | _ => sa n.2.2) hr hk dX10_init_126 (fun H hP hD => ⟨?_, ?_⟩)
  · have h1 := zn_Pa hP 5 rfl (g := fun j => some (sa j)) (fun j hj => by rcases (show j = 0 ∨ j = 1 by omega) with rfl | rfl <;> rfl) rfl
    exact h1
  · exact (hD.set (p := 5) rfl))

/-! constructors: the simple ones -/
abbrev zeA : va_E := .inr (0, [.int 0, .int 0, .int 0, .int 0])
abbrev zeL : va_E := .inr (3, [.int 0, .int 0, .int 0, .int 0, .int 0])
abbrev zeP (b : Nat) : va_E := .inr (4, [.ref b, .int 0, .int 0])
abbrev zeI (cy : Nat → ClassId) (n : Nat) : va_E := .inl (cy 0, n, .inl (fun _ => 0))
abbrev zeR (cy : Nat → ClassId) (t n : Nat) (f : Nat → Option Nat) : va_E := .inl (cy t, n, .inr (.inr (.inr (.inr f))))
/-- all numbers, as they stand behind the constructors -/
def zMz : za_M := (fun x j => match x.1 with
  | 1 => if j = 6 then 1 else 0
  | 6 => if j = 0 then nI x.2.2 else 0
  | 28 => if j = 4 then 1 else 0
  | _ => 0, fun _ j => j)
theorem v_oi : Cond.instanceMethod Lib.objectInit ∈ lw_gd := za_gd 99 (by decide +kernel) rfl
theorem v_oc : Cond.code Lib.objectInit ⟨#[0xb1]⟩ 1 none ∈ lw_gd := za_gd 100 (by decide +kernel) rfl
theorem v_ai : Cond.arrayClass .int ∈ lw_gd := za_gd 167 (by decide +kernel) rfl
theorem v_oX0 : Cond.methodLink RX0 3 Lib.objectInit ∈ lw_gd := za_gd 123 (by decide +kernel) rfl
theorem v_oX3 : Cond.methodLink RX3 1 Lib.objectInit ∈ lw_gd := za_gd 172 (by decide +kernel) rfl
theorem v_oX4 : Cond.methodLink RX4 3 Lib.objectInit ∈ lw_gd := za_gd 150 (by decide +kernel) rfl
theorem vt_X4_0 : zn_FT 0 3 TX4 (.array .int) true := ⟨rfl, by decide +kernel, ⟨tyX4, tyX4_ok⟩, nmX4⟩
theorem v_oX8 : Cond.methodLink RX8 3 Lib.objectInit ∈ lw_gd := za_gd 314 (by decide +kernel) rfl
theorem vt_X8_0 : zn_FT 0 5 TX8 (.array .int) true := ⟨rfl, by decide +kernel, ⟨tyX8, tyX8_ok⟩, nmX8⟩
theorem v_oX6 : Cond.methodLink RX6 3 Lib.objectInit ∈ lw_gd := za_gd 339 (by decide +kernel) rfl
theorem vt_X6_0 : zn_FT 0 3 TX6 (.array .int) true := ⟨rfl, by decide +kernel, ⟨tyX6, tyX6_ok⟩, nmX6⟩
theorem v_oX5 : Cond.methodLink RX5 3 Lib.objectInit ∈ lw_gd := za_gd 286 (by decide +kernel) rfl
theorem vt_X5_0 : zn_FT 0 6 TX5 (.array .int) true := ⟨rfl, by decide +kernel, ⟨tyX5, tyX5_ok⟩, nmX5⟩
theorem vt_X5_1 : zn_FT 1 6 TX5 (.array .int) true := ⟨rfl, by decide +kernel, ⟨tyX5, tyX5_ok⟩, nmX5⟩
theorem v_oX2 : Cond.methodLink RX2 3 Lib.objectInit ∈ lw_gd := za_gd 234 (by decide +kernel) rfl
theorem vt_X2_1 : zn_FT 1 4 TX2 (.array .int) true := ⟨rfl, by decide +kernel, ⟨tyX2, tyX2_ok⟩, nmX2⟩
theorem vt_X2_2 : zn_FT 2 4 TX2 (.array .int) true := ⟨rfl, by decide +kernel, ⟨tyX2, tyX2_ok⟩, nmX2⟩
theorem vt_X2_0 : zn_FT 0 4 TX2 .int true := ⟨rfl, by decide +kernel, ⟨tyX2, tyX2_ok⟩, nmX2⟩
theorem v_oX1 : Cond.methodLink RX1 3 Lib.objectInit ∈ lw_gd := za_gd 112 (by decide +kernel) rfl
theorem v_cX1_9 : Cond.classLink RX1 9 RX0 ∈ lw_gd := za_gd 113 (by decide +kernel) rfl
theorem vt_X1_0 : zn_FT 0 7 TX1 (.array (.object RX0)) true := ⟨rfl, by decide +kernel, ⟨tyX1, tyX1_ok⟩, nmX1⟩
theorem v_cX1_17 : Cond.classLink RX1 17 RX4 ∈ lw_gd := za_gd 115 (by decide +kernel) rfl
theorem vt_X1_1 : zn_FT 1 7 TX1 (.array (.object RX4)) true := ⟨rfl, by decide +kernel, ⟨tyX1, tyX1_ok⟩, nmX1⟩
theorem v_cX1_23 : Cond.classLink RX1 23 RX3 ∈ lw_gd := za_gd 117 (by decide +kernel) rfl
theorem vt_X1_2 : zn_FT 2 7 TX1 (.array (.object RX3)) true := ⟨rfl, by decide +kernel, ⟨tyX1, tyX1_ok⟩, nmX1⟩
theorem v_nX0 : Cond.instantiable RX0 4 ∈ lw_gd := za_gd 119 (by decide +kernel) rfl
theorem v_iX0 : Cond.initialized RX0 ∈ lw_gd := za_gd 78 (by decide +kernel) rfl
theorem v_kX0 : Cond.code yX0_init cX0_init 1 none ∈ lw_gd := za_gd 122 (by decide +kernel) rfl
theorem vy_X0 : za_Y yX0_init cX0_init 1 none 0 := ⟨v_kX0, v_iX0, by decide +kernel⟩
theorem v_mX0 : Cond.instanceMethod yX0_init ∈ lw_gd := za_gd 121 (by decide +kernel) rfl
theorem v_nX4 : Cond.instantiable RX4 3 ∈ lw_gd := za_gd 146 (by decide +kernel) rfl
theorem v_iX4 : Cond.initialized RX4 ∈ lw_gd := za_gd 79 (by decide +kernel) rfl
theorem v_kX4 : Cond.code yX4_init cX4_init 1 none ∈ lw_gd := za_gd 149 (by decide +kernel) rfl
theorem vy_X4 : za_Y yX4_init cX4_init 1 none 0 := ⟨v_kX4, v_iX4, by decide +kernel⟩
theorem v_mX4 : Cond.instanceMethod yX4_init ∈ lw_gd := za_gd 148 (by decide +kernel) rfl
theorem v_nX3 : Cond.instantiable RX3 5 ∈ lw_gd := za_gd 168 (by decide +kernel) rfl
theorem v_iX3 : Cond.initialized RX3 ∈ lw_gd := za_gd 80 (by decide +kernel) rfl
theorem v_kX3 : Cond.code yX3_init cX3_init 1 none ∈ lw_gd := za_gd 171 (by decide +kernel) rfl
theorem vy_X3 : za_Y yX3_init cX3_init 1 none 0 := ⟨v_kX3, v_iX3, by decide +kernel⟩
theorem v_mX3 : Cond.instanceMethod yX3_init ∈ lw_gd := za_gd 170 (by decide +kernel) rfl
set_option maxRecDepth 100000 in
set_option maxHeartbeats 4000000 in
theorem n_X0 {l : Launch} {sa : Nat → Nat} {D : va_G} {cy : Nat → ClassId} : zn_M l sa D cy yX0_init cX0_init 1 1 24 0 0 zeA [] (fun h _ => [(h, zeA)]) := zn_open (by decide) (fun h0 => (Nat.le_of_ble_eq_true rfl)) rfl (fun p e s m args below meth c h0 A C hin hr hk => by
  refine zn_aload_n C 0 dX0_init_0 rfl rfl ?_
  refine zn_obj C v_oX0 v_oi v_oc dX0_init_1 (Nat.le_of_ble_eq_true rfl) (Nat.le_of_ble_eq_true rfl) ?_
  exact zn_vret C (fun _ => 0) hr hk dX0_init_4 (fun H hP hD => ⟨hP, hD⟩))
set_option maxRecDepth 100000 in
set_option maxHeartbeats 4000000 in
theorem n_X3 {l : Launch} {sa : Nat → Nat} {D : va_G} {cy : Nat → ClassId} : zn_M l sa D cy yX3_init cX3_init 1 1 24 0 0 zeL [] (fun h _ => [(h, zeL)]) := zn_open (by decide) (fun h0 => (Nat.le_of_ble_eq_true rfl)) rfl (fun p e s m args below meth c h0 A C hin hr hk => by
  refine zn_aload_n C 0 dX3_init_0 rfl rfl ?_
  refine zn_obj C v_oX3 v_oi v_oc dX3_init_1 (Nat.le_of_ble_eq_true rfl) (Nat.le_of_ble_eq_true rfl) ?_
  exact zn_vret C (fun _ => 0) hr hk dX3_init_4 (fun H hP hD => ⟨hP, hD⟩))
set_option maxRecDepth 100000 in
set_option maxHeartbeats 4000000 in
theorem n_X4 {l : Launch} {sa : Nat → Nat} {D : va_G} {cy : Nat → ClassId} : zn_M l sa D cy yX4_init cX4_init 1 1 24 1 5 (.inr (4, [.null, .int 0, .int 0])) [] (fun h a => [(h, .inr (4, [.ref (a (13, 0, 0)), .int 0, .int 0])), (a (13, 0, 0), zeI cy 5)]) := zn_open (by decide) (fun h0 => (Nat.le_of_ble_eq_true rfl)) rfl (fun p e s m args below meth c h0 A C hin hr hk => by
  refine zn_aload_n C 0 dX4_init_0 rfl rfl ?_
  refine zn_obj C v_oX4 v_oi v_oc dX4_init_1 (Nat.le_of_ble_eq_true rfl) (Nat.le_of_ble_eq_true rfl) ?_
  refine zn_aload_n C 0 dX4_init_4 rfl rfl ?_
  refine zn_iconst C (v := nI 5) dX4_init_5 (by decide) ?_
  refine zn_newa C 5 v_ai (nI_pos (by decide)) (nI_clamp (by decide)) (Nat.le_of_ble_eq_true rfl) (Nat.le_of_ble_eq_true rfl) (Nat.le_of_ble_eq_true rfl) dX4_init_6 (fun q1 => ?_)
  refine zn_putF C hin 0 rfl pf_X4_9 vt_X4_0 rfl rfl rfl (Nat.le_of_ble_eq_true rfl) dX4_init_8 (ws' := [(h0, .inr (4, [.ref q1, .int 0, .int 0])), (q1, zeI cy 5)]) rfl ?_
  exact zn_vret C (fun _ => q1) hr hk dX4_init_11 (fun H hP hD => ⟨hP, hD⟩))
set_option maxRecDepth 100000 in
set_option maxHeartbeats 4000000 in
theorem n_X8 {l : Launch} {sa : Nat → Nat} {D : va_G} {cy : Nat → ClassId} : zn_M l sa D cy yX8_init cX8_init 1 1 24 1 40 (.inr (8, [.null, .int 0, .int 0, .int 0, .int 0])) [] (fun h a => [(h, .inr (8, [.ref (a (21, 0, 0)), .int 0, .int 0, .int 0, .int 0])), (a (21, 0, 0), zeI cy 40)]) := zn_open (by decide) (fun h0 => (Nat.le_of_ble_eq_true rfl)) rfl (fun p e s m args below meth c h0 A C hin hr hk => by
  refine zn_aload_n C 0 dX8_init_0 rfl rfl ?_
  refine zn_obj C v_oX8 v_oi v_oc dX8_init_1 (Nat.le_of_ble_eq_true rfl) (Nat.le_of_ble_eq_true rfl) ?_
  refine zn_aload_n C 0 dX8_init_4 rfl rfl ?_
  refine zn_bipush C (v := nI 40) dX8_init_5 (by decide) ?_
  refine zn_newa C 40 v_ai (nI_pos (by decide)) (nI_clamp (by decide)) (Nat.le_of_ble_eq_true rfl) (Nat.le_of_ble_eq_true rfl) (Nat.le_of_ble_eq_true rfl) dX8_init_7 (fun q1 => ?_)
  refine zn_putF C hin 0 rfl pf_X8_9 vt_X8_0 rfl rfl rfl (Nat.le_of_ble_eq_true rfl) dX8_init_9 (ws' := [(h0, .inr (8, [.ref q1, .int 0, .int 0, .int 0, .int 0])), (q1, zeI cy 40)]) rfl ?_
  exact zn_vret C (fun _ => q1) hr hk dX8_init_12 (fun H hP hD => ⟨hP, hD⟩))
set_option maxRecDepth 100000 in
set_option maxHeartbeats 4000000 in
theorem n_X6 {l : Launch} {sa : Nat → Nat} {D : va_G} {cy : Nat → ClassId} : zn_M l sa D cy yX6_init cX6_init 1 1 24 1 40 (.inr (6, [.null, .int 0, .int 0])) [] (fun h a => [(h, .inr (6, [.ref (a (23, 0, 0)), .int 0, .int 0])), (a (23, 0, 0), zeI cy 40)]) := zn_open (by decide) (fun h0 => (Nat.le_of_ble_eq_true rfl)) rfl (fun p e s m args below meth c h0 A C hin hr hk => by
  refine zn_aload_n C 0 dX6_init_0 rfl rfl ?_
  refine zn_obj C v_oX6 v_oi v_oc dX6_init_1 (Nat.le_of_ble_eq_true rfl) (Nat.le_of_ble_eq_true rfl) ?_
  refine zn_aload_n C 0 dX6_init_4 rfl rfl ?_
  refine zn_bipush C (v := nI 40) dX6_init_5 (by decide) ?_
  refine zn_newa C 40 v_ai (nI_pos (by decide)) (nI_clamp (by decide)) (Nat.le_of_ble_eq_true rfl) (Nat.le_of_ble_eq_true rfl) (Nat.le_of_ble_eq_true rfl) dX6_init_7 (fun q1 => ?_)
  refine zn_putF C hin 0 rfl pf_X6_9 vt_X6_0 rfl rfl rfl (Nat.le_of_ble_eq_true rfl) dX6_init_9 (ws' := [(h0, .inr (6, [.ref q1, .int 0, .int 0])), (q1, zeI cy 40)]) rfl ?_
  exact zn_vret C (fun _ => q1) hr hk dX6_init_12 (fun H hP hD => ⟨hP, hD⟩))
set_option maxRecDepth 100000 in
set_option maxHeartbeats 4000000 in
theorem n_X5 {l : Launch} {sa : Nat → Nat} {D : va_G} {cy : Nat → ClassId} : zn_M l sa D cy yX5_init cX5_init 1 1 24 2 100 (.inr (5, [.null, .null, .int 0, .int 0, .int 0, .int 0])) [] (fun h a => [(h, .inr (5, [.ref (a (19, 0, 0)), .ref (a (20, 0, 0)), .int 0, .int 0, .int 0, .int 0])), (a (19, 0, 0), zeI cy 50), (a (20, 0, 0), zeI cy 50)]) := zn_open (by decide) (fun h0 => (Nat.le_of_ble_eq_true rfl)) rfl (fun p e s m args below meth c h0 A C hin hr hk => by
  refine zn_aload_n C 0 dX5_init_0 rfl rfl ?_
  refine zn_obj C v_oX5 v_oi v_oc dX5_init_1 (Nat.le_of_ble_eq_true rfl) (Nat.le_of_ble_eq_true rfl) ?_
  refine zn_aload_n C 0 dX5_init_4 rfl rfl ?_
  refine zn_bipush C (v := nI 50) dX5_init_5 (by decide) ?_
  refine zn_newa C 50 v_ai (nI_pos (by decide)) (nI_clamp (by decide)) (Nat.le_of_ble_eq_true rfl) (Nat.le_of_ble_eq_true rfl) (Nat.le_of_ble_eq_true rfl) dX5_init_7 (fun q1 => ?_)
  refine zn_putF C hin 0 rfl pf_X5_9 vt_X5_0 rfl rfl rfl (Nat.le_of_ble_eq_true rfl) dX5_init_9 (ws' := [(h0, .inr (5, [.ref q1, .null, .int 0, .int 0, .int 0, .int 0])), (q1, zeI cy 50)]) rfl ?_
  refine zn_aload_n C 0 dX5_init_12 rfl rfl ?_
  refine zn_bipush C (v := nI 50) dX5_init_13 (by decide) ?_
  refine zn_newa C 50 v_ai (nI_pos (by decide)) (nI_clamp (by decide)) (Nat.le_of_ble_eq_true rfl) (Nat.le_of_ble_eq_true rfl) (Nat.le_of_ble_eq_true rfl) dX5_init_15 (fun q2 => ?_)
  refine zn_putF C hin 0 rfl pf_X5_15 vt_X5_1 rfl rfl rfl (Nat.le_of_ble_eq_true rfl) dX5_init_17 (ws' := [(h0, .inr (5, [.ref q1, .ref q2, .int 0, .int 0, .int 0, .int 0])), (q1, zeI cy 50), (q2, zeI cy 50)]) rfl ?_
  exact zn_vret C (fun x => match x.1 with
    | 19 => q1
    | _ => q2) hr hk dX5_init_20 (fun H hP hD => ⟨hP, hD⟩))
set_option maxRecDepth 100000 in
set_option maxHeartbeats 4000000 in
theorem n_X2 {l : Launch} {sa : Nat → Nat} {D : va_G} {cy : Nat → ClassId} {u : Int32} : zn_M l sa D cy yX2_init cX2_init 2 1 24 2 100 (.inr (2, [.int 0, .null, .null, .int 0])) [.int u] (fun h a => [(h, .inr (2, [.int u, .ref (a (17, 0, 0)), .ref (a (18, 0, 0)), .int 0])), (a (17, 0, 0), zeI cy 50), (a (18, 0, 0), zeI cy 50)]) := zn_open (by decide) (fun h0 => (Nat.le_of_ble_eq_true rfl)) rfl (fun p e s m args below meth c h0 A C hin hr hk => by
  refine zn_aload_n C 0 dX2_init_0 rfl rfl ?_
  refine zn_obj C v_oX2 v_oi v_oc dX2_init_1 (Nat.le_of_ble_eq_true rfl) (Nat.le_of_ble_eq_true rfl) ?_
  refine zn_aload_n C 0 dX2_init_4 rfl rfl ?_
  refine zn_bipush C (v := nI 50) dX2_init_5 (by decide) ?_
  refine zn_newa C 50 v_ai (nI_pos (by decide)) (nI_clamp (by decide)) (Nat.le_of_ble_eq_true rfl) (Nat.le_of_ble_eq_true rfl) (Nat.le_of_ble_eq_true rfl) dX2_init_7 (fun q1 => ?_)
  refine zn_putF C hin 0 rfl pf_X2_9 vt_X2_1 rfl rfl rfl (Nat.le_of_ble_eq_true rfl) dX2_init_9 (ws' := [(h0, .inr (2, [.int 0, .ref q1, .null, .int 0])), (q1, zeI cy 50)]) rfl ?_
  refine zn_aload_n C 0 dX2_init_12 rfl rfl ?_
  refine zn_bipush C (v := nI 50) dX2_init_13 (by decide) ?_
  refine zn_newa C 50 v_ai (nI_pos (by decide)) (nI_clamp (by decide)) (Nat.le_of_ble_eq_true rfl) (Nat.le_of_ble_eq_true rfl) (Nat.le_of_ble_eq_true rfl) dX2_init_15 (fun q2 => ?_)
  refine zn_putF C hin 0 rfl pf_X2_15 vt_X2_2 rfl rfl rfl (Nat.le_of_ble_eq_true rfl) dX2_init_17 (ws' := [(h0, .inr (2, [.int 0, .ref q1, .ref q2, .int 0])), (q1, zeI cy 50), (q2, zeI cy 50)]) rfl ?_
  refine zn_aload_n C 0 dX2_init_20 rfl rfl ?_
  refine zn_iload_n C 1 dX2_init_21 rfl rfl ?_
  refine zn_putF C hin 0 rfl pf_X2_18 vt_X2_0 rfl rfl rfl (Nat.le_of_ble_eq_true rfl) dX2_init_22 (ws' := [(h0, .inr (2, [.int u, .ref q1, .ref q2, .int 0])), (q1, zeI cy 50), (q2, zeI cy 50)]) rfl ?_
  exact zn_vret C (fun x => match x.1 with
    | 17 => q1
    | _ => q2) hr hk dX2_init_25 (fun H hP hD => ⟨hP, hD⟩))

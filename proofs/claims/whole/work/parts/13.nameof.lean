/-! the reference's nameOf: which name of the use a byte is (the names lie in texts) -/
def za_nmo (u : Nat) (x : Int32) : Int32 := if za_t1 (3 * u + 2) = x then 2 else if za_t1 (3 * u + 1) = x then 1 else if za_t1 (3 * u) = x then 0 else (-1)
def f_X10_nameOf (x1 : Int32) (M : za_M) (K : Int32 → za_M → Prop) : Prop := vp_in (M.1 (27, 0, 0) 8) 2 ∧ K (za_nmo (M.1 (27, 0, 0) 8).toNatClampNeg x1) M
theorem dJ0_length_8abf5_0 : decode cJ0_length_8abf5 0 = .ok (.aload_n 0, 1) := by decide +kernel
theorem dJ0_length_8abf5_1 : decode cJ0_length_8abf5 1 = .ok (.getfield 9, 3) := by decide +kernel
theorem dJ0_length_8abf5_4 : decode cJ0_length_8abf5 4 = .ok (.arraylength, 1) := by decide +kernel
theorem dJ0_length_8abf5_5 : decode cJ0_length_8abf5 5 = .ok (.aload_n 0, 1) := by decide +kernel
theorem dJ0_length_8abf5_6 : decode cJ0_length_8abf5 6 = .ok (.invokevirtual 335, 3) := by decide +kernel
theorem dJ0_length_8abf5_9 : decode cJ0_length_8abf5 9 = .ok (.ishr, 1) := by decide +kernel
theorem dJ0_length_8abf5_10 : decode cJ0_length_8abf5 10 = .ok (.ireturn, 1) := by decide +kernel
theorem dJ0_charAt_5068e_0 : decode cJ0_charAt_5068e 0 = .ok (.aload_n 0, 1) := by decide +kernel
theorem dJ0_charAt_5068e_1 : decode cJ0_charAt_5068e 1 = .ok (.invokevirtual 492, 3) := by decide +kernel
theorem dJ0_charAt_5068e_4 : decode cJ0_charAt_5068e 4 = .ok (.ifCond .eq 12, 3) := by decide +kernel
theorem dJ0_charAt_5068e_7 : decode cJ0_charAt_5068e 7 = .ok (.aload_n 0, 1) := by decide +kernel
theorem dJ0_charAt_5068e_8 : decode cJ0_charAt_5068e 8 = .ok (.getfield 9, 3) := by decide +kernel
theorem dJ0_charAt_5068e_11 : decode cJ0_charAt_5068e 11 = .ok (.iload_n 1, 1) := by decide +kernel
theorem dJ0_charAt_5068e_12 : decode cJ0_charAt_5068e 12 = .ok (.invokestatic 495, 3) := by decide +kernel
theorem dJ0_charAt_5068e_15 : decode cJ0_charAt_5068e 15 = .ok (.ireturn, 1) := by decide +kernel
theorem dJ0_charAt_5068e_16 : decode cJ0_charAt_5068e 16 = .ok (.aload_n 0, 1) := by decide +kernel
theorem dJ0_charAt_5068e_17 : decode cJ0_charAt_5068e 17 = .ok (.getfield 9, 3) := by decide +kernel
theorem dJ0_charAt_5068e_20 : decode cJ0_charAt_5068e 20 = .ok (.iload_n 1, 1) := by decide +kernel
theorem dJ0_charAt_5068e_21 : decode cJ0_charAt_5068e 21 = .ok (.invokestatic 498, 3) := by decide +kernel
theorem dJ0_charAt_5068e_24 : decode cJ0_charAt_5068e 24 = .ok (.ireturn, 1) := by decide +kernel
theorem dJ0_coder_7d493_0 : decode cJ0_coder_7d493 0 = .ok (.getstatic 38, 3) := by decide +kernel
theorem dJ0_coder_7d493_3 : decode cJ0_coder_7d493 3 = .ok (.ifCond .eq 10, 3) := by decide +kernel
theorem dJ0_coder_7d493_6 : decode cJ0_coder_7d493 6 = .ok (.aload_n 0, 1) := by decide +kernel
theorem dJ0_coder_7d493_7 : decode cJ0_coder_7d493 7 = .ok (.getfield 15, 3) := by decide +kernel
theorem dJ0_coder_7d493_10 : decode cJ0_coder_7d493 10 = .ok (.goto 4, 3) := by decide +kernel
theorem dJ0_coder_7d493_13 : decode cJ0_coder_7d493 13 = .ok (.iconst 1, 1) := by decide +kernel
theorem dJ0_coder_7d493_14 : decode cJ0_coder_7d493 14 = .ok (.ireturn, 1) := by decide +kernel
theorem dJ0_isLatin1_aae02_0 : decode cJ0_isLatin1_aae02 0 = .ok (.getstatic 38, 3) := by decide +kernel
theorem dJ0_isLatin1_aae02_3 : decode cJ0_isLatin1_aae02 3 = .ok (.ifCond .eq 14, 3) := by decide +kernel
theorem dJ0_isLatin1_aae02_6 : decode cJ0_isLatin1_aae02 6 = .ok (.aload_n 0, 1) := by decide +kernel
theorem dJ0_isLatin1_aae02_7 : decode cJ0_isLatin1_aae02 7 = .ok (.getfield 15, 3) := by decide +kernel
theorem dJ0_isLatin1_aae02_10 : decode cJ0_isLatin1_aae02 10 = .ok (.ifCond .ne 7, 3) := by decide +kernel
theorem dJ0_isLatin1_aae02_13 : decode cJ0_isLatin1_aae02 13 = .ok (.iconst 1, 1) := by decide +kernel
theorem dJ0_isLatin1_aae02_14 : decode cJ0_isLatin1_aae02 14 = .ok (.goto 4, 3) := by decide +kernel
theorem dJ0_isLatin1_aae02_17 : decode cJ0_isLatin1_aae02 17 = .ok (.iconst 0, 1) := by decide +kernel
theorem dJ0_isLatin1_aae02_18 : decode cJ0_isLatin1_aae02 18 = .ok (.ireturn, 1) := by decide +kernel
theorem dJ0_checkIndex_df160_0 : decode cJ0_checkIndex_df160 0 = .ok (.iload_n 0, 1) := by decide +kernel
theorem dJ0_checkIndex_df160_1 : decode cJ0_checkIndex_df160 1 = .ok (.iload_n 1, 1) := by decide +kernel
theorem dJ0_checkIndex_df160_2 : decode cJ0_checkIndex_df160 2 = .ok (.getstatic 1053, 3) := by decide +kernel
theorem dJ0_checkIndex_df160_5 : decode cJ0_checkIndex_df160 5 = .ok (.invokestatic 1059, 3) := by decide +kernel
theorem dJ0_checkIndex_df160_8 : decode cJ0_checkIndex_df160 8 = .ok (.pop, 1) := by decide +kernel
theorem dJ0_checkIndex_df160_9 : decode cJ0_checkIndex_df160 9 = .ok (.return_, 1) := by decide +kernel
theorem dJ1_charAt_3b067_0 : decode cJ1_charAt_3b067 0 = .ok (.iload_n 1, 1) := by decide +kernel
theorem dJ1_charAt_3b067_1 : decode cJ1_charAt_3b067 1 = .ok (.aload_n 0, 1) := by decide +kernel
theorem dJ1_charAt_3b067_2 : decode cJ1_charAt_3b067 2 = .ok (.arraylength, 1) := by decide +kernel
theorem dJ1_charAt_3b067_3 : decode cJ1_charAt_3b067 3 = .ok (.invokestatic 9, 3) := by decide +kernel
theorem dJ1_charAt_3b067_6 : decode cJ1_charAt_3b067 6 = .ok (.aload_n 0, 1) := by decide +kernel
theorem dJ1_charAt_3b067_7 : decode cJ1_charAt_3b067 7 = .ok (.iload_n 1, 1) := by decide +kernel
theorem dJ1_charAt_3b067_8 : decode cJ1_charAt_3b067 8 = .ok (.baload, 1) := by decide +kernel
theorem dJ1_charAt_3b067_9 : decode cJ1_charAt_3b067 9 = .ok (.sipush 255, 3) := by decide +kernel
theorem dJ1_charAt_3b067_12 : decode cJ1_charAt_3b067 12 = .ok (.iand, 1) := by decide +kernel
theorem dJ1_charAt_3b067_13 : decode cJ1_charAt_3b067 13 = .ok (.i2c, 1) := by decide +kernel
theorem dJ1_charAt_3b067_14 : decode cJ1_charAt_3b067 14 = .ok (.ireturn, 1) := by decide +kernel
theorem dJ3_checkIndex_8e157_0 : decode cJ3_checkIndex_8e157 0 = .ok (.iload_n 0, 1) := by decide +kernel
theorem dJ3_checkIndex_8e157_1 : decode cJ3_checkIndex_8e157 1 = .ok (.ifCond .lt 8, 3) := by decide +kernel
theorem dJ3_checkIndex_8e157_4 : decode cJ3_checkIndex_8e157 4 = .ok (.iload_n 0, 1) := by decide +kernel
theorem dJ3_checkIndex_8e157_5 : decode cJ3_checkIndex_8e157 5 = .ok (.iload_n 1, 1) := by decide +kernel
theorem dJ3_checkIndex_8e157_6 : decode cJ3_checkIndex_8e157 6 = .ok (.if_icmp .lt 10, 3) := by decide +kernel
theorem dJ3_checkIndex_8e157_9 : decode cJ3_checkIndex_8e157 9 = .ok (.aload_n 2, 1) := by decide +kernel
theorem dJ3_checkIndex_8e157_10 : decode cJ3_checkIndex_8e157 10 = .ok (.iload_n 0, 1) := by decide +kernel
theorem dJ3_checkIndex_8e157_11 : decode cJ3_checkIndex_8e157 11 = .ok (.iload_n 1, 1) := by decide +kernel
theorem dJ3_checkIndex_8e157_12 : decode cJ3_checkIndex_8e157 12 = .ok (.invokestatic 95, 3) := by decide +kernel
theorem dJ3_checkIndex_8e157_15 : decode cJ3_checkIndex_8e157 15 = .ok (.athrow, 1) := by decide +kernel
theorem dJ3_checkIndex_8e157_16 : decode cJ3_checkIndex_8e157 16 = .ok (.iload_n 0, 1) := by decide +kernel
theorem dJ3_checkIndex_8e157_17 : decode cJ3_checkIndex_8e157 17 = .ok (.ireturn, 1) := by decide +kernel
theorem w_87 : Cond.initialized RJ0 ∈ lw_gd := za_gd 87 (by decide +kernel) rfl
theorem w_88 : Cond.initialized RJ1 ∈ lw_gd := za_gd 88 (by decide +kernel) rfl
theorem w_89 : Cond.initialized RJ3 ∈ lw_gd := za_gd 89 (by decide +kernel) rfl
theorem w_1024 : Cond.code yJ0_length_8abf5 cJ0_length_8abf5 1 (some .int) ∈ lw_gd := za_gd 1024 (by decide +kernel) rfl
theorem w_1028 : Cond.code yJ0_coder_7d493 cJ0_coder_7d493 1 (some .byte) ∈ lw_gd := za_gd 1028 (by decide +kernel) rfl
theorem w_1034 : Cond.code yJ0_charAt_5068e cJ0_charAt_5068e 2 (some .char) ∈ lw_gd := za_gd 1034 (by decide +kernel) rfl
theorem w_1038 : Cond.code yJ0_isLatin1_aae02 cJ0_isLatin1_aae02 1 (some .boolean) ∈ lw_gd := za_gd 1038 (by decide +kernel) rfl
theorem w_1041 : Cond.code yJ1_charAt_3b067 cJ1_charAt_3b067 2 (some .char) ∈ lw_gd := za_gd 1041 (by decide +kernel) rfl
theorem w_1044 : Cond.code yJ0_checkIndex_df160 cJ0_checkIndex_df160 2 none ∈ lw_gd := za_gd 1044 (by decide +kernel) rfl
theorem w_1049 : Cond.code yJ3_checkIndex_8e157 cJ3_checkIndex_8e157 3 (some .int) ∈ lw_gd := za_gd 1049 (by decide +kernel) rfl
theorem w_1021 : Cond.methodLink RX10 123 yJ0_length_8abf5 ∈ lw_gd := za_gd 1021 (by decide +kernel) rfl
theorem w_1022 : Cond.instanceMethod yJ0_length_8abf5 ∈ lw_gd := za_gd 1022 (by decide +kernel) rfl
theorem w_1023 : Cond.selects RJ0 yJ0_length_8abf5 yJ0_length_8abf5 ∈ lw_gd := za_gd 1023 (by decide +kernel) rfl
theorem w_1025 : Cond.methodLink RJ0 335 yJ0_coder_7d493 ∈ lw_gd := za_gd 1025 (by decide +kernel) rfl
theorem w_1026 : Cond.instanceMethod yJ0_coder_7d493 ∈ lw_gd := za_gd 1026 (by decide +kernel) rfl
theorem w_1027 : Cond.selects RJ0 yJ0_coder_7d493 yJ0_coder_7d493 ∈ lw_gd := za_gd 1027 (by decide +kernel) rfl
theorem w_1031 : Cond.methodLink RX10 126 yJ0_charAt_5068e ∈ lw_gd := za_gd 1031 (by decide +kernel) rfl
theorem w_1032 : Cond.instanceMethod yJ0_charAt_5068e ∈ lw_gd := za_gd 1032 (by decide +kernel) rfl
theorem w_1033 : Cond.selects RJ0 yJ0_charAt_5068e yJ0_charAt_5068e ∈ lw_gd := za_gd 1033 (by decide +kernel) rfl
theorem w_1035 : Cond.methodLink RJ0 492 yJ0_isLatin1_aae02 ∈ lw_gd := za_gd 1035 (by decide +kernel) rfl
theorem w_1036 : Cond.instanceMethod yJ0_isLatin1_aae02 ∈ lw_gd := za_gd 1036 (by decide +kernel) rfl
theorem w_1037 : Cond.selects RJ0 yJ0_isLatin1_aae02 yJ0_isLatin1_aae02 ∈ lw_gd := za_gd 1037 (by decide +kernel) rfl
theorem w_1039 : Cond.methodLink RJ0 495 yJ1_charAt_3b067 ∈ lw_gd := za_gd 1039 (by decide +kernel) rfl
theorem w_1040 : Cond.static yJ1_charAt_3b067 ∈ lw_gd := za_gd 1040 (by decide +kernel) rfl
theorem w_1042 : Cond.methodLink RJ1 9 yJ0_checkIndex_df160 ∈ lw_gd := za_gd 1042 (by decide +kernel) rfl
theorem w_1043 : Cond.static yJ0_checkIndex_df160 ∈ lw_gd := za_gd 1043 (by decide +kernel) rfl
theorem w_1047 : Cond.methodLink RJ0 1059 yJ3_checkIndex_8e157 ∈ lw_gd := za_gd 1047 (by decide +kernel) rfl
theorem w_1048 : Cond.static yJ3_checkIndex_8e157 ∈ lw_gd := za_gd 1048 (by decide +kernel) rfl
theorem w_1029 : Cond.fieldLink RJ0 38 "java/lang/String" "COMPACT_STRINGS" "Z" ∈ lw_gd := za_gd 1029 (by decide +kernel) rfl
theorem w_1045 : Cond.fieldLink RJ0 1053 "jdk/internal/util/Preconditions" "SIOOBE_FORMATTER" "Ljava/util/function/BiFunction;" ∈ lw_gd := za_gd 1045 (by decide +kernel) rfl
theorem w_1440 : Cond.fieldLink RJ0 9 "java/lang/String" "value" "[B" ∈ lw_gd := za_gd 1440 (by decide +kernel) rfl
theorem w_1441 : Cond.fieldLink RJ0 15 "java/lang/String" "coder" "B" ∈ lw_gd := za_gd 1441 (by decide +kernel) rfl
theorem py_J0_length_8abf5 : za_Y yJ0_length_8abf5 cJ0_length_8abf5 1 (some .int) 0 := ⟨w_1024, w_87, by decide +kernel⟩
theorem py_J0_coder_7d493 : za_Y yJ0_coder_7d493 cJ0_coder_7d493 1 (some .byte) 0 := ⟨w_1028, w_87, by decide +kernel⟩
theorem py_J0_charAt_5068e : za_Y yJ0_charAt_5068e cJ0_charAt_5068e 2 (some .char) 1 := ⟨w_1034, w_87, by decide +kernel⟩
theorem py_J0_isLatin1_aae02 : za_Y yJ0_isLatin1_aae02 cJ0_isLatin1_aae02 1 (some .boolean) 0 := ⟨w_1038, w_87, by decide +kernel⟩
theorem py_J1_charAt_3b067 : za_Y yJ1_charAt_3b067 cJ1_charAt_3b067 2 (some .char) 2 := ⟨w_1041, w_88, by decide +kernel⟩
theorem py_J0_checkIndex_df160 : za_Y yJ0_checkIndex_df160 cJ0_checkIndex_df160 2 none 2 := ⟨w_1044, w_87, by decide +kernel⟩
theorem py_J3_checkIndex_8e157 : za_Y yJ3_checkIndex_8e157 cJ3_checkIndex_8e157 3 (some .int) 3 := ⟨w_1049, w_89, by decide +kernel⟩
theorem pv_RX10_123 : za_YV RX10 123 yJ0_length_8abf5 := ⟨w_1021, w_1022, w_1023⟩
theorem pv_RJ0_335 : za_YV RJ0 335 yJ0_coder_7d493 := ⟨w_1025, w_1026, w_1027⟩
theorem pv_RX10_126 : za_YV RX10 126 yJ0_charAt_5068e := ⟨w_1031, w_1032, w_1033⟩
theorem pv_RJ0_492 : za_YV RJ0 492 yJ0_isLatin1_aae02 := ⟨w_1035, w_1036, w_1037⟩
theorem ps_RJ0_495 : za_YS RJ0 495 yJ1_charAt_3b067 := ⟨w_1039, w_1040⟩
theorem ps_RJ1_9 : za_YS RJ1 9 yJ0_checkIndex_df160 := ⟨w_1042, w_1043⟩
theorem ps_RJ0_1059 : za_YS RJ0 1059 yJ3_checkIndex_8e157 := ⟨w_1047, w_1048⟩
section ZJ
variable {p : Program} {l : Launch} {e : Env} {R : Room} {s : State} {m : MethodId} {args : Array Value} {below : List Frame} {meth : Method} {c : Code} {nc ns : Nat} {Q : State → Prop} {g : za_L → Nat} {D : va_G} {cy : Nat → ClassId} {nL : Nat} {cc : ByteArray} {own : String} {M : za_M} {pc : Nat} {lv : List (Nat × Value)} {rest : List Value}
theorem zt_i2c (C : za_C p s m args c cc nL own g D cy) {x v : Int32} (hdg : decode cc pc = .ok (.i2c, 1)) (hv : (x.toUInt32 % 65536).toInt32 = v) (k : zt p l e R s m args below meth c nc ns Q g D cy nL M (pc + 1) lv (.int v :: rest)) : zt p l e R s m args below meth c nc ns Q g D cy nL M pc lv (.int x :: rest) := fun H locs ls hP hS hl => lv_i2c C.1 C.2.1 hdg hv (k H locs ls hP hS hl)
theorem zt_getsV (C : za_C p s m args c cc nL own g D cy) {Cn n d : String} {v : Value} {index : Nat} (hZ : va_Z Cn n d v (za_A g) s s.heap) (hw : Cond.fieldLink own index Cn n d ∈ lw_gd) (hdg : decode cc pc = .ok (.getstatic index, 3)) (kk : zt p l e R s m args below meth c nc ns Q g D cy nL M (pc + 3) lv (v :: rest)) : zt p l e R s m args below meth c nc ns Q g D cy nL M pc lv rest := fun H locs ls hP hS hl => va_gets C.1 C.2.1 hZ hS C.2.2.2.1 (C.2.2.2.2.1 _ hw) (fun _ h => h) hdg (kk H locs ls hP hS hl)
theorem zt_getO (C : za_C p s m args c cc nL own g D cy) {o n d : String} {v : Value} {q index : Nat} (hE : va_OF o n d v q (za_A g) s s.heap) (hw : Cond.fieldLink own index o n d ∈ lw_gd) (hdg : decode cc pc = .ok (.getfield index, 3)) (kk : zt p l e R s m args below meth c nc ns Q g D cy nL M (pc + 3) lv (v :: rest)) : zt p l e R s m args below meth c nc ns Q g D cy nL M pc lv (.ref q :: rest) := fun H locs ls hP hS hl => vk_getf C.1 C.2.1 hE hS C.2.2.2.1 (C.2.2.2.2.1 _ hw) (fun _ h => h) hdg (kk H locs ls hP hS hl)
theorem zt_tlen (C : za_C p s m args c cc nL own g D cy) {ty : FieldType} {t N : Nat} {f : Nat → Value} {v : Int32} (hT : va_T ty t N f (za_A g) s s.heap) (hv : Int32.ofNat N = v) (hdg : decode cc pc = .ok (.arraylength, 1)) (kk : zt p l e R s m args below meth c nc ns Q g D cy nL M (pc + 1) lv (.int v :: rest)) : zt p l e R s m args below meth c nc ns Q g D cy nL M pc lv (.ref t :: rest) := fun H locs ls hP hS hl => va_tlen C.1 C.2.1 hT hS hv hdg (kk H locs ls hP hS hl)
theorem zt_tbld (C : za_C p s m args c cc nL own g D cy) {t N : Nat} {f : Nat → Int32} {i : Int32} (hT : va_T .byte t N (fun j => .int (f j)) (za_A g) s s.heap) (hin : vp_in i N) (hdg : decode cc pc = .ok (.baload, 1)) (kk : zt p l e R s m args below meth c nc ns Q g D cy nL M (pc + 1) lv (.int (f i.toNatClampNeg) :: rest)) : zt p l e R s m args below meth c nc ns Q g D cy nL M pc lv (.int i :: .ref t :: rest) := fun H locs ls hP hS hl => va_tb C.1 C.2.1 hT hS hin rfl hdg (kk H locs ls hP hS hl)
theorem za_FS (C : za_C p s m args c cc nL own g D cy) : vk_S 2 [3, 3] [[109, 107, 104], [110, 109, 100]] (fun i => g (41, 0, i)) (fun i => g (43, 0, i)) (za_A g) s s.heap := C.2.2.2.2.2.1.2.2.2.2.2.2.1
theorem za_FC (C : za_C p s m args c cc nL own g D cy) : va_Z "java/lang/String" "COMPACT_STRINGS" "Z" (.int 1) (za_A g) s s.heap := C.2.2.2.2.2.1.2.2.2.2.2.2.2.1
theorem za_FQ (C : za_C p s m args c cc nL own g D cy) : va_Zq "jdk/internal/util/Preconditions" "SIOOBE_FORMATTER" "Ljava/util/function/BiFunction;" (za_A g) s s.heap := C.2.2.2.2.2.1.2.2.2.2.2.2.2.2
theorem zt_cKi (C : za_C p s m args c cc nL own g D cy) {y : MethodName} {b : ByteArray} {n fr lo index : Nat} {ret : Option FieldType} {K : Int32 → za_M → Prop} {u : Nat} (hu : u < 2) (hyc : y.cls = "java/lang/String") (As : List Value) (hM : za_Mi l g D cy y b n ret fr lo (.ref (g (41, 0, u)) :: As) M K) (hY : za_Y y b n ret As.length) (hV : za_YV own index y) (hcat : (rest.map fun v => v.category).sum ≤ 8) (hR : fr + 1 ≤ R.frames ∧ 8 + (n + 11) + lo ≤ R.locals) (hf : nc + 0 ≤ R.cells ∧ ns + 0 ≤ R.slots) (hdg : decode cc pc = .ok (.invokevirtual index, 3)) {st : List Value} (hst : st = As.reverse ++ .ref (g (41, 0, u)) :: rest) (kk : ∀ (r : Int32) (M' : za_M), K r M' → zt p l e R s m args below meth c nc ns Q g D cy nL M' (pc + 3) lv (.int r :: rest)) : zt p l e R s m args below meth c nc ns Q g D cy nL M pc lv st := by
  intro H locs ls hP hS hl
  obtain ⟨y1, y2, y3⟩ := hY
  obtain ⟨v1, v2, v3⟩ := hV
  subst hst
  have hG : GoodIn lw_gd (wsV own index y.cls y (.code y b n ret :: lw_gd)) := za_gapp (fun w hw => by
    rcases List.mem_cons.mp hw with h | hw
    · rw [h]; exact v1
    rcases List.mem_cons.mp hw with h | hw
    · rw [h]; exact v2
    rcases List.mem_cons.mp hw with h | hw
    · rw [h]; exact v3
    rw [List.mem_singleton.mp hw]; exact y2) (za_gin y1)
  refine va_calli (va_runV (As := As) (rest := rest) ⟨C.1, C.2.1, C.2.2.1, C.2.2.2.1, C.2.2.2.2.1⟩ hM (cwV As.length C.2.2.2.2.1 hG rfl rfl rfl ⟨rfl, y3⟩ hR) ⟨za_Pr_blind g D cy _ M, (by rw [hyc]; exact vk_recv (za_FS C) hu hS), fun U hU hW => ⟨rfl, by rw [hU]; exact hP, za_F.go C.2.2.2.2.2.1 hU hW hS⟩⟩ rfl rfl hl.1 rfl (lv_room hcat) hdg hf) hS (fun q _ h => h) (fun q h => h) (fun r u t H1 locs1 ht hvm hw hB hz1 hk1 hS1 => kk r u hw H1 locs1 ls (by rw [← ht]; exact hB) hS1 hl)
end ZJ
section ZK
variable {l : Launch} {g : za_L → Nat} {D : va_G} {cy : Nat → ClassId} {M : za_M} {K : Int32 → za_M → Prop}
theorem m_J3_checkIndex (hJ : za_J g) {v : Value} (hv : v = .null ∨ ∃ t : Nat, v = .ref t) {i n : Nat} (hi : i < n) (hn : n < 2 ^ 31) (h : K (nI i) M) : za_Mi l g D cy yJ3_checkIndex_8e157 cJ3_checkIndex_8e157 3 (some .int) 1 64 [.int (nI i), .int (nI n), v] M K := by
  rcases hv with rfl | ⟨t, rfl⟩
  all_goals
    refine za_openi hJ (by decide) (Nat.le_of_ble_eq_true rfl) (fun p e s m args below meth c C hr hk => ?_)
    refine zt_iload_n C 0 dJ3_checkIndex_8e157_0 rfl rfl ?_
    refine zt_if_lt C 9 dJ3_checkIndex_8e157_1 (by decide) (fun q => absurd q (nI_pos (by omega))) (fun _ => ?_)
    refine zt_iload_n C 0 dJ3_checkIndex_8e157_4 rfl rfl ?_
    refine zt_iload_n C 1 dJ3_checkIndex_8e157_5 rfl rfl ?_
    refine zt_icmp_lt C 16 dJ3_checkIndex_8e157_6 (by decide) (fun _ => ?_) (fun q => absurd (nI_lt hi hn) q)
    refine zt_iload_n C 0 dJ3_checkIndex_8e157_16 rfl rfl ?_
    exact zt_ret C hr hk rfl dJ3_checkIndex_8e157_17 h
theorem m_J0_checkIndex (hJ : za_J g) {K : za_M → Prop} {i n : Nat} (hi : i < n) (hn : n < 2 ^ 31) (h : K M) : za_Mv l g D cy yJ0_checkIndex_df160 cJ0_checkIndex_df160 2 none 2 86 [.int (nI i), .int (nI n)] M K := by
  refine za_openv hJ (by decide) (Nat.le_of_ble_eq_true rfl) (fun p e s m args below meth c C hr hk => ?_)
  refine zt_iload_n C 0 dJ0_checkIndex_df160_0 rfl rfl ?_
  refine zt_iload_n C 1 dJ0_checkIndex_df160_1 rfl rfl ?_
  have go : ∀ v : Value, (v = .null ∨ ∃ t : Nat, v = .ref t) → zt p l e (za_rm 2 86) s m args below meth c 0 0 (MQ below (za_Qv g D cy K) args s 0 0 (za_A g)) g D cy 2 M 5 [(0, .int (nI i)), (1, .int (nI n))] [v, .int (nI n), .int (nI i)] := by
    intro v hv
    refine zt_cSi (K := fun r M' => M' = M) C [.int (nI i), .int (nI n), v] (m_J3_checkIndex hJ hv hi hn rfl) py_J3_checkIndex_8e157 ps_RJ0_1059 (Nat.le_of_ble_eq_true rfl) ⟨Nat.le_of_ble_eq_true rfl, Nat.le_of_ble_eq_true rfl⟩ ⟨Nat.zero_le _, Nat.zero_le _⟩ dJ0_checkIndex_df160_5 rfl ?_
    rintro r M' rfl
    refine zt_pop C dJ0_checkIndex_df160_8 rfl ?_
    exact zt_vret C hr hk dJ0_checkIndex_df160_9 h
  rcases za_FQ C with hZ | ⟨t, hZ⟩
  · refine zt_getsV C hZ w_1045 dJ0_checkIndex_df160_2 ?_
    exact go _ (Or.inl rfl)
  · refine zt_getsV C hZ w_1045 dJ0_checkIndex_df160_2 ?_
    exact go _ (Or.inr ⟨t, rfl⟩)
theorem zj_by : ∀ u, u < 2 → ∀ i, i < 3 → ((([[109, 107, 104], [110, 109, 100]] : List (List Int32)).getD u []).getD i 0 &&& 255) = za_t1 (3 * u + i) := by decide
theorem zj_ch : ∀ k, k < 6 → ((za_t1 k).toUInt32 % 65536).toInt32 = za_t1 k := by decide
theorem zj_nr : ∀ k, k < 6 → narrow .char (.int (za_t1 k)) = .int (za_t1 k) := by
  intro k hk
  have hc : k = 0 ∨ k = 1 ∨ k = 2 ∨ k = 3 ∨ k = 4 ∨ k = 5 := by omega
  rcases hc with rfl | rfl | rfl | rfl | rfl | rfl <;> rfl
theorem m_J1_charAt (hJ : za_J g) {u i : Nat} (hu : u < 2) (hi : i < 3) (h : K (za_t1 (3 * u + i)) M) : za_Mi l g D cy yJ1_charAt_3b067 cJ1_charAt_3b067 2 (some .char) 3 107 [.ref (g (43, 0, u)), .int (nI i)] M K := by
  refine za_openi hJ (by decide) (Nat.le_of_ble_eq_true rfl) (fun p e s m args below meth c C hr hk => ?_)
  have hT := ((za_FS C).1 u hu).2.2.2
  have h3 : ([3, 3] : List Nat).getD u 0 = 3 := by
    have hc : u = 0 ∨ u = 1 := by omega
    rcases hc with rfl | rfl <;> rfl
  rw [h3] at hT
  refine zt_iload_n C 1 dJ1_charAt_3b067_0 rfl rfl ?_
  refine zt_aload_n C 0 dJ1_charAt_3b067_1 rfl rfl ?_
  refine zt_tlen C (v := nI 3) hT rfl dJ1_charAt_3b067_2 ?_
  refine zt_cSv (K := fun M' => M' = M) C [.int (nI i), .int (nI 3)] (m_J0_checkIndex hJ hi (by decide) rfl) py_J0_checkIndex_df160 ps_RJ1_9 (Nat.le_of_ble_eq_true rfl) ⟨Nat.le_of_ble_eq_true rfl, Nat.le_of_ble_eq_true rfl⟩ ⟨Nat.zero_le _, Nat.zero_le _⟩ dJ1_charAt_3b067_3 rfl ?_
  rintro M' rfl
  refine zt_aload_n C 0 dJ1_charAt_3b067_6 rfl rfl ?_
  refine zt_iload_n C 1 dJ1_charAt_3b067_7 rfl rfl ?_
  refine zt_tbld C hT (vp_in_nI hi (by decide)) dJ1_charAt_3b067_8 ?_
  rw [nI_clamp (by omega)]
  refine zt_sipush C (v := 255) dJ1_charAt_3b067_9 (by decide) ?_
  refine zt_iand C dJ1_charAt_3b067_12 ?_
  rw [zj_by u hu i hi]
  refine zt_i2c C dJ1_charAt_3b067_13 (zj_ch _ (by omega)) ?_
  exact zt_ret C hr hk (zj_nr _ (by omega)) dJ1_charAt_3b067_14 h
theorem m_J0_coder (hJ : za_J g) {u : Nat} (hu : u < 2) (h : K 0 M) : za_Mi l g D cy yJ0_coder_7d493 cJ0_coder_7d493 1 (some .byte) 1 64 [.ref (g (41, 0, u))] M K := by
  refine za_openi hJ (by decide) (Nat.le_of_ble_eq_true rfl) (fun p e s m args below meth c C hr hk => ?_)
  refine zt_getsV C (za_FC C) w_1029 dJ0_coder_7d493_0 ?_
  refine zt_if_eq C 13 dJ0_coder_7d493_3 (by decide) (fun q => absurd q (by decide)) (fun _ => ?_)
  refine zt_aload_n C 0 dJ0_coder_7d493_6 rfl rfl ?_
  refine zt_getO C ((za_FS C).1 u hu).2.1 w_1441 dJ0_coder_7d493_7 ?_
  refine zt_goto C 14 dJ0_coder_7d493_10 (by decide) ?_
  exact zt_ret C hr hk rfl dJ0_coder_7d493_14 h
theorem m_J0_isLatin1 (hJ : za_J g) {u : Nat} (hu : u < 2) (h : K 1 M) : za_Mi l g D cy yJ0_isLatin1_aae02 cJ0_isLatin1_aae02 1 (some .boolean) 1 64 [.ref (g (41, 0, u))] M K := by
  refine za_openi hJ (by decide) (Nat.le_of_ble_eq_true rfl) (fun p e s m args below meth c C hr hk => ?_)
  refine zt_getsV C (za_FC C) w_1029 dJ0_isLatin1_aae02_0 ?_
  refine zt_if_eq C 17 dJ0_isLatin1_aae02_3 (by decide) (fun q => absurd q (by decide)) (fun _ => ?_)
  refine zt_aload_n C 0 dJ0_isLatin1_aae02_6 rfl rfl ?_
  refine zt_getO C ((za_FS C).1 u hu).2.1 w_1441 dJ0_isLatin1_aae02_7 ?_
  refine zt_if_ne C 17 dJ0_isLatin1_aae02_10 (by decide) (fun q => absurd rfl q) (fun _ => ?_)
  refine zt_iconst C (v := 1) dJ0_isLatin1_aae02_13 (by decide) ?_
  refine zt_goto C 18 dJ0_isLatin1_aae02_14 (by decide) ?_
  exact zt_ret C hr hk rfl dJ0_isLatin1_aae02_18 h
theorem m_J0_length (hJ : za_J g) {u : Nat} (hu : u < 2) (h : K 3 M) : za_Mi l g D cy yJ0_length_8abf5 cJ0_length_8abf5 1 (some .int) 2 84 [.ref (g (41, 0, u))] M K := by
  refine za_openi hJ (by decide) (Nat.le_of_ble_eq_true rfl) (fun p e s m args below meth c C hr hk => ?_)
  have hT := ((za_FS C).1 u hu).2.2.2
  have h3 : ([3, 3] : List Nat).getD u 0 = 3 := by
    have hc : u = 0 ∨ u = 1 := by omega
    rcases hc with rfl | rfl <;> rfl
  rw [h3] at hT
  refine zt_aload_n C 0 dJ0_length_8abf5_0 rfl rfl ?_
  refine zt_getO C ((za_FS C).1 u hu).2.2.1 w_1440 dJ0_length_8abf5_1 ?_
  refine zt_tlen C (v := 3) hT (by decide) dJ0_length_8abf5_4 ?_
  refine zt_aload_n C 0 dJ0_length_8abf5_5 rfl rfl ?_
  refine zt_cKi (K := fun r M' => r = 0 ∧ M' = M) C hu rfl [] (m_J0_coder hJ hu ⟨rfl, rfl⟩) py_J0_coder_7d493 pv_RJ0_335 (Nat.le_of_ble_eq_true rfl) ⟨Nat.le_of_ble_eq_true rfl, Nat.le_of_ble_eq_true rfl⟩ ⟨Nat.zero_le _, Nat.zero_le _⟩ dJ0_length_8abf5_6 rfl ?_
  rintro r M' ⟨rfl, rfl⟩
  refine zt_ishr C dJ0_length_8abf5_9 ?_
  rw [show (3 : Int32) >>> ((0 : Int32) &&& 31) = 3 by decide]
  exact zt_ret C hr hk rfl dJ0_length_8abf5_10 h
theorem m_J0_charAt (hJ : za_J g) {u i : Nat} (hu : u < 2) (hi : i < 3) (h : K (za_t1 (3 * u + i)) M) : za_Mi l g D cy yJ0_charAt_5068e cJ0_charAt_5068e 2 (some .char) 4 128 [.ref (g (41, 0, u)), .int (nI i)] M K := by
  refine za_openi hJ (by decide) (Nat.le_of_ble_eq_true rfl) (fun p e s m args below meth c C hr hk => ?_)
  refine zt_aload_n C 0 dJ0_charAt_5068e_0 rfl rfl ?_
  refine zt_cKi (K := fun r M' => r = 1 ∧ M' = M) C hu rfl [] (m_J0_isLatin1 hJ hu ⟨rfl, rfl⟩) py_J0_isLatin1_aae02 pv_RJ0_492 (Nat.le_of_ble_eq_true rfl) ⟨Nat.le_of_ble_eq_true rfl, Nat.le_of_ble_eq_true rfl⟩ ⟨Nat.zero_le _, Nat.zero_le _⟩ dJ0_charAt_5068e_1 rfl ?_
  rintro r M' ⟨rfl, rfl⟩
  refine zt_if_eq C 16 dJ0_charAt_5068e_4 (by decide) (fun q => absurd q (by decide)) (fun _ => ?_)
  refine zt_aload_n C 0 dJ0_charAt_5068e_7 rfl rfl ?_
  refine zt_getO C ((za_FS C).1 u hu).2.2.1 w_1440 dJ0_charAt_5068e_8 ?_
  refine zt_iload_n C 1 dJ0_charAt_5068e_11 rfl rfl ?_
  refine zt_cSi (K := fun r M1 => r = za_t1 (3 * u + i) ∧ M1 = M') C [.ref (g (43, 0, u)), .int (nI i)] (m_J1_charAt hJ hu hi ⟨rfl, rfl⟩) py_J1_charAt_3b067 ps_RJ0_495 (Nat.le_of_ble_eq_true rfl) ⟨Nat.le_of_ble_eq_true rfl, Nat.le_of_ble_eq_true rfl⟩ ⟨Nat.zero_le _, Nat.zero_le _⟩ dJ0_charAt_5068e_12 rfl ?_
  rintro r M1 ⟨rfl, rfl⟩
  exact zt_ret C hr hk (zj_nr _ (by omega)) dJ0_charAt_5068e_15 h
end ZK
theorem w_X10n28 : Cond.fieldLink RX10 28 "AshLoansModel" "NAMED" "[Ljava/lang/String;" ∈ lw_gd := za_gd 896 (by decide +kernel) rfl
theorem pf_X10n28 : za_FL RX10 28 10 5 23 RX10 TX10 "AshLoansModel" := ⟨rfl, gin_X10, by decide, w_X10n28, rfl⟩
section ZN
variable {p : Program} {l : Launch} {e : Env} {s : State} {m : MethodId} {args : Array Value} {below : List Frame} {meth : Method} {c : Code} {Q : State → Prop} {g : za_L → Nat} {D : va_G} {cy : Nat → ClassId} {M : za_M}
abbrev zj_lv (g : za_L → Nat) (x r : Int32) (i : Nat) : List (Nat × Value) := [(0, .ref (g (27, 0, 0))), (1, .int x), (2, .int r), (3, .int (nI i))]
theorem zj_str (C : za_C p s m args c cX10_nameOf 4 RX10 g D cy) {u i : Nat} {x r : Int32} {pc : Nat} {rest : List Value} (hu : u < 2) (e8 : M.1 (27, 0, 0) 8 = nI u) (d1 : decode cX10_nameOf pc = .ok (.aload_n 0, 1)) (d2 : decode cX10_nameOf (pc + 1) = .ok (.getfield 28, 3)) (d3 : decode cX10_nameOf (pc + 1 + 3) = .ok (.aload_n 0, 1)) (d4 : decode cX10_nameOf (pc + 1 + 3 + 1) = .ok (.getfield 120, 3)) (d5 : decode cX10_nameOf (pc + 1 + 3 + 1 + 3) = .ok (.aaload, 1)) (kk : zt p l e (za_rm 8 400) s m args below meth c 0 0 Q g D cy 4 M (pc + 1 + 3 + 1 + 3 + 1) (zj_lv g x r i) (.ref (g (41, 0, u)) :: rest)) : zt p l e (za_rm 8 400) s m args below meth c 0 0 Q g D cy 4 M pc (zj_lv g x r i) rest := by
  refine zt_aload_n C 0 d1 rfl rfl ?_
  refine zt_get C (za_mem (j := 27) rfl (by decide) (by decide)) pf_X10n28 (za_E_27 g cy M 0 0) rfl d2 ?_
  refine zt_aload_n C 0 d3 rfl rfl ?_
  refine zt_get C (za_mem (j := 27) rfl (by decide) (by decide)) pf_X10_120 (za_E_27 g cy M 0 0) rfl d4 ?_
  rw [e8]
  refine zt_aald C (h := fun j => g (41, 0, j)) (za_mem (j := 32) rfl (by decide) (by decide)) (za_E_32 g cy M 0 0) rfl (vp_in_nI hu (by decide)) d5 ?_
  rw [nI_clamp (by omega)]
  exact kk
theorem zj_step (hJ : za_J g) (C : za_C p s m args c cX10_nameOf 4 RX10 g D cy) {u i : Nat} {x r : Int32} (hu : u < 2) (hi : i < 3) (e8 : M.1 (27, 0, 0) 8 = nI u) (kk : zt p l e (za_rm 8 400) s m args below meth c 0 0 Q g D cy 4 M 4 (zj_lv g x (if za_t1 (3 * u + i) = x then nI i else r) (i + 1)) []) : zt p l e (za_rm 8 400) s m args below meth c 0 0 Q g D cy 4 M 4 (zj_lv g x r i) [] := by
  refine zt_iload_n C 3 dX10_nameOf_4 rfl rfl ?_
  refine zj_str C hu e8 dX10_nameOf_5 dX10_nameOf_6 dX10_nameOf_9 dX10_nameOf_10 dX10_nameOf_13 ?_
  refine zt_cKi (K := fun r M' => r = 3 ∧ M' = M) C hu rfl [] (m_J0_length hJ hu ⟨rfl, rfl⟩) py_J0_length_8abf5 pv_RX10_123 (Nat.le_of_ble_eq_true rfl) ⟨Nat.le_of_ble_eq_true rfl, Nat.le_of_ble_eq_true rfl⟩ ⟨Nat.zero_le _, Nat.zero_le _⟩ dX10_nameOf_14 rfl ?_
  rintro r1 M' ⟨rfl, rfl⟩
  refine zt_icmp_ge C 49 dX10_nameOf_17 (by decide) (fun q => absurd q (nI_ge (b := 3) hi (by decide))) (fun _ => ?_)
  refine zj_str C hu e8 dX10_nameOf_20 dX10_nameOf_21 dX10_nameOf_24 dX10_nameOf_25 dX10_nameOf_28 ?_
  refine zt_iload_n C 3 dX10_nameOf_29 rfl rfl ?_
  refine zt_cKi (K := fun r M1 => r = za_t1 (3 * u + i) ∧ M1 = M') C hu rfl [.int (nI i)] (m_J0_charAt hJ hu hi ⟨rfl, rfl⟩) py_J0_charAt_5068e pv_RX10_126 (Nat.le_of_ble_eq_true rfl) ⟨Nat.le_of_ble_eq_true rfl, Nat.le_of_ble_eq_true rfl⟩ ⟨Nat.zero_le _, Nat.zero_le _⟩ dX10_nameOf_30 rfl ?_
  rintro r2 M1 ⟨rfl, rfl⟩
  refine zt_iload_n C 1 dX10_nameOf_33 rfl rfl ?_
  have fin : ∀ v : Int32, (if za_t1 (3 * u + i) = x then nI i else r) = v → zt p l e (za_rm 8 400) s m args below meth c 0 0 Q g D cy 4 M1 42 (zj_lv g x r i) [.int v] := by
    rintro v rfl
    refine zt_istore_n C _ dX10_nameOf_42 rfl (by decide) rfl ?_
    refine zt_iinc C (v := nI (i + 1)) 3 _ dX10_nameOf_43 rfl (by rw [← nI_1]; rfl) (by decide) rfl ?_
    refine zt_goto C 4 dX10_nameOf_46 (by decide) ?_
    exact zt_sub [2, 3, 1, 0] rfl kk
  refine zt_icmp_ne C 41 dX10_nameOf_34 (by decide) (fun q => ?_) (fun q => ?_)
  · refine zt_iload_n C 2 dX10_nameOf_41 rfl rfl ?_
    exact fin r (if_neg q)
  · refine zt_iload_n C 3 dX10_nameOf_37 rfl rfl ?_
    refine zt_goto C 42 dX10_nameOf_38 (by decide) ?_
    exact fin (nI i) (if_pos q)
end ZN
theorem m_X10_nameOf {l : Launch} {g : za_L → Nat} {D : va_G} {cy : Nat → ClassId} (hJ : za_J g) {x1 : Int32} {M : za_M} {K : Int32 → za_M → Prop} (h : f_X10_nameOf x1 M K) : za_Mi l g D cy yX10_nameOf cX10_nameOf 4 (some .int) 8 400 [.ref (g (27, 0, 0)), .int x1] M K := by
  obtain ⟨h1, h⟩ := h
  obtain ⟨u, hu, e8⟩ := vp_in_of h1 (by decide)
  rw [e8, nI_clamp (by omega)] at h
  refine za_openi hJ (by decide) (Nat.le_of_ble_eq_true rfl) (fun p e s m args below meth c C hr hk => ?_)
  refine zt_iconst C (v := (-1)) dX10_nameOf_0 (by decide) ?_
  refine zt_istore_n C _ dX10_nameOf_1 rfl (by decide) rfl ?_
  refine zt_iconst C (v := nI 0) dX10_nameOf_2 (by decide) ?_
  refine zt_istore_n C _ dX10_nameOf_3 rfl (by decide) rfl ?_
  refine zt_sub [2, 3, 1, 0] (lv' := zj_lv g x1 (-1) 0) rfl ?_
  refine zj_step hJ C hu (by decide) e8 ?_
  refine zj_step hJ C hu (by decide) e8 ?_
  refine zj_step hJ C hu (by decide) e8 ?_
  refine zt_iload_n C 3 dX10_nameOf_4 rfl rfl ?_
  refine zj_str C hu e8 dX10_nameOf_5 dX10_nameOf_6 dX10_nameOf_9 dX10_nameOf_10 dX10_nameOf_13 ?_
  refine zt_cKi (K := fun r M' => r = 3 ∧ M' = M) C hu rfl [] (m_J0_length hJ hu ⟨rfl, rfl⟩) py_J0_length_8abf5 pv_RX10_123 (Nat.le_of_ble_eq_true rfl) ⟨Nat.le_of_ble_eq_true rfl, Nat.le_of_ble_eq_true rfl⟩ ⟨Nat.zero_le _, Nat.zero_le _⟩ dX10_nameOf_14 rfl ?_
  rintro r1 M' ⟨rfl, rfl⟩
  refine zt_icmp_ge C 49 dX10_nameOf_17 (by decide) (fun _ => ?_) (fun q => absurd (by decide) q)
  refine zt_iload_n C 2 dX10_nameOf_49 rfl rfl ?_
  refine zt_ret C hr hk rfl dX10_nameOf_50 ?_
  exact h

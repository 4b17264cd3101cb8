/-! X2_joined -/
def f_X2_joined_b118 (K : Int32 → za_M → Prop) (M : za_M) : Prop :=
  K 0 M
def f_X2_joined_b100 (K : Int32 → za_M → Prop) (M : za_M) : Prop :=
  K 1 M
def f_X2_joined (x0 : Int32) (x1 : Int32) (x2 : Int32) (M : za_M) (K : Int32 → za_M → Prop) : Prop :=
  if x0 = 37 then (if x2 = 0 then (K 0 M) else (¬ x2 = 0 ∧ (K (x1 - x1 / x2 * x2) M))) else if x0 = 38 then (if x1 = 0 then (f_X2_joined_b118 K M) else (if x2 = 0 then (f_X2_joined_b118 K M) else (K 1 M))) else if x0 = 42 then (K (x1 * x2) M) else if x0 = 43 then (K (x1 + x2) M) else if x0 = 45 then (K (x1 - x2) M) else if x0 = 47 then (if x2 = 0 then (K 0 M) else (¬ x2 = 0 ∧ (K (x1 / x2) M))) else if x0 = 60 then (if x2 ≤ x1 then (K 0 M) else (K 1 M)) else if x0 = 61 then (if x1 = x2 then (K 1 M) else (K 0 M)) else if x0 = 62 then (if x1 ≤ x2 then (K 0 M) else (K 1 M)) else if x0 = 124 then (if x1 = 0 then (if x2 = 0 then (K 0 M) else (f_X2_joined_b100 K M)) else (f_X2_joined_b100 K M)) else (K 0 M)
section
variable {p : Program} {l : Launch} {e : Env} {s : State} {m : MethodId} {args : Array Value} {below : List Frame} {meth : Method} {c : Code} {g : za_L → Nat} {D : va_G} {cy : Nat → ClassId} {K : Int32 → za_M → Prop}
set_option maxRecDepth 100000 in
set_option maxHeartbeats 4000000 in
theorem p_X2_joined_b118 (hJ : za_J g) (C : za_C p s m args c cX2_joined 3 RX2 g D cy) (hr : meth.sig.returnType = (some .int)) (hk : meth.locks = false) {M : za_M} (h : f_X2_joined_b118 K M) : zt p l e (za_rm 1 64) s m args below meth c 0 0 (MQ below (za_Qi g D cy K) args s 0 0 (za_A g)) g D cy 3 M 118 [] [] := by
  unfold f_X2_joined_b118 at h
  refine zt_iconst C (v := 0) dX2_joined_118 zk_i0 ?_
  exact zt_ret C hr hk rfl dX2_joined_119 h
set_option maxRecDepth 100000 in
set_option maxHeartbeats 4000000 in
theorem p_X2_joined_b100 (hJ : za_J g) (C : za_C p s m args c cX2_joined 3 RX2 g D cy) (hr : meth.sig.returnType = (some .int)) (hk : meth.locks = false) {M : za_M} (h : f_X2_joined_b100 K M) : zt p l e (za_rm 1 64) s m args below meth c 0 0 (MQ below (za_Qi g D cy K) args s 0 0 (za_A g)) g D cy 3 M 100 [] [] := by
  unfold f_X2_joined_b100 at h
  refine zt_iconst C (v := 1) dX2_joined_100 zk_i1 ?_
  refine zt_goto C 105 dX2_joined_101 (by decide) ?_
  exact zt_ret C hr hk rfl dX2_joined_105 h
set_option maxRecDepth 100000 in
set_option maxHeartbeats 4000000 in
theorem p_X2_joined (hJ : za_J g) (C : za_C p s m args c cX2_joined 3 RX2 g D cy) (hr : meth.sig.returnType = (some .int)) (hk : meth.locks = false) {x0 : Int32} {x1 : Int32} {x2 : Int32} {M : za_M} (h : f_X2_joined x0 x1 x2 M K) : zt p l e (za_rm 1 64) s m args below meth c 0 0 (MQ below (za_Qi g D cy K) args s 0 0 (za_A g)) g D cy 3 M 0 [(0, .int x0), (1, .int x1), (2, .int x2)] [] := by
  unfold f_X2_joined at h
  refine zt_iload_n C 0 dX2_joined_0 rfl rfl ?_
  by_cases q1 : x0 = 37
  · replace h := za_ifp h q1
    refine zt_lookup C (off := 176) 177 dX2_joined_1 (by decide) (by rw [q1]; decide) (by decide) ?_
    refine zt_iload_n C 2 dX2_joined_177 rfl rfl ?_
    refine zt_if_ne C 185 dX2_joined_178 (by decide) (fun q2 => ?_) (fun q2 => ?_)
    · replace h := za_ifn h q2
      refine zt_iload_n C 1 dX2_joined_185 rfl rfl ?_
      refine zt_iload_n C 2 dX2_joined_186 rfl rfl ?_
      obtain ⟨g3, h⟩ := h
      refine zt_irem C dX2_joined_187 g3 ?_
      exact zt_ret C hr hk rfl dX2_joined_188 h
    · replace h := za_ifp h q2
      refine zt_iconst C (v := 0) dX2_joined_181 zk_i0 ?_
      refine zt_goto C 188 dX2_joined_182 (by decide) ?_
      exact zt_ret C hr hk rfl dX2_joined_188 h
  replace h := za_ifn h q1
  by_cases q4 : x0 = 38
  · replace h := za_ifp h q4
    refine zt_lookup C (off := 105) 106 dX2_joined_1 (by decide) (by rw [q4]; decide) (by decide) ?_
    refine zt_iload_n C 1 dX2_joined_106 rfl rfl ?_
    refine zt_if_eq C 118 dX2_joined_107 (by decide) (fun q5 => ?_) (fun q5 => ?_)
    · replace h := za_ifp h q5
      refine zt_sub [] (lv' := []) rfl ?_
      exact p_X2_joined_b118 hJ C hr hk  h
    · replace h := za_ifn h q5
      refine zt_iload_n C 2 dX2_joined_110 rfl rfl ?_
      refine zt_if_eq C 118 dX2_joined_111 (by decide) (fun q6 => ?_) (fun q6 => ?_)
      · replace h := za_ifp h q6
        refine zt_sub [] (lv' := []) rfl ?_
        exact p_X2_joined_b118 hJ C hr hk  h
      · replace h := za_ifn h q6
        refine zt_iconst C (v := 1) dX2_joined_114 zk_i1 ?_
        refine zt_goto C 119 dX2_joined_115 (by decide) ?_
        exact zt_ret C hr hk rfl dX2_joined_119 h
  replace h := za_ifn h q4
  by_cases q7 : x0 = 42
  · replace h := za_ifp h q7
    refine zt_lookup C (off := 160) 161 dX2_joined_1 (by decide) (by rw [q7]; decide) (by decide) ?_
    refine zt_iload_n C 1 dX2_joined_161 rfl rfl ?_
    refine zt_iload_n C 2 dX2_joined_162 rfl rfl ?_
    refine zt_imul C dX2_joined_163 ?_
    exact zt_ret C hr hk rfl dX2_joined_164 h
  replace h := za_ifn h q7
  by_cases q8 : x0 = 43
  · replace h := za_ifp h q8
    refine zt_lookup C (off := 152) 153 dX2_joined_1 (by decide) (by rw [q8]; decide) (by decide) ?_
    refine zt_iload_n C 1 dX2_joined_153 rfl rfl ?_
    refine zt_iload_n C 2 dX2_joined_154 rfl rfl ?_
    refine zt_iadd C dX2_joined_155 ?_
    exact zt_ret C hr hk rfl dX2_joined_156 h
  replace h := za_ifn h q8
  by_cases q9 : x0 = 45
  · replace h := za_ifp h q9
    refine zt_lookup C (off := 156) 157 dX2_joined_1 (by decide) (by rw [q9]; decide) (by decide) ?_
    refine zt_iload_n C 1 dX2_joined_157 rfl rfl ?_
    refine zt_iload_n C 2 dX2_joined_158 rfl rfl ?_
    refine zt_isub C dX2_joined_159 ?_
    exact zt_ret C hr hk rfl dX2_joined_160 h
  replace h := za_ifn h q9
  by_cases q10 : x0 = 47
  · replace h := za_ifp h q10
    refine zt_lookup C (off := 164) 165 dX2_joined_1 (by decide) (by rw [q10]; decide) (by decide) ?_
    refine zt_iload_n C 2 dX2_joined_165 rfl rfl ?_
    refine zt_if_ne C 173 dX2_joined_166 (by decide) (fun q11 => ?_) (fun q11 => ?_)
    · replace h := za_ifn h q11
      refine zt_iload_n C 1 dX2_joined_173 rfl rfl ?_
      refine zt_iload_n C 2 dX2_joined_174 rfl rfl ?_
      obtain ⟨g12, h⟩ := h
      refine zt_idiv C dX2_joined_175 g12 ?_
      exact zt_ret C hr hk rfl dX2_joined_176 h
    · replace h := za_ifp h q11
      refine zt_iconst C (v := 0) dX2_joined_169 zk_i0 ?_
      refine zt_goto C 176 dX2_joined_170 (by decide) ?_
      exact zt_ret C hr hk rfl dX2_joined_176 h
  replace h := za_ifn h q10
  by_cases q13 : x0 = 60
  · replace h := za_ifp h q13
    refine zt_lookup C (off := 119) 120 dX2_joined_1 (by decide) (by rw [q13]; decide) (by decide) ?_
    refine zt_iload_n C 1 dX2_joined_120 rfl rfl ?_
    refine zt_iload_n C 2 dX2_joined_121 rfl rfl ?_
    refine zt_icmp_ge C 129 dX2_joined_122 (by decide) (fun q14 => ?_) (fun q14 => ?_)
    · replace h := za_ifp h q14
      refine zt_iconst C (v := 0) dX2_joined_129 zk_i0 ?_
      exact zt_ret C hr hk rfl dX2_joined_130 h
    · replace h := za_ifn h q14
      refine zt_iconst C (v := 1) dX2_joined_125 zk_i1 ?_
      refine zt_goto C 130 dX2_joined_126 (by decide) ?_
      exact zt_ret C hr hk rfl dX2_joined_130 h
  replace h := za_ifn h q13
  by_cases q15 : x0 = 61
  · replace h := za_ifp h q15
    refine zt_lookup C (off := 130) 131 dX2_joined_1 (by decide) (by rw [q15]; decide) (by decide) ?_
    refine zt_iload_n C 1 dX2_joined_131 rfl rfl ?_
    refine zt_iload_n C 2 dX2_joined_132 rfl rfl ?_
    refine zt_icmp_ne C 140 dX2_joined_133 (by decide) (fun q16 => ?_) (fun q16 => ?_)
    · replace h := za_ifn h q16
      refine zt_iconst C (v := 0) dX2_joined_140 zk_i0 ?_
      exact zt_ret C hr hk rfl dX2_joined_141 h
    · replace h := za_ifp h q16
      refine zt_iconst C (v := 1) dX2_joined_136 zk_i1 ?_
      refine zt_goto C 141 dX2_joined_137 (by decide) ?_
      exact zt_ret C hr hk rfl dX2_joined_141 h
  replace h := za_ifn h q15
  by_cases q17 : x0 = 62
  · replace h := za_ifp h q17
    refine zt_lookup C (off := 141) 142 dX2_joined_1 (by decide) (by rw [q17]; decide) (by decide) ?_
    refine zt_iload_n C 1 dX2_joined_142 rfl rfl ?_
    refine zt_iload_n C 2 dX2_joined_143 rfl rfl ?_
    refine zt_icmp_le C 151 dX2_joined_144 (by decide) (fun q18 => ?_) (fun q18 => ?_)
    · replace h := za_ifp h q18
      refine zt_iconst C (v := 0) dX2_joined_151 zk_i0 ?_
      exact zt_ret C hr hk rfl dX2_joined_152 h
    · replace h := za_ifn h q18
      refine zt_iconst C (v := 1) dX2_joined_147 zk_i1 ?_
      refine zt_goto C 152 dX2_joined_148 (by decide) ?_
      exact zt_ret C hr hk rfl dX2_joined_152 h
  replace h := za_ifn h q17
  by_cases q19 : x0 = 124
  · replace h := za_ifp h q19
    refine zt_lookup C (off := 91) 92 dX2_joined_1 (by decide) (by rw [q19]; decide) (by decide) ?_
    refine zt_iload_n C 1 dX2_joined_92 rfl rfl ?_
    refine zt_if_ne C 100 dX2_joined_93 (by decide) (fun q20 => ?_) (fun q20 => ?_)
    · replace h := za_ifn h q20
      refine zt_sub [] (lv' := []) rfl ?_
      exact p_X2_joined_b100 hJ C hr hk  h
    · replace h := za_ifp h q20
      refine zt_iload_n C 2 dX2_joined_96 rfl rfl ?_
      refine zt_if_eq C 104 dX2_joined_97 (by decide) (fun q21 => ?_) (fun q21 => ?_)
      · replace h := za_ifp h q21
        refine zt_iconst C (v := 0) dX2_joined_104 zk_i0 ?_
        exact zt_ret C hr hk rfl dX2_joined_105 h
      · replace h := za_ifn h q21
        refine zt_sub [] (lv' := []) rfl ?_
        exact p_X2_joined_b100 hJ C hr hk  h
  replace h := za_ifn h q19
  refine zt_lookup C (off := 188) 189 dX2_joined_1 (by decide) (by show Op.lookupswitch.offset [(37, 176), (38, 105), (42, 160), (43, 152), (45, 156), (47, 164), (60, 119), (61, 130), (62, 141), (124, 91)] 188 _ = _; rw [lv_osw q1 (by decide), lv_osw q4 (by decide), lv_osw q7 (by decide), lv_osw q8 (by decide), lv_osw q9 (by decide), lv_osw q10 (by decide), lv_osw q13 (by decide), lv_osw q15 (by decide), lv_osw q17 (by decide), lv_osw q19 (by decide)]; rfl) (by decide) ?_
  refine zt_iconst C (v := 0) dX2_joined_189 zk_i0 ?_
  exact zt_ret C hr hk rfl dX2_joined_190 h
end
theorem m_X2_joined {l : Launch} {g : za_L → Nat} {D : va_G} {cy : Nat → ClassId} (hJ : za_J g)  {x0 : Int32} {x1 : Int32} {x2 : Int32} {M : za_M} {K : Int32 → za_M → Prop} (h : f_X2_joined x0 x1 x2 M K) : za_Mi l g D cy yX2_joined cX2_joined 3 (some .int) 1 64 [.int x0, .int x1, .int x2] M K := za_openi hJ (by decide) (Nat.le_of_ble_eq_true rfl) (fun p e s m args below meth c C hr hk => p_X2_joined hJ C hr hk  h)
/-! X2_worth -/
def f_X2_worth_b164 (K : Int32 → za_M → Prop) (L6 : Int32 → Int32 → za_M → Prop) (c0 : Nat) (i0 : Nat) (x1 : Int32) (x2 : Int32) (x3 : Int32) (x4 : Int32) (x5 : Int32) (M : za_M) : Prop :=
  L6 x4 (x5 + 1) M
def f_X2_worth_b124 (K : Int32 → za_M → Prop) (L6 : Int32 → Int32 → za_M → Prop) (c0 : Nat) (i0 : Nat) (x1 : Int32) (x2 : Int32) (x3 : Int32) (x4 : Int32) (x5 : Int32) (x6 : Int32) (M : za_M) : Prop :=
  if x4 ≤ 1 then (f_X2_worth_b164 K L6 c0 i0 x1 x2 x3 x4 x5 M) else (vp_in ((x4 + (-1)) - 1) 50 ∧ (vp_in (x4 + (-1)) 50 ∧ (f_X2_joined (-x6) (M.1 (18, c0, i0) ((x4 + (-1)) - 1).toNatClampNeg) (M.1 (18, c0, i0) (x4 + (-1)).toNatClampNeg) M (fun r5 M4 => vp_in ((x4 + (-1)) - 1) 50 ∧ (za_let (za_up M4 (18, c0, i0) ((x4 + (-1)) - 1).toNatClampNeg r5) fun M7 => f_X2_worth_b164 K L6 c0 i0 x1 x2 x3 (x4 + (-1)) x5 M7)))))
def f_X2_worth_b120 (K : Int32 → za_M → Prop) (L6 : Int32 → Int32 → za_M → Prop) (c0 : Nat) (i0 : Nat) (x1 : Int32) (x2 : Int32) (x3 : Int32) (x4 : Int32) (x5 : Int32) (is0 : Nat) (s1 : Int32) (s2 : Int32) (M : za_M) : Prop :=
  vp_in s1 50 ∧ (za_let (za_up M (18, c0, is0) s1.toNatClampNeg s2) fun M10 => f_X2_worth_b164 K L6 c0 i0 x1 x2 x3 x4 x5 M10)
def f_X2_worth_b76 (K : Int32 → za_M → Prop) (L6 : Int32 → Int32 → za_M → Prop) (c0 : Nat) (i0 : Nat) (x1 : Int32) (x2 : Int32) (x3 : Int32) (x4 : Int32) (x5 : Int32) (is0 : Nat) (s1 : Int32) (s2 : Int32) (M : za_M) : Prop :=
  vp_in s1 50 ∧ (za_let (za_up M (18, c0, is0) s1.toNatClampNeg s2) fun M13 => f_X2_worth_b164 K L6 c0 i0 x1 x2 x3 (x4 + 1) x5 M13)
def f_X2_worth_b6 (K : Int32 → za_M → Prop) (c0 : Nat) (i0 : Nat) (x1 : Int32) (x2 : Int32) (x3 : Int32) (L6 : Int32 → Int32 → za_M → Prop) (x4 : Int32) (x5 : Int32) (M : za_M) : Prop :=
  if (M.1 (6, c0, i0) 3) ≤ x5 then (vp_in 0 50 ∧ (K (M.1 (18, c0, i0) (Int32.toNatClampNeg 0)) M)) else (vp_in x5 50 ∧ (za_let (M.1 (17, c0, i0) x5.toNatClampNeg) fun y18 => if y18 < (-3) then (if y18 = (-33) then (if x4 ≤ 0 then (f_X2_worth_b124 K L6 c0 i0 x1 x2 x3 x4 x5 y18 M) else (vp_in (x4 - 1) 50 ∧ (if (M.1 (18, c0, i0) (x4 - 1).toNatClampNeg) = 0 then (f_X2_worth_b120 K L6 c0 i0 x1 x2 x3 x4 x5 i0 (x4 - 1) 1 M) else (f_X2_worth_b120 K L6 c0 i0 x1 x2 x3 x4 x5 i0 (x4 - 1) 0 M)))) else (f_X2_worth_b124 K L6 c0 i0 x1 x2 x3 x4 x5 y18 M)) else (if 50 ≤ x4 then (f_X2_worth_b164 K L6 c0 i0 x1 x2 x3 x4 x5 M) else (if y18 < 0 then (if y18 = (-1) then (f_X2_worth_b76 K L6 c0 i0 x1 x2 x3 x4 x5 i0 x4 x1 M) else (if y18 = (-2) then (f_X2_worth_b76 K L6 c0 i0 x1 x2 x3 x4 x5 i0 x4 x2 M) else (f_X2_worth_b76 K L6 c0 i0 x1 x2 x3 x4 x5 i0 x4 x3 M))) else (f_X2_worth_b76 K L6 c0 i0 x1 x2 x3 x4 x5 i0 x4 y18 M)))))
def f_X2_worth (c0 : Nat) (i0 : Nat) (x1 : Int32) (x2 : Int32) (x3 : Int32) (M : za_M) (K : Int32 → za_M → Prop) : Prop :=
  ∃ n, za_lp2 (f_X2_worth_b6 K c0 i0 x1 x2 x3) n 0 0 M
section
variable {p : Program} {l : Launch} {e : Env} {s : State} {m : MethodId} {args : Array Value} {below : List Frame} {meth : Method} {c : Code} {g : za_L → Nat} {D : va_G} {cy : Nat → ClassId} {K : Int32 → za_M → Prop}
set_option maxRecDepth 100000 in
set_option maxHeartbeats 4000000 in
theorem p_X2_worth_b164 (hJ : za_J g) (C : za_C p s m args c cX2_worth 7 RX2 g D cy) (hr : meth.sig.returnType = (some .int)) (hk : meth.locks = false) {c0 : Nat} (hc0 : c0 < 2) {i0 : Nat} (hi0 : i0 < 2) {x1 : Int32} {x2 : Int32} {x3 : Int32} {x4 : Int32} {x5 : Int32} {L6 : Int32 → Int32 → za_M → Prop} (hL6 : ∀ (x4 : Int32) (x5 : Int32) (M : za_M), L6 x4 x5 M → zt p l e (za_rm 2 86) s m args below meth c 0 0 (MQ below (za_Qi g D cy K) args s 0 0 (za_A g)) g D cy 7 M 6 [(0, .ref (g (6, c0, i0))), (1, .int x1), (2, .int x2), (3, .int x3), (4, .int x4), (5, .int x5)] []) {M : za_M} (h : f_X2_worth_b164 K L6 c0 i0 x1 x2 x3 x4 x5 M) : zt p l e (za_rm 2 86) s m args below meth c 0 0 (MQ below (za_Qi g D cy K) args s 0 0 (za_A g)) g D cy 7 M 164 [(0, .ref (g (6, c0, i0))), (1, .int x1), (2, .int x2), (3, .int x3), (4, .int x4), (5, .int x5)] [] := by
  unfold f_X2_worth_b164 at h
  refine zt_iinc C (v := x5 + 1) 5 [(5, .int (x5 + 1)), (0, .ref (g (6, c0, i0))), (1, .int x1), (2, .int x2), (3, .int x3), (4, .int x4)] dX2_worth_164 rfl (zk_n1 _) (by decide) rfl ?_
  refine zt_goto C 6 dX2_worth_167 (by decide) ?_
  refine zt_sub [1, 2, 3, 4, 5, 0] (lv' := [(0, .ref (g (6, c0, i0))), (1, .int x1), (2, .int x2), (3, .int x3), (4, .int x4), (5, .int (x5 + 1))]) rfl ?_
  exact hL6 _ _ _ h
set_option maxRecDepth 100000 in
set_option maxHeartbeats 4000000 in
theorem p_X2_worth_b124 (hJ : za_J g) (C : za_C p s m args c cX2_worth 7 RX2 g D cy) (hr : meth.sig.returnType = (some .int)) (hk : meth.locks = false) {c0 : Nat} (hc0 : c0 < 2) {i0 : Nat} (hi0 : i0 < 2) {x1 : Int32} {x2 : Int32} {x3 : Int32} {x4 : Int32} {x5 : Int32} {x6 : Int32} {L6 : Int32 → Int32 → za_M → Prop} (hL6 : ∀ (x4 : Int32) (x5 : Int32) (M : za_M), L6 x4 x5 M → zt p l e (za_rm 2 86) s m args below meth c 0 0 (MQ below (za_Qi g D cy K) args s 0 0 (za_A g)) g D cy 7 M 6 [(0, .ref (g (6, c0, i0))), (1, .int x1), (2, .int x2), (3, .int x3), (4, .int x4), (5, .int x5)] []) {M : za_M} (h : f_X2_worth_b124 K L6 c0 i0 x1 x2 x3 x4 x5 x6 M) : zt p l e (za_rm 2 86) s m args below meth c 0 0 (MQ below (za_Qi g D cy K) args s 0 0 (za_A g)) g D cy 7 M 124 [(0, .ref (g (6, c0, i0))), (1, .int x1), (2, .int x2), (3, .int x3), (4, .int x4), (5, .int x5), (6, .int x6)] [] := by
  unfold f_X2_worth_b124 at h
  refine zt_iload C 4 dX2_worth_124 rfl ?_
  refine zt_iconst C (v := 1) dX2_worth_126 zk_i1 ?_
  refine zt_icmp_le C 164 dX2_worth_127 (by decide) (fun q1 => ?_) (fun q1 => ?_)
  · replace h := za_ifp h q1
    refine zt_sub [0, 1, 2, 3, 4, 5] (lv' := [(0, .ref (g (6, c0, i0))), (1, .int x1), (2, .int x2), (3, .int x3), (4, .int x4), (5, .int x5)]) rfl ?_
    exact p_X2_worth_b164 hJ C hr hk hc0 hi0 hL6 h
  · replace h := za_ifn h q1
    refine zt_iinc C (v := x4 + (-1)) 4 [(4, .int (x4 + (-1))), (0, .ref (g (6, c0, i0))), (1, .int x1), (2, .int x2), (3, .int x3), (5, .int x5), (6, .int x6)] dX2_worth_130 rfl (zk_nm1 _) (by decide) rfl ?_
    refine zt_aload_n C 1 dX2_worth_133 rfl rfl ?_
    refine zt_get C (za_mem (j := 6) rfl hc0 hi0) pf_X2_15 (za_E_6 g cy M c0 i0) rfl dX2_worth_134 ?_
    refine zt_iload C 0 dX2_worth_137 rfl ?_
    refine zt_iconst C (v := 1) dX2_worth_139 zk_i1 ?_
    refine zt_isub C dX2_worth_140 ?_
    refine zt_iload C 6 dX2_worth_141 rfl ?_
    refine zt_ineg C dX2_worth_143 ?_
    refine zt_aload_n C 1 dX2_worth_144 rfl rfl ?_
    refine zt_get C (za_mem (j := 6) rfl hc0 hi0) pf_X2_15 (za_E_6 g cy M c0 i0) rfl dX2_worth_145 ?_
    refine zt_iload C 0 dX2_worth_148 rfl ?_
    refine zt_iconst C (v := 1) dX2_worth_150 zk_i1 ?_
    refine zt_isub C dX2_worth_151 ?_
    obtain ⟨g2, h⟩ := h
    refine zt_iald C (za_mem (j := 18) rfl hc0 hi0) (fun W9 => za_E_18 g cy W9 c0 i0) g2 dX2_worth_152 ?_
    refine zt_aload_n C 1 dX2_worth_153 rfl rfl ?_
    refine zt_get C (za_mem (j := 6) rfl hc0 hi0) pf_X2_15 (za_E_6 g cy M c0 i0) rfl dX2_worth_154 ?_
    refine zt_iload C 0 dX2_worth_157 rfl ?_
    obtain ⟨g3, h⟩ := h
    refine zt_iald C (za_mem (j := 18) rfl hc0 hi0) (fun W9 => za_E_18 g cy W9 c0 i0) g3 dX2_worth_159 ?_
    refine zt_cSi C [.int (-x6), .int (M.1 (18, c0, i0) ((x4 + (-1)) - 1).toNatClampNeg), .int (M.1 (18, c0, i0) (x4 + (-1)).toNatClampNeg)] (m_X2_joined hJ  h) py_X2_joined ps_X2_42 (Nat.le_of_ble_eq_true rfl) ⟨Nat.le_of_ble_eq_true rfl, Nat.le_of_ble_eq_true rfl⟩ ⟨Nat.zero_le _, Nat.zero_le _⟩ dX2_worth_160 rfl (fun r5 M4 h => ?_)
    obtain ⟨g6, h⟩ := h
    refine zt_iast C (za_mem (j := 18) rfl hc0 hi0) (fun W9 => za_E_18 g cy W9 c0 i0) g6 dX2_worth_163 ?_
    refine zt_topM (fun M7 e8 => ?_)
    replace h := za_use h e8
    refine zt_sub [1, 2, 3, 4, 0, 5] (lv' := [(0, .ref (g (6, c0, i0))), (1, .int x1), (2, .int x2), (3, .int x3), (4, .int (x4 + (-1))), (5, .int x5)]) rfl ?_
    exact p_X2_worth_b164 hJ C hr hk hc0 hi0 hL6 h
set_option maxRecDepth 100000 in
set_option maxHeartbeats 4000000 in
theorem p_X2_worth_b120 (hJ : za_J g) (C : za_C p s m args c cX2_worth 7 RX2 g D cy) (hr : meth.sig.returnType = (some .int)) (hk : meth.locks = false) {c0 : Nat} (hc0 : c0 < 2) {i0 : Nat} (hi0 : i0 < 2) {x1 : Int32} {x2 : Int32} {x3 : Int32} {x4 : Int32} {x5 : Int32} {is0 : Nat} (his0 : is0 < 2) {s1 : Int32} {s2 : Int32} {L6 : Int32 → Int32 → za_M → Prop} (hL6 : ∀ (x4 : Int32) (x5 : Int32) (M : za_M), L6 x4 x5 M → zt p l e (za_rm 2 86) s m args below meth c 0 0 (MQ below (za_Qi g D cy K) args s 0 0 (za_A g)) g D cy 7 M 6 [(0, .ref (g (6, c0, i0))), (1, .int x1), (2, .int x2), (3, .int x3), (4, .int x4), (5, .int x5)] []) {M : za_M} (h : f_X2_worth_b120 K L6 c0 i0 x1 x2 x3 x4 x5 is0 s1 s2 M) : zt p l e (za_rm 2 86) s m args below meth c 0 0 (MQ below (za_Qi g D cy K) args s 0 0 (za_A g)) g D cy 7 M 120 [(0, .ref (g (6, c0, i0))), (1, .int x1), (2, .int x2), (3, .int x3), (4, .int x4), (5, .int x5)] [.int s2, .int s1, .ref (g (18, c0, is0))] := by
  unfold f_X2_worth_b120 at h
  obtain ⟨g9, h⟩ := h
  refine zt_iast C (za_mem (j := 18) rfl hc0 his0) (fun W9 => za_E_18 g cy W9 c0 is0) g9 dX2_worth_120 ?_
  refine zt_topM (fun M10 e11 => ?_)
  replace h := za_use h e11
  refine zt_goto C 164 dX2_worth_121 (by decide) ?_
  exact p_X2_worth_b164 hJ C hr hk hc0 hi0 hL6 h
set_option maxRecDepth 100000 in
set_option maxHeartbeats 4000000 in
theorem p_X2_worth_b76 (hJ : za_J g) (C : za_C p s m args c cX2_worth 7 RX2 g D cy) (hr : meth.sig.returnType = (some .int)) (hk : meth.locks = false) {c0 : Nat} (hc0 : c0 < 2) {i0 : Nat} (hi0 : i0 < 2) {x1 : Int32} {x2 : Int32} {x3 : Int32} {x4 : Int32} {x5 : Int32} {is0 : Nat} (his0 : is0 < 2) {s1 : Int32} {s2 : Int32} {L6 : Int32 → Int32 → za_M → Prop} (hL6 : ∀ (x4 : Int32) (x5 : Int32) (M : za_M), L6 x4 x5 M → zt p l e (za_rm 2 86) s m args below meth c 0 0 (MQ below (za_Qi g D cy K) args s 0 0 (za_A g)) g D cy 7 M 6 [(0, .ref (g (6, c0, i0))), (1, .int x1), (2, .int x2), (3, .int x3), (4, .int x4), (5, .int x5)] []) {M : za_M} (h : f_X2_worth_b76 K L6 c0 i0 x1 x2 x3 x4 x5 is0 s1 s2 M) : zt p l e (za_rm 2 86) s m args below meth c 0 0 (MQ below (za_Qi g D cy K) args s 0 0 (za_A g)) g D cy 7 M 76 [(0, .ref (g (6, c0, i0))), (1, .int x1), (2, .int x2), (3, .int x3), (4, .int x4), (5, .int x5)] [.int s2, .int s1, .ref (g (18, c0, is0))] := by
  unfold f_X2_worth_b76 at h
  obtain ⟨g12, h⟩ := h
  refine zt_iast C (za_mem (j := 18) rfl hc0 his0) (fun W9 => za_E_18 g cy W9 c0 is0) g12 dX2_worth_76 ?_
  refine zt_topM (fun M13 e14 => ?_)
  replace h := za_use h e14
  refine zt_iinc C (v := x4 + 1) 4 [(4, .int (x4 + 1)), (0, .ref (g (6, c0, i0))), (1, .int x1), (2, .int x2), (3, .int x3), (5, .int x5)] dX2_worth_77 rfl (zk_n1 _) (by decide) rfl ?_
  refine zt_goto C 164 dX2_worth_80 (by decide) ?_
  refine zt_sub [1, 2, 3, 4, 0, 5] (lv' := [(0, .ref (g (6, c0, i0))), (1, .int x1), (2, .int x2), (3, .int x3), (4, .int (x4 + 1)), (5, .int x5)]) rfl ?_
  exact p_X2_worth_b164 hJ C hr hk hc0 hi0 hL6 h
set_option maxRecDepth 100000 in
set_option maxHeartbeats 4000000 in
theorem p_X2_worth_b6 (hJ : za_J g) (C : za_C p s m args c cX2_worth 7 RX2 g D cy) (hr : meth.sig.returnType = (some .int)) (hk : meth.locks = false) {c0 : Nat} (hc0 : c0 < 2) {i0 : Nat} (hi0 : i0 < 2) {x1 : Int32} {x2 : Int32} {x3 : Int32} {L6 : Int32 → Int32 → za_M → Prop} (hL6 : ∀ (x4 : Int32) (x5 : Int32) (M : za_M), L6 x4 x5 M → zt p l e (za_rm 2 86) s m args below meth c 0 0 (MQ below (za_Qi g D cy K) args s 0 0 (za_A g)) g D cy 7 M 6 [(0, .ref (g (6, c0, i0))), (1, .int x1), (2, .int x2), (3, .int x3), (4, .int x4), (5, .int x5)] []) : ∀ (x4 : Int32) (x5 : Int32) (M : za_M), f_X2_worth_b6 K c0 i0 x1 x2 x3 L6 x4 x5 M → zt p l e (za_rm 2 86) s m args below meth c 0 0 (MQ below (za_Qi g D cy K) args s 0 0 (za_A g)) g D cy 7 M 6 [(0, .ref (g (6, c0, i0))), (1, .int x1), (2, .int x2), (3, .int x3), (4, .int x4), (5, .int x5)] [] := by
  intro x4 x5 M h
  unfold f_X2_worth_b6 at h
  refine zt_iload C 5 dX2_worth_6 rfl ?_
  refine zt_aload_n C 0 dX2_worth_8 rfl rfl ?_
  refine zt_get C (za_mem (j := 6) rfl hc0 hi0) pf_X2_26 (za_E_6 g cy M c0 i0) rfl dX2_worth_9 ?_
  refine zt_icmp_ge C 170 dX2_worth_12 (by decide) (fun q15 => ?_) (fun q15 => ?_)
  · replace h := za_ifp h q15
    refine zt_aload_n C 0 dX2_worth_170 rfl rfl ?_
    refine zt_get C (za_mem (j := 6) rfl hc0 hi0) pf_X2_15 (za_E_6 g cy M c0 i0) rfl dX2_worth_171 ?_
    refine zt_iconst C (v := 0) dX2_worth_174 zk_i0 ?_
    obtain ⟨g16, h⟩ := h
    refine zt_iald C (za_mem (j := 18) rfl hc0 hi0) (fun W9 => za_E_18 g cy W9 c0 i0) g16 dX2_worth_175 ?_
    exact zt_ret C hr hk rfl dX2_worth_176 h
  · replace h := za_ifn h q15
    refine zt_aload_n C 0 dX2_worth_15 rfl rfl ?_
    refine zt_get C (za_mem (j := 6) rfl hc0 hi0) pf_X2_9 (za_E_6 g cy M c0 i0) rfl dX2_worth_16 ?_
    refine zt_iload C 5 dX2_worth_19 rfl ?_
    obtain ⟨g17, h⟩ := h
    refine zt_iald C (za_mem (j := 17) rfl hc0 hi0) (fun W9 => za_E_17 g cy W9 c0 i0) g17 dX2_worth_21 ?_
    refine zt_topi (fun y18 e19 => ?_)
    replace h := za_use h e19
    refine zt_istore C [(6, .int y18), (0, .ref (g (6, c0, i0))), (1, .int x1), (2, .int x2), (3, .int x3), (4, .int x4), (5, .int x5)] dX2_worth_22 (by decide) rfl ?_
    refine zt_iload C 0 dX2_worth_24 rfl ?_
    refine zt_bipush C (v := (-3)) dX2_worth_26 zk_bm3 ?_
    refine zt_icmp_lt C 83 dX2_worth_28 (by decide) (fun q20 => ?_) (fun q20 => ?_)
    · replace h := za_ifp h q20
      refine zt_iload C 0 dX2_worth_83 rfl ?_
      refine zt_bipush C (v := (-33)) dX2_worth_85 zk_bm33 ?_
      refine zt_icmp_ne C 124 dX2_worth_87 (by decide) (fun q21 => ?_) (fun q21 => ?_)
      · replace h := za_ifn h q21
        refine zt_sub [1, 2, 3, 4, 5, 6, 0] (lv' := [(0, .ref (g (6, c0, i0))), (1, .int x1), (2, .int x2), (3, .int x3), (4, .int x4), (5, .int x5), (6, .int y18)]) rfl ?_
        exact p_X2_worth_b124 hJ C hr hk hc0 hi0 hL6 h
      · replace h := za_ifp h q21
        refine zt_iload C 5 dX2_worth_90 rfl ?_
        refine zt_if_le C 124 dX2_worth_92 (by decide) (fun q22 => ?_) (fun q22 => ?_)
        · replace h := za_ifp h q22
          refine zt_sub [1, 2, 3, 4, 5, 6, 0] (lv' := [(0, .ref (g (6, c0, i0))), (1, .int x1), (2, .int x2), (3, .int x3), (4, .int x4), (5, .int x5), (6, .int y18)]) rfl ?_
          exact p_X2_worth_b124 hJ C hr hk hc0 hi0 hL6 h
        · replace h := za_ifn h q22
          refine zt_aload_n C 1 dX2_worth_95 rfl rfl ?_
          refine zt_get C (za_mem (j := 6) rfl hc0 hi0) pf_X2_15 (za_E_6 g cy M c0 i0) rfl dX2_worth_96 ?_
          refine zt_iload C 5 dX2_worth_99 rfl ?_
          refine zt_iconst C (v := 1) dX2_worth_101 zk_i1 ?_
          refine zt_isub C dX2_worth_102 ?_
          refine zt_aload_n C 1 dX2_worth_103 rfl rfl ?_
          refine zt_get C (za_mem (j := 6) rfl hc0 hi0) pf_X2_15 (za_E_6 g cy M c0 i0) rfl dX2_worth_104 ?_
          refine zt_iload C 5 dX2_worth_107 rfl ?_
          refine zt_iconst C (v := 1) dX2_worth_109 zk_i1 ?_
          refine zt_isub C dX2_worth_110 ?_
          obtain ⟨g23, h⟩ := h
          refine zt_iald C (za_mem (j := 18) rfl hc0 hi0) (fun W9 => za_E_18 g cy W9 c0 i0) g23 dX2_worth_111 ?_
          refine zt_if_ne C 119 dX2_worth_112 (by decide) (fun q24 => ?_) (fun q24 => ?_)
          · replace h := za_ifn h q24
            refine zt_iconst C (v := 0) dX2_worth_119 zk_i0 ?_
            refine zt_sub [1, 2, 3, 4, 5, 6] (lv' := [(0, .ref (g (6, c0, i0))), (1, .int x1), (2, .int x2), (3, .int x3), (4, .int x4), (5, .int x5)]) rfl ?_
            exact p_X2_worth_b120 hJ C hr hk hc0 hi0 hi0 hL6 h
          · replace h := za_ifp h q24
            refine zt_iconst C (v := 1) dX2_worth_115 zk_i1 ?_
            refine zt_goto C 120 dX2_worth_116 (by decide) ?_
            refine zt_sub [1, 2, 3, 4, 5, 6] (lv' := [(0, .ref (g (6, c0, i0))), (1, .int x1), (2, .int x2), (3, .int x3), (4, .int x4), (5, .int x5)]) rfl ?_
            exact p_X2_worth_b120 hJ C hr hk hc0 hi0 hi0 hL6 h
    · replace h := za_ifn h q20
      refine zt_iload C 5 dX2_worth_31 rfl ?_
      refine zt_bipush C (v := 50) dX2_worth_33 zk_b50 ?_
      refine zt_icmp_ge C 164 dX2_worth_35 (by decide) (fun q25 => ?_) (fun q25 => ?_)
      · replace h := za_ifp h q25
        refine zt_sub [1, 2, 3, 4, 5, 6] (lv' := [(0, .ref (g (6, c0, i0))), (1, .int x1), (2, .int x2), (3, .int x3), (4, .int x4), (5, .int x5)]) rfl ?_
        exact p_X2_worth_b164 hJ C hr hk hc0 hi0 hL6 h
      · replace h := za_ifn h q25
        refine zt_aload_n C 1 dX2_worth_38 rfl rfl ?_
        refine zt_get C (za_mem (j := 6) rfl hc0 hi0) pf_X2_15 (za_E_6 g cy M c0 i0) rfl dX2_worth_39 ?_
        refine zt_iload C 5 dX2_worth_42 rfl ?_
        refine zt_iload C 0 dX2_worth_44 rfl ?_
        refine zt_if_lt C 54 dX2_worth_46 (by decide) (fun q26 => ?_) (fun q26 => ?_)
        · replace h := za_ifp h q26
          refine zt_iload C 0 dX2_worth_54 rfl ?_
          refine zt_iconst C (v := (-1)) dX2_worth_56 zk_im1 ?_
          refine zt_icmp_ne C 64 dX2_worth_57 (by decide) (fun q27 => ?_) (fun q27 => ?_)
          · replace h := za_ifn h q27
            refine zt_iload C 0 dX2_worth_64 rfl ?_
            refine zt_bipush C (v := (-2)) dX2_worth_66 zk_bm2 ?_
            refine zt_icmp_ne C 75 dX2_worth_68 (by decide) (fun q28 => ?_) (fun q28 => ?_)
            · replace h := za_ifn h q28
              refine zt_iload_n C 4 dX2_worth_75 rfl rfl ?_
              refine zt_sub [1, 2, 3, 4, 5, 6] (lv' := [(0, .ref (g (6, c0, i0))), (1, .int x1), (2, .int x2), (3, .int x3), (4, .int x4), (5, .int x5)]) rfl ?_
              exact p_X2_worth_b76 hJ C hr hk hc0 hi0 hi0 hL6 h
            · replace h := za_ifp h q28
              refine zt_iload_n C 3 dX2_worth_71 rfl rfl ?_
              refine zt_goto C 76 dX2_worth_72 (by decide) ?_
              refine zt_sub [1, 2, 3, 4, 5, 6] (lv' := [(0, .ref (g (6, c0, i0))), (1, .int x1), (2, .int x2), (3, .int x3), (4, .int x4), (5, .int x5)]) rfl ?_
              exact p_X2_worth_b76 hJ C hr hk hc0 hi0 hi0 hL6 h
          · replace h := za_ifp h q27
            refine zt_iload_n C 2 dX2_worth_60 rfl rfl ?_
            refine zt_goto C 76 dX2_worth_61 (by decide) ?_
            refine zt_sub [1, 2, 3, 4, 5, 6] (lv' := [(0, .ref (g (6, c0, i0))), (1, .int x1), (2, .int x2), (3, .int x3), (4, .int x4), (5, .int x5)]) rfl ?_
            exact p_X2_worth_b76 hJ C hr hk hc0 hi0 hi0 hL6 h
        · replace h := za_ifn h q26
          refine zt_iload C 0 dX2_worth_49 rfl ?_
          refine zt_goto C 76 dX2_worth_51 (by decide) ?_
          refine zt_sub [1, 2, 3, 4, 5, 6] (lv' := [(0, .ref (g (6, c0, i0))), (1, .int x1), (2, .int x2), (3, .int x3), (4, .int x4), (5, .int x5)]) rfl ?_
          exact p_X2_worth_b76 hJ C hr hk hc0 hi0 hi0 hL6 h
theorem p_X2_worth_b6_in (hJ : za_J g) (C : za_C p s m args c cX2_worth 7 RX2 g D cy) (hr : meth.sig.returnType = (some .int)) (hk : meth.locks = false) {c0 : Nat} (hc0 : c0 < 2) {i0 : Nat} (hi0 : i0 < 2) {x1 : Int32} {x2 : Int32} {x3 : Int32} {n : Nat} {x4 : Int32} {x5 : Int32} {M : za_M} (h : za_lp2 (f_X2_worth_b6 K c0 i0 x1 x2 x3) n x4 x5 M) : zt p l e (za_rm 2 86) s m args below meth c 0 0 (MQ below (za_Qi g D cy K) args s 0 0 (za_A g)) g D cy 7 M 6 [(0, .ref (g (6, c0, i0))), (1, .int x1), (2, .int x2), (3, .int x3), (4, .int x4), (5, .int x5)] [] := za_lp2_run (Z := fun x4 x5 M => zt p l e (za_rm 2 86) s m args below meth c 0 0 (MQ below (za_Qi g D cy K) args s 0 0 (za_A g)) g D cy 7 M 6 [(0, .ref (g (6, c0, i0))), (1, .int x1), (2, .int x2), (3, .int x3), (4, .int x4), (5, .int x5)] []) (fun L hL => p_X2_worth_b6 hJ C hr hk hc0 hi0 hL) n x4 x5 M h
set_option maxRecDepth 100000 in
set_option maxHeartbeats 4000000 in
theorem p_X2_worth (hJ : za_J g) (C : za_C p s m args c cX2_worth 7 RX2 g D cy) (hr : meth.sig.returnType = (some .int)) (hk : meth.locks = false) {c0 : Nat} (hc0 : c0 < 2) {i0 : Nat} (hi0 : i0 < 2) {x1 : Int32} {x2 : Int32} {x3 : Int32} {M : za_M} (h : f_X2_worth c0 i0 x1 x2 x3 M K) : zt p l e (za_rm 2 86) s m args below meth c 0 0 (MQ below (za_Qi g D cy K) args s 0 0 (za_A g)) g D cy 7 M 0 [(0, .ref (g (6, c0, i0))), (1, .int x1), (2, .int x2), (3, .int x3)] [] := by
  unfold f_X2_worth at h
  refine zt_iconst C (v := 0) dX2_worth_0 zk_i0 ?_
  refine zt_istore C [(4, .int 0), (0, .ref (g (6, c0, i0))), (1, .int x1), (2, .int x2), (3, .int x3)] dX2_worth_1 (by decide) rfl ?_
  refine zt_iconst C (v := 0) dX2_worth_3 zk_i0 ?_
  refine zt_istore C [(5, .int 0), (4, .int 0), (0, .ref (g (6, c0, i0))), (1, .int x1), (2, .int x2), (3, .int x3)] dX2_worth_4 (by decide) rfl ?_
  refine zt_sub [2, 3, 4, 5, 1, 0] (lv' := [(0, .ref (g (6, c0, i0))), (1, .int x1), (2, .int x2), (3, .int x3), (4, .int 0), (5, .int 0)]) rfl ?_
  obtain ⟨n, h⟩ := h
  exact p_X2_worth_b6_in hJ C hr hk hc0 hi0 h
end
theorem m_X2_worth {l : Launch} {g : za_L → Nat} {D : va_G} {cy : Nat → ClassId} (hJ : za_J g)  {c0 : Nat} (hc0 : c0 < 2) {i0 : Nat} (hi0 : i0 < 2) {x1 : Int32} {x2 : Int32} {x3 : Int32} {M : za_M} {K : Int32 → za_M → Prop} (h : f_X2_worth c0 i0 x1 x2 x3 M K) : za_Mi l g D cy yX2_worth cX2_worth 7 (some .int) 2 86 [.ref (g (6, c0, i0)), .int x1, .int x2, .int x3] M K := za_openi hJ (by decide) (Nat.le_of_ble_eq_true rfl) (fun p e s m args below meth c C hr hk => p_X2_worth hJ C hr hk hc0 hi0 h)
/-! X2_gives -/
def f_X2_gives (c0 : Nat) (i0 : Nat) (x1 : Int32) (x2 : Int32) (x3 : Int32) (M : za_M) (K : Int32 → za_M → Prop) : Prop :=
  if (M.1 (6, c0, i0) 3) = 0 then (f_X2_withoutText c0 i0 x1 x3 M (fun r7 M6 => f_X9_held r7 99 M6 (fun r9 M8 => K r9 M8))) else (f_X2_worth c0 i0 x1 x2 x3 M (fun r3 M2 => f_X9_held r3 99 M2 (fun r5 M4 => K r5 M4)))
section
variable {p : Program} {l : Launch} {e : Env} {s : State} {m : MethodId} {args : Array Value} {below : List Frame} {meth : Method} {c : Code} {g : za_L → Nat} {D : va_G} {cy : Nat → ClassId} {K : Int32 → za_M → Prop}
set_option maxRecDepth 100000 in
set_option maxHeartbeats 4000000 in
theorem p_X2_gives (hJ : za_J g) (C : za_C p s m args c cX2_gives 4 RX2 g D cy) (hr : meth.sig.returnType = (some .int)) (hk : meth.locks = false) {c0 : Nat} (hc0 : c0 < 2) {i0 : Nat} (hi0 : i0 < 2) {x1 : Int32} {x2 : Int32} {x3 : Int32} {M : za_M} (h : f_X2_gives c0 i0 x1 x2 x3 M K) : zt p l e (za_rm 3 112) s m args below meth c 0 0 (MQ below (za_Qi g D cy K) args s 0 0 (za_A g)) g D cy 4 M 0 [(0, .ref (g (6, c0, i0))), (1, .int x1), (2, .int x2), (3, .int x3)] [] := by
  unfold f_X2_gives at h
  refine zt_aload_n C 0 dX2_gives_0 rfl rfl ?_
  refine zt_get C (za_mem (j := 6) rfl hc0 hi0) pf_X2_26 (za_E_6 g cy M c0 i0) rfl dX2_gives_1 ?_
  refine zt_if_ne C 16 dX2_gives_4 (by decide) (fun q1 => ?_) (fun q1 => ?_)
  · replace h := za_ifn h q1
    refine zt_aload_n C 0 dX2_gives_16 rfl rfl ?_
    refine zt_iload_n C 1 dX2_gives_17 rfl rfl ?_
    refine zt_iload_n C 2 dX2_gives_18 rfl rfl ?_
    refine zt_iload_n C 3 dX2_gives_19 rfl rfl ?_
    refine zt_cVi C [.int x1, .int x2, .int x3] (m_X2_worth hJ hc0 hi0 h) (za_mem (j := 6) rfl hc0 hi0) (za_E_6 g cy M c0 i0) rfl py_X2_worth pv_X2_38 (Nat.le_of_ble_eq_true rfl) ⟨Nat.le_of_ble_eq_true rfl, Nat.le_of_ble_eq_true rfl⟩ ⟨Nat.zero_le _, Nat.zero_le _⟩ dX2_gives_20 rfl (fun r3 M2 h => ?_)
    refine zt_bipush C (v := 99) dX2_gives_23 zk_b99 ?_
    refine zt_cNi C [.int r3, .int 99] (m_X9_held hJ  h) py_X9_held pn_X2_22 (Nat.le_of_ble_eq_true rfl) ⟨Nat.le_of_ble_eq_true rfl, Nat.le_of_ble_eq_true rfl⟩ ⟨Nat.zero_le _, Nat.zero_le _⟩ dX2_gives_25 rfl (fun r5 M4 h => ?_)
    exact zt_ret C hr hk rfl dX2_gives_28 h
  · replace h := za_ifp h q1
    refine zt_aload_n C 0 dX2_gives_7 rfl rfl ?_
    refine zt_iload_n C 1 dX2_gives_8 rfl rfl ?_
    refine zt_iload_n C 3 dX2_gives_9 rfl rfl ?_
    refine zt_cVi C [.int x1, .int x3] (m_X2_withoutText hJ hc0 hi0 h) (za_mem (j := 6) rfl hc0 hi0) (za_E_6 g cy M c0 i0) rfl py_X2_withoutText pv_X2_35 (Nat.le_of_ble_eq_true rfl) ⟨Nat.le_of_ble_eq_true rfl, Nat.le_of_ble_eq_true rfl⟩ ⟨Nat.zero_le _, Nat.zero_le _⟩ dX2_gives_10 rfl (fun r7 M6 h => ?_)
    refine zt_goto C 23 dX2_gives_13 (by decide) ?_
    refine zt_bipush C (v := 99) dX2_gives_23 zk_b99 ?_
    refine zt_cNi C [.int r7, .int 99] (m_X9_held hJ  h) py_X9_held pn_X2_22 (Nat.le_of_ble_eq_true rfl) ⟨Nat.le_of_ble_eq_true rfl, Nat.le_of_ble_eq_true rfl⟩ ⟨Nat.zero_le _, Nat.zero_le _⟩ dX2_gives_25 rfl (fun r9 M8 h => ?_)
    exact zt_ret C hr hk rfl dX2_gives_28 h
end
theorem m_X2_gives {l : Launch} {g : za_L → Nat} {D : va_G} {cy : Nat → ClassId} (hJ : za_J g)  {c0 : Nat} (hc0 : c0 < 2) {i0 : Nat} (hi0 : i0 < 2) {x1 : Int32} {x2 : Int32} {x3 : Int32} {M : za_M} {K : Int32 → za_M → Prop} (h : f_X2_gives c0 i0 x1 x2 x3 M K) : za_Mi l g D cy yX2_gives cX2_gives 4 (some .int) 3 112 [.ref (g (6, c0, i0)), .int x1, .int x2, .int x3] M K := za_openi hJ (by decide) (Nat.le_of_ble_eq_true rfl) (fun p e s m args below meth c C hr hk => p_X2_gives hJ C hr hk hc0 hi0 h)
/-! X1_drop -/
def f_X1_drop_b11 (K : za_M → Prop) (c0 : Nat) (i2 : Nat) (L11 : Int32 → za_M → Prop) (x3 : Int32) (M : za_M) : Prop :=
  if (M.1 (2, c0, 0) 5) ≤ x3 then (za_let ((M.1 (2, c0, 0) 5) - 1) fun y2 => za_let (za_up M (2, c0, 0) 5 y2) fun M4 => vp_in (M4.1 (2, c0, 0) 5) 10 ∧ (za_let (za_uq M4 c0 (M4.1 (2, c0, 0) 5).toNatClampNeg i2) fun M7 => K M7)) else (vp_in x3 10 ∧ (vp_in (x3 - 1) 10 ∧ (za_let (za_uq M c0 (x3 - 1).toNatClampNeg (M.2 c0 x3.toNatClampNeg % 10)) fun M11 => L11 (x3 + 1) M11)))
def f_X1_drop (c0 : Nat) (x1 : Int32) (M : za_M) (K : za_M → Prop) : Prop :=
  vp_in x1 10 ∧ (za_let (x1 + 1) fun y14 => ∃ n, za_lp1 (f_X1_drop_b11 K c0 (M.2 c0 x1.toNatClampNeg % 10)) n y14 M)
section
variable {p : Program} {l : Launch} {e : Env} {s : State} {m : MethodId} {args : Array Value} {below : List Frame} {meth : Method} {c : Code} {g : za_L → Nat} {D : va_G} {cy : Nat → ClassId} {K : za_M → Prop}
set_option maxRecDepth 100000 in
set_option maxHeartbeats 4000000 in
theorem p_X1_drop_b11 (hJ : za_J g) (C : za_C p s m args c cX1_drop 4 RX1 g D cy) (hr : meth.sig.returnType = none) (hk : meth.locks = false) {c0 : Nat} (hc0 : c0 < 3) {i2 : Nat} (hi2 : i2 < 10) {L11 : Int32 → za_M → Prop} (hL11 : ∀ (x3 : Int32) (M : za_M), L11 x3 M → zt p l e (za_rm 1 64) s m args below meth c 0 0 (MQ below (za_Qv g D cy K) args s 0 0 (za_A g)) g D cy 4 M 11 [(0, .ref (g (2, c0, 0))), (2, .ref (g (5, c0, i2))), (3, .int x3)] []) : ∀ (x3 : Int32) (M : za_M), f_X1_drop_b11 K c0 i2 L11 x3 M → zt p l e (za_rm 1 64) s m args below meth c 0 0 (MQ below (za_Qv g D cy K) args s 0 0 (za_A g)) g D cy 4 M 11 [(0, .ref (g (2, c0, 0))), (2, .ref (g (5, c0, i2))), (3, .int x3)] [] := by
  intro x3 M h
  unfold f_X1_drop_b11 at h
  refine zt_iload_n C 2 dX1_drop_11 rfl rfl ?_
  refine zt_aload_n C 0 dX1_drop_12 rfl rfl ?_
  refine zt_get C (za_mem (j := 2) rfl hc0 (by decide)) pf_X1_39 (za_E_2 g cy M c0 0) rfl dX1_drop_13 ?_
  refine zt_icmp_ge C 39 dX1_drop_16 (by decide) (fun q1 => ?_) (fun q1 => ?_)
  · replace h := za_ifp h q1
    refine zt_aload_n C 0 dX1_drop_39 rfl rfl ?_
    refine zt_dup C dX1_drop_40 rfl ?_
    refine zt_get C (za_mem (j := 2) rfl hc0 (by decide)) pf_X1_39 (za_E_2 g cy M c0 0) rfl dX1_drop_41 ?_
    refine zt_iconst C (v := 1) dX1_drop_44 zk_i1 ?_
    refine zt_isub C dX1_drop_45 ?_
    refine zt_topi (fun y2 e3 => ?_)
    replace h := za_use h e3
    refine zt_put C (za_mem (j := 2) rfl hc0 (by decide)) pf_X1_39 pt_X1_5 rfl rfl (za_E_2 g cy M c0 0) rfl (Nat.le_of_ble_eq_true rfl) dX1_drop_46 ?_
    refine zt_topM (fun M4 e5 => ?_)
    replace h := za_use h e5
    refine zt_aload_n C 0 dX1_drop_49 rfl rfl ?_
    refine zt_get C (za_mem (j := 2) rfl hc0 (by decide)) pf_X1_25 (za_E_2 g cy M4 c0 0) rfl dX1_drop_50 ?_
    refine zt_aload_n C 0 dX1_drop_53 rfl rfl ?_
    refine zt_get C (za_mem (j := 2) rfl hc0 (by decide)) pf_X1_39 (za_E_2 g cy M4 c0 0) rfl dX1_drop_54 ?_
    refine zt_aload_n C 1 dX1_drop_57 rfl rfl ?_
    obtain ⟨g6, h⟩ := h
    refine zt_aast C hc0 hi2 g6 dX1_drop_58 ?_
    refine zt_topM (fun M7 e8 => ?_)
    replace h := za_use h e8
    exact zt_vret C hr hk dX1_drop_59 h
  · replace h := za_ifn h q1
    refine zt_aload_n C 0 dX1_drop_19 rfl rfl ?_
    refine zt_get C (za_mem (j := 2) rfl hc0 (by decide)) pf_X1_25 (za_E_2 g cy M c0 0) rfl dX1_drop_20 ?_
    refine zt_iload_n C 2 dX1_drop_23 rfl rfl ?_
    refine zt_iconst C (v := 1) dX1_drop_24 zk_i1 ?_
    refine zt_isub C dX1_drop_25 ?_
    refine zt_aload_n C 0 dX1_drop_26 rfl rfl ?_
    refine zt_get C (za_mem (j := 2) rfl hc0 (by decide)) pf_X1_25 (za_E_2 g cy M c0 0) rfl dX1_drop_27 ?_
    refine zt_iload_n C 2 dX1_drop_30 rfl rfl ?_
    obtain ⟨g9, h⟩ := h
    refine zt_aald C (za_mem (j := 12) rfl hc0 (by decide)) (za_E_12 g cy M c0 0) rfl g9 dX1_drop_31 ?_
    obtain ⟨g10, h⟩ := h
    refine zt_aast C hc0 (Nat.mod_lt _ (by decide)) g10 dX1_drop_32 ?_
    refine zt_topM (fun M11 e12 => ?_)
    replace h := za_use h e12
    refine zt_iinc C (v := x3 + 1) 2 [(3, .int (x3 + 1)), (0, .ref (g (2, c0, 0))), (2, .ref (g (5, c0, i2)))] dX1_drop_33 rfl (zk_n1 _) (by decide) rfl ?_
    refine zt_goto C 11 dX1_drop_36 (by decide) ?_
    refine zt_sub [1, 2, 0] (lv' := [(0, .ref (g (2, c0, 0))), (2, .ref (g (5, c0, i2))), (3, .int (x3 + 1))]) rfl ?_
    exact hL11 _ _ h
theorem p_X1_drop_b11_in (hJ : za_J g) (C : za_C p s m args c cX1_drop 4 RX1 g D cy) (hr : meth.sig.returnType = none) (hk : meth.locks = false) {c0 : Nat} (hc0 : c0 < 3) {i2 : Nat} (hi2 : i2 < 10) {n : Nat} {x3 : Int32} {M : za_M} (h : za_lp1 (f_X1_drop_b11 K c0 i2) n x3 M) : zt p l e (za_rm 1 64) s m args below meth c 0 0 (MQ below (za_Qv g D cy K) args s 0 0 (za_A g)) g D cy 4 M 11 [(0, .ref (g (2, c0, 0))), (2, .ref (g (5, c0, i2))), (3, .int x3)] [] := za_lp1_run (Z := fun x3 M => zt p l e (za_rm 1 64) s m args below meth c 0 0 (MQ below (za_Qv g D cy K) args s 0 0 (za_A g)) g D cy 4 M 11 [(0, .ref (g (2, c0, 0))), (2, .ref (g (5, c0, i2))), (3, .int x3)] []) (fun L hL => p_X1_drop_b11 hJ C hr hk hc0 hi2 hL) n x3 M h
set_option maxRecDepth 100000 in
set_option maxHeartbeats 4000000 in
theorem p_X1_drop (hJ : za_J g) (C : za_C p s m args c cX1_drop 4 RX1 g D cy) (hr : meth.sig.returnType = none) (hk : meth.locks = false) {c0 : Nat} (hc0 : c0 < 3) {x1 : Int32} {M : za_M} (h : f_X1_drop c0 x1 M K) : zt p l e (za_rm 1 64) s m args below meth c 0 0 (MQ below (za_Qv g D cy K) args s 0 0 (za_A g)) g D cy 4 M 0 [(0, .ref (g (2, c0, 0))), (1, .int x1)] [] := by
  unfold f_X1_drop at h
  refine zt_aload_n C 0 dX1_drop_0 rfl rfl ?_
  refine zt_get C (za_mem (j := 2) rfl hc0 (by decide)) pf_X1_25 (za_E_2 g cy M c0 0) rfl dX1_drop_1 ?_
  refine zt_iload_n C 1 dX1_drop_4 rfl rfl ?_
  obtain ⟨g13, h⟩ := h
  refine zt_aald C (za_mem (j := 12) rfl hc0 (by decide)) (za_E_12 g cy M c0 0) rfl g13 dX1_drop_5 ?_
  refine zt_astore_n C [(2, .ref (g (5, c0, (M.2 c0 x1.toNatClampNeg % 10)))), (0, .ref (g (2, c0, 0))), (1, .int x1)] dX1_drop_6 rfl (by decide) rfl ?_
  refine zt_iload_n C 2 dX1_drop_7 rfl rfl ?_
  refine zt_iconst C (v := 1) dX1_drop_8 zk_i1 ?_
  refine zt_iadd C dX1_drop_9 ?_
  refine zt_topi (fun y14 e15 => ?_)
  replace h := za_use h e15
  refine zt_istore_n C [(3, .int y14), (2, .ref (g (5, c0, (M.2 c0 x1.toNatClampNeg % 10)))), (0, .ref (g (2, c0, 0))), (1, .int x1)] dX1_drop_10 rfl (by decide) rfl ?_
  refine zt_sub [2, 1, 0] (lv' := [(0, .ref (g (2, c0, 0))), (2, .ref (g (5, c0, (M.2 c0 x1.toNatClampNeg % 10)))), (3, .int y14)]) rfl ?_
  obtain ⟨n, h⟩ := h
  exact p_X1_drop_b11_in hJ C hr hk hc0 (Nat.mod_lt _ (by decide)) h
end
theorem m_X1_drop {l : Launch} {g : za_L → Nat} {D : va_G} {cy : Nat → ClassId} (hJ : za_J g)  {c0 : Nat} (hc0 : c0 < 3) {x1 : Int32} {M : za_M} {K : za_M → Prop} (h : f_X1_drop c0 x1 M K) : za_Mv l g D cy yX1_drop cX1_drop 4 none 1 64 [.ref (g (2, c0, 0)), .int x1] M K := za_openv hJ (by decide) (Nat.le_of_ble_eq_true rfl) (fun p e s m args below meth c C hr hk => p_X1_drop hJ C hr hk hc0 h)
/-! X1_giveBack -/
def f_X1_giveBack (c0 : Nat) (x1 : Int32) (c2 : Nat) (i2 : Nat) (M : za_M) (K : Int32 → za_M → Prop) : Prop :=
  vp_in x1 10 ∧ (vp_in (M.1 (5, c0, (M.2 c0 x1.toNatClampNeg % 10)) 2) 5 ∧ (f_X2_gives c2 i2 (M.1 (5, c0, (M.2 c0 x1.toNatClampNeg % 10)) 3) (M.1 (3, c0, (M.1 (5, c0, (M.2 c0 x1.toNatClampNeg % 10)) 2).toNatClampNeg) 1) (M.1 (2, c0, 0) 6) M (fun r4 M3 => vp_in (M3.1 (5, c0, (M.2 c0 x1.toNatClampNeg % 10)) 1) 4 ∧ (f_X4_change c0 ((M3.1 (5, c0, (M.2 c0 x1.toNatClampNeg % 10)) 1).toNatClampNeg) (M3.1 (5, c0, (M.2 c0 x1.toNatClampNeg % 10)) 2) (-(M3.1 (5, c0, (M.2 c0 x1.toNatClampNeg % 10)) 3)) M3 (fun M6 => vp_in (M6.1 (5, c0, (M.2 c0 x1.toNatClampNeg % 10)) 0) 4 ∧ (f_X4_change c0 ((M6.1 (5, c0, (M.2 c0 x1.toNatClampNeg % 10)) 0).toNatClampNeg) (M6.1 (5, c0, (M.2 c0 x1.toNatClampNeg % 10)) 2) r4 M6 (fun M9 => f_X1_drop c0 x1 M9 (fun M11 => K r4 M11))))))))
section
variable {p : Program} {l : Launch} {e : Env} {s : State} {m : MethodId} {args : Array Value} {below : List Frame} {meth : Method} {c : Code} {g : za_L → Nat} {D : va_G} {cy : Nat → ClassId} {K : Int32 → za_M → Prop}
set_option maxRecDepth 100000 in
set_option maxHeartbeats 4000000 in
theorem p_X1_giveBack (hJ : za_J g) (C : za_C p s m args c cX1_giveBack 5 RX1 g D cy) (hr : meth.sig.returnType = (some .int)) (hk : meth.locks = false) {c0 : Nat} (hc0 : c0 < 3) {x1 : Int32} {c2 : Nat} (hc2 : c2 < 2) {i2 : Nat} (hi2 : i2 < 2) {M : za_M} (h : f_X1_giveBack c0 x1 c2 i2 M K) : zt p l e (za_rm 4 135) s m args below meth c 0 0 (MQ below (za_Qi g D cy K) args s 0 0 (za_A g)) g D cy 5 M 0 [(0, .ref (g (2, c0, 0))), (1, .int x1), (2, .ref (g (6, c2, i2)))] [] := by
  unfold f_X1_giveBack at h
  refine zt_aload_n C 0 dX1_giveBack_0 rfl rfl ?_
  refine zt_get C (za_mem (j := 2) rfl hc0 (by decide)) pf_X1_25 (za_E_2 g cy M c0 0) rfl dX1_giveBack_1 ?_
  refine zt_iload_n C 1 dX1_giveBack_4 rfl rfl ?_
  obtain ⟨g1, h⟩ := h
  refine zt_aald C (za_mem (j := 12) rfl hc0 (by decide)) (za_E_12 g cy M c0 0) rfl g1 dX1_giveBack_5 ?_
  refine zt_astore_n C [(3, .ref (g (5, c0, (M.2 c0 x1.toNatClampNeg % 10)))), (0, .ref (g (2, c0, 0))), (1, .int x1), (2, .ref (g (6, c2, i2)))] dX1_giveBack_6 rfl (by decide) rfl ?_
  refine zt_aload_n C 3 dX1_giveBack_7 rfl rfl ?_
  refine zt_aload_n C 0 dX1_giveBack_8 rfl rfl ?_
  refine zt_get C (za_mem (j := 5) rfl hc0 (Nat.mod_lt _ (by decide))) pf_X1_75 (za_E_5 g cy M c0 (M.2 c0 x1.toNatClampNeg % 10)) rfl dX1_giveBack_9 ?_
  refine zt_aload_n C 1 dX1_giveBack_12 rfl rfl ?_
  refine zt_get C (za_mem (j := 2) rfl hc0 (by decide)) pf_X1_11 (za_E_2 g cy M c0 0) rfl dX1_giveBack_13 ?_
  refine zt_aload_n C 0 dX1_giveBack_16 rfl rfl ?_
  refine zt_get C (za_mem (j := 5) rfl hc0 (Nat.mod_lt _ (by decide))) pf_X1_77 (za_E_5 g cy M c0 (M.2 c0 x1.toNatClampNeg % 10)) rfl dX1_giveBack_17 ?_
  obtain ⟨g2, h⟩ := h
  refine zt_aald C (za_mem (j := 10) rfl hc0 (by decide)) (za_E_10 g cy M c0 0) rfl g2 dX1_giveBack_20 ?_
  refine zt_get C (za_mem (j := 3) rfl hc0 (za_lt g2)) pf_X1_87 (za_E_3 g cy M c0 ((M.1 (5, c0, (M.2 c0 x1.toNatClampNeg % 10)) 2).toNatClampNeg)) rfl dX1_giveBack_21 ?_
  refine zt_aload_n C 1 dX1_giveBack_24 rfl rfl ?_
  refine zt_get C (za_mem (j := 2) rfl hc0 (by decide)) pf_X1_42 (za_E_2 g cy M c0 0) rfl dX1_giveBack_25 ?_
  refine zt_cVi C [.int (M.1 (5, c0, (M.2 c0 x1.toNatClampNeg % 10)) 3), .int (M.1 (3, c0, (M.1 (5, c0, (M.2 c0 x1.toNatClampNeg % 10)) 2).toNatClampNeg) 1), .int (M.1 (2, c0, 0) 6)] (m_X2_gives hJ hc2 hi2 h) (za_mem (j := 6) rfl hc2 hi2) (za_E_6 g cy M c2 i2) rfl py_X2_gives pv_X1_90 (Nat.le_of_ble_eq_true rfl) ⟨Nat.le_of_ble_eq_true rfl, Nat.le_of_ble_eq_true rfl⟩ ⟨Nat.zero_le _, Nat.zero_le _⟩ dX1_giveBack_28 rfl (fun r4 M3 h => ?_)
  refine zt_istore C [(4, .int r4), (3, .ref (g (5, c0, (M.2 c0 x1.toNatClampNeg % 10)))), (0, .ref (g (2, c0, 0))), (1, .int x1), (2, .ref (g (6, c2, i2)))] dX1_giveBack_31 (by decide) rfl ?_
  refine zt_aload_n C 2 dX1_giveBack_33 rfl rfl ?_
  refine zt_get C (za_mem (j := 2) rfl hc0 (by decide)) pf_X1_19 (za_E_2 g cy M3 c0 0) rfl dX1_giveBack_34 ?_
  refine zt_aload_n C 1 dX1_giveBack_37 rfl rfl ?_
  refine zt_get C (za_mem (j := 5) rfl hc0 (Nat.mod_lt _ (by decide))) pf_X1_69 (za_E_5 g cy M3 c0 (M.2 c0 x1.toNatClampNeg % 10)) rfl dX1_giveBack_38 ?_
  obtain ⟨g5, h⟩ := h
  refine zt_aald C (za_mem (j := 11) rfl hc0 (by decide)) (za_E_11 g cy M3 c0 0) rfl g5 dX1_giveBack_41 ?_
  refine zt_aload_n C 1 dX1_giveBack_42 rfl rfl ?_
  refine zt_get C (za_mem (j := 5) rfl hc0 (Nat.mod_lt _ (by decide))) pf_X1_77 (za_E_5 g cy M3 c0 (M.2 c0 x1.toNatClampNeg % 10)) rfl dX1_giveBack_43 ?_
  refine zt_aload_n C 1 dX1_giveBack_46 rfl rfl ?_
  refine zt_get C (za_mem (j := 5) rfl hc0 (Nat.mod_lt _ (by decide))) pf_X1_75 (za_E_5 g cy M3 c0 (M.2 c0 x1.toNatClampNeg % 10)) rfl dX1_giveBack_47 ?_
  refine zt_ineg C dX1_giveBack_50 ?_
  refine zt_cVv C [.int (M3.1 (5, c0, (M.2 c0 x1.toNatClampNeg % 10)) 2), .int (-(M3.1 (5, c0, (M.2 c0 x1.toNatClampNeg % 10)) 3))] (m_X4_change hJ hc0 (za_lt g5) h) (za_mem (j := 4) rfl hc0 (za_lt g5)) (za_E_4 g cy M3 c0 ((M3.1 (5, c0, (M.2 c0 x1.toNatClampNeg % 10)) 1).toNatClampNeg)) rfl py_X4_change pv_X1_83 (Nat.le_of_ble_eq_true rfl) ⟨Nat.le_of_ble_eq_true rfl, Nat.le_of_ble_eq_true rfl⟩ ⟨Nat.zero_le _, Nat.zero_le _⟩ dX1_giveBack_51 rfl (fun M6 h => ?_)
  refine zt_aload_n C 2 dX1_giveBack_54 rfl rfl ?_
  refine zt_get C (za_mem (j := 2) rfl hc0 (by decide)) pf_X1_19 (za_E_2 g cy M6 c0 0) rfl dX1_giveBack_55 ?_
  refine zt_aload_n C 1 dX1_giveBack_58 rfl rfl ?_
  refine zt_get C (za_mem (j := 5) rfl hc0 (Nat.mod_lt _ (by decide))) pf_X1_72 (za_E_5 g cy M6 c0 (M.2 c0 x1.toNatClampNeg % 10)) rfl dX1_giveBack_59 ?_
  obtain ⟨g8, h⟩ := h
  refine zt_aald C (za_mem (j := 11) rfl hc0 (by decide)) (za_E_11 g cy M6 c0 0) rfl g8 dX1_giveBack_62 ?_
  refine zt_aload_n C 1 dX1_giveBack_63 rfl rfl ?_
  refine zt_get C (za_mem (j := 5) rfl hc0 (Nat.mod_lt _ (by decide))) pf_X1_77 (za_E_5 g cy M6 c0 (M.2 c0 x1.toNatClampNeg % 10)) rfl dX1_giveBack_64 ?_
  refine zt_iload C 0 dX1_giveBack_67 rfl ?_
  refine zt_cVv C [.int (M6.1 (5, c0, (M.2 c0 x1.toNatClampNeg % 10)) 2), .int r4] (m_X4_change hJ hc0 (za_lt g8) h) (za_mem (j := 4) rfl hc0 (za_lt g8)) (za_E_4 g cy M6 c0 ((M6.1 (5, c0, (M.2 c0 x1.toNatClampNeg % 10)) 0).toNatClampNeg)) rfl py_X4_change pv_X1_83 (Nat.le_of_ble_eq_true rfl) ⟨Nat.le_of_ble_eq_true rfl, Nat.le_of_ble_eq_true rfl⟩ ⟨Nat.zero_le _, Nat.zero_le _⟩ dX1_giveBack_69 rfl (fun M9 h => ?_)
  refine zt_aload_n C 2 dX1_giveBack_72 rfl rfl ?_
  refine zt_iload_n C 3 dX1_giveBack_73 rfl rfl ?_
  refine zt_cVv C [.int x1] (m_X1_drop hJ hc0 h) (za_mem (j := 2) rfl hc0 (by decide)) (za_E_2 g cy M9 c0 0) rfl py_X1_drop pv_X1_96 (Nat.le_of_ble_eq_true rfl) ⟨Nat.le_of_ble_eq_true rfl, Nat.le_of_ble_eq_true rfl⟩ ⟨Nat.zero_le _, Nat.zero_le _⟩ dX1_giveBack_74 rfl (fun M11 h => ?_)
  refine zt_iload C 0 dX1_giveBack_77 rfl ?_
  exact zt_ret C hr hk rfl dX1_giveBack_79 h
end
theorem m_X1_giveBack {l : Launch} {g : za_L → Nat} {D : va_G} {cy : Nat → ClassId} (hJ : za_J g)  {c0 : Nat} (hc0 : c0 < 3) {x1 : Int32} {c2 : Nat} (hc2 : c2 < 2) {i2 : Nat} (hi2 : i2 < 2) {M : za_M} {K : Int32 → za_M → Prop} (h : f_X1_giveBack c0 x1 c2 i2 M K) : za_Mi l g D cy yX1_giveBack cX1_giveBack 5 (some .int) 4 135 [.ref (g (2, c0, 0)), .int x1, .ref (g (6, c2, i2))] M K := za_openi hJ (by decide) (Nat.le_of_ble_eq_true rfl) (fun p e s m args below meth c C hr hk => p_X1_giveBack hJ C hr hk hc0 hc2 hi2 h)
/-! X1_breakOff -/
def f_X1_breakOff (c0 : Nat) (x1 : Int32) (M : za_M) (K : za_M → Prop) : Prop :=
  vp_in x1 10 ∧ (vp_in (M.1 (5, c0, (M.2 c0 x1.toNatClampNeg % 10)) 1) 4 ∧ (f_X9_held ((M.1 (4, c0, (M.1 (5, c0, (M.2 c0 x1.toNatClampNeg % 10)) 1).toNatClampNeg) 2) + 1) 99 M (fun r4 M3 => za_let (za_up M3 (4, c0, (M.1 (5, c0, (M.2 c0 x1.toNatClampNeg % 10)) 1).toNatClampNeg) 2 r4) fun M5 => f_X1_drop c0 x1 M5 (fun M7 => K M7))))
section
variable {p : Program} {l : Launch} {e : Env} {s : State} {m : MethodId} {args : Array Value} {below : List Frame} {meth : Method} {c : Code} {g : za_L → Nat} {D : va_G} {cy : Nat → ClassId} {K : za_M → Prop}
set_option maxRecDepth 100000 in
set_option maxHeartbeats 4000000 in
theorem p_X1_breakOff (hJ : za_J g) (C : za_C p s m args c cX1_breakOff 3 RX1 g D cy) (hr : meth.sig.returnType = none) (hk : meth.locks = false) {c0 : Nat} (hc0 : c0 < 3) {x1 : Int32} {M : za_M} (h : f_X1_breakOff c0 x1 M K) : zt p l e (za_rm 2 87) s m args below meth c 0 0 (MQ below (za_Qv g D cy K) args s 0 0 (za_A g)) g D cy 3 M 0 [(0, .ref (g (2, c0, 0))), (1, .int x1)] [] := by
  unfold f_X1_breakOff at h
  refine zt_aload_n C 0 dX1_breakOff_0 rfl rfl ?_
  refine zt_get C (za_mem (j := 2) rfl hc0 (by decide)) pf_X1_19 (za_E_2 g cy M c0 0) rfl dX1_breakOff_1 ?_
  refine zt_aload_n C 0 dX1_breakOff_4 rfl rfl ?_
  refine zt_get C (za_mem (j := 2) rfl hc0 (by decide)) pf_X1_25 (za_E_2 g cy M c0 0) rfl dX1_breakOff_5 ?_
  refine zt_iload_n C 1 dX1_breakOff_8 rfl rfl ?_
  obtain ⟨g1, h⟩ := h
  refine zt_aald C (za_mem (j := 12) rfl hc0 (by decide)) (za_E_12 g cy M c0 0) rfl g1 dX1_breakOff_9 ?_
  refine zt_get C (za_mem (j := 5) rfl hc0 (Nat.mod_lt _ (by decide))) pf_X1_69 (za_E_5 g cy M c0 (M.2 c0 x1.toNatClampNeg % 10)) rfl dX1_breakOff_10 ?_
  obtain ⟨g2, h⟩ := h
  refine zt_aald C (za_mem (j := 11) rfl hc0 (by decide)) (za_E_11 g cy M c0 0) rfl g2 dX1_breakOff_13 ?_
  refine zt_astore_n C [(2, .ref (g (4, c0, (M.1 (5, c0, (M.2 c0 x1.toNatClampNeg % 10)) 1).toNatClampNeg))), (0, .ref (g (2, c0, 0))), (1, .int x1)] dX1_breakOff_14 rfl (by decide) rfl ?_
  refine zt_aload_n C 0 dX1_breakOff_15 rfl rfl ?_
  refine zt_aload_n C 0 dX1_breakOff_16 rfl rfl ?_
  refine zt_get C (za_mem (j := 4) rfl hc0 (za_lt g2)) pf_X1_66 (za_E_4 g cy M c0 ((M.1 (5, c0, (M.2 c0 x1.toNatClampNeg % 10)) 1).toNatClampNeg)) rfl dX1_breakOff_17 ?_
  refine zt_iconst C (v := 1) dX1_breakOff_20 zk_i1 ?_
  refine zt_iadd C dX1_breakOff_21 ?_
  refine zt_bipush C (v := 99) dX1_breakOff_22 zk_b99 ?_
  refine zt_cNi C [.int ((M.1 (4, c0, (M.1 (5, c0, (M.2 c0 x1.toNatClampNeg % 10)) 1).toNatClampNeg) 2) + 1), .int 99] (m_X9_held hJ  h) py_X9_held pn_X1_100 (Nat.le_of_ble_eq_true rfl) ⟨Nat.le_of_ble_eq_true rfl, Nat.le_of_ble_eq_true rfl⟩ ⟨Nat.zero_le _, Nat.zero_le _⟩ dX1_breakOff_24 rfl (fun r4 M3 h => ?_)
  refine zt_put C (za_mem (j := 4) rfl hc0 (za_lt g2)) pf_X1_66 pt_X4_2 rfl rfl (za_E_4 g cy M3 c0 ((M.1 (5, c0, (M.2 c0 x1.toNatClampNeg % 10)) 1).toNatClampNeg)) rfl (Nat.le_of_ble_eq_true rfl) dX1_breakOff_27 ?_
  refine zt_topM (fun M5 e6 => ?_)
  replace h := za_use h e6
  refine zt_aload_n C 1 dX1_breakOff_30 rfl rfl ?_
  refine zt_iload_n C 2 dX1_breakOff_31 rfl rfl ?_
  refine zt_cVv C [.int x1] (m_X1_drop hJ hc0 h) (za_mem (j := 2) rfl hc0 (by decide)) (za_E_2 g cy M5 c0 0) rfl py_X1_drop pv_X1_96 (Nat.le_of_ble_eq_true rfl) ⟨Nat.le_of_ble_eq_true rfl, Nat.le_of_ble_eq_true rfl⟩ ⟨Nat.zero_le _, Nat.zero_le _⟩ dX1_breakOff_32 rfl (fun M7 h => ?_)
  exact zt_vret C hr hk dX1_breakOff_35 h
end
theorem m_X1_breakOff {l : Launch} {g : za_L → Nat} {D : va_G} {cy : Nat → ClassId} (hJ : za_J g)  {c0 : Nat} (hc0 : c0 < 3) {x1 : Int32} {M : za_M} {K : za_M → Prop} (h : f_X1_breakOff c0 x1 M K) : za_Mv l g D cy yX1_breakOff cX1_breakOff 3 none 2 87 [.ref (g (2, c0, 0)), .int x1] M K := za_openv hJ (by decide) (Nat.le_of_ble_eq_true rfl) (fun p e s m args below meth c C hr hk => p_X1_breakOff hJ C hr hk hc0 h)

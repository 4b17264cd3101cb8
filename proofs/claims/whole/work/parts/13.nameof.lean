/-! the reference's nameOf: which name of the use a byte is (the names lie in texts) -/
def za_nmo (u : Nat) (x : Int32) : Int32 := if za_t1 (3 * u + 2) = x then 2 else if za_t1 (3 * u + 1) = x then 1 else if za_t1 (3 * u) = x then 0 else (-1)
def f_X10_nameOf (x1 : Int32) (M : za_M) (K : Int32 → za_M → Prop) : Prop := vp_in (M.1 (27, 0, 0) 8) 2 ∧ K (za_nmo (M.1 (27, 0, 0) 8).toNatClampNeg x1) M
theorem m_X10_nameOf {l : Launch} {g : za_L → Nat} {D : va_G} {cy : Nat → ClassId} (hJ : za_J g) {x1 : Int32} {M : za_M} {K : Int32 → za_M → Prop} (h : f_X10_nameOf x1 M K) : za_Mi l g D cy yX10_nameOf cX10_nameOf 4 (some .int) 8 400 [.ref (g (27, 0, 0)), .int x1] M K := sorry

/-! rows of zt: branches, the heap, ends, calls -/
def za_FL (own : String) (index ci k N : Nat) (Cn : String) (T : u_T) (ref : String) : Prop := vwCl[ci]? = some (Cn, T, N) ∧ (∀ w ∈ u_ws Cn T N, w ∈ lw_gd) ∧ k < N ∧ Cond.fieldLink own index ref (T k).2.1 (T k).2.2.1 ∈ lw_gd ∧ (T k).1 = ref
def za_FT (k N : Nat) (T : u_T) (ty : FieldType) : Prop := (T k).2.2.2 = false ∧ parseFieldDescriptor (T k).2.2.1 = some ty ∧ (∃ ty0 : Nat → FieldType, ∀ k, k < N → parseFieldDescriptor (T k).2.2.1 = some (ty0 k)) ∧ ∀ a, a < N → ∀ b, b < N → a ≠ b → (T a).2.1 ≠ (T b).2.1
def za_cok (sp dp n : Int32) (n0 n1 : Nat) : Prop := ¬ sp < 0 ∧ ¬ dp < 0 ∧ ¬ n < 0 ∧ sp.toNatClampNeg + n.toNatClampNeg ≤ n0 ∧ dp.toNatClampNeg + n.toNatClampNeg ≤ n1
def za_B (v : Int32) : Prop := v = 0 ∨ v = 1
theorem za_Bn {v : Int32} (h : za_B v) : narrow .boolean (.int v) = .int v := by rcases h with rfl | rfl <;> rfl
theorem za_E_self (g : za_L → Nat) (cy : Nat → ClassId) (M : za_M) (x : za_L) (k : Nat) (v : Int32) : za_E g cy (za_up M x k v) x = za_E0 g cy (upd (M.1 x) k v) (M.2 x.2.1) x := by
  unfold za_E
  rw [za_up_row]
  rfl
theorem za_lt {i : Int32} {n : Nat} (h : vp_in i n) : i.toNatClampNeg < n := Nat.not_le.mp fun q => h (Or.inr q)
section ZU
variable {p : Program} {l : Launch} {e : Env} {R : Room} {s : State} {m : MethodId} {args : Array Value} {below : List Frame} {meth : Method} {c : Code} {nc ns : Nat} {Q : State → Prop} {g : za_L → Nat} {D : va_G} {cy : Nat → ClassId} {nL : Nat} {cc : ByteArray} {own : String} {M : za_M} {pc : Nat} {lv : List (Nat × Value)} {rest : List Value}
theorem zt_if_eq (C : za_C p s m args c cc nL own g D cy) {x : Int32} {off : Int} (tgt : Nat) (hdg : decode cc pc = .ok (.ifCond .eq off, 3)) (ht : (pc : Int) + off = (tgt : Int)) (kt : x = 0 → zt p l e R s m args below meth c nc ns Q g D cy nL M tgt lv rest) (kf : ¬ x = 0 → zt p l e R s m args below meth c nc ns Q g D cy nL M (pc + 3) lv rest) : zt p l e R s m args below meth c nc ns Q g D cy nL M pc lv (.int x :: rest) := fun H locs ls hP hS hl => lv_if_eq C.1 C.2.1 hdg ht (fun h => kt h H locs ls hP hS hl) (fun h => kf h H locs ls hP hS hl)
theorem zt_if_ne (C : za_C p s m args c cc nL own g D cy) {x : Int32} {off : Int} (tgt : Nat) (hdg : decode cc pc = .ok (.ifCond .ne off, 3)) (ht : (pc : Int) + off = (tgt : Int)) (kt : ¬ x = 0 → zt p l e R s m args below meth c nc ns Q g D cy nL M tgt lv rest) (kf : x = 0 → zt p l e R s m args below meth c nc ns Q g D cy nL M (pc + 3) lv rest) : zt p l e R s m args below meth c nc ns Q g D cy nL M pc lv (.int x :: rest) := fun H locs ls hP hS hl => lv_if_ne C.1 C.2.1 hdg ht (fun h => kt h H locs ls hP hS hl) (fun h => kf h H locs ls hP hS hl)
theorem zt_if_lt (C : za_C p s m args c cc nL own g D cy) {x : Int32} {off : Int} (tgt : Nat) (hdg : decode cc pc = .ok (.ifCond .lt off, 3)) (ht : (pc : Int) + off = (tgt : Int)) (kt : x < 0 → zt p l e R s m args below meth c nc ns Q g D cy nL M tgt lv rest) (kf : ¬ x < 0 → zt p l e R s m args below meth c nc ns Q g D cy nL M (pc + 3) lv rest) : zt p l e R s m args below meth c nc ns Q g D cy nL M pc lv (.int x :: rest) := fun H locs ls hP hS hl => lv_if_lt C.1 C.2.1 hdg ht (fun h => kt h H locs ls hP hS hl) (fun h => kf h H locs ls hP hS hl)
theorem zt_if_ge (C : za_C p s m args c cc nL own g D cy) {x : Int32} {off : Int} (tgt : Nat) (hdg : decode cc pc = .ok (.ifCond .ge off, 3)) (ht : (pc : Int) + off = (tgt : Int)) (kt : 0 ≤ x → zt p l e R s m args below meth c nc ns Q g D cy nL M tgt lv rest) (kf : ¬ 0 ≤ x → zt p l e R s m args below meth c nc ns Q g D cy nL M (pc + 3) lv rest) : zt p l e R s m args below meth c nc ns Q g D cy nL M pc lv (.int x :: rest) := fun H locs ls hP hS hl => lv_if_ge C.1 C.2.1 hdg ht (fun h => kt h H locs ls hP hS hl) (fun h => kf h H locs ls hP hS hl)
theorem zt_if_gt (C : za_C p s m args c cc nL own g D cy) {x : Int32} {off : Int} (tgt : Nat) (hdg : decode cc pc = .ok (.ifCond .gt off, 3)) (ht : (pc : Int) + off = (tgt : Int)) (kt : 0 < x → zt p l e R s m args below meth c nc ns Q g D cy nL M tgt lv rest) (kf : ¬ 0 < x → zt p l e R s m args below meth c nc ns Q g D cy nL M (pc + 3) lv rest) : zt p l e R s m args below meth c nc ns Q g D cy nL M pc lv (.int x :: rest) := fun H locs ls hP hS hl => lv_if_gt C.1 C.2.1 hdg ht (fun h => kt h H locs ls hP hS hl) (fun h => kf h H locs ls hP hS hl)
theorem zt_if_le (C : za_C p s m args c cc nL own g D cy) {x : Int32} {off : Int} (tgt : Nat) (hdg : decode cc pc = .ok (.ifCond .le off, 3)) (ht : (pc : Int) + off = (tgt : Int)) (kt : x ≤ 0 → zt p l e R s m args below meth c nc ns Q g D cy nL M tgt lv rest) (kf : ¬ x ≤ 0 → zt p l e R s m args below meth c nc ns Q g D cy nL M (pc + 3) lv rest) : zt p l e R s m args below meth c nc ns Q g D cy nL M pc lv (.int x :: rest) := fun H locs ls hP hS hl => lv_if_le C.1 C.2.1 hdg ht (fun h => kt h H locs ls hP hS hl) (fun h => kf h H locs ls hP hS hl)
theorem zt_icmp_eq (C : za_C p s m args c cc nL own g D cy) {x y : Int32} {off : Int} (tgt : Nat) (hdg : decode cc pc = .ok (.if_icmp .eq off, 3)) (ht : (pc : Int) + off = (tgt : Int)) (kt : x = y → zt p l e R s m args below meth c nc ns Q g D cy nL M tgt lv rest) (kf : ¬ x = y → zt p l e R s m args below meth c nc ns Q g D cy nL M (pc + 3) lv rest) : zt p l e R s m args below meth c nc ns Q g D cy nL M pc lv (.int y :: .int x :: rest) := fun H locs ls hP hS hl => lv_icmp_eq C.1 C.2.1 hdg ht (fun h => kt h H locs ls hP hS hl) (fun h => kf h H locs ls hP hS hl)
theorem zt_icmp_ne (C : za_C p s m args c cc nL own g D cy) {x y : Int32} {off : Int} (tgt : Nat) (hdg : decode cc pc = .ok (.if_icmp .ne off, 3)) (ht : (pc : Int) + off = (tgt : Int)) (kt : ¬ x = y → zt p l e R s m args below meth c nc ns Q g D cy nL M tgt lv rest) (kf : x = y → zt p l e R s m args below meth c nc ns Q g D cy nL M (pc + 3) lv rest) : zt p l e R s m args below meth c nc ns Q g D cy nL M pc lv (.int y :: .int x :: rest) := fun H locs ls hP hS hl => lv_icmp_ne C.1 C.2.1 hdg ht (fun h => kt h H locs ls hP hS hl) (fun h => kf h H locs ls hP hS hl)
theorem zt_icmp_lt (C : za_C p s m args c cc nL own g D cy) {x y : Int32} {off : Int} (tgt : Nat) (hdg : decode cc pc = .ok (.if_icmp .lt off, 3)) (ht : (pc : Int) + off = (tgt : Int)) (kt : x < y → zt p l e R s m args below meth c nc ns Q g D cy nL M tgt lv rest) (kf : ¬ x < y → zt p l e R s m args below meth c nc ns Q g D cy nL M (pc + 3) lv rest) : zt p l e R s m args below meth c nc ns Q g D cy nL M pc lv (.int y :: .int x :: rest) := fun H locs ls hP hS hl => lv_icmp_lt C.1 C.2.1 hdg ht (fun h => kt h H locs ls hP hS hl) (fun h => kf h H locs ls hP hS hl)
theorem zt_icmp_ge (C : za_C p s m args c cc nL own g D cy) {x y : Int32} {off : Int} (tgt : Nat) (hdg : decode cc pc = .ok (.if_icmp .ge off, 3)) (ht : (pc : Int) + off = (tgt : Int)) (kt : y ≤ x → zt p l e R s m args below meth c nc ns Q g D cy nL M tgt lv rest) (kf : ¬ y ≤ x → zt p l e R s m args below meth c nc ns Q g D cy nL M (pc + 3) lv rest) : zt p l e R s m args below meth c nc ns Q g D cy nL M pc lv (.int y :: .int x :: rest) := fun H locs ls hP hS hl => lv_icmp_ge C.1 C.2.1 hdg ht (fun h => kt h H locs ls hP hS hl) (fun h => kf h H locs ls hP hS hl)
theorem zt_icmp_gt (C : za_C p s m args c cc nL own g D cy) {x y : Int32} {off : Int} (tgt : Nat) (hdg : decode cc pc = .ok (.if_icmp .gt off, 3)) (ht : (pc : Int) + off = (tgt : Int)) (kt : y < x → zt p l e R s m args below meth c nc ns Q g D cy nL M tgt lv rest) (kf : ¬ y < x → zt p l e R s m args below meth c nc ns Q g D cy nL M (pc + 3) lv rest) : zt p l e R s m args below meth c nc ns Q g D cy nL M pc lv (.int y :: .int x :: rest) := fun H locs ls hP hS hl => lv_icmp_gt C.1 C.2.1 hdg ht (fun h => kt h H locs ls hP hS hl) (fun h => kf h H locs ls hP hS hl)
theorem zt_icmp_le (C : za_C p s m args c cc nL own g D cy) {x y : Int32} {off : Int} (tgt : Nat) (hdg : decode cc pc = .ok (.if_icmp .le off, 3)) (ht : (pc : Int) + off = (tgt : Int)) (kt : x ≤ y → zt p l e R s m args below meth c nc ns Q g D cy nL M tgt lv rest) (kf : ¬ x ≤ y → zt p l e R s m args below meth c nc ns Q g D cy nL M (pc + 3) lv rest) : zt p l e R s m args below meth c nc ns Q g D cy nL M pc lv (.int y :: .int x :: rest) := fun H locs ls hP hS hl => lv_icmp_le C.1 C.2.1 hdg ht (fun h => kt h H locs ls hP hS hl) (fun h => kf h H locs ls hP hS hl)
theorem zt_goto (C : za_C p s m args c cc nL own g D cy) {off : Int} (tgt : Nat) (hdg : decode cc pc = .ok (.goto off, 3)) (ht : (pc : Int) + off = (tgt : Int)) {st : List Value} (k : zt p l e R s m args below meth c nc ns Q g D cy nL M tgt lv st) : zt p l e R s m args below meth c nc ns Q g D cy nL M pc lv st := fun H locs ls hP hS hl => lv_goto C.1 C.2.1 hdg ht (k H locs ls hP hS hl)
theorem zt_lookup (C : za_C p s m args c cc nL own g D cy) {dflt : Int} {ps : Array (Int × Int)} {len : Nat} {x : Int32} {off : Int} (tgt : Nat) (hdg : decode cc pc = .ok (.lookupswitch dflt ps, len)) (hp : (ps.toList.zip (ps.toList.drop 1)).all (fun (a, next) => a.1 < next.1) = true) (ho : Op.lookupswitch.offset ps.toList dflt x.toInt = off) (ht : (pc : Int) + off = (tgt : Int)) (k : zt p l e R s m args below meth c nc ns Q g D cy nL M tgt lv rest) : zt p l e R s m args below meth c nc ns Q g D cy nL M pc lv (.int x :: rest) := fun H locs ls hP hS hl => lv_lookup C.1 C.2.1 hdg hp ho ht (k H locs ls hP hS hl)
theorem zt_tableIn (C : za_C p s m args c cc nL own g D cy) {dflt lo hi : Int} {offs : Array Int} {len : Nat} {x : Int32} {off : Int} (tgt : Nat) (hdg : decode cc pc = .ok (.tableswitch dflt lo hi offs, len)) (h1 : ¬ x.toInt < lo) (h2 : ¬ hi < x.toInt) (ho : offs[(x.toInt - lo).toNat]? = some off) (ht : (pc : Int) + off = (tgt : Int)) (k : zt p l e R s m args below meth c nc ns Q g D cy nL M tgt lv rest) : zt p l e R s m args below meth c nc ns Q g D cy nL M pc lv (.int x :: rest) := fun H locs ls hP hS hl => lv_tableIn C.1 C.2.1 hdg h1 h2 ho ht (k H locs ls hP hS hl)
theorem zt_tableOut (C : za_C p s m args c cc nL own g D cy) {dflt lo hi : Int} {offs : Array Int} {len : Nat} {x : Int32} (tgt : Nat) (hdg : decode cc pc = .ok (.tableswitch dflt lo hi offs, len)) (h : x.toInt < lo ∨ hi < x.toInt) (ht : (pc : Int) + dflt = (tgt : Int)) (k : zt p l e R s m args below meth c nc ns Q g D cy nL M tgt lv rest) : zt p l e R s m args below meth c nc ns Q g D cy nL M pc lv (.int x :: rest) := fun H locs ls hP hS hl => lv_tableOut C.1 C.2.1 hdg h ht (k H locs ls hP hS hl)
theorem zt_ldc (C : za_C p s m args c cc nL own g D cy) {v : Int32} {index : Nat} (hc : Cond.constant own index v ∈ lw_gd) (hdg : decode cc pc = .ok (.ldc index, 2)) (k : zt p l e R s m args below meth c nc ns Q g D cy nL M (pc + 2) lv (.int v :: rest)) : zt p l e R s m args below meth c nc ns Q g D cy nL M pc lv rest := fun H locs ls hP hS hl => lv_ldc C.1 C.2.1 C.2.2.2.1 (C.2.2.2.2.1 _ hc) hdg (k H locs ls hP hS hl)
theorem zt_ldc2 (C : za_C p s m args c cc nL own g D cy) {v : Int64} {index : Nat} (hc : Cond.constantLong own index v ∈ lw_gd) (hdg : decode cc pc = .ok (.ldc2_w index, 3)) (k : zt p l e R s m args below meth c nc ns Q g D cy nL M (pc + 3) lv (.long v :: rest)) : zt p l e R s m args below meth c nc ns Q g D cy nL M pc lv rest := fun H locs ls hP hS hl => lv_ldc2 C.1 C.2.1 C.2.2.2.1 (C.2.2.2.2.1 _ hc) hdg (k H locs ls hP hS hl)
theorem zt_get (C : za_C p s m args c cc nL own g D cy) {x : za_L} {index ci k N : Nat} {Cn ref : String} {T : u_T} {fs : List Value} {v : Value} (hx : x ∈ za_cells) (hf : za_FL own index ci k N Cn T ref) (he : za_E g cy M x = .inr (ci, fs)) (hv : fs[k]? = some v) (hdg : decode cc pc = .ok (.getfield index, 3)) (kk : zt p l e R s m args below meth c nc ns Q g D cy nL M (pc + 3) lv (v :: rest)) : zt p l e R s m args below meth c nc ns Q g D cy nL M pc lv (.ref (g x) :: rest) := by
  intro H locs ls hP hS hl
  obtain ⟨q0, hq⟩ := List.getElem?_of_mem hx
  obtain ⟨f1, f2, f3, f4, f5⟩ := hf
  exact va_get C.1 C.2.1 C.2.2.2.2.1 f2 C.2.2.2.1 C.2.2.2.2.2.1.1 hP q0 ((za_at g cy M hq).trans (by rw [he])) f1 k f3 (C.2.2.2.2.1 _ f4) (fun y hy => by rw [← f5]; exact hy) hv hdg (kk H locs ls hP hS hl)
theorem zt_put (C : za_C p s m args c cc nL own g D cy) {x : za_L} {index ci k N : Nat} {Cn ref : String} {T : u_T} {fs : List Value} {z : Int32} {ty : FieldType} (hx : x ∈ za_cells) (hf : za_FL own index ci k N Cn T ref) (ht : za_FT k N T ty) (hn : narrow ty (.int z) = .int z) (hfit : fits ty (.int z) = true) (he : za_E g cy M x = .inr (ci, fs)) (he' : za_E0 g cy (upd (M.1 x) k z) (M.2 x.2.1) x = .inr (ci, fs.set k (.int z))) (hlen : k < fs.length) (hdg : decode cc pc = .ok (.putfield index, 3)) (kk : zt p l e R s m args below meth c nc ns Q g D cy nL (za_up M x k z) (pc + 3) lv rest) : zt p l e R s m args below meth c nc ns Q g D cy nL M pc lv (.int z :: .ref (g x) :: rest) := by
  intro H locs ls hP hS hl
  obtain ⟨q0, hq⟩ := List.getElem?_of_mem hx
  obtain ⟨f1, f2, f3, f4, f5⟩ := hf
  obtain ⟨t1, t2, ⟨ty0, t3⟩, t4⟩ := ht
  have e1 := za_set (g := g) (cy := cy) (M := M) (M' := za_up M x k z) hq (fun y _ hy => za_E_up g cy M k z hy)
  rw [za_E_self, he'] at e1
  refine va_put C.1 C.2.1 C.2.2.2.2.1 f2 ty0 t3 t4 C.2.2.2.1 C.2.2.2.2.2.1.1 hP (za_DA cy M C.2.2.2.2.2.2) hS q0 ((za_at g cy M hq).trans (by rw [he])) f1 k f3 (C.2.2.2.2.1 _ f4) (fun y hy => by rw [← f5]; exact hy) t1 t2 hn hfit hlen hdg (fun H1 locs1 hP1 _ hS1 => ?_)
  rw [e1] at hP1
  exact kk H1 locs1 ls hP1 hS1 hl
theorem zt_iald (C : za_C p s m args c cc nL own g D cy) {x : za_L} {n : Nat} {i : Int32} (hx : x ∈ za_cells) (he : ∀ M : za_M, za_E g cy M x = .inl (cy 0, n, .inl (M.1 x))) (hin : vp_in i n) (hdg : decode cc pc = .ok (.iaload, 1)) (kk : zt p l e R s m args below meth c nc ns Q g D cy nL M (pc + 1) lv (.int (M.1 x i.toNatClampNeg) :: rest)) : zt p l e R s m args below meth c nc ns Q g D cy nL M pc lv (.int i :: .ref (g x) :: rest) := by
  intro H locs ls hP hS hl
  obtain ⟨q0, hq⟩ := List.getElem?_of_mem hx
  exact va_iald C.1 C.2.1 C.2.2.2.2.2.1.1 hP q0 0 ((za_at g cy M hq).trans (by rw [he])) rfl hin hdg (kk H locs ls hP hS hl)
theorem zt_iast (C : za_C p s m args c cc nL own g D cy) {x : za_L} {n : Nat} {i z : Int32} (hx : x ∈ za_cells) (he : ∀ M : za_M, za_E g cy M x = .inl (cy 0, n, .inl (M.1 x))) (hin : vp_in i n) (hdg : decode cc pc = .ok (.iastore, 1)) (kk : zt p l e R s m args below meth c nc ns Q g D cy nL (za_up M x i.toNatClampNeg z) (pc + 1) lv rest) : zt p l e R s m args below meth c nc ns Q g D cy nL M pc lv (.int z :: .int i :: .ref (g x) :: rest) := by
  intro H locs ls hP hS hl
  obtain ⟨q0, hq⟩ := List.getElem?_of_mem hx
  have e1 := za_set (g := g) (cy := cy) (M := M) (M' := za_up M x i.toNatClampNeg z) hq (fun y _ hy => za_E_up g cy M _ z hy)
  rw [he, za_up_row] at e1
  refine va_iast C.1 C.2.1 C.2.2.2.2.2.1.1 hP (za_DA cy M C.2.2.2.2.2.2) hS q0 0 ((za_at g cy M hq).trans (by rw [he])) rfl hin hdg (fun H1 locs1 hP1 _ hS1 => ?_)
  rw [e1] at hP1
  exact kk H1 locs1 ls hP1 hS1 hl
theorem zt_aald (C : za_C p s m args c cc nL own g D cy) {x : za_L} {n t : Nat} {Cn : String} {h : Nat → Nat} {i : Int32} (hx : x ∈ za_cells) (he : za_E g cy M x = .inl (cy t, n, .inr (.inr (.inr (.inr (fun j => some (h j))))))) (ht : (za_tys cy)[t]? = some (cy t, .object Cn)) (hin : vp_in i n) (hdg : decode cc pc = .ok (.aaload, 1)) (kk : zt p l e R s m args below meth c nc ns Q g D cy nL M (pc + 1) lv (.ref (h i.toNatClampNeg) :: rest)) : zt p l e R s m args below meth c nc ns Q g D cy nL M pc lv (.int i :: .ref (g x) :: rest) := by
  intro H locs ls hP hS hl
  obtain ⟨q0, hq⟩ := List.getElem?_of_mem hx
  exact va_aldq (f := fun j => some (h j)) C.1 C.2.1 C.2.2.2.2.2.1.1 hP q0 t ((za_at g cy M hq).trans (by rw [he])) ht hin hdg (kk H locs ls hP hS hl)
theorem zt_aast (C : za_C p s m args c cc nL own g D cy) {k j : Nat} {i : Int32} (hk : k < 3) (hj : j < 10) (hin : vp_in i 10) (hdg : decode cc pc = .ok (.aastore, 1)) (kk : zt p l e R s m args below meth c nc ns Q g D cy nL (za_uq M k i.toNatClampNeg j) (pc + 1) lv rest) : zt p l e R s m args below meth c nc ns Q g D cy nL M pc lv (.ref (g (5, k, j)) :: .int i :: .ref (g (12, k, 0)) :: rest) := by
  intro H locs ls hP hS hl
  have hx : (12, k, 0) ∈ za_cells := za_mem (j := 12) rfl hk (by decide)
  have hy : (5, k, j) ∈ za_cells := za_mem (j := 5) rfl hk hj
  obtain ⟨q0, hq⟩ := List.getElem?_of_mem hx
  obtain ⟨q1, hq1⟩ := List.getElem?_of_mem hy
  have e1 := za_set (g := g) (cy := cy) (M := M) (M' := za_uq M k i.toNatClampNeg j) hq (fun y hc hy => za_E_uq g cy M _ j (fun h => hy (by
    obtain ⟨y1, y2, y3⟩ := y
    obtain ⟨h1, h2⟩ := h
    simp only at h1 h2
    subst h1; subst h2
    have h3 : y3 = 0 := by
      unfold za_cells at hc
      obtain ⟨q, h4, h5⟩ := List.mem_flatMap.mp hc
      obtain ⟨c1, h6, h7⟩ := List.mem_flatMap.mp h5
      obtain ⟨i1, h8, h9⟩ := List.mem_map.mp h7
      simp only [Prod.mk.injEq] at h9
      obtain ⟨a1, a2, a3⟩ := h9
      have h10 : ∀ q ∈ za_kinds, q.1 = 12 → q.2.2 = 1 := by decide +kernel
      have h11 := h10 q h4 a1
      have h12 := List.mem_range.mp h8
      omega
    rw [h3])))
  have e2 : za_E g cy (za_uq M k i.toNatClampNeg j) (12, k, 0) = .inl (cy 3, 10, .inr (.inr (.inr (.inr (va_up (fun j => some (g (5, k, M.2 k j % 10))) i.toNatClampNeg (some (g (5, k, j)))))))) := by
    have e3 : (fun z => some (g (5, k, (za_uq M k i.toNatClampNeg j).2 k z % 10))) = va_up (fun z => some (g (5, k, M.2 k z % 10))) i.toNatClampNeg (some (g (5, k, j))) := by
      funext z
      unfold va_up za_uq
      by_cases hz : z = i.toNatClampNeg
      · simp [hz, Nat.mod_eq_of_lt hj]
      · simp [hz]
    rw [za_E_12, e3]
  rw [e2] at e1
  refine va_astq C.1 C.2.1 C.2.2.2.2.2.1.1 hP (za_DA cy M C.2.2.2.2.2.2) hS q0 3 q1 3 (n := 10) (r := (RX3, TX3, 5)) ((za_at g cy M hq).trans (by rw [za_E_12])) rfl ((za_at g cy M hq1).trans (by rw [za_E_5])) rfl hin hdg (fun H1 locs1 hP1 _ hS1 => ?_)
  rw [e1] at hP1
  exact kk H1 locs1 ls hP1 hS1 hl
theorem zt_gets (C : za_C p s m args c cc nL own g D cy) {Cn n d : String} {t index : Nat} (hZ : va_Z Cn n d (.ref t) (za_A g) s s.heap) (hw : Cond.fieldLink own index Cn n d ∈ lw_gd) (hdg : decode cc pc = .ok (.getstatic index, 3)) (kk : zt p l e R s m args below meth c nc ns Q g D cy nL M (pc + 3) lv (.ref t :: rest)) : zt p l e R s m args below meth c nc ns Q g D cy nL M pc lv rest := fun H locs ls hP hS hl => va_gets C.1 C.2.1 hZ hS C.2.2.2.1 (C.2.2.2.2.1 _ hw) (fun _ h => h) hdg (kk H locs ls hP hS hl)
theorem zt_getsN (C : za_C p s m args c cc nL own g D cy) {Cn n d host : String} {t index : Nat} (hZ : va_Z Cn n d (.ref t) (za_A g) s s.heap) (hw : Cond.fieldLinkNest own index Cn n d host ∈ za_nests) (hdg : decode cc pc = .ok (.getstatic index, 3)) (kk : zt p l e R s m args below meth c nc ns Q g D cy nL M (pc + 3) lv (.ref t :: rest)) : zt p l e R s m args below meth c nc ns Q g D cy nL M pc lv rest := fun H locs ls hP hS hl => va_getsN C.1 C.2.1 hZ hS C.2.2.2.1 (va_Nw.use rfl (C.2.2.2.2.2.1.2.1 _ hw)) (fun _ h => h) hdg (kk H locs ls hP hS hl)
theorem zt_tald (C : za_C p s m args c cc nL own g D cy) {t N : Nat} {f : Nat → Int32} {i : Int32} (hT : va_T .int t N (fun j => .int (f j)) (za_A g) s s.heap) (hin : vp_in i N) (hdg : decode cc pc = .ok (.iaload, 1)) (kk : zt p l e R s m args below meth c nc ns Q g D cy nL M (pc + 1) lv (.int (f i.toNatClampNeg) :: rest)) : zt p l e R s m args below meth c nc ns Q g D cy nL M pc lv (.int i :: .ref t :: rest) := fun H locs ls hP hS hl => va_ti C.1 C.2.1 hT hS hin rfl hdg (kk H locs ls hP hS hl)
theorem zt_tcald (C : za_C p s m args c cc nL own g D cy) {t N : Nat} {f : Nat → Int32} {i : Int32} (hT : va_T .char t N (fun j => .int (f j)) (za_A g) s s.heap) (hin : vp_in i N) (hdg : decode cc pc = .ok (.caload, 1)) (kk : zt p l e R s m args below meth c nc ns Q g D cy nL M (pc + 1) lv (.int (f i.toNatClampNeg) :: rest)) : zt p l e R s m args below meth c nc ns Q g D cy nL M pc lv (.int i :: .ref t :: rest) := fun H locs ls hP hS hl => va_tc C.1 C.2.1 hT hS hin rfl hdg (kk H locs ls hP hS hl)
theorem zt_copy (C : za_C p s m args c cc nL own g D cy) {x y : za_L} {n0 n1 : Nat} {sp dp n : Int32} {index : Nat} (hx : x ∈ za_cells) (hy : y ∈ za_cells) (he : ∀ M : za_M, za_E g cy M x = .inl (cy 0, n0, .inl (M.1 x))) (he1 : ∀ M : za_M, za_E g cy M y = .inl (cy 0, n1, .inl (M.1 y))) (hk : za_cok sp dp n n0 n1) (hlink : Cond.methodLink own index arraycopyName ∈ lw_gd) (hnat : Cond.native arraycopyName ∈ lw_gd) (hstat : Cond.static arraycopyName ∈ lw_gd) (hini : Cond.initialized "java/lang/System" ∈ lw_gd) (hframes : 1 ≤ R.frames) (hlocals : (rest.map fun v => v.category).sum + (nativeFrameWords "java/lang/System" "arraycopy" 5 + 11) ≤ R.locals) (hdg : decode cc pc = .ok (.invokestatic index, 3)) (kk : zt p l e R s m args below meth c nc ns Q g D cy nL (za_uf M y (va_cpy (M.1 x) (M.1 y) sp.toNatClampNeg dp.toNatClampNeg n.toNatClampNeg)) (pc + 3) lv rest) : zt p l e R s m args below meth c nc ns Q g D cy nL M pc lv (.int n :: .int dp :: .ref (g y) :: .int sp :: .ref (g x) :: rest) := by
  intro H locs ls hP hS hl
  obtain ⟨q0, hq⟩ := List.getElem?_of_mem hx
  obtain ⟨q1, hq1⟩ := List.getElem?_of_mem hy
  have e1 := za_set (g := g) (cy := cy) (M := M) (M' := za_uf M y (va_cpy (M.1 x) (M.1 y) sp.toNatClampNeg dp.toNatClampNeg n.toNatClampNeg)) hq1 (fun z _ hz => za_E_uf g cy M _ hz)
  rw [he1, za_uf_row] at e1
  have ts := C.2.2.2.2.1
  refine va_copyi C.1 C.2.1 (C.2.2.1.trans hl.1.symm) C.2.2.2.1 (ts _ hlink) (ts _ hnat) (ts _ hstat) (ts _ hini) C.2.2.2.2.2.1.1 hP (za_DA cy M C.2.2.2.2.2.2) hS q0 q1 0 0 ((za_at g cy M hq).trans (by rw [he])) ((za_at g cy M hq1).trans (by rw [he1])) rfl rfl rfl hk.1 hk.2.1 hk.2.2.1 hk.2.2.2.1 hk.2.2.2.2 (fun _ _ => rfl) hframes hlocals hdg (fun H1 locs1 hP1 _ hS1 => ?_)
  rw [e1] at hP1
  exact kk H1 locs1 ls hP1 hS1 hl
end ZU
/-- a method's contract: from the world of M it returns with K -/
def za_Pr (g : za_L → Nat) (D : va_G) (cy : Nat → ClassId) (vs : List Value) (M : za_M) : Array Value → State → Prop := va_Pc vs (fun U => va_P D vwCl (za_Wl g cy M) U.heap ∧ za_F g D cy U)
def za_Qi (g : za_L → Nat) (D : va_G) (cy : Nat → ClassId) (K : Int32 → za_M → Prop) : Array Value → State → Outcome → State → Prop := va_Qi K (fun M' t => va_P D vwCl (za_Wl g cy M') t.heap) (za_A g)
def za_Qv (g : za_L → Nat) (D : va_G) (cy : Nat → ClassId) (K : za_M → Prop) : Array Value → State → Outcome → State → Prop := va_Qv K (fun M' t => va_P D vwCl (za_Wl g cy M') t.heap) (za_A g)
abbrev za_rm (fr lo : Nat) : Room := { frames := fr, cells := 0, slots := 0, locals := lo }
def za_Mi (l : Launch) (g : za_L → Nat) (D : va_G) (cy : Nat → ClassId) (y : MethodName) (b : ByteArray) (n : Nat) (ret : Option FieldType) (fr lo : Nat) (vs : List Value) (M : za_M) (K : Int32 → za_M → Prop) : Prop := Met l y (.code y b n ret :: lw_gd) (za_rm fr lo) (za_Pr g D cy vs M) (za_Qi g D cy K) 0 0 (za_A g)
def za_Mv (l : Launch) (g : za_L → Nat) (D : va_G) (cy : Nat → ClassId) (y : MethodName) (b : ByteArray) (n : Nat) (ret : Option FieldType) (fr lo : Nat) (vs : List Value) (M : za_M) (K : za_M → Prop) : Prop := Met l y (.code y b n ret :: lw_gd) (za_rm fr lo) (za_Pr g D cy vs M) (za_Qv g D cy K) 0 0 (za_A g)
theorem za_Pr_blind (g : za_L → Nat) (D : va_G) (cy : Nat → ClassId) (vs : List Value) (M : za_M) : FrameBlind (za_Pr g D cy vs M) := fun a U g' mk h => ⟨h.1, h.2.1, za_F.blind (V := U.calling g' mk a) h.2.2 rfl rfl⟩
theorem za_openi {l : Launch} {g : za_L → Nat} {D : va_G} {cy : Nat → ClassId} {y : MethodName} {b : ByteArray} {n : Nat} {ret : Option FieldType} {fr lo : Nat} {vs : List Value} {M : za_M} {K : Int32 → za_M → Prop} (hJ : za_J g) (hy : plainName y.cls = true) (hn : (lg_sl vs).length ≤ n)
    (body : ∀ (p : Program) (e : Env) (s : State) (m : MethodId) (args : Array Value) (below : List Frame) (meth : Method) (c : Code), za_C p s m args c b n y.cls g D cy → meth.sig.returnType = ret → meth.locks = false → zt p l e (za_rm fr lo) s m args below meth c 0 0 (MQ below (za_Qi g D cy K) args s 0 0 (za_A g)) g D cy n M 0 (lv_args 0 vs) []) : za_Mi l g D cy y b n ret fr lo vs M K := by
  refine Met.ofW (cc := b) (maxL := n) (ret := ret) hy rfl ?_
  intro p e s m args below meth c s₁ B hml hv
  obtain ⟨rfl, hP, hF⟩ := hv
  have hts := atoms_spec (ws := .code y b n ret :: lw_gd) B.pre
  have h := body p e s m vs.toArray below meth c ⟨B.exec, B.bytes, hml, findClass_of_methodNamed B.named, fun w hw => hts w (List.mem_cons_of_mem _ hw), hF, hJ⟩ B.returns B.notSynchronized
  have hl := lv_entry vs hn
  rw [lg_entry_eq]
  exact h s.heap [] _ hP va_S.rf hl
theorem za_openv {l : Launch} {g : za_L → Nat} {D : va_G} {cy : Nat → ClassId} {y : MethodName} {b : ByteArray} {n : Nat} {ret : Option FieldType} {fr lo : Nat} {vs : List Value} {M : za_M} {K : za_M → Prop} (hJ : za_J g) (hy : plainName y.cls = true) (hn : (lg_sl vs).length ≤ n)
    (body : ∀ (p : Program) (e : Env) (s : State) (m : MethodId) (args : Array Value) (below : List Frame) (meth : Method) (c : Code), za_C p s m args c b n y.cls g D cy → meth.sig.returnType = ret → meth.locks = false → zt p l e (za_rm fr lo) s m args below meth c 0 0 (MQ below (za_Qv g D cy K) args s 0 0 (za_A g)) g D cy n M 0 (lv_args 0 vs) []) : za_Mv l g D cy y b n ret fr lo vs M K := by
  refine Met.ofW (cc := b) (maxL := n) (ret := ret) hy rfl ?_
  intro p e s m args below meth c s₁ B hml hv
  obtain ⟨rfl, hP, hF⟩ := hv
  have hts := atoms_spec (ws := .code y b n ret :: lw_gd) B.pre
  have h := body p e s m vs.toArray below meth c ⟨B.exec, B.bytes, hml, findClass_of_methodNamed B.named, fun w hw => hts w (List.mem_cons_of_mem _ hw), hF, hJ⟩ B.returns B.notSynchronized
  have hl := lv_entry vs hn
  rw [lg_entry_eq]
  exact h s.heap [] _ hP va_S.rf hl
section ZR
variable {p : Program} {l : Launch} {e : Env} {R : Room} {s : State} {m : MethodId} {args : Array Value} {below : List Frame} {meth : Method} {c : Code} {nc ns : Nat} {g : za_L → Nat} {D : va_G} {cy : Nat → ClassId} {nL : Nat} {cc : ByteArray} {own : String} {M : za_M} {pc : Nat} {lv : List (Nat × Value)} {rest : List Value}
theorem zt_ret (C : za_C p s m args c cc nL own g D cy) {K : Int32 → za_M → Prop} {ty : FieldType} {v : Int32} (hr : meth.sig.returnType = some ty) (hk : meth.locks = false) (hn : narrow ty (.int v) = .int v) (hdg : decode cc pc = .ok (.ireturn, 1)) (h : K v M) : zt p l e R s m args below meth c 0 0 (MQ below (za_Qi g D cy K) args s 0 0 (za_A g)) g D cy nL M pc lv [.int v] := fun H locs ls hP hS hl => W.zret C.1 C.2.1 hr hn (fun t ht hW => ⟨⟨v, M, rfl, h, show va_P D vwCl (za_Wl g cy M) t.heap by rw [ht]; exact hP⟩, hS.F ht⟩) hS.2.2 hdg hk
theorem zt_vret (C : za_C p s m args c cc nL own g D cy) {K : za_M → Prop} (hr : meth.sig.returnType = none) (hk : meth.locks = false) (hdg : decode cc pc = .ok (.return_, 1)) (h : K M) : zt p l e R s m args below meth c 0 0 (MQ below (za_Qv g D cy K) args s 0 0 (za_A g)) g D cy nL M pc lv [] := fun H locs ls hP hS hl => W.vret C.1 C.2.1 hr (fun t ht hW => ⟨⟨M, rfl, h, show va_P D vwCl (za_Wl g cy M) t.heap by rw [ht]; exact hP⟩, hS.F ht⟩) hS.2.2 hdg hk
end ZR

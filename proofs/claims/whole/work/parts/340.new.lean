/-! constructors: worlds that grow -/
def zn_Cl : List String := [RX0, RX4, RX3, RX2, RX6, "java/lang/String"]
/-- classes, links among nest mates, array classes, text constants -/
def zn_K (sa : Nat → Nat) (D : va_G) (cy : Nat → ClassId) (s : State) : Prop := va_K D vwCl (za_tys cy) s ∧ (∀ w ∈ za_nests, va_Nw w s) ∧ (∀ C ∈ zn_Cl, va_AO C s) ∧ vk_R "AshLoansModel" 24 "mkh" (sa 0) s ∧ vk_R "AshLoansModel" 26 "nmd" (sa 1) s
theorem zn_K.go {sa : Nat → Nat} {D : va_G} {cy : Nat → ClassId} {s U : State} (h : zn_K sa D cy s) (hW : s.WarmedH U.vm) : zn_K sa D cy U :=
  ⟨va_K.moved hW.alike h.1, fun w hw => za_nests_warm hW w hw (h.2.1 w hw), fun C hC => va_AO.moved hW.alike (h.2.2.1 C hC), vk_R.warm hW h.2.2.2.1, vk_R.warm hW h.2.2.2.2⟩
theorem zn_K.same {sa : Nat → Nat} {D : va_G} {cy : Nat → ClassId} {s U : State} (h : zn_K sa D cy s) (hv : s.vm = U.vm) : zn_K sa D cy U :=
  have ha : s.vm.Alike U.vm := by rw [hv]; exact Vm.Alike.refl U.vm
  ⟨va_K.moved ha h.1, fun w hw => va_Nw.same (za_nests_tab w hw) hv (h.2.1 w hw), fun C hC => va_AO.moved ha (h.2.2.1 C hC), vk_R.same hv.symm h.2.2.2.1, vk_R.same hv.symm h.2.2.2.2⟩
/-- the two texts stand outside A -/
def zn_O (sa : Nat → Nat) (A : Nat → Prop) (s : State) (H : Heap) : Prop := ∀ i, i < 2 → va_O "java/lang/String" (sa i) A s H
def zn_C (p : Program) (s : State) (m : MethodId) (args : Array Value) (c : Code) (cc : ByteArray) (nL : Nat) (own : String) (sa : Nat → Nat) (D : va_G) (cy : Nat → ClassId) (A : Nat → Prop) : Prop :=
  p.tables.exec = Jvm.exec ∧ c.code = cc ∧ c.maxLocals = nL ∧ s.vm.findClass own = some m.cls ∧ (∀ w ∈ lw_gd, w.before args s = true) ∧ zn_K sa D cy s ∧ (∀ q, s.heap.size ≤ q → A q) ∧ zn_O sa A s s.heap
def zn (p : Program) (l : Launch) (e : Env) (R : Room) (s : State) (m : MethodId) (args : Array Value) (below : List Frame) (meth : Method) (c : Code) (A : Nat → Prop) (Q : State → Prop) (D : va_G) (nL : Nat) (ws : va_W) (pc : Nat) (lv : List (Nat × Value)) (st : List Value) (nc ns : Nat) : Prop :=
  ∀ (H : Heap) (locs : List Loc) (ls : Array Slot), va_P D vwCl ws H → va_D A ws → va_S A s.heap H locs → lv_has ls nL lv → W p l e R s m args below meth c H locs nc ns Q (F0 m pc ls st)
/-- a constructor's contract: out of the object's own cell come the cells Out -/
def zn_M (l : Launch) (sa : Nat → Nat) (D : va_G) (cy : Nat → ClassId) (y : MethodName) (b : ByteArray) (n fr lo mc ms : Nat) (e0 : va_E) (As : List Value) (Out : Nat → (za_L → Nat) → va_W) : Prop :=
  ∀ h0 sz : Nat, Met l y (.code y b n none :: lw_gd) { frames := fr, cells := mc, slots := ms, locals := lo } (va_Pc (.ref h0 :: As) (fun U => U.heap.size = sz ∧ va_P D vwCl [(h0, e0)] U.heap ∧ zn_K sa D cy U ∧ zn_O sa (va_A [(h0, e0)] sz) U U.heap)) (va_Qv (fun _ : za_L → Nat => True) (fun a t => va_P D vwCl (Out h0 a) t.heap ∧ va_D (va_A [(h0, e0)] sz) (Out h0 a)) (va_A [(h0, e0)] sz)) mc ms (va_A [(h0, e0)] sz)
theorem zn_open {l : Launch} {sa : Nat → Nat} {D : va_G} {cy : Nat → ClassId} {y : MethodName} {b : ByteArray} {n fr lo mc ms : Nat} {e0 : va_E} {As : List Value} {Out : Nat → (za_L → Nat) → va_W} (hy : plainName y.cls = true) (hn : ∀ h0 : Nat, (lg_sl (.ref h0 :: As)).length ≤ n) (hi : y.name = "<init>")
    (body : ∀ (p : Program) (e : Env) (s : State) (m : MethodId) (args : Array Value) (below : List Frame) (meth : Method) (c : Code) (h0 : Nat) (A : Nat → Prop), zn_C p s m args c b n y.cls sa D cy A → meth.name = "<init>" → meth.sig.returnType = none → meth.locks = false → zn p l e { frames := fr, cells := mc, slots := ms, locals := lo } s m args below meth c A (MQ below (va_Qv (fun _ : za_L → Nat => True) (fun a t => va_P D vwCl (Out h0 a) t.heap ∧ va_D A (Out h0 a)) A) args s mc ms A) D n [(h0, e0)] 0 (lv_args 0 (.ref h0 :: As)) [] 0 0) : zn_M l sa D cy y b n fr lo mc ms e0 As Out := by
  intro h0 sz
  refine Met.ofW (cc := b) (maxL := n) (ret := none) hy rfl ?_
  intro p e s m args below meth c s₁ B hml hv
  obtain ⟨rfl, hsz, hP, hK, hO⟩ := hv
  subst hsz
  have hts := atoms_spec (ws := .code y b n none :: lw_gd) B.pre
  have hin : meth.name = y.name := (name_of_methodNamed B.named B.method).1
  have hD : va_D (va_A [(h0, e0)] s.heap.size) [(h0, e0)] := by
    refine ⟨fun i j a b hi hj _ => ?_, fun k q hk => va_A.in hk⟩
    have h1 := (List.getElem?_eq_some_iff.mp hi).1
    have h2 := (List.getElem?_eq_some_iff.mp hj).1
    simp at h1 h2
    omega
  have h := body p e s m (.ref h0 :: As).toArray below meth c h0 (va_A [(h0, e0)] s.heap.size) ⟨B.exec, B.bytes, hml, findClass_of_methodNamed B.named, fun w hw => hts w (List.mem_cons_of_mem _ hw), hK, fun q hq => Or.inr hq, hO⟩ (by rw [hin, hi]) B.returns B.notSynchronized
  have hl := lv_entry (.ref h0 :: As) (hn h0)
  rw [lg_entry_eq]
  exact h s.heap [] _ hP hD va_S.rf hl
theorem zn_hR (wr : va_W) (x : Nat × va_E) : (List.range wr.length).map (fun i => (wr ++ [x])[i]?) = wr.map some := by
  refine List.ext_getElem? fun i => ?_
  rw [List.getElem?_map, List.getElem?_map]
  by_cases h : i < wr.length
  · rw [List.getElem?_range h, List.getElem?_eq_getElem h]
    simp [List.getElem?_append_left h]
  · rw [List.getElem?_eq_none (by simp; omega), List.getElem?_eq_none (by omega)]
    rfl
theorem zn_nd : ∀ l : List Nat, l.Nodup → va_nd l = true := by
  intro l
  induction l with
  | nil => intro _; rfl
  | cons a l ih =>
    intro h
    rw [List.nodup_cons] at h
    show (decide (a ∉ l) && va_nd l) = true
    rw [ih h.2, Bool.and_true]
    exact decide_eq_true h.1
theorem zn_arr {cA : ClassId} {n : Nat} {f g : Nat → Option Nat} (h : ∀ j, j < n → f j = g j) : vp_cell cA (n, .inr (.inr (.inr (.inr f)))) = vp_cell cA (n, .inr (.inr (.inr (.inr g)))) := by
  rw [vp_cell_q, vp_cell_q]
  unfold arrV
  congr 1
  congr 1
  funext j
  exact congrArg va_rf (h j.val j.isLt)
theorem zn_Pa {D : va_G} {ws : va_W} {H : Heap} (hP : va_P D vwCl ws H) (k : Nat) {q : Nat} {cA : ClassId} {n : Nat} {f g : Nat → Option Nat} (hk : ws[k]? = some (q, .inl (cA, n, .inr (.inr (.inr (.inr f)))))) (h : ∀ j, j < n → f j = g j) {ws' : va_W} (hw : ws.set k (q, .inl (cA, n, .inr (.inr (.inr (.inr g))))) = ws') : va_P D vwCl ws' H := by
  subst hw
  intro i x hx
  by_cases e : i = k
  · subst e
    have hl := (List.getElem?_eq_some_iff.mp hk).1
    rw [List.getElem?_set_self hl] at hx
    cases hx
    have := hP i _ hk
    show H[q]? = some (vp_cell _ _)
    rw [← zn_arr h]
    exact this
  · rw [List.getElem?_set_ne (fun z => e z.symm)] at hx
    exact hP i x hx
section ZNR
variable {p : Program} {l : Launch} {e : Env} {R : Room} {s : State} {m : MethodId} {args : Array Value} {below : List Frame} {meth : Method} {c : Code} {A : Nat → Prop} {Q : State → Prop} {sa : Nat → Nat} {D : va_G} {cy : Nat → ClassId} {nL : Nat} {cc : ByteArray} {own : String} {ws : va_W} {pc nc ns : Nat} {lv : List (Nat × Value)} {rest : List Value}
theorem zn_iconst (C : zn_C p s m args c cc nL own sa D cy A) {n : Int} {v : Int32} (hdg : decode cc pc = .ok (.iconst n, 1)) (hv : Int32.ofInt n = v) (k : zn p l e R s m args below meth c A Q D nL ws (pc + 1) lv (.int v :: rest) nc ns) : zn p l e R s m args below meth c A Q D nL ws pc lv rest nc ns := fun H locs ls hP hD hS hl => lv_iconst C.1 C.2.1 hdg hv (k H locs ls hP hD hS hl)
theorem zn_bipush (C : zn_C p s m args c cc nL own sa D cy A) {n : Int} {v : Int32} (hdg : decode cc pc = .ok (.bipush n, 2)) (hv : (Int8.ofInt n).toInt32 = v) (k : zn p l e R s m args below meth c A Q D nL ws (pc + 2) lv (.int v :: rest) nc ns) : zn p l e R s m args below meth c A Q D nL ws pc lv rest nc ns := fun H locs ls hP hD hS hl => lv_bipush C.1 C.2.1 hdg hv (k H locs ls hP hD hS hl)
theorem zn_sipush (C : zn_C p s m args c cc nL own sa D cy A) {n : Int} {v : Int32} (hdg : decode cc pc = .ok (.sipush n, 3)) (hv : (Int16.ofInt n).toInt32 = v) (k : zn p l e R s m args below meth c A Q D nL ws (pc + 3) lv (.int v :: rest) nc ns) : zn p l e R s m args below meth c A Q D nL ws pc lv rest nc ns := fun H locs ls hP hD hS hl => lv_sipush C.1 C.2.1 hdg hv (k H locs ls hP hD hS hl)
theorem zn_dup (C : zn_C p s m args c cc nL own sa D cy A) {va : Value} (hdg : decode cc pc = .ok (.dup, 1)) (hva : va.category = 1) (k : zn p l e R s m args below meth c A Q D nL ws (pc + 1) lv (va :: va :: rest) nc ns) : zn p l e R s m args below meth c A Q D nL ws pc lv (va :: rest) nc ns := fun H locs ls hP hD hS hl => lv_dup C.1 C.2.1 hdg hva (k H locs ls hP hD hS hl)
theorem zn_iload_n (C : zn_C p s m args c cc nL own sa D cy A) {k : Fin 4} {x : Int32} (q : Nat) {i : Nat} (hdg : decode cc pc = .ok (.iload_n k, 1)) (hi : (k : Nat) = i) (hx : lv[q]? = some (i, .int x)) (kk : zn p l e R s m args below meth c A Q D nL ws (pc + 1) lv (.int x :: rest) nc ns) : zn p l e R s m args below meth c A Q D nL ws pc lv rest nc ns := fun H locs ls hP hD hS hl => lv_iload_n C.1 C.2.1 hdg hi (lv_at hl q hx) (kk H locs ls hP hD hS hl)
theorem zn_aload_n (C : zn_C p s m args c cc nL own sa D cy A) {k : Fin 4} {x : Nat} (q : Nat) {i : Nat} (hdg : decode cc pc = .ok (.aload_n k, 1)) (hi : (k : Nat) = i) (hx : lv[q]? = some (i, .ref x)) (kk : zn p l e R s m args below meth c A Q D nL ws (pc + 1) lv (.ref x :: rest) nc ns) : zn p l e R s m args below meth c A Q D nL ws pc lv rest nc ns := fun H locs ls hP hD hS hl => lv_aload_n C.1 C.2.1 hdg hi (lv_at hl q hx) (kk H locs ls hP hD hS hl)
theorem zn_istore_n (C : zn_C p s m args c cc nL own sa D cy A) {k : Fin 4} {i : Nat} {x : Int32} (lv' : List (Nat × Value)) (hdg : decode cc pc = .ok (.istore_n k, 1)) (hi : (k : Nat) = i) (hn : i < nL) (hl0 : (i, Value.int x) :: lv.filter (fun q => !(q.1 == i) && !(q.1 + 1 == i && q.2.category == 2)) = lv') (kk : zn p l e R s m args below meth c A Q D nL ws (pc + 1) lv' rest nc ns) : zn p l e R s m args below meth c A Q D nL ws pc lv (.int x :: rest) nc ns := fun H locs ls hP hD hS hl => lv_istore_n C.1 C.2.1 hdg hi hl hn hl0 (fun ls hl => kk H locs ls hP hD hS hl)
theorem zn_astore_n (C : zn_C p s m args c cc nL own sa D cy A) {k : Fin 4} {i : Nat} {x : Nat} (lv' : List (Nat × Value)) (hdg : decode cc pc = .ok (.astore_n k, 1)) (hi : (k : Nat) = i) (hn : i < nL) (hl0 : (i, Value.ref x) :: lv.filter (fun q => !(q.1 == i) && !(q.1 + 1 == i && q.2.category == 2)) = lv') (kk : zn p l e R s m args below meth c A Q D nL ws (pc + 1) lv' rest nc ns) : zn p l e R s m args below meth c A Q D nL ws pc lv (.ref x :: rest) nc ns := fun H locs ls hP hD hS hl => lv_astore_n C.1 C.2.1 hdg hi hl hn hl0 (fun ls hl => kk H locs ls hP hD hS hl)
theorem zn_iinc (C : zn_C p s m args c cc nL own sa D cy A) {i : Nat} {n : Int} {x v : Int32} (q : Nat) (lv' : List (Nat × Value)) (hdg : decode cc pc = .ok (.iinc i n, 3)) (hx : lv[q]? = some (i, .int x)) (hv : x + Int32.ofInt n = v) (hn : i < nL) (hl0 : (i, Value.int v) :: lv.filter (fun q => !(q.1 == i) && !(q.1 + 1 == i && q.2.category == 2)) = lv') (kk : zn p l e R s m args below meth c A Q D nL ws (pc + 3) lv' rest nc ns) : zn p l e R s m args below meth c A Q D nL ws pc lv rest nc ns := fun H locs ls hP hD hS hl => lv_iinc C.1 C.2.1 hdg hl (k := q) hx hv hn hl0 (fun ls hl => kk H locs ls hP hD hS hl)
theorem zn_goto (C : zn_C p s m args c cc nL own sa D cy A) {off : Int} (tgt : Nat) (hdg : decode cc pc = .ok (.goto off, 3)) (ht : (pc : Int) + off = (tgt : Int)) {st : List Value} (k : zn p l e R s m args below meth c A Q D nL ws tgt lv st nc ns) : zn p l e R s m args below meth c A Q D nL ws pc lv st nc ns := fun H locs ls hP hD hS hl => lv_goto C.1 C.2.1 hdg ht (k H locs ls hP hD hS hl)
theorem zn_icmp_ge (C : zn_C p s m args c cc nL own sa D cy A) {x y : Int32} {off : Int} (tgt : Nat) (hdg : decode cc pc = .ok (.if_icmp .ge off, 3)) (ht : (pc : Int) + off = (tgt : Int)) (kt : y ≤ x → zn p l e R s m args below meth c A Q D nL ws tgt lv rest nc ns) (kf : ¬ y ≤ x → zn p l e R s m args below meth c A Q D nL ws (pc + 3) lv rest nc ns) : zn p l e R s m args below meth c A Q D nL ws pc lv (.int y :: .int x :: rest) nc ns := fun H locs ls hP hD hS hl => lv_icmp_ge C.1 C.2.1 hdg ht (fun h => kt h H locs ls hP hD hS hl) (fun h => kf h H locs ls hP hD hS hl)
theorem zn_sub (ks : List Nat) {lv' : List (Nat × Value)} (hl0 : lv_pick lv ks = lv') {st : List Value} (kk : zn p l e R s m args below meth c A Q D nL ws pc lv' st nc ns) : zn p l e R s m args below meth c A Q D nL ws pc lv st nc ns := fun H locs ls hP hD hS hl => kk H locs ls hP hD hS (lv_sub hl ks hl0)
theorem zn_ws {ws' : va_W} (hw : ws = ws') {st : List Value} (kk : zn p l e R s m args below meth c A Q D nL ws' pc lv st nc ns) : zn p l e R s m args below meth c A Q D nL ws pc lv st nc ns := by rw [hw]; exact kk
theorem zn_obj (C : zn_C p s m args c cc nL own sa D cy A) {idx : Nat} {a : Nat} (h1 : Cond.methodLink own idx Lib.objectInit ∈ lw_gd) (h2 : Cond.instanceMethod Lib.objectInit ∈ lw_gd) (h3 : Cond.code Lib.objectInit ⟨#[0xb1]⟩ 1 none ∈ lw_gd) (hdg : decode cc pc = .ok (.invokespecial idx, 3)) (hframes : 1 ≤ R.frames) (hlocals : (rest.map fun v => v.category).sum + 12 ≤ R.locals) (k : zn p l e R s m args below meth c A Q D nL ws (pc + 3) lv rest nc ns) : zn p l e R s m args below meth c A Q D nL ws pc lv (.ref a :: rest) nc ns := fun H locs ls hP hD hS hl => W.objInit C.1 C.2.1 C.2.2.2.1 (C.2.2.2.2.1 _ h1) (C.2.2.2.2.1 _ h2) (C.2.2.2.2.1 _ h3) rfl (by rw [C.2.2.1]; exact hl.1) rfl hdg hframes (by show 2 * 0 + _ + 12 ≤ _; omega) (k H locs ls hP hD hS hl)
theorem zn_new (C : zn_C p s m args c cc nL own sa D cy A) {Cn : String} {T : u_T} {N ci index : Nat} {fs : List Value} (hin : ∀ w ∈ u_ws Cn T N, w ∈ lw_gd) (ty : Nat → FieldType) (hty : ∀ k, k < N → parseFieldDescriptor (T k).2.2.1 = some (ty k)) (hcl : Cond.classLink own index Cn ∈ lw_gd) (hinst : Cond.instantiable Cn N ∈ lw_gd) (hini : Cond.initialized Cn ∈ lw_gd) (hc : vwCl[ci]? = some (Cn, T, N)) (hfs : ∀ j, j < N → defaultValue (ty j) = vp_V fs j) (hcells : nc + 1 ≤ R.cells) (hslots : ns + N ≤ R.slots) (hdg : decode cc pc = .ok (.new index, 3)) (kk : ∀ q : Nat, zn p l e R s m args below meth c A Q D nL (ws ++ [(q, .inr (ci, fs))]) (pc + 3) lv (.ref q :: rest) (nc + 1) (ns + N)) : zn p l e R s m args below meth c A Q D nL ws pc lv rest nc ns := fun H locs ls hP hD hS hl => va_new C.1 C.2.1 C.2.2.2.2.1 hin ty hty C.2.2.2.1 (C.2.2.2.2.1 _ hcl) (C.2.2.2.2.1 _ hinst) (C.2.2.2.2.1 _ hini) C.2.2.2.2.2.1.1 hP hD hS C.2.2.2.2.2.2.1 hc hfs hcells hslots hdg (fun q H1 hP1 hD1 hS1 => kk q H1 locs ls hP1 hD1 hS1 hl)
theorem zn_newa (C : zn_C p s m args c cc nL own sa D cy A) {n : Int32} (N' : Nat) (harr : Cond.arrayClass .int ∈ lw_gd) (hn : ¬ n < 0) (hN : n.toNatClampNeg = N') (hb4 : N' * 4 ≤ 536870912) (hcells : nc + 1 ≤ R.cells) (hslots : ns + N' ≤ R.slots) (hdg : decode cc pc = .ok (.newarray .int, 2)) (kk : ∀ q : Nat, zn p l e R s m args below meth c A Q D nL (ws ++ [(q, .inl (cy 0, N', .inl (fun _ => 0)))]) (pc + 2) lv (.ref q :: rest) (nc + 1) (ns + N')) : zn p l e R s m args below meth c A Q D nL ws pc lv (.int n :: rest) nc ns := by
  intro H locs ls hP hD hS hl
  refine va_newa (atype := .int) (a0 := (N', .inl (fun _ => 0))) (ty := .int) C.1 C.2.1 (C.2.2.2.2.1 _ harr) rfl C.2.2.2.2.2.1.1 hP hD hS C.2.2.2.2.2.2.1 (fun cA => rfl) hn hN hb4 hcells hslots hdg (fun q cA H1 hK1 hP1 hD1 hS1 => ?_)
  have e1 : s.vm.findClass ("[" ++ FieldType.int.toString) = some cA := (hK1.2 7 (cA, .int) rfl).2
  have e2 : s.vm.findClass ("[" ++ FieldType.int.toString) = some (cy 0) := (hK1.2 0 (cy 0, .int) rfl).2
  have e3 : cA = cy 0 := Option.some.inj (e1.symm.trans e2)
  rw [e3] at hP1 hD1
  exact kk q H1 locs ls hP1 hD1 hS1 hl
theorem zn_newq (C : zn_C p s m args c cc nL own sa D cy A) {n : Int32} (N' t : Nat) {Cn : String} {index : Nat} (ht : (za_tys cy)[t]? = some (cy t, .object Cn)) (hcl : Cond.classLink own index Cn ∈ lw_gd) (ho : Cn ∈ zn_Cl) (hn : ¬ n < 0) (hN : n.toNatClampNeg = N') (hb4 : N' * 4 ≤ 536870912) (hcells : nc + 1 ≤ R.cells) (hslots : ns + N' ≤ R.slots) (hdg : decode cc pc = .ok (.anewarray index, 3)) (kk : ∀ q : Nat, zn p l e R s m args below meth c A Q D nL (ws ++ [(q, .inl (cy t, N', .inr (.inr (.inr (.inr (fun _ => none))))))]) (pc + 3) lv (.ref q :: rest) (nc + 1) (ns + N')) : zn p l e R s m args below meth c A Q D nL ws pc lv (.int n :: rest) nc ns := by
  intro H locs ls hP hD hS hl
  refine va_newq C.1 C.2.1 C.2.2.2.1 (C.2.2.2.2.1 _ hcl) (C.2.2.2.2.2.1.2.2.1 _ ho) C.2.2.2.2.2.1.1 hP hD hS C.2.2.2.2.2.2.1 hn hN hb4 hcells hslots hdg (fun q cA H1 hK1 hP1 hD1 hS1 => ?_)
  obtain ⟨_, _, _, _, _, e1⟩ := (hK1.2 7 (cA, .object Cn) rfl).2
  obtain ⟨_, _, _, _, _, e2⟩ := (C.2.2.2.2.2.1.1.2 t (cy t, .object Cn) ht).2
  have e3 : cA = cy t := Option.some.inj (e1.symm.trans e2)
  rw [e3] at hP1 hD1
  exact kk q H1 locs ls hP1 hD1 hS1 hl
def zn_FT (k N : Nat) (T : u_T) (ty : FieldType) (b : Bool) : Prop := (T k).2.2.2 = b ∧ parseFieldDescriptor (T k).2.2.1 = some ty ∧ (∃ ty0 : Nat → FieldType, ∀ k, k < N → parseFieldDescriptor (T k).2.2.1 = some (ty0 k)) ∧ ∀ a, a < N → ∀ b, b < N → a ≠ b → (T a).2.1 ≠ (T b).2.1
theorem zn_putF (C : zn_C p s m args c cc nL own sa D cy A) (hin : meth.name = "<init>") (q0 : Nat) {a index ci k N : Nat} {Cn ref : String} {T : u_T} {fs : List Value} {v : Value} {ty : FieldType} (he : ws[q0]? = some (a, .inr (ci, fs))) (hf : za_FL own index ci k N Cn T ref) (ht : zn_FT k N T ty true) (hdecl : (T k).1 = own) (hn : narrow ty v = v) (hfit : fits ty v = true) (hlen : k < fs.length) (hdg : decode cc pc = .ok (.putfield index, 3)) {ws' : va_W} (hw : ws.set q0 (a, .inr (ci, fs.set k v)) = ws') (kk : zn p l e R s m args below meth c A Q D nL ws' (pc + 3) lv rest nc ns) : zn p l e R s m args below meth c A Q D nL ws pc lv (v :: .ref a :: rest) nc ns := by
  intro H locs ls hP hD hS hl
  obtain ⟨f1, f2, f3, f4, f5⟩ := hf
  obtain ⟨t1, t2, ⟨ty0, t3⟩, t4⟩ := ht
  subst hw
  exact va_putF C.1 C.2.1 C.2.2.2.2.1 f2 ty0 t3 t4 C.2.2.2.1 C.2.2.2.2.2.1.1 hP hD hS q0 he f1 k f3 (C.2.2.2.2.1 _ f4) (fun y hy => by rw [← f5]; exact hy) t1 hin hdecl t2 hn hfit hlen hdg (fun H1 locs1 hP1 hD1 hS1 => kk H1 locs1 ls hP1 hD1 hS1 hl)
theorem zn_put (C : zn_C p s m args c cc nL own sa D cy A) (q0 : Nat) {a index ci k N : Nat} {Cn ref : String} {T : u_T} {fs : List Value} {v : Value} {ty : FieldType} (he : ws[q0]? = some (a, .inr (ci, fs))) (hf : za_FL own index ci k N Cn T ref) (ht : zn_FT k N T ty false) (hn : narrow ty v = v) (hfit : fits ty v = true) (hlen : k < fs.length) (hdg : decode cc pc = .ok (.putfield index, 3)) {ws' : va_W} (hw : ws.set q0 (a, .inr (ci, fs.set k v)) = ws') (kk : zn p l e R s m args below meth c A Q D nL ws' (pc + 3) lv rest nc ns) : zn p l e R s m args below meth c A Q D nL ws pc lv (v :: .ref a :: rest) nc ns := by
  intro H locs ls hP hD hS hl
  obtain ⟨f1, f2, f3, f4, f5⟩ := hf
  obtain ⟨t1, t2, ⟨ty0, t3⟩, t4⟩ := ht
  subst hw
  exact va_put C.1 C.2.1 C.2.2.2.2.1 f2 ty0 t3 t4 C.2.2.2.1 C.2.2.2.2.2.1.1 hP hD hS q0 he f1 k f3 (C.2.2.2.2.1 _ f4) (fun y hy => by rw [← f5]; exact hy) t1 t2 hn hfit hlen hdg (fun H1 locs1 hP1 hD1 hS1 => kk H1 locs1 ls hP1 hD1 hS1 hl)
theorem zn_get (C : zn_C p s m args c cc nL own sa D cy A) (q0 : Nat) {a index ci k N : Nat} {Cn ref : String} {T : u_T} {fs : List Value} {v : Value} (he : ws[q0]? = some (a, .inr (ci, fs))) (hf : za_FL own index ci k N Cn T ref) (hv : fs[k]? = some v) (hdg : decode cc pc = .ok (.getfield index, 3)) (kk : zn p l e R s m args below meth c A Q D nL ws (pc + 3) lv (v :: rest) nc ns) : zn p l e R s m args below meth c A Q D nL ws pc lv (.ref a :: rest) nc ns := by
  intro H locs ls hP hD hS hl
  obtain ⟨f1, f2, f3, f4, f5⟩ := hf
  exact va_get C.1 C.2.1 C.2.2.2.2.1 f2 C.2.2.2.1 C.2.2.2.2.2.1.1 hP q0 he f1 k f3 (C.2.2.2.2.1 _ f4) (fun y hy => by rw [← f5]; exact hy) hv hdg (kk H locs ls hP hD hS hl)
theorem zn_aast (C : zn_C p s m args c cc nL own sa D cy A) (q0 t qk ci : Nat) {a v n : Nat} {r : vw_C} {vs : List Value} {f : Nat → Option Nat} {i : Nat} (ha : ws[q0]? = some (a, .inl (cy t, n, .inr (.inr (.inr (.inr f)))))) (ht : (za_tys cy)[t]? = some (cy t, .object r.1)) (hv : ws[qk]? = some (v, .inr (ci, vs))) (hc : vwCl[ci]? = some r) (hi : i < n) (hn : n < 2 ^ 31) (hdg : decode cc pc = .ok (.aastore, 1)) {ws' : va_W} (hw : ws.set q0 (a, .inl (cy t, n, .inr (.inr (.inr (.inr (va_up f i (some v))))))) = ws') (kk : zn p l e R s m args below meth c A Q D nL ws' (pc + 1) lv rest nc ns) : zn p l e R s m args below meth c A Q D nL ws pc lv (.ref v :: .int (nI i) :: .ref a :: rest) nc ns := by
  intro H locs ls hP hD hS hl
  subst hw
  refine va_astq C.1 C.2.1 C.2.2.2.2.2.1.1 hP hD hS q0 t qk ci ha ht hv hc (vp_in_nI hi hn) hdg (fun H1 locs1 hP1 hD1 hS1 => ?_)
  rw [nI_clamp (by omega)] at hP1 hD1
  exact kk H1 locs1 ls hP1 hD1 hS1 hl
theorem zn_aastS (C : zn_C p s m args c cc nL own sa D cy A) (q0 u : Nat) {a n : Nat} {f : Nat → Option Nat} {i : Nat} (hu : u < 2) (ha : ws[q0]? = some (a, .inl (cy 6, n, .inr (.inr (.inr (.inr f)))))) (hi : i < n) (hn : n < 2 ^ 31) (hdg : decode cc pc = .ok (.aastore, 1)) {ws' : va_W} (hw : ws.set q0 (a, .inl (cy 6, n, .inr (.inr (.inr (.inr (va_up f i (some (sa u)))))))) = ws') (kk : zn p l e R s m args below meth c A Q D nL ws' (pc + 1) lv rest nc ns) : zn p l e R s m args below meth c A Q D nL ws pc lv (.ref (sa u) :: .int (nI i) :: .ref a :: rest) nc ns := by
  intro H locs ls hP hD hS hl
  subst hw
  obtain ⟨cell, g1, g2, g3, g4⟩ := C.2.2.2.2.2.2.2 u hu
  have hH : H[sa u]? = some cell := by rw [hS.2.1 _ (Array.getElem?_eq_some_iff.mp g1).1 g4]; exact g1
  obtain ⟨kC, hkC, -⟩ := Vm.findClass_spec g3
  refine va_astqM (E := "java/lang/String") C.1 C.2.1 C.2.2.2.2.2.1.1 hP hD hS q0 6 ha rfl ⟨cell, hH, g2, ⟨kC, hkC⟩, fun comp hcomp => by rw [Option.some.inj (g3.symm.trans hcomp)]; exact va_asg _ _⟩ (vp_in_nI hi hn) hdg (fun H1 locs1 hP1 hD1 hS1 => ?_)
  rw [nI_clamp (by omega)] at hP1 hD1
  exact kk H1 locs1 ls hP1 hD1 hS1 hl
theorem zn_iast (C : zn_C p s m args c cc nL own sa D cy A) (q0 : Nat) {a n : Nat} {f : Nat → Int32} {i : Nat} {x : Int32} (ha : ws[q0]? = some (a, .inl (cy 0, n, .inl f))) (hi : i < n) (hn : n < 2 ^ 31) (hdg : decode cc pc = .ok (.iastore, 1)) {ws' : va_W} (hw : ws.set q0 (a, .inl (cy 0, n, .inl (upd f i x))) = ws') (kk : zn p l e R s m args below meth c A Q D nL ws' (pc + 1) lv rest nc ns) : zn p l e R s m args below meth c A Q D nL ws pc lv (.int x :: .int (nI i) :: .ref a :: rest) nc ns := by
  intro H locs ls hP hD hS hl
  subst hw
  refine va_iast C.1 C.2.1 C.2.2.2.2.2.1.1 hP hD hS q0 0 ha rfl (vp_in_nI hi hn) hdg (fun H1 locs1 hP1 hD1 hS1 => ?_)
  rw [nI_clamp (by omega)] at hP1 hD1
  exact kk H1 locs1 ls hP1 hD1 hS1 hl
theorem zn_ldcS (C : zn_C p s m args c cc nL "AshLoansModel" sa D cy A) {index u : Nat} {tx : String} (hR : vk_R "AshLoansModel" index tx (sa u) s) (hdg : decode cc pc = .ok (.ldc index, 2)) (kk : zn p l e R s m args below meth c A Q D nL ws (pc + 2) lv (.ref (sa u) :: rest) nc ns) : zn p l e R s m args below meth c A Q D nL ws pc lv rest nc ns := fun H locs ls hP hD hS hl => va_ldcS C.1 C.2.1 C.2.2.2.1 hR hdg (kk H locs ls hP hD hS hl)
theorem zn_vret (C : zn_C p s m args c cc nL own sa D cy A) {Out : (za_L → Nat) → va_W} (a : za_L → Nat) (hr : meth.sig.returnType = none) (hk : meth.locks = false) (hdg : decode cc pc = .ok (.return_, 1)) (hO : ∀ H, va_P D vwCl ws H → va_D A ws → va_P D vwCl (Out a) H ∧ va_D A (Out a)) : zn p l e R s m args below meth c A (MQ below (va_Qv (fun _ : za_L → Nat => True) (fun a t => va_P D vwCl (Out a) t.heap ∧ va_D A (Out a)) A) args s nc ns A) D nL ws pc lv [] nc ns := fun H locs ls hP hD hS hl => W.vret C.1 C.2.1 hr (fun t ht hW => ⟨⟨a, rfl, trivial, hO t.heap (by rw [ht]; exact hP) hD⟩, hS.F ht⟩) hS.2.2 hdg hk
theorem zn_cut (C : zn_C p s m args c cc nL own sa D cy A) {wr : va_W} {h0 : Nat} {e0 : va_E} {H : Heap} {locs : List Loc} (hD : va_D A (wr ++ [(h0, e0)])) (hP : va_P D vwCl (wr ++ [(h0, e0)]) H) (hS : va_S A s.heap H locs) : (∀ q, va_A [(h0, e0)] H.size q → A q) ∧ va_P D vwCl [(h0, e0)] H ∧ ∀ U : State, U.heap = H → s.WarmedH U.vm → zn_O sa (va_A [(h0, e0)] H.size) U U.heap := by
  have hk : (wr ++ [(h0, e0)])[wr.length]? = some (h0, e0) := by simp
  refine ⟨fun q hq => ?_, fun k q hkq => ?_, fun U hU hW i hi => ?_⟩
  · rcases hq with ⟨k, e, h⟩ | h
    · have hm := List.mem_of_getElem? h
      rw [List.mem_singleton] at hm
      have : q = h0 := congrArg Prod.fst hm
      rw [this]
      exact hD.2 _ _ hk
    · exact C.2.2.2.2.2.2.1 q (Nat.le_trans hS.1 h)
  · have hm := List.mem_of_getElem? hkq
    rw [List.mem_singleton] at hm
    rw [hm]
    exact hP _ _ hk
  · obtain ⟨cell, g1, g2, g3, g4⟩ := C.2.2.2.2.2.2.2 i hi
    have hl := (Array.getElem?_eq_some_iff.mp g1).1
    refine ⟨cell, by rw [hU, hS.2.1 _ hl g4]; exact g1, g2, by rw [hW.alike.findClass]; exact g3, fun z => ?_⟩
    rcases z with ⟨k, e, h⟩ | h
    · have hm := List.mem_of_getElem? h
      rw [List.mem_singleton] at hm
      have : sa i = h0 := congrArg Prod.fst hm
      rw [this] at g4
      exact g4 (hD.2 _ _ hk)
    · exact absurd (Nat.lt_of_lt_of_le hl hS.1) (Nat.not_lt.mpr h)
theorem zn_blind (sz h0 : Nat) (e0 : va_E) (As : List Value) : FrameBlind (va_Pc (.ref h0 :: As) (fun U => U.heap.size = sz ∧ va_P D vwCl [(h0, e0)] U.heap ∧ zn_K sa D cy U ∧ zn_O sa (va_A [(h0, e0)] sz) U U.heap)) := fun a U g mk h => ⟨h.1, h.2.1, h.2.2.1, zn_K.same h.2.2.2.1 rfl, fun i hi => va_O.moved (Vm.Alike.refl U.vm) (h.2.2.2.2 i hi)⟩
theorem zn_call (C : zn_C p s m args c cc nL own sa D cy A) {y : MethodName} {b : ByteArray} {n fr lo mc ms index : Nat} {e0 : va_E} {Out : Nat → (za_L → Nat) → va_W} {wr : va_W} {h0 : Nat} (As : List Value) (hM : zn_M l sa D cy y b n fr lo mc ms e0 As Out) (hi : y.name = "<init>") (hY : za_Y y b n none As.length) (hl1 : Cond.methodLink own index y ∈ lw_gd) (hl2 : Cond.instanceMethod y ∈ lw_gd) (hcat : (rest.map fun v => v.category).sum ≤ 8) (hR : fr + 1 ≤ R.frames ∧ 8 + (n + 11) + lo ≤ R.locals) (hf : nc + mc ≤ R.cells ∧ ns + ms ≤ R.slots) (hdg : decode cc pc = .ok (.invokespecial index, 3)) (hws : ws = wr ++ [(h0, e0)]) {st : List Value} (hst : st = As.reverse ++ .ref h0 :: rest) (kk : ∀ a : za_L → Nat, zn p l e R s m args below meth c A Q D nL (wr ++ Out h0 a) (pc + 3) lv rest (nc + mc) (ns + ms)) : zn p l e R s m args below meth c A Q D nL ws pc lv st nc ns := by
  intro H locs ls hP hD hS hl
  obtain ⟨y1, y2, y3⟩ := hY
  subst hws
  subst hst
  obtain ⟨hF, hPc, hO⟩ := zn_cut C hD hP hS
  refine va_callv (va_runI (As := As) (rest := rest) ⟨C.1, C.2.1, C.2.2.1, C.2.2.2.1, C.2.2.2.2.1⟩ (hM h0 H.size) (cwI As.length C.2.2.2.2.1 (za_gin y1) rfl rfl rfl (C.2.2.2.2.1 _ y2) (C.2.2.2.2.1 _ hl1) (C.2.2.2.2.1 _ hl2) hi y3 hR) ⟨zn_blind H.size h0 e0 As, fun U hU hW => ⟨rfl, by rw [hU], by rw [hU]; exact hPc, zn_K.go C.2.2.2.2.2.1 hW, hO U hU hW⟩⟩ rfl rfl hl.1 rfl (lv_room hcat) hdg hf) hS (fun q _ h => hF q h) hF (fun a t H1 locs1 ht hvm hw hB hz1 hk1 hS1 => ?_)
  obtain ⟨hP1, hD1⟩ := hB
  rw [ht] at hP1
  obtain ⟨hP2, hD2⟩ := va_join (wr := wr) (w1 := Out h0 a) hP hD [wr.length] (List.range wr.length) (by simp) (zn_hR wr _) (zn_nd _ List.nodup_range) (fun i hi => by simp at hi ⊢; omega) hk1 hF hP1 hD1
  exact kk a H1 locs1 ls hP2 hD2 hS1 hl
theorem zn_callN (C : zn_C p s m args c cc nL own sa D cy A) {y : MethodName} {b : ByteArray} {n fr lo mc ms index : Nat} {e0 : va_E} {Out : Nat → (za_L → Nat) → va_W} {wr : va_W} {h0 : Nat} (As : List Value) (hM : zn_M l sa D cy y b n fr lo mc ms e0 As Out) (hi : y.name = "<init>") (hY : za_Y y b n none As.length) (hl1 : Cond.methodLinkNest own index y "AshLoans" ∈ za_nests) (hl2 : Cond.instanceMethod y ∈ lw_gd) (hcat : (rest.map fun v => v.category).sum ≤ 8) (hR : fr + 1 ≤ R.frames ∧ 8 + (n + 11) + lo ≤ R.locals) (hf : nc + mc ≤ R.cells ∧ ns + ms ≤ R.slots) (hdg : decode cc pc = .ok (.invokespecial index, 3)) (hws : ws = wr ++ [(h0, e0)]) {st : List Value} (hst : st = As.reverse ++ .ref h0 :: rest) (kk : ∀ a : za_L → Nat, zn p l e R s m args below meth c A Q D nL (wr ++ Out h0 a) (pc + 3) lv rest (nc + mc) (ns + ms)) : zn p l e R s m args below meth c A Q D nL ws pc lv st nc ns := by
  intro H locs ls hP hD hS hl
  obtain ⟨y1, y2, y3⟩ := hY
  subst hws
  subst hst
  obtain ⟨hF, hPc, hO⟩ := zn_cut C hD hP hS
  refine va_callv (va_runIN (As := As) (rest := rest) ⟨C.1, C.2.1, C.2.2.1, C.2.2.2.1, C.2.2.2.2.1⟩ (hM h0 H.size) ⟨va_cnB As.length C.2.2.2.2.1 (za_gin y1) rfl rfl rfl (C.2.2.2.2.2.1.2.1 _ hl1) (C.2.2.2.2.1 _ y2) y3 hR, hi, C.2.2.2.2.1 _ hl2⟩ ⟨zn_blind H.size h0 e0 As, fun U hU hW => ⟨rfl, by rw [hU], by rw [hU]; exact hPc, zn_K.go C.2.2.2.2.2.1 hW, hO U hU hW⟩⟩ rfl rfl hl.1 rfl (lv_room hcat) hdg hf) hS (fun q _ h => hF q h) hF (fun a t H1 locs1 ht hvm hw hB hz1 hk1 hS1 => ?_)
  obtain ⟨hP1, hD1⟩ := hB
  rw [ht] at hP1
  obtain ⟨hP2, hD2⟩ := va_join (wr := wr) (w1 := Out h0 a) hP hD [wr.length] (List.range wr.length) (by simp) (zn_hR wr _) (zn_nd _ List.nodup_range) (fun i hi => by simp at hi ⊢; omega) hk1 hF hP1 hD1
  exact kk a H1 locs1 ls hP2 hD2 hS1 hl
end ZNR

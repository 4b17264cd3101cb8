/-! calls: a callee's contract, and on behind it -/
def za_Y (y : MethodName) (b : ByteArray) (n : Nat) (ret : Option FieldType) (na : Nat) : Prop := Cond.code y b n ret ∈ lw_gd ∧ Cond.initialized y.cls ∈ lw_gd ∧ (y.cls ≠ "java/lang/invoke/MethodHandle" ∧ y.cls ≠ "java/lang/invoke/VarHandle" ∧ (parseMethodDescriptor y.desc).map (fun d => d.parameters.length) = some na)
def za_YV (own : String) (index : Nat) (y : MethodName) : Prop := Cond.methodLink own index y ∈ lw_gd ∧ Cond.instanceMethod y ∈ lw_gd ∧ Cond.selects y.cls y y ∈ lw_gd
def za_YS (own : String) (index : Nat) (y : MethodName) : Prop := Cond.methodLink own index y ∈ lw_gd ∧ Cond.static y ∈ lw_gd
def za_YN (own : String) (index : Nat) (y : MethodName) : Prop := Cond.methodLinkNest own index y "AshLoans" ∈ za_nests ∧ Cond.static y ∈ lw_gd
section ZC
variable {p : Program} {l : Launch} {e : Env} {R : Room} {s : State} {m : MethodId} {args : Array Value} {below : List Frame} {meth : Method} {c : Code} {nc ns : Nat} {Q : State → Prop} {g : za_L → Nat} {D : va_G} {cy : Nat → ClassId} {nL : Nat} {cc : ByteArray} {own : String} {M : za_M} {pc : Nat} {lv : List (Nat × Value)} {rest : List Value}
theorem zt_cVi (C : za_C p s m args c cc nL own g D cy) {y : MethodName} {b : ByteArray} {n fr lo index : Nat} {ret : Option FieldType} {K : Int32 → za_M → Prop} {x : za_L} {ci N : Nat} {T : u_T} {fs : List Value} (As : List Value) (hM : za_Mi l g D cy y b n ret fr lo (.ref (g x) :: As) M K) (hx : x ∈ za_cells) (he : za_E g cy M x = .inr (ci, fs)) (hc : vwCl[ci]? = some (y.cls, T, N)) (hY : za_Y y b n ret As.length) (hV : za_YV own index y) (hcat : (rest.map fun v => v.category).sum ≤ 8) (hR : fr + 1 ≤ R.frames ∧ 8 + (n + 11) + lo ≤ R.locals) (hf : nc + 0 ≤ R.cells ∧ ns + 0 ≤ R.slots) (hdg : decode cc pc = .ok (.invokevirtual index, 3)) {st : List Value} (hst : st = As.reverse ++ .ref (g x) :: rest) (kk : ∀ (r : Int32) (M' : za_M), K r M' → zt p l e R s m args below meth c nc ns Q g D cy nL M' (pc + 3) lv (.int r :: rest)) : zt p l e R s m args below meth c nc ns Q g D cy nL M pc lv st := by
  intro H locs ls hP hS hl
  obtain ⟨q0, hq⟩ := List.getElem?_of_mem hx
  obtain ⟨y1, y2, y3⟩ := hY
  obtain ⟨v1, v2, v3⟩ := hV
  subst hst
  have hG : GoodIn lw_gd (wsV own index y.cls y (.code y b n ret :: lw_gd)) := za_gapp (fun w hw => by
    rcases List.mem_cons.mp hw with h | hw
    · rw [h]; exact v1
    rcases List.mem_cons.mp hw with h | hw
    · rw [h]; exact v2
    rcases List.mem_cons.mp hw with h | hw
    · rw [h]; exact v3
    rw [List.mem_singleton.mp hw]; exact y2) (za_gin y1)
  refine va_calli (va_runV (As := As) (rest := rest) ⟨C.1, C.2.1, C.2.2.1, C.2.2.2.1, C.2.2.2.2.1⟩ hM (cwV As.length C.2.2.2.2.1 hG rfl rfl rfl ⟨rfl, y3⟩ hR) ⟨za_Pr_blind g D cy _ M, va_recv C.2.2.2.2.2.1.1 hP hc ((za_at g cy M hq).trans (by rw [he])), fun U hU hW => ⟨rfl, by rw [hU]; exact hP, za_F.go C.2.2.2.2.2.1 hU hW hS⟩⟩ rfl rfl hl.1 rfl (lv_room hcat) hdg hf) hS (fun q _ h => h) (fun q h => h) (fun r u t H1 locs1 ht hvm hw hB hz1 hk1 hS1 => kk r u hw H1 locs1 ls (by rw [← ht]; exact hB) hS1 hl)
theorem zt_cSi (C : za_C p s m args c cc nL own g D cy) {y : MethodName} {b : ByteArray} {n fr lo index : Nat} {ret : Option FieldType} {K : Int32 → za_M → Prop} (As : List Value) (hM : za_Mi l g D cy y b n ret fr lo As M K) (hY : za_Y y b n ret As.length) (hV : za_YS own index y) (hcat : (rest.map fun v => v.category).sum ≤ 8) (hR : fr + 1 ≤ R.frames ∧ 8 + (n + 11) + lo ≤ R.locals) (hf : nc + 0 ≤ R.cells ∧ ns + 0 ≤ R.slots) (hdg : decode cc pc = .ok (.invokestatic index, 3)) {st : List Value} (hst : st = As.reverse ++ rest) (kk : ∀ (r : Int32) (M' : za_M), K r M' → zt p l e R s m args below meth c nc ns Q g D cy nL M' (pc + 3) lv (.int r :: rest)) : zt p l e R s m args below meth c nc ns Q g D cy nL M pc lv st := by
  intro H locs ls hP hS hl
  obtain ⟨y1, y2, y3⟩ := hY
  obtain ⟨v1, v2⟩ := hV
  subst hst
  have hG : GoodIn lw_gd (va_wsS own index y (.code y b n ret :: lw_gd)) := za_gapp (fun w hw => by
    rcases List.mem_cons.mp hw with h | hw
    · rw [h]; exact v1
    rcases List.mem_cons.mp hw with h | hw
    · rw [h]; exact v2
    rw [List.mem_singleton.mp hw]; exact y2) (za_gin y1)
  refine va_calli (va_runS (As := As) (rest := rest) ⟨C.1, C.2.1, C.2.2.1, C.2.2.2.1, C.2.2.2.2.1⟩ hM (va_cwS As.length C.2.2.2.2.1 hG rfl rfl rfl y3 hR) ⟨za_Pr_blind g D cy _ M, fun U hU hW => ⟨rfl, by rw [hU]; exact hP, za_F.go C.2.2.2.2.2.1 hU hW hS⟩⟩ rfl rfl hl.1 rfl (lv_room hcat) hdg hf) hS (fun q _ h => h) (fun q h => h) (fun r u t H1 locs1 ht hvm hw hB hz1 hk1 hS1 => kk r u hw H1 locs1 ls (by rw [← ht]; exact hB) hS1 hl)
theorem zt_cNi (C : za_C p s m args c cc nL own g D cy) {y : MethodName} {b : ByteArray} {n fr lo index : Nat} {ret : Option FieldType} {K : Int32 → za_M → Prop} (As : List Value) (hM : za_Mi l g D cy y b n ret fr lo As M K) (hY : za_Y y b n ret As.length) (hV : za_YN own index y) (hcat : (rest.map fun v => v.category).sum ≤ 8) (hR : fr + 1 ≤ R.frames ∧ 8 + (n + 11) + lo ≤ R.locals) (hf : nc + 0 ≤ R.cells ∧ ns + 0 ≤ R.slots) (hdg : decode cc pc = .ok (.invokestatic index, 3)) {st : List Value} (hst : st = As.reverse ++ rest) (kk : ∀ (r : Int32) (M' : za_M), K r M' → zt p l e R s m args below meth c nc ns Q g D cy nL M' (pc + 3) lv (.int r :: rest)) : zt p l e R s m args below meth c nc ns Q g D cy nL M pc lv st := by
  intro H locs ls hP hS hl
  obtain ⟨y1, y2, y3⟩ := hY
  obtain ⟨v1, v2⟩ := hV
  subst hst
  refine va_calli (va_runSN (As := As) (rest := rest) ⟨C.1, C.2.1, C.2.2.1, C.2.2.2.1, C.2.2.2.2.1⟩ hM ⟨va_cnB As.length C.2.2.2.2.1 (za_gin y1) rfl rfl rfl (C.2.2.2.2.2.1.2.1 _ v1) (C.2.2.2.2.1 _ y2) y3 hR, C.2.2.2.2.1 _ v2, trivial⟩ ⟨za_Pr_blind g D cy _ M, fun U hU hW => ⟨rfl, by rw [hU]; exact hP, za_F.go C.2.2.2.2.2.1 hU hW hS⟩⟩ rfl rfl hl.1 rfl (lv_room hcat) hdg hf) hS (fun q _ h => h) (fun q h => h) (fun r u t H1 locs1 ht hvm hw hB hz1 hk1 hS1 => kk r u hw H1 locs1 ls (by rw [← ht]; exact hB) hS1 hl)
theorem zt_cVv (C : za_C p s m args c cc nL own g D cy) {y : MethodName} {b : ByteArray} {n fr lo index : Nat} {ret : Option FieldType} {K : za_M → Prop} {x : za_L} {ci N : Nat} {T : u_T} {fs : List Value} (As : List Value) (hM : za_Mv l g D cy y b n ret fr lo (.ref (g x) :: As) M K) (hx : x ∈ za_cells) (he : za_E g cy M x = .inr (ci, fs)) (hc : vwCl[ci]? = some (y.cls, T, N)) (hY : za_Y y b n ret As.length) (hV : za_YV own index y) (hcat : (rest.map fun v => v.category).sum ≤ 8) (hR : fr + 1 ≤ R.frames ∧ 8 + (n + 11) + lo ≤ R.locals) (hf : nc + 0 ≤ R.cells ∧ ns + 0 ≤ R.slots) (hdg : decode cc pc = .ok (.invokevirtual index, 3)) {st : List Value} (hst : st = As.reverse ++ .ref (g x) :: rest) (kk : ∀ (M' : za_M), K M' → zt p l e R s m args below meth c nc ns Q g D cy nL M' (pc + 3) lv (rest)) : zt p l e R s m args below meth c nc ns Q g D cy nL M pc lv st := by
  intro H locs ls hP hS hl
  obtain ⟨q0, hq⟩ := List.getElem?_of_mem hx
  obtain ⟨y1, y2, y3⟩ := hY
  obtain ⟨v1, v2, v3⟩ := hV
  subst hst
  have hG : GoodIn lw_gd (wsV own index y.cls y (.code y b n ret :: lw_gd)) := za_gapp (fun w hw => by
    rcases List.mem_cons.mp hw with h | hw
    · rw [h]; exact v1
    rcases List.mem_cons.mp hw with h | hw
    · rw [h]; exact v2
    rcases List.mem_cons.mp hw with h | hw
    · rw [h]; exact v3
    rw [List.mem_singleton.mp hw]; exact y2) (za_gin y1)
  refine va_callv (va_runV (As := As) (rest := rest) ⟨C.1, C.2.1, C.2.2.1, C.2.2.2.1, C.2.2.2.2.1⟩ hM (cwV As.length C.2.2.2.2.1 hG rfl rfl rfl ⟨rfl, y3⟩ hR) ⟨za_Pr_blind g D cy _ M, va_recv C.2.2.2.2.2.1.1 hP hc ((za_at g cy M hq).trans (by rw [he])), fun U hU hW => ⟨rfl, by rw [hU]; exact hP, za_F.go C.2.2.2.2.2.1 hU hW hS⟩⟩ rfl rfl hl.1 rfl (lv_room hcat) hdg hf) hS (fun q _ h => h) (fun q h => h) (fun u t H1 locs1 ht hvm hw hB hz1 hk1 hS1 => kk u hw H1 locs1 ls (by rw [← ht]; exact hB) hS1 hl)
theorem zt_cSv (C : za_C p s m args c cc nL own g D cy) {y : MethodName} {b : ByteArray} {n fr lo index : Nat} {ret : Option FieldType} {K : za_M → Prop} (As : List Value) (hM : za_Mv l g D cy y b n ret fr lo As M K) (hY : za_Y y b n ret As.length) (hV : za_YS own index y) (hcat : (rest.map fun v => v.category).sum ≤ 8) (hR : fr + 1 ≤ R.frames ∧ 8 + (n + 11) + lo ≤ R.locals) (hf : nc + 0 ≤ R.cells ∧ ns + 0 ≤ R.slots) (hdg : decode cc pc = .ok (.invokestatic index, 3)) {st : List Value} (hst : st = As.reverse ++ rest) (kk : ∀ (M' : za_M), K M' → zt p l e R s m args below meth c nc ns Q g D cy nL M' (pc + 3) lv (rest)) : zt p l e R s m args below meth c nc ns Q g D cy nL M pc lv st := by
  intro H locs ls hP hS hl
  obtain ⟨y1, y2, y3⟩ := hY
  obtain ⟨v1, v2⟩ := hV
  subst hst
  have hG : GoodIn lw_gd (va_wsS own index y (.code y b n ret :: lw_gd)) := za_gapp (fun w hw => by
    rcases List.mem_cons.mp hw with h | hw
    · rw [h]; exact v1
    rcases List.mem_cons.mp hw with h | hw
    · rw [h]; exact v2
    rw [List.mem_singleton.mp hw]; exact y2) (za_gin y1)
  refine va_callv (va_runS (As := As) (rest := rest) ⟨C.1, C.2.1, C.2.2.1, C.2.2.2.1, C.2.2.2.2.1⟩ hM (va_cwS As.length C.2.2.2.2.1 hG rfl rfl rfl y3 hR) ⟨za_Pr_blind g D cy _ M, fun U hU hW => ⟨rfl, by rw [hU]; exact hP, za_F.go C.2.2.2.2.2.1 hU hW hS⟩⟩ rfl rfl hl.1 rfl (lv_room hcat) hdg hf) hS (fun q _ h => h) (fun q h => h) (fun u t H1 locs1 ht hvm hw hB hz1 hk1 hS1 => kk u hw H1 locs1 ls (by rw [← ht]; exact hB) hS1 hl)
theorem zt_cNv (C : za_C p s m args c cc nL own g D cy) {y : MethodName} {b : ByteArray} {n fr lo index : Nat} {ret : Option FieldType} {K : za_M → Prop} (As : List Value) (hM : za_Mv l g D cy y b n ret fr lo As M K) (hY : za_Y y b n ret As.length) (hV : za_YN own index y) (hcat : (rest.map fun v => v.category).sum ≤ 8) (hR : fr + 1 ≤ R.frames ∧ 8 + (n + 11) + lo ≤ R.locals) (hf : nc + 0 ≤ R.cells ∧ ns + 0 ≤ R.slots) (hdg : decode cc pc = .ok (.invokestatic index, 3)) {st : List Value} (hst : st = As.reverse ++ rest) (kk : ∀ (M' : za_M), K M' → zt p l e R s m args below meth c nc ns Q g D cy nL M' (pc + 3) lv (rest)) : zt p l e R s m args below meth c nc ns Q g D cy nL M pc lv st := by
  intro H locs ls hP hS hl
  obtain ⟨y1, y2, y3⟩ := hY
  obtain ⟨v1, v2⟩ := hV
  subst hst
  refine va_callv (va_runSN (As := As) (rest := rest) ⟨C.1, C.2.1, C.2.2.1, C.2.2.2.1, C.2.2.2.2.1⟩ hM ⟨va_cnB As.length C.2.2.2.2.1 (za_gin y1) rfl rfl rfl (C.2.2.2.2.2.1.2.1 _ v1) (C.2.2.2.2.1 _ y2) y3 hR, C.2.2.2.2.1 _ v2, trivial⟩ ⟨za_Pr_blind g D cy _ M, fun U hU hW => ⟨rfl, by rw [hU]; exact hP, za_F.go C.2.2.2.2.2.1 hU hW hS⟩⟩ rfl rfl hl.1 rfl (lv_room hcat) hdg hf) hS (fun q _ h => h) (fun q h => h) (fun u t H1 locs1 ht hvm hw hB hz1 hk1 hS1 => kk u hw H1 locs1 ls (by rw [← ht]; exact hB) hS1 hl)
end ZC
def za_min (x y : Int32) : Int32 := if y < x then y else x
def za_max (x y : Int32) : Int32 := if x < y then y else x
section ZX
variable {p : Program} {l : Launch} {e : Env} {R : Room} {s : State} {m : MethodId} {args : Array Value} {below : List Frame} {meth : Method} {c : Code} {nc ns : Nat} {Q : State → Prop} {g : za_L → Nat} {D : va_G} {cy : Nat → ClassId} {nL : Nat} {cc : ByteArray} {own : String} {M : za_M} {pc : Nat} {lv : List (Nat × Value)} {rest : List Value}
theorem zt_ldcw (C : za_C p s m args c cc nL own g D cy) {v : Int32} {index : Nat} (hc : Cond.constant own index v ∈ lw_gd) (hdg : decode cc pc = .ok (.ldc_w index, 3)) (k : zt p l e R s m args below meth c nc ns Q g D cy nL M (pc + 3) lv (.int v :: rest)) : zt p l e R s m args below meth c nc ns Q g D cy nL M pc lv rest := fun H locs ls hP hS hl => lv_ldcw C.1 C.2.1 C.2.2.2.1 (C.2.2.2.2.1 _ hc) hdg (k H locs ls hP hS hl)
theorem zt_topi {x : Int32} (k : ∀ y : Int32, y = x → zt p l e R s m args below meth c nc ns Q g D cy nL M pc lv (.int y :: rest)) : zt p l e R s m args below meth c nc ns Q g D cy nL M pc lv (.int x :: rest) := k x rfl
theorem zt_topl {x : Int64} (k : ∀ y : Int64, y = x → zt p l e R s m args below meth c nc ns Q g D cy nL M pc lv (.long y :: rest)) : zt p l e R s m args below meth c nc ns Q g D cy nL M pc lv (.long x :: rest) := k x rfl
theorem zt_topM {st : List Value} (k : ∀ y : za_M, y = M → zt p l e R s m args below meth c nc ns Q g D cy nL y pc lv st) : zt p l e R s m args below meth c nc ns Q g D cy nL M pc lv st := k M rfl
theorem zt_mmin (C : za_C p s m args c cc nL own g D cy) {x y : Int32} {index : Nat} (hlink : Cond.methodLink own index Lib.Math.min.name ∈ lw_gd) (hstat : Cond.static Lib.Math.min.name ∈ lw_gd) (hini : Cond.initialized "java/lang/Math" ∈ lw_gd) (hcode : Cond.code Lib.Math.min.name Lib.Math.min.code 2 (some .int) ∈ lw_gd) (hframes : 1 ≤ R.frames) (hlocals : (rest.map fun v => v.category).sum + 13 ≤ R.locals) (hc : nc ≤ R.cells) (hs : ns ≤ R.slots) (hdg : decode cc pc = .ok (.invokestatic index, 3)) (k : zt p l e R s m args below meth c nc ns Q g D cy nL M (pc + 3) lv (.int (za_min x y) :: rest)) : zt p l e R s m args below meth c nc ns Q g D cy nL M pc lv (.int y :: .int x :: rest) := fun H locs ls hP hS hl => va_mmin C.1 C.2.1 (C.2.2.1.trans hl.1.symm) C.2.2.2.1 (C.2.2.2.2.1 _ hlink) (C.2.2.2.2.1 _ hstat) (C.2.2.2.2.1 _ hini) (C.2.2.2.2.1 _ hcode) hframes hlocals hc hs hdg (k H locs ls hP hS hl)
theorem zt_mmax (C : za_C p s m args c cc nL own g D cy) {x y : Int32} {index : Nat} (hlink : Cond.methodLink own index Lib.Math.max.name ∈ lw_gd) (hstat : Cond.static Lib.Math.max.name ∈ lw_gd) (hini : Cond.initialized "java/lang/Math" ∈ lw_gd) (hcode : Cond.code Lib.Math.max.name Lib.Math.max.code 2 (some .int) ∈ lw_gd) (hframes : 1 ≤ R.frames) (hlocals : (rest.map fun v => v.category).sum + 13 ≤ R.locals) (hc : nc ≤ R.cells) (hs : ns ≤ R.slots) (hdg : decode cc pc = .ok (.invokestatic index, 3)) (k : zt p l e R s m args below meth c nc ns Q g D cy nL M (pc + 3) lv (.int (za_max x y) :: rest)) : zt p l e R s m args below meth c nc ns Q g D cy nL M pc lv (.int y :: .int x :: rest) := fun H locs ls hP hS hl => va_mmax C.1 C.2.1 (C.2.2.1.trans hl.1.symm) C.2.2.2.1 (C.2.2.2.2.1 _ hlink) (C.2.2.2.2.1 _ hstat) (C.2.2.2.2.1 _ hini) (C.2.2.2.2.1 _ hcode) hframes hlocals hc hs hdg (k H locs ls hP hS hl)
end ZX
/-- a value named; a loop by fuel -/
def za_let {α : Type} (v : α) (k : α → Prop) : Prop := k v
theorem za_use {α : Type} {v y : α} {k : α → Prop} (h : za_let v k) (e : y = v) : k y := by rw [e]; exact h
def za_lp0 (body : (za_M → Prop) → za_M → Prop) : Nat → za_M → Prop
  | 0, _ => False
  | k+1, M => body (za_lp0 body k) M
theorem za_lp0_run {body : (za_M → Prop) → za_M → Prop} {Z : za_M → Prop} (h : ∀ L : za_M → Prop, (∀ (M : za_M), L M → Z M) → ∀ (M : za_M), body L M → Z M) : ∀ (k : Nat) (M : za_M), za_lp0 body k M → Z M := by
  intro k
  induction k with
  | zero => intro _ hh; exact hh.elim
  | succ k ih => intro M hh; exact h _ ih M hh
theorem za_lp0_ind {body : (za_M → Prop) → za_M → Prop} (I : Nat → za_M → Prop) (base : ∀ (M : za_M), I 0 M → ∀ L : za_M → Prop, body L M) (step : ∀ (k : Nat) (M : za_M), I (k + 1) M → ∀ L : za_M → Prop, (∀ (M : za_M), I k M → L M) → body L M) : ∀ (k : Nat) (M : za_M), I k M → ∃ n, za_lp0 body n M := by
  have h : ∀ (k : Nat) (M : za_M), I k M → za_lp0 body (k + 1) M := by
    intro k
    induction k with
    | zero => intro M hh; exact base M hh _
    | succ k ih => intro M hh; exact step k M hh _ ih
  exact fun k M hh => ⟨k + 1, h k M hh⟩
def za_lp1 {A0 : Type} (body : (A0 → za_M → Prop) → A0 → za_M → Prop) : Nat → A0 → za_M → Prop
  | 0, _, _ => False
  | k+1, x0, M => body (za_lp1 body k) x0 M
theorem za_lp1_run {A0 : Type} {body : (A0 → za_M → Prop) → A0 → za_M → Prop} {Z : A0 → za_M → Prop} (h : ∀ L : A0 → za_M → Prop, (∀ (x0 : A0) (M : za_M), L x0 M → Z x0 M) → ∀ (x0 : A0) (M : za_M), body L x0 M → Z x0 M) : ∀ (k : Nat) (x0 : A0) (M : za_M), za_lp1 body k x0 M → Z x0 M := by
  intro k
  induction k with
  | zero => intro _ _ hh; exact hh.elim
  | succ k ih => intro x0 M hh; exact h _ ih x0 M hh
theorem za_lp1_ind {A0 : Type} {body : (A0 → za_M → Prop) → A0 → za_M → Prop} (I : Nat → A0 → za_M → Prop) (base : ∀ (x0 : A0) (M : za_M), I 0 x0 M → ∀ L : A0 → za_M → Prop, body L x0 M) (step : ∀ (k : Nat) (x0 : A0) (M : za_M), I (k + 1) x0 M → ∀ L : A0 → za_M → Prop, (∀ (x0 : A0) (M : za_M), I k x0 M → L x0 M) → body L x0 M) : ∀ (k : Nat) (x0 : A0) (M : za_M), I k x0 M → ∃ n, za_lp1 body n x0 M := by
  have h : ∀ (k : Nat) (x0 : A0) (M : za_M), I k x0 M → za_lp1 body (k + 1) x0 M := by
    intro k
    induction k with
    | zero => intro x0 M hh; exact base x0 M hh _
    | succ k ih => intro x0 M hh; exact step k x0 M hh _ ih
  exact fun k x0 M hh => ⟨k + 1, h k x0 M hh⟩
def za_lp2 {A0 : Type} {A1 : Type} (body : (A0 → A1 → za_M → Prop) → A0 → A1 → za_M → Prop) : Nat → A0 → A1 → za_M → Prop
  | 0, _, _, _ => False
  | k+1, x0, x1, M => body (za_lp2 body k) x0 x1 M
theorem za_lp2_run {A0 : Type} {A1 : Type} {body : (A0 → A1 → za_M → Prop) → A0 → A1 → za_M → Prop} {Z : A0 → A1 → za_M → Prop} (h : ∀ L : A0 → A1 → za_M → Prop, (∀ (x0 : A0) (x1 : A1) (M : za_M), L x0 x1 M → Z x0 x1 M) → ∀ (x0 : A0) (x1 : A1) (M : za_M), body L x0 x1 M → Z x0 x1 M) : ∀ (k : Nat) (x0 : A0) (x1 : A1) (M : za_M), za_lp2 body k x0 x1 M → Z x0 x1 M := by
  intro k
  induction k with
  | zero => intro _ _ _ hh; exact hh.elim
  | succ k ih => intro x0 x1 M hh; exact h _ ih x0 x1 M hh
theorem za_lp2_ind {A0 : Type} {A1 : Type} {body : (A0 → A1 → za_M → Prop) → A0 → A1 → za_M → Prop} (I : Nat → A0 → A1 → za_M → Prop) (base : ∀ (x0 : A0) (x1 : A1) (M : za_M), I 0 x0 x1 M → ∀ L : A0 → A1 → za_M → Prop, body L x0 x1 M) (step : ∀ (k : Nat) (x0 : A0) (x1 : A1) (M : za_M), I (k + 1) x0 x1 M → ∀ L : A0 → A1 → za_M → Prop, (∀ (x0 : A0) (x1 : A1) (M : za_M), I k x0 x1 M → L x0 x1 M) → body L x0 x1 M) : ∀ (k : Nat) (x0 : A0) (x1 : A1) (M : za_M), I k x0 x1 M → ∃ n, za_lp2 body n x0 x1 M := by
  have h : ∀ (k : Nat) (x0 : A0) (x1 : A1) (M : za_M), I k x0 x1 M → za_lp2 body (k + 1) x0 x1 M := by
    intro k
    induction k with
    | zero => intro x0 x1 M hh; exact base x0 x1 M hh _
    | succ k ih => intro x0 x1 M hh; exact step k x0 x1 M hh _ ih
  exact fun k x0 x1 M hh => ⟨k + 1, h k x0 x1 M hh⟩
def za_lp3 {A0 : Type} {A1 : Type} {A2 : Type} (body : (A0 → A1 → A2 → za_M → Prop) → A0 → A1 → A2 → za_M → Prop) : Nat → A0 → A1 → A2 → za_M → Prop
  | 0, _, _, _, _ => False
  | k+1, x0, x1, x2, M => body (za_lp3 body k) x0 x1 x2 M
theorem za_lp3_run {A0 : Type} {A1 : Type} {A2 : Type} {body : (A0 → A1 → A2 → za_M → Prop) → A0 → A1 → A2 → za_M → Prop} {Z : A0 → A1 → A2 → za_M → Prop} (h : ∀ L : A0 → A1 → A2 → za_M → Prop, (∀ (x0 : A0) (x1 : A1) (x2 : A2) (M : za_M), L x0 x1 x2 M → Z x0 x1 x2 M) → ∀ (x0 : A0) (x1 : A1) (x2 : A2) (M : za_M), body L x0 x1 x2 M → Z x0 x1 x2 M) : ∀ (k : Nat) (x0 : A0) (x1 : A1) (x2 : A2) (M : za_M), za_lp3 body k x0 x1 x2 M → Z x0 x1 x2 M := by
  intro k
  induction k with
  | zero => intro _ _ _ _ hh; exact hh.elim
  | succ k ih => intro x0 x1 x2 M hh; exact h _ ih x0 x1 x2 M hh
theorem za_lp3_ind {A0 : Type} {A1 : Type} {A2 : Type} {body : (A0 → A1 → A2 → za_M → Prop) → A0 → A1 → A2 → za_M → Prop} (I : Nat → A0 → A1 → A2 → za_M → Prop) (base : ∀ (x0 : A0) (x1 : A1) (x2 : A2) (M : za_M), I 0 x0 x1 x2 M → ∀ L : A0 → A1 → A2 → za_M → Prop, body L x0 x1 x2 M) (step : ∀ (k : Nat) (x0 : A0) (x1 : A1) (x2 : A2) (M : za_M), I (k + 1) x0 x1 x2 M → ∀ L : A0 → A1 → A2 → za_M → Prop, (∀ (x0 : A0) (x1 : A1) (x2 : A2) (M : za_M), I k x0 x1 x2 M → L x0 x1 x2 M) → body L x0 x1 x2 M) : ∀ (k : Nat) (x0 : A0) (x1 : A1) (x2 : A2) (M : za_M), I k x0 x1 x2 M → ∃ n, za_lp3 body n x0 x1 x2 M := by
  have h : ∀ (k : Nat) (x0 : A0) (x1 : A1) (x2 : A2) (M : za_M), I k x0 x1 x2 M → za_lp3 body (k + 1) x0 x1 x2 M := by
    intro k
    induction k with
    | zero => intro x0 x1 x2 M hh; exact base x0 x1 x2 M hh _
    | succ k ih => intro x0 x1 x2 M hh; exact step k x0 x1 x2 M hh _ ih
  exact fun k x0 x1 x2 M hh => ⟨k + 1, h k x0 x1 x2 M hh⟩
def za_lp4 {A0 : Type} {A1 : Type} {A2 : Type} {A3 : Type} (body : (A0 → A1 → A2 → A3 → za_M → Prop) → A0 → A1 → A2 → A3 → za_M → Prop) : Nat → A0 → A1 → A2 → A3 → za_M → Prop
  | 0, _, _, _, _, _ => False
  | k+1, x0, x1, x2, x3, M => body (za_lp4 body k) x0 x1 x2 x3 M
theorem za_lp4_run {A0 : Type} {A1 : Type} {A2 : Type} {A3 : Type} {body : (A0 → A1 → A2 → A3 → za_M → Prop) → A0 → A1 → A2 → A3 → za_M → Prop} {Z : A0 → A1 → A2 → A3 → za_M → Prop} (h : ∀ L : A0 → A1 → A2 → A3 → za_M → Prop, (∀ (x0 : A0) (x1 : A1) (x2 : A2) (x3 : A3) (M : za_M), L x0 x1 x2 x3 M → Z x0 x1 x2 x3 M) → ∀ (x0 : A0) (x1 : A1) (x2 : A2) (x3 : A3) (M : za_M), body L x0 x1 x2 x3 M → Z x0 x1 x2 x3 M) : ∀ (k : Nat) (x0 : A0) (x1 : A1) (x2 : A2) (x3 : A3) (M : za_M), za_lp4 body k x0 x1 x2 x3 M → Z x0 x1 x2 x3 M := by
  intro k
  induction k with
  | zero => intro _ _ _ _ _ hh; exact hh.elim
  | succ k ih => intro x0 x1 x2 x3 M hh; exact h _ ih x0 x1 x2 x3 M hh
theorem za_lp4_ind {A0 : Type} {A1 : Type} {A2 : Type} {A3 : Type} {body : (A0 → A1 → A2 → A3 → za_M → Prop) → A0 → A1 → A2 → A3 → za_M → Prop} (I : Nat → A0 → A1 → A2 → A3 → za_M → Prop) (base : ∀ (x0 : A0) (x1 : A1) (x2 : A2) (x3 : A3) (M : za_M), I 0 x0 x1 x2 x3 M → ∀ L : A0 → A1 → A2 → A3 → za_M → Prop, body L x0 x1 x2 x3 M) (step : ∀ (k : Nat) (x0 : A0) (x1 : A1) (x2 : A2) (x3 : A3) (M : za_M), I (k + 1) x0 x1 x2 x3 M → ∀ L : A0 → A1 → A2 → A3 → za_M → Prop, (∀ (x0 : A0) (x1 : A1) (x2 : A2) (x3 : A3) (M : za_M), I k x0 x1 x2 x3 M → L x0 x1 x2 x3 M) → body L x0 x1 x2 x3 M) : ∀ (k : Nat) (x0 : A0) (x1 : A1) (x2 : A2) (x3 : A3) (M : za_M), I k x0 x1 x2 x3 M → ∃ n, za_lp4 body n x0 x1 x2 x3 M := by
  have h : ∀ (k : Nat) (x0 : A0) (x1 : A1) (x2 : A2) (x3 : A3) (M : za_M), I k x0 x1 x2 x3 M → za_lp4 body (k + 1) x0 x1 x2 x3 M := by
    intro k
    induction k with
    | zero => intro x0 x1 x2 x3 M hh; exact base x0 x1 x2 x3 M hh _
    | succ k ih => intro x0 x1 x2 x3 M hh; exact step k x0 x1 x2 x3 M hh _ ih
  exact fun k x0 x1 x2 x3 M hh => ⟨k + 1, h k x0 x1 x2 x3 M hh⟩
def za_lp5 {A0 : Type} {A1 : Type} {A2 : Type} {A3 : Type} {A4 : Type} (body : (A0 → A1 → A2 → A3 → A4 → za_M → Prop) → A0 → A1 → A2 → A3 → A4 → za_M → Prop) : Nat → A0 → A1 → A2 → A3 → A4 → za_M → Prop
  | 0, _, _, _, _, _, _ => False
  | k+1, x0, x1, x2, x3, x4, M => body (za_lp5 body k) x0 x1 x2 x3 x4 M
theorem za_lp5_run {A0 : Type} {A1 : Type} {A2 : Type} {A3 : Type} {A4 : Type} {body : (A0 → A1 → A2 → A3 → A4 → za_M → Prop) → A0 → A1 → A2 → A3 → A4 → za_M → Prop} {Z : A0 → A1 → A2 → A3 → A4 → za_M → Prop} (h : ∀ L : A0 → A1 → A2 → A3 → A4 → za_M → Prop, (∀ (x0 : A0) (x1 : A1) (x2 : A2) (x3 : A3) (x4 : A4) (M : za_M), L x0 x1 x2 x3 x4 M → Z x0 x1 x2 x3 x4 M) → ∀ (x0 : A0) (x1 : A1) (x2 : A2) (x3 : A3) (x4 : A4) (M : za_M), body L x0 x1 x2 x3 x4 M → Z x0 x1 x2 x3 x4 M) : ∀ (k : Nat) (x0 : A0) (x1 : A1) (x2 : A2) (x3 : A3) (x4 : A4) (M : za_M), za_lp5 body k x0 x1 x2 x3 x4 M → Z x0 x1 x2 x3 x4 M := by
  intro k
  induction k with
  | zero => intro _ _ _ _ _ _ hh; exact hh.elim
  | succ k ih => intro x0 x1 x2 x3 x4 M hh; exact h _ ih x0 x1 x2 x3 x4 M hh
theorem za_lp5_ind {A0 : Type} {A1 : Type} {A2 : Type} {A3 : Type} {A4 : Type} {body : (A0 → A1 → A2 → A3 → A4 → za_M → Prop) → A0 → A1 → A2 → A3 → A4 → za_M → Prop} (I : Nat → A0 → A1 → A2 → A3 → A4 → za_M → Prop) (base : ∀ (x0 : A0) (x1 : A1) (x2 : A2) (x3 : A3) (x4 : A4) (M : za_M), I 0 x0 x1 x2 x3 x4 M → ∀ L : A0 → A1 → A2 → A3 → A4 → za_M → Prop, body L x0 x1 x2 x3 x4 M) (step : ∀ (k : Nat) (x0 : A0) (x1 : A1) (x2 : A2) (x3 : A3) (x4 : A4) (M : za_M), I (k + 1) x0 x1 x2 x3 x4 M → ∀ L : A0 → A1 → A2 → A3 → A4 → za_M → Prop, (∀ (x0 : A0) (x1 : A1) (x2 : A2) (x3 : A3) (x4 : A4) (M : za_M), I k x0 x1 x2 x3 x4 M → L x0 x1 x2 x3 x4 M) → body L x0 x1 x2 x3 x4 M) : ∀ (k : Nat) (x0 : A0) (x1 : A1) (x2 : A2) (x3 : A3) (x4 : A4) (M : za_M), I k x0 x1 x2 x3 x4 M → ∃ n, za_lp5 body n x0 x1 x2 x3 x4 M := by
  have h : ∀ (k : Nat) (x0 : A0) (x1 : A1) (x2 : A2) (x3 : A3) (x4 : A4) (M : za_M), I k x0 x1 x2 x3 x4 M → za_lp5 body (k + 1) x0 x1 x2 x3 x4 M := by
    intro k
    induction k with
    | zero => intro x0 x1 x2 x3 x4 M hh; exact base x0 x1 x2 x3 x4 M hh _
    | succ k ih => intro x0 x1 x2 x3 x4 M hh; exact step k x0 x1 x2 x3 x4 M hh _ ih
  exact fun k x0 x1 x2 x3 x4 M hh => ⟨k + 1, h k x0 x1 x2 x3 x4 M hh⟩
def za_lp6 {A0 : Type} {A1 : Type} {A2 : Type} {A3 : Type} {A4 : Type} {A5 : Type} (body : (A0 → A1 → A2 → A3 → A4 → A5 → za_M → Prop) → A0 → A1 → A2 → A3 → A4 → A5 → za_M → Prop) : Nat → A0 → A1 → A2 → A3 → A4 → A5 → za_M → Prop
  | 0, _, _, _, _, _, _, _ => False
  | k+1, x0, x1, x2, x3, x4, x5, M => body (za_lp6 body k) x0 x1 x2 x3 x4 x5 M
theorem za_lp6_run {A0 : Type} {A1 : Type} {A2 : Type} {A3 : Type} {A4 : Type} {A5 : Type} {body : (A0 → A1 → A2 → A3 → A4 → A5 → za_M → Prop) → A0 → A1 → A2 → A3 → A4 → A5 → za_M → Prop} {Z : A0 → A1 → A2 → A3 → A4 → A5 → za_M → Prop} (h : ∀ L : A0 → A1 → A2 → A3 → A4 → A5 → za_M → Prop, (∀ (x0 : A0) (x1 : A1) (x2 : A2) (x3 : A3) (x4 : A4) (x5 : A5) (M : za_M), L x0 x1 x2 x3 x4 x5 M → Z x0 x1 x2 x3 x4 x5 M) → ∀ (x0 : A0) (x1 : A1) (x2 : A2) (x3 : A3) (x4 : A4) (x5 : A5) (M : za_M), body L x0 x1 x2 x3 x4 x5 M → Z x0 x1 x2 x3 x4 x5 M) : ∀ (k : Nat) (x0 : A0) (x1 : A1) (x2 : A2) (x3 : A3) (x4 : A4) (x5 : A5) (M : za_M), za_lp6 body k x0 x1 x2 x3 x4 x5 M → Z x0 x1 x2 x3 x4 x5 M := by
  intro k
  induction k with
  | zero => intro _ _ _ _ _ _ _ hh; exact hh.elim
  | succ k ih => intro x0 x1 x2 x3 x4 x5 M hh; exact h _ ih x0 x1 x2 x3 x4 x5 M hh
theorem za_lp6_ind {A0 : Type} {A1 : Type} {A2 : Type} {A3 : Type} {A4 : Type} {A5 : Type} {body : (A0 → A1 → A2 → A3 → A4 → A5 → za_M → Prop) → A0 → A1 → A2 → A3 → A4 → A5 → za_M → Prop} (I : Nat → A0 → A1 → A2 → A3 → A4 → A5 → za_M → Prop) (base : ∀ (x0 : A0) (x1 : A1) (x2 : A2) (x3 : A3) (x4 : A4) (x5 : A5) (M : za_M), I 0 x0 x1 x2 x3 x4 x5 M → ∀ L : A0 → A1 → A2 → A3 → A4 → A5 → za_M → Prop, body L x0 x1 x2 x3 x4 x5 M) (step : ∀ (k : Nat) (x0 : A0) (x1 : A1) (x2 : A2) (x3 : A3) (x4 : A4) (x5 : A5) (M : za_M), I (k + 1) x0 x1 x2 x3 x4 x5 M → ∀ L : A0 → A1 → A2 → A3 → A4 → A5 → za_M → Prop, (∀ (x0 : A0) (x1 : A1) (x2 : A2) (x3 : A3) (x4 : A4) (x5 : A5) (M : za_M), I k x0 x1 x2 x3 x4 x5 M → L x0 x1 x2 x3 x4 x5 M) → body L x0 x1 x2 x3 x4 x5 M) : ∀ (k : Nat) (x0 : A0) (x1 : A1) (x2 : A2) (x3 : A3) (x4 : A4) (x5 : A5) (M : za_M), I k x0 x1 x2 x3 x4 x5 M → ∃ n, za_lp6 body n x0 x1 x2 x3 x4 x5 M := by
  have h : ∀ (k : Nat) (x0 : A0) (x1 : A1) (x2 : A2) (x3 : A3) (x4 : A4) (x5 : A5) (M : za_M), I k x0 x1 x2 x3 x4 x5 M → za_lp6 body (k + 1) x0 x1 x2 x3 x4 x5 M := by
    intro k
    induction k with
    | zero => intro x0 x1 x2 x3 x4 x5 M hh; exact base x0 x1 x2 x3 x4 x5 M hh _
    | succ k ih => intro x0 x1 x2 x3 x4 x5 M hh; exact step k x0 x1 x2 x3 x4 x5 M hh _ ih
  exact fun k x0 x1 x2 x3 x4 x5 M hh => ⟨k + 1, h k x0 x1 x2 x3 x4 x5 M hh⟩
def za_lp7 {A0 : Type} {A1 : Type} {A2 : Type} {A3 : Type} {A4 : Type} {A5 : Type} {A6 : Type} (body : (A0 → A1 → A2 → A3 → A4 → A5 → A6 → za_M → Prop) → A0 → A1 → A2 → A3 → A4 → A5 → A6 → za_M → Prop) : Nat → A0 → A1 → A2 → A3 → A4 → A5 → A6 → za_M → Prop
  | 0, _, _, _, _, _, _, _, _ => False
  | k+1, x0, x1, x2, x3, x4, x5, x6, M => body (za_lp7 body k) x0 x1 x2 x3 x4 x5 x6 M
theorem za_lp7_run {A0 : Type} {A1 : Type} {A2 : Type} {A3 : Type} {A4 : Type} {A5 : Type} {A6 : Type} {body : (A0 → A1 → A2 → A3 → A4 → A5 → A6 → za_M → Prop) → A0 → A1 → A2 → A3 → A4 → A5 → A6 → za_M → Prop} {Z : A0 → A1 → A2 → A3 → A4 → A5 → A6 → za_M → Prop} (h : ∀ L : A0 → A1 → A2 → A3 → A4 → A5 → A6 → za_M → Prop, (∀ (x0 : A0) (x1 : A1) (x2 : A2) (x3 : A3) (x4 : A4) (x5 : A5) (x6 : A6) (M : za_M), L x0 x1 x2 x3 x4 x5 x6 M → Z x0 x1 x2 x3 x4 x5 x6 M) → ∀ (x0 : A0) (x1 : A1) (x2 : A2) (x3 : A3) (x4 : A4) (x5 : A5) (x6 : A6) (M : za_M), body L x0 x1 x2 x3 x4 x5 x6 M → Z x0 x1 x2 x3 x4 x5 x6 M) : ∀ (k : Nat) (x0 : A0) (x1 : A1) (x2 : A2) (x3 : A3) (x4 : A4) (x5 : A5) (x6 : A6) (M : za_M), za_lp7 body k x0 x1 x2 x3 x4 x5 x6 M → Z x0 x1 x2 x3 x4 x5 x6 M := by
  intro k
  induction k with
  | zero => intro _ _ _ _ _ _ _ _ hh; exact hh.elim
  | succ k ih => intro x0 x1 x2 x3 x4 x5 x6 M hh; exact h _ ih x0 x1 x2 x3 x4 x5 x6 M hh
theorem za_lp7_ind {A0 : Type} {A1 : Type} {A2 : Type} {A3 : Type} {A4 : Type} {A5 : Type} {A6 : Type} {body : (A0 → A1 → A2 → A3 → A4 → A5 → A6 → za_M → Prop) → A0 → A1 → A2 → A3 → A4 → A5 → A6 → za_M → Prop} (I : Nat → A0 → A1 → A2 → A3 → A4 → A5 → A6 → za_M → Prop) (base : ∀ (x0 : A0) (x1 : A1) (x2 : A2) (x3 : A3) (x4 : A4) (x5 : A5) (x6 : A6) (M : za_M), I 0 x0 x1 x2 x3 x4 x5 x6 M → ∀ L : A0 → A1 → A2 → A3 → A4 → A5 → A6 → za_M → Prop, body L x0 x1 x2 x3 x4 x5 x6 M) (step : ∀ (k : Nat) (x0 : A0) (x1 : A1) (x2 : A2) (x3 : A3) (x4 : A4) (x5 : A5) (x6 : A6) (M : za_M), I (k + 1) x0 x1 x2 x3 x4 x5 x6 M → ∀ L : A0 → A1 → A2 → A3 → A4 → A5 → A6 → za_M → Prop, (∀ (x0 : A0) (x1 : A1) (x2 : A2) (x3 : A3) (x4 : A4) (x5 : A5) (x6 : A6) (M : za_M), I k x0 x1 x2 x3 x4 x5 x6 M → L x0 x1 x2 x3 x4 x5 x6 M) → body L x0 x1 x2 x3 x4 x5 x6 M) : ∀ (k : Nat) (x0 : A0) (x1 : A1) (x2 : A2) (x3 : A3) (x4 : A4) (x5 : A5) (x6 : A6) (M : za_M), I k x0 x1 x2 x3 x4 x5 x6 M → ∃ n, za_lp7 body n x0 x1 x2 x3 x4 x5 x6 M := by
  have h : ∀ (k : Nat) (x0 : A0) (x1 : A1) (x2 : A2) (x3 : A3) (x4 : A4) (x5 : A5) (x6 : A6) (M : za_M), I k x0 x1 x2 x3 x4 x5 x6 M → za_lp7 body (k + 1) x0 x1 x2 x3 x4 x5 x6 M := by
    intro k
    induction k with
    | zero => intro x0 x1 x2 x3 x4 x5 x6 M hh; exact base x0 x1 x2 x3 x4 x5 x6 M hh _
    | succ k ih => intro x0 x1 x2 x3 x4 x5 x6 M hh; exact step k x0 x1 x2 x3 x4 x5 x6 M hh _ ih
  exact fun k x0 x1 x2 x3 x4 x5 x6 M hh => ⟨k + 1, h k x0 x1 x2 x3 x4 x5 x6 M hh⟩

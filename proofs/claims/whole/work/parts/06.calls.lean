/-! calls: a callee's contract, and on behind it -/
def za_Y (y : MethodName) (b : ByteArray) (n : Nat) (ret : Option FieldType) (na : Nat) : Prop := Cond.code y b n ret ∈ lw_gd ∧ Cond.initialized y.cls ∈ lw_gd ∧ (y.cls ≠ "java/lang/invoke/MethodHandle" ∧ y.cls ≠ "java/lang/invoke/VarHandle" ∧ (parseMethodDescriptor y.desc).map (fun d => d.parameters.length) = some na)
def za_YV (own : String) (index : Nat) (y : MethodName) : Prop := Cond.methodLink own index y ∈ lw_gd ∧ Cond.instanceMethod y ∈ lw_gd ∧ Cond.selects y.cls y y ∈ lw_gd
def za_YS (own : String) (index : Nat) (y : MethodName) : Prop := Cond.methodLink own index y ∈ lw_gd ∧ Cond.static y ∈ lw_gd ∧ y.cls = own
def za_YN (own : String) (index : Nat) (y : MethodName) : Prop := Cond.methodLinkNest own index y "AshLoans" ∈ za_nests ∧ Cond.static y ∈ lw_gd
section ZC
variable {p : Program} {l : Launch} {e : Env} {R : Room} {s : State} {m : MethodId} {args : Array Value} {below : List Frame} {meth : Method} {c : Code} {nc ns : Nat} {Q : State → Prop} {g : za_L → Nat} {D : va_G} {cy : Nat → ClassId} {nL : Nat} {cc : ByteArray} {own : String} {M : za_M} {pc : Nat} {lv : List (Nat × Value)} {rest : List Value}
theorem zt_cVi (C : za_C p s m args c cc nL own g D cy) {y : MethodName} {b : ByteArray} {n fr lo index : Nat} {ret : Option FieldType} {K : Int32 → za_M → Prop} {x : za_L} {ci N : Nat} {T : u_T} {fs : List Value} (As : List Value) (hM : za_Mi l g D cy y b n ret fr lo (.ref (g x) :: As) M K) (hx : x ∈ za_cells) (he : za_E g cy M x = .inr (ci, fs)) (hc : vwCl[ci]? = some (y.cls, T, N)) (hY : za_Y y b n ret As.length) (hV : za_YV own index y) (hcat : (rest.map fun v => v.category).sum ≤ 8) (hR : fr + 1 ≤ R.frames ∧ 8 + (n + 11) + lo ≤ R.locals) (hf : nc + 0 ≤ R.cells ∧ ns + 0 ≤ R.slots) (hdg : decode cc pc = .ok (.invokevirtual index, 3)) {st : List Value} (hst : st = As.reverse ++ .ref (g x) :: rest) (kk : ∀ (r : Int32) (M' : za_M), K r M' → zt p l e R s m args below meth c nc ns Q g D cy nL M' (pc + 3) lv (.int r :: rest)) : zt p l e R s m args below meth c nc ns Q g D cy nL M pc lv st := by
  intro H locs ls hP hS hl
  obtain ⟨q0, hq⟩ := List.getElem?_of_mem hx
  obtain ⟨y1, y2, y3⟩ := hY
  obtain ⟨v1, v2, v3⟩ := hV
  subst hst
  have hG : GoodIn lw_gd (wsV own index y.cls y (.code y b n ret :: lw_gd)) := za_gapp (fun w hw => by
    rcases List.mem_cons.mp hw with h | hw
    · rw [h]; exact v1
    rcases List.mem_cons.mp hw with h | hw
    · rw [h]; exact v2
    rcases List.mem_cons.mp hw with h | hw
    · rw [h]; exact v3
    rw [List.mem_singleton.mp hw]; exact y2) (za_gin y1)
  refine va_calli (va_runV (As := As) (rest := rest) ⟨C.1, C.2.1, C.2.2.1, C.2.2.2.1, C.2.2.2.2.1⟩ hM (cwV As.length C.2.2.2.2.1 hG rfl rfl rfl ⟨rfl, y3⟩ hR) ⟨za_Pr_blind g D cy _ M, va_recv C.2.2.2.2.2.1.1 hP hc ((za_at g cy M hq).trans (by rw [he])), fun U hU hW => ⟨rfl, by rw [hU]; exact hP, za_F.go C.2.2.2.2.2.1 hU hW hS⟩⟩ rfl rfl hl.1 rfl (lv_room hcat) hdg hf) hS (fun q _ h => h) (fun q h => h) (fun r u t H1 locs1 ht hvm hw hB hz1 hk1 hS1 => kk r u hw H1 locs1 ls (by rw [← ht]; exact hB) hS1 hl)
theorem zt_cSi (C : za_C p s m args c cc nL own g D cy) {y : MethodName} {b : ByteArray} {n fr lo index : Nat} {ret : Option FieldType} {K : Int32 → za_M → Prop} (As : List Value) (hM : za_Mi l g D cy y b n ret fr lo As M K) (hY : za_Y y b n ret As.length) (hV : za_YS own index y) (hcat : (rest.map fun v => v.category).sum ≤ 8) (hR : fr + 1 ≤ R.frames ∧ 8 + (n + 11) + lo ≤ R.locals) (hf : nc + 0 ≤ R.cells ∧ ns + 0 ≤ R.slots) (hdg : decode cc pc = .ok (.invokestatic index, 3)) {st : List Value} (hst : st = As.reverse ++ rest) (kk : ∀ (r : Int32) (M' : za_M), K r M' → zt p l e R s m args below meth c nc ns Q g D cy nL M' (pc + 3) lv (.int r :: rest)) : zt p l e R s m args below meth c nc ns Q g D cy nL M pc lv st := by
  intro H locs ls hP hS hl
  obtain ⟨y1, y2, y3⟩ := hY
  obtain ⟨v1, v2, v3⟩ := hV
  subst hst
  have hG : GoodIn lw_gd (wsS own index y (.code y b n ret :: lw_gd)) := za_gapp (fun w hw => by
    rcases List.mem_cons.mp hw with h | hw
    · rw [h]; exact v1
    rcases List.mem_cons.mp hw with h | hw
    · rw [h]; exact v2
    rw [List.mem_singleton.mp hw, ← v3]; exact y2) (za_gin y1)
  refine va_calli (va_runS (As := As) (rest := rest) ⟨C.1, C.2.1, C.2.2.1, C.2.2.2.1, C.2.2.2.2.1⟩ hM (cwS As.length C.2.2.2.2.1 hG rfl rfl rfl ⟨v3, y3⟩ hR) ⟨za_Pr_blind g D cy _ M, fun U hU hW => ⟨rfl, by rw [hU]; exact hP, za_F.go C.2.2.2.2.2.1 hU hW hS⟩⟩ rfl rfl hl.1 rfl (lv_room hcat) hdg hf) hS (fun q _ h => h) (fun q h => h) (fun r u t H1 locs1 ht hvm hw hB hz1 hk1 hS1 => kk r u hw H1 locs1 ls (by rw [← ht]; exact hB) hS1 hl)
theorem zt_cNi (C : za_C p s m args c cc nL own g D cy) {y : MethodName} {b : ByteArray} {n fr lo index : Nat} {ret : Option FieldType} {K : Int32 → za_M → Prop} (As : List Value) (hM : za_Mi l g D cy y b n ret fr lo As M K) (hY : za_Y y b n ret As.length) (hV : za_YN own index y) (hcat : (rest.map fun v => v.category).sum ≤ 8) (hR : fr + 1 ≤ R.frames ∧ 8 + (n + 11) + lo ≤ R.locals) (hf : nc + 0 ≤ R.cells ∧ ns + 0 ≤ R.slots) (hdg : decode cc pc = .ok (.invokestatic index, 3)) {st : List Value} (hst : st = As.reverse ++ rest) (kk : ∀ (r : Int32) (M' : za_M), K r M' → zt p l e R s m args below meth c nc ns Q g D cy nL M' (pc + 3) lv (.int r :: rest)) : zt p l e R s m args below meth c nc ns Q g D cy nL M pc lv st := by
  intro H locs ls hP hS hl
  obtain ⟨y1, y2, y3⟩ := hY
  obtain ⟨v1, v2⟩ := hV
  subst hst
  refine va_calli (va_runSN (As := As) (rest := rest) ⟨C.1, C.2.1, C.2.2.1, C.2.2.2.1, C.2.2.2.2.1⟩ hM ⟨va_cnB As.length C.2.2.2.2.1 (za_gin y1) rfl rfl rfl (C.2.2.2.2.2.1.2.1 _ v1) (C.2.2.2.2.1 _ y2) y3 hR, C.2.2.2.2.1 _ v2, trivial⟩ ⟨za_Pr_blind g D cy _ M, fun U hU hW => ⟨rfl, by rw [hU]; exact hP, za_F.go C.2.2.2.2.2.1 hU hW hS⟩⟩ rfl rfl hl.1 rfl (lv_room hcat) hdg hf) hS (fun q _ h => h) (fun q h => h) (fun r u t H1 locs1 ht hvm hw hB hz1 hk1 hS1 => kk r u hw H1 locs1 ls (by rw [← ht]; exact hB) hS1 hl)
theorem zt_cVv (C : za_C p s m args c cc nL own g D cy) {y : MethodName} {b : ByteArray} {n fr lo index : Nat} {ret : Option FieldType} {K : za_M → Prop} {x : za_L} {ci N : Nat} {T : u_T} {fs : List Value} (As : List Value) (hM : za_Mv l g D cy y b n ret fr lo (.ref (g x) :: As) M K) (hx : x ∈ za_cells) (he : za_E g cy M x = .inr (ci, fs)) (hc : vwCl[ci]? = some (y.cls, T, N)) (hY : za_Y y b n ret As.length) (hV : za_YV own index y) (hcat : (rest.map fun v => v.category).sum ≤ 8) (hR : fr + 1 ≤ R.frames ∧ 8 + (n + 11) + lo ≤ R.locals) (hf : nc + 0 ≤ R.cells ∧ ns + 0 ≤ R.slots) (hdg : decode cc pc = .ok (.invokevirtual index, 3)) {st : List Value} (hst : st = As.reverse ++ .ref (g x) :: rest) (kk : ∀ (M' : za_M), K M' → zt p l e R s m args below meth c nc ns Q g D cy nL M' (pc + 3) lv (rest)) : zt p l e R s m args below meth c nc ns Q g D cy nL M pc lv st := by
  intro H locs ls hP hS hl
  obtain ⟨q0, hq⟩ := List.getElem?_of_mem hx
  obtain ⟨y1, y2, y3⟩ := hY
  obtain ⟨v1, v2, v3⟩ := hV
  subst hst
  have hG : GoodIn lw_gd (wsV own index y.cls y (.code y b n ret :: lw_gd)) := za_gapp (fun w hw => by
    rcases List.mem_cons.mp hw with h | hw
    · rw [h]; exact v1
    rcases List.mem_cons.mp hw with h | hw
    · rw [h]; exact v2
    rcases List.mem_cons.mp hw with h | hw
    · rw [h]; exact v3
    rw [List.mem_singleton.mp hw]; exact y2) (za_gin y1)
  refine va_callv (va_runV (As := As) (rest := rest) ⟨C.1, C.2.1, C.2.2.1, C.2.2.2.1, C.2.2.2.2.1⟩ hM (cwV As.length C.2.2.2.2.1 hG rfl rfl rfl ⟨rfl, y3⟩ hR) ⟨za_Pr_blind g D cy _ M, va_recv C.2.2.2.2.2.1.1 hP hc ((za_at g cy M hq).trans (by rw [he])), fun U hU hW => ⟨rfl, by rw [hU]; exact hP, za_F.go C.2.2.2.2.2.1 hU hW hS⟩⟩ rfl rfl hl.1 rfl (lv_room hcat) hdg hf) hS (fun q _ h => h) (fun q h => h) (fun u t H1 locs1 ht hvm hw hB hz1 hk1 hS1 => kk u hw H1 locs1 ls (by rw [← ht]; exact hB) hS1 hl)
theorem zt_cSv (C : za_C p s m args c cc nL own g D cy) {y : MethodName} {b : ByteArray} {n fr lo index : Nat} {ret : Option FieldType} {K : za_M → Prop} (As : List Value) (hM : za_Mv l g D cy y b n ret fr lo As M K) (hY : za_Y y b n ret As.length) (hV : za_YS own index y) (hcat : (rest.map fun v => v.category).sum ≤ 8) (hR : fr + 1 ≤ R.frames ∧ 8 + (n + 11) + lo ≤ R.locals) (hf : nc + 0 ≤ R.cells ∧ ns + 0 ≤ R.slots) (hdg : decode cc pc = .ok (.invokestatic index, 3)) {st : List Value} (hst : st = As.reverse ++ rest) (kk : ∀ (M' : za_M), K M' → zt p l e R s m args below meth c nc ns Q g D cy nL M' (pc + 3) lv (rest)) : zt p l e R s m args below meth c nc ns Q g D cy nL M pc lv st := by
  intro H locs ls hP hS hl
  obtain ⟨y1, y2, y3⟩ := hY
  obtain ⟨v1, v2, v3⟩ := hV
  subst hst
  have hG : GoodIn lw_gd (wsS own index y (.code y b n ret :: lw_gd)) := za_gapp (fun w hw => by
    rcases List.mem_cons.mp hw with h | hw
    · rw [h]; exact v1
    rcases List.mem_cons.mp hw with h | hw
    · rw [h]; exact v2
    rw [List.mem_singleton.mp hw, ← v3]; exact y2) (za_gin y1)
  refine va_callv (va_runS (As := As) (rest := rest) ⟨C.1, C.2.1, C.2.2.1, C.2.2.2.1, C.2.2.2.2.1⟩ hM (cwS As.length C.2.2.2.2.1 hG rfl rfl rfl ⟨v3, y3⟩ hR) ⟨za_Pr_blind g D cy _ M, fun U hU hW => ⟨rfl, by rw [hU]; exact hP, za_F.go C.2.2.2.2.2.1 hU hW hS⟩⟩ rfl rfl hl.1 rfl (lv_room hcat) hdg hf) hS (fun q _ h => h) (fun q h => h) (fun u t H1 locs1 ht hvm hw hB hz1 hk1 hS1 => kk u hw H1 locs1 ls (by rw [← ht]; exact hB) hS1 hl)
theorem zt_cNv (C : za_C p s m args c cc nL own g D cy) {y : MethodName} {b : ByteArray} {n fr lo index : Nat} {ret : Option FieldType} {K : za_M → Prop} (As : List Value) (hM : za_Mv l g D cy y b n ret fr lo As M K) (hY : za_Y y b n ret As.length) (hV : za_YN own index y) (hcat : (rest.map fun v => v.category).sum ≤ 8) (hR : fr + 1 ≤ R.frames ∧ 8 + (n + 11) + lo ≤ R.locals) (hf : nc + 0 ≤ R.cells ∧ ns + 0 ≤ R.slots) (hdg : decode cc pc = .ok (.invokestatic index, 3)) {st : List Value} (hst : st = As.reverse ++ rest) (kk : ∀ (M' : za_M), K M' → zt p l e R s m args below meth c nc ns Q g D cy nL M' (pc + 3) lv (rest)) : zt p l e R s m args below meth c nc ns Q g D cy nL M pc lv st := by
  intro H locs ls hP hS hl
  obtain ⟨y1, y2, y3⟩ := hY
  obtain ⟨v1, v2⟩ := hV
  subst hst
  refine va_callv (va_runSN (As := As) (rest := rest) ⟨C.1, C.2.1, C.2.2.1, C.2.2.2.1, C.2.2.2.2.1⟩ hM ⟨va_cnB As.length C.2.2.2.2.1 (za_gin y1) rfl rfl rfl (C.2.2.2.2.2.1.2.1 _ v1) (C.2.2.2.2.1 _ y2) y3 hR, C.2.2.2.2.1 _ v2, trivial⟩ ⟨za_Pr_blind g D cy _ M, fun U hU hW => ⟨rfl, by rw [hU]; exact hP, za_F.go C.2.2.2.2.2.1 hU hW hS⟩⟩ rfl rfl hl.1 rfl (lv_room hcat) hdg hf) hS (fun q _ h => h) (fun q h => h) (fun u t H1 locs1 ht hvm hw hB hz1 hk1 hS1 => kk u hw H1 locs1 ls (by rw [← ht]; exact hB) hS1 hl)
end ZC

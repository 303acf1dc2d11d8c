/-! CONTRACTS' STARTS, and how a caller meets them -/
/-- the array classes -/
def mr_ty (cI cR cL cZ : ClassId) : List (ClassId × FieldType) := [(cI, .int), (cR, .object "MeasureRows$Row"), (cL, .long), (cZ, .boolean)]
/-- a method that reads the cells ws -/
def mr_PW (s0 : State) (D : va_G) (tys : List (ClassId × FieldType)) (As : List Value) (ws : va_W) : Array Value → State → Prop := va_Pc As (fun U => mr_B s0 U ∧ va_K D mr_cl tys U ∧ va_P D mr_cl ws U.heap)
/-- a method that may write them -/
def mr_PC (s0 : State) (D : va_G) (tys : List (ClassId × FieldType)) (As : List Value) (ws : va_W) (sz : Nat) : Array Value → State → Prop := va_Pc As (fun U => U.heap.size = sz ∧ mr_B s0 U ∧ va_K D mr_cl tys U ∧ va_P D mr_cl ws U.heap ∧ va_D (fun q => s0.heap.size ≤ q) ws)
section MRD
variable {s0 s : State} {H : Heap} {D : va_G} {tys : List (ClassId × FieldType)} {As : List Value} {ws : va_W} {A : Nat → Prop} {locs : List Loc}
theorem mr_B.at (hB : mr_B s0 s) (hS : va_S A s.heap H locs) (hA : ∀ q, A q → s0.heap.size ≤ q) : ∀ U : State, U.heap = H → s.WarmedH U.vm → mr_B s0 U := fun U hU hW =>
  hB.go hW (by rw [hU]; exact hS.1) (fun a ha => by rw [hU]; exact hS.2.1 a (Nat.lt_of_lt_of_le ha hB.2.2.1) (fun h => absurd (hA a h) (Nat.not_le.mpr ha)))
theorem mr_B.here (hB : mr_B s0 s) : ∀ U : State, U.heap = s.heap → s.WarmedH U.vm → mr_B s0 U := fun U hU hW => hB.go hW (by rw [hU]; exact Nat.le_refl _) (fun a _ => by rw [hU])
theorem mr_pre0 (hB : ∀ U : State, U.heap = H → s.WarmedH U.vm → mr_B s0 U) : PreS s H (va_Pc As (fun U => mr_B s0 U)) As := ⟨fun _ _ _ _ q => q, fun U hU hW => ⟨rfl, hB U hU hW⟩⟩
theorem mr_preS (hB : ∀ U : State, U.heap = H → s.WarmedH U.vm → mr_B s0 U) (hK : va_K D mr_cl tys s) (hP : va_P D mr_cl ws H) : PreS s H (mr_PW s0 D tys As ws) As :=
  ⟨fun a U g mk q => ⟨q.1, q.2.1, va_K.moved (u := U) (U := U.calling g mk a) (Vm.Alike.refl U.vm) q.2.2.1, q.2.2.2⟩, fun U hU hW => ⟨rfl, hB U hU hW, va_K.moved hW.alike hK, by rw [hU]; exact hP⟩⟩
theorem mr_preV {b q0 ci : Nat} {q : vw_C} {fs : List Value} (hB : ∀ U : State, U.heap = H → s.WarmedH U.vm → mr_B s0 U) (hK : va_K D mr_cl tys s) (hP : va_P D mr_cl ws H) (hc : mr_cl[ci]? = some q) (he : ws[q0]? = some (b, .inr (ci, fs))) : PreV s H q.1 b (mr_PW s0 D tys (.ref b :: As) ws) As :=
  ⟨fun a U g mk q => ⟨q.1, q.2.1, va_K.moved (u := U) (U := U.calling g mk a) (Vm.Alike.refl U.vm) q.2.2.1, q.2.2.2⟩, va_recv hK hP hc he, fun U hU hW => ⟨rfl, hB U hU hW, va_K.moved hW.alike hK, by rw [hU]; exact hP⟩⟩
theorem mr_preCS (hB : ∀ U : State, U.heap = H → s.WarmedH U.vm → mr_B s0 U) (hK : va_K D mr_cl tys s) (hP : va_P D mr_cl ws H) (hD : va_D (fun q => s0.heap.size ≤ q) ws) : PreS s H (mr_PC s0 D tys As ws H.size) As :=
  ⟨fun a U g mk q => ⟨q.1, q.2.1, q.2.2.1, va_K.moved (u := U) (U := U.calling g mk a) (Vm.Alike.refl U.vm) q.2.2.2.1, q.2.2.2.2⟩, fun U hU hW => ⟨rfl, by rw [hU], hB U hU hW, va_K.moved hW.alike hK, by rw [hU]; exact hP, hD⟩⟩
theorem mr_preCV {b q0 ci : Nat} {q : vw_C} {fs : List Value} (hB : ∀ U : State, U.heap = H → s.WarmedH U.vm → mr_B s0 U) (hK : va_K D mr_cl tys s) (hP : va_P D mr_cl ws H) (hD : va_D (fun q => s0.heap.size ≤ q) ws) (hc : mr_cl[ci]? = some q) (he : ws[q0]? = some (b, .inr (ci, fs))) : PreV s H q.1 b (mr_PC s0 D tys (.ref b :: As) ws H.size) As :=
  ⟨fun a U g mk q => ⟨q.1, q.2.1, q.2.2.1, va_K.moved (u := U) (U := U.calling g mk a) (Vm.Alike.refl U.vm) q.2.2.2.1, q.2.2.2.2⟩, va_recv hK hP hc he, fun U hU hW => ⟨rfl, by rw [hU], hB U hU hW, va_K.moved hW.alike hK, by rw [hU]; exact hP, hD⟩⟩
theorem mr_A (hB : mr_B s0 s) (hD : va_D (fun q => s0.heap.size ≤ q) ws) : ∀ q, va_A ws s.heap.size q → s0.heap.size ≤ q := fun q h => by
  rcases h with ⟨k, e, hk⟩ | h
  · exact hD.2 k _ hk
  · exact Nat.le_trans hB.2.2.1 h
end MRD
section MRE
variable {p : Program} {l : Launch} {e : Env} {R : Room} {s : State} {m : MethodId} {args : Array Value} {below : List Frame} {meth : Method} {c : Code} {H : Heap} {locs : List Loc} {cells slots : Nat} {Q : State → Prop} {pc : Nat} {ls : Array Slot} {rest : List Value}
/-- a number on the stack by another name -/
theorem mr_top {x y : Int32} (h : x = y) (k : W p l e R s m args below meth c H locs cells slots Q (F0 m pc ls (.int y :: rest))) : W p l e R s m args below meth c H locs cells slots Q (F0 m pc ls (.int x :: rest)) := by
  rw [h]; exact k
theorem mr_topv {x y : Value} (h : x = y) (k : W p l e R s m args below meth c H locs cells slots Q (F0 m pc ls (y :: rest))) : W p l e R s m args below meth c H locs cells slots Q (F0 m pc ls (x :: rest)) := by
  rw [h]; exact k
end MRE
/-- the class's own object, by the addresses of its cells -/
abbrev mf_M (r : Nat → Nat) (rc nw pb lc : Int32) : List Value := [.ref (r 1), .ref (r 4), .int rc, .int nw, .int pb, .ref (r 5), .int lc, .ref (r 6), .ref (r 7)]
/-- the reference's object -/
abbrev mf_D (r : Nat → Nat) (th rw nw pb lc : Int32) : List Value := [.int th, .ref (r 1), .int rw, .ref (r 3), .ref (r 4), .ref (r 5), .ref (r 6), .ref (r 7), .ref (r 8), .ref (r 9), .ref (r 10), .ref (r 11), .ref (r 12), .ref (r 13), .int nw, .int pb, .ref (r 16), .int lc, .ref (r 18)]
section MRF
variable {R : Room} {s : State} {args : Array Value} {own host : String} {index maxL mc ms : Nat} {y : MethodName} {bytes : ByteArray} {ret : Option FieldType} {rm : Room}
theorem mr_cB (n : Nat) (hcode : (Cond.code y bytes maxL ret).before args s = true) (hini : (Cond.initialized y.cls).before args s = true) (hlk : (Cond.methodLink own index y).before args s = true) (hrc : rm.cells = mc) (hrs : rm.slots = ms)
    (hd : y.cls ≠ "java/lang/invoke/MethodHandle" ∧ y.cls ≠ "java/lang/invoke/VarHandle" ∧ (parseMethodDescriptor y.desc).map (fun d => d.parameters.length) = some n) (hR : rm.frames + 1 ≤ R.frames ∧ 8 + (maxL + 11) + rm.locals ≤ R.locals) :
    CallB R s args own index y bytes maxL ret [Cond.code y bytes maxL ret] rm mc ms n :=
  ⟨hrc, hrs, hR.1, hR.2, fun w hw a' U hW => by rw [List.mem_singleton.mp hw]; exact word_at hW (Or.inl rfl) hcode, List.mem_singleton.mpr rfl, hcode, hini, ⟨hd.1, hd.2.1⟩, fun sig h => by rw [h] at hd; simpa using hd.2.2.symm, hlk⟩
theorem mr_cN (n : Nat) (hcode : (Cond.code y bytes maxL ret).before args s = true) (hini : (Cond.initialized y.cls).before args s = true) (hlk : (Cond.methodLinkNest own index y host).before args s = true) (hrc : rm.cells = mc) (hrs : rm.slots = ms)
    (hd : y.cls ≠ "java/lang/invoke/MethodHandle" ∧ y.cls ≠ "java/lang/invoke/VarHandle" ∧ (parseMethodDescriptor y.desc).map (fun d => d.parameters.length) = some n) (hR : rm.frames + 1 ≤ R.frames ∧ 8 + (maxL + 11) + rm.locals ≤ R.locals) :
    va_CN R s args own index y host bytes maxL ret [Cond.code y bytes maxL ret] rm mc ms n :=
  ⟨⟨hrc, hrs, hR.1, hR.2, fun w hw a' U hW => by rw [List.mem_singleton.mp hw]; exact word_at hW (Or.inl rfl) hcode, List.mem_singleton.mpr rfl⟩, hcode, hini, ⟨hd.1, hd.2.1⟩, fun sig h => by rw [h] at hd; simpa using hd.2.2.symm, hlk⟩
end MRF

/-! MY BASE ROWS: small numbers, pure calls, worlds of the caller -/
def mr_ushr (x y : Int32) : Int32 := (x.toUInt32 >>> (y.toUInt32 &&& Int32.toUInt32 31)).toInt32
def mr_b01 (x : Int32) : Prop := x = 0 ∨ x = 1
theorem mr_b0 : mr_b01 0 := Or.inl rfl
theorem mr_b1 : mr_b01 1 := Or.inr rfl
theorem mr_bi {q : Prop} [Decidable q] {x y : Int32} (h1 : mr_b01 x) (h2 : mr_b01 y) : mr_b01 (if q then x else y) := by
  by_cases h : q
  · rw [if_pos h]; exact h1
  · rw [if_neg h]; exact h2
theorem mr_narz {v : Int32} (h : mr_b01 v) : narrow .boolean (.int v) = .int v := by
  rcases h with h | h <;> rw [h] <;> rfl
theorem mr_ne {x k : Int32} {z : Int} (hz : k.toInt = z) (h : ¬ x = k) : x.toInt ≠ z := fun q => h (Int32.toInt_inj.mp (by rw [q, hz]))
/-- a contract's start that reads cells and leaves them -/
def mr_PW (D : va_G) (cl : List vw_C) (tys : List (ClassId × FieldType)) (As : List Value) (ws : va_W) : Array Value → State → Prop := va_Pc As (fun U => va_K D cl tys U ∧ va_P D cl ws U.heap)
theorem mr_pre0 {s : State} {H : Heap} {As : List Value} : PreS s H (va_Pc As (fun _ => True)) As := ⟨fun _ _ _ _ q => q, fun _ _ _ => ⟨rfl, trivial⟩⟩
theorem mr_preS {s : State} {H : Heap} {D : va_G} {cl : List vw_C} {tys : List (ClassId × FieldType)} {As : List Value} {ws : va_W} (hK : va_K D cl tys s) (hP : va_P D cl ws H) : PreS s H (mr_PW D cl tys As ws) As :=
  ⟨fun a U g mk q => ⟨q.1, va_K.moved (u := U) (U := U.calling g mk a) (Vm.Alike.refl U.vm) q.2.1, q.2.2⟩, fun U hU hW => ⟨rfl, va_K.moved hW.alike hK, by rw [hU]; exact hP⟩⟩
theorem mr_preV {s : State} {H : Heap} {D : va_G} {cl : List vw_C} {tys : List (ClassId × FieldType)} {As : List Value} {ws : va_W} {b q0 ci : Nat} {q : vw_C} {fs : List Value} (hK : va_K D cl tys s) (hP : va_P D cl ws H) (hc : cl[ci]? = some q) (he : ws[q0]? = some (b, .inr (ci, fs))) : PreV s H q.1 b (mr_PW D cl tys (.ref b :: As) ws) As :=
  ⟨fun a U g mk q => ⟨q.1, va_K.moved (u := U) (U := U.calling g mk a) (Vm.Alike.refl U.vm) q.2.1, q.2.2⟩, va_recv hK hP hc he, fun U hU hW => ⟨rfl, va_K.moved hW.alike hK, by rw [hU]; exact hP⟩⟩

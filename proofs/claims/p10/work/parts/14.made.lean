theorem mr_str {own tx : String} {k : Nat} {A : Array Value} {s : State} {cc : ClassId} (h : (Cond.stringRef own k tx).before A s = true) (hc : s.vm.findClass own = some cc) : ∃ sa, vk_R own k tx sa s := by
  obtain ⟨-, -, -, a, -, -, -, -, -, hev⟩ := Cond.stringRef_spec hc h
  exact ⟨a, vk_R.of h hev⟩
theorem mr_01 {x : Int32} (h1 : ¬ x < 1) (h2 : ¬ nI 0 < x) : False := by
  rw [Int32.lt_iff_toInt_lt] at h1 h2
  have a1 : (1 : Int32).toInt = 1 := by decide
  have a2 : (nI 0).toInt = 0 := by decide
  omega
theorem mr_no {x : Int32} {y : Int32} {n : Nat} (h1 : ¬ x < 1) (h2 : ¬ nI 0 < x) : vp_in y n := (mr_01 h1 h2).elim
theorem mr_rfv (r : Option Nat) : va_rf r = .null ∨ ∃ a, va_rf r = .ref a := by
  cases r with
  | none => exact Or.inl rfl
  | some a => exact Or.inr ⟨a, rfl⟩
abbrev mr_W (D : va_G) (tys : List (ClassId × FieldType)) (A : Nat → Prop) (ws : va_W) (t : State) : Prop := va_P D mr_cl ws t.heap ∧ va_K D mr_cl tys t ∧ va_D A ws
section MRG
variable {D : va_G} {cI cR cL cZ cA : ClassId} {s : State}
theorem mr_sameI (h : va_K D mr_cl ([(cI, .int), (cR, .object "MeasureRows$Row"), (cL, .long), (cZ, .boolean)] ++ [(cA, .int)]) s) : cA = cI := Option.some.inj (((h.2 4 _ rfl).2 : s.vm.findClass _ = some cA).symm.trans ((h.2 0 _ rfl).2 : s.vm.findClass _ = some cI))
theorem mr_sameL (h : va_K D mr_cl ([(cI, .int), (cR, .object "MeasureRows$Row"), (cL, .long), (cZ, .boolean)] ++ [(cA, .long)]) s) : cA = cL := Option.some.inj (((h.2 4 _ rfl).2 : s.vm.findClass _ = some cA).symm.trans ((h.2 2 _ rfl).2 : s.vm.findClass _ = some cL))
theorem mr_sameZ (h : va_K D mr_cl ([(cI, .int), (cR, .object "MeasureRows$Row"), (cL, .long), (cZ, .boolean)] ++ [(cA, .boolean)]) s) : cA = cZ := Option.some.inj (((h.2 4 _ rfl).2 : s.vm.findClass _ = some cA).symm.trans ((h.2 3 _ rfl).2 : s.vm.findClass _ = some cZ))
theorem mr_sameR (h : va_K D mr_cl ([(cI, .int), (cR, .object "MeasureRows$Row"), (cL, .long), (cZ, .boolean)] ++ [(cA, .object "MeasureRows$Row")]) s) : cA = cR := by
  obtain ⟨_, _, _, _, _, h1⟩ := (h.2 4 _ rfl).2
  obtain ⟨_, _, _, _, _, h2⟩ := (h.2 1 _ rfl).2
  exact Option.some.inj (h1.symm.trans h2)
end MRG
section MRH
variable {p : Program} {l : Launch} {e : Env} {R : Room} {s : State} {m : MethodId} {args : Array Value} {below : List Frame} {meth : Method} {c : Code} {cells slots : Nat} {Q : State → Prop} {pc : Nat}
/-- a loop of at most N rounds, by its state behind j rounds -/
theorem mr_loop {I : Nat → Heap → List Loc → Array Slot → Prop} {N : Nat}
    (hstep : ∀ (j : Nat) (H : Heap) (locs : List Loc) (ls : Array Slot), j < N → I j H locs ls → (∀ (H' : Heap) (locs' : List Loc) (ls' : Array Slot), I (j + 1) H' locs' ls' → W p l e R s m args below meth c H' locs' cells slots Q (F0 m pc ls' [])) → W p l e R s m args below meth c H locs cells slots Q (F0 m pc ls []))
    (hend : ∀ (H : Heap) (locs : List Loc) (ls : Array Slot), I N H locs ls → W p l e R s m args below meth c H locs cells slots Q (F0 m pc ls [])) :
    ∀ (j : Nat) (H : Heap) (locs : List Loc) (ls : Array Slot), j ≤ N → I j H locs ls → W p l e R s m args below meth c H locs cells slots Q (F0 m pc ls []) := by
  intro j
  generalize hn : N - j = n
  induction n generalizing j with
  | zero =>
    intro H locs ls hj hI
    have : j = N := by omega
    subst this
    exact hend H locs ls hI
  | succ n ih =>
    intro H locs ls hj hI
    exact hstep j H locs ls (by omega) hI (fun H' locs' ls' hI' => ih (j + 1) (by omega) H' locs' ls' (by omega) hI')
end MRH
theorem mw_40 : Cond.methodLink "MeasureRows$Groups" 3 objectInit ∈ lw_tbl := by decide +kernel
theorem mw_41 : Cond.instanceMethod objectInit ∈ lw_tbl := by decide +kernel
theorem mw_42 : Cond.code objectInit ⟨#[0xb1]⟩ 1 none ∈ lw_tbl := by decide +kernel
theorem mw_43 : Cond.arrayClass .int ∈ lw_tbl := by decide +kernel
theorem mw_44 : Cond.fieldLink "MeasureRows$Groups" 9 "MeasureRows$Groups" "members" "[I" ∈ lw_tbl := by decide +kernel
theorem mw_45 : Cond.methodLink "MeasureRows" 1 objectInit ∈ lw_tbl := by decide +kernel
theorem mw_46 : Cond.classLink "MeasureRows" 7 R_G ∈ lw_tbl := by decide +kernel
theorem mw_47 : Cond.instantiable R_G 2 ∈ lw_tbl := by decide +kernel
theorem mw_48 : Cond.initialized R_G ∈ lw_tbl := by decide +kernel
theorem mw_49 : Cond.code y_G_init b_G_init 1 none ∈ lw_tbl := by decide +kernel
theorem mw_50 : Cond.initialized y_G_init.cls ∈ lw_tbl := by decide +kernel
theorem mw_51 : Cond.methodLink "MeasureRows" 9 y_G_init ∈ lw_tbl := by decide +kernel
theorem mw_52 : Cond.instanceMethod y_G_init ∈ lw_tbl := by decide +kernel
theorem mw_53 : Cond.fieldLink "MeasureRows" 10 "MeasureRows" "groups" "LMeasureRows$Groups;" ∈ lw_tbl := by decide +kernel
theorem mw_54 : Cond.classLink "MeasureRows" 16 "MeasureRows$Row" ∈ lw_tbl := by decide +kernel
theorem mw_55 : Cond.arrayOver (.object "MeasureRows$Row") ∈ lw_tbl := by decide +kernel
theorem mw_56 : Cond.fieldLink "MeasureRows" 18 "MeasureRows" "rows" "[LMeasureRows$Row;" ∈ lw_tbl := by decide +kernel
theorem mw_57 : Cond.fieldLink "MeasureRows" 22 "MeasureRows" "rowCount" "I" ∈ lw_tbl := by decide +kernel
theorem mw_58 : Cond.fieldLink "MeasureRows" 26 "MeasureRows" "now" "I" ∈ lw_tbl := by decide +kernel
theorem mw_59 : Cond.fieldLink "MeasureRows" 29 "MeasureRows" "paperBits" "I" ∈ lw_tbl := by decide +kernel
theorem mw_60 : Cond.fieldLink "MeasureRows" 32 "MeasureRows" "listed" "[I" ∈ lw_tbl := by decide +kernel
theorem mw_61 : Cond.fieldLink "MeasureRows" 36 "MeasureRows" "listedCount" "I" ∈ lw_tbl := by decide +kernel
theorem mw_62 : Cond.fieldLink "MeasureRows" 39 "MeasureRows" "candidates" "[I" ∈ lw_tbl := by decide +kernel
theorem mw_63 : Cond.fieldLink "MeasureRows" 42 "MeasureRows" "greatestWeight" "[I" ∈ lw_tbl := by decide +kernel
set_option maxHeartbeats 4000000 in
set_option maxRecDepth 100000 in
theorem mc_G_init (l : Launch) (s0 : State) (dC : Nat → ClassId) (dI : Nat → Nat → Nat) (cI cR cL cZ : ClassId) (q : Nat) (sz : Nat)   : Met l y_G_init [Cond.code y_G_init b_G_init 1 none] ({ frames := 1, cells := 2, slots := 16, locals := 20 }) (mr_PC s0 (dC, dI) [(cI, .int), (cR, .object "MeasureRows$Row"), (cL, .long), (cZ, .boolean)] [.ref q] [(q, .inr (1, [.null, .null]))] sz) (va_Qv (fun _ => True) (fun (u : Nat × Nat) t => mr_W (dC, dI) [(cI, .int), (cR, .object "MeasureRows$Row"), (cL, .long), (cZ, .boolean)] (va_A [(q, .inr (1, [.null, .null]))] sz) [(q, .inr (1, [.ref u.1, .ref u.2])), (u.1, .inl (cI, 8, .inl (fun _ => 0))), (u.2, .inl (cI, 8, .inl (fun _ => 0)))] t) (va_A [(q, .inr (1, [.null, .null]))] sz)) 2 16 (va_A [(q, .inr (1, [.null, .null]))] sz) := by
  refine Met.ofW (cc := b_G_init) (maxL := 1) (ret := none) (by decide) rfl ?_
  intro p e s m args below meth c s₁ B hml hv
  obtain ⟨rfl, hsz, hB, hK, hP, hD0⟩ := hv
  subst hsz
  have hA0 := mr_A hB hD0
  have hD := hD0.self (sz := s.heap.size)
  generalize hAe : va_A [(q, .inr (1, [.null, .null]))] s.heap.size = A at hD hA0 ⊢
  have hA : ∀ q : Nat, s.heap.size ≤ q → A q := fun q h => by rw [← hAe]; exact Or.inr h
  have hS : va_S A s.heap s.heap [] := va_S.rf
  have hP : va_P (dC, dI) mr_cl [(q, .inr (1, [.null, .null]))] s.heap := hP
  have hBH := hB.at hS hA0
  have hin : meth.name = "<init>" := (name_of_methodNamed B.named B.method).1
  have hx := B.exec
  have hb := B.bytes
  have hr := B.returns
  have hlocks := B.notSynchronized
  have hts : ∀ w ∈ lw_tbl, w.before [.ref q].toArray s = true := hB.hts _
  have hown : s.vm.findClass "MeasureRows$Groups" = some m.cls := findClass_of_methodNamed B.named
  have hl := lv_entry ([.ref q]) (n := 1) (Nat.le_of_ble_eq_true rfl)
  rw [lg_entry_eq]
  generalize (lg_sl ([.ref q]) ++ List.replicate (1 - (lg_sl ([.ref q])).length) Slot.unset).toArray = ls at hl ⊢
  have hl : lv_has ls 1 [(0, .ref q)] := hl
  refine lv_aload_n hx hb d_G_init_0 rfl (lv_at hl 0 rfl) ?_
  refine W.objInit hx hb hown (hts (Cond.methodLink "MeasureRows$Groups" 3 objectInit) mw_40) (hts (Cond.instanceMethod objectInit) mw_41) (hts (Cond.code objectInit ⟨#[0xb1]⟩ 1 none) mw_42) rfl (by rw [hml]; exact hl.1) rfl d_G_init_1 (Nat.le_of_ble_eq_true rfl) (Nat.le_of_ble_eq_true rfl) ?_
  refine W.eq (g2 := F0 m 4 ls []) rfl ?_
  refine lv_aload_n hx hb d_G_init_4 rfl (lv_at hl 0 rfl) ?_
  refine lv_bipush (v := 8) hx hb d_G_init_5 (by decide) ?_
  refine va_newa (atype := .int) hx hb (hts (Cond.arrayClass .int) mw_43) (ty := .int) rfl hK hP hD hS hA (n := 8) (N' := 8) (a0 := (8, .inl (fun _ => 0))) (fun _ => rfl) (by decide) (by decide) (by decide) (Nat.le_of_ble_eq_true rfl) (Nat.le_of_ble_eq_true rfl) d_G_init_7 (fun q_1 cA_2 H hK1 hP hD hS => ?_)
  rw [mr_sameI hK1] at hP hD
  clear hK1
  have hP : va_P (dC, dI) mr_cl [(q, .inr (1, [.null, .null])), (q_1, .inl (cI, 8, .inl (fun _ => 0)))] H := hP
  have hD : va_D A [(q, .inr (1, [.null, .null])), (q_1, .inl (cI, 8, .inl (fun _ => 0)))] := hD
  have hBH := hB.at hS hA0
  refine W.widen (k := 1) (n := 8) (by omega) (by omega) ?_
  refine va_putF (D := (dC, dI)) (ci := 1) (v := .ref q_1) (ty := (.array .int)) (C := R_G) (T := T_G) (N := 2) hx hb hts ti_G t_G to_G tn_G hown hK hP hD hS 0 rfl rfl 0 (by decide) (hts (Cond.fieldLink "MeasureRows$Groups" 9 "MeasureRows$Groups" "members" "[I") mw_44) (fun _ h9 => h9) rfl hin rfl (by decide +kernel) rfl rfl (Nat.le_of_ble_eq_true rfl) d_G_init_9 (fun H locs hP hD hS => ?_)
  have hP : va_P (dC, dI) mr_cl [(q, .inr (1, [.ref q_1, .null])), (q_1, .inl (cI, 8, .inl (fun _ => 0)))] H := hP
  have hD : va_D A [(q, .inr (1, [.ref q_1, .null])), (q_1, .inl (cI, 8, .inl (fun _ => 0)))] := hD
  have hBH := hB.at hS hA0
  refine lv_aload_n hx hb d_G_init_12 rfl (lv_at hl 0 rfl) ?_
  refine lv_bipush (v := 8) hx hb d_G_init_13 (by decide) ?_
  refine va_newa (atype := .int) hx hb (hts (Cond.arrayClass .int) mw_43) (ty := .int) rfl hK hP hD hS hA (n := 8) (N' := 8) (a0 := (8, .inl (fun _ => 0))) (fun _ => rfl) (by decide) (by decide) (by decide) (Nat.le_of_ble_eq_true rfl) (Nat.le_of_ble_eq_true rfl) d_G_init_15 (fun q_3 cA_4 H hK1 hP hD hS => ?_)
  rw [mr_sameI hK1] at hP hD
  clear hK1
  have hP : va_P (dC, dI) mr_cl [(q, .inr (1, [.ref q_1, .null])), (q_1, .inl (cI, 8, .inl (fun _ => 0))), (q_3, .inl (cI, 8, .inl (fun _ => 0)))] H := hP
  have hD : va_D A [(q, .inr (1, [.ref q_1, .null])), (q_1, .inl (cI, 8, .inl (fun _ => 0))), (q_3, .inl (cI, 8, .inl (fun _ => 0)))] := hD
  have hBH := hB.at hS hA0
  refine W.widen (k := 2) (n := 16) (by omega) (by omega) ?_
  refine va_putF (D := (dC, dI)) (ci := 1) (v := .ref q_3) (ty := (.array .int)) (C := R_G) (T := T_G) (N := 2) hx hb hts ti_G t_G to_G tn_G hown hK hP hD hS 0 rfl rfl 1 (by decide) (hts (Cond.fieldLink "MeasureRows$Groups" 15 "MeasureRows$Groups" "inside" "[I") mw_25) (fun _ h9 => h9) rfl hin rfl (by decide +kernel) rfl rfl (Nat.le_of_ble_eq_true rfl) d_G_init_17 (fun H locs hP hD hS => ?_)
  have hP : va_P (dC, dI) mr_cl [(q, .inr (1, [.ref q_1, .ref q_3])), (q_1, .inl (cI, 8, .inl (fun _ => 0))), (q_3, .inl (cI, 8, .inl (fun _ => 0)))] H := hP
  have hD : va_D A [(q, .inr (1, [.ref q_1, .ref q_3])), (q_1, .inl (cI, 8, .inl (fun _ => 0))), (q_3, .inl (cI, 8, .inl (fun _ => 0)))] := hD
  have hBH := hB.at hS hA0
  have hP9 := hP.sub (ws' := [(q, .inr (1, [.ref q_1, .ref q_3])), (q_1, .inl (cI, 8, .inl (fun _ => 0))), (q_3, .inl (cI, 8, .inl (fun _ => 0)))]) [0, 1, 2] rfl
  have hD9 := hD.sub (ws' := [(q, .inr (1, [.ref q_1, .ref q_3])), (q_1, .inl (cI, 8, .inl (fun _ => 0))), (q_3, .inl (cI, 8, .inl (fun _ => 0)))]) [0, 1, 2] (by decide) rfl
  exact W.vret hx hb hr (fun t ht hW => ⟨⟨(q_1, q_3), rfl, trivial, by rw [ht]; exact hP9, va_K.moved hW.alike hK, hD9⟩, hS.F ht⟩) hS.2.2 d_G_init_20
set_option maxHeartbeats 4000000 in
set_option maxRecDepth 100000 in
theorem mc_M_init (l : Launch) (s0 : State) (dC : Nat → ClassId) (dI : Nat → Nat → Nat) (cI cR cL cZ : ClassId) (q : Nat) (sz : Nat)   : Met l y_M_init [Cond.code y_M_init b_M_init 1 none] ({ frames := 2, cells := 7, slots := 266, locals := 40 }) (mr_PC s0 (dC, dI) [(cI, .int), (cR, .object "MeasureRows$Row"), (cL, .long), (cZ, .boolean)] [.ref q] [(q, .inr (0, [.null, .null, .int 0, .int 0, .int 0, .null, .int 0, .null, .null]))] sz) (va_Qv (fun u => u 0 = q) (fun (u : Nat → Nat) t => mr_W (dC, dI) [(cI, .int), (cR, .object "MeasureRows$Row"), (cL, .long), (cZ, .boolean)] (va_A [(q, .inr (0, [.null, .null, .int 0, .int 0, .int 0, .null, .int 0, .null, .null]))] sz) [((u 0), .inr (0, mf_M u (nI 0) 0 0 0)), ((u 1), .inr (1, [.ref (u 2), .ref (u 3)])), ((u 2), .inl (cI, 8, .inl (fun _ => 0))), ((u 3), .inl (cI, 8, .inl (fun _ => 0))), ((u 4), .inl (cR, 80, .inr (.inr (.inr (.inr (fun _ => none)))))), ((u 5), .inl (cI, 80, .inl (fun _ => 0))), ((u 6), .inl (cI, 80, .inl (fun _ => 0))), ((u 7), .inl (cI, 8, .inl (fun _ => 0)))] t) (va_A [(q, .inr (0, [.null, .null, .int 0, .int 0, .int 0, .null, .int 0, .null, .null]))] sz)) 7 266 (va_A [(q, .inr (0, [.null, .null, .int 0, .int 0, .int 0, .null, .int 0, .null, .null]))] sz) := by
  refine Met.ofW (cc := b_M_init) (maxL := 1) (ret := none) (by decide) rfl ?_
  intro p e s m args below meth c s₁ B hml hv
  obtain ⟨rfl, hsz, hB, hK, hP, hD0⟩ := hv
  subst hsz
  have hA0 := mr_A hB hD0
  have hD := hD0.self (sz := s.heap.size)
  generalize hAe : va_A [(q, .inr (0, [.null, .null, .int 0, .int 0, .int 0, .null, .int 0, .null, .null]))] s.heap.size = A at hD hA0 ⊢
  have hA : ∀ q : Nat, s.heap.size ≤ q → A q := fun q h => by rw [← hAe]; exact Or.inr h
  have hS : va_S A s.heap s.heap [] := va_S.rf
  have hP : va_P (dC, dI) mr_cl [(q, .inr (0, [.null, .null, .int 0, .int 0, .int 0, .null, .int 0, .null, .null]))] s.heap := hP
  have hBH := hB.at hS hA0
  have hin : meth.name = "<init>" := (name_of_methodNamed B.named B.method).1
  have hx := B.exec
  have hb := B.bytes
  have hr := B.returns
  have hlocks := B.notSynchronized
  have hts : ∀ w ∈ lw_tbl, w.before [.ref q].toArray s = true := hB.hts _
  have hown : s.vm.findClass "MeasureRows" = some m.cls := findClass_of_methodNamed B.named
  have hl := lv_entry ([.ref q]) (n := 1) (Nat.le_of_ble_eq_true rfl)
  rw [lg_entry_eq]
  generalize (lg_sl ([.ref q]) ++ List.replicate (1 - (lg_sl ([.ref q])).length) Slot.unset).toArray = ls at hl ⊢
  have hl : lv_has ls 1 [(0, .ref q)] := hl
  refine lv_aload_n hx hb d_M_init_0 rfl (lv_at hl 0 rfl) ?_
  refine W.objInit hx hb hown (hts (Cond.methodLink "MeasureRows" 1 objectInit) mw_45) (hts (Cond.instanceMethod objectInit) mw_41) (hts (Cond.code objectInit ⟨#[0xb1]⟩ 1 none) mw_42) rfl (by rw [hml]; exact hl.1) rfl d_M_init_1 (Nat.le_of_ble_eq_true rfl) (Nat.le_of_ble_eq_true rfl) ?_
  refine W.eq (g2 := F0 m 4 ls []) rfl ?_
  refine lv_aload_n hx hb d_M_init_4 rfl (lv_at hl 0 rfl) ?_
  refine va_new (ci := 1) (fs := [.null, .null]) (C := R_G) (T := T_G) (N := 2) hx hb hts ti_G t_G to_G hown (hts (Cond.classLink "MeasureRows" 7 R_G) mw_46) (hts (Cond.instantiable R_G 2) mw_47) (hts (Cond.initialized R_G) mw_48) hK hP hD hS hA rfl (fun j hj => by rcases (show j = 0 ∨ j = 1 by omega) with rfl | rfl <;> rfl) (Nat.le_of_ble_eq_true rfl) (Nat.le_of_ble_eq_true rfl) d_M_init_5 (fun q_1 H hP hD hS => ?_)
  have hP : va_P (dC, dI) mr_cl [(q, .inr (0, [.null, .null, .int 0, .int 0, .int 0, .null, .int 0, .null, .null])), (q_1, .inr (1, [.null, .null]))] H := hP
  have hD : va_D A [(q, .inr (0, [.null, .null, .int 0, .int 0, .int 0, .null, .int 0, .null, .null])), (q_1, .inr (1, [.null, .null]))] := hD
  have hBH := hB.at hS hA0
  refine W.widen (k := 1) (n := 2) (by omega) (by omega) ?_
  refine lv_dup hx hb d_M_init_8 rfl ?_
  have hPc := hP.sub (ws' := [(q_1, .inr (1, [.null, .null]))]) [1] rfl
  have hDc := hD.sub (ws' := [(q_1, .inr (1, [.null, .null]))]) [1] (by decide) rfl
  have hFc := va_free (wc := [(q_1, .inr (1, [.null, .null]))]) hD hS hA [1] rfl
  refine va_callv (va_runI (As := []) (rest := [.ref q_1, .ref q]) ⟨hx, hb, hml, hown, hts⟩ (mc_G_init l s0 dC dI cI cR cL cZ q_1 _) ⟨(mr_cB 0 (hts (Cond.code y_G_init b_G_init 1 none) mw_49) (hts (Cond.initialized y_G_init.cls) mw_50) (hts (Cond.methodLink "MeasureRows" 9 y_G_init) mw_51) rfl rfl (by decide +kernel) ⟨Nat.le_of_ble_eq_true rfl, Nat.le_of_ble_eq_true rfl⟩), rfl, (hts (Cond.instanceMethod y_G_init) mw_52)⟩ (mr_preCS hBH hK hPc (hDc.weaken (fun _ _ _ h => hA0 _ h))) rfl rfl hl.1 rfl (lv_room (Nat.le_of_ble_eq_true rfl)) d_M_init_9 ⟨Nat.le_of_ble_eq_true rfl, Nat.le_of_ble_eq_true rfl⟩) hS (fun q _ h => hFc q h) hFc (fun u_3 t H1 locs ht hvm hw hB1 hz1 hk1 hS => ?_)
  obtain ⟨gm_4, gi_5⟩ := u_3
  obtain ⟨hP1, hK1, hD1⟩ := hB1
  rw [ht] at hP1
  obtain ⟨hP, hD⟩ := va_join (wr := [(q, .inr (0, [.null, .null, .int 0, .int 0, .int 0, .null, .int 0, .null, .null]))]) (w1 := [(q_1, .inr (1, [.ref gm_4, .ref gi_5])), (gm_4, .inl (cI, 8, .inl (fun _ => 0))), (gi_5, .inl (cI, 8, .inl (fun _ => 0)))]) hP hD [1] [0] rfl rfl (by decide) (by decide) hk1 hFc hP1 hD1
  clear hK1 hk1 hPc hDc hFc
  generalize H1 = H at hP hS ht ⊢
  have hP : va_P (dC, dI) mr_cl [(q, .inr (0, [.null, .null, .int 0, .int 0, .int 0, .null, .int 0, .null, .null])), (q_1, .inr (1, [.ref gm_4, .ref gi_5])), (gm_4, .inl (cI, 8, .inl (fun _ => 0))), (gi_5, .inl (cI, 8, .inl (fun _ => 0)))] H := hP
  have hD : va_D A [(q, .inr (0, [.null, .null, .int 0, .int 0, .int 0, .null, .int 0, .null, .null])), (q_1, .inr (1, [.ref gm_4, .ref gi_5])), (gm_4, .inl (cI, 8, .inl (fun _ => 0))), (gi_5, .inl (cI, 8, .inl (fun _ => 0)))] := hD
  have hBH := hB.at hS hA0
  refine W.widen (k := 3) (n := 18) (by omega) (by omega) ?_
  refine va_putF (D := (dC, dI)) (ci := 0) (v := .ref q_1) (ty := (.object "MeasureRows$Groups")) (C := R_M) (T := T_M) (N := 9) hx hb hts ti_M t_M to_M tn_M hown hK hP hD hS 0 rfl rfl 0 (by decide) (hts (Cond.fieldLink "MeasureRows" 10 "MeasureRows" "groups" "LMeasureRows$Groups;") mw_53) (fun _ h9 => h9) rfl hin rfl (by decide +kernel) rfl rfl (Nat.le_of_ble_eq_true rfl) d_M_init_12 (fun H locs hP hD hS => ?_)
  have hP : va_P (dC, dI) mr_cl [(q, .inr (0, [.ref q_1, .null, .int 0, .int 0, .int 0, .null, .int 0, .null, .null])), (q_1, .inr (1, [.ref gm_4, .ref gi_5])), (gm_4, .inl (cI, 8, .inl (fun _ => 0))), (gi_5, .inl (cI, 8, .inl (fun _ => 0)))] H := hP
  have hD : va_D A [(q, .inr (0, [.ref q_1, .null, .int 0, .int 0, .int 0, .null, .int 0, .null, .null])), (q_1, .inr (1, [.ref gm_4, .ref gi_5])), (gm_4, .inl (cI, 8, .inl (fun _ => 0))), (gi_5, .inl (cI, 8, .inl (fun _ => 0)))] := hD
  have hBH := hB.at hS hA0
  refine lv_aload_n hx hb d_M_init_15 rfl (lv_at hl 0 rfl) ?_
  refine lv_bipush (v := 80) hx hb d_M_init_16 (by decide) ?_
  refine va_newq hx hb hown (hts (Cond.classLink "MeasureRows" 16 "MeasureRows$Row") mw_54) (va_AO.of (hts (Cond.arrayOver (.object "MeasureRows$Row")) mw_55)) hK hP hD hS hA (n := 80) (N' := 80) (by decide) (by decide) (by decide) (Nat.le_of_ble_eq_true rfl) (Nat.le_of_ble_eq_true rfl) d_M_init_18 (fun q_6 cA_7 H hK1 hP hD hS => ?_)
  rw [mr_sameR hK1] at hP hD
  clear hK1
  have hP : va_P (dC, dI) mr_cl [(q, .inr (0, [.ref q_1, .null, .int 0, .int 0, .int 0, .null, .int 0, .null, .null])), (q_1, .inr (1, [.ref gm_4, .ref gi_5])), (gm_4, .inl (cI, 8, .inl (fun _ => 0))), (gi_5, .inl (cI, 8, .inl (fun _ => 0))), (q_6, .inl (cR, 80, .inr (.inr (.inr (.inr (fun _ => none))))))] H := hP
  have hD : va_D A [(q, .inr (0, [.ref q_1, .null, .int 0, .int 0, .int 0, .null, .int 0, .null, .null])), (q_1, .inr (1, [.ref gm_4, .ref gi_5])), (gm_4, .inl (cI, 8, .inl (fun _ => 0))), (gi_5, .inl (cI, 8, .inl (fun _ => 0))), (q_6, .inl (cR, 80, .inr (.inr (.inr (.inr (fun _ => none))))))] := hD
  have hBH := hB.at hS hA0
  refine W.widen (k := 4) (n := 98) (by omega) (by omega) ?_
  refine va_putF (D := (dC, dI)) (ci := 0) (v := .ref q_6) (ty := (.array (.object "MeasureRows$Row"))) (C := R_M) (T := T_M) (N := 9) hx hb hts ti_M t_M to_M tn_M hown hK hP hD hS 0 rfl rfl 1 (by decide) (hts (Cond.fieldLink "MeasureRows" 18 "MeasureRows" "rows" "[LMeasureRows$Row;") mw_56) (fun _ h9 => h9) rfl hin rfl (by decide +kernel) rfl rfl (Nat.le_of_ble_eq_true rfl) d_M_init_21 (fun H locs hP hD hS => ?_)
  have hP : va_P (dC, dI) mr_cl [(q, .inr (0, [.ref q_1, .ref q_6, .int 0, .int 0, .int 0, .null, .int 0, .null, .null])), (q_1, .inr (1, [.ref gm_4, .ref gi_5])), (gm_4, .inl (cI, 8, .inl (fun _ => 0))), (gi_5, .inl (cI, 8, .inl (fun _ => 0))), (q_6, .inl (cR, 80, .inr (.inr (.inr (.inr (fun _ => none))))))] H := hP
  have hD : va_D A [(q, .inr (0, [.ref q_1, .ref q_6, .int 0, .int 0, .int 0, .null, .int 0, .null, .null])), (q_1, .inr (1, [.ref gm_4, .ref gi_5])), (gm_4, .inl (cI, 8, .inl (fun _ => 0))), (gi_5, .inl (cI, 8, .inl (fun _ => 0))), (q_6, .inl (cR, 80, .inr (.inr (.inr (.inr (fun _ => none))))))] := hD
  have hBH := hB.at hS hA0
  refine lv_aload_n hx hb d_M_init_24 rfl (lv_at hl 0 rfl) ?_
  refine lv_iconst (v := 0) hx hb d_M_init_25 (by decide) ?_
  refine va_put (D := (dC, dI)) (ci := 0) (v := .int 0) (ty := .int) (C := R_M) (T := T_M) (N := 9) hx hb hts ti_M t_M to_M tn_M hown hK hP hD hS 0 rfl rfl 2 (by decide) (hts (Cond.fieldLink "MeasureRows" 22 "MeasureRows" "rowCount" "I") mw_57) (fun _ h9 => h9) rfl (by decide +kernel) rfl rfl (Nat.le_of_ble_eq_true rfl) d_M_init_26 (fun H locs hP hD hS => ?_)
  have hP : va_P (dC, dI) mr_cl [(q, .inr (0, [.ref q_1, .ref q_6, .int 0, .int 0, .int 0, .null, .int 0, .null, .null])), (q_1, .inr (1, [.ref gm_4, .ref gi_5])), (gm_4, .inl (cI, 8, .inl (fun _ => 0))), (gi_5, .inl (cI, 8, .inl (fun _ => 0))), (q_6, .inl (cR, 80, .inr (.inr (.inr (.inr (fun _ => none))))))] H := hP
  have hD : va_D A [(q, .inr (0, [.ref q_1, .ref q_6, .int 0, .int 0, .int 0, .null, .int 0, .null, .null])), (q_1, .inr (1, [.ref gm_4, .ref gi_5])), (gm_4, .inl (cI, 8, .inl (fun _ => 0))), (gi_5, .inl (cI, 8, .inl (fun _ => 0))), (q_6, .inl (cR, 80, .inr (.inr (.inr (.inr (fun _ => none))))))] := hD
  have hBH := hB.at hS hA0
  refine lv_aload_n hx hb d_M_init_29 rfl (lv_at hl 0 rfl) ?_
  refine lv_iconst (v := 0) hx hb d_M_init_30 (by decide) ?_
  refine va_put (D := (dC, dI)) (ci := 0) (v := .int 0) (ty := .int) (C := R_M) (T := T_M) (N := 9) hx hb hts ti_M t_M to_M tn_M hown hK hP hD hS 0 rfl rfl 3 (by decide) (hts (Cond.fieldLink "MeasureRows" 26 "MeasureRows" "now" "I") mw_58) (fun _ h9 => h9) rfl (by decide +kernel) rfl rfl (Nat.le_of_ble_eq_true rfl) d_M_init_31 (fun H locs hP hD hS => ?_)
  have hP : va_P (dC, dI) mr_cl [(q, .inr (0, [.ref q_1, .ref q_6, .int 0, .int 0, .int 0, .null, .int 0, .null, .null])), (q_1, .inr (1, [.ref gm_4, .ref gi_5])), (gm_4, .inl (cI, 8, .inl (fun _ => 0))), (gi_5, .inl (cI, 8, .inl (fun _ => 0))), (q_6, .inl (cR, 80, .inr (.inr (.inr (.inr (fun _ => none))))))] H := hP
  have hD : va_D A [(q, .inr (0, [.ref q_1, .ref q_6, .int 0, .int 0, .int 0, .null, .int 0, .null, .null])), (q_1, .inr (1, [.ref gm_4, .ref gi_5])), (gm_4, .inl (cI, 8, .inl (fun _ => 0))), (gi_5, .inl (cI, 8, .inl (fun _ => 0))), (q_6, .inl (cR, 80, .inr (.inr (.inr (.inr (fun _ => none))))))] := hD
  have hBH := hB.at hS hA0
  refine lv_aload_n hx hb d_M_init_34 rfl (lv_at hl 0 rfl) ?_
  refine lv_iconst (v := 0) hx hb d_M_init_35 (by decide) ?_
  refine va_put (D := (dC, dI)) (ci := 0) (v := .int 0) (ty := .int) (C := R_M) (T := T_M) (N := 9) hx hb hts ti_M t_M to_M tn_M hown hK hP hD hS 0 rfl rfl 4 (by decide) (hts (Cond.fieldLink "MeasureRows" 29 "MeasureRows" "paperBits" "I") mw_59) (fun _ h9 => h9) rfl (by decide +kernel) rfl rfl (Nat.le_of_ble_eq_true rfl) d_M_init_36 (fun H locs hP hD hS => ?_)
  have hP : va_P (dC, dI) mr_cl [(q, .inr (0, [.ref q_1, .ref q_6, .int 0, .int 0, .int 0, .null, .int 0, .null, .null])), (q_1, .inr (1, [.ref gm_4, .ref gi_5])), (gm_4, .inl (cI, 8, .inl (fun _ => 0))), (gi_5, .inl (cI, 8, .inl (fun _ => 0))), (q_6, .inl (cR, 80, .inr (.inr (.inr (.inr (fun _ => none))))))] H := hP
  have hD : va_D A [(q, .inr (0, [.ref q_1, .ref q_6, .int 0, .int 0, .int 0, .null, .int 0, .null, .null])), (q_1, .inr (1, [.ref gm_4, .ref gi_5])), (gm_4, .inl (cI, 8, .inl (fun _ => 0))), (gi_5, .inl (cI, 8, .inl (fun _ => 0))), (q_6, .inl (cR, 80, .inr (.inr (.inr (.inr (fun _ => none))))))] := hD
  have hBH := hB.at hS hA0
  refine lv_aload_n hx hb d_M_init_39 rfl (lv_at hl 0 rfl) ?_
  refine lv_bipush (v := 80) hx hb d_M_init_40 (by decide) ?_
  refine va_newa (atype := .int) hx hb (hts (Cond.arrayClass .int) mw_43) (ty := .int) rfl hK hP hD hS hA (n := 80) (N' := 80) (a0 := (80, .inl (fun _ => 0))) (fun _ => rfl) (by decide) (by decide) (by decide) (Nat.le_of_ble_eq_true rfl) (Nat.le_of_ble_eq_true rfl) d_M_init_42 (fun q_8 cA_9 H hK1 hP hD hS => ?_)
  rw [mr_sameI hK1] at hP hD
  clear hK1
  have hP : va_P (dC, dI) mr_cl [(q, .inr (0, [.ref q_1, .ref q_6, .int 0, .int 0, .int 0, .null, .int 0, .null, .null])), (q_1, .inr (1, [.ref gm_4, .ref gi_5])), (gm_4, .inl (cI, 8, .inl (fun _ => 0))), (gi_5, .inl (cI, 8, .inl (fun _ => 0))), (q_6, .inl (cR, 80, .inr (.inr (.inr (.inr (fun _ => none)))))), (q_8, .inl (cI, 80, .inl (fun _ => 0)))] H := hP
  have hD : va_D A [(q, .inr (0, [.ref q_1, .ref q_6, .int 0, .int 0, .int 0, .null, .int 0, .null, .null])), (q_1, .inr (1, [.ref gm_4, .ref gi_5])), (gm_4, .inl (cI, 8, .inl (fun _ => 0))), (gi_5, .inl (cI, 8, .inl (fun _ => 0))), (q_6, .inl (cR, 80, .inr (.inr (.inr (.inr (fun _ => none)))))), (q_8, .inl (cI, 80, .inl (fun _ => 0)))] := hD
  have hBH := hB.at hS hA0
  refine W.widen (k := 5) (n := 178) (by omega) (by omega) ?_
  refine va_putF (D := (dC, dI)) (ci := 0) (v := .ref q_8) (ty := (.array .int)) (C := R_M) (T := T_M) (N := 9) hx hb hts ti_M t_M to_M tn_M hown hK hP hD hS 0 rfl rfl 5 (by decide) (hts (Cond.fieldLink "MeasureRows" 32 "MeasureRows" "listed" "[I") mw_60) (fun _ h9 => h9) rfl hin rfl (by decide +kernel) rfl rfl (Nat.le_of_ble_eq_true rfl) d_M_init_44 (fun H locs hP hD hS => ?_)
  have hP : va_P (dC, dI) mr_cl [(q, .inr (0, [.ref q_1, .ref q_6, .int 0, .int 0, .int 0, .ref q_8, .int 0, .null, .null])), (q_1, .inr (1, [.ref gm_4, .ref gi_5])), (gm_4, .inl (cI, 8, .inl (fun _ => 0))), (gi_5, .inl (cI, 8, .inl (fun _ => 0))), (q_6, .inl (cR, 80, .inr (.inr (.inr (.inr (fun _ => none)))))), (q_8, .inl (cI, 80, .inl (fun _ => 0)))] H := hP
  have hD : va_D A [(q, .inr (0, [.ref q_1, .ref q_6, .int 0, .int 0, .int 0, .ref q_8, .int 0, .null, .null])), (q_1, .inr (1, [.ref gm_4, .ref gi_5])), (gm_4, .inl (cI, 8, .inl (fun _ => 0))), (gi_5, .inl (cI, 8, .inl (fun _ => 0))), (q_6, .inl (cR, 80, .inr (.inr (.inr (.inr (fun _ => none)))))), (q_8, .inl (cI, 80, .inl (fun _ => 0)))] := hD
  have hBH := hB.at hS hA0
  refine lv_aload_n hx hb d_M_init_47 rfl (lv_at hl 0 rfl) ?_
  refine lv_iconst (v := 0) hx hb d_M_init_48 (by decide) ?_
  refine va_put (D := (dC, dI)) (ci := 0) (v := .int 0) (ty := .int) (C := R_M) (T := T_M) (N := 9) hx hb hts ti_M t_M to_M tn_M hown hK hP hD hS 0 rfl rfl 6 (by decide) (hts (Cond.fieldLink "MeasureRows" 36 "MeasureRows" "listedCount" "I") mw_61) (fun _ h9 => h9) rfl (by decide +kernel) rfl rfl (Nat.le_of_ble_eq_true rfl) d_M_init_49 (fun H locs hP hD hS => ?_)
  have hP : va_P (dC, dI) mr_cl [(q, .inr (0, [.ref q_1, .ref q_6, .int 0, .int 0, .int 0, .ref q_8, .int 0, .null, .null])), (q_1, .inr (1, [.ref gm_4, .ref gi_5])), (gm_4, .inl (cI, 8, .inl (fun _ => 0))), (gi_5, .inl (cI, 8, .inl (fun _ => 0))), (q_6, .inl (cR, 80, .inr (.inr (.inr (.inr (fun _ => none)))))), (q_8, .inl (cI, 80, .inl (fun _ => 0)))] H := hP
  have hD : va_D A [(q, .inr (0, [.ref q_1, .ref q_6, .int 0, .int 0, .int 0, .ref q_8, .int 0, .null, .null])), (q_1, .inr (1, [.ref gm_4, .ref gi_5])), (gm_4, .inl (cI, 8, .inl (fun _ => 0))), (gi_5, .inl (cI, 8, .inl (fun _ => 0))), (q_6, .inl (cR, 80, .inr (.inr (.inr (.inr (fun _ => none)))))), (q_8, .inl (cI, 80, .inl (fun _ => 0)))] := hD
  have hBH := hB.at hS hA0
  refine lv_aload_n hx hb d_M_init_52 rfl (lv_at hl 0 rfl) ?_
  refine lv_bipush (v := 80) hx hb d_M_init_53 (by decide) ?_
  refine va_newa (atype := .int) hx hb (hts (Cond.arrayClass .int) mw_43) (ty := .int) rfl hK hP hD hS hA (n := 80) (N' := 80) (a0 := (80, .inl (fun _ => 0))) (fun _ => rfl) (by decide) (by decide) (by decide) (Nat.le_of_ble_eq_true rfl) (Nat.le_of_ble_eq_true rfl) d_M_init_55 (fun q_10 cA_11 H hK1 hP hD hS => ?_)
  rw [mr_sameI hK1] at hP hD
  clear hK1
  have hP : va_P (dC, dI) mr_cl [(q, .inr (0, [.ref q_1, .ref q_6, .int 0, .int 0, .int 0, .ref q_8, .int 0, .null, .null])), (q_1, .inr (1, [.ref gm_4, .ref gi_5])), (gm_4, .inl (cI, 8, .inl (fun _ => 0))), (gi_5, .inl (cI, 8, .inl (fun _ => 0))), (q_6, .inl (cR, 80, .inr (.inr (.inr (.inr (fun _ => none)))))), (q_8, .inl (cI, 80, .inl (fun _ => 0))), (q_10, .inl (cI, 80, .inl (fun _ => 0)))] H := hP
  have hD : va_D A [(q, .inr (0, [.ref q_1, .ref q_6, .int 0, .int 0, .int 0, .ref q_8, .int 0, .null, .null])), (q_1, .inr (1, [.ref gm_4, .ref gi_5])), (gm_4, .inl (cI, 8, .inl (fun _ => 0))), (gi_5, .inl (cI, 8, .inl (fun _ => 0))), (q_6, .inl (cR, 80, .inr (.inr (.inr (.inr (fun _ => none)))))), (q_8, .inl (cI, 80, .inl (fun _ => 0))), (q_10, .inl (cI, 80, .inl (fun _ => 0)))] := hD
  have hBH := hB.at hS hA0
  refine W.widen (k := 6) (n := 258) (by omega) (by omega) ?_
  refine va_putF (D := (dC, dI)) (ci := 0) (v := .ref q_10) (ty := (.array .int)) (C := R_M) (T := T_M) (N := 9) hx hb hts ti_M t_M to_M tn_M hown hK hP hD hS 0 rfl rfl 7 (by decide) (hts (Cond.fieldLink "MeasureRows" 39 "MeasureRows" "candidates" "[I") mw_62) (fun _ h9 => h9) rfl hin rfl (by decide +kernel) rfl rfl (Nat.le_of_ble_eq_true rfl) d_M_init_57 (fun H locs hP hD hS => ?_)
  have hP : va_P (dC, dI) mr_cl [(q, .inr (0, [.ref q_1, .ref q_6, .int 0, .int 0, .int 0, .ref q_8, .int 0, .ref q_10, .null])), (q_1, .inr (1, [.ref gm_4, .ref gi_5])), (gm_4, .inl (cI, 8, .inl (fun _ => 0))), (gi_5, .inl (cI, 8, .inl (fun _ => 0))), (q_6, .inl (cR, 80, .inr (.inr (.inr (.inr (fun _ => none)))))), (q_8, .inl (cI, 80, .inl (fun _ => 0))), (q_10, .inl (cI, 80, .inl (fun _ => 0)))] H := hP
  have hD : va_D A [(q, .inr (0, [.ref q_1, .ref q_6, .int 0, .int 0, .int 0, .ref q_8, .int 0, .ref q_10, .null])), (q_1, .inr (1, [.ref gm_4, .ref gi_5])), (gm_4, .inl (cI, 8, .inl (fun _ => 0))), (gi_5, .inl (cI, 8, .inl (fun _ => 0))), (q_6, .inl (cR, 80, .inr (.inr (.inr (.inr (fun _ => none)))))), (q_8, .inl (cI, 80, .inl (fun _ => 0))), (q_10, .inl (cI, 80, .inl (fun _ => 0)))] := hD
  have hBH := hB.at hS hA0
  refine lv_aload_n hx hb d_M_init_60 rfl (lv_at hl 0 rfl) ?_
  refine lv_bipush (v := 8) hx hb d_M_init_61 (by decide) ?_
  refine va_newa (atype := .int) hx hb (hts (Cond.arrayClass .int) mw_43) (ty := .int) rfl hK hP hD hS hA (n := 8) (N' := 8) (a0 := (8, .inl (fun _ => 0))) (fun _ => rfl) (by decide) (by decide) (by decide) (Nat.le_of_ble_eq_true rfl) (Nat.le_of_ble_eq_true rfl) d_M_init_63 (fun q_12 cA_13 H hK1 hP hD hS => ?_)
  rw [mr_sameI hK1] at hP hD
  clear hK1
  have hP : va_P (dC, dI) mr_cl [(q, .inr (0, [.ref q_1, .ref q_6, .int 0, .int 0, .int 0, .ref q_8, .int 0, .ref q_10, .null])), (q_1, .inr (1, [.ref gm_4, .ref gi_5])), (gm_4, .inl (cI, 8, .inl (fun _ => 0))), (gi_5, .inl (cI, 8, .inl (fun _ => 0))), (q_6, .inl (cR, 80, .inr (.inr (.inr (.inr (fun _ => none)))))), (q_8, .inl (cI, 80, .inl (fun _ => 0))), (q_10, .inl (cI, 80, .inl (fun _ => 0))), (q_12, .inl (cI, 8, .inl (fun _ => 0)))] H := hP
  have hD : va_D A [(q, .inr (0, [.ref q_1, .ref q_6, .int 0, .int 0, .int 0, .ref q_8, .int 0, .ref q_10, .null])), (q_1, .inr (1, [.ref gm_4, .ref gi_5])), (gm_4, .inl (cI, 8, .inl (fun _ => 0))), (gi_5, .inl (cI, 8, .inl (fun _ => 0))), (q_6, .inl (cR, 80, .inr (.inr (.inr (.inr (fun _ => none)))))), (q_8, .inl (cI, 80, .inl (fun _ => 0))), (q_10, .inl (cI, 80, .inl (fun _ => 0))), (q_12, .inl (cI, 8, .inl (fun _ => 0)))] := hD
  have hBH := hB.at hS hA0
  refine W.widen (k := 7) (n := 266) (by omega) (by omega) ?_
  refine va_putF (D := (dC, dI)) (ci := 0) (v := .ref q_12) (ty := (.array .int)) (C := R_M) (T := T_M) (N := 9) hx hb hts ti_M t_M to_M tn_M hown hK hP hD hS 0 rfl rfl 8 (by decide) (hts (Cond.fieldLink "MeasureRows" 42 "MeasureRows" "greatestWeight" "[I") mw_63) (fun _ h9 => h9) rfl hin rfl (by decide +kernel) rfl rfl (Nat.le_of_ble_eq_true rfl) d_M_init_65 (fun H locs hP hD hS => ?_)
  have hP : va_P (dC, dI) mr_cl [(q, .inr (0, [.ref q_1, .ref q_6, .int 0, .int 0, .int 0, .ref q_8, .int 0, .ref q_10, .ref q_12])), (q_1, .inr (1, [.ref gm_4, .ref gi_5])), (gm_4, .inl (cI, 8, .inl (fun _ => 0))), (gi_5, .inl (cI, 8, .inl (fun _ => 0))), (q_6, .inl (cR, 80, .inr (.inr (.inr (.inr (fun _ => none)))))), (q_8, .inl (cI, 80, .inl (fun _ => 0))), (q_10, .inl (cI, 80, .inl (fun _ => 0))), (q_12, .inl (cI, 8, .inl (fun _ => 0)))] H := hP
  have hD : va_D A [(q, .inr (0, [.ref q_1, .ref q_6, .int 0, .int 0, .int 0, .ref q_8, .int 0, .ref q_10, .ref q_12])), (q_1, .inr (1, [.ref gm_4, .ref gi_5])), (gm_4, .inl (cI, 8, .inl (fun _ => 0))), (gi_5, .inl (cI, 8, .inl (fun _ => 0))), (q_6, .inl (cR, 80, .inr (.inr (.inr (.inr (fun _ => none)))))), (q_8, .inl (cI, 80, .inl (fun _ => 0))), (q_10, .inl (cI, 80, .inl (fun _ => 0))), (q_12, .inl (cI, 8, .inl (fun _ => 0)))] := hD
  have hBH := hB.at hS hA0
  obtain ⟨rr, hrr⟩ : ∃ rr : Nat → Nat, rr = fun k => match k with | 0 => q | 1 => q_1 | 2 => gm_4 | 3 => gi_5 | 4 => q_6 | 5 => q_8 | 6 => q_10 | _ => q_12 := ⟨_, rfl⟩
  have hP9 : va_P (dC, dI) mr_cl [((rr 0), .inr (0, mf_M rr (nI 0) 0 0 0)), ((rr 1), .inr (1, [.ref (rr 2), .ref (rr 3)])), ((rr 2), .inl (cI, 8, .inl (fun _ => 0))), ((rr 3), .inl (cI, 8, .inl (fun _ => 0))), ((rr 4), .inl (cR, 80, .inr (.inr (.inr (.inr (fun _ => none)))))), ((rr 5), .inl (cI, 80, .inl (fun _ => 0))), ((rr 6), .inl (cI, 80, .inl (fun _ => 0))), ((rr 7), .inl (cI, 8, .inl (fun _ => 0)))] H := by rw [hrr]; exact hP.sub [0, 1, 2, 3, 4, 5, 6, 7] rfl
  have hD9 : va_D A [((rr 0), .inr (0, mf_M rr (nI 0) 0 0 0)), ((rr 1), .inr (1, [.ref (rr 2), .ref (rr 3)])), ((rr 2), .inl (cI, 8, .inl (fun _ => 0))), ((rr 3), .inl (cI, 8, .inl (fun _ => 0))), ((rr 4), .inl (cR, 80, .inr (.inr (.inr (.inr (fun _ => none)))))), ((rr 5), .inl (cI, 80, .inl (fun _ => 0))), ((rr 6), .inl (cI, 80, .inl (fun _ => 0))), ((rr 7), .inl (cI, 8, .inl (fun _ => 0)))] := by rw [hrr]; exact hD.sub [0, 1, 2, 3, 4, 5, 6, 7] (by decide) rfl
  exact W.vret hx hb hr (fun t ht hW => ⟨⟨rr, rfl, by show rr 0 = q; subst hrr; rfl, by rw [ht]; exact hP9, va_K.moved hW.alike hK, hD9⟩, hS.F ht⟩) hS.2.2 d_M_init_68

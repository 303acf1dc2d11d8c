/-! METHODS THAT THROW: how they end, how a caller goes on or catches -/
section MRA
variable {e : Env} {U : State} {f : JFrame} {a : Addr} {P : Handler → Pre} {E : CtlPost} {d : Bool} {acts : List Action}
/-- a row of the table whose class may have to be looked up first -/
theorem mr_go {x : ExceptionTableEntry} {tb : List ExceptionTableEntry} {k : ClassId} {cell : Cell} (hx : covers x f.pc = true) (h0 : x.catchType ≠ 0) (hl : U.vm.ClassLinks e.platform f.method.cls x.catchType k)
    (hcell : U.heap[a]? = some cell) (hobj : ∀ z, cell.vm ≠ .statics z) (h1 : ∃ z, U.vm.classes[cell.cls]? = some z) (h2 : ∃ z, U.vm.classes[k]? = some z) :
    wp (findHandler.go f a (x :: tb)) P E e d acts U ↔ if U.vm.assignable cell.cls k = true then P (.found x.handlerPc) d acts (U.setVm (U.vm.noted f.method.cls x.catchType (.cls k))) else wp (findHandler.go f a tb) P E e d acts (U.setVm (U.vm.noted f.method.cls x.catchType (.cls k))) := by
  have hal : U.vm.Alike (U.vm.noted f.method.cls x.catchType (.cls k)) := (Vm.Alike.refl U.vm).noted _ _ _
  obtain ⟨h3, h4⟩ := (resolveClass_links e.toSetting hl).op (op := VmOp.resolveClass f.method.cls x.catchType) rfl
  obtain ⟨z1, h1⟩ := h1
  obtain ⟨z2, h2⟩ := h2
  obtain ⟨y1, g1, -⟩ := hal.2.2 _ _ h1
  obtain ⟨y2, g2, -⟩ := hal.2.2 _ _ h2
  have he := hal.assignable cell.cls k
  simp only [covers] at hx
  by_cases hfit : U.vm.assignable cell.cls k = true
  · rw [if_pos hfit]
    rw [hfit] at he
    simp [findHandler.go, hx, h0, h3, h4, hcell, hobj, g1, g2, he, VmOp.dirties, VmOp.acts]
  · rw [if_neg hfit]
    have hf2 : U.vm.assignable cell.cls k = false := by simpa using hfit
    rw [hf2] at he
    simp [findHandler.go, hx, h0, h3, h4, hcell, hobj, g1, g2, he, VmOp.dirties, VmOp.acts]
end MRA
section MRB
variable {p : Program} {l : Launch} {e : Env} {R : Room} {s : State} {m : MethodId} {args : Array Value} {below : List Frame} {meth : Method} {c : Code} {H : Heap} {locs : List Loc} {cells slots : Nat} {Q : State → Prop}
/-- the note 'a is thrown' over the frame g -/
def mr_N (T : State) (g : JFrame) (a : Addr) : State := (T.setTop g).pushFrame (.throwing a)
theorem mr_N_vm (T : State) (g : JFrame) (a : Addr) (v : Vm) : (mr_N T g a).setVm v = mr_N (T.setVm v) g a := rfl
/-- the search ends at the row x; the rows ahead are passed -/
theorem mr_find {own E name : String} {a : Addr} {cell : Cell} {g : JFrame} (hg : g.method = m) (hown : s.vm.findClass own = some m.cls) (hv : cell.vm = .none) (hcl : s.vm.findClass E = some cell.cls)
    {x : ExceptionTableEntry} {suf : List ExceptionTableEntry} (hx : covers x g.pc = true) (h0 : x.catchType ≠ 0) (hlink : (Cond.classLink own x.catchType name).before args s = true) (hcast : (Cond.castable E name).before args s = true) :
    ∀ (pre : List ExceptionTableEntry), (∀ y ∈ pre, covers y g.pc = true ∧ y.catchType ≠ 0 ∧ ∃ nm : String, (Cond.classLink own y.catchType nm).before args s = true ∧ va_Nc E nm s) →
    ∀ T : State, Stand p l e R s m args below meth c T locs cells slots → T.heap[a]? = some cell →
      ∃ vm' : Vm, s.WarmedH vm' ∧ ∀ (P : Handler → Pre) (E' : CtlPost) (d : Bool) (acts : List Action), wp (findHandler.go g a (pre ++ x :: suf)) P E' e d acts (mr_N T g a) ↔ P (.found x.handlerPc) d acts (mr_N (T.setVm vm') g a) := by
  intro pre
  obtain ⟨k9, hk9, -⟩ := Vm.findClass_spec hcl
  have hobj : ∀ z, cell.vm ≠ .statics z := fun z h => by rw [hv] at h; cases h
  induction pre with
  | nil =>
    intro _ T X hT
    have hpl : e.platform.magicAccessors = ({} : Platform).magicAccessors := by rw [X.admits.platform]
    obtain ⟨c3, c4, hc3, hc4, hasg⟩ := Cond.castable_spec hcast
    cases Option.some.inj (hc3.symm.trans hcl)
    obtain ⟨c5, hc5, hl5⟩ := Cond.classLink_spec hown hlink e.platform hpl
    cases Option.some.inj (hc4.symm.trans hc5)
    obtain ⟨dk, _, _, kt, hd, _, _, _, _, hkt, _, hopen⟩ := hl5.here
    have hal := X.warmed.alike
    obtain ⟨kt', hkt', -⟩ := hal.2.2 _ _ hkt
    obtain ⟨kc', hkc', -⟩ := hal.2.2 _ _ hk9
    have hW' : s.WarmedH (T.vm.noted m.cls x.catchType (.cls c4)) := X.warmed.noted hd hopen (State.rightAt_cls hl5)
    refine ⟨_, hW', fun P E' d acts => ?_⟩
    have hf : T.vm.assignable cell.cls c4 = true := by rw [hal.assignable]; exact hasg
    have hll := X.warmed.classLinks hl5
    subst hg
    have h9 := mr_go (e := e) (U := mr_N T g a) (f := g) (a := a) (P := P) (E := E') (d := d) (acts := acts) (tb := suf) hx h0 (k := c4) (cell := cell) hll hT hobj ⟨kc', hkc'⟩ ⟨kt', hkt'⟩
    rw [show (mr_N T g a).vm = T.vm from rfl, if_pos hf] at h9
    exact h9
  | cons y ys ih =>
    intro hp T X hT
    obtain ⟨q1, q2, nm, q3, q4⟩ := hp y (List.mem_cons_self)
    have hpl : e.platform.magicAccessors = ({} : Platform).magicAccessors := by rw [X.admits.platform]
    obtain ⟨c3, c4, hc3, hc4, hasg⟩ := q4
    cases Option.some.inj (hc3.symm.trans hcl)
    obtain ⟨c5, hc5, hl5⟩ := Cond.classLink_spec hown q3 e.platform hpl
    cases Option.some.inj (hc4.symm.trans hc5)
    obtain ⟨dk, _, _, kt, hd, _, _, _, _, hkt, _, hopen⟩ := hl5.here
    have hal := X.warmed.alike
    obtain ⟨kt', hkt', -⟩ := hal.2.2 _ _ hkt
    obtain ⟨kc', hkc', -⟩ := hal.2.2 _ _ hk9
    have hW' : s.WarmedH (T.vm.noted m.cls y.catchType (.cls c4)) := X.warmed.noted hd hopen (State.rightAt_cls hl5)
    have hf : ¬ T.vm.assignable cell.cls c4 = true := by rw [hal.assignable, hasg]; decide
    obtain ⟨vm', hW9, h8⟩ := ih (fun z hz => hp z (List.mem_cons_of_mem _ hz)) (T.setVm (T.vm.noted m.cls y.catchType (.cls c4))) (X.noted hW') hT
    refine ⟨vm', hW9, fun P E' d acts => ?_⟩
    have hll := X.warmed.classLinks hl5
    subst hg
    have h9 := mr_go (e := e) (U := mr_N T g a) (f := g) (a := a) (P := P) (E := E') (d := d) (acts := acts) (tb := ys ++ x :: suf) q1 q2 (k := c4) (cell := cell) hll hT hobj ⟨kc', hkc'⟩ ⟨kt', hkt'⟩
    rw [show (mr_N T g a).vm = T.vm from rfl, if_neg hf] at h9
    exact h9.trans (h8 P E' d acts)
/-- thrown, and caught by the row x of this method's own table -/
theorem mr_caught {own E name : String} {a : Addr} {cell : Cell} {g : JFrame} (hg : g.method = m) (hown : s.vm.findClass own = some m.cls) (hv : cell.vm = .none) (hcl : s.vm.findClass E = some cell.cls)
    {x : ExceptionTableEntry} {pre suf : List ExceptionTableEntry} (hsplit : c.exceptionTable.toList = pre ++ x :: suf) (hx : covers x g.pc = true) (h0 : x.catchType ≠ 0) (hlink : (Cond.classLink own x.catchType name).before args s = true) (hcast : (Cond.castable E name).before args s = true)
    (hp : ∀ y ∈ pre, covers y g.pc = true ∧ y.catchType ≠ 0 ∧ ∃ nm : String, (Cond.classLink own y.catchType nm).before args s = true ∧ va_Nc E nm s)
    {T : State} (X : Stand p l e R s m args below meth c T locs cells slots) (hT : T.heap[a]? = some cell) :
    ∃ vm' : Vm, Stand p l e R s m args below meth c (T.setVm vm') locs cells slots ∧ ∀ target, Steps p.tables e below ((T.setVm vm').setTop { g with pc := x.handlerPc, stack := [.ref a] }) target → Steps p.tables e below (mr_N T g a) target := by
  obtain ⟨vm', hW, hf⟩ := mr_find hg hown hv hcl (suf := suf) hx h0 hlink hcast pre hp T X hT
  refine ⟨vm', X.noted hW, fun target hrest => ?_⟩
  subst hg
  have h : At T g.method c below := X.here
  obtain ⟨hgo, hw⟩ := h.throwing a
  refine Steps.head hgo hw ?_
  obtain ⟨g₀, hg0⟩ := Option.isSome_iff_exists.mp h.top
  obtain ⟨r, hr⟩ := State.topJava?_eq_some.mp hg0
  have hfind : ∀ (P : Handler → Pre) (E' : CtlPost) (d : Bool) (acts : List Action), wp (findHandler g a) P E' e d acts (mr_N T g a) ↔ P (.found x.handlerPc) d acts (mr_N (T.setVm vm') g a) := fun P E' d acts => by
    rw [W.findHandler_eq (s := mr_N T g a) (meth := meth) (code := c) X.method' X.code, hsplit]
    exact hf P E' d acts
  have hstep : (stepThrowing e (mr_N T g a) a (.java g :: r)).1 = (mr_N (T.setVm vm') g a).setFrames (.java { g with pc := x.handlerPc, stack := [.ref a] } :: r) := by
    simp only [stepThrowing, searchFrame, vmDo]
    generalize hq : Sem.go _ e false [] (mr_N T g a) = res
    obtain ⟨as, rfl, ha⟩ := Sem.eq_ok_of hq (a := Handler.found x.handlerPc) (s' := mr_N (T.setVm vm') g a) (acts' := []) (by simp [hfind])
    rfl
  have hfr : (mr_N T g a).frames = .throwing a :: .java g :: r := by
    have h9 := frames_entered (g := g) h.top (.throwing a)
    rw [hr] at h9
    exact h9
  rw [stepThread_throwing hfr, hstep]
  have hr' : (T.setVm vm').frames = .java g₀ :: r := hr
  rw [State.setTop_of_frames _ hr'] at hrest
  unfold mr_N
  rw [State.pushFrame, State.setFrames_setFrames, State.setTop_of_frames _ hr', State.setFrames_setFrames]
  exact hrest
end MRB

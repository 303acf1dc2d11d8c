/-! THE LAW'S HELPERS: methods with a table of their own; calls that may throw into it -/
section MRJ
variable {p : Program} {l : Launch} {e : Env} {R : Room} {s : State} {m : MethodId} {args : Array Value} {below : List Frame} {meth : Method} {c : Code} {H : Heap} {locs : List Loc} {cells slots : Nat} {Q : State → Prop}
variable {Qc : Array Value → State → Outcome → State → Prop} {XC : String → Prop} {mc ms : Nat} {free : Addr → Prop} {Pc : Array Value → State → Prop} {rm : Room} {y : MethodName} {hh : List (Nat × Nat × Nat × Nat)}
theorem mr_ofH {cc : ByteArray} {maxL : Nat} {ret : Option FieldType} (hy : plainName y.cls = true)
    (body : ∀ p e s m args below meth c s₁, BodyLoose p l y (headSpec [Cond.codeWith y cc maxL ret hh] rm) cc maxL ret e s m args below meth c s₁ → c.maxLocals = maxL → c.exceptionTable.toList.map (fun h => (h.startPc, h.endPc, h.handlerPc, h.catchType)) = hh → Pc args s →
      W p l e (headSpec [Cond.codeWith y cc maxL ret hh] rm).room s m args below meth c s.heap [] 0 0 (MQ below Qc args s mc ms free) (entryFrame m args maxL)) : Met l y [Cond.codeWith y cc maxL ret hh] rm Pc Qc mc ms free := by
  refine MetFree.of_bodyS (code := cc) (maxLocals := maxL) (ret := ret) hy ?_ ?_
  · intro args s m h hn
    obtain ⟨m', meth, c, h0, h1, h2, h3, h4, -, h5, h6, -⟩ := Cond.codeWith_spec (atoms_spec (ws := [Cond.codeWith y cc maxL ret hh]) h _ List.mem_cons_self)
    cases hn.symm.trans h0
    exact ⟨meth, c, h1, h2, h3, h4, h5, h6⟩
  · intro p e s m args below meth c s₁ B hml hP _
    obtain ⟨m', meth', c', h0, h1, h2, -, -, htab, -, -, -⟩ := Cond.codeWith_spec (atoms_spec (ws := [Cond.codeWith y cc maxL ret hh]) B.pre _ List.mem_cons_self)
    cases B.named.symm.trans h0
    cases B.method.symm.trans h1
    have hcc : c' = c := by
      have h9 := B.here.code
      rw [B.state, State.code?_eq] at h9
      have h8 : (s.vm.method? m).bind (fun z => z.code) = some c := by simpa [State.setFrames] using h9
      rw [h1] at h8
      exact Option.some.inj (h2.symm.trans h8)
    subst hcc
    have hh0 : s₁.heap = s.heap := by rw [B.state]; rfl
    obtain ⟨t, a1, o, b1, b2, b3⟩ := body p e s m args below meth _ s₁ B hml htab hP s₁ hh0 (Stand.of_body B)
    exact ⟨t, o, a1, b1, b2, ⟨b3.1, b3.2⟩⟩
theorem mr_backH {bytes : ByteArray} {maxL : Nat} {ret : Option FieldType} {T : State} (X : Stand p l e R s m args below meth c T locs cells slots) (hM : Met l y [Cond.codeWith y bytes maxL ret hh] rm Pc Qc mc ms free) (hbl : FrameBlind Pc) (hrc : rm.cells = mc) (hrs : rm.slots = ms) (hRf : rm.frames + 1 ≤ R.frames) (hRl : 8 + (maxL + 11) + rm.locals ≤ R.locals)
    (hcode0 : (Cond.codeWith y bytes maxL ret hh).before args s = true) (hini : (Cond.initialized y.cls).before args s = true)
    {g : JFrame} (hg : g.method = m) (hsize : g.locals.size = c.maxLocals) {ig : Instr} (hdg : decode c.code g.pc = .ok (ig, 3)) (hW : 2 * g.monitorRoom + (g.stack.map fun v => v.category).sum ≤ 8) {mk : MethodId} (hn : T.methodNamed? y = some mk) {a : Array Value} (hc : cells + mc ≤ R.cells) (hs : slots + ms ≤ R.slots) (hP : Pc a T) :
    ∃ (v : Option Value) (t T' : State) (L : List Loc), Stand p l e R s m args below meth c T' (locs ++ L) (cells + mc) (slots + ms) ∧ (∀ q ∈ L, free q.base) ∧ T'.heap = t.heap ∧ T'.vm = t.vm ∧ Qc a (T.calling g mk a) (.returned v) t ∧
      Steps p.tables e below (doInvoke e (T.setTop g) [] mk a).1 (T'.setTop { g with pc := g.pc + 3, stack := v.toList ++ g.stack }) := by
  have hcode : (Cond.codeWith y bytes maxL ret hh).before a T = true := word_at X.warmed (Or.inl rfl) hcode0
  have hini' : (Cond.initialized y.cls).before a T = true := word_at X.warmed (Or.inl rfl) hini
  obtain ⟨mY, methY, cY, hnY, hmY, hcY, -, hlY, -, -, -, -⟩ := Cond.codeWith_spec hcode
  cases hn.symm.trans hnY
  obtain ⟨kY, hkY, -⟩ := className_of_methodNamed hn
  have hinitY : kY.init = .initialized := Cond.initialized_spec (findClass_of_methodNamed hn) hkY hini'
  have h : At T g.method c below := by rw [hg]; exact X.here
  have happ : (headSpec [Cond.codeWith y bytes maxL ret hh] rm).appliesLoose y e.platform (T.calling g mk a) = true :=
    Spec.appliesLoose_calling (g := g) h hdg hn hkY hinitY
      (X.room_calling (g := g) (R' := (headSpec [Cond.codeWith y bytes maxL ret hh] rm).room) hsize hmY hcY hRf (by rw [hlY]; show _ + _ + rm.locals ≤ _; omega) (by show cells + rm.cells ≤ _; omega) (by show slots + rm.slots ≤ _; omega)) (atoms_intro fun w hw => by rw [List.mem_singleton.mp hw]; exact hcode)
  have hF : (T.setTop g).frames = .java g :: below := by rw [State.frames_setTop' _ X.here.top, X.tail]
  obtain ⟨o, t, hsteps, -, hend, hq⟩ := Steps.callFree hM p X.admits X.cas X.clock (acts := []) (mid := [.java g]) (below := below) hF happ (hbl _ _ _ _ hP) trivial
  rw [hF] at hend
  obtain ⟨hq, L, ⟨⟨v, rfl⟩, hW2, hsame⟩, hL⟩ := hq
  obtain ⟨T', X', -, hB, rfl⟩ := X.outOf hg hdg hend hW2 hsame
  refine ⟨v, _, T', L, X', hL, ?_, ?_, hq, hsteps⟩
  · rfl
  · rfl
/-- a static call of a method with a table -/
theorem mr_runH {cc bytes : ByteArray} {nL maxL n index pc : Nat} {ret : Option FieldType} {Ts : List Cond} {own : String} {As st0 rest : List Value} {ls : Array Slot} (S : CallFix p m c cc nL s args Ts own) (hM : Met l y [Cond.codeWith y bytes maxL ret hh] rm Pc Qc mc ms free)
    (hcode : (Cond.codeWith y bytes maxL ret hh).before args s = true) (hini : (Cond.initialized y.cls).before args s = true) (hlk : (Cond.methodLink own index y).before args s = true) (hst : (Cond.static y).before args s = true) (hrc : rm.cells = mc) (hrs : rm.slots = ms)
    (hd : y.cls ≠ "java/lang/invoke/MethodHandle" ∧ y.cls ≠ "java/lang/invoke/VarHandle" ∧ (parseMethodDescriptor y.desc).map (fun d => d.parameters.length) = some n) (hR : rm.frames + 1 ≤ R.frames ∧ 8 + (maxL + 11) + rm.locals ≤ R.locals)
    (hp : PreS s H Pc As) (hn : As.length = n) (hsize : ls.size = nL) (hstack : st0 = As.reverse ++ rest) (hW : (rest.map fun v => v.category).sum ≤ 8) (hdg : decode cc pc = .ok (.invokestatic index, 3)) (hf : cells + mc ≤ R.cells ∧ slots + ms ≤ R.slots) :
    va_Run p l e R s m args below meth c H locs cells slots mc ms (F0 m pc ls st0) rest (Qc As.toArray) free := by
  obtain ⟨hexec, hb, hml, hown, -⟩ := S
  obtain ⟨hbl, hPc⟩ := hp
  intro T hT X
  have hd' : decode c.code pc = .ok (.invokestatic index, 3) := by rw [hb]; exact hdg
  obtain ⟨mk, methM, cM, hnamed, hmethM, -, -, -, -, -, -, hsig⟩ := Cond.codeWith_spec hcode
  have hstatic : methM.isStatic = true := Cond.static_spec hnamed hmethM hst
  obtain ⟨kP, hkP, -⟩ := className_of_methodNamed hnamed
  have hinitP : kP.init = .initialized := Cond.initialized_spec (findClass_of_methodNamed hnamed) hkP hini
  have hlen : n = methM.sig.parameters.length := by
    have h9 := hd.2.2
    rw [hsig] at h9
    exact (Option.some.inj h9).symm
  obtain ⟨vm₁, X₁, hstep₁⟩ := X.invokestatic hexec hown hlk hnamed hmethM hstatic hkP hinitP ⟨hd.1, hd.2.1⟩ (g := F0 m pc ls st0) rfl (argsL := As) (rest := rest) (hn.trans hlen) hstack hd'
  obtain ⟨v, t, T', L, X', hL, e1, e2, hq, hs⟩ := mr_backH X₁ hM hbl hrc hrs hR.1 hR.2 hcode hini (g := F0 m pc ls rest) rfl (hsize.trans hml.symm) (ig := .invokestatic index) hd' (by simpa using hW) (X₁.named hnamed) (a := As.toArray) hf.1 hf.2 (hPc (T.setVm vm₁) hT X₁.warmed)
  exact ⟨v, _, t, T', L, (by exact hT), X', hL, e1, e2, hq, fun target hgo => hstep₁ _ fun acts => by rw [doInvoke_state]; exact hs.trans hgo⟩
/-- .. of one that may write or throw -/
theorem mr_callVw {S9 : Type} {post : Int32 → S9 → Prop} {B : S9 → State → Prop} {A0 A1 : Nat → Prop} {H0 : Heap} {ws : List Cond} {cc bytes : ByteArray} {nL maxL n index pc : Nat} {ret : Option FieldType} {Ts : List Cond} {own C : String} {b : Addr} {As st0 rest : List Value} {ls : Array Slot} (S : CallFix p m c cc nL s args Ts own) (hM : mr_Met l y ws rm Pc (va_Qi post B A1) XC mc ms free) (cw : CallW R s args own C index y bytes maxL ret ws rm mc ms n) (hp : PreV s H C b Pc As)
    (hn : As.length = n) (hsize : ls.size = nL) (hstack : st0 = As.reverse ++ .ref b :: rest) (hW : (rest.map fun v => v.category).sum ≤ 8) (hdg : decode cc pc = .ok (.invokevirtual index, 3)) (hf : cells + mc ≤ R.cells ∧ slots + ms ≤ R.slots)
    (hS : va_S A0 H0 H locs) (hA : ∀ q, q < H.size → A1 q → A0 q) (hfr : ∀ q, free q → A0 q)
    (kk : ∀ (r : Int32) (u : S9) (t : State) (H1 : Heap) (locs1 : List Loc), t.heap = H1 → s.vm.Alike t.vm → post r u → B u t → H.size ≤ H1.size → (∀ q : Nat, q < H.size → ¬ A1 q → H1[q]? = H[q]?) → va_S A0 H0 H1 locs1 → W p l e R s m args below meth c H1 locs1 (cells + mc) (slots + ms) Q (F0 m (pc + 3) ls (.int r :: rest)))
    (kx : ∀ E : String, XC E → ∃ pcx : Nat, mr_Row c own args s pc E pcx ∧ ∀ (q : Addr) (H1 : Heap), H.size ≤ H1.size → (∀ a : Nat, a < H.size → H1[a]? = H[a]?) → W p l e R s m args below meth c H1 locs (cells + mc) (slots + ms) Q (F0 m pcx ls [.ref q])) :
    W p l e R s m args below meth c H locs cells slots Q (F0 m pc ls st0) := by
  refine mr_callV S hM cw hp hn hsize hstack hW hdg hf (fun v st₀ t L h0 hal hq hL => ?_) kx
  obtain ⟨⟨r, u, hv, hpo, hB⟩, hz, hk⟩ := hq
  cases hv
  rw [h0] at hz hk
  exact kk r u t t.heap (locs ++ L) rfl hal hpo hB hz hk ⟨Nat.le_trans hS.1 hz, fun q h1 h2 => by rw [hk q (Nat.lt_of_lt_of_le h1 hS.1) (fun z => h2 (hA q (Nat.lt_of_lt_of_le h1 hS.1) z))]; exact hS.2.1 q h1 h2, fun q hq => by
      rcases List.mem_append.mp hq with h | h
      · exact hS.2.2 q h
      · exact hfr _ (hL q h)⟩
end MRJ
/-- the table's rows -/
theorem mr_tab1 {L : List ExceptionTableEntry} {a : Nat × Nat × Nat × Nat} (h : L.map (fun h => (h.startPc, h.endPc, h.handlerPc, h.catchType)) = [a]) : ∃ x, L = [x] ∧ x.startPc = a.1 ∧ x.endPc = a.2.1 ∧ x.handlerPc = a.2.2.1 ∧ x.catchType = a.2.2.2 := by
  match L, h with
  | [x], h => simp at h; subst h; exact ⟨x, rfl, rfl, rfl, rfl, rfl⟩
theorem mr_tab2 {L : List ExceptionTableEntry} {a b : Nat × Nat × Nat × Nat} (h : L.map (fun h => (h.startPc, h.endPc, h.handlerPc, h.catchType)) = [a, b]) : ∃ x z, L = [x, z] ∧ (x.startPc = a.1 ∧ x.endPc = a.2.1 ∧ x.handlerPc = a.2.2.1 ∧ x.catchType = a.2.2.2) ∧ z.startPc = b.1 ∧ z.endPc = b.2.1 ∧ z.handlerPc = b.2.2.1 ∧ z.catchType = b.2.2.2 := by
  match L, h with
  | [x, z], h => simp at h; obtain ⟨h1, h2⟩ := h; subst h1 h2; exact ⟨x, z, rfl, ⟨rfl, rfl, rfl, rfl⟩, rfl, rfl, rfl, rfl⟩
theorem mr_tab3 {L : List ExceptionTableEntry} {a b d : Nat × Nat × Nat × Nat} (h : L.map (fun h => (h.startPc, h.endPc, h.handlerPc, h.catchType)) = [a, b, d]) : ∃ x z w, L = [x, z, w] ∧ (x.startPc = a.1 ∧ x.endPc = a.2.1 ∧ x.handlerPc = a.2.2.1 ∧ x.catchType = a.2.2.2) ∧ (z.startPc = b.1 ∧ z.endPc = b.2.1 ∧ z.handlerPc = b.2.2.1 ∧ z.catchType = b.2.2.2) ∧ w.startPc = d.1 ∧ w.endPc = d.2.1 ∧ w.handlerPc = d.2.2.1 ∧ w.catchType = d.2.2.2 := by
  match L, h with
  | [x, z, w], h => simp at h; obtain ⟨h1, h2, h3⟩ := h; subst h1 h2 h3; exact ⟨x, z, w, rfl, ⟨rfl, rfl, rfl, rfl⟩, ⟨rfl, rfl, rfl, rfl⟩, rfl, rfl, rfl, rfl⟩
theorem mr_B.nc {s0 U : State} (h : mr_B s0 U) : va_Nc mr_ise mr_iae U ∧ va_Nc mr_iae mr_iob U ∧ va_Nc mr_ise mr_iob U := by
  obtain ⟨⟨A, -, -, -, h1, h2, h3⟩, h4, -⟩ := h
  exact ⟨h1.moved h4.alike, h2.moved h4.alike, h3.moved h4.alike⟩
theorem mr_cov {x : ExceptionTableEntry} {a b pc : Nat} (h1 : x.startPc = a) (h2 : x.endPc = b) (h : a ≤ pc ∧ pc < b) : covers x pc = true := by
  simp only [covers, h1, h2, Bool.and_eq_true, decide_eq_true_eq]; exact h

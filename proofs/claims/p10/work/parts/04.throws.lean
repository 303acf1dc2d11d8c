/-! CONTRACTS OF METHODS THAT RETURN OR THROW -/
def mr_TH (XC : String → Prop) (mc ms : Nat) (s : State) (o : Outcome) (t : State) : Prop :=
  ∃ (q : Addr) (E : String) (ce : Cell), o = .threw q ∧ XC E ∧ t.heap[q]? = some ce ∧ ce.vm = .none ∧ s.vm.findClass E = some ce.cls ∧ s.WarmedH t.vm ∧ s.sameButNew ({ t with vm := s.vm } : State) [] mc ms ∧ s.heap.size ≤ t.heap.size ∧ ∀ a : Nat, a < s.heap.size → t.heap[a]? = s.heap[a]?
def mr_QX (Qc : Array Value → State → Outcome → State → Prop) (XC : String → Prop) (mc ms : Nat) (free : Addr → Prop) : Array Value → State → Outcome → State → Prop := fun a st o t =>
  (Qc a st o t ∧ ∃ L, FrameEnd st o t L mc ms ∧ ∀ q ∈ L, free q.base) ∨ mr_TH XC mc ms st o t
def mr_Met (l : Launch) (y : MethodName) (ws : List Cond) (rm : Room) (Pc : Array Value → State → Prop) (Qc : Array Value → State → Outcome → State → Prop) (XC : String → Prop) (mc ms : Nat) (free : Addr → Prop) : Prop :=
  MetFree l y (headSpec ws rm) Pc (fun _ _ _ _ _ => True) (mr_QX Qc XC mc ms free)
/-- what a body owes at its end -/
def mr_Z (below : List Frame) (Qc : Array Value → State → Outcome → State → Prop) (XC : String → Prop) (a : Array Value) (s : State) (mc ms : Nat) (free : Addr → Prop) : State → Prop := fun t => ∃ o, t.status = .running ∧ Ended t below o ∧ mr_QX Qc XC mc ms free a s o t
theorem mr_kept {s t : State} {k n : Nat} (h : s.sameButNew t [] k n) (a : Nat) (ha : a < s.heap.size) : t.heap[a]? = s.heap[a]? := by
  obtain ⟨c', h1, h2, -, h4⟩ := h.2.2.2.2.2 a s.heap[a] (Array.getElem?_eq_getElem ha)
  have hs : c'.slots = s.heap[a].slots := Array.ext_getElem? fun i => h4 i (by simp)
  rw [h1, Array.getElem?_eq_getElem ha, h2, hs]
section MRC
variable {p : Program} {l : Launch} {e : Env} {R : Room} {s : State} {m : MethodId} {args : Array Value} {below : List Frame} {meth : Method} {c : Code} {H : Heap} {locs : List Loc} {cells slots : Nat} {Q : State → Prop}
variable {Qc : Array Value → State → Outcome → State → Prop} {XC : String → Prop} {mc ms : Nat} {free : Addr → Prop} {Pc : Array Value → State → Prop} {ws : List Cond} {rm : Room} {y : MethodName}
theorem mr_of {ws' : List Cond} {cc : ByteArray} {maxL : Nat} {ret : Option FieldType} (hy : plainName y.cls = true) (hw : ws = Cond.code y cc maxL ret :: ws')
    (body : ∀ p e s m args below meth c s₁, BodyLoose p l y (headSpec ws rm) cc maxL ret e s m args below meth c s₁ → c.maxLocals = maxL → (∀ (pc : Nat), ∀ x ∈ c.exceptionTable.toList, covers x pc = false) → Pc args s →
      W p l e (headSpec ws rm).room s m args below meth c s.heap [] 0 0 (mr_Z below Qc XC args s mc ms free) (entryFrame m args maxL)) : mr_Met l y ws rm Pc Qc XC mc ms free := by
  refine MetFree.of_bodyS (code := cc) (maxLocals := maxL) (ret := ret) hy ?_ ?_
  · intro args s m h hn
    obtain ⟨meth, c, h1, h2, h3, h4, h5, h6, -, -⟩ := Cond.code_spec hn (atoms_spec (ws := ws) h _ (by rw [hw]; exact List.mem_cons_self))
    exact ⟨meth, c, h1, h2, h3, h4, h5, h6⟩
  · intro p e s m args below meth c s₁ B hml hP _
    have hcode : (Cond.code y cc maxL ret).before args s = true := atoms_spec (ws := ws) B.pre _ (by rw [hw]; exact List.mem_cons_self)
    have hh0 : s₁.heap = s.heap := by rw [B.state]; rfl
    obtain ⟨t, a1, o, b1, b2, b3⟩ := body p e s m args below meth c s₁ B hml (fun pc => covers_of_empty (B.noHandlers hcode) pc) hP s₁ hh0 (Stand.of_body B)
    exact ⟨t, o, a1, b1, b2, b3⟩
/-- it returns: the kit's own ends serve -/
theorem mr_ret {g : JFrame} (k : W p l e R s m args below meth c H locs cells slots (MQ below Qc args s mc ms free) g) : W p l e R s m args below meth c H locs cells slots (mr_Z below Qc XC args s mc ms free) g := by
  intro T hT X
  obtain ⟨t, h1, o, h2, h3, h4, h5⟩ := k T hT X
  exact ⟨t, h1, o, h2, h3, Or.inl ⟨h4, h5⟩⟩
/-- 'throw new E("..")' where nothing has been written yet -/
theorem mr_throw {cc : ByteArray} {pc : Nat} {ls : Array Slot} {rest : List Value} (hexec : p.tables.exec = Jvm.exec) (hb : c.code = cc) (hl : l.stackTraces = false) {own cls text : String} {names : List String} {ik is ic sa : Nat}
    (hown : s.vm.findClass own = some m.cls) (hcls : Bundle.fit cls = true) (hnames : ∀ n ∈ names, Bundle.fit n = true) (hk : (Cond.classLink own ik cls).before args s = true) (hini : (Cond.initialized cls).before args s = true) (hstr : vk_R own is text sa s)
    (h : ∀ w ∈ Bundle.ownAtoms own ic cls names, w.before args s = true) (hsize : ls.size = c.maxLocals)
    (d0 : decode cc pc = .ok (.new ik, 3)) (d3 : decode cc (pc + 3) = .ok (.dup, 1)) (d4 : decode cc (pc + 4) = .ok (.ldc is, 2)) (d6 : decode cc (pc + 6) = .ok (.invokespecial ic, 3)) (d9 : decode cc (pc + 9) = .ok (.athrow, 1))
    (hout : ∀ (pc : Nat), ∀ x ∈ c.exceptionTable.toList, covers x pc = false) (hF : names.length + 3 < R.frames) (hL : (rest.map fun v => v.category).sum + (13 * (names.length + 1) + 44) ≤ R.locals) (hC : 1 ≤ R.cells) (hS : 6 ≤ R.slots) (hlocks : meth.locks = false)
    (hx : XC cls) (hc : 1 ≤ mc) (hs : 6 ≤ ms) : W p l e R s m args below meth c s.heap [] 0 0 (mr_Z below Qc XC args s mc ms free) (F0 m pc ls rest) := by
  intro T hT X
  have htr : e.platform.stackTraces = false := by rw [show e.platform.stackTraces = l.stackTraces by rw [X.admits.platform]]; exact hl
  obtain ⟨vm₁, cX, kX, hfX, hkX, -, -, X₁, st1⟩ := X.newCold hexec (own := own) (C := cls) (index := ik) (n := 6) hown hk (h (.instantiable cls 6) (by simp [Bundle.ownAtoms])) hini (g := F0 m pc ls rest) rfl (by rw [hb]; exact d0) (by omega) (by omega)
  generalize hT1 : (T.setVm vm₁).pushCell { cls := cX, slots := kX.instanceTypes.map defaultValue, vm := .none } = T1 at X₁ st1
  have hcellA : T1.heap[T.heap.size]? = some (freshCell cX kX) := by rw [← hT1]; exact State.heap_pushCell_size _ _
  have hcat : (Value.ref T.heap.size).category = 1 := rfl
  obtain ⟨U, hsteps, hrun, hend, hW, hsame, ce, hce, K⟩ := X₁.ctorThrowS hexec htr (own := own) (cls := cls) (names := names) (ic := ic) hown hcls hnames h (fun y hy => nomatch hy) hfX hkX hcellA (by rw [hT]; exact Nat.le_refl _) (msg := .ref sa) rfl
    (g := { method := m, pc := pc + 6, locals := ls, stack := .ref sa :: .ref T.heap.size :: .ref T.heap.size :: rest, locked := none }) rfl hsize rfl rfl (rest := rest) rfl (by rw [hb]; exact d6) (by rw [hb]; exact d9) (hout _) hF (by simp only [List.map_cons, List.sum_cons, hcat]; omega) hlocks
  refine ⟨U, ?_, .threw T.heap.size, hrun, hend, Or.inr ⟨T.heap.size, cls, ce, rfl, hx, hce, K.vm, K.cls, hW, hsame.mono (by omega) (by omega), ?_, ?_⟩⟩
  · refine st1 _ ?_
    have d3' : decode c.code (pc + 3) = .ok (.dup, 1) := by rw [hb]; exact d3
    show Steps p.tables e below (T1.setTop { method := m, pc := pc + 3, locals := ls, stack := .ref T.heap.size :: rest, locked := none }) _
    jvm_step X₁.here [X₁.here.top, hexec, d3', Value.category]
    exact X₁.ldcString hexec (own := own) (text := text) (index := is) (a := sa) hown hstr.1 hstr.2 (g := { method := m, pc := pc + 4, locals := ls, stack := .ref T.heap.size :: .ref T.heap.size :: rest, locked := none }) rfl (by rw [hb]; exact d4) _ hsteps
  · exact hsame.2.1
  · exact fun a ha => mr_kept hsame a ha
/-- a call of such a method: it comes back, or throws into this method's own table -/
theorem mr_back {bytes : ByteArray} {maxL : Nat} {ret : Option FieldType} {T : State} (X : Stand p l e R s m args below meth c T locs cells slots) (hM : mr_Met l y ws rm Pc Qc XC mc ms free) (hbl : FrameBlind Pc) (hrc : rm.cells = mc) (hrs : rm.slots = ms) (hRf : rm.frames + 1 ≤ R.frames) (hRl : 8 + (maxL + 11) + rm.locals ≤ R.locals)
    (hws : ∀ w ∈ ws, ∀ (a' : Array Value) (U : State), s.WarmedH U.vm → w.before a' U = true) (hin : Cond.code y bytes maxL ret ∈ ws) (hini : (Cond.initialized y.cls).before args s = true)
    {g : JFrame} (hg : g.method = m) (hsize : g.locals.size = c.maxLocals) {ig : Instr} (hdg : decode c.code g.pc = .ok (ig, 3)) (hW : 2 * g.monitorRoom + (g.stack.map fun v => v.category).sum ≤ 8) {mk : MethodId} (hn : T.methodNamed? y = some mk) {a : Array Value} (hc : cells + mc ≤ R.cells) (hs : slots + ms ≤ R.slots) (hP : Pc a T) :
    (∃ (v : Option Value) (t T' : State) (L : List Loc), Stand p l e R s m args below meth c T' (locs ++ L) (cells + mc) (slots + ms) ∧ (∀ q ∈ L, free q.base) ∧ T'.heap = t.heap ∧ T'.vm = t.vm ∧ Qc a (T.calling g mk a) (.returned v) t ∧
      Steps p.tables e below (doInvoke e (T.setTop g) [] mk a).1 (T'.setTop { g with pc := g.pc + 3, stack := v.toList ++ g.stack })) ∨
    (∃ (q : Addr) (E : String) (ce : Cell) (T' : State), Stand p l e R s m args below meth c T' locs (cells + mc) (slots + ms) ∧ XC E ∧ T'.heap[q]? = some ce ∧ ce.vm = .none ∧ s.vm.findClass E = some ce.cls ∧ T.heap.size ≤ T'.heap.size ∧ (∀ a : Nat, a < T.heap.size → T'.heap[a]? = T.heap[a]?) ∧
      Steps p.tables e below (doInvoke e (T.setTop g) [] mk a).1 (mr_N T' g q)) := by
  have hcode : (Cond.code y bytes maxL ret).before a T = true := hws _ hin _ _ X.warmed
  have hini' : (Cond.initialized y.cls).before a T = true := word_at X.warmed (Or.inl rfl) hini
  obtain ⟨methY, cY, hmY, hcY, -, hlY, -, -, -, -⟩ := Cond.code_spec hn hcode
  obtain ⟨kY, hkY, -⟩ := className_of_methodNamed hn
  have hinitY : kY.init = .initialized := Cond.initialized_spec (findClass_of_methodNamed hn) hkY hini'
  have h : At T g.method c below := by rw [hg]; exact X.here
  have happ : (headSpec ws rm).appliesLoose y e.platform (T.calling g mk a) = true :=
    Spec.appliesLoose_calling (g := g) h hdg hn hkY hinitY
      (X.room_calling (g := g) (R' := (headSpec ws rm).room) hsize hmY hcY hRf (by rw [hlY]; show _ + _ + rm.locals ≤ _; omega) (by show cells + rm.cells ≤ _; omega) (by show slots + rm.slots ≤ _; omega)) (atoms_intro fun w hw => hws w hw _ _ X.warmed)
  have hF : (T.setTop g).frames = .java g :: below := by rw [State.frames_setTop' _ X.here.top, X.tail]
  obtain ⟨o, t, hsteps, -, hend, hq⟩ := Steps.callFree hM p X.admits X.cas X.clock (acts := []) (mid := [.java g]) (below := below) hF happ (hbl _ _ _ _ hP) trivial
  rw [hF] at hend
  rcases hq with ⟨hq, L, ⟨⟨v, rfl⟩, hW2, hsame⟩, hL⟩ | ⟨q, E, ce, rfl, hE, hce, hcv, hcl, hW2, hsame, hz, hk⟩
  · obtain ⟨T', X', -, hB, rfl⟩ := X.outOf hg hdg hend hW2 hsame
    refine Or.inl ⟨v, _, T', L, X', hL, ?_, ?_, hq, hsteps⟩
    · rfl
    · rfl
  · obtain ⟨T', X', hW3, hB, rfl⟩ := X.outOfThrown hg hend hW2 hsame
    refine Or.inr ⟨q, E, ce, T', by simpa using X', hE, hce, hcv, ?_, hz, hk, hsteps⟩
    have h9 : T.vm.findClass E = some ce.cls := hcl
    rw [← X.warmed.alike.findClass]
    exact h9
/-- the row of this method's table that takes E, thrown at pc; it goes on at pcx -/
def mr_Row (c : Code) (own : String) (args : Array Value) (s : State) (pc : Nat) (E : String) (pcx : Nat) : Prop :=
  ∃ (pre suf : List ExceptionTableEntry) (x : ExceptionTableEntry) (name : String), c.exceptionTable.toList = pre ++ x :: suf ∧ x.handlerPc = pcx ∧ covers x pc = true ∧ x.catchType ≠ 0 ∧ (Cond.classLink own x.catchType name).before args s = true ∧ (Cond.castable E name).before args s = true ∧
    ∀ y ∈ pre, covers y pc = true ∧ y.catchType ≠ 0 ∧ ∃ nm : String, (Cond.classLink own y.catchType nm).before args s = true ∧ va_Nc E nm s
theorem mr_callV {cc bytes : ByteArray} {nL maxL n index pc : Nat} {ret : Option FieldType} {Ts : List Cond} {own C : String} {b : Addr} {As st0 rest : List Value} {ls : Array Slot} (S : CallFix p m c cc nL s args Ts own) (hM : mr_Met l y ws rm Pc Qc XC mc ms free) (cw : CallW R s args own C index y bytes maxL ret ws rm mc ms n) (hp : PreV s H C b Pc As)
    (hn : As.length = n) (hsize : ls.size = nL) (hstack : st0 = As.reverse ++ .ref b :: rest) (hW : (rest.map fun v => v.category).sum ≤ 8) (hdg : decode cc pc = .ok (.invokevirtual index, 3)) (hf : cells + mc ≤ R.cells ∧ slots + ms ≤ R.slots)
    (kk : ∀ (v : Option Value) (st₀ t : State) (L : List Loc), st₀.heap = H → s.vm.Alike t.vm → Qc (Value.ref b :: As).toArray st₀ (.returned v) t → (∀ q ∈ L, free q.base) → W p l e R s m args below meth c t.heap (locs ++ L) (cells + mc) (slots + ms) Q (F0 m (pc + 3) ls (v.toList ++ rest)))
    (kx : ∀ E : String, XC E → ∃ pcx : Nat, mr_Row c own args s pc E pcx ∧ ∀ (q : Addr) (H1 : Heap), H.size ≤ H1.size → (∀ a : Nat, a < H.size → H1[a]? = H[a]?) → W p l e R s m args below meth c H1 locs (cells + mc) (slots + ms) Q (F0 m pcx ls [.ref q])) :
    W p l e R s m args below meth c H locs cells slots Q (F0 m pc ls st0) := by
  obtain ⟨⟨hrc, hrs, hRf, hRl, hws, hin, hcode, hini, hy, hlen, hlk⟩, hinst, hsel⟩ := cw
  obtain ⟨hexec, hb, hml, hown, -⟩ := S
  obtain ⟨hbl, ⟨cellB, hcB, hoB, hclB⟩, hPc⟩ := hp
  intro T hT X
  obtain ⟨mk, methM, hnamed, hmethM, hstM, habM⟩ := Cond.instanceMethod_spec hinst
  obtain ⟨methM', cM, hmethM', -, -, -, -, -, -, hsigM⟩ := Cond.code_spec hnamed hcode
  cases hmethM.symm.trans hmethM'
  obtain ⟨c2, r2, m2, q1, q2, q3, q4, kP, hkP, hkPi⟩ := Cond.selects_spec hsel
  cases hclB.symm.trans q1
  cases (State.methodFound?_of_named hnamed hy).symm.trans q2
  cases hnamed.symm.trans q3
  have hselP : selectMethod e.platform s.vm cellB.cls mk = .method mk := by rw [Launch.admits_selectMethod X.admits]; exact q4
  have hd' : decode c.code pc = .ok (.invokevirtual index, 3) := by rw [hb]; exact hdg
  obtain ⟨vm₁, X₁, hstep₁⟩ := X.invokevirtual hexec hown hlk hnamed hmethM hstM hkP hkPi hy (a := b) (cell := cellB) (by rw [hT]; exact hcB)
    (fun z h => by rw [h] at hoB; cases hoB) hselP hmethM habM hkP hkPi (g := F0 m pc ls st0) rfl (argsL := As) (rest := rest) (hn.trans (hlen _ hsigM)) hstack hd'
  rcases mr_back X₁ hM hbl hrc hrs hRf hRl hws hin hini (g := F0 m pc ls rest) rfl (hsize.trans hml.symm) (ig := .invokevirtual index) hd' (by simpa using hW) (X₁.named hnamed) (a := (Value.ref b :: As).toArray) hf.1 hf.2 (hPc (T.setVm vm₁) hT X₁.warmed) with
    ⟨v, t, T', L, X', hL, e1, e2, hq, hs⟩ | ⟨q, E, ce, T', X', hE, hce, hcv, hcl, hz, hk, hs⟩
  · obtain ⟨t2, a1, b1⟩ := kk v _ t L (by exact hT) (by rw [← e2]; exact X'.warmed.alike) hq hL T' e1 X'
    exact ⟨t2, hstep₁ _ fun acts => by rw [doInvoke_state]; exact hs.trans a1, b1⟩
  · obtain ⟨pcx, ⟨pre, suf, x, name, r1, rfl, r3, r4, r5, r6, r7⟩, k9⟩ := kx E hE
    obtain ⟨vm', X9, st9⟩ := mr_caught (g := F0 m pc ls rest) rfl hown hcv hcl r1 r3 r4 r5 r6 r7 X' hce
    have hTT : (T.setVm vm₁).heap = H := hT
    rw [hTT] at hz hk
    obtain ⟨t2, a1, b1⟩ := k9 q (T'.setVm vm').heap hz hk (T'.setVm vm') rfl X9
    exact ⟨t2, hstep₁ _ fun acts => by rw [doInvoke_state]; exact hs.trans (st9 _ a1), b1⟩
/-- .. of one that changes nothing when it returns -/
theorem mr_callVp {post : Int32 → Prop} {cc bytes : ByteArray} {nL maxL n index pc : Nat} {ret : Option FieldType} {Ts : List Cond} {own C : String} {b : Addr} {As st0 rest : List Value} {ls : Array Slot} (S : CallFix p m c cc nL s args Ts own) (hM : mr_Met l y ws rm Pc (vp_Si post) XC mc ms (fun _ => False)) (cw : CallW R s args own C index y bytes maxL ret ws rm mc ms n) (hp : PreV s H C b Pc As)
    (hn : As.length = n) (hsize : ls.size = nL) (hstack : st0 = As.reverse ++ .ref b :: rest) (hW : (rest.map fun v => v.category).sum ≤ 8) (hdg : decode cc pc = .ok (.invokevirtual index, 3)) (hf : cells + mc ≤ R.cells ∧ slots + ms ≤ R.slots)
    (kk : ∀ r : Int32, post r → W p l e R s m args below meth c H locs (cells + mc) (slots + ms) Q (F0 m (pc + 3) ls (.int r :: rest)))
    (kx : ∀ E : String, XC E → ∃ pcx : Nat, mr_Row c own args s pc E pcx ∧ ∀ (q : Addr) (H1 : Heap), H.size ≤ H1.size → (∀ a : Nat, a < H.size → H1[a]? = H[a]?) → W p l e R s m args below meth c H1 locs (cells + mc) (slots + ms) Q (F0 m pcx ls [.ref q])) :
    W p l e R s m args below meth c H locs cells slots Q (F0 m pc ls st0) := by
  refine mr_callV S hM cw hp hn hsize hstack hW hdg hf (fun v st₀ t L h0 _ hq hL => ?_) kx
  obtain ⟨r, hv, hr, hh⟩ := hq
  cases hv
  have hL0 : L = [] := List.eq_nil_iff_forall_not_mem.mpr fun q hq => hL q hq
  rw [hL0, List.append_nil, hh, h0]
  exact kk r hr
end MRC

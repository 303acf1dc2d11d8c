def R_law : String := "MeasureRowsLaw"
def lw_P (b : Addr) (xs : List Int32) (args : Array Value) (s : State) : Prop := args = #[.ref b] ∧ s.IntsAt b xs ∧ xs.length ≤ 4096 ∧ (Jvm.Cond.and given_1 narrow_1).before args s = true
def lw_Q (_ : Array Value) (s : State) (o : Outcome) (t : State) : Prop := o = .returned (some (.int 1)) ∧ Framed s o t [] 601024 7293034
def lw_Z (below : List Frame) (a : Array Value) (s : State) : State → Prop := fun t => ∃ o, t.status = .running ∧ Ended t below o ∧ lw_Q a s o t
/-- the law's own end, with 1 on the stack, nothing written that was there before, its room as the claim has it -/
theorem lw_ret {p : Program} {l : Launch} {e : Env} {s : State} {m : MethodId} {below : List Frame} {meth : Method} {c : Code} {b : Nat} (hx : p.tables.exec = Jvm.exec) (hb : c.code = code) (hr : meth.sig.returnType = ret) (hlocks : meth.locks = false) {pc : Nat} {H : Heap} {ls : Array Slot} (hdg : decode code pc = .ok (.ireturn, 1)) : W p l e room_1 s m #[Value.ref b] below meth c H [] 601024 7293034 (lw_Z below #[Value.ref b] s) (F0 m pc ls [.int 1]) := by
  intro T hT X
  obtain ⟨fs, hret, hrun, hended, hW, hframe⟩ := X.leave (v := some (.int 1)) (hlocks := hlocks) (fun h => by rw [hr] at h; cases h)
  have hmeth' : T.vm.method? m = some meth := X.method'
  refine ⟨T.setFrames fs, ?_, .returned (some (.int 1)), hrun, hended, rfl, ⟨_, rfl⟩, hW, hframe⟩
  jvm_step X.here [X.here.top, hx, hb, hdg, hmeth', hr, ret, narrow_b1]
  (try refine ⟨rfl, ?_⟩); (try refine ⟨rfl, ?_⟩)
  first | (intro acts; rw [hret _ acts rfl rfl rfl]) | rw [hret _ _ rfl rfl rfl]
  exact Steps.refl _
/-- what holds at the law's entry: the machine, the code, the tables' words (any of lw_tbl by 'hts w (by decide +kernel)'), the script of L ints xs at the cell b, what the Statement gives of the start (any of its parts by flat_of_before) -/
def lw_At (p : Program) (s : State) (m : MethodId) (meth : Method) (c : Code) (b L : Nat) (xs : Nat → Int32) : Prop :=
  p.tables.exec = Jvm.exec ∧ c.code = code ∧ meth.sig.returnType = ret ∧ c.maxLocals = 7 ∧ s.vm.findClass R_law = some m.cls ∧ (∀ w ∈ lw_tbl, w.before #[Value.ref b] s = true) ∧ va_X b L xs s s.heap ∧ b < s.heap.size ∧ meth.locks = false ∧ (Jvm.Cond.and given_1 narrow_1).before #[Value.ref b] s = true
theorem v_b1 {v w : Int32} (h : v = w) (c : ¬ w = 0) : lg_cmp (if v = 0 then (0 : Int64) else 1) 1 = 0 := by
  rw [if_neg (by rw [h]; exact c), lg_cmp_eq]
theorem v_b0 {v w : Int32} (h : v = w) (c : w = 0) : lg_cmp (if v = 0 then (0 : Int64) else 1) 0 = 0 := by
  rw [if_pos (by rw [h]; exact c), lg_cmp_eq]
theorem v_li {v w : Int32} (h : v = w) : lg_cmp v.toInt64 w.toInt64 = 0 := by
  rw [h, lg_cmp_eq]
theorem v_sub8 {n : Nat} (h : n ≤ 4096) : (Int32.ofNat n - 8).toInt = (n : Int) - 8 := by
  have e : (Int32.ofNat n).toInt = (n : Int) := nI_toInt (n := n) (by omega)
  have e8 : (8 : Int32).toInt = 8 := by decide
  rw [Int32.toInt_sub, e, e8]
  exact Int.bmod_eq_of_le (by omega) (by omega)
theorem v_go {n i : Nat} (h : n ≤ 4096) (hi : i + 8 ≤ n) : ¬ Int32.ofNat n - 8 < nI i := by
  rw [Int32.lt_iff_toInt_lt, v_sub8 h, nI_toInt (by omega)]
  omega
theorem v_stop {n i : Nat} (h : n ≤ 4096) (hi : n < i + 8) (hi2 : i ≤ 4096) : Int32.ofNat n - 8 < nI i := by
  rw [Int32.lt_iff_toInt_lt, v_sub8 h, nI_toInt (by omega)]
  omega
section LOOPC
variable {p : Program} {l : Launch} {e : Env} {R : Room} {s : State} {m : MethodId} {args : Array Value} {below : List Frame} {meth : Method} {c : Code} {Q : State → Prop} {pc : Nat}
/-- a loop whose rounds make cells: kc j, ks j are what is used ahead of round j -/
theorem mr_loopC {I : Nat → Heap → List Loc → Array Slot → Prop} {N : Nat} {kc ks : Nat → Nat}
    (hstep : ∀ (j : Nat) (H : Heap) (locs : List Loc) (ls : Array Slot), j < N → I j H locs ls → (∀ (H' : Heap) (locs' : List Loc) (ls' : Array Slot), I (j + 1) H' locs' ls' → W p l e R s m args below meth c H' locs' (kc (j + 1)) (ks (j + 1)) Q (F0 m pc ls' [])) → W p l e R s m args below meth c H locs (kc j) (ks j) Q (F0 m pc ls []))
    (hend : ∀ (H : Heap) (locs : List Loc) (ls : Array Slot), I N H locs ls → W p l e R s m args below meth c H locs (kc N) (ks N) Q (F0 m pc ls [])) :
    ∀ (j : Nat) (H : Heap) (locs : List Loc) (ls : Array Slot), j ≤ N → I j H locs ls → W p l e R s m args below meth c H locs (kc j) (ks j) Q (F0 m pc ls []) := by
  intro j
  generalize hn : N - j = n
  induction n generalizing j with
  | zero =>
    intro H locs ls hj hI
    have : j = N := by omega
    subst this
    exact hend H locs ls hI
  | succ n ih =>
    intro H locs ls hj hI
    exact hstep j H locs ls (by omega) hI (fun H' locs' ls' hI' => ih (j + 1) (by omega) H' locs' ls' (by omega) hI')
end LOOPC
/-- the law's world ahead of each round -/
abbrev lw_I (dC : Nat → ClassId) (dI : Nat → Nat → Nat) (cI cR cL cZ : ClassId) (rx rm : Nat → Nat) (o : Nat) (A : Nat → Prop) (H : Heap) : Prop := ∃ (n : Nat) (nw : Int32) (fco : Nat → Int32) (fla : Nat → Int32) (ffi : Nat → Int32) (fki : Nat → Int32) (fra : Nat → Int32) (fkn : Nat → Int32) (fe : Nat → Int32) (fa : Nat → Int32) (fk : Nat → Int32) (fm : Nat → Int32) (mth : Int32) (mq : Nat) (fls : Nat → Int32) (fpa : Nat → Int32) (fli : Nat → Int32) (fgo : Nat → Int32) (pb : Int32) (qc : Nat) (fi : Nat → Int32) (fr : Nat → Option Nat) (fl : Nat → Int32) (fc : Nat → Int32) (fg : Nat → Int32) (cls : Nat → Int32) (cpa : Nat → Int32) (L : List Nat) (f : Nat → va_E) (fo : Nat → Int64), mr_NX n nw fco fki fra fkn fe fk ∧ mq ≤ 80 ∧ mr_RX cI n L f fr fco fla ffi fki fra fkn cls cpa fe fa fk ∧ qc ≤ 80 ∧ mr_tie fm fi ∧ mr_LS n fls cls ∧ mr_LS n fpa cpa ∧ va_P (dC, dI) mr_cl (([((rm 0), .inr (3, mf_D rm mth (nI n) nw pb (nI mq))), ((rm 1), .inl (cI, 8, .inl fm)), ((rm 3), .inl (cI, 81, .inl fco)), ((rm 4), .inl (cI, 81, .inl fla)), ((rm 5), .inl (cI, 81, .inl ffi)), ((rm 6), .inl (cI, 81, .inl fki)), ((rm 7), .inl (cI, 81, .inl fra)), ((rm 8), .inl (cI, 81, .inl fkn)), ((rm 9), .inl (cI, 81, .inl fls)), ((rm 10), .inl (cI, 81, .inl fpa)), ((rm 11), .inl (cI, 81, .inl fe)), ((rm 12), .inl (cI, 648, .inl fa)), ((rm 13), .inl (cI, 648, .inl fk)), ((rm 16), .inl (cI, 80, .inl fli)), ((rm 18), .inl (cZ, 81, .inl fgo)), (o, .inl (cL, 1, .inr (.inl fo))), ((rx 0), .inr (0, mf_M rx (nI n) nw pb (nI qc))), ((rx 1), .inr (1, [.ref (rx 2), .ref (rx 3)])), ((rx 2), .inl (cI, 8, .inl fm)), ((rx 3), .inl (cI, 8, .inl fi)), ((rx 4), .inl (cR, 80, .inr (.inr (.inr (.inr fr))))), ((rx 5), .inl (cI, 80, .inl fl)), ((rx 6), .inl (cI, 80, .inl fc)), ((rx 7), .inl (cI, 8, .inl fg))] : va_W) ++ va_pl L f) H ∧ va_D A (([((rm 0), .inr (3, mf_D rm mth (nI n) nw pb (nI mq))), ((rm 1), .inl (cI, 8, .inl fm)), ((rm 3), .inl (cI, 81, .inl fco)), ((rm 4), .inl (cI, 81, .inl fla)), ((rm 5), .inl (cI, 81, .inl ffi)), ((rm 6), .inl (cI, 81, .inl fki)), ((rm 7), .inl (cI, 81, .inl fra)), ((rm 8), .inl (cI, 81, .inl fkn)), ((rm 9), .inl (cI, 81, .inl fls)), ((rm 10), .inl (cI, 81, .inl fpa)), ((rm 11), .inl (cI, 81, .inl fe)), ((rm 12), .inl (cI, 648, .inl fa)), ((rm 13), .inl (cI, 648, .inl fk)), ((rm 16), .inl (cI, 80, .inl fli)), ((rm 18), .inl (cZ, 81, .inl fgo)), (o, .inl (cL, 1, .inr (.inl fo))), ((rx 0), .inr (0, mf_M rx (nI n) nw pb (nI qc))), ((rx 1), .inr (1, [.ref (rx 2), .ref (rx 3)])), ((rx 2), .inl (cI, 8, .inl fm)), ((rx 3), .inl (cI, 8, .inl fi)), ((rx 4), .inl (cR, 80, .inr (.inr (.inr (.inr fr))))), ((rx 5), .inl (cI, 80, .inl fl)), ((rx 6), .inl (cI, 80, .inl fc)), ((rx 7), .inl (cI, 8, .inl fg))] : va_W) ++ va_pl L f)



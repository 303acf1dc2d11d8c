/-! THE TABLES' WORDS, seen from every method: all hold at the law's start s0, and where nothing old was written they hold still -/
def mr_us : Cond := .isRef (.static Bundle.tN "UNASSIGNED_STACK" Bundle.steD)
def mr_ss : Cond := .isRef (.static Bundle.tN "SUPPRESSED_SENTINEL" Bundle.listD)
def mr_iob : String := "java/lang/IndexOutOfBoundsException"
def mr_iae : String := "java/lang/IllegalArgumentException"
def mr_ise : String := "java/lang/IllegalStateException"
def mr_up : List String := ["java/lang/RuntimeException", "java/lang/Exception"]
def mr_G (s0 : State) : Prop := ∃ A : Array Value, (∀ w ∈ lw_tbl, w.before A s0 = true) ∧ mr_us.before A s0 = true ∧ mr_ss.before A s0 = true ∧ va_Nc mr_ise mr_iae s0 ∧ va_Nc mr_iae mr_iob s0 ∧ va_Nc mr_ise mr_iob s0
def mr_B (s0 U : State) : Prop := mr_G s0 ∧ s0.WarmedH U.vm ∧ s0.heap.size ≤ U.heap.size ∧ ∀ a : Nat, a < s0.heap.size → U.heap[a]? = s0.heap[a]?
def mr_mv (w : Cond) : Bool := goodWord w || match w with
  | .declares _ => true
  | .castable _ _ => true
  | .privateMethod _ => true
  | .methodLinkNest _ _ _ _ => true
  | .stringRef _ _ _ => true
  | .arrayOver (.object _) => true
  | .laysStatic _ _ _ => true
  | _ => false
theorem mr_all : lw_tbl.all mr_mv = true := by decide +kernel
theorem mr_move {A A' : Array Value} {s U : State} {w : Cond} (hW : s.WarmedH U.vm) (hH : ∀ a : Nat, a < s.heap.size → U.heap[a]? = s.heap[a]?) (hm : mr_mv w = true) (h : w.before A s = true) : w.before A' U = true := by
  by_cases hg : goodWord w = true
  · exact word_at hW (good_of_word hg) h
  · simp only [mr_mv, Bool.or_eq_true, hg, false_or] at hm
    cases w with
    | declares x => exact va_Nw.use rfl (va_Nw.warmD hW (va_Nw.of rfl h))
    | castable a b => exact va_Nw.use rfl (va_Nw.warmC hW (va_Nw.of rfl h))
    | privateMethod x => exact va_tabs rfl (rfl : (s.setVm U.vm).vm = U.vm) (by rw [Cond.privateMethod_setVm hW.alike]; exact h)
    | methodLinkNest a i x b => exact va_Nw.use rfl (va_Nw.warmM hW (va_Nw.of rfl h))
    | stringRef a i t =>
      have h1 := Cond.stringRef_warmed hW h
      exact h1
    | arrayOver t =>
      cases t with
      | object C => exact va_AO.use (va_AO.moved hW.alike (va_AO.of h))
      | _ => simp at hm
    | laysStatic a n d =>
      obtain ⟨c, k, i, f, q, cell, h1, h2, h3, h4, h5, h6, h7, h8, h9⟩ := Cond.laysStatic_spec h
      obtain ⟨k', hi', he⟩ := State.fieldFound?_setVm hW.alike h2
      exact Cond.laysStatic_of (by rw [hW.alike.findClass]; exact h1) hi' h3 (by rw [he]; exact h4) (by rw [hH q (Array.getElem?_eq_some_iff.mp h5).1]; exact h5) h6 h7 h8 (by rw [he]; exact h9)
    | _ => simp at hm
theorem mr_isr {A A' : Array Value} {s U : State} {C n d : String} (hW : s.WarmedH U.vm) (hH : ∀ a : Nat, a < s.heap.size → U.heap[a]? = s.heap[a]?) (hl : (Cond.laysStatic C n d).before A s = true) (hini : (Cond.initialized C).before A s = true) (h : (Cond.isRef (.static C n d)).before A s = true) : (Cond.isRef (.static C n d)).before A' U = true := by
  have hz : va_Zq C n d (fun _ => False) U U.heap := (va_Zq.kept (va_Zqof (A := fun _ => False) hl hini h (fun _ _ h => h)) (fun a h1 _ => hH a h1)).moved hW.alike
  rcases hz with ⟨cf, kf, fi, f, a, cell, h1, h2, h3, h4, h5, h6, h7, -⟩ | ⟨t, cf, kf, fi, f, a, cell, h1, h2, h3, h4, h5, h6, h7, -⟩
  · have he : (Term.static C n d).eval A' U none [] U = some .null := by simp [Term.eval, State.fieldNamed?, h1, h2, h4, h5, h6, h7]
    simp [Cond.before, Cond.holds, Cond.value, he]
  · have he : (Term.static C n d).eval A' U none [] U = some (.ref t) := by simp [Term.eval, State.fieldNamed?, h1, h2, h4, h5, h6, h7]
    simp [Cond.before, Cond.holds, Cond.value, he]
theorem mr_B.hts {s0 U : State} (h : mr_B s0 U) (A' : Array Value) : ∀ w ∈ lw_tbl, w.before A' U = true := by
  obtain ⟨⟨A, h1, -⟩, h2, -, h3⟩ := h
  exact fun w hw => mr_move h2 h3 (List.all_eq_true.mp mr_all w hw) (h1 w hw)
theorem mr_w_lu : Cond.laysStatic Bundle.tN "UNASSIGNED_STACK" Bundle.steD ∈ lw_tbl := by decide +kernel
theorem mr_w_ls : Cond.laysStatic Bundle.tN "SUPPRESSED_SENTINEL" Bundle.listD ∈ lw_tbl := by decide +kernel
theorem mr_w_it : Cond.initialized Bundle.tN ∈ lw_tbl := by decide +kernel
theorem mr_B.two {s0 U : State} (h : mr_B s0 U) (A' : Array Value) : mr_us.before A' U = true ∧ mr_ss.before A' U = true := by
  obtain ⟨⟨A, h1, h4, h5, -⟩, h2, -, h3⟩ := h
  exact ⟨mr_isr h2 h3 (h1 _ mr_w_lu) (h1 _ mr_w_it) h4, mr_isr h2 h3 (h1 _ mr_w_ls) (h1 _ mr_w_it) h5⟩
theorem mr_B.own {s0 U : State} (h : mr_B s0 U) (A' : Array Value) {L : List Cond} (hL : L.all (fun w => decide (w ∈ lw_tbl) || decide (w = mr_us) || decide (w = mr_ss)) = true) : ∀ w ∈ L, w.before A' U = true := by
  intro w hw
  have h1 := List.all_eq_true.mp hL w hw
  simp only [Bool.or_eq_true, decide_eq_true_eq] at h1
  rcases h1 with (h1 | rfl) | rfl
  · exact h.hts A' w h1
  · exact (h.two A').1
  · exact (h.two A').2
theorem mr_B.go {s0 s U : State} (h : mr_B s0 s) (hW : s.WarmedH U.vm) (hz : s.heap.size ≤ U.heap.size) (hH : ∀ a : Nat, a < s0.heap.size → U.heap[a]? = s.heap[a]?) : mr_B s0 U :=
  ⟨h.1, State.WarmedH.trans h.2.1 hW, Nat.le_trans h.2.2.1 hz, fun a ha => (hH a ha).trans (h.2.2.2 a ha)⟩
theorem mr_B.call {s0 U : State} (h : mr_B s0 U) (g : JFrame) (mk : MethodId) (a : Array Value) : mr_B s0 (U.calling g mk a) := h
theorem mr_a_iob : (Bundle.ownAtoms "MeasureRows" 60 mr_iob mr_up).all (fun w => decide (w ∈ lw_tbl) || decide (w = mr_us) || decide (w = mr_ss)) = true := by decide +kernel
theorem mr_a_iae : (Bundle.ownAtoms "MeasureRows" 82 mr_iae mr_up).all (fun w => decide (w ∈ lw_tbl) || decide (w = mr_us) || decide (w = mr_ss)) = true := by decide +kernel
theorem mr_a_ise : (Bundle.ownAtoms "MeasureRows" 97 mr_ise mr_up).all (fun w => decide (w ∈ lw_tbl) || decide (w = mr_us) || decide (w = mr_ss)) = true := by decide +kernel

theorem mr_Dby {A : Nat → Prop} {ws ws' : va_W} (hD : va_D A ws) (g : Nat → Nat) (hg : ∀ (k : Nat) (q : Nat × va_E), ws'[k]? = some q → ws[g k]? = some q) (hi : ∀ i j : Nat, i < ws'.length → j < ws'.length → g i = g j → i = j) : va_D A ws' :=
  ⟨fun i j p q h1 h2 h => hi i j (List.getElem?_eq_some_iff.mp h1).1 (List.getElem?_eq_some_iff.mp h2).1 (hD.1 _ _ _ _ (hg i p h1) (hg j q h2) h), fun k q hk => hD.2 _ _ (hg k q hk)⟩
theorem mr_swap {X P : va_W} {c : Nat × va_E} (k : Nat) (q : Nat × va_E) (hk : ((X ++ [c]) ++ P)[k]? = some q) : ((X ++ P) ++ [c])[if k < X.length then k else if k = X.length then X.length + P.length else k - 1]? = some q := by
  by_cases h1 : k < X.length
  · rw [if_pos h1]
    rw [List.append_assoc, List.getElem?_append_left h1] at hk
    rw [List.append_assoc, List.getElem?_append_left h1]; exact hk
  · rw [if_neg h1]
    rw [List.append_assoc, List.getElem?_append_right (by omega)] at hk
    by_cases h2 : k = X.length
    · rw [if_pos h2]
      subst h2
      rw [Nat.sub_self] at hk
      rw [List.getElem?_append_right (by simp), List.length_append, Nat.sub_self]
      simpa using hk
    · rw [if_neg h2]
      have e : k - X.length = (k - 1 - X.length) + 1 := by omega
      rw [e] at hk
      have hk : P[k - 1 - X.length]? = some q := by simpa using hk
      have hlt : k - 1 - X.length < P.length := (List.getElem?_eq_some_iff.mp hk).1
      rw [List.getElem?_append_left (by rw [List.length_append]; omega), List.getElem?_append_right (by omega)]
      exact hk
theorem mr_swapP {D : va_G} {cl : List vw_C} {X P : va_W} {c : Nat × va_E} {H : Heap} (h : va_P D cl ((X ++ P) ++ [c]) H) : va_P D cl ((X ++ [c]) ++ P) H := h.by _ mr_swap
theorem mr_swapD {A : Nat → Prop} {X P : va_W} {c : Nat × va_E} (h : va_D A ((X ++ P) ++ [c])) : va_D A ((X ++ [c]) ++ P) := mr_Dby h _ mr_swap (fun i j hi hj h => by
  simp only [List.length_append, List.length_cons, List.length_nil] at hi hj
  split at h <;> split at h <;> (try split at h) <;> (try split at h) <;> omega)
theorem mr_notin {A : Nat → Prop} {X : va_W} {L : List Nat} {f : Nat → va_E} {k a : Nat} {e : va_E} (hD : va_D A (X ++ va_pl L f)) (hk : X[k]? = some (a, e)) : a ∉ L := fun ha => by
  have hx : k < X.length := (List.getElem?_eq_some_iff.mp hk).1
  obtain ⟨i, hi⟩ := List.mem_iff_getElem?.mp ha
  have h1 : (X ++ va_pl L f)[k]? = some (a, e) := by rw [List.getElem?_append_left hx]; exact hk
  have h2 : (X ++ va_pl L f)[X.length + i]? = some (a, f a) := by
    rw [List.getElem?_append_right (by omega), show X.length + i - X.length = i by omega]
    unfold va_pl; rw [List.getElem?_map, hi]; rfl
  have := hD.1 _ _ _ _ h1 h2 rfl
  omega
theorem mr_pool3 {L : List Nat} {f : Nat → va_E} {a b d : Nat} {e1 e2 e3 : va_E} (ha : a ∉ L) (hb : b ∉ L) (hd : d ∉ L) (hne : a ≠ b ∧ a ≠ d ∧ b ≠ d) : (a, e1) :: (b, e2) :: (d, e3) :: va_pl L f = va_pl (a :: b :: d :: L) (va_up (va_up (va_up f a e1) b e2) d e3) := by
  obtain ⟨h1, h2, h3⟩ := hne
  unfold va_pl
  rw [List.map_cons, List.map_cons, List.map_cons]
  have e : L.map (fun x => (x, f x)) = L.map (fun x => (x, va_up (va_up (va_up f a e1) b e2) d e3 x)) := List.map_congr_left fun x hx => by
    have q1 : x ≠ a := fun e => ha (e ▸ hx)
    have q2 : x ≠ b := fun e => hb (e ▸ hx)
    have q3 : x ≠ d := fun e => hd (e ▸ hx)
    simp [va_up, q1, q2, q3]
  rw [← e]
  simp [va_up, h1, h2, h3]
theorem mr_RIpush {cI : ClassId} {n : Nat} {L : List Nat} {f : Nat → va_E} {fr : Nat → Option Nat} {a b d k : Nat} {v0 v1 v2 v4 v5 v6 v7 : Int32} {ld kd : Nat → Int32} (hR : mr_RI cI n L f fr) (hn : n < 80) (ha : a ∉ L) (hb : b ∉ L) (hd : d ∉ L) (hne : a ≠ b ∧ a ≠ d ∧ b ≠ d) (hk : k < 8) :
    mr_RI cI (n + 1) (a :: b :: d :: L) (va_up (va_up (va_up f a (.inr (2, [.int v0, .int v1, .int v2, .int (nI k), .int v4, .int v5, .int v6, .int v7, .int (nI 1), .ref b, .ref d]))) b (.inl (cI, 8, .inl ld))) d (.inl (cI, 8, .inl kd))) (va_up fr n (some a)) := by
  obtain ⟨h1, h2, h3⟩ := hne
  refine ⟨by omega, fun i hi => ?_⟩
  by_cases h : i = n
  · subst h
    exact ⟨a, b, d, v0, v1, v2, v4, v5, v6, v7, k, 1, ld, kd, by simp [va_up], by simp, by simp, by simp, by simp [va_up, h1, h2], by simp [va_up, h3], by simp [va_up], hk, by omega, by omega, h3⟩
  · obtain ⟨a', ql', qk', w0, w1, w2, w4, w5, w6, w7, k', t', ld', kd', e, m1, m2, m3, e1, e2, e3, rest⟩ := hR.2 i (by omega)
    have ne : ∀ {x : Nat}, x ∈ L → x ≠ a ∧ x ≠ b ∧ x ≠ d := fun hx => ⟨fun e => ha (e ▸ hx), fun e => hb (e ▸ hx), fun e => hd (e ▸ hx)⟩
    exact ⟨a', ql', qk', w0, w1, w2, w4, w5, w6, w7, k', t', ld', kd', by simp [va_up, h, e], by simp [m1], by simp [m2], by simp [m3], by simp [va_up, ne m1, e1], by simp [va_up, ne m2, e2], by simp [va_up, ne m3, e3], rest⟩
theorem mr_k8 {x : Int32} (h1 : ¬ x < 0) (h2 : ¬ 8 ≤ x) : ∃ k : Nat, k < 8 ∧ x = nI k := by
  obtain ⟨j, hj, rfl⟩ := nI_of h1
  refine ⟨j, ?_, rfl⟩
  rcases Nat.lt_or_ge j 8 with q | q
  · exact q
  · exact absurd (nI_le (a := 8) q hj) h2
theorem mr_n80 {n : Nat} (h : nI n < 80) (hn : n ≤ 80) : n < 80 := by
  rcases Nat.lt_or_ge n 80 with q | q
  · exact q
  · exact absurd h (nI_nlt (b := 80) q (by omega))
theorem mr_ordinj {n : Nat} (is : List Nat) (h1 : is.Nodup) (h2 : ∀ i ∈ is, i < is.length) (h3 : True) : ∀ i j : Nat, i < n → j < n → (if i < is.length then (is[i]?).getD 0 else is.length + (i - is.length)) = (if j < is.length then (is[j]?).getD 0 else is.length + (j - is.length)) → i = j := by
  intro i j _ _ h
  have hb : ∀ i, i < is.length → ∃ x, is[i]? = some x ∧ x < is.length := fun i hi => ⟨is[i], List.getElem?_eq_getElem hi, h2 _ (List.getElem_mem hi)⟩
  by_cases hi : i < is.length
  · by_cases hj : j < is.length
    · rw [if_pos hi, if_pos hj] at h
      obtain ⟨x, hx, _⟩ := hb i hi
      obtain ⟨y, hy, _⟩ := hb j hj
      rw [hx, hy] at h
      have h : x = y := h
      exact (List.getElem?_inj hi h1).mp (by rw [hx, hy, h])
    · rw [if_pos hi, if_neg hj] at h
      obtain ⟨x, hx, hlt⟩ := hb i hi
      rw [hx] at h
      have h : x = is.length + (j - is.length) := h
      omega
  · by_cases hj : j < is.length
    · rw [if_neg hi, if_pos hj] at h
      obtain ⟨x, hx, hlt⟩ := hb j hj
      rw [hx] at h
      have h : is.length + (i - is.length) = x := h
      omega
    · rw [if_neg hi, if_neg hj] at h
      omega
theorem mw_241 : Cond.stringRef "MeasureRows" 80 "no such code or land" ∈ lw_tbl := by decide +kernel
theorem mw_242 : Cond.code y_M_isPlace b_M_isPlace 1 (some .boolean) ∈ lw_tbl := by decide +kernel
theorem mw_243 : Cond.initialized y_M_isPlace.cls ∈ lw_tbl := by decide +kernel
theorem mw_244 : Cond.methodLink "MeasureRows" 75 y_M_isPlace ∈ lw_tbl := by decide +kernel
theorem mw_245 : Cond.static y_M_isPlace ∈ lw_tbl := by decide +kernel
theorem mw_246 : Cond.stringRef "MeasureRows" 91 "no such kind or rank" ∈ lw_tbl := by decide +kernel
theorem mw_247 : Cond.code y_M_leastClash b_M_leastClash 9 (some .int) ∈ lw_tbl := by decide +kernel
theorem mw_248 : Cond.initialized y_M_leastClash.cls ∈ lw_tbl := by decide +kernel
theorem mw_249 : Cond.methodLink "MeasureRows" 98 y_M_leastClash ∈ lw_tbl := by decide +kernel
theorem mw_250 : Cond.instanceMethod y_M_leastClash ∈ lw_tbl := by decide +kernel
theorem mw_251 : Cond.selects "MeasureRows" y_M_leastClash y_M_leastClash ∈ lw_tbl := by decide +kernel
theorem mw_252 : Cond.classLink "MeasureRows" 16 R_R ∈ lw_tbl := by decide +kernel
theorem mw_253 : Cond.instantiable R_R 11 ∈ lw_tbl := by decide +kernel
theorem mw_254 : Cond.initialized R_R ∈ lw_tbl := by decide +kernel
theorem mw_255 : Cond.code y_R_init b_R_init 8 none ∈ lw_tbl := by decide +kernel
theorem mw_256 : Cond.initialized y_R_init.cls ∈ lw_tbl := by decide +kernel
theorem mw_257 : Cond.methodLink "MeasureRows" 102 y_R_init ∈ lw_tbl := by decide +kernel
theorem mw_258 : Cond.instanceMethod y_R_init ∈ lw_tbl := by decide +kernel
theorem mw_259 : Cond.stringRef "MeasureRows" 95 "no room for another row" ∈ lw_tbl := by decide +kernel
set_option maxHeartbeats 4000000 in
set_option maxRecDepth 100000 in
theorem mc_M_row (l : Launch) (hlt : l.stackTraces = false) (s0 : State) (dC : Nat → ClassId) (dI : Nat → Nat → Nat) (cI cR cL cZ : ClassId) (r : Nat → Nat) (n : Nat) (nw pb lc : Int32) (fm fi : Nat → Int32) (fr : Nat → Option Nat) (fl fc fg : Nat → Int32) (L : List Nat) (f : Nat → va_E) (sz : Nat) (a0 : Int32) (a1 : Int32) (a2 : Int32) (a3 : Int32) (a4 : Int32) (a5 : Int32) (a6 : Int32) (hR : mr_RI cI n L f fr) : mr_Met l y_M_row [Cond.code y_M_row b_M_row 9 (some .int)] ({ frames := 6, cells := 3, slots := 27, locals := 92 }) (mr_PC s0 (dC, dI) [(cI, .int), (cR, .object "MeasureRows$Row"), (cL, .long), (cZ, .boolean)] [.ref (r 0), .int a0, .int a1, .int a2, .int a3, .int a4, .int a5, .int a6] ([((r 0), .inr (0, mf_M r (nI n) nw pb lc)), ((r 1), .inr (1, [.ref (r 2), .ref (r 3)])), ((r 2), .inl (cI, 8, .inl fm)), ((r 3), .inl (cI, 8, .inl fi)), ((r 4), .inl (cR, 80, .inr (.inr (.inr (.inr fr))))), ((r 5), .inl (cI, 80, .inl fl)), ((r 6), .inl (cI, 80, .inl fc)), ((r 7), .inl (cI, 8, .inl fg))] ++ va_pl L f) sz) (va_Qi (fun _ _ => True) (fun (u : Unit) t => ∃ (n9 : Nat) (nw9 : Int32) (fr9 : Nat → Option Nat) (L9 : List Nat) (f9 : Nat → va_E), mr_RI cI n9 L9 f9 fr9 ∧ mr_W (dC, dI) [(cI, .int), (cR, .object "MeasureRows$Row"), (cL, .long), (cZ, .boolean)] (va_A ([((r 0), .inr (0, mf_M r (nI n) nw pb lc)), ((r 1), .inr (1, [.ref (r 2), .ref (r 3)])), ((r 2), .inl (cI, 8, .inl fm)), ((r 3), .inl (cI, 8, .inl fi)), ((r 4), .inl (cR, 80, .inr (.inr (.inr (.inr fr))))), ((r 5), .inl (cI, 80, .inl fl)), ((r 6), .inl (cI, 80, .inl fc)), ((r 7), .inl (cI, 8, .inl fg))] ++ va_pl L f) sz) ([((r 0), .inr (0, mf_M r (nI n9) nw9 pb lc)), ((r 1), .inr (1, [.ref (r 2), .ref (r 3)])), ((r 2), .inl (cI, 8, .inl fm)), ((r 3), .inl (cI, 8, .inl fi)), ((r 4), .inl (cR, 80, .inr (.inr (.inr (.inr fr9))))), ((r 5), .inl (cI, 80, .inl fl)), ((r 6), .inl (cI, 80, .inl fc)), ((r 7), .inl (cI, 8, .inl fg))] ++ va_pl L9 f9) t) (va_A ([((r 0), .inr (0, mf_M r (nI n) nw pb lc)), ((r 1), .inr (1, [.ref (r 2), .ref (r 3)])), ((r 2), .inl (cI, 8, .inl fm)), ((r 3), .inl (cI, 8, .inl fi)), ((r 4), .inl (cR, 80, .inr (.inr (.inr (.inr fr))))), ((r 5), .inl (cI, 80, .inl fl)), ((r 6), .inl (cI, 80, .inl fc)), ((r 7), .inl (cI, 8, .inl fg))] ++ va_pl L f) sz)) (fun E => E = mr_iae ∨ E = mr_ise) 3 27 (va_A ([((r 0), .inr (0, mf_M r (nI n) nw pb lc)), ((r 1), .inr (1, [.ref (r 2), .ref (r 3)])), ((r 2), .inl (cI, 8, .inl fm)), ((r 3), .inl (cI, 8, .inl fi)), ((r 4), .inl (cR, 80, .inr (.inr (.inr (.inr fr))))), ((r 5), .inl (cI, 80, .inl fl)), ((r 6), .inl (cI, 80, .inl fc)), ((r 7), .inl (cI, 8, .inl fg))] ++ va_pl L f) sz) := by
  refine mr_of (cc := b_M_row) (maxL := 9) (ret := (some .int)) (by decide) rfl ?_
  intro p e s m args below meth c s₁ B hml hno hv
  obtain ⟨rfl, hsz, hB, hK, hP, hD0⟩ := hv
  subst hsz
  have hA0 := mr_A hB hD0
  have hD := hD0.self (sz := s.heap.size)
  generalize hAe : va_A ([((r 0), .inr (0, mf_M r (nI n) nw pb lc)), ((r 1), .inr (1, [.ref (r 2), .ref (r 3)])), ((r 2), .inl (cI, 8, .inl fm)), ((r 3), .inl (cI, 8, .inl fi)), ((r 4), .inl (cR, 80, .inr (.inr (.inr (.inr fr))))), ((r 5), .inl (cI, 80, .inl fl)), ((r 6), .inl (cI, 80, .inl fc)), ((r 7), .inl (cI, 8, .inl fg))] ++ va_pl L f) s.heap.size = A at hD hA0 ⊢
  have hA : ∀ q : Nat, s.heap.size ≤ q → A q := fun q h => by rw [← hAe]; exact Or.inr h
  have hS : va_S A s.heap s.heap [] := va_S.rf
  have hP : va_P (dC, dI) mr_cl ([((r 0), .inr (0, mf_M r (nI n) nw pb lc)), ((r 1), .inr (1, [.ref (r 2), .ref (r 3)])), ((r 2), .inl (cI, 8, .inl fm)), ((r 3), .inl (cI, 8, .inl fi)), ((r 4), .inl (cR, 80, .inr (.inr (.inr (.inr fr))))), ((r 5), .inl (cI, 80, .inl fl)), ((r 6), .inl (cI, 80, .inl fc)), ((r 7), .inl (cI, 8, .inl fg))] ++ va_pl L f) s.heap := hP
  have hBH := hB.at hS hA0
  have hx := B.exec
  have hb := B.bytes
  have hr := B.returns
  have hlocks := B.notSynchronized
  have hts : ∀ w ∈ lw_tbl, w.before [.ref (r 0), .int a0, .int a1, .int a2, .int a3, .int a4, .int a5, .int a6].toArray s = true := hB.hts _
  have hown : s.vm.findClass "MeasureRows" = some m.cls := findClass_of_methodNamed B.named
  have hl := lv_entry ([.ref (r 0), .int a0, .int a1, .int a2, .int a3, .int a4, .int a5, .int a6]) (n := 9) (Nat.le_of_ble_eq_true rfl)
  rw [lg_entry_eq]
  generalize (lg_sl ([.ref (r 0), .int a0, .int a1, .int a2, .int a3, .int a4, .int a5, .int a6]) ++ List.replicate (9 - (lg_sl ([.ref (r 0), .int a0, .int a1, .int a2, .int a3, .int a4, .int a5, .int a6])).length) Slot.unset).toArray = ls at hl ⊢
  have hl : lv_has ls 9 [(0, .ref (r 0)), (1, .int a0), (2, .int a1), (3, .int a2), (4, .int a3), (5, .int a4), (6, .int a5), (7, .int a6)] := hl
  refine lv_iload_n hx hb d_M_row_0 rfl (lv_at hl 1 rfl) ?_
  refine vp_callSi (va_Run.run (va_runS (As := [.int a0]) (rest := []) ⟨hx, hb, hml, hown, hts⟩ (mc_M_levelOf l s0 a0) ⟨(mr_cB 1 (hts (Cond.code y_M_levelOf b_M_levelOf 1 (some .int)) mw_99) (hts (Cond.initialized y_M_levelOf.cls) mw_100) (hts (Cond.methodLink "MeasureRows" 71 y_M_levelOf) mw_219) rfl rfl (by decide +kernel) ⟨Nat.le_of_ble_eq_true rfl, Nat.le_of_ble_eq_true rfl⟩), (hts (Cond.static y_M_levelOf) mw_102)⟩ (mr_pre0 hBH) rfl rfl hl.1 rfl (lv_room (Nat.le_of_ble_eq_true rfl)) d_M_row_1 ⟨Nat.le_of_ble_eq_true rfl, Nat.le_of_ble_eq_true rfl⟩)) (fun r_1 h_2 => ?_)
  subst h_2
  refine lv_if_eq (tgt := 14) hx hb d_M_row_4 (by decide) (fun c_3 => ?_) (fun c_3 => ?_)
  · obtain ⟨sa, hstr⟩ := mr_str (hts (Cond.stringRef "MeasureRows" 80 "no such code or land") mw_241) hown
    exact mr_throw (names := mr_up) hx hb hlt hown (by decide +kernel) (by decide +kernel) (hts (Cond.classLink "MeasureRows" 78 mr_iae) mw_139) (hts (Cond.initialized mr_iae) mw_140) hstr (hB.own _ mr_a_iae) (hl.1.trans hml.symm) d_M_row_14 d_M_row_17 d_M_row_18 d_M_row_20 d_M_row_23 hno (Nat.le_of_ble_eq_true rfl) (Nat.le_of_ble_eq_true rfl) (Nat.le_of_ble_eq_true rfl) (Nat.le_of_ble_eq_true rfl) hlocks (Or.inl rfl) (Nat.le_of_ble_eq_true rfl) (Nat.le_of_ble_eq_true rfl)
  · refine lv_iload_n hx hb d_M_row_7 rfl (lv_at hl 2 rfl) ?_
    refine vp_callSi (va_Run.run (va_runS (As := [.int a1]) (rest := []) ⟨hx, hb, hml, hown, hts⟩ (mc_M_isPlace l s0 a1) ⟨(mr_cB 1 (hts (Cond.code y_M_isPlace b_M_isPlace 1 (some .boolean)) mw_242) (hts (Cond.initialized y_M_isPlace.cls) mw_243) (hts (Cond.methodLink "MeasureRows" 75 y_M_isPlace) mw_244) rfl rfl (by decide +kernel) ⟨Nat.le_of_ble_eq_true rfl, Nat.le_of_ble_eq_true rfl⟩), (hts (Cond.static y_M_isPlace) mw_245)⟩ (mr_pre0 hBH) rfl rfl hl.1 rfl (lv_room (Nat.le_of_ble_eq_true rfl)) d_M_row_8 ⟨Nat.le_of_ble_eq_true rfl, Nat.le_of_ble_eq_true rfl⟩)) (fun r_4 h_5 => ?_)
    subst h_5
    refine lv_if_ne (tgt := 24) hx hb d_M_row_11 (by decide) (fun c_6 => ?_) (fun c_6 => ?_)
    · refine lv_iload_n hx hb d_M_row_24 rfl (lv_at hl 3 rfl) ?_
      refine vp_callSi (va_Run.run (va_runS (As := [.int a2]) (rest := []) ⟨hx, hb, hml, hown, hts⟩ (mc_M_isDay l s0 a2) ⟨(mr_cB 1 (hts (Cond.code y_M_isDay b_M_isDay 1 (some .boolean)) mw_9) (hts (Cond.initialized y_M_isDay.cls) mw_10) (hts (Cond.methodLink "MeasureRows" 83 y_M_isDay) mw_11) rfl rfl (by decide +kernel) ⟨Nat.le_of_ble_eq_true rfl, Nat.le_of_ble_eq_true rfl⟩), (hts (Cond.static y_M_isDay) mw_12)⟩ (mr_pre0 hBH) rfl rfl hl.1 rfl (lv_room (Nat.le_of_ble_eq_true rfl)) d_M_row_25 ⟨Nat.le_of_ble_eq_true rfl, Nat.le_of_ble_eq_true rfl⟩)) (fun r_7 h_8 => ?_)
      subst h_8
      refine lv_if_eq (tgt := 53) hx hb d_M_row_28 (by decide) (fun c_9 => ?_) (fun c_9 => ?_)
      · obtain ⟨sa, hstr⟩ := mr_str (hts (Cond.stringRef "MeasureRows" 89 "no such days") mw_138) hown
        exact mr_throw (names := mr_up) hx hb hlt hown (by decide +kernel) (by decide +kernel) (hts (Cond.classLink "MeasureRows" 78 mr_iae) mw_139) (hts (Cond.initialized mr_iae) mw_140) hstr (hB.own _ mr_a_iae) (hl.1.trans hml.symm) d_M_row_53 d_M_row_56 d_M_row_57 d_M_row_59 d_M_row_62 hno (Nat.le_of_ble_eq_true rfl) (Nat.le_of_ble_eq_true rfl) (Nat.le_of_ble_eq_true rfl) (Nat.le_of_ble_eq_true rfl) hlocks (Or.inl rfl) (Nat.le_of_ble_eq_true rfl) (Nat.le_of_ble_eq_true rfl)
      · refine lv_iload hx hb d_M_row_31 (lv_at hl 4 rfl) ?_
        refine vp_callSi (va_Run.run (va_runS (As := [.int a3]) (rest := []) ⟨hx, hb, hml, hown, hts⟩ (mc_M_isLastDay l s0 a3) ⟨(mr_cB 1 (hts (Cond.code y_M_isLastDay b_M_isLastDay 1 (some .boolean)) mw_184) (hts (Cond.initialized y_M_isLastDay.cls) mw_185) (hts (Cond.methodLink "MeasureRows" 86 y_M_isLastDay) mw_186) rfl rfl (by decide +kernel) ⟨Nat.le_of_ble_eq_true rfl, Nat.le_of_ble_eq_true rfl⟩), (hts (Cond.static y_M_isLastDay) mw_187)⟩ (mr_pre0 hBH) rfl rfl hl.1 rfl (lv_room (Nat.le_of_ble_eq_true rfl)) d_M_row_33 ⟨Nat.le_of_ble_eq_true rfl, Nat.le_of_ble_eq_true rfl⟩)) (fun r_10 h_11 => ?_)
        subst h_11
        refine lv_if_eq (tgt := 53) hx hb d_M_row_36 (by decide) (fun c_12 => ?_) (fun c_12 => ?_)
        · obtain ⟨sa, hstr⟩ := mr_str (hts (Cond.stringRef "MeasureRows" 89 "no such days") mw_138) hown
          exact mr_throw (names := mr_up) hx hb hlt hown (by decide +kernel) (by decide +kernel) (hts (Cond.classLink "MeasureRows" 78 mr_iae) mw_139) (hts (Cond.initialized mr_iae) mw_140) hstr (hB.own _ mr_a_iae) (hl.1.trans hml.symm) d_M_row_53 d_M_row_56 d_M_row_57 d_M_row_59 d_M_row_62 hno (Nat.le_of_ble_eq_true rfl) (Nat.le_of_ble_eq_true rfl) (Nat.le_of_ble_eq_true rfl) (Nat.le_of_ble_eq_true rfl) hlocks (Or.inl rfl) (Nat.le_of_ble_eq_true rfl) (Nat.le_of_ble_eq_true rfl)
        · refine lv_iload hx hb d_M_row_39 (lv_at hl 7 rfl) ?_
          refine vp_callSi (va_Run.run (va_runS (As := [.int a6]) (rest := []) ⟨hx, hb, hml, hown, hts⟩ (mc_M_isDay l s0 a6) ⟨(mr_cB 1 (hts (Cond.code y_M_isDay b_M_isDay 1 (some .boolean)) mw_9) (hts (Cond.initialized y_M_isDay.cls) mw_10) (hts (Cond.methodLink "MeasureRows" 83 y_M_isDay) mw_11) rfl rfl (by decide +kernel) ⟨Nat.le_of_ble_eq_true rfl, Nat.le_of_ble_eq_true rfl⟩), (hts (Cond.static y_M_isDay) mw_12)⟩ (mr_pre0 hBH) rfl rfl hl.1 rfl (lv_room (Nat.le_of_ble_eq_true rfl)) d_M_row_41 ⟨Nat.le_of_ble_eq_true rfl, Nat.le_of_ble_eq_true rfl⟩)) (fun r_13 h_14 => ?_)
          subst h_14
          refine lv_if_eq (tgt := 53) hx hb d_M_row_44 (by decide) (fun c_15 => ?_) (fun c_15 => ?_)
          · obtain ⟨sa, hstr⟩ := mr_str (hts (Cond.stringRef "MeasureRows" 89 "no such days") mw_138) hown
            exact mr_throw (names := mr_up) hx hb hlt hown (by decide +kernel) (by decide +kernel) (hts (Cond.classLink "MeasureRows" 78 mr_iae) mw_139) (hts (Cond.initialized mr_iae) mw_140) hstr (hB.own _ mr_a_iae) (hl.1.trans hml.symm) d_M_row_53 d_M_row_56 d_M_row_57 d_M_row_59 d_M_row_62 hno (Nat.le_of_ble_eq_true rfl) (Nat.le_of_ble_eq_true rfl) (Nat.le_of_ble_eq_true rfl) (Nat.le_of_ble_eq_true rfl) hlocks (Or.inl rfl) (Nat.le_of_ble_eq_true rfl) (Nat.le_of_ble_eq_true rfl)
          · refine lv_iload hx hb d_M_row_47 (lv_at hl 4 rfl) ?_
            refine lv_iload_n hx hb d_M_row_49 rfl (lv_at hl 3 rfl) ?_
            refine lv_icmp_ge (tgt := 63) hx hb d_M_row_50 (by decide) (fun c_16 => ?_) (fun c_16 => ?_)
            · refine lv_iload hx hb d_M_row_63 (lv_at hl 5 rfl) ?_
              refine lv_if_lt (tgt := 87) hx hb d_M_row_65 (by decide) (fun c_17 => ?_) (fun c_17 => ?_)
              · obtain ⟨sa, hstr⟩ := mr_str (hts (Cond.stringRef "MeasureRows" 91 "no such kind or rank") mw_246) hown
                exact mr_throw (names := mr_up) hx hb hlt hown (by decide +kernel) (by decide +kernel) (hts (Cond.classLink "MeasureRows" 78 mr_iae) mw_139) (hts (Cond.initialized mr_iae) mw_140) hstr (hB.own _ mr_a_iae) (hl.1.trans hml.symm) d_M_row_87 d_M_row_90 d_M_row_91 d_M_row_93 d_M_row_96 hno (Nat.le_of_ble_eq_true rfl) (Nat.le_of_ble_eq_true rfl) (Nat.le_of_ble_eq_true rfl) (Nat.le_of_ble_eq_true rfl) hlocks (Or.inl rfl) (Nat.le_of_ble_eq_true rfl) (Nat.le_of_ble_eq_true rfl)
              · refine lv_iload hx hb d_M_row_68 (lv_at hl 5 rfl) ?_
                refine lv_bipush (v := 8) hx hb d_M_row_70 (by decide) ?_
                refine lv_icmp_ge (tgt := 87) hx hb d_M_row_72 (by decide) (fun c_18 => ?_) (fun c_18 => ?_)
                · obtain ⟨sa, hstr⟩ := mr_str (hts (Cond.stringRef "MeasureRows" 91 "no such kind or rank") mw_246) hown
                  exact mr_throw (names := mr_up) hx hb hlt hown (by decide +kernel) (by decide +kernel) (hts (Cond.classLink "MeasureRows" 78 mr_iae) mw_139) (hts (Cond.initialized mr_iae) mw_140) hstr (hB.own _ mr_a_iae) (hl.1.trans hml.symm) d_M_row_87 d_M_row_90 d_M_row_91 d_M_row_93 d_M_row_96 hno (Nat.le_of_ble_eq_true rfl) (Nat.le_of_ble_eq_true rfl) (Nat.le_of_ble_eq_true rfl) (Nat.le_of_ble_eq_true rfl) hlocks (Or.inl rfl) (Nat.le_of_ble_eq_true rfl) (Nat.le_of_ble_eq_true rfl)
                · refine lv_iload hx hb d_M_row_75 (lv_at hl 6 rfl) ?_
                  refine lv_if_lt (tgt := 87) hx hb d_M_row_77 (by decide) (fun c_19 => ?_) (fun c_19 => ?_)
                  · obtain ⟨sa, hstr⟩ := mr_str (hts (Cond.stringRef "MeasureRows" 91 "no such kind or rank") mw_246) hown
                    exact mr_throw (names := mr_up) hx hb hlt hown (by decide +kernel) (by decide +kernel) (hts (Cond.classLink "MeasureRows" 78 mr_iae) mw_139) (hts (Cond.initialized mr_iae) mw_140) hstr (hB.own _ mr_a_iae) (hl.1.trans hml.symm) d_M_row_87 d_M_row_90 d_M_row_91 d_M_row_93 d_M_row_96 hno (Nat.le_of_ble_eq_true rfl) (Nat.le_of_ble_eq_true rfl) (Nat.le_of_ble_eq_true rfl) (Nat.le_of_ble_eq_true rfl) hlocks (Or.inl rfl) (Nat.le_of_ble_eq_true rfl) (Nat.le_of_ble_eq_true rfl)
                  · refine lv_iload hx hb d_M_row_80 (lv_at hl 6 rfl) ?_
                    refine lv_bipush (v := 10) hx hb d_M_row_82 (by decide) ?_
                    refine lv_icmp_lt (tgt := 97) hx hb d_M_row_84 (by decide) (fun c_20 => ?_) (fun c_20 => ?_)
                    · refine lv_aload_n hx hb d_M_row_97 rfl (lv_at hl 0 rfl) ?_
                      refine va_get (D := (dC, dI)) (ci := 0) (v := .int (nI n)) (C := R_M) (T := T_M) (N := 9) hx hb hts ti_M hown hK hP 0 rfl rfl 2 (by decide) (hts (Cond.fieldLink "MeasureRows" 22 "MeasureRows" "rowCount" "I") mw_57) (fun _ h9 => h9) rfl d_M_row_98 ?_
                      refine lv_bipush (v := 80) hx hb d_M_row_101 (by decide) ?_
                      refine lv_icmp_lt (tgt := 116) hx hb d_M_row_103 (by decide) (fun c_21 => ?_) (fun c_21 => ?_)
                      · refine lv_aload_n hx hb d_M_row_116 rfl (lv_at hl 0 rfl) ?_
                        refine lv_iload_n hx hb d_M_row_117 rfl (lv_at hl 1 rfl) ?_
                        refine lv_iload_n hx hb d_M_row_118 rfl (lv_at hl 2 rfl) ?_
                        refine lv_iload_n hx hb d_M_row_119 rfl (lv_at hl 3 rfl) ?_
                        refine lv_iload hx hb d_M_row_120 (lv_at hl 4 rfl) ?_
                        refine lv_iload hx hb d_M_row_122 (lv_at hl 5 rfl) ?_
                        refine lv_iload hx hb d_M_row_124 (lv_at hl 6 rfl) ?_
                        refine vp_callSi (va_Run.run (va_runV (As := [.int a0, .int a1, .int a2, .int a3, .int a4, .int a5]) (rest := []) (C := R_M) ⟨hx, hb, hml, hown, hts⟩ (mc_M_leastClash l s0 dC dI cI cR cL cZ r n nw pb lc fm fi fr fl fc fg L f a0 a1 a2 a3 a4 a5 hR) ⟨(mr_cB 6 (hts (Cond.code y_M_leastClash b_M_leastClash 9 (some .int)) mw_247) (hts (Cond.initialized y_M_leastClash.cls) mw_248) (hts (Cond.methodLink "MeasureRows" 98 y_M_leastClash) mw_249) rfl rfl (by decide +kernel) ⟨Nat.le_of_ble_eq_true rfl, Nat.le_of_ble_eq_true rfl⟩), (hts (Cond.instanceMethod y_M_leastClash) mw_250), (hts (Cond.selects "MeasureRows" y_M_leastClash y_M_leastClash) mw_251)⟩ (mr_preV hBH hK hP (ci := 0) (q0 := 0) rfl rfl) rfl rfl hl.1 rfl (lv_room (Nat.le_of_ble_eq_true rfl)) d_M_row_126 ⟨Nat.le_of_ble_eq_true rfl, Nat.le_of_ble_eq_true rfl⟩)) (fun r_22 h_23 => ?_)
                        refine lv_istore (lv' := [(8, .int r_22), (0, .ref (r 0)), (1, .int a0), (2, .int a1), (3, .int a2), (4, .int a3), (5, .int a4), (6, .int a5), (7, .int a6)]) hx hb d_M_row_129 hl (by decide) rfl (fun ls hl => ?_)
                        refine lv_iload hx hb d_M_row_131 (lv_at hl 0 rfl) ?_
                        refine lv_iconst (v := (-1)) hx hb d_M_row_133 (by decide) ?_
                        refine lv_icmp_eq (tgt := 142) hx hb d_M_row_134 (by decide) (fun c_24 => ?_) (fun c_24 => ?_)
                        · refine lv_aload_n hx hb d_M_row_142 rfl (lv_at hl 1 rfl) ?_
                          refine va_get (D := (dC, dI)) (ci := 0) (v := .ref (r 4)) (C := R_M) (T := T_M) (N := 9) hx hb hts ti_M hown hK hP 0 rfl rfl 1 (by decide) (hts (Cond.fieldLink "MeasureRows" 18 "MeasureRows" "rows" "[LMeasureRows$Row;") mw_56) (fun _ h9 => h9) rfl d_M_row_143 ?_
                          refine lv_aload_n hx hb d_M_row_146 rfl (lv_at hl 1 rfl) ?_
                          refine va_get (D := (dC, dI)) (ci := 0) (v := .int (nI n)) (C := R_M) (T := T_M) (N := 9) hx hb hts ti_M hown hK hP 0 rfl rfl 2 (by decide) (hts (Cond.fieldLink "MeasureRows" 22 "MeasureRows" "rowCount" "I") mw_57) (fun _ h9 => h9) rfl d_M_row_147 ?_
                          refine va_new (ci := 2) (fs := [.int 0, .int 0, .int 0, .int 0, .int 0, .int 0, .int 0, .int 0, .int 0, .null, .null]) (C := R_R) (T := T_R) (N := 11) hx hb hts ti_R t_R to_R hown (hts (Cond.classLink "MeasureRows" 16 R_R) mw_252) (hts (Cond.instantiable R_R 11) mw_253) (hts (Cond.initialized R_R) mw_254) hK hP hD hS hA rfl (fun j hj => by rcases (show j = 0 ∨ j = 1 ∨ j = 2 ∨ j = 3 ∨ j = 4 ∨ j = 5 ∨ j = 6 ∨ j = 7 ∨ j = 8 ∨ j = 9 ∨ j = 10 by omega) with rfl | rfl | rfl | rfl | rfl | rfl | rfl | rfl | rfl | rfl | rfl <;> rfl) (Nat.le_of_ble_eq_true rfl) (Nat.le_of_ble_eq_true rfl) d_M_row_150 (fun q_25 H hP hD hS => ?_)
                          have hP := mr_swapP (X := [((r 0), .inr (0, mf_M r (nI n) nw pb lc)), ((r 1), .inr (1, [.ref (r 2), .ref (r 3)])), ((r 2), .inl (cI, 8, .inl fm)), ((r 3), .inl (cI, 8, .inl fi)), ((r 4), .inl (cR, 80, .inr (.inr (.inr (.inr fr))))), ((r 5), .inl (cI, 80, .inl fl)), ((r 6), .inl (cI, 80, .inl fc)), ((r 7), .inl (cI, 8, .inl fg))]) (P := va_pl L f) hP
                          have hD := mr_swapD (X := [((r 0), .inr (0, mf_M r (nI n) nw pb lc)), ((r 1), .inr (1, [.ref (r 2), .ref (r 3)])), ((r 2), .inl (cI, 8, .inl fm)), ((r 3), .inl (cI, 8, .inl fi)), ((r 4), .inl (cR, 80, .inr (.inr (.inr (.inr fr))))), ((r 5), .inl (cI, 80, .inl fl)), ((r 6), .inl (cI, 80, .inl fc)), ((r 7), .inl (cI, 8, .inl fg))]) (P := va_pl L f) hD
                          have hP : va_P (dC, dI) mr_cl ([((r 0), .inr (0, mf_M r (nI n) nw pb lc)), ((r 1), .inr (1, [.ref (r 2), .ref (r 3)])), ((r 2), .inl (cI, 8, .inl fm)), ((r 3), .inl (cI, 8, .inl fi)), ((r 4), .inl (cR, 80, .inr (.inr (.inr (.inr fr))))), ((r 5), .inl (cI, 80, .inl fl)), ((r 6), .inl (cI, 80, .inl fc)), ((r 7), .inl (cI, 8, .inl fg)), (q_25, .inr (2, [.int 0, .int 0, .int 0, .int 0, .int 0, .int 0, .int 0, .int 0, .int 0, .null, .null]))] ++ va_pl L f) H := hP
                          have hD : va_D A ([((r 0), .inr (0, mf_M r (nI n) nw pb lc)), ((r 1), .inr (1, [.ref (r 2), .ref (r 3)])), ((r 2), .inl (cI, 8, .inl fm)), ((r 3), .inl (cI, 8, .inl fi)), ((r 4), .inl (cR, 80, .inr (.inr (.inr (.inr fr))))), ((r 5), .inl (cI, 80, .inl fl)), ((r 6), .inl (cI, 80, .inl fc)), ((r 7), .inl (cI, 8, .inl fg)), (q_25, .inr (2, [.int 0, .int 0, .int 0, .int 0, .int 0, .int 0, .int 0, .int 0, .int 0, .null, .null]))] ++ va_pl L f) := hD
                          have hBH := hB.at hS hA0
                          refine W.widen (k := 1) (n := 11) (by omega) (by omega) ?_
                          refine lv_dup hx hb d_M_row_153 rfl ?_
                          refine lv_iload_n hx hb d_M_row_154 rfl (lv_at hl 2 rfl) ?_
                          refine lv_iload_n hx hb d_M_row_155 rfl (lv_at hl 3 rfl) ?_
                          refine lv_iload_n hx hb d_M_row_156 rfl (lv_at hl 4 rfl) ?_
                          refine lv_iload hx hb d_M_row_157 (lv_at hl 5 rfl) ?_
                          refine lv_iload hx hb d_M_row_159 (lv_at hl 6 rfl) ?_
                          refine lv_iload hx hb d_M_row_161 (lv_at hl 7 rfl) ?_
                          refine lv_iload hx hb d_M_row_163 (lv_at hl 8 rfl) ?_
                          have hPc := hP.sub (ws' := [(q_25, .inr (2, [.int 0, .int 0, .int 0, .int 0, .int 0, .int 0, .int 0, .int 0, .int 0, .null, .null]))]) [8] rfl
                          have hDc := hD.sub (ws' := [(q_25, .inr (2, [.int 0, .int 0, .int 0, .int 0, .int 0, .int 0, .int 0, .int 0, .int 0, .null, .null]))]) [8] (by decide) rfl
                          have hFc := va_free (wc := [(q_25, .inr (2, [.int 0, .int 0, .int 0, .int 0, .int 0, .int 0, .int 0, .int 0, .int 0, .null, .null]))]) hD hS hA [8] rfl
                          refine va_callv (va_runI (As := [.int a0, .int a1, .int a2, .int a3, .int a4, .int a5, .int a6]) (rest := [.ref q_25, .int (nI n), .ref (r 4)]) ⟨hx, hb, hml, hown, hts⟩ (mc_R_init l s0 dC dI cI cR cL cZ q_25 _ a0 a1 a2 a3 a4 a5 a6) ⟨(mr_cB 7 (hts (Cond.code y_R_init b_R_init 8 none) mw_255) (hts (Cond.initialized y_R_init.cls) mw_256) (hts (Cond.methodLink "MeasureRows" 102 y_R_init) mw_257) rfl rfl (by decide +kernel) ⟨Nat.le_of_ble_eq_true rfl, Nat.le_of_ble_eq_true rfl⟩), rfl, (hts (Cond.instanceMethod y_R_init) mw_258)⟩ (mr_preCS hBH hK hPc (hDc.weaken (fun _ _ _ h => hA0 _ h))) rfl rfl hl.1 rfl (lv_room (Nat.le_of_ble_eq_true rfl)) d_M_row_165 ⟨Nat.le_of_ble_eq_true rfl, Nat.le_of_ble_eq_true rfl⟩) hS (fun q _ h => hFc q h) hFc (fun u_27 t H1 locs ht hvm hw hB1 hz1 hk1 hS => ?_)
                          obtain ⟨rl_28, rk_29⟩ := u_27
                          obtain ⟨hP1, hK1, hD1⟩ := hB1
                          rw [ht] at hP1
                          obtain ⟨hP, hD⟩ := va_joinQ (X := [((r 0), .inr (0, mf_M r (nI n) nw pb lc)), ((r 1), .inr (1, [.ref (r 2), .ref (r 3)])), ((r 2), .inl (cI, 8, .inl fm)), ((r 3), .inl (cI, 8, .inl fi)), ((r 4), .inl (cR, 80, .inr (.inr (.inr (.inr fr))))), ((r 5), .inl (cI, 80, .inl fl)), ((r 6), .inl (cI, 80, .inl fc)), ((r 7), .inl (cI, 8, .inl fg)), (q_25, .inr (2, [.int 0, .int 0, .int 0, .int 0, .int 0, .int 0, .int 0, .int 0, .int 0, .null, .null]))]) (wr := [((r 0), .inr (0, mf_M r (nI n) nw pb lc)), ((r 1), .inr (1, [.ref (r 2), .ref (r 3)])), ((r 2), .inl (cI, 8, .inl fm)), ((r 3), .inl (cI, 8, .inl fi)), ((r 4), .inl (cR, 80, .inr (.inr (.inr (.inr fr))))), ((r 5), .inl (cI, 80, .inl fl)), ((r 6), .inl (cI, 80, .inl fc)), ((r 7), .inl (cI, 8, .inl fg))]) (w1 := [(q_25, .inr (2, [.int a0, .int a1, .int a2, .int a4, .int a5, .int a6, .int 0, .int 0, .int 1, .ref rl_28, .ref rk_29])), (rl_28, .inl (cI, 8, .inl (upd (fun _ => 0) (0 : Int32).toNatClampNeg a3))), (rk_29, .inl (cI, 8, .inl (upd (fun _ => 0) (0 : Int32).toNatClampNeg a6)))]) hP hD [8] [0, 1, 2, 3, 4, 5, 6, 7] rfl rfl (by decide) (by decide) hk1 hFc hP1 hD1
                          clear hK1 hk1 hPc hDc hFc
                          generalize H1 = H at hP hS ht ⊢
                          have hP : va_P (dC, dI) mr_cl ([((r 0), .inr (0, mf_M r (nI n) nw pb lc)), ((r 1), .inr (1, [.ref (r 2), .ref (r 3)])), ((r 2), .inl (cI, 8, .inl fm)), ((r 3), .inl (cI, 8, .inl fi)), ((r 4), .inl (cR, 80, .inr (.inr (.inr (.inr fr))))), ((r 5), .inl (cI, 80, .inl fl)), ((r 6), .inl (cI, 80, .inl fc)), ((r 7), .inl (cI, 8, .inl fg)), (q_25, .inr (2, [.int a0, .int a1, .int a2, .int a4, .int a5, .int a6, .int 0, .int 0, .int 1, .ref rl_28, .ref rk_29])), (rl_28, .inl (cI, 8, .inl (upd (fun _ => 0) (0 : Int32).toNatClampNeg a3))), (rk_29, .inl (cI, 8, .inl (upd (fun _ => 0) (0 : Int32).toNatClampNeg a6)))] ++ va_pl L f) H := hP
                          have hD : va_D A ([((r 0), .inr (0, mf_M r (nI n) nw pb lc)), ((r 1), .inr (1, [.ref (r 2), .ref (r 3)])), ((r 2), .inl (cI, 8, .inl fm)), ((r 3), .inl (cI, 8, .inl fi)), ((r 4), .inl (cR, 80, .inr (.inr (.inr (.inr fr))))), ((r 5), .inl (cI, 80, .inl fl)), ((r 6), .inl (cI, 80, .inl fc)), ((r 7), .inl (cI, 8, .inl fg)), (q_25, .inr (2, [.int a0, .int a1, .int a2, .int a4, .int a5, .int a6, .int 0, .int 0, .int 1, .ref rl_28, .ref rk_29])), (rl_28, .inl (cI, 8, .inl (upd (fun _ => 0) (0 : Int32).toNatClampNeg a3))), (rk_29, .inl (cI, 8, .inl (upd (fun _ => 0) (0 : Int32).toNatClampNeg a6)))] ++ va_pl L f) := hD
                          have hBH := hB.at hS hA0
                          refine W.widen (k := 3) (n := 27) (by omega) (by omega) ?_
                          refine va_astq (D := (dC, dI)) hx hb hK hP hD hS 4 1 8 2 rfl rfl rfl rfl (i := (nI n)) (nI_in (mr_n80 c_21 hR.1) (by decide)) d_M_row_168 (fun H locs hP hD hS => ?_)
                          have hP : va_P (dC, dI) mr_cl ([((r 0), .inr (0, mf_M r (nI n) nw pb lc)), ((r 1), .inr (1, [.ref (r 2), .ref (r 3)])), ((r 2), .inl (cI, 8, .inl fm)), ((r 3), .inl (cI, 8, .inl fi)), ((r 4), .inl (cR, 80, .inr (.inr (.inr (.inr (va_up fr (nI n).toNatClampNeg (some q_25))))))), ((r 5), .inl (cI, 80, .inl fl)), ((r 6), .inl (cI, 80, .inl fc)), ((r 7), .inl (cI, 8, .inl fg)), (q_25, .inr (2, [.int a0, .int a1, .int a2, .int a4, .int a5, .int a6, .int 0, .int 0, .int 1, .ref rl_28, .ref rk_29])), (rl_28, .inl (cI, 8, .inl (upd (fun _ => 0) (0 : Int32).toNatClampNeg a3))), (rk_29, .inl (cI, 8, .inl (upd (fun _ => 0) (0 : Int32).toNatClampNeg a6)))] ++ va_pl L f) H := hP
                          have hD : va_D A ([((r 0), .inr (0, mf_M r (nI n) nw pb lc)), ((r 1), .inr (1, [.ref (r 2), .ref (r 3)])), ((r 2), .inl (cI, 8, .inl fm)), ((r 3), .inl (cI, 8, .inl fi)), ((r 4), .inl (cR, 80, .inr (.inr (.inr (.inr (va_up fr (nI n).toNatClampNeg (some q_25))))))), ((r 5), .inl (cI, 80, .inl fl)), ((r 6), .inl (cI, 80, .inl fc)), ((r 7), .inl (cI, 8, .inl fg)), (q_25, .inr (2, [.int a0, .int a1, .int a2, .int a4, .int a5, .int a6, .int 0, .int 0, .int 1, .ref rl_28, .ref rk_29])), (rl_28, .inl (cI, 8, .inl (upd (fun _ => 0) (0 : Int32).toNatClampNeg a3))), (rk_29, .inl (cI, 8, .inl (upd (fun _ => 0) (0 : Int32).toNatClampNeg a6)))] ++ va_pl L f) := hD
                          have hBH := hB.at hS hA0
                          refine lv_aload_n hx hb d_M_row_169 rfl (lv_at hl 1 rfl) ?_
                          refine lv_dup hx hb d_M_row_170 rfl ?_
                          refine va_get (D := (dC, dI)) (ci := 0) (v := .int (nI n)) (C := R_M) (T := T_M) (N := 9) hx hb hts ti_M hown hK hP 0 rfl rfl 2 (by decide) (hts (Cond.fieldLink "MeasureRows" 22 "MeasureRows" "rowCount" "I") mw_57) (fun _ h9 => h9) rfl d_M_row_171 ?_
                          refine lv_iconst (v := 1) hx hb d_M_row_174 (by decide) ?_
                          refine lv_iadd hx hb d_M_row_175 ?_
                          refine mr_top (nI_1 n) ?_
                          refine va_put (D := (dC, dI)) (ci := 0) (v := .int (nI (n + 1))) (ty := .int) (C := R_M) (T := T_M) (N := 9) hx hb hts ti_M t_M to_M tn_M hown hK hP hD hS 0 rfl rfl 2 (by decide) (hts (Cond.fieldLink "MeasureRows" 22 "MeasureRows" "rowCount" "I") mw_57) (fun _ h9 => h9) rfl (by decide +kernel) rfl rfl (Nat.le_of_ble_eq_true rfl) d_M_row_176 (fun H locs hP hD hS => ?_)
                          have hP : va_P (dC, dI) mr_cl ([((r 0), .inr (0, mf_M r (nI (n + 1)) nw pb lc)), ((r 1), .inr (1, [.ref (r 2), .ref (r 3)])), ((r 2), .inl (cI, 8, .inl fm)), ((r 3), .inl (cI, 8, .inl fi)), ((r 4), .inl (cR, 80, .inr (.inr (.inr (.inr (va_up fr (nI n).toNatClampNeg (some q_25))))))), ((r 5), .inl (cI, 80, .inl fl)), ((r 6), .inl (cI, 80, .inl fc)), ((r 7), .inl (cI, 8, .inl fg)), (q_25, .inr (2, [.int a0, .int a1, .int a2, .int a4, .int a5, .int a6, .int 0, .int 0, .int 1, .ref rl_28, .ref rk_29])), (rl_28, .inl (cI, 8, .inl (upd (fun _ => 0) (0 : Int32).toNatClampNeg a3))), (rk_29, .inl (cI, 8, .inl (upd (fun _ => 0) (0 : Int32).toNatClampNeg a6)))] ++ va_pl L f) H := hP
                          have hD : va_D A ([((r 0), .inr (0, mf_M r (nI (n + 1)) nw pb lc)), ((r 1), .inr (1, [.ref (r 2), .ref (r 3)])), ((r 2), .inl (cI, 8, .inl fm)), ((r 3), .inl (cI, 8, .inl fi)), ((r 4), .inl (cR, 80, .inr (.inr (.inr (.inr (va_up fr (nI n).toNatClampNeg (some q_25))))))), ((r 5), .inl (cI, 80, .inl fl)), ((r 6), .inl (cI, 80, .inl fc)), ((r 7), .inl (cI, 8, .inl fg)), (q_25, .inr (2, [.int a0, .int a1, .int a2, .int a4, .int a5, .int a6, .int 0, .int 0, .int 1, .ref rl_28, .ref rk_29])), (rl_28, .inl (cI, 8, .inl (upd (fun _ => 0) (0 : Int32).toNatClampNeg a3))), (rk_29, .inl (cI, 8, .inl (upd (fun _ => 0) (0 : Int32).toNatClampNeg a6)))] ++ va_pl L f) := hD
                          have hBH := hB.at hS hA0
                          refine lv_aload_n hx hb d_M_row_179 rfl (lv_at hl 1 rfl) ?_
                          refine lv_aload_n hx hb d_M_row_180 rfl (lv_at hl 1 rfl) ?_
                          refine va_get (D := (dC, dI)) (ci := 0) (v := .int nw) (C := R_M) (T := T_M) (N := 9) hx hb hts ti_M hown hK hP 0 rfl rfl 3 (by decide) (hts (Cond.fieldLink "MeasureRows" 26 "MeasureRows" "now" "I") mw_58) (fun _ h9 => h9) rfl d_M_row_181 ?_
                          refine lv_iload hx hb d_M_row_184 (lv_at hl 8 rfl) ?_
                          refine va_mmax hx hb (hml.trans hl.1.symm) hown (hts (Cond.methodLink "MeasureRows" 105 Lib.Math.max.name) mw_193) (hts (Cond.static Lib.Math.max.name) mw_194) (hts (Cond.initialized "java/lang/Math") mw_195) (hts (Cond.code Lib.Math.max.name Lib.Math.max.code 2 (some .int)) mw_196) (Nat.le_of_ble_eq_true rfl) (Nat.le_of_ble_eq_true rfl) (Nat.le_of_ble_eq_true rfl) (Nat.le_of_ble_eq_true rfl) d_M_row_186 ?_
                          refine va_put (D := (dC, dI)) (ci := 0) (v := .int (if nw < a6 then a6 else nw)) (ty := .int) (C := R_M) (T := T_M) (N := 9) hx hb hts ti_M t_M to_M tn_M hown hK hP hD hS 0 rfl rfl 3 (by decide) (hts (Cond.fieldLink "MeasureRows" 26 "MeasureRows" "now" "I") mw_58) (fun _ h9 => h9) rfl (by decide +kernel) rfl rfl (Nat.le_of_ble_eq_true rfl) d_M_row_189 (fun H locs hP hD hS => ?_)
                          have hP : va_P (dC, dI) mr_cl ([((r 0), .inr (0, mf_M r (nI (n + 1)) (if nw < a6 then a6 else nw) pb lc)), ((r 1), .inr (1, [.ref (r 2), .ref (r 3)])), ((r 2), .inl (cI, 8, .inl fm)), ((r 3), .inl (cI, 8, .inl fi)), ((r 4), .inl (cR, 80, .inr (.inr (.inr (.inr (va_up fr (nI n).toNatClampNeg (some q_25))))))), ((r 5), .inl (cI, 80, .inl fl)), ((r 6), .inl (cI, 80, .inl fc)), ((r 7), .inl (cI, 8, .inl fg)), (q_25, .inr (2, [.int a0, .int a1, .int a2, .int a4, .int a5, .int a6, .int 0, .int 0, .int 1, .ref rl_28, .ref rk_29])), (rl_28, .inl (cI, 8, .inl (upd (fun _ => 0) (0 : Int32).toNatClampNeg a3))), (rk_29, .inl (cI, 8, .inl (upd (fun _ => 0) (0 : Int32).toNatClampNeg a6)))] ++ va_pl L f) H := hP
                          have hD : va_D A ([((r 0), .inr (0, mf_M r (nI (n + 1)) (if nw < a6 then a6 else nw) pb lc)), ((r 1), .inr (1, [.ref (r 2), .ref (r 3)])), ((r 2), .inl (cI, 8, .inl fm)), ((r 3), .inl (cI, 8, .inl fi)), ((r 4), .inl (cR, 80, .inr (.inr (.inr (.inr (va_up fr (nI n).toNatClampNeg (some q_25))))))), ((r 5), .inl (cI, 80, .inl fl)), ((r 6), .inl (cI, 80, .inl fc)), ((r 7), .inl (cI, 8, .inl fg)), (q_25, .inr (2, [.int a0, .int a1, .int a2, .int a4, .int a5, .int a6, .int 0, .int 0, .int 1, .ref rl_28, .ref rk_29])), (rl_28, .inl (cI, 8, .inl (upd (fun _ => 0) (0 : Int32).toNatClampNeg a3))), (rk_29, .inl (cI, 8, .inl (upd (fun _ => 0) (0 : Int32).toNatClampNeg a6)))] ++ va_pl L f) := hD
                          have hBH := hB.at hS hA0
                          refine lv_aload_n hx hb d_M_row_192 rfl (lv_at hl 1 rfl) ?_
                          refine va_get (D := (dC, dI)) (ci := 0) (v := .int (nI (n + 1))) (C := R_M) (T := T_M) (N := 9) hx hb hts ti_M hown hK hP 0 rfl rfl 2 (by decide) (hts (Cond.fieldLink "MeasureRows" 22 "MeasureRows" "rowCount" "I") mw_57) (fun _ h9 => h9) rfl d_M_row_193 ?_
                          have hP := hP.by _ (va_part (X := [((r 0), .inr (0, mf_M r (nI (n + 1)) (if nw < a6 then a6 else nw) pb lc)), ((r 1), .inr (1, [.ref (r 2), .ref (r 3)])), ((r 2), .inl (cI, 8, .inl fm)), ((r 3), .inl (cI, 8, .inl fi)), ((r 4), .inl (cR, 80, .inr (.inr (.inr (.inr (va_up fr (nI n).toNatClampNeg (some q_25))))))), ((r 5), .inl (cI, 80, .inl fl)), ((r 6), .inl (cI, 80, .inl fc)), ((r 7), .inl (cI, 8, .inl fg)), (q_25, .inr (2, [.int a0, .int a1, .int a2, .int a4, .int a5, .int a6, .int 0, .int 0, .int 1, .ref rl_28, .ref rk_29])), (rl_28, .inl (cI, 8, .inl (upd (fun _ => 0) (0 : Int32).toNatClampNeg a3))), (rk_29, .inl (cI, 8, .inl (upd (fun _ => 0) (0 : Int32).toNatClampNeg a6)))]) (cx := [((r 0), .inr (0, mf_M r (nI (n + 1)) (if nw < a6 then a6 else nw) pb lc)), ((r 1), .inr (1, [.ref (r 2), .ref (r 3)])), ((r 2), .inl (cI, 8, .inl fm)), ((r 3), .inl (cI, 8, .inl fi)), ((r 4), .inl (cR, 80, .inr (.inr (.inr (.inr (va_up fr (nI n).toNatClampNeg (some q_25))))))), ((r 5), .inl (cI, 80, .inl fl)), ((r 6), .inl (cI, 80, .inl fc)), ((r 7), .inl (cI, 8, .inl fg)), (q_25, .inr (2, [.int a0, .int a1, .int a2, .int a4, .int a5, .int a6, .int 0, .int 0, .int 1, .ref rl_28, .ref rk_29])), (rl_28, .inl (cI, 8, .inl (upd (fun _ => 0) (0 : Int32).toNatClampNeg a3))), (rk_29, .inl (cI, 8, .inl (upd (fun _ => 0) (0 : Int32).toNatClampNeg a6)))]) (pl := va_pl L f) [0, 1, 2, 3, 4, 5, 6, 7, 8, 9, 10] rfl)
                          have hD := mr_Dby hD _ (va_part (X := [((r 0), .inr (0, mf_M r (nI (n + 1)) (if nw < a6 then a6 else nw) pb lc)), ((r 1), .inr (1, [.ref (r 2), .ref (r 3)])), ((r 2), .inl (cI, 8, .inl fm)), ((r 3), .inl (cI, 8, .inl fi)), ((r 4), .inl (cR, 80, .inr (.inr (.inr (.inr (va_up fr (nI n).toNatClampNeg (some q_25))))))), ((r 5), .inl (cI, 80, .inl fl)), ((r 6), .inl (cI, 80, .inl fc)), ((r 7), .inl (cI, 8, .inl fg)), (q_25, .inr (2, [.int a0, .int a1, .int a2, .int a4, .int a5, .int a6, .int 0, .int 0, .int 1, .ref rl_28, .ref rk_29])), (rl_28, .inl (cI, 8, .inl (upd (fun _ => 0) (0 : Int32).toNatClampNeg a3))), (rk_29, .inl (cI, 8, .inl (upd (fun _ => 0) (0 : Int32).toNatClampNeg a6)))]) (cx := [((r 0), .inr (0, mf_M r (nI (n + 1)) (if nw < a6 then a6 else nw) pb lc)), ((r 1), .inr (1, [.ref (r 2), .ref (r 3)])), ((r 2), .inl (cI, 8, .inl fm)), ((r 3), .inl (cI, 8, .inl fi)), ((r 4), .inl (cR, 80, .inr (.inr (.inr (.inr (va_up fr (nI n).toNatClampNeg (some q_25))))))), ((r 5), .inl (cI, 80, .inl fl)), ((r 6), .inl (cI, 80, .inl fc)), ((r 7), .inl (cI, 8, .inl fg)), (q_25, .inr (2, [.int a0, .int a1, .int a2, .int a4, .int a5, .int a6, .int 0, .int 0, .int 1, .ref rl_28, .ref rk_29])), (rl_28, .inl (cI, 8, .inl (upd (fun _ => 0) (0 : Int32).toNatClampNeg a3))), (rk_29, .inl (cI, 8, .inl (upd (fun _ => 0) (0 : Int32).toNatClampNeg a6)))]) (pl := va_pl L f) [0, 1, 2, 3, 4, 5, 6, 7, 8, 9, 10] rfl) (mr_ordinj [0, 1, 2, 3, 4, 5, 6, 7, 8, 9, 10] (by decide) (by decide) trivial)
                          have n1 := mr_notin (X := [((r 0), .inr (0, mf_M r (nI (n + 1)) (if nw < a6 then a6 else nw) pb lc)), ((r 1), .inr (1, [.ref (r 2), .ref (r 3)])), ((r 2), .inl (cI, 8, .inl fm)), ((r 3), .inl (cI, 8, .inl fi)), ((r 4), .inl (cR, 80, .inr (.inr (.inr (.inr (va_up fr (nI n).toNatClampNeg (some q_25))))))), ((r 5), .inl (cI, 80, .inl fl)), ((r 6), .inl (cI, 80, .inl fc)), ((r 7), .inl (cI, 8, .inl fg)), (q_25, .inr (2, [.int a0, .int a1, .int a2, .int a4, .int a5, .int a6, .int 0, .int 0, .int 1, .ref rl_28, .ref rk_29])), (rl_28, .inl (cI, 8, .inl (upd (fun _ => 0) (0 : Int32).toNatClampNeg a3))), (rk_29, .inl (cI, 8, .inl (upd (fun _ => 0) (0 : Int32).toNatClampNeg a6)))]) (k := 8) hD rfl
                          have n2 := mr_notin (X := [((r 0), .inr (0, mf_M r (nI (n + 1)) (if nw < a6 then a6 else nw) pb lc)), ((r 1), .inr (1, [.ref (r 2), .ref (r 3)])), ((r 2), .inl (cI, 8, .inl fm)), ((r 3), .inl (cI, 8, .inl fi)), ((r 4), .inl (cR, 80, .inr (.inr (.inr (.inr (va_up fr (nI n).toNatClampNeg (some q_25))))))), ((r 5), .inl (cI, 80, .inl fl)), ((r 6), .inl (cI, 80, .inl fc)), ((r 7), .inl (cI, 8, .inl fg)), (q_25, .inr (2, [.int a0, .int a1, .int a2, .int a4, .int a5, .int a6, .int 0, .int 0, .int 1, .ref rl_28, .ref rk_29])), (rl_28, .inl (cI, 8, .inl (upd (fun _ => 0) (0 : Int32).toNatClampNeg a3))), (rk_29, .inl (cI, 8, .inl (upd (fun _ => 0) (0 : Int32).toNatClampNeg a6)))]) (k := 9) hD rfl
                          have n3 := mr_notin (X := [((r 0), .inr (0, mf_M r (nI (n + 1)) (if nw < a6 then a6 else nw) pb lc)), ((r 1), .inr (1, [.ref (r 2), .ref (r 3)])), ((r 2), .inl (cI, 8, .inl fm)), ((r 3), .inl (cI, 8, .inl fi)), ((r 4), .inl (cR, 80, .inr (.inr (.inr (.inr (va_up fr (nI n).toNatClampNeg (some q_25))))))), ((r 5), .inl (cI, 80, .inl fl)), ((r 6), .inl (cI, 80, .inl fc)), ((r 7), .inl (cI, 8, .inl fg)), (q_25, .inr (2, [.int a0, .int a1, .int a2, .int a4, .int a5, .int a6, .int 0, .int 0, .int 1, .ref rl_28, .ref rk_29])), (rl_28, .inl (cI, 8, .inl (upd (fun _ => 0) (0 : Int32).toNatClampNeg a3))), (rk_29, .inl (cI, 8, .inl (upd (fun _ => 0) (0 : Int32).toNatClampNeg a6)))]) (k := 10) hD rfl
                          have hne : q_25 ≠ rl_28 ∧ q_25 ≠ rk_29 ∧ rl_28 ≠ rk_29 := ⟨fun e => absurd (hD.1 8 9 _ _ rfl rfl e) (by decide), fun e => absurd (hD.1 8 10 _ _ rfl rfl e) (by decide), fun e => absurd (hD.1 9 10 _ _ rfl rfl e) (by decide)⟩
                          obtain ⟨kk9, hkk, hke⟩ := mr_k8 c_17 c_18
                          have hn80 := mr_n80 c_21 hR.1
                          have hR := mr_RIpush (v0 := a0) (v1 := a1) (v2 := a2) (v4 := a5) (v5 := a6) (v6 := 0) (v7 := 0) (ld := (upd (fun _ => 0) (0 : Int32).toNatClampNeg a3)) (kd := (upd (fun _ => 0) (0 : Int32).toNatClampNeg a6)) hR hn80 n1 n2 n3 hne hkk
                          have ep := mr_pool3 (f := f) (e1 := .inr (2, [.int a0, .int a1, .int a2, .int (nI kk9), .int a5, .int a6, .int 0, .int 0, .int (nI 1), .ref rl_28, .ref rk_29])) (e2 := .inl (cI, 8, .inl (upd (fun _ => 0) (0 : Int32).toNatClampNeg a3))) (e3 := .inl (cI, 8, .inl (upd (fun _ => 0) (0 : Int32).toNatClampNeg a6))) n1 n2 n3 hne
                          rw [hke] at hP hD
                          rw [nI_clamp (n := n) (by omega)] at hP hD
                          have hP : va_P (dC, dI) mr_cl ([((r 0), .inr (0, mf_M r (nI (n + 1)) (if nw < a6 then a6 else nw) pb lc)), ((r 1), .inr (1, [.ref (r 2), .ref (r 3)])), ((r 2), .inl (cI, 8, .inl fm)), ((r 3), .inl (cI, 8, .inl fi)), ((r 4), .inl (cR, 80, .inr (.inr (.inr (.inr (va_up fr n (some q_25))))))), ((r 5), .inl (cI, 80, .inl fl)), ((r 6), .inl (cI, 80, .inl fc)), ((r 7), .inl (cI, 8, .inl fg))] ++ va_pl (q_25 :: rl_28 :: rk_29 :: L) (va_up (va_up (va_up f q_25 (.inr (2, [.int a0, .int a1, .int a2, .int (nI kk9), .int a5, .int a6, .int 0, .int 0, .int (nI 1), .ref rl_28, .ref rk_29]))) rl_28 (.inl (cI, 8, .inl (upd (fun _ => 0) (0 : Int32).toNatClampNeg a3)))) rk_29 (.inl (cI, 8, .inl (upd (fun _ => 0) (0 : Int32).toNatClampNeg a6))))) H := by rw [← ep]; exact hP
                          have hD : va_D A ([((r 0), .inr (0, mf_M r (nI (n + 1)) (if nw < a6 then a6 else nw) pb lc)), ((r 1), .inr (1, [.ref (r 2), .ref (r 3)])), ((r 2), .inl (cI, 8, .inl fm)), ((r 3), .inl (cI, 8, .inl fi)), ((r 4), .inl (cR, 80, .inr (.inr (.inr (.inr (va_up fr n (some q_25))))))), ((r 5), .inl (cI, 80, .inl fl)), ((r 6), .inl (cI, 80, .inl fc)), ((r 7), .inl (cI, 8, .inl fg))] ++ va_pl (q_25 :: rl_28 :: rk_29 :: L) (va_up (va_up (va_up f q_25 (.inr (2, [.int a0, .int a1, .int a2, .int (nI kk9), .int a5, .int a6, .int 0, .int 0, .int (nI 1), .ref rl_28, .ref rk_29]))) rl_28 (.inl (cI, 8, .inl (upd (fun _ => 0) (0 : Int32).toNatClampNeg a3)))) rk_29 (.inl (cI, 8, .inl (upd (fun _ => 0) (0 : Int32).toNatClampNeg a6))))) := by rw [← ep]; exact hD
                          refine mr_ret ?_
                          exact W.iret (v := nI (n + 1)) hx hb hr (fun t ht hW => ⟨⟨_, (), rfl, trivial, (n + 1), (if nw < a6 then a6 else nw), (va_up fr n (some q_25)), (q_25 :: rl_28 :: rk_29 :: L), (va_up (va_up (va_up f q_25 (.inr (2, [.int a0, .int a1, .int a2, .int (nI kk9), .int a5, .int a6, .int 0, .int 0, .int (nI 1), .ref rl_28, .ref rk_29]))) rl_28 (.inl (cI, 8, .inl (upd (fun _ => 0) (0 : Int32).toNatClampNeg a3)))) rk_29 (.inl (cI, 8, .inl (upd (fun _ => 0) (0 : Int32).toNatClampNeg a6)))), hR, by rw [ht]; exact hP, va_K.moved hW.alike hK, hD⟩, hS.F ht⟩) hS.2.2 d_M_row_196
                        · refine lv_iconst (v := (-1)) hx hb d_M_row_137 (by decide) ?_
                          refine lv_iload hx hb d_M_row_138 (lv_at hl 0 rfl) ?_
                          refine lv_isub hx hb d_M_row_140 ?_
                          refine mr_ret ?_
                          refine W.widen (k := 3) (n := 27) (by omega) (by omega) ?_
                          exact W.iret (v := (-1) - r_22) hx hb hr (fun t ht hW => ⟨⟨_, (), rfl, trivial, n, nw, fr, L, f, hR, by rw [ht]; exact hP, va_K.moved hW.alike hK, hD⟩, hS.F ht⟩) hS.2.2 d_M_row_141
                      · obtain ⟨sa, hstr⟩ := mr_str (hts (Cond.stringRef "MeasureRows" 95 "no room for another row") mw_259) hown
                        exact mr_throw (names := mr_up) hx hb hlt hown (by decide +kernel) (by decide +kernel) (hts (Cond.classLink "MeasureRows" 93 mr_ise) mw_198) (hts (Cond.initialized mr_ise) mw_199) hstr (hB.own _ mr_a_ise) (hl.1.trans hml.symm) d_M_row_106 d_M_row_109 d_M_row_110 d_M_row_112 d_M_row_115 hno (Nat.le_of_ble_eq_true rfl) (Nat.le_of_ble_eq_true rfl) (Nat.le_of_ble_eq_true rfl) (Nat.le_of_ble_eq_true rfl) hlocks (Or.inr rfl) (Nat.le_of_ble_eq_true rfl) (Nat.le_of_ble_eq_true rfl)
                    · obtain ⟨sa, hstr⟩ := mr_str (hts (Cond.stringRef "MeasureRows" 91 "no such kind or rank") mw_246) hown
                      exact mr_throw (names := mr_up) hx hb hlt hown (by decide +kernel) (by decide +kernel) (hts (Cond.classLink "MeasureRows" 78 mr_iae) mw_139) (hts (Cond.initialized mr_iae) mw_140) hstr (hB.own _ mr_a_iae) (hl.1.trans hml.symm) d_M_row_87 d_M_row_90 d_M_row_91 d_M_row_93 d_M_row_96 hno (Nat.le_of_ble_eq_true rfl) (Nat.le_of_ble_eq_true rfl) (Nat.le_of_ble_eq_true rfl) (Nat.le_of_ble_eq_true rfl) hlocks (Or.inl rfl) (Nat.le_of_ble_eq_true rfl) (Nat.le_of_ble_eq_true rfl)
            · obtain ⟨sa, hstr⟩ := mr_str (hts (Cond.stringRef "MeasureRows" 89 "no such days") mw_138) hown
              exact mr_throw (names := mr_up) hx hb hlt hown (by decide +kernel) (by decide +kernel) (hts (Cond.classLink "MeasureRows" 78 mr_iae) mw_139) (hts (Cond.initialized mr_iae) mw_140) hstr (hB.own _ mr_a_iae) (hl.1.trans hml.symm) d_M_row_53 d_M_row_56 d_M_row_57 d_M_row_59 d_M_row_62 hno (Nat.le_of_ble_eq_true rfl) (Nat.le_of_ble_eq_true rfl) (Nat.le_of_ble_eq_true rfl) (Nat.le_of_ble_eq_true rfl) hlocks (Or.inl rfl) (Nat.le_of_ble_eq_true rfl) (Nat.le_of_ble_eq_true rfl)
    · obtain ⟨sa, hstr⟩ := mr_str (hts (Cond.stringRef "MeasureRows" 80 "no such code or land") mw_241) hown
      exact mr_throw (names := mr_up) hx hb hlt hown (by decide +kernel) (by decide +kernel) (hts (Cond.classLink "MeasureRows" 78 mr_iae) mw_139) (hts (Cond.initialized mr_iae) mw_140) hstr (hB.own _ mr_a_iae) (hl.1.trans hml.symm) d_M_row_14 d_M_row_17 d_M_row_18 d_M_row_20 d_M_row_23 hno (Nat.le_of_ble_eq_true rfl) (Nat.le_of_ble_eq_true rfl) (Nat.le_of_ble_eq_true rfl) (Nat.le_of_ble_eq_true rfl) hlocks (Or.inl rfl) (Nat.le_of_ble_eq_true rfl) (Nat.le_of_ble_eq_true rfl)

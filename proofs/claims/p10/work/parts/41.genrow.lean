theorem mr_Dby {A : Nat → Prop} {ws ws' : va_W} (hD : va_D A ws) (g : Nat → Nat) (hg : ∀ (k : Nat) (q : Nat × va_E), ws'[k]? = some q → ws[g k]? = some q) (hi : ∀ i j : Nat, i < ws'.length → j < ws'.length → g i = g j → i = j) : va_D A ws' :=
  ⟨fun i j p q h1 h2 h => hi i j (List.getElem?_eq_some_iff.mp h1).1 (List.getElem?_eq_some_iff.mp h2).1 (hD.1 _ _ _ _ (hg i p h1) (hg j q h2) h), fun k q hk => hD.2 _ _ (hg k q hk)⟩
theorem mr_swap {X P : va_W} {c : Nat × va_E} (k : Nat) (q : Nat × va_E) (hk : ((X ++ [c]) ++ P)[k]? = some q) : ((X ++ P) ++ [c])[if k < X.length then k else if k = X.length then X.length + P.length else k - 1]? = some q := by
  by_cases h1 : k < X.length
  · rw [if_pos h1]
    rw [List.append_assoc, List.getElem?_append_left h1] at hk
    rw [List.append_assoc, List.getElem?_append_left h1]; exact hk
  · rw [if_neg h1]
    rw [List.append_assoc, List.getElem?_append_right (by omega)] at hk
    by_cases h2 : k = X.length
    · rw [if_pos h2]
      subst h2
      rw [Nat.sub_self] at hk
      rw [List.getElem?_append_right (by simp), List.length_append, Nat.sub_self]
      simpa using hk
    · rw [if_neg h2]
      have e : k - X.length = (k - 1 - X.length) + 1 := by omega
      rw [e] at hk
      have hk : P[k - 1 - X.length]? = some q := by simpa using hk
      have hlt : k - 1 - X.length < P.length := (List.getElem?_eq_some_iff.mp hk).1
      rw [List.getElem?_append_left (by rw [List.length_append]; omega), List.getElem?_append_right (by omega)]
      exact hk
theorem mr_swapP {D : va_G} {cl : List vw_C} {X P : va_W} {c : Nat × va_E} {H : Heap} (h : va_P D cl ((X ++ P) ++ [c]) H) : va_P D cl ((X ++ [c]) ++ P) H := h.by _ mr_swap
theorem mr_swapD {A : Nat → Prop} {X P : va_W} {c : Nat × va_E} (h : va_D A ((X ++ P) ++ [c])) : va_D A ((X ++ [c]) ++ P) := mr_Dby h _ mr_swap (fun i j hi hj h => by
  simp only [List.length_append, List.length_cons, List.length_nil] at hi hj
  split at h <;> split at h <;> (try split at h) <;> (try split at h) <;> omega)
theorem mr_notin {A : Nat → Prop} {X : va_W} {L : List Nat} {f : Nat → va_E} {k a : Nat} {e : va_E} (hD : va_D A (X ++ va_pl L f)) (hk : X[k]? = some (a, e)) : a ∉ L := fun ha => by
  have hx : k < X.length := (List.getElem?_eq_some_iff.mp hk).1
  obtain ⟨i, hi⟩ := List.mem_iff_getElem?.mp ha
  have h1 : (X ++ va_pl L f)[k]? = some (a, e) := by rw [List.getElem?_append_left hx]; exact hk
  have h2 : (X ++ va_pl L f)[X.length + i]? = some (a, f a) := by
    rw [List.getElem?_append_right (by omega), show X.length + i - X.length = i by omega]
    unfold va_pl; rw [List.getElem?_map, hi]; rfl
  have := hD.1 _ _ _ _ h1 h2 rfl
  omega
theorem mr_pool3 {L : List Nat} {f : Nat → va_E} {a b d : Nat} {e1 e2 e3 : va_E} (ha : a ∉ L) (hb : b ∉ L) (hd : d ∉ L) (hne : a ≠ b ∧ a ≠ d ∧ b ≠ d) : (a, e1) :: (b, e2) :: (d, e3) :: va_pl L f = va_pl (a :: b :: d :: L) (va_up (va_up (va_up f a e1) b e2) d e3) := by
  obtain ⟨h1, h2, h3⟩ := hne
  unfold va_pl
  rw [List.map_cons, List.map_cons, List.map_cons]
  have e : L.map (fun x => (x, f x)) = L.map (fun x => (x, va_up (va_up (va_up f a e1) b e2) d e3 x)) := List.map_congr_left fun x hx => by
    have q1 : x ≠ a := fun e => ha (e ▸ hx)
    have q2 : x ≠ b := fun e => hb (e ▸ hx)
    have q3 : x ≠ d := fun e => hd (e ▸ hx)
    simp [va_up, q1, q2, q3]
  rw [← e]
  simp [va_up, h1, h2, h3]
theorem mr_RIpush {cI : ClassId} {n : Nat} {L : List Nat} {f : Nat → va_E} {fr : Nat → Option Nat} {a b d k : Nat} {v0 v1 v2 v4 v5 v6 v7 : Int32} {ld kd : Nat → Int32} (hR : mr_RI cI n L f fr) (hn : n < 80) (ha : a ∉ L) (hb : b ∉ L) (hd : d ∉ L) (hne : a ≠ b ∧ a ≠ d ∧ b ≠ d) (hk : k < 8) :
    mr_RI cI (n + 1) (a :: b :: d :: L) (va_up (va_up (va_up f a (.inr (2, [.int v0, .int v1, .int v2, .int (nI k), .int v4, .int v5, .int v6, .int v7, .int (nI 1), .ref b, .ref d]))) b (.inl (cI, 8, .inl ld))) d (.inl (cI, 8, .inl kd))) (va_up fr n (some a)) := by
  obtain ⟨h1, h2, h3⟩ := hne
  refine ⟨by omega, fun i hi => ?_⟩
  by_cases h : i = n
  · subst h
    exact ⟨a, b, d, v0, v1, v2, v4, v5, v6, v7, k, 1, ld, kd, by simp [va_up], by simp, by simp, by simp, by simp [va_up, h1, h2], by simp [va_up, h3], by simp [va_up], hk, by omega, by omega, h3⟩
  · obtain ⟨a', ql', qk', w0, w1, w2, w4, w5, w6, w7, k', t', ld', kd', e, m1, m2, m3, e1, e2, e3, rest⟩ := hR.2 i (by omega)
    have ne : ∀ {x : Nat}, x ∈ L → x ≠ a ∧ x ≠ b ∧ x ≠ d := fun hx => ⟨fun e => ha (e ▸ hx), fun e => hb (e ▸ hx), fun e => hd (e ▸ hx)⟩
    exact ⟨a', ql', qk', w0, w1, w2, w4, w5, w6, w7, k', t', ld', kd', by simp [va_up, h, e], by simp [m1], by simp [m2], by simp [m3], by simp [va_up, ne m1, e1], by simp [va_up, ne m2, e2], by simp [va_up, ne m3, e3], rest⟩
theorem mr_k8 {x : Int32} (h1 : ¬ x < 0) (h2 : ¬ 8 ≤ x) : ∃ k : Nat, k < 8 ∧ x = nI k := by
  obtain ⟨j, hj, rfl⟩ := nI_of h1
  refine ⟨j, ?_, rfl⟩
  rcases Nat.lt_or_ge j 8 with q | q
  · exact q
  · exact absurd (nI_le (a := 8) q hj) h2
theorem mr_n80 {n : Nat} (h : nI n < 80) (hn : n ≤ 80) : n < 80 := by
  rcases Nat.lt_or_ge n 80 with q | q
  · exact q
  · exact absurd h (nI_nlt (b := 80) q (by omega))
theorem mr_ordinj {n : Nat} (is : List Nat) (h1 : is.Nodup) (h2 : ∀ i ∈ is, i < is.length) (h3 : True) : ∀ i j : Nat, i < n → j < n → (if i < is.length then (is[i]?).getD 0 else is.length + (i - is.length)) = (if j < is.length then (is[j]?).getD 0 else is.length + (j - is.length)) → i = j := by
  intro i j _ _ h
  have hb : ∀ i, i < is.length → ∃ x, is[i]? = some x ∧ x < is.length := fun i hi => ⟨is[i], List.getElem?_eq_getElem hi, h2 _ (List.getElem_mem hi)⟩
  by_cases hi : i < is.length
  · by_cases hj : j < is.length
    · rw [if_pos hi, if_pos hj] at h
      obtain ⟨x, hx, _⟩ := hb i hi
      obtain ⟨y, hy, _⟩ := hb j hj
      rw [hx, hy] at h
      have h : x = y := h
      exact (List.getElem?_inj hi h1).mp (by rw [hx, hy, h])
    · rw [if_pos hi, if_neg hj] at h
      obtain ⟨x, hx, hlt⟩ := hb i hi
      rw [hx] at h
      have h : x = is.length + (j - is.length) := h
      omega
  · by_cases hj : j < is.length
    · rw [if_neg hi, if_pos hj] at h
      obtain ⟨x, hx, hlt⟩ := hb j hj
      rw [hx] at h
      have h : is.length + (i - is.length) = x := h
      omega
    · rw [if_neg hi, if_neg hj] at h
      omega
theorem mw_241 : Cond.stringRef "MeasureRows" 80 "no such code or land" ∈ lw_tbl := by decide +kernel
theorem mw_242 : Cond.code y_M_isPlace b_M_isPlace 1 (some .boolean) ∈ lw_tbl := by decide +kernel
theorem mw_243 : Cond.initialized y_M_isPlace.cls ∈ lw_tbl := by decide +kernel
theorem mw_244 : Cond.methodLink "MeasureRows" 75 y_M_isPlace ∈ lw_tbl := by decide +kernel
theorem mw_245 : Cond.static y_M_isPlace ∈ lw_tbl := by decide +kernel
theorem mw_246 : Cond.stringRef "MeasureRows" 91 "no such kind or rank" ∈ lw_tbl := by decide +kernel
theorem mw_247 : Cond.code y_M_leastClash b_M_leastClash 9 (some .int) ∈ lw_tbl := by decide +kernel
theorem mw_248 : Cond.initialized y_M_leastClash.cls ∈ lw_tbl := by decide +kernel
theorem mw_249 : Cond.methodLink "MeasureRows" 98 y_M_leastClash ∈ lw_tbl := by decide +kernel
theorem mw_250 : Cond.instanceMethod y_M_leastClash ∈ lw_tbl := by decide +kernel
theorem mw_251 : Cond.selects "MeasureRows" y_M_leastClash y_M_leastClash ∈ lw_tbl := by decide +kernel
theorem mw_252 : Cond.classLink "MeasureRows" 16 R_R ∈ lw_tbl := by decide +kernel
theorem mw_253 : Cond.instantiable R_R 11 ∈ lw_tbl := by decide +kernel
theorem mw_254 : Cond.initialized R_R ∈ lw_tbl := by decide +kernel
theorem mw_255 : Cond.code y_R_init b_R_init 8 none ∈ lw_tbl := by decide +kernel
theorem mw_256 : Cond.initialized y_R_init.cls ∈ lw_tbl := by decide +kernel
theorem mw_257 : Cond.methodLink "MeasureRows" 102 y_R_init ∈ lw_tbl := by decide +kernel
theorem mw_258 : Cond.instanceMethod y_R_init ∈ lw_tbl := by decide +kernel
theorem mw_259 : Cond.stringRef "MeasureRows" 95 "no room for another row" ∈ lw_tbl := by decide +kernel


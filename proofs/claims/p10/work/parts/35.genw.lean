theorem mr_new1 {D : va_G} {cl : List vw_C} {f : Nat → va_E} {H1 : Heap} {a : Nat} {e0 e1 : va_E} (hP1 : va_P D cl [(a, e1)] H1) : ∀ b : Nat, (∃ (k : Nat) (e : va_E), ([(a, e0)] : va_W)[k]? = some (b, e)) → va_at D cl (b, va_up f a e1 b) H1 := by
  rintro b ⟨k, e, hk⟩
  match k, hk with
  | 0, hk =>
    cases hk
    have h := hP1 0 _ rfl
    simpa [va_up] using h
  | k + 1, hk => simp at hk
theorem mr_old1 {L : List Nat} {f : Nat → va_E} {a : Nat} {e0 e1 : va_E} : ∀ b : Nat, b ∈ L → (¬ ∃ (k : Nat) (e : va_E), ([(a, e0)] : va_W)[k]? = some (b, e)) → va_up f a e1 b = f b := by
  intro b _ h
  by_cases hb : b = a
  · exact absurd ⟨0, e0, by rw [hb]; rfl⟩ h
  · simp [va_up, hb]
theorem mr_in3 {L : List Nat} {a b d : Nat} {e1 e2 e3 : va_E} (ha : a ∈ L) (hb : b ∈ L) (hd : d ∈ L) : ∀ (k : Nat) (q : Nat × va_E), ([(a, e1), (b, e2), (d, e3)] : va_W)[k]? = some q → q.1 ∈ L := fun k q hq => by
  match k, hq with
  | 0, hq => cases hq; exact ha
  | 1, hq => cases hq; exact hb
  | 2, hq => cases hq; exact hd
  | k + 3, hq => simp at hq
theorem mr_D3 {A : Nat → Prop} {a b d : Nat} {e1 e2 e3 : va_E} (ha : A a) (hb : A b) (hd : A d) (hne : a ≠ b ∧ a ≠ d ∧ b ≠ d) : va_D A [(a, e1), (b, e2), (d, e3)] := by
  obtain ⟨n1, n2, n3⟩ := hne
  refine ⟨fun i j p q hi hj h => ?_, fun k q hk => ?_⟩
  · match i, j, hi, hj with
    | 0, 0, _, _ => rfl
    | 1, 1, _, _ => rfl
    | 2, 2, _, _ => rfl
    | 0, 1, hi, hj => cases hi; cases hj; exact absurd h n1
    | 0, 2, hi, hj => cases hi; cases hj; exact absurd h n2
    | 1, 2, hi, hj => cases hi; cases hj; exact absurd h n3
    | 1, 0, hi, hj => cases hi; cases hj; exact absurd h.symm n1
    | 2, 0, hi, hj => cases hi; cases hj; exact absurd h.symm n2
    | 2, 1, hi, hj => cases hi; cases hj; exact absurd h.symm n3
    | i + 3, _, hi, _ => simp at hi
    | _, j + 3, _, hj => simp at hj
  · match k, hk with
    | 0, hk => cases hk; exact ha
    | 1, hk => cases hk; exact hb
    | 2, hk => cases hk; exact hd
    | k + 3, hk => simp at hk
theorem mr_ne3 {cI : ClassId} {f : Nat → va_E} {a b d : Nat} {fs : List Value} {x y : vp_A} (ea : f a = .inr (2, fs)) (eb : f b = .inl (cI, x)) (ed : f d = .inl (cI, y)) (h : b ≠ d) : a ≠ b ∧ a ≠ d ∧ b ≠ d := ⟨(fun e => by rw [e, eb] at ea; cases ea), (fun e => by rw [e, ed] at ea; cases ea), h⟩
theorem mr_new3 {D : va_G} {cl : List vw_C} {f : Nat → va_E} {H1 : Heap} {a b d : Nat} {e1 e2 e3 n1 n2 n3 : va_E} (hP1 : va_P D cl [(a, n1), (b, n2), (d, n3)] H1) (hne : a ≠ b ∧ a ≠ d ∧ b ≠ d) : ∀ x : Nat, (∃ (k : Nat) (e : va_E), ([(a, e1), (b, e2), (d, e3)] : va_W)[k]? = some (x, e)) → va_at D cl (x, va_up (va_up (va_up f a n1) b n2) d n3 x) H1 := by
  obtain ⟨h1, h2, h3⟩ := hne
  rintro x ⟨k, e, hk⟩
  match k, hk with
  | 0, hk => cases hk; have h := hP1 0 _ rfl; simpa [va_up, h1, h2] using h
  | 1, hk => cases hk; have h := hP1 1 _ rfl; simpa [va_up, h3] using h
  | 2, hk => cases hk; have h := hP1 2 _ rfl; simpa [va_up] using h
  | k + 3, hk => simp at hk
theorem mr_old3 {L : List Nat} {f : Nat → va_E} {a b d : Nat} {e1 e2 e3 n1 n2 n3 : va_E} : ∀ x : Nat, x ∈ L → (¬ ∃ (k : Nat) (e : va_E), ([(a, e1), (b, e2), (d, e3)] : va_W)[k]? = some (x, e)) → va_up (va_up (va_up f a n1) b n2) d n3 x = f x := by
  intro x _ h
  have ha : x ≠ a := fun q => h ⟨0, e1, by rw [q]; rfl⟩
  have hb : x ≠ b := fun q => h ⟨1, e2, by rw [q]; rfl⟩
  have hd : x ≠ d := fun q => h ⟨2, e3, by rw [q]; rfl⟩
  simp [va_up, ha, hb, hd]
theorem mw_174 : Cond.code y_R_leaveOut b_R_leaveOut 2 (some .boolean) ∈ lw_tbl := by decide +kernel
theorem mw_175 : Cond.initialized y_R_leaveOut.cls ∈ lw_tbl := by decide +kernel
theorem mw_176 : Cond.methodLink "MeasureRows" 115 y_R_leaveOut ∈ lw_tbl := by decide +kernel
theorem mw_177 : Cond.instanceMethod y_R_leaveOut ∈ lw_tbl := by decide +kernel
theorem mw_178 : Cond.selects "MeasureRows$Row" y_R_leaveOut y_R_leaveOut ∈ lw_tbl := by decide +kernel
theorem mw_179 : Cond.code y_R_want b_R_want 2 (some .boolean) ∈ lw_tbl := by decide +kernel
theorem mw_180 : Cond.initialized y_R_want.cls ∈ lw_tbl := by decide +kernel
theorem mw_181 : Cond.methodLink "MeasureRows" 118 y_R_want ∈ lw_tbl := by decide +kernel
theorem mw_182 : Cond.instanceMethod y_R_want ∈ lw_tbl := by decide +kernel
theorem mw_183 : Cond.selects "MeasureRows$Row" y_R_want y_R_want ∈ lw_tbl := by decide +kernel


/-! THE GROUPS: what is in a group, by its bits; the class's 'inside' is the reference's 'all' -/
def bt (x : Int32) (i : Nat) : Bool := x.toBitVec.getLsbD i
theorem b_ext {x y : Int32} (h : ∀ i, i < 32 → bt x i = bt y i) : x = y := Int32.toBitVec_inj.mp (BitVec.eq_of_getLsbD_eq (fun i hi => h i hi))
theorem b_or (x y : Int32) (i : Nat) : bt (x ||| y) i = (bt x i || bt y i) := by unfold bt; rw [Int32.toBitVec_or, BitVec.getLsbD_or]
theorem b_and (x y : Int32) (i : Nat) : bt (x &&& y) i = (bt x i && bt y i) := by unfold bt; rw [Int32.toBitVec_and, BitVec.getLsbD_and]
theorem b_xor (x y : Int32) (i : Nat) : bt (x ^^^ y) i = (bt x i ^^ bt y i) := by unfold bt; rw [Int32.toBitVec_xor, BitVec.getLsbD_xor]
theorem b_big {x : Int32} {i : Nat} (h : 32 ≤ i) : bt x i = false := BitVec.getLsbD_of_ge _ _ h
theorem b_255 (i : Nat) : bt 255 i = decide (i < 8) := by
  rcases Nat.lt_or_ge i 32 with h | h
  · exact (by decide +kernel : ∀ i, i < 32 → bt 255 i = decide (i < 8)) i h
  · rw [b_big h, decide_eq_false (by omega)]
theorem b_65535 (i : Nat) : bt 65535 i = decide (i < 16) := by
  rcases Nat.lt_or_ge i 32 with h | h
  · exact (by decide +kernel : ∀ i, i < 32 → bt 65535 i = decide (i < 16)) i h
  · rw [b_big h, decide_eq_false (by omega)]
theorem b_m1 : ∀ i, i < 32 → bt (-1) i = true := by decide +kernel
theorem b_0 (i : Nat) : bt 0 i = false := BitVec.getLsbD_zero
theorem s_l : ∀ n, n < 32 → ((nI n &&& 31).toBitVec.smod 32).toNat = n := by decide +kernel
theorem s_u : ∀ n, n < 32 → (((nI n).toUInt32 &&& Int32.toUInt32 31).toBitVec % 32).toNat = n := by decide +kernel
theorem b_shl (n : Nat) (hn : n < 32) (x : Int32) {i : Nat} (hi : i < 32) : bt (x <<< (nI n &&& 31)) i = (decide (n ≤ i) && bt x (i - n)) := by
  unfold bt
  rw [Int32.toBitVec_shiftLeft]
  show (x.toBitVec <<< ((nI n &&& 31).toBitVec.smod 32).toNat).getLsbD i = _
  rw [s_l n hn, BitVec.getLsbD_shiftLeft]
  rcases Nat.lt_or_ge i n with h | h
  · simp [h, Nat.not_le.mpr h]
  · simp [hi, h, Nat.not_lt.mpr h]
theorem b_ushr (n : Nat) (hn : n < 32) (x : Int32) (i : Nat) : bt ((x.toUInt32 >>> ((nI n).toUInt32 &&& Int32.toUInt32 31)).toInt32) i = bt x (n + i) := by
  show (x.toUInt32 >>> ((nI n).toUInt32 &&& Int32.toUInt32 31)).toBitVec.getLsbD i = x.toUInt32.toBitVec.getLsbD (n + i)
  rw [UInt32.toBitVec_shiftRight]
  show (x.toUInt32.toBitVec >>> (((nI n).toUInt32 &&& Int32.toUInt32 31).toBitVec % 32).toNat).getLsbD i = _
  rw [s_u n hn, BitVec.getLsbD_ushiftRight]
theorem b_sshr (n : Nat) (hn : n < 32) (x : Int32) {i : Nat} (hi : i < 32) : bt (x >>> (nI n &&& 31)) i = if n + i < 32 then bt x (n + i) else bt x 31 := by
  unfold bt
  rw [Int32.toBitVec_shiftRight]
  show (x.toBitVec.sshiftRight ((nI n &&& 31).toBitVec.smod 32).toNat).getLsbD i = _
  rw [s_l n hn, BitVec.getLsbD_sshiftRight, BitVec.msb_eq_getLsbD_last]
  simp [hi]
theorem bq_1 (i : Nat) : bt 1 i = decide (i = 0) := by
  rcases Nat.lt_or_ge i 32 with h | h
  · exact (by decide +kernel : ∀ i, i < 32 → bt 1 i = decide (i = 0)) i h
  · rw [b_big h, decide_eq_false (by omega)]
theorem bq_and1 (x : Int32) : (x &&& 1 = 1) ↔ bt x 0 = true := by
  constructor
  · intro h
    have := congrArg (fun y => bt y 0) h
    simpa [b_and, bq_1] using this
  · intro h
    refine b_ext fun i _ => ?_
    rw [b_and, bq_1]
    by_cases hi : i = 0
    · subst hi; simp [h]
    · simp [hi]
theorem bq_at (x : Int32) {n : Nat} (hn : n < 32) : ((x >>> (nI n &&& 31)) &&& 1 = 1) ↔ bt x n = true := by
  rw [bq_and1, b_sshr n hn x (by omega), if_pos (by omega)]; rfl
theorem bq_16 (x : Int32) {k : Nat} (hk : k < 8) : ((x >>> ((16 + nI k) &&& 31)) &&& 1 = 1) ↔ bt x (16 + k) = true := by
  rw [show (16 : Int32) + nI k = nI (16 + k) from nI_add 16 k]
  exact bq_at x (by omega)
def bq_sb (x y : Int32) : Prop := ∀ i, bt x i = true → bt y i = true
theorem bq_ref (x : Int32) : bq_sb x x := fun _ h => h
theorem bq_tr {x y z : Int32} (h1 : bq_sb x y) (h2 : bq_sb y z) : bq_sb x z := fun i h => h2 i (h1 i h)
theorem bq_l (x y : Int32) : bq_sb x (x ||| y) := fun i h => by rw [b_or, h]; rfl
theorem bq_r (x y : Int32) : bq_sb y (x ||| y) := fun i h => by rw [b_or, h, Bool.or_true]
theorem bq_or {x y z : Int32} (h1 : bq_sb x z) (h2 : bq_sb y z) : bq_sb (x ||| y) z := fun i h => by
  rw [b_or, Bool.or_eq_true] at h
  exact h.elim (h1 i) (h2 i)
theorem bq_as {x y : Int32} (h1 : bq_sb x y) (h2 : bq_sb y x) : x = y := b_ext fun i _ => by
  cases hx : bt x i
  · cases hy : bt y i
    · rfl
    · have := h2 i hy; rw [hx] at this; cases this
  · rw [h1 i hx]
def bq_cl (f : Nat → Int32) (S : Int32) : Prop := ∀ k, k < 8 → bt S (16 + k) = true → bq_sb (f k) S
theorem bq_al_step (f : Nat → Int32) (v : Int32) {m : Nat} (hm : m < 8) : (bt (mv_al f v m) (16 + m) = true ∧ mv_al f v (m + 1) = mv_al f v m ||| f m) ∨ (bt (mv_al f v m) (16 + m) = false ∧ mv_al f v (m + 1) = mv_al f v m) := by
  rw [mv_al_s]
  cases h : bt (mv_al f v m) (16 + m)
  · right
    exact ⟨rfl, if_neg (fun q => by rw [bq_16 _ hm, h] at q; cases q)⟩
  · left
    exact ⟨rfl, if_pos ((bq_16 _ hm).mpr h)⟩
theorem bq_al_up (f : Nat → Int32) (v : Int32) : ∀ m, m ≤ 8 → bq_sb v (mv_al f v m) := by
  intro m
  induction m with
  | zero => intro _; exact bq_ref v
  | succ m ih =>
    intro hm
    rcases bq_al_step f v (show m < 8 by omega) with ⟨_, e⟩ | ⟨_, e⟩
    · rw [e]; exact bq_tr (ih (by omega)) (bq_l _ _)
    · rw [e]; exact ih (by omega)
theorem bq_al_least {f : Nat → Int32} {v S : Int32} (hS : bq_cl f S) (hv : bq_sb v S) : ∀ m, m ≤ 8 → bq_sb (mv_al f v m) S := by
  intro m
  induction m with
  | zero => intro _; exact hv
  | succ m ih =>
    intro hm
    rcases bq_al_step f v (show m < 8 by omega) with ⟨h, e⟩ | ⟨_, e⟩
    · rw [e]; exact bq_or (ih (by omega)) (hS m (by omega) (ih (by omega) _ h))
    · rw [e]; exact ih (by omega)
theorem bq_al_in (f : Nat → Int32) (v : Int32) : ∀ m, m ≤ 8 → ∀ k, k < m → bt v (16 + k) = true → bq_sb (f k) (mv_al f v m) := by
  intro m
  induction m with
  | zero => intro _ k hk; omega
  | succ m ih =>
    intro hm k hk hb
    rcases bq_al_step f v (show m < 8 by omega) with ⟨h, e⟩ | ⟨h, e⟩
    · rw [e]
      by_cases q : k = m
      · rw [q]; exact bq_r _ _
      · exact bq_tr (ih (by omega) k (by omega) hb) (bq_l _ _)
    · rw [e]
      by_cases q : k = m
      · have := bq_al_up f v m (by omega) _ hb
        rw [q, h] at this; cases this
      · exact ih (by omega) k (by omega) hb
def bq_cn (v : Int32) : Nat → Nat
  | 0 => 0
  | m + 1 => bq_cn v m + if bt v (16 + m) = true then 1 else 0
theorem bq_cn_le (v : Int32) : ∀ m, bq_cn v m ≤ m := by
  intro m
  induction m with
  | zero => exact Nat.le_refl 0
  | succ m ih =>
    show bq_cn v m + (if bt v (16 + m) = true then 1 else 0) ≤ m + 1
    split <;> omega
theorem bq_cn_mono {v w : Int32} (h : bq_sb v w) : ∀ m, bq_cn v m ≤ bq_cn w m ∧ (bq_cn v m = bq_cn w m → ∀ k, k < m → bt w (16 + k) = true → bt v (16 + k) = true) := by
  intro m
  induction m with
  | zero => exact ⟨Nat.le_refl 0, fun _ k hk => by omega⟩
  | succ m ih =>
    have e1 : bq_cn v (m + 1) = bq_cn v m + if bt v (16 + m) = true then 1 else 0 := rfl
    have e2 : bq_cn w (m + 1) = bq_cn w m + if bt w (16 + m) = true then 1 else 0 := rfl
    by_cases hv : bt v (16 + m) = true
    · have hw := h _ hv
      rw [if_pos hv] at e1
      rw [if_pos hw] at e2
      refine ⟨by omega, fun q k hk hb => ?_⟩
      by_cases hkm : k = m
      · rw [hkm]; exact hv
      · exact ih.2 (by omega) k (by omega) hb
    · rw [if_neg hv] at e1
      by_cases hw : bt w (16 + m) = true
      · rw [if_pos hw] at e2
        refine ⟨by omega, fun q => ?_⟩
        have := ih.1
        omega
      · rw [if_neg hw] at e2
        refine ⟨by omega, fun q k hk hb => ?_⟩
        by_cases hkm : k = m
        · rw [hkm] at hb; exact absurd hb hw
        · exact ih.2 (by omega) k (by omega) hb
theorem bq_cn_pos {v : Int32} {k : Nat} (h : bt v (16 + k) = true) : ∀ m, k < m → 1 ≤ bq_cn v m := by
  intro m
  induction m with
  | zero => intro hk; omega
  | succ m ih =>
    intro hk
    show 1 ≤ bq_cn v m + if bt v (16 + m) = true then 1 else 0
    by_cases q : k = m
    · rw [← q, if_pos h]; omega
    · have := ih (by omega); omega
theorem bq_round (f : Nat → Int32) (v : Int32) : ∀ r, bq_cl f (mv_alr f v r) ∨ r + 1 ≤ bq_cn (mv_alr f v r) 8 := by
  intro r
  induction r with
  | zero =>
    by_cases h : ∃ k, k < 8 ∧ bt v (16 + k) = true
    · obtain ⟨k, hk, hb⟩ := h
      exact Or.inr (bq_cn_pos hb 8 hk)
    · exact Or.inl fun k hk hb => absurd ⟨k, hk, hb⟩ h
  | succ r ih =>
    rw [mv_alr_s]
    have hup := bq_al_up f (mv_alr f v r) 8 (Nat.le_refl 8)
    rcases ih with hc | hc
    · left
      have e : mv_al f (mv_alr f v r) 8 = mv_alr f v r := bq_as (bq_al_least hc (bq_ref _) 8 (Nat.le_refl 8)) hup
      rw [e]; exact hc
    · obtain ⟨h1, h2⟩ := bq_cn_mono hup 8
      by_cases q : bq_cn (mv_alr f v r) 8 = bq_cn (mv_al f (mv_alr f v r) 8) 8
      · exact Or.inl fun k hk hb => bq_al_in f _ 8 (Nat.le_refl 8) k hk (h2 q k hk hb)
      · exact Or.inr (by omega)
theorem bq_closed (f : Nat → Int32) (v : Int32) : bq_cl f (mv_alr f v 8) := by
  rcases bq_round f v 8 with h | h
  · exact h
  · have := bq_cn_le (mv_alr f v 8) 8; omega
theorem bq_up (f : Nat → Int32) (v : Int32) : ∀ r, bq_sb v (mv_alr f v r) := by
  intro r
  induction r with
  | zero => exact bq_ref v
  | succ r ih => rw [mv_alr_s]; exact bq_tr ih (bq_al_up f _ 8 (Nat.le_refl 8))
theorem bq_least {f : Nat → Int32} {v S : Int32} (hS : bq_cl f S) (hv : bq_sb v S) : ∀ r, bq_sb (mv_alr f v r) S := by
  intro r
  induction r with
  | zero => exact hv
  | succ r ih => rw [mv_alr_s]; exact bq_al_least hS ih 8 (Nat.le_refl 8)

/-! A NEWCOMER JOINS: 'inside' is kept what the members reach -/
theorem bq_cl_sub {f f' : Nat → Int32} {S : Int32} (h : ∀ k, k < 8 → bq_sb (f k) (f' k)) (hS : bq_cl f' S) : bq_cl f S :=
  fun k hk hb => bq_tr (h k hk) (hS k hk hb)
theorem bq_join {f fi f' fi' : Nat → Int32} {g n : Nat} {b q : Int32} (hg : g < 8) (hfi : ∀ k, k < 8 → fi k = mv_alr f (f k) 8)
    (hb : ∀ i, bt b i = true ↔ i = n) (hq : ∀ m, m < 8 → n = 16 + m → q = fi m) (hq' : ∀ i, bt q i = true → ∃ m, m < 8 ∧ n = 16 + m)
    (hf : ∀ k, k < 8 → f' k = if k = g then f k ||| b else f k)
    (hi : ∀ k, k < 8 → fi' k = if k = g ∨ bt (fi k) (16 + g) = true then fi k ||| (b ||| q) else fi k) :
    ∀ k, k < 8 → fi' k = mv_alr f' (f' k) 8 := by
  have hff : ∀ k, k < 8 → bq_sb (f k) (f' k) := fun k hk => by
    rw [hf k hk]; split
    · exact bq_l _ _
    · exact bq_ref _
  have hfb : bq_sb b (f' g) := by rw [hf g hg, if_pos rfl]; exact bq_r _ _
  have hcl : ∀ k, k < 8 → bq_cl f (fi k) := fun k hk => by rw [hfi k hk]; exact bq_closed f (f k)
  have hin : ∀ k, k < 8 → bq_sb (f k) (fi k) := fun k hk => by rw [hfi k hk]; exact bq_up f (f k) 8
  have hle : ∀ k S, k < 8 → bq_cl f S → bq_sb (f k) S → bq_sb (fi k) S := fun k S hk h1 h2 => by
    rw [hfi k hk]; exact bq_least h1 h2 8
  have hc' : ∀ k, bq_cl f' (mv_alr f' (f' k) 8) := fun k => bq_closed f' (f' k)
  have hi' : ∀ k, bq_sb (f' k) (mv_alr f' (f' k) 8) := fun k => bq_up f' (f' k) 8
  -- what is closed under the new members and has the group has all that came
  have hbr : ∀ S, bq_cl f' S → bq_sb (f' g) S → bq_sb (b ||| q) S := fun S hS hgS => by
    have hbS : bq_sb b S := bq_tr hfb hgS
    refine bq_or hbS ?_
    intro i hqi
    obtain ⟨m, hm, hn⟩ := hq' i hqi
    have hbm : bt S (16 + m) = true := hbS _ ((hb _).mpr hn.symm)
    have := hle m S hm (bq_cl_sub hff hS) (bq_tr (hff m hm) (hS m hm hbm))
    rw [← hq m hm hn] at this
    exact this i hqi
  intro k hk
  refine bq_as ?_ ?_
  · have h1 : bq_sb (fi k) (mv_alr f' (f' k) 8) := hle k _ hk (bq_cl_sub hff (hc' k)) (bq_tr (hff k hk) (hi' k))
    rw [hi k hk]
    split
    · rename_i hc
      refine bq_or h1 (hbr _ (hc' k) ?_)
      rcases hc with hc | hc
      · rw [hc]; exact hi' g
      · exact hc' k g hg (h1 _ hc)
    · exact h1
  · rw [hi k hk]
    split
    · rename_i hc
      have hbT : bq_sb b (fi k ||| (b ||| q)) := bq_tr (bq_l b q) (bq_r _ _)
      have hqT : bq_sb q (fi k ||| (b ||| q)) := bq_tr (bq_r b q) (bq_r _ _)
      have hT : bq_cl f (fi k ||| (b ||| q)) := fun j hj hbj => by
        rw [b_or, b_or, Bool.or_eq_true, Bool.or_eq_true] at hbj
        rcases hbj with h | h | h
        · exact bq_tr (hcl k hk j hj h) (bq_l _ _)
        · have hn := (hb _).mp h
          have := hin j hj
          rw [← hq j hj hn.symm] at this
          exact bq_tr this hqT
        · obtain ⟨m, hm, hn⟩ := hq' _ h
          rw [hq m hm hn] at h
          have := hcl m hm j hj h
          rw [← hq m hm hn] at this
          exact bq_tr this hqT
      have hF : ∀ j, j < 8 → bq_sb (f j) (fi k ||| (b ||| q)) → bq_sb (f' j) (fi k ||| (b ||| q)) := fun j hj h => by
        rw [hf j hj]; split
        · exact bq_or h hbT
        · exact h
      exact bq_least (fun j hj hbj => hF j hj (hT j hj hbj)) (hF k hk (bq_tr (hin k hk) (bq_l _ _))) 8
    · rename_i hc
      have hkg : ¬ k = g := fun e => hc (Or.inl e)
      have e : f' k = f k := by rw [hf k hk, if_neg hkg]
      refine bq_least (fun j hj hbj => ?_) (by rw [e]; exact hin k hk) 8
      have hjg : ¬ j = g := fun e => hc (Or.inr (by rw [← e]; exact hbj))
      rw [hf j hj, if_neg hjg]
      exact hcl k hk j hj hbj
theorem bq_hb {n : Nat} (hn : n < 32) (x : Int32) : mv_M_hasBit x (nI n) = 0 ↔ bt x n = false := by
  unfold mv_M_hasBit mr_ushr
  have h0 : bt ((x.toUInt32 >>> ((nI n).toUInt32 &&& Int32.toUInt32 31)).toInt32) 0 = bt x n := b_ushr n hn x 0
  generalize (x.toUInt32 >>> ((nI n).toUInt32 &&& Int32.toUInt32 31)).toInt32 = y at h0 ⊢
  rw [← h0]
  constructor
  · intro h
    cases hy : bt y 0
    · rfl
    · rw [(bq_and1 y).mpr hy] at h; exact absurd h (by decide)
  · intro h
    have : y &&& 1 = 0 := b_ext fun i _ => by
      rw [b_and, bq_1, b_0]
      by_cases hi : i = 0
      · subst hi; rw [h]; rfl
      · rw [decide_eq_false hi, Bool.and_false]
    rw [this]; rfl
theorem bq_hb1 {n : Nat} (hn : n < 32) (x : Int32) : ¬ mv_M_hasBit x (nI n) = 0 ↔ bt x n = true := by
  rw [bq_hb hn x]; cases bt x n <;> simp
theorem bq_one {n : Nat} (hn : n < 32) (i : Nat) : bt (1 <<< (nI n &&& 31)) i = true ↔ i = n := by
  rcases Nat.lt_or_ge i 32 with h | h
  · rw [b_shl n hn 1 h, bq_1]
    rw [Bool.and_eq_true, decide_eq_true_iff, decide_eq_true_iff]
    omega
  · rw [b_big h]
    exact ⟨fun q => (by cases q), fun q => (by omega)⟩
theorem bq_g {a : Int32} (h : ¬ mv_M_isGroup a = 0) : ∃ g, g < 8 ∧ a = nI (16 + g) ∧ (a - 16).toNatClampNeg = g := by
  unfold mv_M_isGroup at h
  by_cases h1 : a < 16
  · rw [if_pos h1] at h; exact absurd rfl h
  · rw [if_neg h1] at h
    by_cases h2 : 24 ≤ a
    · rw [if_pos h2] at h; exact absurd rfl h
    · rw [Int32.lt_iff_toInt_lt] at h1
      rw [Int32.le_iff_toInt_le] at h2
      have a1 : (24 : Int32).toInt = 24 := by decide
      have a2 : (16 : Int32).toInt = 16 := by decide
      have e : a = nI (16 + (a.toInt - 16).toNat) := by
        apply Int32.toInt_inj.mp
        rw [nI_toInt (by omega)]
        omega
      refine ⟨(a.toInt - 16).toNat, by omega, e, ?_⟩
      have hlt : (a.toInt - 16).toNat < 8 := by omega
      generalize (a.toInt - 16).toNat = g at e hlt
      rw [e]
      exact (by decide +kernel : ∀ g, g < 8 → (nI (16 + g) - 16).toNatClampNeg = g) g hlt
theorem bq_la {a : Int32} (h : ¬ mv_M_isLand a = 0) : ∃ n, n < 16 ∧ a = nI n := by
  unfold mv_M_isLand at h
  by_cases h1 : a < 0
  · rw [if_pos h1] at h; exact absurd rfl h
  · rw [if_neg h1] at h
    by_cases h2 : 16 ≤ a
    · rw [if_pos h2] at h; exact absurd rfl h
    · rw [Int32.lt_iff_toInt_lt] at h1
      rw [Int32.le_iff_toInt_le] at h2
      have a1 : (0 : Int32).toInt = 0 := by decide
      have a2 : (16 : Int32).toInt = 16 := by decide
      refine ⟨a.toInt.toNat, by omega, ?_⟩
      apply Int32.toInt_inj.mp
      rw [nI_toInt (by omega)]
      omega

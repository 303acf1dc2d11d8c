/-! CLASS AND REFERENCE ANSWER ALIKE of groups, where 'inside' is what the members reach -/
def mr_tie (fm fi : Nat → Int32) : Prop := ∀ k, k < 8 → fi k = mv_alr fm (fm k) 8
theorem v_grp (a : Int32) : mv_D_isGroup a = mv_M_isGroup a := by
  unfold mv_D_isGroup mv_D_in mv_M_isGroup
  have e : (23 < a) = (24 ≤ a) := propext ⟨fun h => by
    rw [Int32.lt_iff_toInt_lt] at h; rw [Int32.le_iff_toInt_le]
    have a1 : (24 : Int32).toInt = 24 := by decide
    have a2 : (23 : Int32).toInt = 23 := by decide
    omega, fun h => by
    rw [Int32.lt_iff_toInt_lt]; rw [Int32.le_iff_toInt_le] at h
    have a1 : (24 : Int32).toInt = 24 := by decide
    have a2 : (23 : Int32).toInt = 23 := by decide
    omega⟩
  simp only [e]
theorem v_land (a : Int32) : mv_D_isLand a = mv_M_isLand a := by
  unfold mv_D_isLand mv_D_in mv_M_isLand
  have e : (15 < a) = (16 ≤ a) := propext ⟨fun h => by
    rw [Int32.lt_iff_toInt_lt] at h; rw [Int32.le_iff_toInt_le]
    have a1 : (16 : Int32).toInt = 16 := by decide
    have a2 : (15 : Int32).toInt = 15 := by decide
    omega, fun h => by
    rw [Int32.lt_iff_toInt_lt]; rw [Int32.le_iff_toInt_le] at h
    have a1 : (16 : Int32).toInt = 16 := by decide
    have a2 : (15 : Int32).toInt = 15 := by decide
    omega⟩
  simp only [e]
theorem v_ins {fm fi : Nat → Int32} (h : mr_tie fm fi) {b : Int32} (hb : ¬ mv_M_isGroup b = 0) : mv_G_insideOf fi b = mv_D_all fm b := by
  unfold mv_G_insideOf mv_D_all
  rw [if_neg hb]
  obtain ⟨g, hg, -, e⟩ := bq_g hb
  rw [e]; exact h g hg
theorem v_bit {n : Nat} (hn : n < 32) (x : Int32) : (((x >>> (nI n &&& 31)) &&& 1) = 1) ↔ ¬ mv_M_hasBit x (nI n) = 0 := by
  rw [bq_at x hn, bq_hb1 hn x]
theorem v_would {fm fi : Nat → Int32} (h : mr_tie fm fi) {a b : Int32} (ha : ¬ mv_M_isGroup a = 0) (hb : ¬ mv_M_isGroup b = 0) : mv_G_wouldRing fi a b = mv_D_rings fm a b := by
  unfold mv_G_wouldRing mv_D_rings
  rw [v_ins h hb]
  obtain ⟨g, hg, ea, -⟩ := bq_g ha
  have hbit := v_bit (show 16 + g < 32 by omega) (mv_D_all fm b)
  rw [← ea] at hbit
  by_cases q : a = b
  · rw [if_pos q, if_pos q.symm]
  · rw [if_neg q, if_neg (fun e => q e.symm)]
    by_cases w : mv_M_hasBit (mv_D_all fm b) a = 0
    · rw [if_pos w, if_neg (fun e => hbit.mp e w)]
    · rw [if_neg w, if_pos (hbit.mpr w)]
theorem v_isin {fm fi : Nat → Int32} (h : mr_tie fm fi) {a b : Int32} (hl : ¬ mv_M_isLand a = 0) (hg : ¬ mv_M_isGroup b = 0 ∨ b = 31) : mv_D_isIn fm a b = mv_G_reaches fi b a := by
  unfold mv_D_isIn mv_G_reaches
  by_cases h31 : b = 31
  · rw [if_pos h31, if_pos h31]
  · rw [if_neg h31, if_neg h31]
    have hg := hg.resolve_right h31
    obtain ⟨n, hn, ea⟩ := bq_la hl
    obtain ⟨g, hg8, eb, -⟩ := bq_g hg
    have hne : ¬ b = a := by
      rw [ea, eb]
      intro e
      have := congrArg Int32.toInt e
      rw [nI_toInt (by omega), nI_toInt (by omega)] at this
      omega
    rw [if_neg hne, v_grp, if_neg hg, v_ins h hg]
    have hbit := v_bit (show n < 32 by omega) (mv_D_all fm b)
    rw [← ea] at hbit
    by_cases w : mv_M_hasBit (mv_D_all fm b) a = 0
    · rw [if_pos w, if_neg (fun e => hbit.mp e w)]
    · rw [if_neg w, if_pos (hbit.mpr w)]
theorem v_keep {fm fi : Nat → Int32} (h : mr_tie fm fi) {a b : Int32} (ha : ¬ mv_M_isGroup a = 0) (hb : ¬ mv_M_isLand b = 0 ∨ ¬ mv_M_isGroup b = 0) : mr_tie (mv_G_joinM fm fi a b) (mv_G_joinI fm fi a b) := by
  unfold mv_G_joinM mv_G_joinI
  by_cases hj : mv_G_join fm fi a b = 0
  · rw [if_pos hj, if_pos hj]; exact h
  · rw [if_neg hj, if_neg hj]
    obtain ⟨g, hg, ea, eg⟩ := bq_g ha
    have hbn : ∃ n, n < 24 ∧ b = nI n := by
      rcases hb with hb | hb
      · obtain ⟨n, hn, e⟩ := bq_la hb; exact ⟨n, by omega, e⟩
      · obtain ⟨m, hm, e, -⟩ := bq_g hb; exact ⟨16 + m, by omega, e⟩
    obtain ⟨n, hn, eb⟩ := hbn
    have hgrp : ∀ m, m < 8 → n = 16 + m → ¬ mv_M_isGroup b = 0 ∧ (b - 16).toNatClampNeg = m := by
      intro m hm e
      rw [eb, e]
      exact (by decide +kernel : ∀ m, m < 8 → ¬ mv_M_isGroup (nI (16 + m)) = 0 ∧ (nI (16 + m) - 16).toNatClampNeg = m) m hm
    rw [eg]
    refine bq_join (g := g) (n := n) (b := 1 <<< (b &&& 31)) (q := mv_G_insideOf fi b) hg h ?_ ?_ ?_ ?_ ?_
    · intro i; rw [eb]; exact bq_one (by omega) i
    · intro m hm e
      obtain ⟨h1, h2⟩ := hgrp m hm e
      unfold mv_G_insideOf
      rw [if_neg h1, h2]
    · intro i hi
      unfold mv_G_insideOf at hi
      by_cases hc : mv_M_isGroup b = 0
      · rw [if_pos hc, b_0] at hi; cases hi
      · obtain ⟨m, hm, e, -⟩ := bq_g hc
        refine ⟨m, hm, ?_⟩
        rw [eb] at e
        have := congrArg Int32.toInt e
        rw [nI_toInt (by omega), nI_toInt (by omega)] at this
        omega
    · intro k hk
      show (if k = g then fm g ||| (1 <<< (b &&& 31)) else fm k) = _
      by_cases hkg : k = g
      · rw [if_pos hkg, if_pos hkg, hkg]
      · rw [if_neg hkg, if_neg hkg]
    · intro k hk
      show (if k < 8 then (if nI k + 16 = a then fi k ||| mv_jbr fi b else if mv_M_hasBit (fi k) a = 0 then fi k else fi k ||| mv_jbr fi b) else fi k) = _
      rw [if_pos hk]
      have e1 : nI k + 16 = nI (k + 16) := nI_add k 16
      have e2 : (nI k + 16 = a) ↔ k = g := by
        rw [e1, ea]
        constructor
        · intro e
          have := congrArg Int32.toInt e
          rw [nI_toInt (by omega), nI_toInt (by omega)] at this
          omega
        · intro e; rw [e, Nat.add_comm]
      have e3 : ¬ mv_M_hasBit (fi k) a = 0 ↔ bt (fi k) (16 + g) = true := by
        rw [ea]; exact bq_hb1 (by omega) (fi k)
      show _ = (if k = g ∨ bt (fi k) (16 + g) = true then fi k ||| mv_jbr fi b else fi k)
      by_cases hkg : k = g
      · rw [if_pos (e2.mpr hkg), if_pos (Or.inl hkg)]
      · rw [if_neg (fun q => hkg (e2.mp q))]
        by_cases w : mv_M_hasBit (fi k) a = 0
        · rw [if_pos w, if_neg (fun q => q.elim hkg (fun q => e3.mpr q w))]
        · rw [if_neg w, if_pos (Or.inr (e3.mp w))]
theorem v_keepM {fm fi : Nat → Int32} (h : mr_tie fm fi) (a b : Int32) : mr_tie (mv_M_memM fm fi a b) (mv_M_memI fm fi a b) := by
  unfold mv_M_memM mv_M_memI
  by_cases ha : mv_M_isGroup a = 0
  · simp only [if_pos ha]; exact h
  · simp only [if_neg ha]
    by_cases hl : mv_M_isLand b = 0
    · simp only [if_pos hl]
      by_cases hb : mv_M_isGroup b = 0
      · simp only [if_pos hb]; exact h
      · simp only [if_neg hb]; exact v_keep h ha (Or.inr hb)
    · simp only [if_neg hl]; exact v_keep h ha (Or.inl hl)

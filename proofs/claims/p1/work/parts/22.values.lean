/-! WHAT BOTH ANSWER, made new -/
theorem v_z1 (a : Int32) : mr_ushr 0 a = 0 := by
  unfold mr_ushr
  have h : (0 : Int32).toUInt32 = 0 := rfl
  rw [h, UInt32.zero_shiftRight]
  rfl
theorem v_z2 (a : Int32) : (0 : Int32) >>> a = 0 := Int32.zero_shiftRight
theorem v_bit0 (a : Int32) : mv_M_hasBit 0 a = 0 := by
  unfold mv_M_hasBit; rw [v_z1]; rfl
theorem v_in0 (a : Int32) : mv_G_insideOf (fun _ => 0) a = 0 := by
  unfold mv_G_insideOf; rw [ite_self]
theorem v_al0 (k : Nat) : mv_al (fun _ => 0) 0 k = 0 := by
  induction k with
  | zero => rfl
  | succ k ih => rw [mv_al_s, ih, v_z2]; rfl
theorem v_alr0 (k : Nat) : mv_alr (fun _ => 0) 0 k = 0 := by
  induction k with
  | zero => rfl
  | succ k ih => rw [mv_alr_s, ih, v_al0]
theorem v_all0 (a : Int32) : mv_D_all (fun _ => 0) a = 0 := v_alr0 8
theorem v_bt0 (k : Nat) : mv_bt 0 k = 0 := by
  induction k with
  | zero => rfl
  | succ k ih => rw [mv_bt_s, ih, v_z2]; rfl
theorem v_grp (a : Int32) : mv_D_isGroup a = mv_M_isGroup a := by
  unfold mv_D_isGroup mv_D_in mv_M_isGroup
  have e : (23 < a) = (24 ≤ a) := propext ⟨fun h => by
    rw [Int32.lt_iff_toInt_lt] at h; rw [Int32.le_iff_toInt_le]
    have a1 : (24 : Int32).toInt = 24 := by decide
    have a2 : (23 : Int32).toInt = 23 := by decide
    omega, fun h => by
    rw [Int32.lt_iff_toInt_lt]; rw [Int32.le_iff_toInt_le] at h
    have a1 : (24 : Int32).toInt = 24 := by decide
    have a2 : (23 : Int32).toInt = 23 := by decide
    omega⟩
  simp only [e]
theorem v_land (a : Int32) : mv_D_isLand a = mv_M_isLand a := by
  unfold mv_D_isLand mv_D_in mv_M_isLand
  have e : (15 < a) = (16 ≤ a) := propext ⟨fun h => by
    rw [Int32.lt_iff_toInt_lt] at h; rw [Int32.le_iff_toInt_le]
    have a1 : (16 : Int32).toInt = 16 := by decide
    have a2 : (15 : Int32).toInt = 15 := by decide
    omega, fun h => by
    rw [Int32.lt_iff_toInt_lt]; rw [Int32.le_iff_toInt_le] at h
    have a1 : (16 : Int32).toInt = 16 := by decide
    have a2 : (15 : Int32).toInt = 15 := by decide
    omega⟩
  simp only [e]
theorem v_day (a : Int32) : mv_D_isDay a = mv_M_isDay a := rfl
theorem v_lev (a : Int32) : (mv_M_levelOf a = 0 ↔ mv_D_digits a = 0) ∧ (mv_M_levelOf a = 3 ↔ mv_D_digits a = 6) := by
  unfold mv_M_levelOf mv_D_digits mv_D_in
  simp only [Int32.lt_iff_toInt_lt, show (10 : Int32).toInt = 10 by decide, show (99 : Int32).toInt = 99 by decide, show (1000 : Int32).toInt = 1000 by decide, show (9999 : Int32).toInt = 9999 by decide, show (100000 : Int32).toInt = 100000 by decide, show (999999 : Int32).toInt = 999999 by decide]
  generalize a.toInt = x
  by_cases h1 : x < 10
  · have g3 : x < 1000 := by omega
    have g5 : x < 100000 := by omega
    simp [h1, g3, g5]
  · by_cases h2 : 99 < x
    · by_cases h3 : x < 1000
      · have g5 : x < 100000 := by omega
        simp [h1, h2, h3, g5]
      · by_cases h4 : 9999 < x
        · by_cases h5 : x < 100000
          · simp [h1, h2, h3, h4, h5]
          · by_cases h6 : 999999 < x
            · simp [h1, h2, h3, h4, h5, h6]
            · simp [h1, h2, h3, h4, h5, h6]
        · simp [h1, h2, h3, h4]
    · simp [h1, h2]
theorem v_rings (a b : Int32) : mv_D_rings (fun _ => 0) a b = if b = a then 1 else 0 := by
  unfold mv_D_rings
  rw [v_all0, v_z2]
  by_cases h : a = b
  · rw [if_pos h, if_pos h.symm]
  · rw [if_neg h, if_neg (show ¬ (0 &&& 1 : Int32) = 1 by decide), if_neg (fun q => h q.symm)]
theorem v_would (a b : Int32) : mv_G_wouldRing (fun _ => 0) a b = if b = a then 1 else 0 := by
  unfold mv_G_wouldRing
  rw [v_in0, v_bit0]
  by_cases h : b = a
  · rw [if_pos h, if_pos h]
  · rw [if_neg h, if_neg h]; rfl
theorem vk_ring (a b : Int32) : mt_D_ring (fun _ => 0) a b = mk_M_ring a b := by
  unfold mt_D_ring mk_M_ring; rw [v_grp, v_grp, ite_self]
theorem v_ring (a b : Int32) : mv_M_ring a b = mv_D_ring (fun _ => 0) a b := by
  unfold mv_M_ring mv_D_ring; rw [v_grp, v_grp, v_would, v_rings]
  by_cases h : b = a
  · simp only [if_pos h]; rfl
  · simp only [if_neg h]; rfl
theorem v_isin (a b : Int32) (hl : ¬ mv_M_isLand a = 0) (hg : ¬ mv_M_isGroup b = 0 ∨ b = 31) : mv_D_isIn (fun _ => 0) a b = mv_G_reaches (fun _ => 0) b a := by
  unfold mv_D_isIn mv_G_reaches
  rw [v_all0, v_in0, v_bit0, v_z2]
  by_cases h31 : b = 31
  · rw [if_pos h31, if_pos h31]
  · rw [if_neg h31, if_neg h31]
    have hg := hg.resolve_right h31
    have hne : ¬ b = a := by
      intro e
      subst e
      unfold mv_M_isLand at hl
      unfold mv_M_isGroup at hg
      by_cases h1 : b < 16
      · rw [if_pos h1] at hg; exact hg rfl
      · have h2 : (16 : Int32) ≤ b := Int32.not_lt.mp h1
        rw [if_pos h2, ite_self] at hl
        exact hl rfl
    rw [if_neg hne, v_grp, if_neg hg]; rfl
theorem vk_has (a b : Int32) : mt_D_has (fun _ => 0) a b = mk_M_has a b := by
  unfold mt_D_has mk_M_has; simp only [v_grp, v_land, ite_self]
theorem v_has (a b : Int32) : mv_M_has a b = mv_D_has (fun _ => 0) a b := by
  unfold mv_M_has mv_D_has; simp only [v_grp, v_land]
  have key : ∀ x : Int32, mr_b01 x → (if x = 0 then (0 : Int32) else 1) = x := fun x h => by
    rcases h with h | h <;> rw [h] <;> rfl
  by_cases hl : mv_M_isLand b = 0
  · simp only [if_pos hl]
  · by_cases hg : mv_M_isGroup a = 0
    · by_cases h31 : a = 31
      · simp only [if_pos hg, if_pos h31, if_neg hl]
        rw [v_isin b a hl (Or.inr h31), key _ (mv_G_reaches_b _ _ _)]
      · simp only [if_pos hg, if_neg h31]
    · simp only [if_neg hg, if_neg hl]
      rw [v_isin b a hl (Or.inl hg), key _ (mv_G_reaches_b _ _ _)]
theorem v_member (a b : Int32) : mv_M_member (fun _ => 0) (fun _ => 0) a b = mv_D_member (fun _ => 0) a b := by
  unfold mv_M_member mv_D_member mv_G_join
  simp only [v_grp, v_land, v_bit0, v_would, v_rings, v_z2]
  by_cases hg : mv_M_isGroup a = 0
  · simp only [if_pos hg]
  · simp only [if_neg hg]
    by_cases hl : mv_M_isLand b = 0
    · by_cases hb : mv_M_isGroup b = 0
      · simp only [if_pos hl, if_pos hb]
      · simp only [if_pos hl, if_neg hb]
        by_cases h : b = a
        · simp only [if_pos h]; rfl
        · simp only [if_neg h]; rfl
    · simp only [if_neg hl]
      by_cases hb : mv_M_isGroup b = 0
      · have hne : ¬ b = a := fun e => hg (e ▸ hb)
        simp only [if_pos hb, if_neg hne]; rfl
      · simp only [if_neg hb]
        by_cases h : b = a
        · simp only [if_pos h]; rfl
        · simp only [if_neg h]; rfl
theorem v_exclude (a b : Int32) : mv_M_exclude a b = mv_D_exclude0 a b := rfl
theorem v_condition (a b : Int32) : mv_M_condition a b = mv_D_condition0 a b := rfl
theorem vk_end (a b d : Int32) : mt_D_end0 a b d = mk_M_end a b d := rfl
theorem v_end (a b d : Int32) : mv_M_end a b d = mv_D_end0 a b d := rfl
theorem vk_look (a b : Int32) : mt_D_look0 a b = mk_M_look a b := rfl
theorem v_look (a b : Int32) : mv_M_look a b = mv_D_look0 a b := rfl
theorem v_at (a : Int32) : mv_M_at a = mv_D_at0 a := rfl
theorem vk_apply (a b c d : Int32) : mt_D_apply0 a b c d = mk_M_apply a b c d := by
  unfold mt_D_apply0 mk_M_apply; rw [v_land]
  by_cases h : mv_M_levelOf a = 3
  · rw [if_pos ((v_lev a).2.mp h), if_pos h] <;> try rfl
  · rw [if_neg (fun q => h ((v_lev a).2.mpr q)), if_neg h]
theorem v_apply (a b c d : Int32) : mv_M_apply a b c d = mv_D_apply0 a b c d := by
  unfold mv_M_apply mv_D_apply0; simp only [ite_self]
theorem vk_scan (a b c : Int32) : mt_D_scan0 a b c = mk_M_scan a b c := by
  unfold mt_D_scan0 mk_M_scan; rw [v_land]
  by_cases h : mv_M_levelOf a = 0
  · rw [if_pos ((v_lev a).1.mp h), if_pos h]
  · rw [if_neg (fun q => h ((v_lev a).1.mpr q)), if_neg h] <;> try rfl
theorem v_scan (a b c : Int32) : mv_M_scan a b c = mv_D_scan0 a b c := by
  unfold mv_M_scan mv_D_scan0; simp only [ite_self]
theorem vk_change (a b c : Int32) : mt_D_change0 a b c = mk_M_change a b c := rfl
theorem v_change (a b c : Int32) : mv_M_change a b c = mv_D_change0 a b c := rfl
theorem v_count (a : Int32) : mv_M_count a = mv_D_count0 (fun _ => 0) a := by
  unfold mv_M_count mv_D_count0 mv_G_landsIn
  rw [v_grp, v_in0, v_all0]
  have e : mv_I_bitCount (0 &&& 65535) = 0 := by decide +kernel
  have e2 : mv_D_bits (0 &&& 65535) = 0 := v_bt0 32
  rw [e, e2]
  rfl
theorem v_place (a : Int32) : mv_M_isPlace a = 0 ↔ mv_D_in a 0 23 = 0 ∧ ¬ a = 31 := by
  unfold mv_M_isPlace mv_M_isLand mv_M_isGroup mv_D_in
  have e31 : a = 31 ↔ a.toInt = 31 := ⟨fun h => by rw [h]; decide, fun h => Int32.toInt_inj.mp (by rw [h]; decide)⟩
  simp only [Int32.lt_iff_toInt_lt, Int32.le_iff_toInt_le, e31, show (0 : Int32).toInt = 0 by decide, show (16 : Int32).toInt = 16 by decide, show (24 : Int32).toInt = 24 by decide, show (23 : Int32).toInt = 23 by decide]
  generalize a.toInt = x
  by_cases h1 : x < 0
  · have g2 : x < 16 := by omega
    have g3 : ¬ x = 31 := by omega
    simp [h1, g2, g3]
  · by_cases h2 : x < 16
    · have g2 : ¬ 16 ≤ x := by omega
      have g3 : ¬ 23 < x := by omega
      simp [h1, h2, g2, g3]
    · have g2 : 16 ≤ x := by omega
      by_cases h3 : 24 ≤ x
      · have g3 : 23 < x := by omega
        by_cases h4 : x = 31
        · simp [h1, h2, g2, h3, g3, h4]
        · simp [h1, h2, g2, h3, g3, h4]
      · have g3 : ¬ 23 < x := by omega
        simp [h1, h2, g2, h3, g3]
theorem v_kind (a : Int32) (X : Int32) : (if a < 0 then 1 else if 8 ≤ a then 1 else X) = if mv_D_in a 0 7 = 0 then 1 else X := by
  unfold mv_D_in
  simp only [Int32.lt_iff_toInt_lt, Int32.le_iff_toInt_le, show (0 : Int32).toInt = 0 by decide, show (8 : Int32).toInt = 8 by decide, show (7 : Int32).toInt = 7 by decide]
  generalize a.toInt = x
  by_cases h1 : x < 0
  · simp [h1]
  · by_cases h2 : 8 ≤ x
    · have g : 7 < x := by omega
      simp [h1, h2, g]
    · have g : ¬ 7 < x := by omega
      simp [h1, h2, g]
theorem v_rank (a : Int32) : (if a < 0 then (1 : Int32) else if a < 10 then 0 else 1) = if mv_D_in a 0 9 = 0 then 1 else 0 := by
  unfold mv_D_in
  simp only [Int32.lt_iff_toInt_lt, show (0 : Int32).toInt = 0 by decide, show (10 : Int32).toInt = 10 by decide, show (9 : Int32).toInt = 9 by decide]
  generalize a.toInt = x
  by_cases h1 : x < 0
  · simp [h1]
  · by_cases h2 : x < 10
    · have g : ¬ 9 < x := by omega
      simp [h1, h2, g]
    · have g : 9 < x := by omega
      simp [h1, h2, g]
theorem v_last (a : Int32) : mv_M_isLastDay a = 0 ↔ mv_D_isDay a = 0 ∧ ¬ a = 20000 := by
  unfold mv_M_isLastDay
  rw [← v_day]
  by_cases h1 : mv_D_isDay a = 0
  · by_cases h2 : a = 20000 <;> simp [h1, h2]
  · simp [h1]
theorem vk_row (a0 a1 a2 a3 a4 a5 a6 : Int32) : mt_D_row0 a0 a1 a2 a3 a4 a5 a6 = mk_M_row0 a0 a1 a2 a3 a4 a5 a6 := by
  unfold mt_D_row0 mk_M_row0
  simp only [v_kind, v_rank, (v_lev a0).1, v_place, v_last, ← v_day]
  have e7 : a2 ≤ a3 ↔ ¬ a3 < a2 := Int32.not_lt.symm
  simp only [e7]
  by_cases d1 : mv_D_digits a0 = 0
  · simp [d1]
  by_cases d4 : mv_D_isDay a2 = 0
  · simp [d1, d4]
  by_cases d10 : mv_D_isDay a6 = 0
  · simp [d1, d4, d10]
  by_cases d7 : a3 < a2
  · simp [d1, d4, d10, d7]
  by_cases d8 : mv_D_in a4 0 7 = 0
  · simp [d1, d4, d10, d7, d8]
  by_cases d9 : mv_D_in a5 0 9 = 0
  · simp [d1, d4, d10, d7, d8, d9]
  by_cases d6 : a3 = 20000
  · subst d6
    by_cases d2 : mv_D_in a1 0 23 = 0 <;> by_cases d3 : a1 = 31 <;> by_cases d5 : mv_D_isDay 20000 = 0 <;> simp [d1, d4, d10, d7, d8, d9, d2, d3, d5]
  · by_cases d2 : mv_D_in a1 0 23 = 0 <;> by_cases d3 : a1 = 31 <;> by_cases d5 : mv_D_isDay a3 = 0 <;> simp [d1, d4, d10, d7, d8, d9, d2, d3, d5, d6]
theorem v_row1 (a0 a1 a2 a3 a4 a5 a6 : Int32) : mv_D_row0 a0 a1 a2 a3 a4 a5 a6 = 1 - mt_D_row0 a0 a1 a2 a3 a4 a5 a6 := by
  unfold mv_D_row0 mt_D_row0
  repeat' split
  all_goals rfl
theorem v_row (a0 a1 a2 a3 a4 a5 a6 : Int32) (h : mk_M_row0 a0 a1 a2 a3 a4 a5 a6 = 0) : 1 = mv_D_row0 a0 a1 a2 a3 a4 a5 a6 := by
  rw [v_row1, vk_row, h]; rfl
theorem v_b1 {v w : Int32} (h : v = w) (c : ¬ w = 0) : lg_cmp (if v = 0 then (0 : Int64) else 1) 1 = 0 := by
  rw [if_neg (by rw [h]; exact c), lg_cmp_eq]
theorem v_b0 {v w : Int32} (h : v = w) (c : w = 0) : lg_cmp (if v = 0 then (0 : Int64) else 1) 0 = 0 := by
  rw [if_pos (by rw [h]; exact c), lg_cmp_eq]
theorem v_li {v w : Int32} (h : v = w) : lg_cmp v.toInt64 w.toInt64 = 0 := by
  rw [h, lg_cmp_eq]
theorem v_len {L : Nat} (h : L < 8) : Int32.ofNat L - 8 < 0 := by
  have e : L = 0 ∨ L = 1 ∨ L = 2 ∨ L = 3 ∨ L = 4 ∨ L = 5 ∨ L = 6 ∨ L = 7 := by omega
  rcases e with rfl | rfl | rfl | rfl | rfl | rfl | rfl | rfl <;> decide

/-! ### which rows are of a code, a land, a day: both sides say the same (by hand) -/
theorem v_dig {c : Int32} (h : ¬ mv_D_digits c = 0) : 10 ≤ c.toInt ∧ c.toInt ≤ 999999 := by
  unfold mv_D_digits mv_D_in at h
  simp only [Int32.lt_iff_toInt_lt, show (10 : Int32).toInt = 10 by decide, show (99 : Int32).toInt = 99 by decide, show (1000 : Int32).toInt = 1000 by decide, show (9999 : Int32).toInt = 9999 by decide, show (100000 : Int32).toInt = 100000 by decide, show (999999 : Int32).toInt = 999999 by decide] at h
  generalize c.toInt = x at h ⊢
  by_cases h1 : x < 10
  · have g3 : x < 1000 := by omega
    have g5 : x < 100000 := by omega
    simp [h1, g3, g5] at h
  · by_cases h6 : 999999 < x
    · have g2 : 99 < x := by omega
      have g4 : 9999 < x := by omega
      simp [h1, g2, g4, h6] at h
    · omega
theorem v_under {c a : Int32} (hc : ¬ mv_D_digits c = 0) (ha : ¬ mv_D_digits a = 0) : mv_D_isUnder c a = mv_M_isUnder c a := by
  obtain ⟨c1, c2⟩ := v_dig hc
  obtain ⟨a1, a2⟩ := v_dig ha
  have z100 : (100 : Int32).toInt = 100 := by decide
  have z10000 : (10000 : Int32).toInt = 10000 := by decide
  have d1 : (c / 100).toInt = c.toInt / 100 := by rw [lg_idiv_nonneg (by omega) (by omega), z100]
  have d2 : (c / 100 / 100).toInt = c.toInt / 100 / 100 := by rw [lg_idiv_nonneg (by omega) (by omega), d1, z100]
  have d3 : (c / 100 / 100 / 100).toInt = c.toInt / 100 / 100 / 100 := by rw [lg_idiv_nonneg (by omega) (by omega), d2, z100]
  have d4 : (c / 10000).toInt = c.toInt / 10000 := by rw [lg_idiv_nonneg (by omega) (by omega), z10000]
  have e : ∀ p q : Int32, p = q ↔ p.toInt = q.toInt := fun p q => ⟨fun h => by rw [h], fun h => Int32.toInt_inj.mp h⟩
  obtain ⟨k, hk⟩ : ∃ k, c.toNatClampNeg = k + 4 := ⟨c.toNatClampNeg - 4, by
    have : c.toNatClampNeg = c.toInt.toNat := rfl
    omega⟩
  unfold mv_D_isUnder mv_M_isUnder
  rw [hk]
  by_cases l0 : c ≤ a
  · rw [mv_iuf_y _ l0]
    rw [Int32.le_iff_toInt_le] at l0
    have n1 : ¬ c / 100 = a := by rw [e, d1]; omega
    have n2 : ¬ c / 10000 = a := by rw [e, d4]; omega
    simp only [if_neg n1, if_neg n2]
  · rw [mv_iuf_n l0]
    rw [Int32.le_iff_toInt_le] at l0
    have n0 : ¬ c = a := by rw [e]; omega
    by_cases l1 : c / 100 ≤ a
    · rw [mv_iuf_y _ l1]
      rw [Int32.le_iff_toInt_le, d1] at l1
      have n2 : ¬ c / 10000 = a := by rw [e, d4]; omega
      simp only [if_neg n0, if_neg n2]
    · rw [mv_iuf_n l1]
      rw [Int32.le_iff_toInt_le, d1] at l1
      have n1 : ¬ c / 100 = a := by rw [e, d1]; omega
      have e2 : c / 100 / 100 = c / 10000 := by rw [e, d2, d4]; omega
      by_cases l2 : c / 100 / 100 ≤ a
      · rw [mv_iuf_y _ l2, e2]
        simp only [if_neg n0, if_neg n1]
      · rw [mv_iuf_n l2]
        rw [Int32.le_iff_toInt_le, d2] at l2
        have l3 : c / 100 / 100 / 100 ≤ a := by rw [Int32.le_iff_toInt_le, d3]; omega
        rw [mv_iuf_y _ l3]
        have n2 : ¬ c / 10000 = a := by rw [e, d4]; omega
        have n3 : ¬ c / 100 / 100 / 100 = a := by rw [e, d3]; omega
        simp only [if_neg n0, if_neg n1, if_neg n2, if_neg n3]
section ISOF
variable {n i : Nat} {nw c l d on : Int32} {fm fi fco fla ffi fki fra fkn fls cls fe fa fk : Nat → Int32}
theorem v_isIn (hT : mr_tie fm fi) (hl : ¬ mv_M_isLand l = 0) (g : Int32) : mv_D_isIn fm l g = 0 ↔ (¬ g = l ∧ mv_G_reaches fi g l = 0) := by
  by_cases hg : ¬ mv_M_isGroup g = 0 ∨ g = 31
  · rw [v_isin hT hl hg]
    constructor
    · intro h
      refine ⟨fun e => ?_, h⟩
      subst e
      rcases hg with q | q
      · exact q (v_lg hl)
      · subst q; exact hl (by decide)
    · exact fun h => h.2
  · have g1 : mv_M_isGroup g = 0 := Classical.byContradiction fun q => hg (Or.inl q)
    have g2 : ¬ g = 31 := fun q => hg (Or.inr q)
    have hr : mv_G_reaches fi g l = 0 := by
      unfold mv_G_reaches
      rw [if_neg g2]
      have : mv_G_insideOf fi g = 0 := by unfold mv_G_insideOf; rw [if_pos g1]
      rw [this]
      obtain ⟨k, hk, rfl⟩ := bq_la hl
      rw [if_pos ((bq_hb (show k < 32 by omega) 0).mpr (b_0 k))]
    unfold mv_D_isIn
    rw [if_neg g2, v_grp, g1]
    by_cases e : g = l
    · rw [if_pos e]
      exact ⟨fun h => absurd h (by decide), fun h => absurd e h.1⟩
    · rw [if_neg e, if_pos rfl]
      exact ⟨fun _ => ⟨e, hr⟩, fun _ => rfl⟩
theorem v_isOf (hN : mr_NX n nw fco fki fra fkn fe fk) (hT : mr_tie fm fi) (hLs : mr_LS n fls cls) (h1 : 1 ≤ i) (hi : i ≤ n) (hc : ¬ mv_D_digits c = 0) (hl : ¬ mv_M_isLand l = 0) :
    mv_D_isOf fm fco fla ffi fkn fls fe fa fk i c l d on = 0 ↔ mv_gP fkn fco fla ffi fe fa fk fi cls i c l d on = 0 := by
  unfold mv_D_isOf mv_gP
  by_cases c1 : on < fkn i
  · rw [if_pos c1, if_pos c1]
  rw [if_neg c1, if_neg c1, v_under hc (hN.2 i h1 hi).2.2.1]
  by_cases c2 : mv_M_isUnder c (fco i) = 0
  · rw [if_pos c2, if_pos c2]
  rw [if_neg c2, if_neg c2]
  have hin := v_isIn hT hl (fla i)
  obtain ⟨k, hk, rfl⟩ := bq_la hl
  have e := (hLs.1 i h1 hi).1
  have hb : ((fls i >>> (nI k &&& 31)) &&& 1) = 0 ↔ mv_R_leavesOut (cls i) (nI k) = 0 := by
    unfold mv_R_leavesOut
    rw [← e, bq_hb (show k < 32 by omega), bq_and01]
    have q : bt (fls i >>> (nI k &&& 31)) 0 = bt (fls i) k := by
      rw [b_sshr k (by omega) _ (i := 0) (by omega), if_pos (by omega)]
      rfl
    rw [q]
    cases bt (fls i) k <;> simp
  by_cases c3 : mv_D_isIn fm (nI k) (fla i) = 0
  · obtain ⟨p1, p2⟩ := hin.mp c3
    have : mv_M_isOfLand fi (fla i) (cls i) (nI k) = 0 := by unfold mv_M_isOfLand; rw [if_neg p1, if_pos p2]
    rw [if_pos c3, if_pos this]
  · rw [if_neg c3]
    have ho : mv_M_isOfLand fi (fla i) (cls i) (nI k) = if mv_R_leavesOut (cls i) (nI k) = 0 then 1 else 0 := by
      unfold mv_M_isOfLand
      by_cases p1 : fla i = nI k
      · rw [if_pos p1]
      · rw [if_neg p1, if_neg (fun p2 => c3 (hin.mpr ⟨p1, p2⟩))]
    rw [ho]
    by_cases c4 : ((fls i >>> (nI k &&& 31)) &&& 1) = 0
    · rw [if_pos c4, if_pos (hb.mp c4), if_neg (show ¬ (1 : Int32) = 0 by decide)]
      by_cases c5 : mv_D_lasts ffi fe fa fk i d on = 0
      · rw [if_pos c5]; exact ⟨fun _ => c5, fun _ => rfl⟩
      · rw [if_neg c5]; exact ⟨fun h => absurd h (by decide), fun h => absurd h c5⟩
    · rw [if_neg c4, if_neg (fun h => c4 (hb.mpr h)), if_pos rfl]
theorem vk_scan (a0 a1 a2 : Int32) : mt_D_scan a0 a1 a2 = mk_M_scan a0 a1 a2 := by
  unfold mt_D_scan mk_M_scan
  by_cases c1 : mv_D_digits a0 = 0
  · rw [if_pos c1, if_pos ((v_lev a0).1.mpr c1)]
  · rw [if_neg c1, if_neg (fun q => c1 ((v_lev a0).1.mp q)), v_land]
    rfl
theorem v_scanOK {a0 a1 a2 : Int32} (h : mk_M_scan a0 a1 a2 = 0) : ¬ mv_D_digits a0 = 0 ∧ ¬ mv_M_isLand a1 = 0 := by
  unfold mk_M_scan at h
  by_cases c1 : mv_M_levelOf a0 = 0
  · rw [if_pos c1] at h; exact absurd h (by decide)
  rw [if_neg c1] at h
  by_cases c2 : mv_M_isLand a1 = 0
  · rw [if_pos c2] at h; exact absurd h (by decide)
  exact ⟨fun q => c1 ((v_lev a0).1.mpr q), c2⟩
theorem v_scanV (hN : mr_NX n nw fco fki fra fkn fe fk) (hT : mr_tie fm fi) (hLs : mr_LS n fls cls) {a0 a1 a2 : Int32} (h : mk_M_scan a0 a1 a2 = 0) : nI (mr_cnt (fun j => mv_gP fkn fco fla ffi fe fa fk fi cls (j + 1) a0 a1 a2 nw) n) = mv_D_scan n nw fm fco fla ffi fkn fls fe fa fk a0 a1 a2 := by
  obtain ⟨h1, h2⟩ := v_scanOK h
  have ht : mt_D_scan a0 a1 a2 = 0 := by rw [vk_scan]; exact h
  unfold mv_D_scan
  rw [if_pos ht, mr_cnt_congr0 (fun j hj => (v_isOf (i := j + 1) hN hT hLs (by omega) (by omega) h1 h2).symm)]
end ISOF



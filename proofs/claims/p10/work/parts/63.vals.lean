/-! ring, has, member: what both answer, throw and keep -/
theorem v_01 {x : Int32} (h : mr_b01 x) : (if x = 0 then (0 : Int32) else 1) = x := by
  rcases h with h | h <;> rw [h] <;> rfl
theorem v_ring {fm fi : Nat → Int32} (h : mr_tie fm fi) (a b : Int32) : mv_M_ring fi a b = mv_D_ring fm a b := by
  unfold mv_M_ring mv_D_ring; simp only [v_grp]
  by_cases ha : mv_M_isGroup a = 0
  · simp only [if_pos ha]
  · by_cases hb : mv_M_isGroup b = 0
    · simp only [if_neg ha, if_pos hb]
    · simp only [if_neg ha, if_neg hb]
      rw [← v_would h ha hb, v_01 (mv_G_wouldRing_b _ _ _)]
theorem vk_ring (fm fi : Nat → Int32) (a b : Int32) : mt_D_ring fm a b = mk_M_ring fi a b := by
  unfold mt_D_ring mk_M_ring; simp only [v_grp, ite_self]
theorem vk_has (fm fi : Nat → Int32) (a b : Int32) : mt_D_has fm a b = mk_M_has fi a b := by
  unfold mt_D_has mk_M_has; simp only [v_grp, v_land, ite_self]
theorem v_has {fm fi : Nat → Int32} (h : mr_tie fm fi) (a b : Int32) : mv_M_has fi a b = mv_D_has fm a b := by
  unfold mv_M_has mv_D_has; simp only [v_grp, v_land]
  by_cases hl : mv_M_isLand b = 0
  · simp only [if_pos hl]
  · by_cases hg : mv_M_isGroup a = 0
    · by_cases h31 : a = 31
      · simp only [if_pos hg, if_pos h31, if_neg hl]
        rw [v_isin h hl (Or.inr h31), v_01 (mv_G_reaches_b _ _ _)]
      · simp only [if_pos hg, if_neg h31]
    · simp only [if_neg hg, if_neg hl]
      rw [v_isin h hl (Or.inl hg), v_01 (mv_G_reaches_b _ _ _)]
theorem v_lg {b : Int32} (hl : ¬ mv_M_isLand b = 0) : mv_M_isGroup b = 0 := by
  obtain ⟨n, hn, e⟩ := bq_la hl
  rw [e]
  exact (by decide +kernel : ∀ n, n < 16 → mv_M_isGroup (nI n) = 0) n hn
theorem v_wl (fi : Nat → Int32) {a b : Int32} (ha : ¬ mv_M_isGroup a = 0) (hl : ¬ mv_M_isLand b = 0) : mv_G_wouldRing fi a b = 0 := by
  have hb := v_lg hl
  unfold mv_G_wouldRing mv_G_insideOf
  have hne : ¬ b = a := fun e => ha (by rw [← e]; exact hb)
  rw [if_neg hne, if_pos hb]
  obtain ⟨g, hg, ea, -⟩ := bq_g ha
  rw [if_pos (by rw [ea]; exact (bq_hb (by omega) 0).mpr (b_0 _))]
theorem v_mem {fm fi : Nat → Int32} (h : mr_tie fm fi) (a b : Int32) : mv_M_member fm fi a b = mv_D_member fm a b ∧ mv_M_memM fm fi a b = mv_D_memM fm a b := by
  unfold mv_M_member mv_D_member mv_M_memM mv_D_memM
  simp only [v_grp, v_land]
  by_cases ha : mv_M_isGroup a = 0
  · simp only [if_pos ha]; exact ⟨trivial, trivial⟩
  · simp only [if_neg ha]
    have hbit : ∀ n, n < 32 → b = nI n → ((((fm (a - 16).toNatClampNeg) >>> (b &&& 31)) &&& 1) = 1 ↔ ¬ mv_M_hasBit (fm (a - 16).toNatClampNeg) b = 0) := fun n hn e => by
      rw [e]; exact v_bit hn _
    by_cases hl : mv_M_isLand b = 0
    · simp only [if_pos hl]
      by_cases hb : mv_M_isGroup b = 0
      · simp only [if_pos hb]; exact ⟨trivial, trivial⟩
      · simp only [if_neg hb]
        obtain ⟨m, hm, eb, -⟩ := bq_g hb
        have hbit := hbit _ (by omega) eb
        unfold mv_G_joinM mv_G_join
        simp only [if_neg ha]
        rw [v_would h ha hb]
        by_cases w : mv_M_hasBit (fm (a - 16).toNatClampNeg) b = 0
        · simp only [if_pos w, if_neg (fun q => hbit.mp q w)]
          by_cases q : mv_D_rings fm a b = 0
          · simp only [if_pos q]; exact ⟨trivial, if_neg (by decide)⟩
          · simp only [if_neg q]; exact ⟨trivial, if_pos trivial⟩
        · simp only [if_neg w, if_pos (hbit.mpr w)]; exact ⟨trivial, if_pos trivial⟩
    · simp only [if_neg hl]
      obtain ⟨m, hm, eb⟩ := bq_la hl
      have hbit := hbit _ (by omega) eb
      have hb := v_lg hl
      simp only [if_pos hb]
      unfold mv_G_joinM mv_G_join
      simp only [if_neg ha]
      rw [v_wl fi ha hl]
      by_cases w : mv_M_hasBit (fm (a - 16).toNatClampNeg) b = 0
      · simp only [if_pos w, if_neg (fun q => hbit.mp q w)]; exact ⟨if_pos trivial, if_neg (by decide)⟩
      · simp only [if_neg w, if_pos (hbit.mpr w)]; exact ⟨trivial, if_pos trivial⟩
theorem v_al0 (k : Nat) : mv_al (fun _ => 0) 0 k = 0 := by
  induction k with
  | zero => rfl
  | succ k ih => rw [mv_al_s, ih, Int32.zero_shiftRight]; rfl
theorem v_alr0 (k : Nat) : mv_alr (fun _ => 0) 0 k = 0 := by
  induction k with
  | zero => rfl
  | succ k ih => rw [mv_alr_s, ih, v_al0]
theorem mr_tie0 : mr_tie (fun _ => 0) (fun _ => 0) := fun _ _ => (v_alr0 8).symm

/-! ### which rows are of a code, a land, a day: both sides say the same (by hand) -/
theorem v_dig {c : Int32} (h : ¬ mv_D_digits c = 0) : 10 ≤ c.toInt ∧ c.toInt ≤ 999999 := by
  unfold mv_D_digits mv_D_in at h
  simp only [Int32.lt_iff_toInt_lt, show (10 : Int32).toInt = 10 by decide, show (99 : Int32).toInt = 99 by decide, show (1000 : Int32).toInt = 1000 by decide, show (9999 : Int32).toInt = 9999 by decide, show (100000 : Int32).toInt = 100000 by decide, show (999999 : Int32).toInt = 999999 by decide] at h
  generalize c.toInt = x at h ⊢
  by_cases h1 : x < 10
  · have g3 : x < 1000 := by omega
    have g5 : x < 100000 := by omega
    simp [h1, g3, g5] at h
  · by_cases h6 : 999999 < x
    · have g2 : 99 < x := by omega
      have g4 : 9999 < x := by omega
      simp [h1, g2, g4, h6] at h
    · omega
theorem v_under {c a : Int32} (hc : ¬ mv_D_digits c = 0) (ha : ¬ mv_D_digits a = 0) : mv_D_isUnder c a = mv_M_isUnder c a := by
  obtain ⟨c1, c2⟩ := v_dig hc
  obtain ⟨a1, a2⟩ := v_dig ha
  have z100 : (100 : Int32).toInt = 100 := by decide
  have z10000 : (10000 : Int32).toInt = 10000 := by decide
  have d1 : (c / 100).toInt = c.toInt / 100 := by rw [lg_idiv_nonneg (by omega) (by omega), z100]
  have d2 : (c / 100 / 100).toInt = c.toInt / 100 / 100 := by rw [lg_idiv_nonneg (by omega) (by omega), d1, z100]
  have d3 : (c / 100 / 100 / 100).toInt = c.toInt / 100 / 100 / 100 := by rw [lg_idiv_nonneg (by omega) (by omega), d2, z100]
  have d4 : (c / 10000).toInt = c.toInt / 10000 := by rw [lg_idiv_nonneg (by omega) (by omega), z10000]
  have e : ∀ p q : Int32, p = q ↔ p.toInt = q.toInt := fun p q => ⟨fun h => by rw [h], fun h => Int32.toInt_inj.mp h⟩
  obtain ⟨k, hk⟩ : ∃ k, c.toNatClampNeg = k + 4 := ⟨c.toNatClampNeg - 4, by
    have : c.toNatClampNeg = c.toInt.toNat := rfl
    omega⟩
  unfold mv_D_isUnder mv_M_isUnder
  rw [hk]
  by_cases l0 : c ≤ a
  · rw [mv_iuf_y _ l0]
    rw [Int32.le_iff_toInt_le] at l0
    have n1 : ¬ c / 100 = a := by rw [e, d1]; omega
    have n2 : ¬ c / 10000 = a := by rw [e, d4]; omega
    simp only [if_neg n1, if_neg n2]
  · rw [mv_iuf_n l0]
    rw [Int32.le_iff_toInt_le] at l0
    have n0 : ¬ c = a := by rw [e]; omega
    by_cases l1 : c / 100 ≤ a
    · rw [mv_iuf_y _ l1]
      rw [Int32.le_iff_toInt_le, d1] at l1
      have n2 : ¬ c / 10000 = a := by rw [e, d4]; omega
      simp only [if_neg n0, if_neg n2]
    · rw [mv_iuf_n l1]
      rw [Int32.le_iff_toInt_le, d1] at l1
      have n1 : ¬ c / 100 = a := by rw [e, d1]; omega
      have e2 : c / 100 / 100 = c / 10000 := by rw [e, d2, d4]; omega
      by_cases l2 : c / 100 / 100 ≤ a
      · rw [mv_iuf_y _ l2, e2]
        simp only [if_neg n0, if_neg n1]
      · rw [mv_iuf_n l2]
        rw [Int32.le_iff_toInt_le, d2] at l2
        have l3 : c / 100 / 100 / 100 ≤ a := by rw [Int32.le_iff_toInt_le, d3]; omega
        rw [mv_iuf_y _ l3]
        have n2 : ¬ c / 10000 = a := by rw [e, d4]; omega
        have n3 : ¬ c / 100 / 100 / 100 = a := by rw [e, d3]; omega
        simp only [if_neg n0, if_neg n1, if_neg n2, if_neg n3]
section ISOF
variable {n i : Nat} {nw c l d on : Int32} {fm fi fco fla ffi fki fra fkn fls cls fe fa fk : Nat → Int32}
theorem v_isIn (hT : mr_tie fm fi) (hl : ¬ mv_M_isLand l = 0) (g : Int32) : mv_D_isIn fm l g = 0 ↔ (¬ g = l ∧ mv_G_reaches fi g l = 0) := by
  by_cases hg : ¬ mv_M_isGroup g = 0 ∨ g = 31
  · rw [v_isin hT hl hg]
    constructor
    · intro h
      refine ⟨fun e => ?_, h⟩
      subst e
      rcases hg with q | q
      · exact q (v_lg hl)
      · subst q; exact hl (by decide)
    · exact fun h => h.2
  · have g1 : mv_M_isGroup g = 0 := Classical.byContradiction fun q => hg (Or.inl q)
    have g2 : ¬ g = 31 := fun q => hg (Or.inr q)
    have hr : mv_G_reaches fi g l = 0 := by
      unfold mv_G_reaches
      rw [if_neg g2]
      have : mv_G_insideOf fi g = 0 := by unfold mv_G_insideOf; rw [if_pos g1]
      rw [this]
      obtain ⟨k, hk, rfl⟩ := bq_la hl
      rw [if_pos ((bq_hb (show k < 32 by omega) 0).mpr (b_0 k))]
    unfold mv_D_isIn
    rw [if_neg g2, v_grp, g1]
    by_cases e : g = l
    · rw [if_pos e]
      exact ⟨fun h => absurd h (by decide), fun h => absurd e h.1⟩
    · rw [if_neg e, if_pos rfl]
      exact ⟨fun _ => ⟨e, hr⟩, fun _ => rfl⟩
theorem v_isOf (hN : mr_NX n nw fco fki fra fkn fe fk) (hT : mr_tie fm fi) (hLs : mr_LS n fls cls) (h1 : 1 ≤ i) (hi : i ≤ n) (hc : ¬ mv_D_digits c = 0) (hl : ¬ mv_M_isLand l = 0) :
    mv_D_isOf fm fco fla ffi fkn fls fe fa fk i c l d on = 0 ↔ mv_gP fkn fco fla ffi fe fa fk fi cls i c l d on = 0 := by
  unfold mv_D_isOf mv_gP
  by_cases c1 : on < fkn i
  · rw [if_pos c1, if_pos c1]
  rw [if_neg c1, if_neg c1, v_under hc (hN.2 i h1 hi).2.2.1]
  by_cases c2 : mv_M_isUnder c (fco i) = 0
  · rw [if_pos c2, if_pos c2]
  rw [if_neg c2, if_neg c2]
  have hin := v_isIn hT hl (fla i)
  obtain ⟨k, hk, rfl⟩ := bq_la hl
  have e := (hLs.1 i h1 hi).1
  have hb : ((fls i >>> (nI k &&& 31)) &&& 1) = 0 ↔ mv_R_leavesOut (cls i) (nI k) = 0 := by
    unfold mv_R_leavesOut
    rw [← e, bq_hb (show k < 32 by omega), bq_and01]
    have q : bt (fls i >>> (nI k &&& 31)) 0 = bt (fls i) k := by
      rw [b_sshr k (by omega) _ (i := 0) (by omega), if_pos (by omega)]
      rfl
    rw [q]
    cases bt (fls i) k <;> simp
  by_cases c3 : mv_D_isIn fm (nI k) (fla i) = 0
  · obtain ⟨p1, p2⟩ := hin.mp c3
    have : mv_M_isOfLand fi (fla i) (cls i) (nI k) = 0 := by unfold mv_M_isOfLand; rw [if_neg p1, if_pos p2]
    rw [if_pos c3, if_pos this]
  · rw [if_neg c3]
    have ho : mv_M_isOfLand fi (fla i) (cls i) (nI k) = if mv_R_leavesOut (cls i) (nI k) = 0 then 1 else 0 := by
      unfold mv_M_isOfLand
      by_cases p1 : fla i = nI k
      · rw [if_pos p1]
      · rw [if_neg p1, if_neg (fun p2 => c3 (hin.mpr ⟨p1, p2⟩))]
    rw [ho]
    by_cases c4 : ((fls i >>> (nI k &&& 31)) &&& 1) = 0
    · rw [if_pos c4, if_pos (hb.mp c4), if_neg (show ¬ (1 : Int32) = 0 by decide)]
      by_cases c5 : mv_D_lasts ffi fe fa fk i d on = 0
      · rw [if_pos c5]; exact ⟨fun _ => c5, fun _ => rfl⟩
      · rw [if_neg c5]; exact ⟨fun h => absurd h (by decide), fun h => absurd h c5⟩
    · rw [if_neg c4, if_neg (fun h => c4 (hb.mpr h)), if_pos rfl]
theorem vk_scan (a0 a1 a2 : Int32) : mt_D_scan a0 a1 a2 = mk_M_scan a0 a1 a2 := by
  unfold mt_D_scan mk_M_scan
  by_cases c1 : mv_D_digits a0 = 0
  · rw [if_pos c1, if_pos ((v_lev a0).1.mpr c1)]
  · rw [if_neg c1, if_neg (fun q => c1 ((v_lev a0).1.mp q)), v_land]
    rfl
theorem v_scanOK {a0 a1 a2 : Int32} (h : mk_M_scan a0 a1 a2 = 0) : ¬ mv_D_digits a0 = 0 ∧ ¬ mv_M_isLand a1 = 0 := by
  unfold mk_M_scan at h
  by_cases c1 : mv_M_levelOf a0 = 0
  · rw [if_pos c1] at h; exact absurd h (by decide)
  rw [if_neg c1] at h
  by_cases c2 : mv_M_isLand a1 = 0
  · rw [if_pos c2] at h; exact absurd h (by decide)
  exact ⟨fun q => c1 ((v_lev a0).1.mpr q), c2⟩
theorem v_scanV (hN : mr_NX n nw fco fki fra fkn fe fk) (hT : mr_tie fm fi) (hLs : mr_LS n fls cls) {a0 a1 a2 : Int32} (h : mk_M_scan a0 a1 a2 = 0) : nI (mr_cnt (fun j => mv_gP fkn fco fla ffi fe fa fk fi cls (j + 1) a0 a1 a2 nw) n) = mv_D_scan n nw fm fco fla ffi fkn fls fe fa fk a0 a1 a2 := by
  obtain ⟨h1, h2⟩ := v_scanOK h
  have ht : mt_D_scan a0 a1 a2 = 0 := by rw [vk_scan]; exact h
  unfold mv_D_scan
  rw [if_pos ht, mr_cnt_congr0 (fun j hj => (v_isOf (i := j + 1) hN hT hLs (by omega) (by omega) h1 h2).symm)]
end ISOF
/-! ### apply: both sides list as many (by hand) -/
theorem v_levdig {c : Int32} (h : ¬ mv_D_digits c = 0) : (mv_M_levelOf c = 1 ∧ mv_D_digits c = 2) ∨ (mv_M_levelOf c = 2 ∧ mv_D_digits c = 4) ∨ (mv_M_levelOf c = 3 ∧ mv_D_digits c = 6) := by
  unfold mv_M_levelOf mv_D_digits mv_D_in at *
  simp only [Int32.lt_iff_toInt_lt, show (10 : Int32).toInt = 10 by decide, show (99 : Int32).toInt = 99 by decide, show (1000 : Int32).toInt = 1000 by decide, show (9999 : Int32).toInt = 9999 by decide, show (100000 : Int32).toInt = 100000 by decide, show (999999 : Int32).toInt = 999999 by decide] at *
  generalize c.toInt = x at *
  by_cases h1 : x < 10
  · have g3 : x < 1000 := by omega
    have g5 : x < 100000 := by omega
    simp [h1, g3, g5] at h
  · by_cases h2 : 99 < x
    · by_cases h3 : x < 1000
      · have g5 : x < 100000 := by omega
        simp [h1, h2, h3, g5] at h
      · by_cases h4 : 9999 < x
        · by_cases h5 : x < 100000
          · simp [h1, h2, h3, h4, h5] at h
          · by_cases h6 : 999999 < x
            · simp [h1, h2, h3, h4, h5, h6] at h
            · simp [h1, h2, h3, h4, h5, h6]
        · simp [h1, h2, h3, h4]
    · simp [h1, h2]
theorem v_wt {c r : Int32} (h : ¬ mv_D_digits c = 0) (h0 : ¬ r < 0) (h9 : ¬ 9 < r) : (mv_R_weight c r).toInt = (mv_D_digits c).toInt * 5 + r.toInt := by
  have z0 : (0 : Int32).toInt = 0 := by decide
  have z9 : (9 : Int32).toInt = 9 := by decide
  rw [Int32.lt_iff_toInt_lt] at h0 h9
  have key : ∀ b : Int32, 0 ≤ b.toInt → b.toInt ≤ 100 → (b + r).toInt = b.toInt + r.toInt := fun b b0 b1 => by
    rw [Int32.toInt_add]
    exact Int.bmod_eq_of_le (by omega) (by omega)
  unfold mv_R_weight
  rcases v_levdig h with ⟨e1, e2⟩ | ⟨e1, e2⟩ | ⟨e1, e2⟩
  · rw [e1, e2, show (1 : Int32) * 10 = 10 by decide, key 10 (by decide) (by decide)]
    rfl
  · rw [e1, e2, show (2 : Int32) * 10 = 20 by decide, key 20 (by decide) (by decide)]
    rfl
  · rw [e1, e2, show (3 : Int32) * 10 = 30 by decide, key 30 (by decide) (by decide)]
    rfl
theorem v_dgc {c : Int32} (h : ¬ mv_D_digits c = 0) : (mv_D_digits c).toInt = 2 ∨ (mv_D_digits c).toInt = 4 ∨ (mv_D_digits c).toInt = 6 := by
  rcases v_levdig h with ⟨-, e⟩ | ⟨-, e⟩ | ⟨-, e⟩ <;> rw [e]
  · exact Or.inl (by decide)
  · exact Or.inr (Or.inl (by decide))
  · exact Or.inr (Or.inr (by decide))
section APT
variable {n m x : Nat} {nw pb : Int32} {fm fi fco fla ffi fki fra fkn fls fpa cls cpa fe fa fk : Nat → Int32}
theorem v_beats (hN : mr_NX n nw fco fki fra fkn fe fk) (hx : x < n) (hm : m < n) : ¬ mv_D_beats fco fki fra (x + 1) (m + 1) = 0 ↔ (mr_kd fki x = mr_kd fki m ∧ mr_ww fco fra m < mr_ww fco fra x) := by
  obtain ⟨-, ⟨kx, ekx, kx8⟩, dx, ⟨rx0, rx9⟩, -⟩ := hN.2 (x + 1) (by omega) (by omega)
  obtain ⟨-, ⟨km, ekm, km8⟩, dm, ⟨rm0, rm9⟩, -⟩ := hN.2 (m + 1) (by omega) (by omega)
  have hk : mr_kd fki x = mr_kd fki m ↔ fki (x + 1) = fki (m + 1) := by
    rw [mr_kd_eq ekx kx8, mr_kd_eq ekm km8, ekx, ekm]
    exact (nI_eq (by omega) (by omega)).symm
  rw [hk]
  unfold mr_ww
  rw [Int32.lt_iff_toInt_lt, v_wt dm rm0 rm9, v_wt dx rx0 rx9]
  have a1 := v_dgc dx
  have a2 := v_dgc dm
  have z0 : (0 : Int32).toInt = 0 := by decide
  have z9 : (9 : Int32).toInt = 9 := by decide
  rw [Int32.lt_iff_toInt_lt] at rx0 rx9 rm0 rm9
  have e : mv_D_digits (fco (x + 1)) = mv_D_digits (fco (m + 1)) ↔ (mv_D_digits (fco (x + 1))).toInt = (mv_D_digits (fco (m + 1))).toInt := ⟨fun h => by rw [h], fun h => Int32.toInt_inj.mp h⟩
  unfold mv_D_beats
  by_cases c1 : fki (x + 1) = fki (m + 1)
  · rw [if_pos c1]
    by_cases c2 : mv_D_digits (fco (m + 1)) < mv_D_digits (fco (x + 1))
    · rw [if_pos c2]
      rw [Int32.lt_iff_toInt_lt] at c2
      exact ⟨fun _ => ⟨c1, by omega⟩, fun _ => by decide⟩
    · rw [if_neg c2]
      rw [Int32.lt_iff_toInt_lt] at c2
      by_cases c3 : mv_D_digits (fco (x + 1)) = mv_D_digits (fco (m + 1))
      · rw [if_pos c3]
        rw [e] at c3
        by_cases c4 : fra (x + 1) ≤ fra (m + 1)
        · rw [if_pos c4]
          rw [Int32.le_iff_toInt_le] at c4
          exact ⟨fun h => absurd rfl h, fun h => by have := h.2; omega⟩
        · rw [if_neg c4]
          rw [Int32.le_iff_toInt_le] at c4
          exact ⟨fun _ => ⟨c1, by omega⟩, fun _ => by decide⟩
      · rw [if_neg c3]
        rw [e] at c3
        exact ⟨fun h => absurd rfl h, fun h => by have := h.2; omega⟩
  · rw [if_neg c1]
    exact ⟨fun h => absurd rfl h, fun h => absurd h.1 c1⟩
theorem v_w0 (hN : mr_NX n nw fco fki fra fkn fe fk) (hm : m < n) : ¬ mr_ww fco fra m < 0 := by
  obtain ⟨-, -, dm, ⟨rm0, rm9⟩, -⟩ := hN.2 (m + 1) (by omega) (by omega)
  have a2 := v_dgc dm
  have e : (mr_ww fco fra m).toInt = _ := v_wt dm rm0 rm9
  have z0 : (0 : Int32).toInt = 0 := by decide
  rw [Int32.lt_iff_toInt_lt] at rm0 ⊢
  omega
theorem mr_cnt_ne0 (P : Nat → Int32) (n : Nat) : ¬ mr_cnt P n = 0 ↔ ∃ x, x < n ∧ ¬ P x = 0 := by
  constructor
  · intro h
    exact Classical.byContradiction fun g => h (mr_cnt_flat' (M := 0) (Nat.zero_le _) (fun x _ hx => Classical.byContradiction fun q => g ⟨x, hx, q⟩))
  · rintro ⟨x, hx, hp⟩ h
    have := mr_cnt_lt hx hp
    omega
/-- the candidates of the class are the reference's good rows -/
theorem v_good (hN : mr_NX n nw fco fki fra fkn fe fk) (hT : mr_tie fm fi) (hLs : mr_LS n fls cls) (hLp : mr_LS n fpa cpa) (hm : m < n) {a0 a1 a2 a3 : Int32} (hc : ¬ mv_D_digits a0 = 0) (hl : ¬ mv_M_isLand a1 = 0) :
    mv_kp (fun j => mv_gP fkn fco fla ffi fe fa fk fi cls (j + 1) a0 a1 a2 a3) cpa pb m = 0 ↔ mv_gd fm fco fla ffi fkn fls fpa fe fa fk pb a0 a1 a2 a3 m = 0 := by
  have ho := v_isOf (fla := fla) (ffi := ffi) (fa := fa) (d := a2) (on := a3) (i := m + 1) hN hT hLs (by omega) (by omega) hc hl
  have e := (hLp.1 (m + 1) (by omega) (by omega)).1
  unfold mv_kp mv_gd
  by_cases c1 : mv_D_isOf fm fco fla ffi fkn fls fe fa fk (m + 1) a0 a1 a2 a3 = 0
  · rw [if_pos c1, if_pos (ho.mp c1)]
  · rw [if_neg c1, if_neg (fun h => c1 (ho.mpr h)), e]
    exact Iff.rfl
theorem v_ubr (hN : mr_NX n nw fco fki fra fkn fe fk) {P G : Nat → Int32} (h : ∀ m, m < n → (P m = 0 ↔ G m = 0)) (hm : m < n) : mv_ub P (mr_ww fco fra) (mr_kd fki) n m = 0 ↔ mv_ur G fco fki fra n m = 0 := by
  unfold mv_ub mv_ur
  by_cases c1 : P m = 0
  · rw [if_pos c1, if_pos ((h m hm).mp c1)]
  · rw [if_neg c1, if_neg (fun q => c1 ((h m hm).mpr q))]
    have hw := mr_wt_lt (P := P) (w := mr_ww fco fra) (kd := mr_kd fki) (mr_kd fki m) (mr_ww fco fra m) (v_w0 hN hm) n
    have hb := mr_cnt_ne0 (mv_bx G fco fki fra m) n
    have hx : (∃ x, x < n ∧ ¬ P x = 0 ∧ mr_kd fki x = mr_kd fki m ∧ mr_ww fco fra m < mr_ww fco fra x) ↔ ∃ x, x < n ∧ ¬ mv_bx G fco fki fra m x = 0 := by
      constructor
      · rintro ⟨x, x1, x2, x3⟩
        refine ⟨x, x1, ?_⟩
        unfold mv_bx
        rw [if_neg (fun q => x2 ((h x x1).mpr q))]
        exact (v_beats hN x1 hm).mpr x3
      · rintro ⟨x, x1, x2⟩
        unfold mv_bx at x2
        by_cases g : G x = 0
        · rw [if_pos g] at x2; exact absurd rfl x2
        · rw [if_neg g] at x2
          exact ⟨x, x1, fun q => g ((h x x1).mp q), (v_beats hN x1 hm).mp x2⟩
    by_cases c2 : mr_kd fki m < 4
    · rw [if_pos c2]
      by_cases c3 : mr_cnt (mv_bx G fco fki fra m) n = 0
      · rw [if_pos c3, if_neg (fun q => (hb.mpr (hx.mp (hw.mp q.2))) c3)]
      · rw [if_neg c3, if_pos ⟨c2, hw.mpr (hx.mpr (hb.mp c3))⟩]
    · rw [if_neg c2, if_neg (fun q => c2 q.1)]
theorem vk_apply (a0 a1 a2 a3 : Int32) : mt_D_apply a0 a1 a2 a3 = mk_M_apply a0 a1 a2 a3 := by
  unfold mt_D_apply mk_M_apply
  by_cases c1 : mv_D_digits a0 = 6
  · rw [if_pos c1, if_pos ((v_lev a0).2.mpr c1), v_land]
    rfl
  · rw [if_neg c1, if_neg (fun q => c1 ((v_lev a0).2.mp q))]
theorem v_applyOK {a0 a1 a2 a3 : Int32} (h : mk_M_apply a0 a1 a2 a3 = 0) : ¬ mv_D_digits a0 = 0 ∧ ¬ mv_M_isLand a1 = 0 := by
  unfold mk_M_apply at h
  by_cases c1 : mv_M_levelOf a0 = 3
  · rw [if_pos c1] at h
    by_cases c2 : mv_M_isLand a1 = 0
    · rw [if_pos c2] at h; exact absurd h (by decide)
    exact ⟨fun q => by rw [(v_lev a0).2.mp c1] at q; exact absurd q (by decide), c2⟩
  · rw [if_neg c1] at h; exact absurd h (by decide)
theorem v_applyV (hN : mr_NX n nw fco fki fra fkn fe fk) (hT : mr_tie fm fi) (hLs : mr_LS n fls cls) (hLp : mr_LS n fpa cpa) {a0 a1 a2 a3 : Int32} (h : mk_M_apply a0 a1 a2 a3 = 0) :
    nI (mr_tot (mv_ub (mv_kp (fun j => mv_gP fkn fco fla ffi fe fa fk fi cls (j + 1) a0 a1 a2 a3) cpa pb) (mr_ww fco fra) (mr_kd fki) n) (mr_kd fki) n 8) = mv_D_apply n pb fm fco fla ffi fki fra fkn fls fpa fe fa fk a0 a1 a2 a3 := by
  obtain ⟨h1, h2⟩ := v_applyOK h
  have ht : mt_D_apply a0 a1 a2 a3 = 0 := by rw [vk_apply]; exact h
  unfold mv_D_apply
  rw [if_pos ht, mr_tot_congr (fun m hm => v_ubr hN (fun m hm => v_good hN hT hLs hLp hm h1 h2) hm) 8]
end APT



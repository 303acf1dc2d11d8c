def mv_M_member (fm fi : Nat → Int32) (a0 a1 : Int32) : Int32 := if mv_M_isGroup a0 = 0 then 0 else if mv_M_isLand a1 = 0 then (if mv_M_isGroup a1 = 0 then 0 else mv_G_join fm fi a0 a1) else mv_G_join fm fi a0 a1
def mv_M_memM (fm fi : Nat → Int32) (a0 a1 : Int32) : Nat → Int32 := if mv_M_isGroup a0 = 0 then fm else if mv_M_isLand a1 = 0 then (if mv_M_isGroup a1 = 0 then fm else mv_G_joinM fm fi a0 a1) else mv_G_joinM fm fi a0 a1
def mv_M_memI (fm fi : Nat → Int32) (a0 a1 : Int32) : Nat → Int32 := if mv_M_isGroup a0 = 0 then fi else if mv_M_isLand a1 = 0 then (if mv_M_isGroup a1 = 0 then fi else mv_G_joinI fm fi a0 a1) else mv_G_joinI fm fi a0 a1
def mk_M_row0 (a0 a1 a2 a3 a4 a5 a6 : Int32) : Int32 := if (mv_M_levelOf a0) = 0 then 1 else if (mv_M_isPlace a1) = 0 then 1 else if (mv_M_isDay a2) = 0 then 1 else if (mv_M_isLastDay a3) = 0 then 1 else if (mv_M_isDay a6) = 0 then 1 else if a2 ≤ a3 then (if a4 < 0 then 1 else if 8 ≤ a4 then 1 else if a5 < 0 then 1 else if a5 < 10 then 0 else 1) else 1
theorem mw_120 : Cond.code y_G_join b_G_join 5 (some .boolean) ∈ lw_tbl := by decide +kernel
theorem mw_121 : Cond.initialized y_G_join.cls ∈ lw_tbl := by decide +kernel
theorem mw_122 : Cond.methodLink "MeasureRows" 52 y_G_join ∈ lw_tbl := by decide +kernel
theorem mw_123 : Cond.instanceMethod y_G_join ∈ lw_tbl := by decide +kernel
theorem mw_124 : Cond.selects "MeasureRows$Groups" y_G_join y_G_join ∈ lw_tbl := by decide +kernel
theorem mw_125 : Cond.constant "MeasureRows" 135 65535 ∈ lw_tbl := by decide +kernel
theorem mw_126 : Cond.stringRef "MeasureRows" 80 "no such code or land" ∈ lw_tbl := by decide +kernel
theorem mw_127 : Cond.code y_M_isPlace b_M_isPlace 1 (some .boolean) ∈ lw_tbl := by decide +kernel
theorem mw_128 : Cond.initialized y_M_isPlace.cls ∈ lw_tbl := by decide +kernel
theorem mw_129 : Cond.methodLink "MeasureRows" 75 y_M_isPlace ∈ lw_tbl := by decide +kernel
theorem mw_130 : Cond.static y_M_isPlace ∈ lw_tbl := by decide +kernel
theorem mw_131 : Cond.code y_M_isLastDay b_M_isLastDay 1 (some .boolean) ∈ lw_tbl := by decide +kernel
theorem mw_132 : Cond.initialized y_M_isLastDay.cls ∈ lw_tbl := by decide +kernel
theorem mw_133 : Cond.methodLink "MeasureRows" 86 y_M_isLastDay ∈ lw_tbl := by decide +kernel
theorem mw_134 : Cond.static y_M_isLastDay ∈ lw_tbl := by decide +kernel
theorem mw_135 : Cond.stringRef "MeasureRows" 91 "no such kind or rank" ∈ lw_tbl := by decide +kernel
theorem mw_136 : Cond.code y_M_leastClash b_M_leastClash 9 (some .int) ∈ lw_tbl := by decide +kernel
theorem mw_137 : Cond.initialized y_M_leastClash.cls ∈ lw_tbl := by decide +kernel
theorem mw_138 : Cond.methodLink "MeasureRows" 98 y_M_leastClash ∈ lw_tbl := by decide +kernel
theorem mw_139 : Cond.instanceMethod y_M_leastClash ∈ lw_tbl := by decide +kernel
theorem mw_140 : Cond.selects "MeasureRows" y_M_leastClash y_M_leastClash ∈ lw_tbl := by decide +kernel
theorem mw_141 : Cond.classLink "MeasureRows" 16 R_R ∈ lw_tbl := by decide +kernel
theorem mw_142 : Cond.instantiable R_R 11 ∈ lw_tbl := by decide +kernel
theorem mw_143 : Cond.initialized R_R ∈ lw_tbl := by decide +kernel
theorem mw_144 : Cond.code y_R_init b_R_init 8 none ∈ lw_tbl := by decide +kernel
theorem mw_145 : Cond.initialized y_R_init.cls ∈ lw_tbl := by decide +kernel
theorem mw_146 : Cond.methodLink "MeasureRows" 102 y_R_init ∈ lw_tbl := by decide +kernel
theorem mw_147 : Cond.instanceMethod y_R_init ∈ lw_tbl := by decide +kernel
theorem mw_148 : Cond.methodLink "MeasureRows" 105 Lib.Math.max.name ∈ lw_tbl := by decide +kernel
theorem mw_149 : Cond.static Lib.Math.max.name ∈ lw_tbl := by decide +kernel
theorem mw_150 : Cond.initialized "java/lang/Math" ∈ lw_tbl := by decide +kernel
theorem mw_151 : Cond.code Lib.Math.max.name Lib.Math.max.code 2 (some .int) ∈ lw_tbl := by decide +kernel
set_option maxHeartbeats 4000000 in
set_option maxRecDepth 100000 in
theorem mc_M_member (l : Launch) (s0 : State) (dC : Nat → ClassId) (dI : Nat → Nat → Nat) (cI cR cL cZ : ClassId) (r : Nat → Nat) (rc nw pb lc : Int32) (fm fi : Nat → Int32) (sz : Nat) (a0 : Int32) (a1 : Int32) : Met l y_M_member [Cond.code y_M_member b_M_member 3 (some .boolean)] ({ frames := 4, cells := 0, slots := 0, locals := 87 }) (mr_PC s0 (dC, dI) [(cI, .int), (cR, .object "MeasureRows$Row"), (cL, .long), (cZ, .boolean)] [.ref (r 0), .int a0, .int a1] [((r 0), .inr (0, mf_M r rc nw pb lc)), ((r 1), .inr (1, [.ref (r 2), .ref (r 3)])), ((r 2), .inl (cI, 8, .inl fm)), ((r 3), .inl (cI, 8, .inl fi))] sz) (va_Qi (fun rr u => rr = mv_M_member fm fi a0 a1 ∧ u.1 = mv_M_memM fm fi a0 a1 ∧ u.2 = mv_M_memI fm fi a0 a1) (fun (u : (Nat → Int32) × (Nat → Int32)) t => mr_W (dC, dI) [(cI, .int), (cR, .object "MeasureRows$Row"), (cL, .long), (cZ, .boolean)] (va_A [((r 0), .inr (0, mf_M r rc nw pb lc)), ((r 1), .inr (1, [.ref (r 2), .ref (r 3)])), ((r 2), .inl (cI, 8, .inl fm)), ((r 3), .inl (cI, 8, .inl fi))] sz) [((r 0), .inr (0, mf_M r rc nw pb lc)), ((r 1), .inr (1, [.ref (r 2), .ref (r 3)])), ((r 2), .inl (cI, 8, .inl u.1)), ((r 3), .inl (cI, 8, .inl u.2))] t) (va_A [((r 0), .inr (0, mf_M r rc nw pb lc)), ((r 1), .inr (1, [.ref (r 2), .ref (r 3)])), ((r 2), .inl (cI, 8, .inl fm)), ((r 3), .inl (cI, 8, .inl fi))] sz)) 0 0 (va_A [((r 0), .inr (0, mf_M r rc nw pb lc)), ((r 1), .inr (1, [.ref (r 2), .ref (r 3)])), ((r 2), .inl (cI, 8, .inl fm)), ((r 3), .inl (cI, 8, .inl fi))] sz) := by
  refine Met.ofW (cc := b_M_member) (maxL := 3) (ret := (some .boolean)) (by decide) rfl ?_
  intro p e s m args below meth c s₁ B hml hv
  obtain ⟨rfl, hsz, hB, hK, hP, hD0⟩ := hv
  subst hsz
  have hA0 := mr_A hB hD0
  have hD := hD0.self (sz := s.heap.size)
  generalize hAe : va_A [((r 0), .inr (0, mf_M r rc nw pb lc)), ((r 1), .inr (1, [.ref (r 2), .ref (r 3)])), ((r 2), .inl (cI, 8, .inl fm)), ((r 3), .inl (cI, 8, .inl fi))] s.heap.size = A at hD hA0 ⊢
  have hA : ∀ q : Nat, s.heap.size ≤ q → A q := fun q h => by rw [← hAe]; exact Or.inr h
  have hS : va_S A s.heap s.heap [] := va_S.rf
  have hP : va_P (dC, dI) mr_cl [((r 0), .inr (0, mf_M r rc nw pb lc)), ((r 1), .inr (1, [.ref (r 2), .ref (r 3)])), ((r 2), .inl (cI, 8, .inl fm)), ((r 3), .inl (cI, 8, .inl fi))] s.heap := hP
  have hBH := hB.at hS hA0
  have hx := B.exec
  have hb := B.bytes
  have hr := B.returns
  have hlocks := B.notSynchronized
  have hts : ∀ w ∈ lw_tbl, w.before [.ref (r 0), .int a0, .int a1].toArray s = true := hB.hts _
  have hown : s.vm.findClass "MeasureRows" = some m.cls := findClass_of_methodNamed B.named
  have hl := lv_entry ([.ref (r 0), .int a0, .int a1]) (n := 3) (Nat.le_of_ble_eq_true rfl)
  rw [lg_entry_eq]
  generalize (lg_sl ([.ref (r 0), .int a0, .int a1]) ++ List.replicate (3 - (lg_sl ([.ref (r 0), .int a0, .int a1])).length) Slot.unset).toArray = ls at hl ⊢
  have hl : lv_has ls 3 [(0, .ref (r 0)), (1, .int a0), (2, .int a1)] := hl
  refine lv_iload_n hx hb d_M_member_0 rfl (lv_at hl 1 rfl) ?_
  refine vp_callSi (va_Run.run (va_runS (As := [.int a0]) (rest := []) ⟨hx, hb, hml, hown, hts⟩ (mc_M_isGroup l s0 a0) ⟨(mr_cB 1 (hts (Cond.code y_M_isGroup b_M_isGroup 1 (some .boolean)) mw_5) (hts (Cond.initialized y_M_isGroup.cls) mw_6) (hts (Cond.methodLink "MeasureRows" 45 y_M_isGroup) mw_7) rfl rfl (by decide +kernel) ⟨Nat.le_of_ble_eq_true rfl, Nat.le_of_ble_eq_true rfl⟩), (hts (Cond.static y_M_isGroup) mw_8)⟩ (mr_pre0 hBH) rfl rfl hl.1 rfl (lv_room (Nat.le_of_ble_eq_true rfl)) d_M_member_1 ⟨Nat.le_of_ble_eq_true rfl, Nat.le_of_ble_eq_true rfl⟩)) (fun r_1 h_2 => ?_)
  subst h_2
  refine lv_if_eq (tgt := 21) hx hb d_M_member_4 (by decide) (fun c_3 => ?_) (fun c_3 => ?_)
  · refine lv_iconst (v := 0) hx hb d_M_member_21 (by decide) ?_
    have hP9 := hP.sub (ws' := [((r 0), .inr (0, mf_M r rc nw pb lc)), ((r 1), .inr (1, [.ref (r 2), .ref (r 3)])), ((r 2), .inl (cI, 8, .inl fm)), ((r 3), .inl (cI, 8, .inl fi))]) [0, 1, 2, 3] rfl
    have hD9 := hD.sub (ws' := [((r 0), .inr (0, mf_M r rc nw pb lc)), ((r 1), .inr (1, [.ref (r 2), .ref (r 3)])), ((r 2), .inl (cI, 8, .inl fm)), ((r 3), .inl (cI, 8, .inl fi))]) [0, 1, 2, 3] (by decide) rfl
    exact W.zret (v := 0) hx hb hr (mr_narz mr_b0) (fun t ht hW => ⟨⟨_, (fm, fi), rfl, ⟨by unfold mv_M_member; rw [if_pos c_3], by unfold mv_M_memM; rw [if_pos c_3], by unfold mv_M_memI; rw [if_pos c_3]⟩, by rw [ht]; exact hP9, va_K.moved hW.alike hK, hD9⟩, hS.F ht⟩) hS.2.2 d_M_member_22
  · refine lv_iload_n hx hb d_M_member_7 rfl (lv_at hl 2 rfl) ?_
    refine vp_callSi (va_Run.run (va_runS (As := [.int a1]) (rest := []) ⟨hx, hb, hml, hown, hts⟩ (mc_M_isLand l s0 a1) ⟨(mr_cB 1 (hts (Cond.code y_M_isLand b_M_isLand 1 (some .boolean)) mw_1) (hts (Cond.initialized y_M_isLand.cls) mw_2) (hts (Cond.methodLink "MeasureRows" 49 y_M_isLand) mw_3) rfl rfl (by decide +kernel) ⟨Nat.le_of_ble_eq_true rfl, Nat.le_of_ble_eq_true rfl⟩), (hts (Cond.static y_M_isLand) mw_4)⟩ (mr_pre0 hBH) rfl rfl hl.1 rfl (lv_room (Nat.le_of_ble_eq_true rfl)) d_M_member_8 ⟨Nat.le_of_ble_eq_true rfl, Nat.le_of_ble_eq_true rfl⟩)) (fun r_4 h_5 => ?_)
    subst h_5
    refine lv_if_ne (tgt := 23) hx hb d_M_member_11 (by decide) (fun c_6 => ?_) (fun c_6 => ?_)
    · refine lv_aload_n hx hb d_M_member_23 rfl (lv_at hl 0 rfl) ?_
      refine va_get (D := (dC, dI)) (ci := 0) (v := .ref (r 1)) (C := R_M) (T := T_M) (N := 9) hx hb hts ti_M hown hK hP 0 rfl rfl 0 (by decide) (hts (Cond.fieldLink "MeasureRows" 10 "MeasureRows" "groups" "LMeasureRows$Groups;") mw_51) (fun _ h9 => h9) rfl d_M_member_24 ?_
      refine lv_iload_n hx hb d_M_member_27 rfl (lv_at hl 1 rfl) ?_
      refine lv_iload_n hx hb d_M_member_28 rfl (lv_at hl 2 rfl) ?_
      have hPc := hP.sub (ws' := [((r 1), .inr (1, [.ref (r 2), .ref (r 3)])), ((r 2), .inl (cI, 8, .inl fm)), ((r 3), .inl (cI, 8, .inl fi))]) [1, 2, 3] rfl
      have hDc := hD.sub (ws' := [((r 1), .inr (1, [.ref (r 2), .ref (r 3)])), ((r 2), .inl (cI, 8, .inl fm)), ((r 3), .inl (cI, 8, .inl fi))]) [1, 2, 3] (by decide) rfl
      have hFc := va_free (wc := [((r 1), .inr (1, [.ref (r 2), .ref (r 3)])), ((r 2), .inl (cI, 8, .inl fm)), ((r 3), .inl (cI, 8, .inl fi))]) hD hS hA [1, 2, 3] rfl
      refine va_calli (va_runV (As := [.int a0, .int a1]) (rest := []) (C := R_G) ⟨hx, hb, hml, hown, hts⟩ (mc_G_join l s0 dC dI cI cR cL cZ (r 1) (r 2) (r 3) fm fi _ a0 a1) ⟨(mr_cB 2 (hts (Cond.code y_G_join b_G_join 5 (some .boolean)) mw_120) (hts (Cond.initialized y_G_join.cls) mw_121) (hts (Cond.methodLink "MeasureRows" 52 y_G_join) mw_122) rfl rfl (by decide +kernel) ⟨Nat.le_of_ble_eq_true rfl, Nat.le_of_ble_eq_true rfl⟩), (hts (Cond.instanceMethod y_G_join) mw_123), (hts (Cond.selects "MeasureRows$Groups" y_G_join y_G_join) mw_124)⟩ (mr_preCV hBH hK hPc (hDc.weaken (fun _ _ _ h => hA0 _ h)) (ci := 1) (q0 := 0) rfl rfl) rfl rfl hl.1 rfl (lv_room (Nat.le_of_ble_eq_true rfl)) d_M_member_29 ⟨Nat.le_of_ble_eq_true rfl, Nat.le_of_ble_eq_true rfl⟩) hS (fun q _ h => hFc q h) hFc (fun r_7 u_8 t H1 locs ht hvm hw hB1 hz1 hk1 hS => ?_)
      obtain ⟨fm_9, fi_10⟩ := u_8
      obtain ⟨hP1, hK1, hD1⟩ := hB1
      rw [ht] at hP1
      obtain ⟨hP, hD⟩ := va_join (wr := [((r 0), .inr (0, mf_M r rc nw pb lc))]) (w1 := [((r 1), .inr (1, [.ref (r 2), .ref (r 3)])), ((r 2), .inl (cI, 8, .inl fm_9)), ((r 3), .inl (cI, 8, .inl fi_10))]) hP hD [1, 2, 3] [0] rfl rfl (by decide) (by decide) hk1 hFc hP1 hD1
      clear hK1 hk1 hPc hDc hFc
      generalize H1 = H at hP hS ht ⊢
      have hP : va_P (dC, dI) mr_cl [((r 0), .inr (0, mf_M r rc nw pb lc)), ((r 1), .inr (1, [.ref (r 2), .ref (r 3)])), ((r 2), .inl (cI, 8, .inl fm_9)), ((r 3), .inl (cI, 8, .inl fi_10))] H := hP
      have hD : va_D A [((r 0), .inr (0, mf_M r rc nw pb lc)), ((r 1), .inr (1, [.ref (r 2), .ref (r 3)])), ((r 2), .inl (cI, 8, .inl fm_9)), ((r 3), .inl (cI, 8, .inl fi_10))] := hD
      have hBH := hB.at hS hA0
      have hP9 := hP.sub (ws' := [((r 0), .inr (0, mf_M r rc nw pb lc)), ((r 1), .inr (1, [.ref (r 2), .ref (r 3)])), ((r 2), .inl (cI, 8, .inl fm_9)), ((r 3), .inl (cI, 8, .inl fi_10))]) [0, 1, 2, 3] rfl
      have hD9 := hD.sub (ws' := [((r 0), .inr (0, mf_M r rc nw pb lc)), ((r 1), .inr (1, [.ref (r 2), .ref (r 3)])), ((r 2), .inl (cI, 8, .inl fm_9)), ((r 3), .inl (cI, 8, .inl fi_10))]) [0, 1, 2, 3] (by decide) rfl
      exact W.zret (v := r_7) hx hb hr (mr_narz (by rw [hw.1]; exact mv_G_join_b _ _ _ _)) (fun t ht hW => ⟨⟨_, (fm_9, fi_10), rfl, ⟨by unfold mv_M_member; rw [if_neg c_3, if_neg c_6, hw.1], by unfold mv_M_memM; rw [if_neg c_3, if_neg c_6]; exact hw.2.1, by unfold mv_M_memI; rw [if_neg c_3, if_neg c_6]; exact hw.2.2⟩, by rw [ht]; exact hP9, va_K.moved hW.alike hK, hD9⟩, hS.F ht⟩) hS.2.2 d_M_member_32
    · refine lv_iload_n hx hb d_M_member_14 rfl (lv_at hl 2 rfl) ?_
      refine vp_callSi (va_Run.run (va_runS (As := [.int a1]) (rest := []) ⟨hx, hb, hml, hown, hts⟩ (mc_M_isGroup l s0 a1) ⟨(mr_cB 1 (hts (Cond.code y_M_isGroup b_M_isGroup 1 (some .boolean)) mw_5) (hts (Cond.initialized y_M_isGroup.cls) mw_6) (hts (Cond.methodLink "MeasureRows" 45 y_M_isGroup) mw_7) rfl rfl (by decide +kernel) ⟨Nat.le_of_ble_eq_true rfl, Nat.le_of_ble_eq_true rfl⟩), (hts (Cond.static y_M_isGroup) mw_8)⟩ (mr_pre0 hBH) rfl rfl hl.1 rfl (lv_room (Nat.le_of_ble_eq_true rfl)) d_M_member_15 ⟨Nat.le_of_ble_eq_true rfl, Nat.le_of_ble_eq_true rfl⟩)) (fun r_11 h_12 => ?_)
      subst h_12
      refine lv_if_ne (tgt := 23) hx hb d_M_member_18 (by decide) (fun c_13 => ?_) (fun c_13 => ?_)
      · refine lv_aload_n hx hb d_M_member_23 rfl (lv_at hl 0 rfl) ?_
        refine va_get (D := (dC, dI)) (ci := 0) (v := .ref (r 1)) (C := R_M) (T := T_M) (N := 9) hx hb hts ti_M hown hK hP 0 rfl rfl 0 (by decide) (hts (Cond.fieldLink "MeasureRows" 10 "MeasureRows" "groups" "LMeasureRows$Groups;") mw_51) (fun _ h9 => h9) rfl d_M_member_24 ?_
        refine lv_iload_n hx hb d_M_member_27 rfl (lv_at hl 1 rfl) ?_
        refine lv_iload_n hx hb d_M_member_28 rfl (lv_at hl 2 rfl) ?_
        have hPc := hP.sub (ws' := [((r 1), .inr (1, [.ref (r 2), .ref (r 3)])), ((r 2), .inl (cI, 8, .inl fm)), ((r 3), .inl (cI, 8, .inl fi))]) [1, 2, 3] rfl
        have hDc := hD.sub (ws' := [((r 1), .inr (1, [.ref (r 2), .ref (r 3)])), ((r 2), .inl (cI, 8, .inl fm)), ((r 3), .inl (cI, 8, .inl fi))]) [1, 2, 3] (by decide) rfl
        have hFc := va_free (wc := [((r 1), .inr (1, [.ref (r 2), .ref (r 3)])), ((r 2), .inl (cI, 8, .inl fm)), ((r 3), .inl (cI, 8, .inl fi))]) hD hS hA [1, 2, 3] rfl
        refine va_calli (va_runV (As := [.int a0, .int a1]) (rest := []) (C := R_G) ⟨hx, hb, hml, hown, hts⟩ (mc_G_join l s0 dC dI cI cR cL cZ (r 1) (r 2) (r 3) fm fi _ a0 a1) ⟨(mr_cB 2 (hts (Cond.code y_G_join b_G_join 5 (some .boolean)) mw_120) (hts (Cond.initialized y_G_join.cls) mw_121) (hts (Cond.methodLink "MeasureRows" 52 y_G_join) mw_122) rfl rfl (by decide +kernel) ⟨Nat.le_of_ble_eq_true rfl, Nat.le_of_ble_eq_true rfl⟩), (hts (Cond.instanceMethod y_G_join) mw_123), (hts (Cond.selects "MeasureRows$Groups" y_G_join y_G_join) mw_124)⟩ (mr_preCV hBH hK hPc (hDc.weaken (fun _ _ _ h => hA0 _ h)) (ci := 1) (q0 := 0) rfl rfl) rfl rfl hl.1 rfl (lv_room (Nat.le_of_ble_eq_true rfl)) d_M_member_29 ⟨Nat.le_of_ble_eq_true rfl, Nat.le_of_ble_eq_true rfl⟩) hS (fun q _ h => hFc q h) hFc (fun r_14 u_15 t H1 locs ht hvm hw hB1 hz1 hk1 hS => ?_)
        obtain ⟨fm_16, fi_17⟩ := u_15
        obtain ⟨hP1, hK1, hD1⟩ := hB1
        rw [ht] at hP1
        obtain ⟨hP, hD⟩ := va_join (wr := [((r 0), .inr (0, mf_M r rc nw pb lc))]) (w1 := [((r 1), .inr (1, [.ref (r 2), .ref (r 3)])), ((r 2), .inl (cI, 8, .inl fm_16)), ((r 3), .inl (cI, 8, .inl fi_17))]) hP hD [1, 2, 3] [0] rfl rfl (by decide) (by decide) hk1 hFc hP1 hD1
        clear hK1 hk1 hPc hDc hFc
        generalize H1 = H at hP hS ht ⊢
        have hP : va_P (dC, dI) mr_cl [((r 0), .inr (0, mf_M r rc nw pb lc)), ((r 1), .inr (1, [.ref (r 2), .ref (r 3)])), ((r 2), .inl (cI, 8, .inl fm_16)), ((r 3), .inl (cI, 8, .inl fi_17))] H := hP
        have hD : va_D A [((r 0), .inr (0, mf_M r rc nw pb lc)), ((r 1), .inr (1, [.ref (r 2), .ref (r 3)])), ((r 2), .inl (cI, 8, .inl fm_16)), ((r 3), .inl (cI, 8, .inl fi_17))] := hD
        have hBH := hB.at hS hA0
        have hP9 := hP.sub (ws' := [((r 0), .inr (0, mf_M r rc nw pb lc)), ((r 1), .inr (1, [.ref (r 2), .ref (r 3)])), ((r 2), .inl (cI, 8, .inl fm_16)), ((r 3), .inl (cI, 8, .inl fi_17))]) [0, 1, 2, 3] rfl
        have hD9 := hD.sub (ws' := [((r 0), .inr (0, mf_M r rc nw pb lc)), ((r 1), .inr (1, [.ref (r 2), .ref (r 3)])), ((r 2), .inl (cI, 8, .inl fm_16)), ((r 3), .inl (cI, 8, .inl fi_17))]) [0, 1, 2, 3] (by decide) rfl
        exact W.zret (v := r_14) hx hb hr (mr_narz (by rw [hw.1]; exact mv_G_join_b _ _ _ _)) (fun t ht hW => ⟨⟨_, (fm_16, fi_17), rfl, ⟨by unfold mv_M_member; rw [if_neg c_3, if_pos c_6, if_neg c_13, hw.1], by unfold mv_M_memM; rw [if_neg c_3, if_pos c_6, if_neg c_13]; exact hw.2.1, by unfold mv_M_memI; rw [if_neg c_3, if_pos c_6, if_neg c_13]; exact hw.2.2⟩, by rw [ht]; exact hP9, va_K.moved hW.alike hK, hD9⟩, hS.F ht⟩) hS.2.2 d_M_member_32
      · refine lv_iconst (v := 0) hx hb d_M_member_21 (by decide) ?_
        have hP9 := hP.sub (ws' := [((r 0), .inr (0, mf_M r rc nw pb lc)), ((r 1), .inr (1, [.ref (r 2), .ref (r 3)])), ((r 2), .inl (cI, 8, .inl fm)), ((r 3), .inl (cI, 8, .inl fi))]) [0, 1, 2, 3] rfl
        have hD9 := hD.sub (ws' := [((r 0), .inr (0, mf_M r rc nw pb lc)), ((r 1), .inr (1, [.ref (r 2), .ref (r 3)])), ((r 2), .inl (cI, 8, .inl fm)), ((r 3), .inl (cI, 8, .inl fi))]) [0, 1, 2, 3] (by decide) rfl
        exact W.zret (v := 0) hx hb hr (mr_narz mr_b0) (fun t ht hW => ⟨⟨_, (fm, fi), rfl, ⟨by unfold mv_M_member; rw [if_neg c_3, if_pos c_6, if_pos c_13], by unfold mv_M_memM; rw [if_neg c_3, if_pos c_6, if_pos c_13], by unfold mv_M_memI; rw [if_neg c_3, if_pos c_6, if_pos c_13]⟩, by rw [ht]; exact hP9, va_K.moved hW.alike hK, hD9⟩, hS.F ht⟩) hS.2.2 d_M_member_22
set_option maxHeartbeats 4000000 in
set_option maxRecDepth 100000 in
theorem mc_M_papers (l : Launch) (s0 : State) (dC : Nat → ClassId) (dI : Nat → Nat → Nat) (cI cR cL cZ : ClassId) (r : Nat → Nat) (rc nw pb lc : Int32) (sz : Nat) (a0 : Int32) : Met l y_M_papers [Cond.code y_M_papers b_M_papers 2 none] ({ frames := 0, cells := 0, slots := 0, locals := 0 }) (mr_PC s0 (dC, dI) [(cI, .int), (cR, .object "MeasureRows$Row"), (cL, .long), (cZ, .boolean)] [.ref (r 0), .int a0] [((r 0), .inr (0, mf_M r rc nw pb lc))] sz) (va_Qv (fun _ => True) (fun (u : Unit) t => mr_W (dC, dI) [(cI, .int), (cR, .object "MeasureRows$Row"), (cL, .long), (cZ, .boolean)] (va_A [((r 0), .inr (0, mf_M r rc nw pb lc))] sz) [((r 0), .inr (0, mf_M r rc nw (a0 &&& 65535) lc))] t) (va_A [((r 0), .inr (0, mf_M r rc nw pb lc))] sz)) 0 0 (va_A [((r 0), .inr (0, mf_M r rc nw pb lc))] sz) := by
  refine Met.ofW (cc := b_M_papers) (maxL := 2) (ret := none) (by decide) rfl ?_
  intro p e s m args below meth c s₁ B hml hv
  obtain ⟨rfl, hsz, hB, hK, hP, hD0⟩ := hv
  subst hsz
  have hA0 := mr_A hB hD0
  have hD := hD0.self (sz := s.heap.size)
  generalize hAe : va_A [((r 0), .inr (0, mf_M r rc nw pb lc))] s.heap.size = A at hD hA0 ⊢
  have hA : ∀ q : Nat, s.heap.size ≤ q → A q := fun q h => by rw [← hAe]; exact Or.inr h
  have hS : va_S A s.heap s.heap [] := va_S.rf
  have hP : va_P (dC, dI) mr_cl [((r 0), .inr (0, mf_M r rc nw pb lc))] s.heap := hP
  have hBH := hB.at hS hA0
  have hx := B.exec
  have hb := B.bytes
  have hr := B.returns
  have hlocks := B.notSynchronized
  have hts : ∀ w ∈ lw_tbl, w.before [.ref (r 0), .int a0].toArray s = true := hB.hts _
  have hown : s.vm.findClass "MeasureRows" = some m.cls := findClass_of_methodNamed B.named
  have hl := lv_entry ([.ref (r 0), .int a0]) (n := 2) (Nat.le_of_ble_eq_true rfl)
  rw [lg_entry_eq]
  generalize (lg_sl ([.ref (r 0), .int a0]) ++ List.replicate (2 - (lg_sl ([.ref (r 0), .int a0])).length) Slot.unset).toArray = ls at hl ⊢
  have hl : lv_has ls 2 [(0, .ref (r 0)), (1, .int a0)] := hl
  refine lv_aload_n hx hb d_M_papers_0 rfl (lv_at hl 0 rfl) ?_
  refine lv_iload_n hx hb d_M_papers_1 rfl (lv_at hl 1 rfl) ?_
  refine lv_ldc (v := 65535) hx hb hown (hts (Cond.constant "MeasureRows" 135 65535) mw_125) d_M_papers_2 ?_
  refine lv_iand hx hb d_M_papers_4 ?_
  refine va_put (D := (dC, dI)) (ci := 0) (v := .int (a0 &&& 65535)) (ty := .int) (C := R_M) (T := T_M) (N := 9) hx hb hts ti_M t_M to_M tn_M hown hK hP hD hS 0 rfl rfl 4 (by decide) (hts (Cond.fieldLink "MeasureRows" 29 "MeasureRows" "paperBits" "I") mw_50) (fun _ h9 => h9) rfl (by decide +kernel) rfl rfl (Nat.le_of_ble_eq_true rfl) d_M_papers_5 (fun H locs hP hD hS => ?_)
  have hP : va_P (dC, dI) mr_cl [((r 0), .inr (0, mf_M r rc nw (a0 &&& 65535) lc))] H := hP
  have hD : va_D A [((r 0), .inr (0, mf_M r rc nw (a0 &&& 65535) lc))] := hD
  have hBH := hB.at hS hA0
  have hP9 := hP.sub (ws' := [((r 0), .inr (0, mf_M r rc nw (a0 &&& 65535) lc))]) [0] rfl
  have hD9 := hD.sub (ws' := [((r 0), .inr (0, mf_M r rc nw (a0 &&& 65535) lc))]) [0] (by decide) rfl
  exact W.vret hx hb hr (fun t ht hW => ⟨⟨(), rfl, trivial, by rw [ht]; exact hP9, va_K.moved hW.alike hK, hD9⟩, hS.F ht⟩) hS.2.2 d_M_papers_8
set_option maxHeartbeats 4000000 in
set_option maxRecDepth 100000 in
theorem mc_M_row (l : Launch) (hlt : l.stackTraces = false) (s0 : State) (dC : Nat → ClassId) (dI : Nat → Nat → Nat) (cI cR cL cZ : ClassId) (r : Nat → Nat) (sz : Nat) (a0 : Int32) (a1 : Int32) (a2 : Int32) (a3 : Int32) (a4 : Int32) (a5 : Int32) (a6 : Int32) : mr_Met l y_M_row [Cond.code y_M_row b_M_row 9 (some .int)] ({ frames := 6, cells := 3, slots := 27, locals := 92 }) (mr_PC s0 (dC, dI) [(cI, .int), (cR, .object "MeasureRows$Row"), (cL, .long), (cZ, .boolean)] [.ref (r 0), .int a0, .int a1, .int a2, .int a3, .int a4, .int a5, .int a6] [((r 0), .inr (0, mf_M r (nI 0) 0 0 0)), ((r 1), .inr (1, [.ref (r 2), .ref (r 3)])), ((r 2), .inl (cI, 8, .inl (fun _ => 0))), ((r 3), .inl (cI, 8, .inl (fun _ => 0))), ((r 4), .inl (cR, 80, .inr (.inr (.inr (.inr (fun _ => none)))))), ((r 5), .inl (cI, 80, .inl (fun _ => 0))), ((r 6), .inl (cI, 80, .inl (fun _ => 0))), ((r 7), .inl (cI, 8, .inl (fun _ => 0)))] sz) (va_Qi (fun rr _ => mk_M_row0 a0 a1 a2 a3 a4 a5 a6 = 0 ∧ rr = 1) (fun (u : Unit) t => True) (va_A [((r 0), .inr (0, mf_M r (nI 0) 0 0 0)), ((r 1), .inr (1, [.ref (r 2), .ref (r 3)])), ((r 2), .inl (cI, 8, .inl (fun _ => 0))), ((r 3), .inl (cI, 8, .inl (fun _ => 0))), ((r 4), .inl (cR, 80, .inr (.inr (.inr (.inr (fun _ => none)))))), ((r 5), .inl (cI, 80, .inl (fun _ => 0))), ((r 6), .inl (cI, 80, .inl (fun _ => 0))), ((r 7), .inl (cI, 8, .inl (fun _ => 0)))] sz)) (fun E => (E = mr_iae ∧ mk_M_row0 a0 a1 a2 a3 a4 a5 a6 = 1) ∨ (E = mr_ise ∧ mk_M_row0 a0 a1 a2 a3 a4 a5 a6 = 2)) 3 27 (va_A [((r 0), .inr (0, mf_M r (nI 0) 0 0 0)), ((r 1), .inr (1, [.ref (r 2), .ref (r 3)])), ((r 2), .inl (cI, 8, .inl (fun _ => 0))), ((r 3), .inl (cI, 8, .inl (fun _ => 0))), ((r 4), .inl (cR, 80, .inr (.inr (.inr (.inr (fun _ => none)))))), ((r 5), .inl (cI, 80, .inl (fun _ => 0))), ((r 6), .inl (cI, 80, .inl (fun _ => 0))), ((r 7), .inl (cI, 8, .inl (fun _ => 0)))] sz) := by
  refine mr_of (cc := b_M_row) (maxL := 9) (ret := (some .int)) (by decide) rfl ?_
  intro p e s m args below meth c s₁ B hml hno hv
  obtain ⟨rfl, hsz, hB, hK, hP, hD0⟩ := hv
  subst hsz
  have hA0 := mr_A hB hD0
  have hD := hD0.self (sz := s.heap.size)
  generalize hAe : va_A [((r 0), .inr (0, mf_M r (nI 0) 0 0 0)), ((r 1), .inr (1, [.ref (r 2), .ref (r 3)])), ((r 2), .inl (cI, 8, .inl (fun _ => 0))), ((r 3), .inl (cI, 8, .inl (fun _ => 0))), ((r 4), .inl (cR, 80, .inr (.inr (.inr (.inr (fun _ => none)))))), ((r 5), .inl (cI, 80, .inl (fun _ => 0))), ((r 6), .inl (cI, 80, .inl (fun _ => 0))), ((r 7), .inl (cI, 8, .inl (fun _ => 0)))] s.heap.size = A at hD hA0 ⊢
  have hA : ∀ q : Nat, s.heap.size ≤ q → A q := fun q h => by rw [← hAe]; exact Or.inr h
  have hS : va_S A s.heap s.heap [] := va_S.rf
  have hP : va_P (dC, dI) mr_cl [((r 0), .inr (0, mf_M r (nI 0) 0 0 0)), ((r 1), .inr (1, [.ref (r 2), .ref (r 3)])), ((r 2), .inl (cI, 8, .inl (fun _ => 0))), ((r 3), .inl (cI, 8, .inl (fun _ => 0))), ((r 4), .inl (cR, 80, .inr (.inr (.inr (.inr (fun _ => none)))))), ((r 5), .inl (cI, 80, .inl (fun _ => 0))), ((r 6), .inl (cI, 80, .inl (fun _ => 0))), ((r 7), .inl (cI, 8, .inl (fun _ => 0)))] s.heap := hP
  have hBH := hB.at hS hA0
  have hx := B.exec
  have hb := B.bytes
  have hr := B.returns
  have hlocks := B.notSynchronized
  have hts : ∀ w ∈ lw_tbl, w.before [.ref (r 0), .int a0, .int a1, .int a2, .int a3, .int a4, .int a5, .int a6].toArray s = true := hB.hts _
  have hown : s.vm.findClass "MeasureRows" = some m.cls := findClass_of_methodNamed B.named
  have hl := lv_entry ([.ref (r 0), .int a0, .int a1, .int a2, .int a3, .int a4, .int a5, .int a6]) (n := 9) (Nat.le_of_ble_eq_true rfl)
  rw [lg_entry_eq]
  generalize (lg_sl ([.ref (r 0), .int a0, .int a1, .int a2, .int a3, .int a4, .int a5, .int a6]) ++ List.replicate (9 - (lg_sl ([.ref (r 0), .int a0, .int a1, .int a2, .int a3, .int a4, .int a5, .int a6])).length) Slot.unset).toArray = ls at hl ⊢
  have hl : lv_has ls 9 [(0, .ref (r 0)), (1, .int a0), (2, .int a1), (3, .int a2), (4, .int a3), (5, .int a4), (6, .int a5), (7, .int a6)] := hl
  refine lv_iload_n hx hb d_M_row_0 rfl (lv_at hl 1 rfl) ?_
  refine vp_callSi (va_Run.run (va_runS (As := [.int a0]) (rest := []) ⟨hx, hb, hml, hown, hts⟩ (mc_M_levelOf l s0 a0) ⟨(mr_cB 1 (hts (Cond.code y_M_levelOf b_M_levelOf 1 (some .int)) mw_72) (hts (Cond.initialized y_M_levelOf.cls) mw_73) (hts (Cond.methodLink "MeasureRows" 71 y_M_levelOf) mw_74) rfl rfl (by decide +kernel) ⟨Nat.le_of_ble_eq_true rfl, Nat.le_of_ble_eq_true rfl⟩), (hts (Cond.static y_M_levelOf) mw_75)⟩ (mr_pre0 hBH) rfl rfl hl.1 rfl (lv_room (Nat.le_of_ble_eq_true rfl)) d_M_row_1 ⟨Nat.le_of_ble_eq_true rfl, Nat.le_of_ble_eq_true rfl⟩)) (fun r_1 h_2 => ?_)
  subst h_2
  refine lv_if_eq (tgt := 14) hx hb d_M_row_4 (by decide) (fun c_3 => ?_) (fun c_3 => ?_)
  · obtain ⟨sa, hstr⟩ := mr_str (hts (Cond.stringRef "MeasureRows" 80 "no such code or land") mw_126) hown
    exact mr_throw (names := mr_up) hx hb hlt hown (by decide +kernel) (by decide +kernel) (hts (Cond.classLink "MeasureRows" 78 mr_iae) mw_77) (hts (Cond.initialized mr_iae) mw_78) hstr (hB.own _ mr_a_iae) (hl.1.trans hml.symm) d_M_row_14 d_M_row_17 d_M_row_18 d_M_row_20 d_M_row_23 hno (Nat.le_of_ble_eq_true rfl) (Nat.le_of_ble_eq_true rfl) (Nat.le_of_ble_eq_true rfl) (Nat.le_of_ble_eq_true rfl) hlocks (Or.inl ⟨rfl, by unfold mk_M_row0; rw [if_pos c_3]⟩) (Nat.le_of_ble_eq_true rfl) (Nat.le_of_ble_eq_true rfl)
  · refine lv_iload_n hx hb d_M_row_7 rfl (lv_at hl 2 rfl) ?_
    refine vp_callSi (va_Run.run (va_runS (As := [.int a1]) (rest := []) ⟨hx, hb, hml, hown, hts⟩ (mc_M_isPlace l s0 a1) ⟨(mr_cB 1 (hts (Cond.code y_M_isPlace b_M_isPlace 1 (some .boolean)) mw_127) (hts (Cond.initialized y_M_isPlace.cls) mw_128) (hts (Cond.methodLink "MeasureRows" 75 y_M_isPlace) mw_129) rfl rfl (by decide +kernel) ⟨Nat.le_of_ble_eq_true rfl, Nat.le_of_ble_eq_true rfl⟩), (hts (Cond.static y_M_isPlace) mw_130)⟩ (mr_pre0 hBH) rfl rfl hl.1 rfl (lv_room (Nat.le_of_ble_eq_true rfl)) d_M_row_8 ⟨Nat.le_of_ble_eq_true rfl, Nat.le_of_ble_eq_true rfl⟩)) (fun r_4 h_5 => ?_)
    subst h_5
    refine lv_if_ne (tgt := 24) hx hb d_M_row_11 (by decide) (fun c_6 => ?_) (fun c_6 => ?_)
    · refine lv_iload_n hx hb d_M_row_24 rfl (lv_at hl 3 rfl) ?_
      refine vp_callSi (va_Run.run (va_runS (As := [.int a2]) (rest := []) ⟨hx, hb, hml, hown, hts⟩ (mc_M_isDay l s0 a2) ⟨(mr_cB 1 (hts (Cond.code y_M_isDay b_M_isDay 1 (some .boolean)) mw_9) (hts (Cond.initialized y_M_isDay.cls) mw_10) (hts (Cond.methodLink "MeasureRows" 83 y_M_isDay) mw_11) rfl rfl (by decide +kernel) ⟨Nat.le_of_ble_eq_true rfl, Nat.le_of_ble_eq_true rfl⟩), (hts (Cond.static y_M_isDay) mw_12)⟩ (mr_pre0 hBH) rfl rfl hl.1 rfl (lv_room (Nat.le_of_ble_eq_true rfl)) d_M_row_25 ⟨Nat.le_of_ble_eq_true rfl, Nat.le_of_ble_eq_true rfl⟩)) (fun r_7 h_8 => ?_)
      subst h_8
      refine lv_if_eq (tgt := 53) hx hb d_M_row_28 (by decide) (fun c_9 => ?_) (fun c_9 => ?_)
      · obtain ⟨sa, hstr⟩ := mr_str (hts (Cond.stringRef "MeasureRows" 89 "no such days") mw_90) hown
        exact mr_throw (names := mr_up) hx hb hlt hown (by decide +kernel) (by decide +kernel) (hts (Cond.classLink "MeasureRows" 78 mr_iae) mw_77) (hts (Cond.initialized mr_iae) mw_78) hstr (hB.own _ mr_a_iae) (hl.1.trans hml.symm) d_M_row_53 d_M_row_56 d_M_row_57 d_M_row_59 d_M_row_62 hno (Nat.le_of_ble_eq_true rfl) (Nat.le_of_ble_eq_true rfl) (Nat.le_of_ble_eq_true rfl) (Nat.le_of_ble_eq_true rfl) hlocks (Or.inl ⟨rfl, by unfold mk_M_row0; rw [if_neg c_3, if_neg c_6, if_pos c_9]⟩) (Nat.le_of_ble_eq_true rfl) (Nat.le_of_ble_eq_true rfl)
      · refine lv_iload hx hb d_M_row_31 (lv_at hl 4 rfl) ?_
        refine vp_callSi (va_Run.run (va_runS (As := [.int a3]) (rest := []) ⟨hx, hb, hml, hown, hts⟩ (mc_M_isLastDay l s0 a3) ⟨(mr_cB 1 (hts (Cond.code y_M_isLastDay b_M_isLastDay 1 (some .boolean)) mw_131) (hts (Cond.initialized y_M_isLastDay.cls) mw_132) (hts (Cond.methodLink "MeasureRows" 86 y_M_isLastDay) mw_133) rfl rfl (by decide +kernel) ⟨Nat.le_of_ble_eq_true rfl, Nat.le_of_ble_eq_true rfl⟩), (hts (Cond.static y_M_isLastDay) mw_134)⟩ (mr_pre0 hBH) rfl rfl hl.1 rfl (lv_room (Nat.le_of_ble_eq_true rfl)) d_M_row_33 ⟨Nat.le_of_ble_eq_true rfl, Nat.le_of_ble_eq_true rfl⟩)) (fun r_10 h_11 => ?_)
        subst h_11
        refine lv_if_eq (tgt := 53) hx hb d_M_row_36 (by decide) (fun c_12 => ?_) (fun c_12 => ?_)
        · obtain ⟨sa, hstr⟩ := mr_str (hts (Cond.stringRef "MeasureRows" 89 "no such days") mw_90) hown
          exact mr_throw (names := mr_up) hx hb hlt hown (by decide +kernel) (by decide +kernel) (hts (Cond.classLink "MeasureRows" 78 mr_iae) mw_77) (hts (Cond.initialized mr_iae) mw_78) hstr (hB.own _ mr_a_iae) (hl.1.trans hml.symm) d_M_row_53 d_M_row_56 d_M_row_57 d_M_row_59 d_M_row_62 hno (Nat.le_of_ble_eq_true rfl) (Nat.le_of_ble_eq_true rfl) (Nat.le_of_ble_eq_true rfl) (Nat.le_of_ble_eq_true rfl) hlocks (Or.inl ⟨rfl, by unfold mk_M_row0; rw [if_neg c_3, if_neg c_6, if_neg c_9, if_pos c_12]⟩) (Nat.le_of_ble_eq_true rfl) (Nat.le_of_ble_eq_true rfl)
        · refine lv_iload hx hb d_M_row_39 (lv_at hl 7 rfl) ?_
          refine vp_callSi (va_Run.run (va_runS (As := [.int a6]) (rest := []) ⟨hx, hb, hml, hown, hts⟩ (mc_M_isDay l s0 a6) ⟨(mr_cB 1 (hts (Cond.code y_M_isDay b_M_isDay 1 (some .boolean)) mw_9) (hts (Cond.initialized y_M_isDay.cls) mw_10) (hts (Cond.methodLink "MeasureRows" 83 y_M_isDay) mw_11) rfl rfl (by decide +kernel) ⟨Nat.le_of_ble_eq_true rfl, Nat.le_of_ble_eq_true rfl⟩), (hts (Cond.static y_M_isDay) mw_12)⟩ (mr_pre0 hBH) rfl rfl hl.1 rfl (lv_room (Nat.le_of_ble_eq_true rfl)) d_M_row_41 ⟨Nat.le_of_ble_eq_true rfl, Nat.le_of_ble_eq_true rfl⟩)) (fun r_13 h_14 => ?_)
          subst h_14
          refine lv_if_eq (tgt := 53) hx hb d_M_row_44 (by decide) (fun c_15 => ?_) (fun c_15 => ?_)
          · obtain ⟨sa, hstr⟩ := mr_str (hts (Cond.stringRef "MeasureRows" 89 "no such days") mw_90) hown
            exact mr_throw (names := mr_up) hx hb hlt hown (by decide +kernel) (by decide +kernel) (hts (Cond.classLink "MeasureRows" 78 mr_iae) mw_77) (hts (Cond.initialized mr_iae) mw_78) hstr (hB.own _ mr_a_iae) (hl.1.trans hml.symm) d_M_row_53 d_M_row_56 d_M_row_57 d_M_row_59 d_M_row_62 hno (Nat.le_of_ble_eq_true rfl) (Nat.le_of_ble_eq_true rfl) (Nat.le_of_ble_eq_true rfl) (Nat.le_of_ble_eq_true rfl) hlocks (Or.inl ⟨rfl, by unfold mk_M_row0; rw [if_neg c_3, if_neg c_6, if_neg c_9, if_neg c_12, if_pos c_15]⟩) (Nat.le_of_ble_eq_true rfl) (Nat.le_of_ble_eq_true rfl)
          · refine lv_iload hx hb d_M_row_47 (lv_at hl 4 rfl) ?_
            refine lv_iload_n hx hb d_M_row_49 rfl (lv_at hl 3 rfl) ?_
            refine lv_icmp_ge (tgt := 63) hx hb d_M_row_50 (by decide) (fun c_16 => ?_) (fun c_16 => ?_)
            · refine lv_iload hx hb d_M_row_63 (lv_at hl 5 rfl) ?_
              refine lv_if_lt (tgt := 87) hx hb d_M_row_65 (by decide) (fun c_17 => ?_) (fun c_17 => ?_)
              · obtain ⟨sa, hstr⟩ := mr_str (hts (Cond.stringRef "MeasureRows" 91 "no such kind or rank") mw_135) hown
                exact mr_throw (names := mr_up) hx hb hlt hown (by decide +kernel) (by decide +kernel) (hts (Cond.classLink "MeasureRows" 78 mr_iae) mw_77) (hts (Cond.initialized mr_iae) mw_78) hstr (hB.own _ mr_a_iae) (hl.1.trans hml.symm) d_M_row_87 d_M_row_90 d_M_row_91 d_M_row_93 d_M_row_96 hno (Nat.le_of_ble_eq_true rfl) (Nat.le_of_ble_eq_true rfl) (Nat.le_of_ble_eq_true rfl) (Nat.le_of_ble_eq_true rfl) hlocks (Or.inl ⟨rfl, by unfold mk_M_row0; rw [if_neg c_3, if_neg c_6, if_neg c_9, if_neg c_12, if_neg c_15, if_pos c_16, if_pos c_17]⟩) (Nat.le_of_ble_eq_true rfl) (Nat.le_of_ble_eq_true rfl)
              · refine lv_iload hx hb d_M_row_68 (lv_at hl 5 rfl) ?_
                refine lv_bipush (v := 8) hx hb d_M_row_70 (by decide) ?_
                refine lv_icmp_ge (tgt := 87) hx hb d_M_row_72 (by decide) (fun c_18 => ?_) (fun c_18 => ?_)
                · obtain ⟨sa, hstr⟩ := mr_str (hts (Cond.stringRef "MeasureRows" 91 "no such kind or rank") mw_135) hown
                  exact mr_throw (names := mr_up) hx hb hlt hown (by decide +kernel) (by decide +kernel) (hts (Cond.classLink "MeasureRows" 78 mr_iae) mw_77) (hts (Cond.initialized mr_iae) mw_78) hstr (hB.own _ mr_a_iae) (hl.1.trans hml.symm) d_M_row_87 d_M_row_90 d_M_row_91 d_M_row_93 d_M_row_96 hno (Nat.le_of_ble_eq_true rfl) (Nat.le_of_ble_eq_true rfl) (Nat.le_of_ble_eq_true rfl) (Nat.le_of_ble_eq_true rfl) hlocks (Or.inl ⟨rfl, by unfold mk_M_row0; rw [if_neg c_3, if_neg c_6, if_neg c_9, if_neg c_12, if_neg c_15, if_pos c_16, if_neg c_17, if_pos c_18]⟩) (Nat.le_of_ble_eq_true rfl) (Nat.le_of_ble_eq_true rfl)
                · refine lv_iload hx hb d_M_row_75 (lv_at hl 6 rfl) ?_
                  refine lv_if_lt (tgt := 87) hx hb d_M_row_77 (by decide) (fun c_19 => ?_) (fun c_19 => ?_)
                  · obtain ⟨sa, hstr⟩ := mr_str (hts (Cond.stringRef "MeasureRows" 91 "no such kind or rank") mw_135) hown
                    exact mr_throw (names := mr_up) hx hb hlt hown (by decide +kernel) (by decide +kernel) (hts (Cond.classLink "MeasureRows" 78 mr_iae) mw_77) (hts (Cond.initialized mr_iae) mw_78) hstr (hB.own _ mr_a_iae) (hl.1.trans hml.symm) d_M_row_87 d_M_row_90 d_M_row_91 d_M_row_93 d_M_row_96 hno (Nat.le_of_ble_eq_true rfl) (Nat.le_of_ble_eq_true rfl) (Nat.le_of_ble_eq_true rfl) (Nat.le_of_ble_eq_true rfl) hlocks (Or.inl ⟨rfl, by unfold mk_M_row0; rw [if_neg c_3, if_neg c_6, if_neg c_9, if_neg c_12, if_neg c_15, if_pos c_16, if_neg c_17, if_neg c_18, if_pos c_19]⟩) (Nat.le_of_ble_eq_true rfl) (Nat.le_of_ble_eq_true rfl)
                  · refine lv_iload hx hb d_M_row_80 (lv_at hl 6 rfl) ?_
                    refine lv_bipush (v := 10) hx hb d_M_row_82 (by decide) ?_
                    refine lv_icmp_lt (tgt := 97) hx hb d_M_row_84 (by decide) (fun c_20 => ?_) (fun c_20 => ?_)
                    · refine lv_aload_n hx hb d_M_row_97 rfl (lv_at hl 0 rfl) ?_
                      refine va_get (D := (dC, dI)) (ci := 0) (v := .int (nI 0)) (C := R_M) (T := T_M) (N := 9) hx hb hts ti_M hown hK hP 0 rfl rfl 2 (by decide) (hts (Cond.fieldLink "MeasureRows" 22 "MeasureRows" "rowCount" "I") mw_40) (fun _ h9 => h9) rfl d_M_row_98 ?_
                      refine lv_bipush (v := 80) hx hb d_M_row_101 (by decide) ?_
                      refine lv_icmp_lt (tgt := 116) hx hb d_M_row_103 (by decide) (fun _ => ?_) (fun c_21 => absurd c_21 (by decide))
                      refine lv_aload_n hx hb d_M_row_116 rfl (lv_at hl 0 rfl) ?_
                      refine lv_iload_n hx hb d_M_row_117 rfl (lv_at hl 1 rfl) ?_
                      refine lv_iload_n hx hb d_M_row_118 rfl (lv_at hl 2 rfl) ?_
                      refine lv_iload_n hx hb d_M_row_119 rfl (lv_at hl 3 rfl) ?_
                      refine lv_iload hx hb d_M_row_120 (lv_at hl 4 rfl) ?_
                      refine lv_iload hx hb d_M_row_122 (lv_at hl 5 rfl) ?_
                      refine lv_iload hx hb d_M_row_124 (lv_at hl 6 rfl) ?_
                      refine vp_callSi (va_Run.run (va_runV (As := [.int a0, .int a1, .int a2, .int a3, .int a4, .int a5]) (rest := []) (C := R_M) ⟨hx, hb, hml, hown, hts⟩ (mc_M_leastClash l s0 dC dI cI cR cL cZ r a0 a1 a2 a3 a4 a5) ⟨(mr_cB 6 (hts (Cond.code y_M_leastClash b_M_leastClash 9 (some .int)) mw_136) (hts (Cond.initialized y_M_leastClash.cls) mw_137) (hts (Cond.methodLink "MeasureRows" 98 y_M_leastClash) mw_138) rfl rfl (by decide +kernel) ⟨Nat.le_of_ble_eq_true rfl, Nat.le_of_ble_eq_true rfl⟩), (hts (Cond.instanceMethod y_M_leastClash) mw_139), (hts (Cond.selects "MeasureRows" y_M_leastClash y_M_leastClash) mw_140)⟩ (mr_preV hBH hK (hP.sub (ws' := [((r 0), .inr (0, mf_M r (nI 0) 0 0 0))]) [0] rfl) (ci := 0) (q0 := 0) rfl rfl) rfl rfl hl.1 rfl (lv_room (Nat.le_of_ble_eq_true rfl)) d_M_row_126 ⟨Nat.le_of_ble_eq_true rfl, Nat.le_of_ble_eq_true rfl⟩)) (fun r_22 h_23 => ?_)
                      subst h_23
                      refine mr_top (y := (-1)) rfl ?_
                      refine lv_istore (lv' := [(8, .int (-1)), (0, .ref (r 0)), (1, .int a0), (2, .int a1), (3, .int a2), (4, .int a3), (5, .int a4), (6, .int a5), (7, .int a6)]) hx hb d_M_row_129 hl (by decide) rfl (fun ls hl => ?_)
                      refine lv_iload hx hb d_M_row_131 (lv_at hl 0 rfl) ?_
                      refine lv_iconst (v := (-1)) hx hb d_M_row_133 (by decide) ?_
                      refine lv_icmp_eq (tgt := 142) hx hb d_M_row_134 (by decide) (fun _ => ?_) (fun c_24 => absurd c_24 (by decide))
                      refine lv_aload_n hx hb d_M_row_142 rfl (lv_at hl 1 rfl) ?_
                      refine va_get (D := (dC, dI)) (ci := 0) (v := .ref (r 4)) (C := R_M) (T := T_M) (N := 9) hx hb hts ti_M hown hK hP 0 rfl rfl 1 (by decide) (hts (Cond.fieldLink "MeasureRows" 18 "MeasureRows" "rows" "[LMeasureRows$Row;") mw_41) (fun _ h9 => h9) rfl d_M_row_143 ?_
                      refine lv_aload_n hx hb d_M_row_146 rfl (lv_at hl 1 rfl) ?_
                      refine va_get (D := (dC, dI)) (ci := 0) (v := .int (nI 0)) (C := R_M) (T := T_M) (N := 9) hx hb hts ti_M hown hK hP 0 rfl rfl 2 (by decide) (hts (Cond.fieldLink "MeasureRows" 22 "MeasureRows" "rowCount" "I") mw_40) (fun _ h9 => h9) rfl d_M_row_147 ?_
                      refine va_new (ci := 2) (fs := [.int 0, .int 0, .int 0, .int 0, .int 0, .int 0, .int 0, .int 0, .int 0, .null, .null]) (C := R_R) (T := T_R) (N := 11) hx hb hts ti_R t_R to_R hown (hts (Cond.classLink "MeasureRows" 16 R_R) mw_141) (hts (Cond.instantiable R_R 11) mw_142) (hts (Cond.initialized R_R) mw_143) hK hP hD hS hA rfl (fun j hj => by rcases (show j = 0 ∨ j = 1 ∨ j = 2 ∨ j = 3 ∨ j = 4 ∨ j = 5 ∨ j = 6 ∨ j = 7 ∨ j = 8 ∨ j = 9 ∨ j = 10 by omega) with rfl | rfl | rfl | rfl | rfl | rfl | rfl | rfl | rfl | rfl | rfl <;> rfl) (Nat.le_of_ble_eq_true rfl) (Nat.le_of_ble_eq_true rfl) d_M_row_150 (fun q_25 H hP hD hS => ?_)
                      have hP : va_P (dC, dI) mr_cl [((r 0), .inr (0, mf_M r (nI 0) 0 0 0)), ((r 1), .inr (1, [.ref (r 2), .ref (r 3)])), ((r 2), .inl (cI, 8, .inl (fun _ => 0))), ((r 3), .inl (cI, 8, .inl (fun _ => 0))), ((r 4), .inl (cR, 80, .inr (.inr (.inr (.inr (fun _ => none)))))), ((r 5), .inl (cI, 80, .inl (fun _ => 0))), ((r 6), .inl (cI, 80, .inl (fun _ => 0))), ((r 7), .inl (cI, 8, .inl (fun _ => 0))), (q_25, .inr (2, [.int 0, .int 0, .int 0, .int 0, .int 0, .int 0, .int 0, .int 0, .int 0, .null, .null]))] H := hP
                      have hD : va_D A [((r 0), .inr (0, mf_M r (nI 0) 0 0 0)), ((r 1), .inr (1, [.ref (r 2), .ref (r 3)])), ((r 2), .inl (cI, 8, .inl (fun _ => 0))), ((r 3), .inl (cI, 8, .inl (fun _ => 0))), ((r 4), .inl (cR, 80, .inr (.inr (.inr (.inr (fun _ => none)))))), ((r 5), .inl (cI, 80, .inl (fun _ => 0))), ((r 6), .inl (cI, 80, .inl (fun _ => 0))), ((r 7), .inl (cI, 8, .inl (fun _ => 0))), (q_25, .inr (2, [.int 0, .int 0, .int 0, .int 0, .int 0, .int 0, .int 0, .int 0, .int 0, .null, .null]))] := hD
                      have hBH := hB.at hS hA0
                      refine W.widen (k := 1) (n := 11) (by omega) (by omega) ?_
                      refine lv_dup hx hb d_M_row_153 rfl ?_
                      refine lv_iload_n hx hb d_M_row_154 rfl (lv_at hl 2 rfl) ?_
                      refine lv_iload_n hx hb d_M_row_155 rfl (lv_at hl 3 rfl) ?_
                      refine lv_iload_n hx hb d_M_row_156 rfl (lv_at hl 4 rfl) ?_
                      refine lv_iload hx hb d_M_row_157 (lv_at hl 5 rfl) ?_
                      refine lv_iload hx hb d_M_row_159 (lv_at hl 6 rfl) ?_
                      refine lv_iload hx hb d_M_row_161 (lv_at hl 7 rfl) ?_
                      refine lv_iload hx hb d_M_row_163 (lv_at hl 8 rfl) ?_
                      have hPc := hP.sub (ws' := [(q_25, .inr (2, [.int 0, .int 0, .int 0, .int 0, .int 0, .int 0, .int 0, .int 0, .int 0, .null, .null]))]) [8] rfl
                      have hDc := hD.sub (ws' := [(q_25, .inr (2, [.int 0, .int 0, .int 0, .int 0, .int 0, .int 0, .int 0, .int 0, .int 0, .null, .null]))]) [8] (by decide) rfl
                      have hFc := va_free (wc := [(q_25, .inr (2, [.int 0, .int 0, .int 0, .int 0, .int 0, .int 0, .int 0, .int 0, .int 0, .null, .null]))]) hD hS hA [8] rfl
                      refine va_callv (va_runI (As := [.int a0, .int a1, .int a2, .int a3, .int a4, .int a5, .int a6]) (rest := [.ref q_25, .int (nI 0), .ref (r 4)]) ⟨hx, hb, hml, hown, hts⟩ (mc_R_init l s0 dC dI cI cR cL cZ q_25 _ a0 a1 a2 a3 a4 a5 a6) ⟨(mr_cB 7 (hts (Cond.code y_R_init b_R_init 8 none) mw_144) (hts (Cond.initialized y_R_init.cls) mw_145) (hts (Cond.methodLink "MeasureRows" 102 y_R_init) mw_146) rfl rfl (by decide +kernel) ⟨Nat.le_of_ble_eq_true rfl, Nat.le_of_ble_eq_true rfl⟩), rfl, (hts (Cond.instanceMethod y_R_init) mw_147)⟩ (mr_preCS hBH hK hPc (hDc.weaken (fun _ _ _ h => hA0 _ h))) rfl rfl hl.1 rfl (lv_room (Nat.le_of_ble_eq_true rfl)) d_M_row_165 ⟨Nat.le_of_ble_eq_true rfl, Nat.le_of_ble_eq_true rfl⟩) hS (fun q _ h => hFc q h) hFc (fun u_27 t H1 locs ht hvm hw hB1 hz1 hk1 hS => ?_)
                      obtain ⟨rl_28, rk_29⟩ := u_27
                      obtain ⟨hP1, hK1, hD1⟩ := hB1
                      rw [ht] at hP1
                      obtain ⟨hP, hD⟩ := va_join (wr := [((r 0), .inr (0, mf_M r (nI 0) 0 0 0)), ((r 1), .inr (1, [.ref (r 2), .ref (r 3)])), ((r 2), .inl (cI, 8, .inl (fun _ => 0))), ((r 3), .inl (cI, 8, .inl (fun _ => 0))), ((r 4), .inl (cR, 80, .inr (.inr (.inr (.inr (fun _ => none)))))), ((r 5), .inl (cI, 80, .inl (fun _ => 0))), ((r 6), .inl (cI, 80, .inl (fun _ => 0))), ((r 7), .inl (cI, 8, .inl (fun _ => 0)))]) (w1 := [(q_25, .inr (2, [.int a0, .int a1, .int a2, .int a4, .int a5, .int a6, .int 0, .int 0, .int 1, .ref rl_28, .ref rk_29])), (rl_28, .inl (cI, 8, .inl (upd (fun _ => 0) (0 : Int32).toNatClampNeg a3))), (rk_29, .inl (cI, 8, .inl (upd (fun _ => 0) (0 : Int32).toNatClampNeg a6)))]) hP hD [8] [0, 1, 2, 3, 4, 5, 6, 7] rfl rfl (by decide) (by decide) hk1 hFc hP1 hD1
                      clear hK1 hk1 hPc hDc hFc
                      generalize H1 = H at hP hS ht ⊢
                      have hP : va_P (dC, dI) mr_cl [((r 0), .inr (0, mf_M r (nI 0) 0 0 0)), ((r 1), .inr (1, [.ref (r 2), .ref (r 3)])), ((r 2), .inl (cI, 8, .inl (fun _ => 0))), ((r 3), .inl (cI, 8, .inl (fun _ => 0))), ((r 4), .inl (cR, 80, .inr (.inr (.inr (.inr (fun _ => none)))))), ((r 5), .inl (cI, 80, .inl (fun _ => 0))), ((r 6), .inl (cI, 80, .inl (fun _ => 0))), ((r 7), .inl (cI, 8, .inl (fun _ => 0))), (q_25, .inr (2, [.int a0, .int a1, .int a2, .int a4, .int a5, .int a6, .int 0, .int 0, .int 1, .ref rl_28, .ref rk_29])), (rl_28, .inl (cI, 8, .inl (upd (fun _ => 0) (0 : Int32).toNatClampNeg a3))), (rk_29, .inl (cI, 8, .inl (upd (fun _ => 0) (0 : Int32).toNatClampNeg a6)))] H := hP
                      have hD : va_D A [((r 0), .inr (0, mf_M r (nI 0) 0 0 0)), ((r 1), .inr (1, [.ref (r 2), .ref (r 3)])), ((r 2), .inl (cI, 8, .inl (fun _ => 0))), ((r 3), .inl (cI, 8, .inl (fun _ => 0))), ((r 4), .inl (cR, 80, .inr (.inr (.inr (.inr (fun _ => none)))))), ((r 5), .inl (cI, 80, .inl (fun _ => 0))), ((r 6), .inl (cI, 80, .inl (fun _ => 0))), ((r 7), .inl (cI, 8, .inl (fun _ => 0))), (q_25, .inr (2, [.int a0, .int a1, .int a2, .int a4, .int a5, .int a6, .int 0, .int 0, .int 1, .ref rl_28, .ref rk_29])), (rl_28, .inl (cI, 8, .inl (upd (fun _ => 0) (0 : Int32).toNatClampNeg a3))), (rk_29, .inl (cI, 8, .inl (upd (fun _ => 0) (0 : Int32).toNatClampNeg a6)))] := hD
                      have hBH := hB.at hS hA0
                      refine W.widen (k := 3) (n := 27) (by omega) (by omega) ?_
                      refine va_astq (D := (dC, dI)) hx hb hK hP hD hS 4 1 8 2 rfl rfl rfl rfl (i := (nI 0)) (by unfold vp_in; decide) d_M_row_168 (fun H locs hP hD hS => ?_)
                      have hP : va_P (dC, dI) mr_cl [((r 0), .inr (0, mf_M r (nI 0) 0 0 0)), ((r 1), .inr (1, [.ref (r 2), .ref (r 3)])), ((r 2), .inl (cI, 8, .inl (fun _ => 0))), ((r 3), .inl (cI, 8, .inl (fun _ => 0))), ((r 4), .inl (cR, 80, .inr (.inr (.inr (.inr (va_up (fun _ => none) (nI 0).toNatClampNeg (some q_25))))))), ((r 5), .inl (cI, 80, .inl (fun _ => 0))), ((r 6), .inl (cI, 80, .inl (fun _ => 0))), ((r 7), .inl (cI, 8, .inl (fun _ => 0))), (q_25, .inr (2, [.int a0, .int a1, .int a2, .int a4, .int a5, .int a6, .int 0, .int 0, .int 1, .ref rl_28, .ref rk_29])), (rl_28, .inl (cI, 8, .inl (upd (fun _ => 0) (0 : Int32).toNatClampNeg a3))), (rk_29, .inl (cI, 8, .inl (upd (fun _ => 0) (0 : Int32).toNatClampNeg a6)))] H := hP
                      have hD : va_D A [((r 0), .inr (0, mf_M r (nI 0) 0 0 0)), ((r 1), .inr (1, [.ref (r 2), .ref (r 3)])), ((r 2), .inl (cI, 8, .inl (fun _ => 0))), ((r 3), .inl (cI, 8, .inl (fun _ => 0))), ((r 4), .inl (cR, 80, .inr (.inr (.inr (.inr (va_up (fun _ => none) (nI 0).toNatClampNeg (some q_25))))))), ((r 5), .inl (cI, 80, .inl (fun _ => 0))), ((r 6), .inl (cI, 80, .inl (fun _ => 0))), ((r 7), .inl (cI, 8, .inl (fun _ => 0))), (q_25, .inr (2, [.int a0, .int a1, .int a2, .int a4, .int a5, .int a6, .int 0, .int 0, .int 1, .ref rl_28, .ref rk_29])), (rl_28, .inl (cI, 8, .inl (upd (fun _ => 0) (0 : Int32).toNatClampNeg a3))), (rk_29, .inl (cI, 8, .inl (upd (fun _ => 0) (0 : Int32).toNatClampNeg a6)))] := hD
                      have hBH := hB.at hS hA0
                      refine lv_aload_n hx hb d_M_row_169 rfl (lv_at hl 1 rfl) ?_
                      refine lv_dup hx hb d_M_row_170 rfl ?_
                      refine va_get (D := (dC, dI)) (ci := 0) (v := .int (nI 0)) (C := R_M) (T := T_M) (N := 9) hx hb hts ti_M hown hK hP 0 rfl rfl 2 (by decide) (hts (Cond.fieldLink "MeasureRows" 22 "MeasureRows" "rowCount" "I") mw_40) (fun _ h9 => h9) rfl d_M_row_171 ?_
                      refine lv_iconst (v := 1) hx hb d_M_row_174 (by decide) ?_
                      refine lv_iadd hx hb d_M_row_175 ?_
                      refine mr_top (y := 1) (by decide) ?_
                      refine va_put (D := (dC, dI)) (ci := 0) (v := .int 1) (ty := .int) (C := R_M) (T := T_M) (N := 9) hx hb hts ti_M t_M to_M tn_M hown hK hP hD hS 0 rfl rfl 2 (by decide) (hts (Cond.fieldLink "MeasureRows" 22 "MeasureRows" "rowCount" "I") mw_40) (fun _ h9 => h9) rfl (by decide +kernel) rfl rfl (Nat.le_of_ble_eq_true rfl) d_M_row_176 (fun H locs hP hD hS => ?_)
                      have hP : va_P (dC, dI) mr_cl [((r 0), .inr (0, mf_M r 1 0 0 0)), ((r 1), .inr (1, [.ref (r 2), .ref (r 3)])), ((r 2), .inl (cI, 8, .inl (fun _ => 0))), ((r 3), .inl (cI, 8, .inl (fun _ => 0))), ((r 4), .inl (cR, 80, .inr (.inr (.inr (.inr (va_up (fun _ => none) (nI 0).toNatClampNeg (some q_25))))))), ((r 5), .inl (cI, 80, .inl (fun _ => 0))), ((r 6), .inl (cI, 80, .inl (fun _ => 0))), ((r 7), .inl (cI, 8, .inl (fun _ => 0))), (q_25, .inr (2, [.int a0, .int a1, .int a2, .int a4, .int a5, .int a6, .int 0, .int 0, .int 1, .ref rl_28, .ref rk_29])), (rl_28, .inl (cI, 8, .inl (upd (fun _ => 0) (0 : Int32).toNatClampNeg a3))), (rk_29, .inl (cI, 8, .inl (upd (fun _ => 0) (0 : Int32).toNatClampNeg a6)))] H := hP
                      have hD : va_D A [((r 0), .inr (0, mf_M r 1 0 0 0)), ((r 1), .inr (1, [.ref (r 2), .ref (r 3)])), ((r 2), .inl (cI, 8, .inl (fun _ => 0))), ((r 3), .inl (cI, 8, .inl (fun _ => 0))), ((r 4), .inl (cR, 80, .inr (.inr (.inr (.inr (va_up (fun _ => none) (nI 0).toNatClampNeg (some q_25))))))), ((r 5), .inl (cI, 80, .inl (fun _ => 0))), ((r 6), .inl (cI, 80, .inl (fun _ => 0))), ((r 7), .inl (cI, 8, .inl (fun _ => 0))), (q_25, .inr (2, [.int a0, .int a1, .int a2, .int a4, .int a5, .int a6, .int 0, .int 0, .int 1, .ref rl_28, .ref rk_29])), (rl_28, .inl (cI, 8, .inl (upd (fun _ => 0) (0 : Int32).toNatClampNeg a3))), (rk_29, .inl (cI, 8, .inl (upd (fun _ => 0) (0 : Int32).toNatClampNeg a6)))] := hD
                      have hBH := hB.at hS hA0
                      refine lv_aload_n hx hb d_M_row_179 rfl (lv_at hl 1 rfl) ?_
                      refine lv_aload_n hx hb d_M_row_180 rfl (lv_at hl 1 rfl) ?_
                      refine va_get (D := (dC, dI)) (ci := 0) (v := .int 0) (C := R_M) (T := T_M) (N := 9) hx hb hts ti_M hown hK hP 0 rfl rfl 3 (by decide) (hts (Cond.fieldLink "MeasureRows" 26 "MeasureRows" "now" "I") mw_49) (fun _ h9 => h9) rfl d_M_row_181 ?_
                      refine lv_iload hx hb d_M_row_184 (lv_at hl 8 rfl) ?_
                      refine va_mmax hx hb (hml.trans hl.1.symm) hown (hts (Cond.methodLink "MeasureRows" 105 Lib.Math.max.name) mw_148) (hts (Cond.static Lib.Math.max.name) mw_149) (hts (Cond.initialized "java/lang/Math") mw_150) (hts (Cond.code Lib.Math.max.name Lib.Math.max.code 2 (some .int)) mw_151) (Nat.le_of_ble_eq_true rfl) (Nat.le_of_ble_eq_true rfl) (Nat.le_of_ble_eq_true rfl) (Nat.le_of_ble_eq_true rfl) d_M_row_186 ?_
                      refine va_put (D := (dC, dI)) (ci := 0) (v := .int (if 0 < a6 then a6 else 0)) (ty := .int) (C := R_M) (T := T_M) (N := 9) hx hb hts ti_M t_M to_M tn_M hown hK hP hD hS 0 rfl rfl 3 (by decide) (hts (Cond.fieldLink "MeasureRows" 26 "MeasureRows" "now" "I") mw_49) (fun _ h9 => h9) rfl (by decide +kernel) rfl rfl (Nat.le_of_ble_eq_true rfl) d_M_row_189 (fun H locs hP hD hS => ?_)
                      have hP : va_P (dC, dI) mr_cl [((r 0), .inr (0, mf_M r 1 (if 0 < a6 then a6 else 0) 0 0)), ((r 1), .inr (1, [.ref (r 2), .ref (r 3)])), ((r 2), .inl (cI, 8, .inl (fun _ => 0))), ((r 3), .inl (cI, 8, .inl (fun _ => 0))), ((r 4), .inl (cR, 80, .inr (.inr (.inr (.inr (va_up (fun _ => none) (nI 0).toNatClampNeg (some q_25))))))), ((r 5), .inl (cI, 80, .inl (fun _ => 0))), ((r 6), .inl (cI, 80, .inl (fun _ => 0))), ((r 7), .inl (cI, 8, .inl (fun _ => 0))), (q_25, .inr (2, [.int a0, .int a1, .int a2, .int a4, .int a5, .int a6, .int 0, .int 0, .int 1, .ref rl_28, .ref rk_29])), (rl_28, .inl (cI, 8, .inl (upd (fun _ => 0) (0 : Int32).toNatClampNeg a3))), (rk_29, .inl (cI, 8, .inl (upd (fun _ => 0) (0 : Int32).toNatClampNeg a6)))] H := hP
                      have hD : va_D A [((r 0), .inr (0, mf_M r 1 (if 0 < a6 then a6 else 0) 0 0)), ((r 1), .inr (1, [.ref (r 2), .ref (r 3)])), ((r 2), .inl (cI, 8, .inl (fun _ => 0))), ((r 3), .inl (cI, 8, .inl (fun _ => 0))), ((r 4), .inl (cR, 80, .inr (.inr (.inr (.inr (va_up (fun _ => none) (nI 0).toNatClampNeg (some q_25))))))), ((r 5), .inl (cI, 80, .inl (fun _ => 0))), ((r 6), .inl (cI, 80, .inl (fun _ => 0))), ((r 7), .inl (cI, 8, .inl (fun _ => 0))), (q_25, .inr (2, [.int a0, .int a1, .int a2, .int a4, .int a5, .int a6, .int 0, .int 0, .int 1, .ref rl_28, .ref rk_29])), (rl_28, .inl (cI, 8, .inl (upd (fun _ => 0) (0 : Int32).toNatClampNeg a3))), (rk_29, .inl (cI, 8, .inl (upd (fun _ => 0) (0 : Int32).toNatClampNeg a6)))] := hD
                      have hBH := hB.at hS hA0
                      refine lv_aload_n hx hb d_M_row_192 rfl (lv_at hl 1 rfl) ?_
                      refine va_get (D := (dC, dI)) (ci := 0) (v := .int 1) (C := R_M) (T := T_M) (N := 9) hx hb hts ti_M hown hK hP 0 rfl rfl 2 (by decide) (hts (Cond.fieldLink "MeasureRows" 22 "MeasureRows" "rowCount" "I") mw_40) (fun _ h9 => h9) rfl d_M_row_193 ?_
                      refine mr_ret ?_
                      exact W.iret (v := 1) hx hb hr (fun t ht hW => ⟨⟨_, (), rfl, ⟨by unfold mk_M_row0; rw [if_neg c_3, if_neg c_6, if_neg c_9, if_neg c_12, if_neg c_15, if_pos c_16, if_neg c_17, if_neg c_18, if_neg c_19, if_pos c_20], by decide⟩, trivial⟩, hS.F ht⟩) hS.2.2 d_M_row_196
                    · obtain ⟨sa, hstr⟩ := mr_str (hts (Cond.stringRef "MeasureRows" 91 "no such kind or rank") mw_135) hown
                      exact mr_throw (names := mr_up) hx hb hlt hown (by decide +kernel) (by decide +kernel) (hts (Cond.classLink "MeasureRows" 78 mr_iae) mw_77) (hts (Cond.initialized mr_iae) mw_78) hstr (hB.own _ mr_a_iae) (hl.1.trans hml.symm) d_M_row_87 d_M_row_90 d_M_row_91 d_M_row_93 d_M_row_96 hno (Nat.le_of_ble_eq_true rfl) (Nat.le_of_ble_eq_true rfl) (Nat.le_of_ble_eq_true rfl) (Nat.le_of_ble_eq_true rfl) hlocks (Or.inl ⟨rfl, by unfold mk_M_row0; rw [if_neg c_3, if_neg c_6, if_neg c_9, if_neg c_12, if_neg c_15, if_pos c_16, if_neg c_17, if_neg c_18, if_neg c_19, if_neg c_20]⟩) (Nat.le_of_ble_eq_true rfl) (Nat.le_of_ble_eq_true rfl)
            · obtain ⟨sa, hstr⟩ := mr_str (hts (Cond.stringRef "MeasureRows" 89 "no such days") mw_90) hown
              exact mr_throw (names := mr_up) hx hb hlt hown (by decide +kernel) (by decide +kernel) (hts (Cond.classLink "MeasureRows" 78 mr_iae) mw_77) (hts (Cond.initialized mr_iae) mw_78) hstr (hB.own _ mr_a_iae) (hl.1.trans hml.symm) d_M_row_53 d_M_row_56 d_M_row_57 d_M_row_59 d_M_row_62 hno (Nat.le_of_ble_eq_true rfl) (Nat.le_of_ble_eq_true rfl) (Nat.le_of_ble_eq_true rfl) (Nat.le_of_ble_eq_true rfl) hlocks (Or.inl ⟨rfl, by unfold mk_M_row0; rw [if_neg c_3, if_neg c_6, if_neg c_9, if_neg c_12, if_neg c_15, if_neg c_16]⟩) (Nat.le_of_ble_eq_true rfl) (Nat.le_of_ble_eq_true rfl)
    · obtain ⟨sa, hstr⟩ := mr_str (hts (Cond.stringRef "MeasureRows" 80 "no such code or land") mw_126) hown
      exact mr_throw (names := mr_up) hx hb hlt hown (by decide +kernel) (by decide +kernel) (hts (Cond.classLink "MeasureRows" 78 mr_iae) mw_77) (hts (Cond.initialized mr_iae) mw_78) hstr (hB.own _ mr_a_iae) (hl.1.trans hml.symm) d_M_row_14 d_M_row_17 d_M_row_18 d_M_row_20 d_M_row_23 hno (Nat.le_of_ble_eq_true rfl) (Nat.le_of_ble_eq_true rfl) (Nat.le_of_ble_eq_true rfl) (Nat.le_of_ble_eq_true rfl) hlocks (Or.inl ⟨rfl, by unfold mk_M_row0; rw [if_neg c_3, if_pos c_6]⟩) (Nat.le_of_ble_eq_true rfl) (Nat.le_of_ble_eq_true rfl)

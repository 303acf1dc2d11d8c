/-! ### the candidates: rows that hit, one behind another (by hand) -/
theorem mr_cnt_flat {P : Nat → Int32} {M : Nat} : ∀ k, (∀ x, M ≤ x → x < M + k → P x = 0) → mr_cnt P (M + k) = mr_cnt P M := by
  intro k
  induction k with
  | zero => intro _; rfl
  | succ k ih =>
    intro h
    rw [show M + (k + 1) = (M + k) + 1 by omega, mr_cnt_n (h (M + k) (by omega) (by omega))]
    exact ih (fun x h1 h2 => h x h1 (by omega))
theorem mr_cnt_flat' {P : Nat → Int32} {M m : Nat} (hm : M ≤ m) (h : ∀ x, M ≤ x → x < m → P x = 0) : mr_cnt P m = mr_cnt P M := by
  have := mr_cnt_flat (P := P) (M := M) (m - M) (fun x h1 h2 => h x h1 (by omega))
  rw [show M + (m - M) = m by omega] at this
  exact this
theorem mr_next {P : Nat → Int32} {n : Nat} : ∀ k M, M + k = n → mr_cnt P M < mr_cnt P n → ∃ m, M ≤ m ∧ m < n ∧ ¬ P m = 0 ∧ mr_cnt P m = mr_cnt P M ∧ ∀ x, M ≤ x → x < m → P x = 0 := by
  intro k
  induction k with
  | zero =>
    intro M e h
    rw [show M = n by omega] at h
    omega
  | succ k ih =>
    intro M e h
    by_cases c : P M = 0
    · have e1 := mr_cnt_n c
      obtain ⟨m, h1, h2, h3, h4, h5⟩ := ih (M + 1) (by omega) (by rw [e1]; exact h)
      exact ⟨m, by omega, h2, h3, by rw [h4, e1], fun x x1 x2 => by
        by_cases ex : x = M
        · rw [ex]; exact c
        · exact h5 x (by omega) x2⟩
    · exact ⟨M, Nat.le_refl M, by omega, c, rfl, fun x x1 x2 => by omega⟩
/-- the i-th candidate -/
theorem mr_cand {P : Nat → Int32} {n M i : Nat} (hM : M ≤ n) (hi : mr_cnt P M = i) (hlt : i < mr_cnt P n) : ∃ m, M ≤ m ∧ m < n ∧ ¬ P m = 0 ∧ mr_cnt P m = i ∧ ∀ x, M ≤ x → x < m → P x = 0 := by
  obtain ⟨m, h1, h2, h3, h4, h5⟩ := mr_next (P := P) (n := n) (n - M) M (by omega) (by omega)
  exact ⟨m, h1, h2, h3, by rw [h4, hi], h5⟩
/-- of the candidates those whose papers are there -/
def mv_kp (P cpa : Nat → Int32) (pb : Int32) (m : Nat) : Int32 := if P m = 0 then 0 else mv_R_isContentWith (cpa (m + 1)) pb
theorem mv_kp_0 {P cpa : Nat → Int32} {pb : Int32} {m : Nat} (h : P m = 0) : mv_kp P cpa pb m = 0 := by unfold mv_kp; rw [if_pos h]
theorem mv_kp_le (P cpa : Nat → Int32) (pb : Int32) (n : Nat) : mr_cnt (mv_kp P cpa pb) n ≤ mr_cnt P n := by
  induction n with
  | zero => exact Nat.le_refl 0
  | succ n ih =>
    by_cases c : P n = 0
    · rw [mr_cnt_n c, mr_cnt_n (mv_kp_0 c)]; exact ih
    · rw [mr_cnt_y c]
      by_cases c2 : mv_kp P cpa pb n = 0
      · rw [mr_cnt_n c2]; omega
      · rw [mr_cnt_y c2]; omega
/-- the array behind M rows: those kept first, the others from M on as they were -/
def mr_kpI (P cpa : Nat → Int32) (pb : Int32) (n : Nat) (ft : Nat → Int32) (M : Nat) : Prop := (∀ m, m < M → ¬ mv_kp P cpa pb m = 0 → ft (mr_cnt (mv_kp P cpa pb) m) = nI (m + 1)) ∧ ∀ m, M ≤ m → m < n → ¬ P m = 0 → ft (mr_cnt P m) = nI (m + 1)
section KP
variable {P cpa ft : Nat → Int32} {pb : Int32} {n M m q : Nat}
theorem mr_kpflat (hm : M ≤ m) (h5 : ∀ x, M ≤ x → x < m → P x = 0) : mr_cnt (mv_kp P cpa pb) m = mr_cnt (mv_kp P cpa pb) M := mr_cnt_flat' hm (fun x h1 h2 => mv_kp_0 (h5 x h1 h2))
theorem mr_kpN (h : mr_kpI P cpa pb n ft M) (hm : M ≤ m) (h5 : ∀ x, M ≤ x → x < m → P x = 0) (hz : mv_kp P cpa pb m = 0) : mr_kpI P cpa pb n ft (m + 1) := by
  refine ⟨fun x h1 h2 => ?_, fun x h1 h2 h3 => h.2 x (by omega) h2 h3⟩
  by_cases e : x < M
  · exact h.1 x e h2
  · by_cases e2 : x = m
    · subst e2; exact absurd hz h2
    · exact absurd (mv_kp_0 (h5 x (by omega) (by omega))) h2
theorem mr_kpY (h : mr_kpI P cpa pb n ft M) (hm : M ≤ m) (h5 : ∀ x, M ≤ x → x < m → P x = 0) (h3 : ¬ P m = 0) (hq : q = mr_cnt (mv_kp P cpa pb) M) (hq8 : q < 2147483648) : mr_kpI P cpa pb n (upd ft (nI q).toNatClampNeg (nI (m + 1))) (m + 1) := by
  rw [nI_clamp hq8]
  have ef := mr_kpflat (cpa := cpa) (pb := pb) hm h5
  refine ⟨fun x h1 h2 => ?_, fun x h1 h2 h4 => ?_⟩
  · by_cases e2 : x = m
    · subst e2
      rw [ef, ← hq]; simp [upd]
    · have hx : x < M := Classical.byContradiction fun g => h2 (mv_kp_0 (h5 x (by omega) (by omega)))
      have := mr_cnt_lt hx h2
      have hne : mr_cnt (mv_kp P cpa pb) x ≠ q := by omega
      have e3 : upd ft q (nI (m + 1)) (mr_cnt (mv_kp P cpa pb) x) = ft (mr_cnt (mv_kp P cpa pb) x) := by simp [upd, hne]
      rw [e3]; exact h.1 x hx h2
  · have l1 := mr_cnt_lt (show m < x by omega) h3
    have l2 := mv_kp_le P cpa pb m
    have hne : mr_cnt P x ≠ q := by omega
    have e3 : upd ft q (nI (m + 1)) (mr_cnt P x) = ft (mr_cnt P x) := by simp [upd, hne]
    rw [e3]; exact h.2 x (by omega) h2 h4
end KP
/-- the greatest weight of a kind among the first m rows that hit -/
def mr_wt (P w : Nat → Int32) (kd : Nat → Nat) : Nat → Nat → Int32
  | 0, _ => 0
  | m + 1, k => if P m = 0 then mr_wt P w kd m k else if kd m = k then (if mr_wt P w kd m k < w m then w m else mr_wt P w kd m k) else mr_wt P w kd m k
theorem mr_wt_flat {P w : Nat → Int32} {kd : Nat → Nat} {M : Nat} : ∀ k, (∀ x, M ≤ x → x < M + k → P x = 0) → mr_wt P w kd (M + k) = mr_wt P w kd M := by
  intro k
  induction k with
  | zero => intro _; rfl
  | succ k ih =>
    intro h
    have hz := h (M + k) (by omega) (by omega)
    rw [← ih (fun x h1 h2 => h x h1 (by omega))]
    funext z
    show (if P (M + k) = 0 then mr_wt P w kd (M + k) z else _) = _
    rw [if_pos hz]
theorem mr_wt_flat' {P w : Nat → Int32} {kd : Nat → Nat} {M m : Nat} (hm : M ≤ m) (h : ∀ x, M ≤ x → x < m → P x = 0) : mr_wt P w kd m = mr_wt P w kd M := by
  have := mr_wt_flat (P := P) (w := w) (kd := kd) (M := M) (m - M) (fun x h1 h2 => h x h1 (by omega))
  rw [show M + (m - M) = m by omega] at this
  exact this
/-- a row is beaten just where a heavier one of its kind hits -/
theorem mr_wt_lt {P w : Nat → Int32} {kd : Nat → Nat} (k : Nat) (v : Int32) (h0 : ¬ v < 0) : ∀ n, v < mr_wt P w kd n k ↔ ∃ x, x < n ∧ ¬ P x = 0 ∧ kd x = k ∧ v < w x := by
  intro n
  induction n with
  | zero => exact ⟨fun h => absurd h h0, fun ⟨x, hx, _⟩ => absurd hx (Nat.not_lt_zero x)⟩
  | succ n ih =>
    have key : v < mr_wt P w kd (n + 1) k ↔ (v < mr_wt P w kd n k ∨ (¬ P n = 0 ∧ kd n = k ∧ v < w n)) := by
      show v < (if P n = 0 then mr_wt P w kd n k else if kd n = k then (if mr_wt P w kd n k < w n then w n else mr_wt P w kd n k) else mr_wt P w kd n k) ↔ _
      by_cases c1 : P n = 0
      · rw [if_pos c1]; exact ⟨fun h => Or.inl h, fun h => h.elim id (fun h => absurd c1 h.1)⟩
      · rw [if_neg c1]
        by_cases c2 : kd n = k
        · rw [if_pos c2]
          by_cases c3 : mr_wt P w kd n k < w n
          · rw [if_pos c3]
            constructor
            · exact fun h => Or.inr ⟨c1, c2, h⟩
            · rintro (h | h)
              · rw [Int32.lt_iff_toInt_lt] at *; omega
              · exact h.2.2
          · rw [if_neg c3]
            constructor
            · exact fun h => Or.inl h
            · rintro (h | h)
              · exact h
              · have := h.2.2
                rw [Int32.lt_iff_toInt_lt] at *; omega
        · rw [if_neg c2]; exact ⟨fun h => Or.inl h, fun h => h.elim id (fun h => absurd h.2.1 c2)⟩
    rw [key, ih]
    constructor
    · rintro (⟨x, h1, h2⟩ | h)
      · exact ⟨x, by omega, h2⟩
      · exact ⟨n, by omega, h⟩
    · rintro ⟨x, h1, h2⟩
      by_cases e : x = n
      · subst e; exact Or.inr h2
      · exact Or.inl ⟨x, by omega, h2⟩
/-- of kind k, and hit -/
def mr_ofk (U : Nat → Int32) (kd : Nat → Nat) (k m : Nat) : Int32 := if kd m = k then U m else 0
/-- how many of the kinds below k hit -/
def mr_tot (U : Nat → Int32) (kd : Nat → Nat) (n : Nat) : Nat → Nat
  | 0 => 0
  | k + 1 => mr_tot U kd n k + mr_cnt (mr_ofk U kd k) n
theorem mr_tot_congr {U V : Nat → Int32} {kd : Nat → Nat} {n : Nat} (h : ∀ m, m < n → (U m = 0 ↔ V m = 0)) : ∀ k, mr_tot U kd n k = mr_tot V kd n k := by
  intro k
  induction k with
  | zero => rfl
  | succ k ih =>
    show mr_tot U kd n k + mr_cnt (mr_ofk U kd k) n = mr_tot V kd n k + mr_cnt (mr_ofk V kd k) n
    rw [ih, mr_cnt_congr0 (Q := mr_ofk V kd k) (fun m hm => by
      unfold mr_ofk
      by_cases c : kd m = k
      · rw [if_pos c, if_pos c]; exact h m hm
      · rw [if_neg c, if_neg c])]
theorem mr_tot_le (U : Nat → Int32) (kd : Nat → Nat) (n : Nat) (k : Nat) : mr_tot U kd n k ≤ mr_cnt (fun m => if kd m < k then U m else 0) n := by
  induction k with
  | zero => exact Nat.zero_le _
  | succ k ih =>
    have : ∀ n, mr_cnt (fun m => if kd m < k then U m else 0) n + mr_cnt (mr_ofk U kd k) n = mr_cnt (fun m => if kd m < k + 1 then U m else 0) n := by
      intro n
      induction n with
      | zero => rfl
      | succ n ihn =>
        show mr_cnt _ n + (if (if kd n < k then U n else 0) = 0 then 0 else 1) + (mr_cnt _ n + (if (if kd n = k then U n else 0) = 0 then 0 else 1)) = mr_cnt _ n + (if (if kd n < k + 1 then U n else 0) = 0 then 0 else 1)
        rw [← ihn]
        by_cases c1 : kd n < k
        · rw [if_pos c1, if_neg (show ¬ kd n = k by omega), if_pos (show kd n < k + 1 by omega), if_pos (show (0 : Int32) = 0 from rfl)]; omega
        · by_cases c2 : kd n = k
          · rw [if_neg c1, if_pos c2, if_pos (show kd n < k + 1 by omega), if_pos (show (0 : Int32) = 0 from rfl)]; omega
          · rw [if_neg c1, if_neg c2, if_neg (show ¬ kd n < k + 1 by omega), if_pos (show (0 : Int32) = 0 from rfl)]; omega
    show mr_tot U kd n k + mr_cnt (mr_ofk U kd k) n ≤ _
    rw [← this n]
    omega
theorem mr_cnt_eq0 {P : Nat → Int32} {M n : Nat} (hM : M ≤ n) (he : mr_cnt P M = mr_cnt P n) : ∀ x, M ≤ x → x < n → P x = 0 := fun x h1 h2 => Classical.byContradiction fun hp => by
  have a := mr_cnt_mono P (m := M) (x - M)
  rw [show M + (x - M) = x by omega] at a
  have b := mr_cnt_lt h2 hp
  omega
theorem mr_kpEnd {P cpa ft : Nat → Int32} {pb : Int32} {n M : Nat} (h : mr_kpI P cpa pb n ft M) (hM : M ≤ n) (he : mr_cnt P M = mr_cnt P n) : mr_cnt (mv_kp P cpa pb) n = mr_cnt (mv_kp P cpa pb) M ∧ ∀ m, m < n → ¬ mv_kp P cpa pb m = 0 → ft (mr_cnt (mv_kp P cpa pb) m) = nI (m + 1) := by
  have hz := mr_cnt_eq0 hM he
  refine ⟨mr_kpflat hM hz, fun m hm hp => h.1 m (Classical.byContradiction fun g => hp (mv_kp_0 (hz m (by omega) hm))) hp⟩
def mr_kd (fki : Nat → Int32) (m : Nat) : Nat := (fki (m + 1)).toNatClampNeg
def mr_ww (fco fra : Nat → Int32) (m : Nat) : Int32 := mv_R_weight (fco (m + 1)) (fra (m + 1))
theorem mr_kd_eq {fki : Nat → Int32} {m k : Nat} (h : fki (m + 1) = nI k) (hk : k < 8) : mr_kd fki m = k := by
  unfold mr_kd; rw [h, nI_clamp (by omega)]
theorem mr_wtstep {P w fg : Nat → Int32} {kd : Nat → Nat} {M m k0 : Nat} (h : ∀ k, k < 8 → fg k = mr_wt P w kd M k) (hm : M ≤ m) (h5 : ∀ x, M ≤ x → x < m → P x = 0) (h3 : ¬ P m = 0) (hk : kd m = k0) (h8 : k0 < 8) : ∀ k, k < 8 → upd fg (nI k0).toNatClampNeg (if fg (nI k0).toNatClampNeg < w m then w m else fg (nI k0).toNatClampNeg) k = mr_wt P w kd (m + 1) k := fun k hk8 => by
  rw [nI_clamp (by omega)]
  show _ = (if P m = 0 then mr_wt P w kd m k else if kd m = k then (if mr_wt P w kd m k < w m then w m else mr_wt P w kd m k) else mr_wt P w kd m k)
  rw [if_neg h3, mr_wt_flat' hm h5, hk]
  by_cases e : k0 = k
  · subst e
    rw [if_pos rfl, ← h k0 h8]; simp [upd]
  · rw [if_neg e, ← h k hk8]
    have : k ≠ k0 := fun q => e q.symm
    simp [upd, this]
/-- hit, and not beaten -/
def mv_ub (P w : Nat → Int32) (kd : Nat → Nat) (n m : Nat) : Int32 := if P m = 0 then 0 else if kd m < 4 ∧ w m < mr_wt P w kd n (kd m) then 0 else 1
theorem mr_totle {P w : Nat → Int32} {kd : Nat → Nat} {n : Nat} (k M j : Nat) (hj : j < k) (hM : M ≤ n) : mr_tot (mv_ub P w kd n) kd n j + mr_cnt (mr_ofk (mv_ub P w kd n) kd j) M ≤ n := by
  have a := mr_tot_le (mv_ub P w kd n) kd n (j + 1)
  have b := mr_cnt_mono (mr_ofk (mv_ub P w kd n) kd j) (m := M) (n - M)
  rw [show M + (n - M) = n by omega] at b
  have c := mr_cnt_le (fun m => if kd m < j + 1 then mv_ub P w kd n m else 0) n
  have d : mr_tot (mv_ub P w kd n) kd n (j + 1) = mr_tot (mv_ub P w kd n) kd n j + mr_cnt (mr_ofk (mv_ub P w kd n) kd j) n := rfl
  omega
theorem mr_tot0 {P w : Nat → Int32} {kd : Nat → Nat} {n : Nat} (h : mr_cnt P n = 0) : ∀ k, mr_tot (mv_ub P w kd n) kd n k = 0 := fun k => by
  have hz := mr_cnt_eq0 (P := P) (M := 0) (n := n) (Nat.zero_le _) h.symm
  have a := mr_tot_le (mv_ub P w kd n) kd n k
  have b : mr_cnt (fun m => if kd m < k then mv_ub P w kd n m else 0) n = 0 := by
    refine (mr_cnt_flat' (M := 0) (Nat.zero_le _) (fun x h1 h2 => ?_)).trans rfl
    have : mv_ub P w kd n x = 0 := by unfold mv_ub; rw [if_pos (hz x h1 h2)]
    rw [this]; split <;> rfl
  omega
section UB
variable {P w : Nat → Int32} {kd : Nat → Nat} {n M m j : Nat}
theorem mr_ubflat (hm : M ≤ m) (h5 : ∀ x, M ≤ x → x < m → P x = 0) : mr_cnt (mr_ofk (mv_ub P w kd n) kd j) m = mr_cnt (mr_ofk (mv_ub P w kd n) kd j) M := mr_cnt_flat' hm (fun x h1 h2 => by
  unfold mr_ofk mv_ub
  rw [if_pos (h5 x h1 h2)]
  split <;> rfl)
theorem mr_ubK (h : ¬ kd m = j) : mr_ofk (mv_ub P w kd n) kd j m = 0 := by unfold mr_ofk; rw [if_neg h]
theorem mr_ubB (h : kd m < 4 ∧ w m < mr_wt P w kd n (kd m)) : mr_ofk (mv_ub P w kd n) kd j m = 0 := by
  unfold mr_ofk mv_ub
  rw [if_pos h]
  split
  · split <;> rfl
  · rfl
theorem mr_ubY (hk : kd m = j) (hp : ¬ P m = 0) (h : ¬ (kd m < 4 ∧ w m < mr_wt P w kd n (kd m))) : ¬ mr_ofk (mv_ub P w kd n) kd j m = 0 := by
  unfold mr_ofk mv_ub
  rw [if_pos hk, if_neg hp, if_neg h]
  decide
end UB

set_option maxHeartbeats 4000000 in
set_option maxRecDepth 100000 in
theorem mc_M_keepWithPapersX (l : Launch) (s0 : State) (dC : Nat → ClassId) (dI : Nat → Nat → Nat) (cI cR cL cZ : ClassId) (r : Nat → Nat) (n : Nat) (nw pb lc : Int32) (fm fi : Nat → Int32) (fr : Nat → Option Nat) (fl fc fg : Nat → Int32) (L : List Nat) (f : Nat → va_E) (fco fla ffi fki fra fkn cls cpa fe fa fk : Nat → Int32) (cc : Nat) (PP : Nat → Int32) (sz : Nat)  (hc : cc ≤ 80) (hcc : cc = mr_cnt PP n) (hfc : ∀ m, m < n → ¬ PP m = 0 → fc (mr_cnt PP m) = nI (m + 1)) (hX : mr_RX cI n L f fr fco fla ffi fki fra fkn cls cpa fe fa fk) (hN : mr_NX n nw fco fki fra fkn fe fk) : Met l y_M_keepWithPapers [Cond.code y_M_keepWithPapers b_M_keepWithPapers 5 (some .int)] ({ frames := 1, cells := 0, slots := 0, locals := 21 }) (mr_PC s0 (dC, dI) [(cI, .int), (cR, .object "MeasureRows$Row"), (cL, .long), (cZ, .boolean)] [.ref (r 0), .int (nI cc)] (([((r 0), .inr (0, mf_M r (nI n) nw pb lc)), ((r 1), .inr (1, [.ref (r 2), .ref (r 3)])), ((r 2), .inl (cI, 8, .inl fm)), ((r 3), .inl (cI, 8, .inl fi)), ((r 4), .inl (cR, 80, .inr (.inr (.inr (.inr fr))))), ((r 5), .inl (cI, 80, .inl fl)), ((r 6), .inl (cI, 80, .inl fc)), ((r 7), .inl (cI, 8, .inl fg))] : va_W) ++ va_pl L f) sz) (va_Qi (fun rr u => rr = nI (mr_cnt (mv_kp PP cpa pb) n) ∧ ∀ m, m < n → ¬ (mv_kp PP cpa pb) m = 0 → u (mr_cnt (mv_kp PP cpa pb) m) = nI (m + 1)) (fun (u : Nat → Int32) t => mr_W (dC, dI) [(cI, .int), (cR, .object "MeasureRows$Row"), (cL, .long), (cZ, .boolean)] (va_A (([((r 0), .inr (0, mf_M r (nI n) nw pb lc)), ((r 1), .inr (1, [.ref (r 2), .ref (r 3)])), ((r 2), .inl (cI, 8, .inl fm)), ((r 3), .inl (cI, 8, .inl fi)), ((r 4), .inl (cR, 80, .inr (.inr (.inr (.inr fr))))), ((r 5), .inl (cI, 80, .inl fl)), ((r 6), .inl (cI, 80, .inl fc)), ((r 7), .inl (cI, 8, .inl fg))] : va_W) ++ va_pl L f) sz) (([((r 0), .inr (0, mf_M r (nI n) nw pb lc)), ((r 1), .inr (1, [.ref (r 2), .ref (r 3)])), ((r 2), .inl (cI, 8, .inl fm)), ((r 3), .inl (cI, 8, .inl fi)), ((r 4), .inl (cR, 80, .inr (.inr (.inr (.inr fr))))), ((r 5), .inl (cI, 80, .inl fl)), ((r 6), .inl (cI, 80, .inl u)), ((r 7), .inl (cI, 8, .inl fg))] : va_W) ++ va_pl L f) t) (va_A (([((r 0), .inr (0, mf_M r (nI n) nw pb lc)), ((r 1), .inr (1, [.ref (r 2), .ref (r 3)])), ((r 2), .inl (cI, 8, .inl fm)), ((r 3), .inl (cI, 8, .inl fi)), ((r 4), .inl (cR, 80, .inr (.inr (.inr (.inr fr))))), ((r 5), .inl (cI, 80, .inl fl)), ((r 6), .inl (cI, 80, .inl fc)), ((r 7), .inl (cI, 8, .inl fg))] : va_W) ++ va_pl L f) sz)) 0 0 (va_A (([((r 0), .inr (0, mf_M r (nI n) nw pb lc)), ((r 1), .inr (1, [.ref (r 2), .ref (r 3)])), ((r 2), .inl (cI, 8, .inl fm)), ((r 3), .inl (cI, 8, .inl fi)), ((r 4), .inl (cR, 80, .inr (.inr (.inr (.inr fr))))), ((r 5), .inl (cI, 80, .inl fl)), ((r 6), .inl (cI, 80, .inl fc)), ((r 7), .inl (cI, 8, .inl fg))] : va_W) ++ va_pl L f) sz) := by
  refine Met.ofW (cc := b_M_keepWithPapers) (maxL := 5) (ret := (some .int)) (by decide) rfl ?_
  intro p e s m args below meth c s₁ B hml hv
  obtain ⟨rfl, hsz, hB, hK, hP, hD0⟩ := hv
  subst hsz
  have hA0 := mr_A hB hD0
  have hD := hD0.self (sz := s.heap.size)
  generalize hAe : va_A (([((r 0), .inr (0, mf_M r (nI n) nw pb lc)), ((r 1), .inr (1, [.ref (r 2), .ref (r 3)])), ((r 2), .inl (cI, 8, .inl fm)), ((r 3), .inl (cI, 8, .inl fi)), ((r 4), .inl (cR, 80, .inr (.inr (.inr (.inr fr))))), ((r 5), .inl (cI, 80, .inl fl)), ((r 6), .inl (cI, 80, .inl fc)), ((r 7), .inl (cI, 8, .inl fg))] : va_W) ++ va_pl L f) s.heap.size = A at hD hA0 ⊢
  have hA : ∀ q : Nat, s.heap.size ≤ q → A q := fun q h => by rw [← hAe]; exact Or.inr h
  have hS : va_S A s.heap s.heap [] := va_S.rf
  have hP : va_P (dC, dI) mr_cl (([((r 0), .inr (0, mf_M r (nI n) nw pb lc)), ((r 1), .inr (1, [.ref (r 2), .ref (r 3)])), ((r 2), .inl (cI, 8, .inl fm)), ((r 3), .inl (cI, 8, .inl fi)), ((r 4), .inl (cR, 80, .inr (.inr (.inr (.inr fr))))), ((r 5), .inl (cI, 80, .inl fl)), ((r 6), .inl (cI, 80, .inl fc)), ((r 7), .inl (cI, 8, .inl fg))] : va_W) ++ va_pl L f) s.heap := hP
  have hBH := hB.at hS hA0
  have hx := B.exec
  have hb := B.bytes
  have hr := B.returns
  have hlocks := B.notSynchronized
  have hts : ∀ w ∈ lw_tbl, w.before [.ref (r 0), .int (nI cc)].toArray s = true := hB.hts _
  have hown : s.vm.findClass "MeasureRows" = some m.cls := findClass_of_methodNamed B.named
  have hl := lv_entry ([.ref (r 0), .int (nI cc)]) (n := 5) (Nat.le_of_ble_eq_true rfl)
  rw [lg_entry_eq]
  generalize (lg_sl ([.ref (r 0), .int (nI cc)]) ++ List.replicate (5 - (lg_sl ([.ref (r 0), .int (nI cc)])).length) Slot.unset).toArray = ls at hl ⊢
  have hl : lv_has ls 5 [(0, .ref (r 0)), (1, .int (nI cc))] := hl
  refine lv_iconst (v := 0) hx hb d_M_keepWithPapers_0 (by decide) ?_
  refine lv_istore_n (lv' := [(2, .int 0), (0, .ref (r 0)), (1, .int (nI cc))]) hx hb d_M_keepWithPapers_1 rfl hl (by decide) rfl (fun ls hl => ?_)
  refine lv_iconst (v := 0) hx hb d_M_keepWithPapers_2 (by decide) ?_
  refine lv_istore_n (lv' := [(3, .int 0), (2, .int 0), (0, .ref (r 0)), (1, .int (nI cc))]) hx hb d_M_keepWithPapers_3 rfl hl (by decide) rfl (fun ls hl => ?_)
  refine mr_loop (N := cc) (I := fun j H locs ls => ∃ q9 : Nat, ∃ ft9 : Nat → Int32, ∃ M9 : Nat, (M9 ≤ n ∧ mr_cnt PP M9 = j ∧ q9 = mr_cnt (mv_kp PP cpa pb) M9 ∧ mr_kpI PP cpa pb n ft9 M9) ∧ va_P (dC, dI) mr_cl (([((r 0), .inr (0, mf_M r (nI n) nw pb lc)), ((r 1), .inr (1, [.ref (r 2), .ref (r 3)])), ((r 2), .inl (cI, 8, .inl fm)), ((r 3), .inl (cI, 8, .inl fi)), ((r 4), .inl (cR, 80, .inr (.inr (.inr (.inr fr))))), ((r 5), .inl (cI, 80, .inl fl)), ((r 6), .inl (cI, 80, .inl ft9)), ((r 7), .inl (cI, 8, .inl fg))] : va_W) ++ va_pl L f) H ∧ va_D A (([((r 0), .inr (0, mf_M r (nI n) nw pb lc)), ((r 1), .inr (1, [.ref (r 2), .ref (r 3)])), ((r 2), .inl (cI, 8, .inl fm)), ((r 3), .inl (cI, 8, .inl fi)), ((r 4), .inl (cR, 80, .inr (.inr (.inr (.inr fr))))), ((r 5), .inl (cI, 80, .inl fl)), ((r 6), .inl (cI, 80, .inl ft9)), ((r 7), .inl (cI, 8, .inl fg))] : va_W) ++ va_pl L f) ∧ va_S A s.heap H locs ∧ lv_has ls 5 [(3, .int (nI j)), (2, .int (nI q9)), (0, .ref (r 0)), (1, .int (nI cc))]) (fun j H locs ls hj hI9 ih => ?_) (fun H locs ls hI9 => ?_) 0 _ _ _ (Nat.zero_le _) ⟨0, fc, 0, ⟨Nat.zero_le _, rfl, rfl, fun m hm => absurd hm (Nat.not_lt_zero m), fun m _ hm hp => hfc m hm hp⟩, hP, hD, hS, (lv_sub hl [0, 1, 2, 3] rfl)⟩
  · obtain ⟨q9, ft9, M9, hexj, hP, hD, hS, hl⟩ := hI9
    have hBH := hB.at hS hA0
    refine lv_iload_n hx hb d_M_keepWithPapers_4 rfl (lv_at hl 0 rfl) ?_
    refine lv_iload_n hx hb d_M_keepWithPapers_5 rfl (lv_at hl 3 rfl) ?_
    refine lv_icmp_ge (tgt := 59) hx hb d_M_keepWithPapers_6 (by decide) (fun c_1 => absurd c_1 (nI_ge hj (by omega))) (fun _ => ?_)
    obtain ⟨m9, hm1, hm2, hm3, hm4, hm5⟩ := mr_cand hexj.1 hexj.2.1 (by rw [← hcc]; exact hj)
    have hft : ft9 j = nI (m9 + 1) := by have h9 := hexj.2.2.2.2 m9 hm1 hm2 hm3; rw [hm4] at h9; exact h9
    refine lv_aload_n hx hb d_M_keepWithPapers_9 rfl (lv_at hl 2 rfl) ?_
    refine lv_aload_n hx hb d_M_keepWithPapers_10 rfl (lv_at hl 2 rfl) ?_
    refine va_get (D := (dC, dI)) (ci := 0) (v := .ref (r 6)) (C := R_M) (T := T_M) (N := 9) hx hb hts ti_M hown hK hP 0 rfl rfl 7 (by decide) (hts (Cond.fieldLink "MeasureRows" 39 "MeasureRows" "candidates" "[I") mw_62) (fun _ h9 => h9) rfl d_M_keepWithPapers_11 ?_
    refine lv_iload_n hx hb d_M_keepWithPapers_14 rfl (lv_at hl 0 rfl) ?_
    refine va_iald (D := (dC, dI)) hx hb hK hP 6 0 rfl rfl (i := nI j) (nI_in (by omega) (by decide)) d_M_keepWithPapers_15 ?_
    refine mr_top (show ft9 (nI j).toNatClampNeg = nI (m9 + 1) by rw [nI_clamp (by omega)]; exact hft) ?_
    refine va_csq (va_Run.run (va_runV (As := [.int (nI (m9 + 1))]) (rest := []) (C := R_M) ⟨hx, hb, hml, hown, hts⟩ (mc_M_find l s0 dC dI cI cR cL cZ r n nw pb lc fr (nI (m9 + 1)) hX.1) ⟨(mr_cB 1 (hts (Cond.code y_M_find b_M_find 2 (some (.object "MeasureRows$Row"))) mw_117) (hts (Cond.initialized y_M_find.cls) mw_118) (hts (Cond.methodLink "MeasureRows" 111 y_M_find) mw_119) rfl rfl (by decide +kernel) ⟨Nat.le_of_ble_eq_true rfl, Nat.le_of_ble_eq_true rfl⟩), (hts (Cond.instanceMethod y_M_find) mw_120), (hts (Cond.selects "MeasureRows" y_M_find y_M_find) mw_121)⟩ (mr_preV hBH hK (hP.sub (ws' := [((r 0), .inr (0, mf_M r (nI n) nw pb lc)), ((r 4), .inl (cR, 80, .inr (.inr (.inr (.inr fr)))))]) [0, 4] rfl) (ci := 0) (q0 := 0) rfl rfl) rfl rfl hl.1 rfl (lv_room (Nat.le_of_ble_eq_true rfl)) d_M_keepWithPapers_16 ⟨Nat.le_of_ble_eq_true rfl, Nat.le_of_ble_eq_true rfl⟩)) (fun r_2 h_3 => ?_)
    subst h_3
    obtain ⟨a_20, ql_20, qk_20, k_20, t_20, ld_20, kd_20, hf_20, hfi_20, m1_20, m2_20, m3_20, e1_20, e2_20, e3_20, hke_20, hte_20, hk_20, ht_20, ho_20, hne_20, hld_20⟩ := mr_fy hX hN (i := (m9 + 1)) (by omega) (by omega)
    refine mr_topv (show va_rf (mv_M_find n fr (nI (m9 + 1))) = .ref a_20 by rw [hf_20]; rfl) ?_
    have hPr_20 := mr_row3 (X := [((r 0), .inr (0, mf_M r (nI n) nw pb lc)), ((r 1), .inr (1, [.ref (r 2), .ref (r 3)])), ((r 2), .inl (cI, 8, .inl fm)), ((r 3), .inl (cI, 8, .inl fi)), ((r 4), .inl (cR, 80, .inr (.inr (.inr (.inr fr))))), ((r 5), .inl (cI, 80, .inl fl)), ((r 6), .inl (cI, 80, .inl ft9)), ((r 7), .inl (cI, 8, .inl fg))]) hP m1_20 m2_20 m3_20 e1_20 e2_20 e3_20
    refine lv_astore (lv' := [(4, .ref a_20), (3, .int (nI j)), (2, .int (nI q9)), (0, .ref (r 0)), (1, .int (nI cc))]) hx hb d_M_keepWithPapers_19 hl (by decide) rfl (fun ls hl => ?_)
    refine lv_aload hx hb d_M_keepWithPapers_21 (lv_at hl 0 rfl) ?_
    refine lv_ifnull hx hb d_M_keepWithPapers_23 ?_
    refine lv_aload hx hb d_M_keepWithPapers_26 (lv_at hl 0 rfl) ?_
    refine lv_aload_n hx hb d_M_keepWithPapers_28 rfl (lv_at hl 3 rfl) ?_
    refine va_get (D := (dC, dI)) (ci := 0) (v := .int pb) (C := R_M) (T := T_M) (N := 9) hx hb hts ti_M hown hK hP 0 rfl rfl 4 (by decide) (hts (Cond.fieldLink "MeasureRows" 29 "MeasureRows" "paperBits" "I") mw_59) (fun _ h9 => h9) rfl d_M_keepWithPapers_29 ?_
    refine vp_callSi (va_Run.run (va_runV (As := [.int pb]) (rest := []) (C := R_R) ⟨hx, hb, hml, hown, hts⟩ (mc_R_isContentWith l s0 dC dI cI cR cL cZ a_20 ql_20 qk_20 (fco (m9 + 1)) (fla (m9 + 1)) (ffi (m9 + 1)) (nI k_20) (fra (m9 + 1)) (fkn (m9 + 1)) (cls (m9 + 1)) (cpa (m9 + 1)) (nI t_20) pb) ⟨(mr_cB 1 (hts (Cond.code y_R_isContentWith b_R_isContentWith 2 (some .boolean)) mw_209) (hts (Cond.initialized y_R_isContentWith.cls) mw_210) (hts (Cond.methodLink "MeasureRows" 207 y_R_isContentWith) mw_211) rfl rfl (by decide +kernel) ⟨Nat.le_of_ble_eq_true rfl, Nat.le_of_ble_eq_true rfl⟩), (hts (Cond.instanceMethod y_R_isContentWith) mw_212), (hts (Cond.selects "MeasureRows$Row" y_R_isContentWith y_R_isContentWith) mw_213)⟩ (mr_preV hBH hK (hPr_20.sub (ws' := [(a_20, .inr (2, [.int (fco (m9 + 1)), .int (fla (m9 + 1)), .int (ffi (m9 + 1)), .int (nI k_20), .int (fra (m9 + 1)), .int (fkn (m9 + 1)), .int (cls (m9 + 1)), .int (cpa (m9 + 1)), .int (nI t_20), .ref ql_20, .ref qk_20]))]) [0] rfl) (ci := 2) (q0 := 0) rfl rfl) rfl rfl hl.1 rfl (lv_room (Nat.le_of_ble_eq_true rfl)) d_M_keepWithPapers_32 ⟨Nat.le_of_ble_eq_true rfl, Nat.le_of_ble_eq_true rfl⟩)) (fun r_4 h_5 => ?_)
    subst h_5
    refine lv_if_eq (tgt := 53) hx hb d_M_keepWithPapers_35 (by decide) (fun c_6 => ?_) (fun c_6 => ?_)
    · refine lv_iinc (v := nI (j + 1)) (lv' := [(3, .int (nI (j + 1))), (4, .ref a_20), (2, .int (nI q9)), (0, .ref (r 0)), (1, .int (nI cc))]) hx hb d_M_keepWithPapers_53 hl (k := 1) rfl ((nI_succ j).symm) (by decide) rfl (fun ls hl => ?_)
      refine lv_goto (tgt := 4) hx hb d_M_keepWithPapers_56 (by decide) ?_
      have hz9 : mv_kp PP cpa pb m9 = 0 := by unfold mv_kp; rw [if_neg hm3]; exact c_6
      exact ih _ _ _ ⟨q9, ft9, (m9 + 1), ⟨by omega, by rw [mr_cnt_y hm3, hm4], by rw [mr_cnt_n hz9, mr_kpflat hm1 hm5]; exact hexj.2.2.1, mr_kpN hexj.2.2.2 hm1 hm5 hz9⟩, hP, hD, hS, lv_sub hl [0, 2, 3, 4] rfl⟩
    · refine lv_aload_n hx hb d_M_keepWithPapers_38 rfl (lv_at hl 3 rfl) ?_
      refine va_get (D := (dC, dI)) (ci := 0) (v := .ref (r 6)) (C := R_M) (T := T_M) (N := 9) hx hb hts ti_M hown hK hP 0 rfl rfl 7 (by decide) (hts (Cond.fieldLink "MeasureRows" 39 "MeasureRows" "candidates" "[I") mw_62) (fun _ h9 => h9) rfl d_M_keepWithPapers_39 ?_
      refine lv_iload_n hx hb d_M_keepWithPapers_42 rfl (lv_at hl 2 rfl) ?_
      refine lv_aload_n hx hb d_M_keepWithPapers_43 rfl (lv_at hl 3 rfl) ?_
      refine va_get (D := (dC, dI)) (ci := 0) (v := .ref (r 6)) (C := R_M) (T := T_M) (N := 9) hx hb hts ti_M hown hK hP 0 rfl rfl 7 (by decide) (hts (Cond.fieldLink "MeasureRows" 39 "MeasureRows" "candidates" "[I") mw_62) (fun _ h9 => h9) rfl d_M_keepWithPapers_44 ?_
      refine lv_iload_n hx hb d_M_keepWithPapers_47 rfl (lv_at hl 1 rfl) ?_
      refine va_iald (D := (dC, dI)) hx hb hK hP 6 0 rfl rfl (i := nI j) (nI_in (by omega) (by decide)) d_M_keepWithPapers_48 ?_
      refine mr_top (show ft9 (nI j).toNatClampNeg = nI (m9 + 1) by rw [nI_clamp (by omega)]; exact hft) ?_
      refine va_iast (D := (dC, dI)) hx hb hK hP hD hS 6 0 rfl rfl (i := nI q9) (nI_in (by have := mv_kp_le PP cpa pb M9; have := hexj.2.1; have := hexj.2.2.1; omega) (by decide)) d_M_keepWithPapers_49 (fun H locs hP hD hS => ?_)
      have hP : va_P (dC, dI) mr_cl (([((r 0), .inr (0, mf_M r (nI n) nw pb lc)), ((r 1), .inr (1, [.ref (r 2), .ref (r 3)])), ((r 2), .inl (cI, 8, .inl fm)), ((r 3), .inl (cI, 8, .inl fi)), ((r 4), .inl (cR, 80, .inr (.inr (.inr (.inr fr))))), ((r 5), .inl (cI, 80, .inl fl)), ((r 6), .inl (cI, 80, .inl (upd ft9 (nI q9).toNatClampNeg (nI (m9 + 1))))), ((r 7), .inl (cI, 8, .inl fg))] : va_W) ++ va_pl L f) H := hP
      have hD : va_D A (([((r 0), .inr (0, mf_M r (nI n) nw pb lc)), ((r 1), .inr (1, [.ref (r 2), .ref (r 3)])), ((r 2), .inl (cI, 8, .inl fm)), ((r 3), .inl (cI, 8, .inl fi)), ((r 4), .inl (cR, 80, .inr (.inr (.inr (.inr fr))))), ((r 5), .inl (cI, 80, .inl fl)), ((r 6), .inl (cI, 80, .inl (upd ft9 (nI q9).toNatClampNeg (nI (m9 + 1))))), ((r 7), .inl (cI, 8, .inl fg))] : va_W) ++ va_pl L f) := hD
      have hBH := hB.at hS hA0
      have hPr_20 := mr_row3 (X := [((r 0), .inr (0, mf_M r (nI n) nw pb lc)), ((r 1), .inr (1, [.ref (r 2), .ref (r 3)])), ((r 2), .inl (cI, 8, .inl fm)), ((r 3), .inl (cI, 8, .inl fi)), ((r 4), .inl (cR, 80, .inr (.inr (.inr (.inr fr))))), ((r 5), .inl (cI, 80, .inl fl)), ((r 6), .inl (cI, 80, .inl (upd ft9 (nI q9).toNatClampNeg (nI (m9 + 1))))), ((r 7), .inl (cI, 8, .inl fg))]) hP m1_20 m2_20 m3_20 e1_20 e2_20 e3_20
      refine lv_iinc (v := nI (q9 + 1)) (lv' := [(2, .int (nI (q9 + 1))), (4, .ref a_20), (3, .int (nI j)), (0, .ref (r 0)), (1, .int (nI cc))]) hx hb d_M_keepWithPapers_50 hl (k := 2) rfl ((nI_succ q9).symm) (by decide) rfl (fun ls hl => ?_)
      refine lv_iinc (v := nI (j + 1)) (lv' := [(3, .int (nI (j + 1))), (2, .int (nI (q9 + 1))), (4, .ref a_20), (0, .ref (r 0)), (1, .int (nI cc))]) hx hb d_M_keepWithPapers_53 hl (k := 2) rfl ((nI_succ j).symm) (by decide) rfl (fun ls hl => ?_)
      refine lv_goto (tgt := 4) hx hb d_M_keepWithPapers_56 (by decide) ?_
      have hz9 : ¬ mv_kp PP cpa pb m9 = 0 := by unfold mv_kp; rw [if_neg hm3]; exact c_6
      exact ih _ _ _ ⟨(q9 + 1), (upd ft9 (nI q9).toNatClampNeg (nI (m9 + 1))), (m9 + 1), ⟨by omega, by rw [mr_cnt_y hm3, hm4], by rw [mr_cnt_y hz9, mr_kpflat hm1 hm5, hexj.2.2.1], mr_kpY hexj.2.2.2 hm1 hm5 hm3 hexj.2.2.1 (by have := mv_kp_le PP cpa pb M9; have := hexj.2.1; have := hexj.2.2.1; omega)⟩, hP, hD, hS, lv_sub hl [0, 1, 3, 4] rfl⟩
  · obtain ⟨q9, ft9, M9, hexj, hP, hD, hS, hl⟩ := hI9
    have hBH := hB.at hS hA0
    refine lv_iload_n hx hb d_M_keepWithPapers_4 rfl (lv_at hl 0 rfl) ?_
    refine lv_iload_n hx hb d_M_keepWithPapers_5 rfl (lv_at hl 3 rfl) ?_
    refine lv_icmp_ge (tgt := 59) hx hb d_M_keepWithPapers_6 (by decide) (fun _ => ?_) (fun c_7 => absurd (Int32.le_refl _) c_7)
    refine lv_iload_n hx hb d_M_keepWithPapers_59 rfl (lv_at hl 1 rfl) ?_
    have hen := mr_kpEnd hexj.2.2.2 hexj.1 (hexj.2.1.trans hcc)
    have hP9 := hP
    have hD9 := hD
    exact W.iret (v := nI q9) hx hb hr (fun t ht hW => ⟨⟨_, ft9, rfl, ⟨by rw [hen.1, ← hexj.2.2.1], hen.2⟩, by rw [ht]; exact hP9, va_K.moved hW.alike hK, hD9⟩, hS.F ht⟩) hS.2.2 d_M_keepWithPapers_60

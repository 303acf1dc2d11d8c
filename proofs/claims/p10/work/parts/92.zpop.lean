/-! ### how many bits: the class's Integer.bitCount and the reference's bits, for words of sixteen bits (by hand) -/
def bq_pc (v : Int32) : Nat → Nat
  | 0 => 0
  | k + 1 => bq_pc v k + if bt v k = true then 1 else 0
theorem bq_pc_le (v : Int32) (k : Nat) : bq_pc v k ≤ k := by
  induction k with
  | zero => exact Nat.le_refl 0
  | succ k ih =>
    show bq_pc v k + (if bt v k = true then 1 else 0) ≤ k + 1
    split <;> omega
theorem bq_and01 (x : Int32) : x &&& 1 = if bt x 0 = true then 1 else 0 := by
  by_cases h : bt x 0 = true
  · rw [if_pos h]; exact (bq_and1 x).mpr h
  · rw [if_neg h]
    refine b_ext fun i hi => ?_
    rw [b_and, bq_1, b_0]
    by_cases e : i = 0
    · subst e; simp [h]
    · simp [e]
theorem bq_bt (v : Int32) : ∀ k, k ≤ 32 → mv_bt v k = nI (bq_pc v k) := by
  intro k
  induction k with
  | zero => intro _; rfl
  | succ k ih =>
    intro hk
    have e : bt (v >>> (nI k &&& 31)) 0 = bt v k := by
      rw [b_sshr k (by omega) v (i := 0) (by omega), if_pos (by omega)]
      rfl
    rw [mv_bt_s, ih (by omega), bq_and01, e]
    show nI (bq_pc v k) + (if bt v k = true then 1 else 0) = nI (bq_pc v k + if bt v k = true then 1 else 0)
    by_cases c : bt v k = true
    · rw [if_pos c, if_pos c]; exact nI_1 _
    · rw [if_neg c, if_neg c]; exact Int32.add_zero _
theorem bq_bits (v : Int32) : mv_D_bits v = nI (bq_pc v 32) := bq_bt v 32 (Nat.le_refl 32)
theorem bt_nI (x : Nat) {i : Nat} (hi : i < 32) : bt (nI x) i = x.testBit i := by
  show (Int32.ofNat x).toBitVec.getLsbD i = _
  rw [Int32.toBitVec_ofNat', BitVec.getLsbD_ofNat]
  simp [hi]
theorem nI_and (x y : Nat) : nI x &&& nI y = nI (x &&& y) := b_ext fun i hi => by rw [b_and, bt_nI x hi, bt_nI y hi, bt_nI _ hi, Nat.testBit_and]
theorem nI_ushr {x k : Nat} (hx : x < 4294967296) (hk : k < 32) : mr_ushr (nI x) (nI k) = nI (x >>> k) := b_ext fun i hi => by
  show bt ((nI x).toUInt32 >>> ((nI k).toUInt32 &&& Int32.toUInt32 31)).toInt32 i = _
  rw [b_ushr k hk, bt_nI _ hi, Nat.testBit_shiftRight]
  by_cases h : k + i < 32
  · exact bt_nI x h
  · rw [b_big (by omega)]
    exact (Nat.testBit_lt_two_pow (Nat.lt_of_lt_of_le hx (Nat.pow_le_pow_right (n := 2) (by omega) (show 32 ≤ k + i by omega)))).symm
theorem nI_sub {x y : Nat} (h : y ≤ x) : nI x - nI y = nI (x - y) := by
  have e : nI (x - y) + nI y = nI x := by rw [nI_add]; congr 1; omega
  rw [← e, Int32.add_sub_cancel]
def sw1 (m : Nat) : Nat := Nat.sub m (Nat.land (Nat.shiftRight m 1) 1431655765)
def sw2 (x : Nat) : Nat := Nat.add (Nat.land x 858993459) (Nat.land (Nat.shiftRight x 2) 858993459)
def sw3 (x : Nat) : Nat := Nat.land (Nat.add x (Nat.shiftRight x 4)) 252645135
def sw4 (x : Nat) : Nat := Nat.add x (Nat.shiftRight x 8)
def sw5 (x : Nat) : Nat := Nat.add x (Nat.shiftRight x 16)
def swN (m : Nat) : Nat := Nat.land (sw5 (sw4 (sw3 (sw2 (sw1 m))))) 63
def pcN (m : Nat) : Nat := Nat.add (Nat.add (Nat.add (Nat.add (Nat.add (Nat.add (Nat.add (Nat.add (Nat.add (Nat.add (Nat.add (Nat.add (Nat.add (Nat.add (Nat.add (Nat.add 0 (Nat.land (Nat.shiftRight m 0) 1)) (Nat.land (Nat.shiftRight m 1) 1)) (Nat.land (Nat.shiftRight m 2) 1)) (Nat.land (Nat.shiftRight m 3) 1)) (Nat.land (Nat.shiftRight m 4) 1)) (Nat.land (Nat.shiftRight m 5) 1)) (Nat.land (Nat.shiftRight m 6) 1)) (Nat.land (Nat.shiftRight m 7) 1)) (Nat.land (Nat.shiftRight m 8) 1)) (Nat.land (Nat.shiftRight m 9) 1)) (Nat.land (Nat.shiftRight m 10) 1)) (Nat.land (Nat.shiftRight m 11) 1)) (Nat.land (Nat.shiftRight m 12) 1)) (Nat.land (Nat.shiftRight m 13) 1)) (Nat.land (Nat.shiftRight m 14) 1)) (Nat.land (Nat.shiftRight m 15) 1)
def pcs (m : Nat) : Nat → Nat
  | 0 => 0
  | k + 1 => Nat.add (pcs m k) (Nat.land (Nat.shiftRight m k) 1)
theorem pcN_eq (m : Nat) : pcN m = pcs m 16 := rfl
def chk (b : Nat) : Nat → Bool
  | 0 => true
  | n + 1 => and (Nat.beq (swN (Nat.add b n)) (pcN (Nat.add b n))) (chk b n)
def chk2 : Nat → Bool
  | 0 => true
  | n + 1 => and (chk (Nat.mul 256 n) 256) (chk2 n)
set_option maxRecDepth 100000 in
theorem chk_all : chk2 256 = true := by decide +kernel
theorem chk_of {b : Nat} : ∀ n, chk b n = true → ∀ j, j < n → swN (b + j) = pcN (b + j) := by
  intro n
  induction n with
  | zero => intro _ j hj; omega
  | succ n ih =>
    intro h j hj
    have h : and (Nat.beq (swN (b + n)) (pcN (b + n))) (chk b n) = true := h
    rw [Bool.and_eq_true] at h
    by_cases e : j = n
    · subst e; exact Nat.eq_of_beq_eq_true h.1
    · exact ih h.2 j (by omega)
theorem chk2_of : ∀ n, chk2 n = true → ∀ a, a < n → ∀ j, j < 256 → swN (256 * a + j) = pcN (256 * a + j) := by
  intro n
  induction n with
  | zero => intro _ a ha; omega
  | succ n ih =>
    intro h a ha j hj
    have h : and (chk (256 * n) 256) (chk2 n) = true := h
    rw [Bool.and_eq_true] at h
    by_cases e : a = n
    · subst e; exact chk_of 256 h.1 j hj
    · exact ih h.2 a (by omega) j hj
theorem sw_pc {m : Nat} (h : m < 65536) : swN m = pcN m := by
  have := chk2_of 256 chk_all (m / 256) (by omega) (m % 256) (by omega)
  rw [show 256 * (m / 256) + m % 256 = m by omega] at this
  exact this
theorem bc_sw {m : Nat} (h : m < 65536) : mv_I_bitCount (nI m) = nI (swN m) := by
  have l1 : (m >>> 1) &&& 1431655765 ≤ m := Nat.le_trans Nat.and_le_left (by rw [Nat.shiftRight_eq_div_pow]; omega)
  have a1 : nI m - (mr_ushr (nI m) 1 &&& 1431655765) = nI (sw1 m) := by
    rw [show mr_ushr (nI m) 1 = nI (m >>> 1) from nI_ushr (k := 1) (by omega) (by omega), show nI (m >>> 1) &&& (1431655765 : Int32) = nI ((m >>> 1) &&& 1431655765) from nI_and _ _, nI_sub l1]
    rfl
  have b1 : sw1 m ≤ m := Nat.sub_le _ _
  have a2 : (nI (sw1 m) &&& 858993459) + (mr_ushr (nI (sw1 m)) 2 &&& 858993459) = nI (sw2 (sw1 m)) := by
    rw [show mr_ushr (nI (sw1 m)) 2 = nI (sw1 m >>> 2) from nI_ushr (k := 2) (by omega) (by omega), show nI (sw1 m >>> 2) &&& (858993459 : Int32) = nI ((sw1 m >>> 2) &&& 858993459) from nI_and _ _, show nI (sw1 m) &&& (858993459 : Int32) = nI (sw1 m &&& 858993459) from nI_and _ _, nI_add]
    rfl
  have b2 : sw2 (sw1 m) ≤ 131072 := by
    have q1 : sw1 m &&& 858993459 ≤ sw1 m := Nat.and_le_left
    have q2 : (sw1 m >>> 2) &&& 858993459 ≤ sw1 m := Nat.le_trans Nat.and_le_left (by rw [Nat.shiftRight_eq_div_pow]; omega)
    show (sw1 m &&& 858993459) + ((sw1 m >>> 2) &&& 858993459) ≤ 131072
    omega
  have a3 : (nI (sw2 (sw1 m)) + mr_ushr (nI (sw2 (sw1 m))) 4) &&& 252645135 = nI (sw3 (sw2 (sw1 m))) := by
    rw [show mr_ushr (nI (sw2 (sw1 m))) 4 = nI (sw2 (sw1 m) >>> 4) from nI_ushr (k := 4) (by omega) (by omega), nI_add]
    exact nI_and _ _
  have b3 : sw3 (sw2 (sw1 m)) ≤ 262144 := by
    have q1 : (sw2 (sw1 m) + (sw2 (sw1 m) >>> 4)) &&& 252645135 ≤ sw2 (sw1 m) + (sw2 (sw1 m) >>> 4) := Nat.and_le_left
    have q2 : sw2 (sw1 m) >>> 4 ≤ sw2 (sw1 m) := by rw [Nat.shiftRight_eq_div_pow]; omega
    show (sw2 (sw1 m) + (sw2 (sw1 m) >>> 4)) &&& 252645135 ≤ 262144
    omega
  have a4 : nI (sw3 (sw2 (sw1 m))) + mr_ushr (nI (sw3 (sw2 (sw1 m)))) 8 = nI (sw4 (sw3 (sw2 (sw1 m)))) := by
    rw [show mr_ushr (nI (sw3 (sw2 (sw1 m)))) 8 = nI (sw3 (sw2 (sw1 m)) >>> 8) from nI_ushr (k := 8) (by omega) (by omega), nI_add]
    rfl
  have b4 : sw4 (sw3 (sw2 (sw1 m))) ≤ 524288 := by
    have q2 : sw3 (sw2 (sw1 m)) >>> 8 ≤ sw3 (sw2 (sw1 m)) := by rw [Nat.shiftRight_eq_div_pow]; omega
    show sw3 (sw2 (sw1 m)) + (sw3 (sw2 (sw1 m)) >>> 8) ≤ 524288
    omega
  have a5 : nI (sw4 (sw3 (sw2 (sw1 m)))) + mr_ushr (nI (sw4 (sw3 (sw2 (sw1 m))))) 16 = nI (sw5 (sw4 (sw3 (sw2 (sw1 m))))) := by
    rw [show mr_ushr (nI (sw4 (sw3 (sw2 (sw1 m))))) 16 = nI (sw4 (sw3 (sw2 (sw1 m))) >>> 16) from nI_ushr (k := 16) (by omega) (by omega), nI_add]
    rfl
  unfold mv_I_bitCount
  rw [a1, a2, a3, a4, a5]
  exact nI_and _ _
theorem bq_land (m k : Nat) : Nat.land (Nat.shiftRight m k) 1 = if m.testBit k = true then 1 else 0 := by
  show (m >>> k) &&& 1 = _
  rw [Nat.and_one_is_mod]
  have e : m.testBit k = decide ((m >>> k) % 2 = 1) := by rw [Nat.testBit_eq_decide_div_mod_eq, Nat.shiftRight_eq_div_pow]
  rw [e]
  by_cases c : (m >>> k) % 2 = 1
  · simp [c]
  · simp [c]; omega
theorem pcs_eq (m : Nat) : ∀ k, k ≤ 32 → pcs m k = bq_pc (nI m) k := by
  intro k
  induction k with
  | zero => intro _; rfl
  | succ k ih =>
    intro hk
    show pcs m k + Nat.land (Nat.shiftRight m k) 1 = bq_pc (nI m) k + if bt (nI m) k = true then 1 else 0
    rw [ih (by omega), bq_land, bt_nI m (by omega)]
theorem bq_pc16 {v : Int32} (h : ∀ i, 16 ≤ i → bt v i = false) : ∀ k, bq_pc v (16 + k) = bq_pc v 16 := by
  intro k
  induction k with
  | zero => rfl
  | succ k ih =>
    show bq_pc v (16 + k) + (if bt v (16 + k) = true then 1 else 0) = _
    rw [ih, h _ (by omega)]
    rfl
/-- Integer.bitCount of a word of sixteen bits -/
theorem bq_bc {v : Int32} (h : ∀ i, 16 ≤ i → bt v i = false) : mv_I_bitCount v = nI (bq_pc v 32) := by
  obtain ⟨m, hm, rfl⟩ : ∃ m, m < 65536 ∧ v = nI m := by
    refine ⟨v.toBitVec.toNat, ?_, ?_⟩
    · refine Nat.lt_pow_two_of_testBit (n := 16) _ fun i hi => ?_
      exact h i hi
    · refine b_ext fun i hi => ?_
      rw [bt_nI _ hi]
      rfl
  rw [bc_sw hm, sw_pc hm, pcN_eq, pcs_eq m 16 (by omega), ← bq_pc16 h 16]
/-- marks: sixteen bits, at most four of them set -/
def bq_w (v : Int32) : Prop := (∀ i, 16 ≤ i → bt v i = false) ∧ bq_pc v 32 ≤ 4
theorem bq_w0 : bq_w 0 := ⟨fun i _ => b_0 i, by decide +kernel⟩
theorem bq_pc_or {v : Int32} {n : Nat} (hn : n < 32) (hb : bt v n = false) : ∀ k, bq_pc (v ||| (1 <<< (nI n &&& 31))) k = bq_pc v k + if n < k then 1 else 0 := by
  intro k
  induction k with
  | zero => simp [bq_pc]
  | succ k ih =>
    show bq_pc (v ||| (1 <<< (nI n &&& 31))) k + (if bt (v ||| (1 <<< (nI n &&& 31))) k = true then 1 else 0) = bq_pc v k + (if bt v k = true then 1 else 0) + if n < k + 1 then 1 else 0
    rw [ih, b_or]
    by_cases e : k = n
    · subst e
      have h1 : bt (1 <<< (nI k &&& 31)) k = true := (bq_one hn k).mpr rfl
      rw [h1, hb]
      simp
    · have h1 : bt (1 <<< (nI n &&& 31)) k = false := by
        cases c : bt (1 <<< (nI n &&& 31)) k with
        | false => rfl
        | true => exact absurd ((bq_one hn k).mp c) e
      rw [h1, Bool.or_false]
      by_cases c1 : n < k
      · rw [if_pos c1, if_pos (show n < k + 1 by omega)]; omega
      · rw [if_neg c1, if_neg (show ¬ n < k + 1 by omega)]; omega
/-- the class's and the reference's test are one; a mark more keeps to the bound -/
theorem bq_mark {v : Int32} (h : bq_w v) {n : Nat} (hn : n < 16) : mv_R_mayMark v (nI n) = (if ((v >>> (nI n &&& 31)) &&& 1) = 1 then 0 else if mv_D_bits v = 4 then 0 else 1) ∧ (¬ mv_R_mayMark v (nI n) = 0 → bq_w (v ||| (1 <<< (nI n &&& 31)))) := by
  have hp := bq_pc_le v 32
  have e4 : 4 ≤ mv_I_bitCount v ↔ mv_D_bits v = 4 := by
    rw [bq_bc h.1, bq_bits]
    have h4 := h.2
    constructor
    · intro q
      have q : 4 ≤ bq_pc v 32 := (nI_leI (a := 4) (by omega) (by omega)).mp q
      rw [show bq_pc v 32 = 4 by omega]; rfl
    · intro q
      have q : bq_pc v 32 = 4 := (nI_eq (b := 4) (by omega) (by omega)).mp q
      rw [q]; decide
  have hb := bq_hb (show n < 32 by omega) v
  have ha := bq_at v (show n < 32 by omega)
  unfold mv_R_mayMark
  cases c : bt v n with
  | true =>
    have c1 : ¬ mv_M_hasBit v (nI n) = 0 := fun q => by rw [hb.mp q] at c; cases c
    rw [if_neg c1, if_pos (ha.mpr c)]
    exact ⟨rfl, fun q => absurd rfl q⟩
  | false =>
    have c2 : ¬ ((v >>> (nI n &&& 31)) &&& 1) = 1 := fun q => by rw [ha.mp q] at c; cases c
    rw [if_pos (hb.mpr c), if_neg c2]
    by_cases d : mv_D_bits v = 4
    · rw [if_pos (e4.mpr d), if_pos d]
      exact ⟨rfl, fun q => absurd rfl q⟩
    · rw [if_neg (fun q => d (e4.mp q)), if_neg d]
      refine ⟨rfl, fun _ => ⟨fun i hi => ?_, ?_⟩⟩
      · rw [b_or, h.1 i hi, Bool.false_or]
        cases c3 : bt (1 <<< (nI n &&& 31)) i with
        | false => rfl
        | true => have := (bq_one (show n < 32 by omega) i).mp c3; omega
      · rw [bq_pc_or (by omega) c, if_pos (by omega)]
        have : bq_pc v 32 ≠ 4 := fun q => d (by rw [bq_bits, q]; rfl)
        have := h.2
        omega
/-- the marks of the rows: the same on both sides -/
def mr_LS (n : Nat) (fs cs : Nat → Int32) : Prop := (∀ i, 1 ≤ i → i ≤ n → fs i = cs i ∧ bq_w (cs i)) ∧ ∀ i, n < i → fs i = 0
theorem mr_LS0 : mr_LS 0 (fun _ => 0) (fun _ => 0) := ⟨fun i h1 h2 => absurd h2 (by omega), fun _ _ => rfl⟩
theorem mr_LSrow {n : Nat} {fs cs : Nat → Int32} (h : mr_LS n fs cs) : mr_LS (n + 1) fs (upd cs (n + 1) 0) := by
  refine ⟨fun i h1 h2 => ?_, fun i hi => h.2 i (by omega)⟩
  by_cases e : i = n + 1
  · subst e
    have : upd cs (n + 1) 0 (n + 1) = 0 := by simp [upd]
    rw [this, h.2 (n + 1) (by omega)]
    exact ⟨rfl, bq_w0⟩
  · have : upd cs (n + 1) 0 i = cs i := by simp [upd, e]
    rw [this]
    exact h.1 i h1 (by omega)
theorem mr_LSup {n i k : Nat} {fs cs : Nat → Int32} (h : mr_LS n fs cs) (h1 : 1 ≤ i) (hi : i ≤ n) (hk : k < 16) (hm : ¬ mv_R_mayMark (cs i) (nI k) = 0) : mr_LS n (upd fs i (fs i ||| (1 <<< (nI k &&& 31)))) (upd cs i (cs i ||| (1 <<< (nI k &&& 31)))) := by
  refine ⟨fun j j1 j2 => ?_, fun j hj => ?_⟩
  · by_cases e : j = i
    · subst e
      have q1 : ∀ (g : Nat → Int32) (v : Int32), upd g j v j = v := fun g v => by simp [upd]
      rw [q1, q1, (h.1 j h1 hi).1]
      exact ⟨rfl, (bq_mark (h.1 j h1 hi).2 hk).2 hm⟩
    · have q1 : ∀ (g : Nat → Int32) (v : Int32), upd g i v j = g j := fun g v => by simp [upd, e]
      rw [q1, q1]
      exact h.1 j j1 j2
  · have e : j ≠ i := by omega
    have q1 : ∀ (g : Nat → Int32) (v : Int32), upd g i v j = g j := fun g v => by simp [upd, e]
    rw [q1]
    exact h.2 j hj
theorem mr_LSid {i : Nat} (cs : Nat → Int32) : upd cs i (cs i) = cs := by
  funext j
  by_cases e : j = i
  · subst e; simp [upd]
  · simp [upd, e]
section LSX
variable {n i : Nat} {fs cs : Nat → Int32} {a : Int32}
theorem v_excl (h : mr_LS n fs cs) (h1 : 1 ≤ i) (hi : i ≤ n) (h80 : n ≤ 80) : mv_M_exclude_y cs i a = mv_D_exclude_y fs i a ∧ mr_LS n (mN_D_exclude_y_fls fs i a) (mN_M_exclude_y cs i a) := by
  have ei : (nI i).toNatClampNeg = i := nI_clamp (by omega)
  unfold mv_M_exclude_y mv_D_exclude_y mN_D_exclude_y_fls mN_M_exclude_y
  rw [ei, v_land]
  by_cases c : mv_M_isLand a = 0
  · simp only [if_pos c]; exact ⟨trivial, h⟩
  · simp only [if_neg c]
    obtain ⟨k, hk, rfl⟩ := bq_la c
    obtain ⟨e, hw⟩ := h.1 i h1 hi
    have hm := (bq_mark hw hk).1
    rw [← e] at hm
    unfold mv_R_leaveOut mv_R_leaveOutN
    rw [← e]
    by_cases d1 : ((fs i >>> (nI k &&& 31)) &&& 1) = 1
    · rw [if_pos d1] at hm
      simp only [if_pos d1, hm, if_true]
      exact ⟨trivial, by rw [e, mr_LSid]; exact h⟩
    · rw [if_neg d1] at hm
      by_cases d2 : mv_D_bits (fs i) = 4
      · rw [if_pos d2] at hm
        simp only [if_neg d1, if_pos d2, hm, if_true]
        exact ⟨trivial, by rw [e, mr_LSid]; exact h⟩
      · rw [if_neg d2] at hm
        have hne : ¬ mv_R_mayMark (fs i) (nI k) = 0 := by rw [hm]; decide
        simp only [if_neg d1, if_neg d2, if_neg hne]
        refine ⟨trivial, ?_⟩
        have := mr_LSup h h1 hi hk (by rw [← e]; exact hne)
        rw [e] at this ⊢
        exact this
theorem v_n16 {a : Int32} (h0 : ¬ a < 0) (h1 : ¬ 16 ≤ a) : ∃ k, k < 16 ∧ a = nI k := by
  obtain ⟨j, hj, rfl⟩ := nI_of h0
  refine ⟨j, ?_, rfl⟩
  rcases Nat.lt_or_ge j 16 with q | q
  · exact q
  · exact absurd (nI_le (a := 16) q hj) h1
theorem v_in15 (a : Int32) : mv_D_in a 0 15 = 0 ↔ a < 0 ∨ 16 ≤ a := by
  unfold mv_D_in
  simp only [Int32.lt_iff_toInt_lt, Int32.le_iff_toInt_le, show (0 : Int32).toInt = 0 by decide, show (16 : Int32).toInt = 16 by decide, show (15 : Int32).toInt = 15 by decide]
  generalize a.toInt = x
  by_cases h1 : x < 0
  · simp [h1]
  · by_cases h2 : 15 < x
    · have : 16 ≤ x := by omega
      simp [h1, h2, this]
    · have : ¬ 16 ≤ x := by omega
      simp [h1, h2, this]
theorem v_cond (h : mr_LS n fs cs) (h1 : 1 ≤ i) (hi : i ≤ n) (h80 : n ≤ 80) : mv_M_condition_y cs i a = mv_D_condition_y fs i a ∧ mr_LS n (mN_D_condition_y_fpa fs i a) (mN_M_condition_y cs i a) := by
  have ei : (nI i).toNatClampNeg = i := nI_clamp (by omega)
  unfold mv_M_condition_y mv_D_condition_y mN_D_condition_y_fpa mN_M_condition_y
  rw [ei]
  by_cases c0 : a < 0
  · simp only [if_pos c0, if_pos ((v_in15 a).mpr (Or.inl c0))]; exact ⟨trivial, h⟩
  by_cases c1 : 16 ≤ a
  · simp only [if_neg c0, if_pos c1, if_pos ((v_in15 a).mpr (Or.inr c1))]; exact ⟨trivial, h⟩
  · have c : ¬ mv_D_in a 0 15 = 0 := fun q => ((v_in15 a).mp q).elim c0 c1
    simp only [if_neg c0, if_neg c1, if_neg c]
    obtain ⟨k, hk, rfl⟩ := v_n16 c0 c1
    obtain ⟨e, hw⟩ := h.1 i h1 hi
    have hm := (bq_mark hw hk).1
    rw [← e] at hm
    unfold mv_R_want mv_R_wantN
    rw [← e]
    by_cases d1 : ((fs i >>> (nI k &&& 31)) &&& 1) = 1
    · rw [if_pos d1] at hm
      simp only [if_pos d1, hm, if_true]
      exact ⟨trivial, by rw [e, mr_LSid]; exact h⟩
    · rw [if_neg d1] at hm
      by_cases d2 : mv_D_bits (fs i) = 4
      · rw [if_pos d2] at hm
        simp only [if_neg d1, if_pos d2, hm, if_true]
        exact ⟨trivial, by rw [e, mr_LSid]; exact h⟩
      · rw [if_neg d2] at hm
        have hne : ¬ mv_R_mayMark (fs i) (nI k) = 0 := by rw [hm]; decide
        simp only [if_neg d1, if_neg d2, if_neg hne]
        refine ⟨trivial, ?_⟩
        have := mr_LSup h h1 hi hk (by rw [← e]; exact hne)
        rw [e] at this ⊢
        exact this
end LSX



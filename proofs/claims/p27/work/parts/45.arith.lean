/-! arithmetic -/
theorem mn_comm (x y : Int32) : mn x y = mn y x := by
  show (if y < x then y else x) = (if x < y then x else y)
  by_cases h1 : y < x <;> by_cases h2 : x < y
  · have := Int32.lt_iff_toInt_lt.mp h1
    have := Int32.lt_iff_toInt_lt.mp h2
    omega
  · rw [if_pos h1, if_neg h2]
  · rw [if_neg h1, if_pos h2]
  · rw [if_neg h1, if_neg h2]
    have a1 := mt Int32.lt_iff_toInt_lt.mpr h1
    have a2 := mt Int32.lt_iff_toInt_lt.mpr h2
    exact Int32.toInt_inj.mp (by omega)
theorem mx_comm (x y : Int32) : mx x y = mx y x := by
  show (if x < y then y else x) = (if y < x then x else y)
  by_cases h1 : y < x <;> by_cases h2 : x < y
  · have := Int32.lt_iff_toInt_lt.mp h1
    have := Int32.lt_iff_toInt_lt.mp h2
    omega
  · rw [if_neg h2, if_pos h1]
  · rw [if_pos h2, if_neg h1]
  · rw [if_neg h2, if_neg h1]
    have a1 := mt Int32.lt_iff_toInt_lt.mpr h1
    have a2 := mt Int32.lt_iff_toInt_lt.mpr h2
    exact Int32.toInt_inj.mp (by omega)
theorem mn_toInt (x y : Int32) : (mn x y).toInt = min x.toInt y.toInt := by
  show (if y < x then y else x).toInt = _
  by_cases h1 : y < x
  · rw [if_pos h1]
    have := Int32.lt_iff_toInt_lt.mp h1
    omega
  · rw [if_neg h1]
    have := mt Int32.lt_iff_toInt_lt.mpr h1
    omega
theorem bm_id {z : Int} (h1 : -2147483648 ≤ z) (h2 : z < 2147483648) : z.bmod (2 ^ 32) = z := by
  simp only [Int.bmod]
  split <;> omega
theorem ti_add {a b : Int32} (h1 : -2147483648 ≤ a.toInt + b.toInt) (h2 : a.toInt + b.toInt < 2147483648) : (a + b).toInt = a.toInt + b.toInt := by
  rw [Int32.toInt_add]
  exact bm_id h1 h2
theorem ti_sub {a b : Int32} (h1 : -2147483648 ≤ a.toInt - b.toInt) (h2 : a.toInt - b.toInt < 2147483648) : (a - b).toInt = a.toInt - b.toInt := by
  rw [Int32.toInt_sub]
  exact bm_id h1 h2
theorem ti_mul {a b : Int32} (h1 : -2147483648 ≤ a.toInt * b.toInt) (h2 : a.toInt * b.toInt < 2147483648) : (a * b).toInt = a.toInt * b.toInt := by
  rw [Int32.toInt_mul]
  exact bm_id h1 h2
theorem ti_div {a b : Int32} (h1 : 0 ≤ a.toInt) (h2 : 0 < b.toInt) : (a / b).toInt = a.toInt / b.toInt := by
  rw [Int32.toInt_div, Int.tdiv_eq_ediv_of_nonneg h1]
  have h3 := Int.ediv_le_self (b := b.toInt) h1
  have h4 := Int.ediv_nonneg h1 (Int.le_of_lt h2)
  have h5 := Int32.toInt_lt a
  exact bm_id (by omega) (by omega)
def IF (f : Row) : Prop := (0 ≤ (f 0).toInt ∧ (f 0).toInt ≤ 3) ∧ (1 ≤ (f 2).toInt ∧ (f 2).toInt ≤ 200) ∧ (0 ≤ (f 5).toInt ∧ (f 5).toInt ≤ (f 2).toInt) ∧ (10 ≤ (f 3).toInt ∧ (f 3).toInt ≤ 90) ∧ 0 ≤ (f 8).toInt ∧ (f 8).toInt ≤ 100
theorem shat_b {x y z cl r : Int32} (h : 0 ≤ z.toInt ∧ z.toInt ≤ 100) : 0 ≤ (t_X2_shatter_0 x y z cl r).toInt ∧ (t_X2_shatter_0 x y z cl r).toInt ≤ 100 := by
  have h100 : (100 : Int32).toInt = 100 := by decide
  have h5 : (5 : Int32).toInt = 5 := by decide
  have h1 : (1 : Int32).toInt = 1 := by decide
  have e1 : (z + 1).toInt = z.toInt + 1 := (ti_add (by omega) (by omega)).trans (by omega)
  have e5 : (z + 5).toInt = z.toInt + 5 := (ti_add (by omega) (by omega)).trans (by omega)
  have e6 : (z + 1 + 5).toInt = z.toInt + 6 := (ti_add (by omega) (by omega)).trans (by omega)
  unfold t_X2_shatter_0
  (repeat' split) <;> first | exact h | (rw [mn_toInt]; omega)
theorem IF.hour {f : Row} {cl w a r : Int32} (h : IF f) : IF (R_X2_passHour_0 f cl w a r) := ⟨h.1, h.2.1, h.2.2.1, h.2.2.2.1, shat_b h.2.2.2.2⟩
theorem br_b {y l : Int32} (h1 : 10 ≤ y.toInt ∧ y.toInt ≤ 90) (h2 : 0 ≤ l.toInt ∧ l.toInt ≤ 100) : 0 ≤ (t_X2_brings_0 y l).toInt ∧ (t_X2_brings_0 y l).toInt ≤ 90 := by
  have h100 : (100 : Int32).toInt = 100 := by decide
  have e1 : ((100 : Int32) - l).toInt = 100 - l.toInt := (ti_sub (by omega) (by omega)).trans (by omega)
  have m0 : 0 ≤ y.toInt * (100 - l.toInt) := Int.mul_nonneg (by omega) (by omega)
  have m1 : y.toInt * (100 - l.toInt) ≤ 90 * 100 := Int.mul_le_mul (by omega) (by omega) (by omega) (by omega)
  have e2 : (y * ((100 : Int32) - l)).toInt = y.toInt * (100 - l.toInt) := (ti_mul (by rw [e1]; omega) (by rw [e1]; omega)).trans (by rw [e1])
  have e3 : (t_X2_brings_0 y l).toInt = y.toInt * (100 - l.toInt) / 100 := by
    show ((y * ((100 : Int32) - l)) / (100 : Int32)).toInt = _
    rw [ti_div (by rw [e2]; exact m0) (by omega), e2, h100]
  rw [e3]
  omega
theorem i_le0 {a : Int32} : a ≤ 0 ↔ a.toInt ≤ 0 := by
  have h0 : (0 : Int32).toInt = 0 := by decide
  rw [Int32.le_iff_toInt_le, h0]
theorem i_lt0 {a : Int32} : 0 < a ↔ 0 < a.toInt := by
  have h0 : (0 : Int32).toInt = 0 := by decide
  rw [Int32.lt_iff_toInt_lt, h0]
theorem i_eq0 {a : Int32} : a = 0 ↔ a.toInt = 0 := by
  have h0 : (0 : Int32).toInt = 0 := by decide
  rw [← Int32.toInt_inj, h0]
theorem ac_b {pc tk ac y cu l : Int32} (hp : 1 ≤ pc.toInt ∧ pc.toInt ≤ 20) (ht : 0 ≤ tk.toInt ∧ tk.toInt ≤ 400) (ha : 1 ≤ ac.toInt ∧ ac.toInt ≤ 200) (hc : 0 ≤ cu.toInt ∧ cu.toInt ≤ ac.toInt) (hy : 10 ≤ y.toInt ∧ y.toInt ≤ 90) (hl : 0 ≤ l.toInt ∧ l.toInt ≤ 100) :
    0 ≤ (t_X0_acresAtOnce_0 pc tk ac y cu l).toInt ∧ (t_X0_acresAtOnce_0 pc tk ac y cu l).toInt ≤ 20 ∧ (t_X0_acresAtOnce_0 pc tk ac y cu l).toInt ≤ ac.toInt - cu.toInt ∧ (t_X0_acresAtOnce_0 pc tk ac y cu l * t_X2_brings_0 y l).toInt = (t_X0_acresAtOnce_0 pc tk ac y cu l).toInt * (t_X2_brings_0 y l).toInt ∧ 0 ≤ (t_X0_acresAtOnce_0 pc tk ac y cu l * t_X2_brings_0 y l).toInt ∧ (t_X0_acresAtOnce_0 pc tk ac y cu l * t_X2_brings_0 y l).toInt ≤ 400 - tk.toInt := by
  have hb := br_b hy hl
  have h400 : (400 : Int32).toInt = 400 := by decide
  have e1 : (t_X2_uncut_0 ac cu).toInt = ac.toInt - cu.toInt := ti_sub (by omega) (by omega)
  have e2 : ((400 : Int32) - tk).toInt = 400 - tk.toInt := (ti_sub (by omega) (by omega)).trans (by omega)
  obtain ⟨b, eb⟩ : ∃ b, b = t_X2_brings_0 y l := ⟨_, rfl⟩
  rw [← eb] at hb
  obtain ⟨x, ex⟩ : ∃ x, x = t_X0_acresAtOnce_0 pc tk ac y cu l := ⟨_, rfl⟩
  have key : 0 ≤ x.toInt ∧ x.toInt ≤ 20 ∧ x.toInt ≤ ac.toInt - cu.toInt ∧ x.toInt * b.toInt ≤ 400 - tk.toInt := by
    unfold t_X0_acresAtOnce_0 at ex
    rw [← eb] at ex
    by_cases hz : b ≤ 0
    · rw [if_pos hz] at ex
      have hz0 := i_le0.mp hz
      have hb0 : b.toInt = 0 := by omega
      rw [ex, mn_toInt, e1, hb0]
      omega
    · rw [if_neg hz] at ex
      have hz0 := mt i_le0.mpr hz
      have e3 : (((400 : Int32) - tk) / b).toInt = (400 - tk.toInt) / b.toInt := by rw [ti_div (by omega) (by omega), e2]
      have q0 : 0 ≤ (400 - tk.toInt) / b.toInt := Int.ediv_nonneg (by omega) (by omega)
      have q1 : (400 - tk.toInt) / b.toInt * b.toInt ≤ 400 - tk.toInt := Int.ediv_mul_le _ (by omega)
      have ex2 : x.toInt = min (min pc.toInt (ac.toInt - cu.toInt)) ((400 - tk.toInt) / b.toInt) := by rw [ex, mn_toInt, mn_toInt, e1, e3]
      have q2 : x.toInt * b.toInt ≤ (400 - tk.toInt) / b.toInt * b.toInt := Int.mul_le_mul_of_nonneg_right (by omega) (by omega)
      refine ⟨by omega, by omega, by omega, Int.le_trans q2 q1⟩
  rw [← eb, ← ex]
  have m0 : 0 ≤ x.toInt * b.toInt := Int.mul_nonneg key.1 hb.1
  have em : (x * b).toInt = x.toInt * b.toInt := ti_mul (by omega) (by omega)
  rw [em]
  exact ⟨key.1, key.2.1, key.2.2.1, rfl, m0, key.2.2.2⟩
theorem ixR_m1 {n : Nat} : ixR n (-1 : Int32) = none := if_pos (by decide)
theorem fit_0 {x y z : Int32} (h : t_X2_isFit_0 x y z = 0) : x < 80 ∨ 20 ≤ y ∨ z < 8 := by
  unfold t_X2_isFit_0 at h
  by_cases h1 : x < 80
  · exact Or.inl h1
  · rw [if_neg h1] at h
    by_cases h2 : (20 : Int32) ≤ y
    · exact Or.inr (Or.inl h2)
    · rw [if_neg h2] at h
      by_cases h3 : z < 8
      · exact Or.inr (Or.inr h3)
      · rw [if_neg h3] at h
        exact absurd h (by decide)
theorem fit_1 {x y z : Int32} (h1 : ¬ x < 80) (h2 : ¬ (20 : Int32) ≤ y) (h3 : ¬ z < 8) : ¬ t_X2_isFit_0 x y z = 0 := by
  unfold t_X2_isFit_0
  rw [if_neg h1, if_neg h2, if_neg h3]
  decide
theorem fit_n {x y z : Int32} (h : x < 80 ∨ 20 ≤ y ∨ z < 8) : t_X2_isFit_0 x y z = 0 := by
  unfold t_X2_isFit_0
  by_cases h1 : x < 80
  · exact if_pos h1
  · rw [if_neg h1]
    by_cases h2 : (20 : Int32) ≤ y
    · exact if_pos h2
    · rw [if_neg h2]
      exact if_pos ((h.resolve_left h1).resolve_left h2)
theorem hold_0 {x y z : Int32} : t_X0_holdsAnother_0 x y z = 0 ↔ x ≤ 0 ∨ y = z := by
  unfold t_X0_holdsAnother_0
  by_cases h1 : x ≤ 0
  · rw [if_pos h1]
    exact ⟨fun _ => Or.inl h1, fun _ => rfl⟩
  · rw [if_neg h1]
    by_cases h2 : y = z
    · rw [if_pos h2]
      exact ⟨fun _ => Or.inr h2, fun _ => rfl⟩
    · rw [if_neg h2]
      exact ⟨fun q => absurd q (by decide), fun q => absurd q (fun w => w.elim h1 h2)⟩
theorem nI_m {j : Nat} (h : j < 600) : ¬ nI j = (-1 : Int32) := fun z => nI_pos (n := j) (by omega) (by rw [z]; decide)
theorem tu_c {k' i' k i : Nat} {T : Tb} {f : Row} {P : Row → Prop} (h1 : k' = k → i' = i → P f) (h2 : P (T k' i')) : P (tu T k i f k' i') := by
  unfold tu
  split
  · rename_i h
    exact h1 h.1 h.2
  · exact h2

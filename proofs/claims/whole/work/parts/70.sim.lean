/-! the two lands beside each other: how a row of the class's and a row of the reference's go together -/
theorem mn_comm (x y : Int32) : mn x y = mn y x := by
  show (if y < x then y else x) = (if x < y then x else y)
  by_cases h1 : y < x <;> by_cases h2 : x < y
  · have := Int32.lt_iff_toInt_lt.mp h1
    have := Int32.lt_iff_toInt_lt.mp h2
    omega
  · rw [if_pos h1, if_neg h2]
  · rw [if_neg h1, if_pos h2]
  · rw [if_neg h1, if_neg h2]
    have a1 := mt Int32.lt_iff_toInt_lt.mpr h1
    have a2 := mt Int32.lt_iff_toInt_lt.mpr h2
    exact Int32.toInt_inj.mp (by omega)
theorem mx_comm (x y : Int32) : mx x y = mx y x := by
  show (if x < y then y else x) = (if y < x then x else y)
  by_cases h1 : y < x <;> by_cases h2 : x < y
  · have := Int32.lt_iff_toInt_lt.mp h1
    have := Int32.lt_iff_toInt_lt.mp h2
    omega
  · rw [if_neg h2, if_pos h1]
  · rw [if_pos h2, if_neg h1]
  · rw [if_neg h2, if_neg h1]
    have a1 := mt Int32.lt_iff_toInt_lt.mpr h1
    have a2 := mt Int32.lt_iff_toInt_lt.mpr h2
    exact Int32.toInt_inj.mp (by omega)
theorem mn_toInt (x y : Int32) : (mn x y).toInt = min x.toInt y.toInt := by
  show (if y < x then y else x).toInt = _
  by_cases h1 : y < x
  · rw [if_pos h1]
    have := Int32.lt_iff_toInt_lt.mp h1
    omega
  · rw [if_neg h1]
    have := mt Int32.lt_iff_toInt_lt.mpr h1
    omega
theorem bm_id {z : Int} (h1 : -2147483648 ≤ z) (h2 : z < 2147483648) : z.bmod (2 ^ 32) = z := by
  simp only [Int.bmod]
  split <;> omega
theorem ti_add {a b : Int32} (h1 : -2147483648 ≤ a.toInt + b.toInt) (h2 : a.toInt + b.toInt < 2147483648) : (a + b).toInt = a.toInt + b.toInt := by
  rw [Int32.toInt_add]
  exact bm_id h1 h2
theorem ti_sub {a b : Int32} (h1 : -2147483648 ≤ a.toInt - b.toInt) (h2 : a.toInt - b.toInt < 2147483648) : (a - b).toInt = a.toInt - b.toInt := by
  rw [Int32.toInt_sub]
  exact bm_id h1 h2
theorem ti_mul {a b : Int32} (h1 : -2147483648 ≤ a.toInt * b.toInt) (h2 : a.toInt * b.toInt < 2147483648) : (a * b).toInt = a.toInt * b.toInt := by
  rw [Int32.toInt_mul]
  exact bm_id h1 h2
theorem ti_div {a b : Int32} (h1 : 0 ≤ a.toInt) (h2 : 0 < b.toInt) : (a / b).toInt = a.toInt / b.toInt := by
  rw [Int32.toInt_div, Int.tdiv_eq_ediv_of_nonneg h1]
  have h3 := Int.ediv_le_self (b := b.toInt) h1
  have h4 := Int.ediv_nonneg h1 (Int.le_of_lt h2)
  have h5 := Int32.toInt_lt a
  exact bm_id (by omega) (by omega)
/-- rows of fields; of combines; of trucks; of elevators -/
def RF (tr : Int32) (f u : Row) : Prop := u 0 = f 0 ∧ u 1 = f 1 ∧ u 2 = f 2 ∧ u 3 = f 5 ∧ u 4 = f 6 ∧ u 5 = f 7 ∧ u 6 = f 8 ∧ u 7 = f 9 ∧ u 9 = f 3 ∧ u 10 = f 4 ∧ (tr = 0 → u 8 = f 10)
def RC (i : Nat) (f u : Row) : Prop := f 0 = nI i ∧ u 0 = f 2 ∧ u 1 = f 1 ∧ u 2 = f 3 ∧ u 3 = f 4 ∧ u 4 = f 5 ∧ u 5 = f 6 ∧ u 6 = f 7 ∧ u 7 = f 9 ∧ u 8 = f 10 ∧ u 9 = f 8 ∧ u 10 = f 11
def RT (f u : Row) : Prop := u 1 = f 0 ∧ u 2 = f 2 ∧ u 3 = f 3 ∧ u 4 = f 4 ∧ u 5 = f 1 ∧ u 6 = f 5 ∧ u 8 = f 6 ∧ u 9 = f 9 ∧ ((u 0 = 0 ∧ f 7 = -1 ∧ f 8 = -1) ∨ (u 0 = 1 ∧ f 7 = u 7 ∧ f 7 ≠ -1 ∧ f 8 = -1) ∨ (u 0 = 2 ∧ f 7 = -1 ∧ f 8 = u 7 ∧ f 8 ≠ -1))
def RE (f u : Row) : Prop := u 0 = f 2 ∧ u 1 = f 0 ∧ u 2 = f 3 ∧ u 3 = f 1 ∧ u 4 = f 4 ∧ u 5 = f 5
/-- the bounds of a class's row -/
def IF (f : Row) : Prop := (0 ≤ (f 0).toInt ∧ (f 0).toInt ≤ 3) ∧ (1 ≤ (f 2).toInt ∧ (f 2).toInt ≤ 200) ∧ (0 ≤ (f 5).toInt ∧ (f 5).toInt ≤ (f 2).toInt) ∧ (10 ≤ (f 3).toInt ∧ (f 3).toInt ≤ 90) ∧ 0 ≤ (f 8).toInt ∧ (f 8).toInt ≤ 100
def IC (N : Nat → Nat) (f : Row) : Prop := (1 ≤ (f 2).toInt ∧ (f 2).toInt ≤ 20) ∧ (0 ≤ (f 3).toInt ∧ (f 3).toInt ≤ 400) ∧ (0 < (f 3).toInt → ∃ j, j < N 0 ∧ f 4 = nI j) ∧ (f 7 = 0 ∨ f 7 = 1) ∧ (f 9 = -1 ∨ ∃ j, j < N 0 ∧ f 9 = nI j)
def IT (N : Nat → Nat) (f : Row) : Prop := (0 ≤ (f 2).toInt ∧ (f 2).toInt ≤ 800) ∧ (0 < (f 2).toInt → ∃ j, j < N 0 ∧ f 3 = nI j) ∧ (0 ≤ (f 5).toInt ∧ (f 5).toInt ≤ 7) ∧ (f 7 = -1 ∨ ∃ j, j < N 1 ∧ f 7 = nI j) ∧ (f 8 = -1 ∨ ∃ j, j < N 3 ∧ f 8 = nI j)
def NB (N : Nat → Nat) : Prop := N 0 ≤ 8 ∧ N 1 ≤ 4 ∧ N 2 ≤ 4 ∧ N 3 ≤ 3
def Sm (N : Nat → Nat) (tr : Int32) (T U : Tb) : Prop := (∀ i, i < N 0 → RF tr (T 0 i) (U 0 i) ∧ IF (T 0 i)) ∧ (∀ i, i < N 1 → RC i (T 1 i) (U 1 i) ∧ IC N (T 1 i)) ∧ (∀ i, i < N 2 → RT (T 2 i) (U 2 i) ∧ IT N (T 2 i)) ∧ ∀ i, i < N 3 → RE (T 3 i) (U 3 i)
section SM
variable {N : Nat → Nat} {tr : Int32} {T U : Tb} {i : Nat} {f u : Row}
theorem tu_c {k' i' k i : Nat} {T : Tb} {f : Row} {P : Row → Prop} (h1 : k' = k → i' = i → P f) (h2 : P (T k' i')) : P (tu T k i f k' i') := by
  unfold tu
  split
  · rename_i h
    exact h1 h.1 h.2
  · exact h2
theorem Sm.set0 (h : Sm N tr T U) (hr : RF tr f u) (hi : IF f) : Sm N tr (tu T 0 i f) (tu U 0 i u) := by
  refine ⟨fun j hj => ?_, fun j hj => h.2.1 j hj, fun j hj => h.2.2.1 j hj, fun j hj => h.2.2.2 j hj⟩
  by_cases e : j = i
  · subst e
    rw [tu_s, tu_s]
    exact ⟨hr, hi⟩
  · rw [tu_i e, tu_i e]
    exact h.1 j hj
theorem Sm.set1 (h : Sm N tr T U) (hr : RC i f u) (hi : IC N f) : Sm N tr (tu T 1 i f) (tu U 1 i u) := by
  refine ⟨fun j hj => h.1 j hj, fun j hj => ?_, fun j hj => h.2.2.1 j hj, fun j hj => h.2.2.2 j hj⟩
  by_cases e : j = i
  · subst e
    rw [tu_s, tu_s]
    exact ⟨hr, hi⟩
  · rw [tu_i e, tu_i e]
    exact h.2.1 j hj
theorem Sm.set2 (h : Sm N tr T U) (hr : RT f u) (hi : IT N f) : Sm N tr (tu T 2 i f) (tu U 2 i u) := by
  refine ⟨fun j hj => h.1 j hj, fun j hj => h.2.1 j hj, fun j hj => ?_, fun j hj => h.2.2.2 j hj⟩
  by_cases e : j = i
  · subst e
    rw [tu_s, tu_s]
    exact ⟨hr, hi⟩
  · rw [tu_i e, tu_i e]
    exact h.2.2.1 j hj
theorem Sm.set3 (h : Sm N tr T U) (hr : RE f u) : Sm N tr (tu T 3 i f) (tu U 3 i u) := by
  refine ⟨fun j hj => h.1 j hj, fun j hj => h.2.1 j hj, fun j hj => h.2.2.1 j hj, fun j hj => ?_⟩
  by_cases e : j = i
  · subst e
    rw [tu_s, tu_s]
    exact hr
  · rw [tu_i e, tu_i e]
    exact h.2.2.2 j hj
/-- tickets are no part of it -/
theorem Sm.setT4 (h : Sm N tr T U) : Sm N tr (tu T 4 i f) U := h
theorem Sm.setU4 (h : Sm N tr T U) : Sm N tr T (tu U 4 i u) := h
/-- a row put in anew on one side alone -/
theorem Sm.setT (h : Sm N tr T U) {k : Nat} (e0 : k = 0 → RF tr f (U 0 i) ∧ IF f) (e1 : k = 1 → RC i f (U 1 i) ∧ IC N f) (e2 : k = 2 → RT f (U 2 i) ∧ IT N f) (e3 : k = 3 → RE f (U 3 i)) : Sm N tr (tu T k i f) U := by
  refine ⟨fun j hj => ?_, fun j hj => ?_, fun j hj => ?_, fun j hj => ?_⟩
  · exact tu_c (P := fun z => RF tr z (U 0 j) ∧ IF z) (fun a b => by subst b; exact e0 a.symm) (h.1 j hj)
  · exact tu_c (P := fun z => RC j z (U 1 j) ∧ IC N z) (fun a b => by subst b; exact e1 a.symm) (h.2.1 j hj)
  · exact tu_c (P := fun z => RT z (U 2 j) ∧ IT N z) (fun a b => by subst b; exact e2 a.symm) (h.2.2.1 j hj)
  · exact tu_c (P := fun z => RE z (U 3 j)) (fun a b => by subst b; exact e3 a.symm) (h.2.2.2 j hj)
end SM
/-! a field's hour -/
theorem ripe_eq (x w : Int32) : mn 100 (x + t_X7_ripen_0 w) = t_X2_ripen_0 x w := by
  unfold t_X7_ripen_0 t_X2_ripen_0
  split
  · split <;> exact mn_comm _ _
  · exact mn_comm _ _
theorem damp_eq (x y w a r : Int32) : t_X7_ripen_1 x y w a r = t_X2_soakOrDry_0 (t_X2_ripen_0 x w) y a r := by
  unfold t_X7_ripen_1 t_X2_soakOrDry_0
  rw [ripe_eq, mn_comm 40, mx_comm 5]
theorem lost_eq (x y z cl w a r : Int32) : t_X7_ripen_2 x y z cl w a r = t_X2_shatter_0 (t_X2_ripen_0 x w) (t_X2_soakOrDry_0 (t_X2_ripen_0 x w) y a r) z cl r := by
  unfold t_X7_ripen_2 t_X2_shatter_0
  have e0 : z + ((0 : Int32) + 0) = z := by rw [Int32.add_zero, Int32.add_zero]
  have e5 : z + ((0 : Int32) + 5) = z + 5 := by rw [Int32.zero_add]
  have e1 : z + ((1 : Int32) + 0) = z + 1 := by rw [Int32.add_zero]
  have e6 : z + ((1 : Int32) + 5) = z + 1 + 5 := by rw [Int32.add_assoc]
  rw [ripe_eq, damp_eq, e0, e5, e1, e6, mn_comm 100, mn_comm 100 (z + 5), mn_comm 100 (z + 1), mn_comm 100 (z + 1 + 5)]
theorem shat_b {x y z cl r : Int32} (h : 0 ≤ z.toInt ∧ z.toInt ≤ 100) : 0 ≤ (t_X2_shatter_0 x y z cl r).toInt ∧ (t_X2_shatter_0 x y z cl r).toInt ≤ 100 := by
  have h100 : (100 : Int32).toInt = 100 := by decide
  have h5 : (5 : Int32).toInt = 5 := by decide
  have h1 : (1 : Int32).toInt = 1 := by decide
  have e1 : (z + 1).toInt = z.toInt + 1 := (ti_add (by omega) (by omega)).trans (by omega)
  have e5 : (z + 5).toInt = z.toInt + 5 := (ti_add (by omega) (by omega)).trans (by omega)
  have e6 : (z + 1 + 5).toInt = z.toInt + 6 := (ti_add (by omega) (by omega)).trans (by omega)
  unfold t_X2_shatter_0
  (repeat' split) <;> first | exact h | (rw [mn_toInt]; omega)
theorem RF.hour {tr : Int32} {f u : Row} {cl w a r : Int32} (h : RF tr f u) : RF tr (R_X2_passHour_0 f cl w a r) (rpR cl w a r u) := by
  obtain ⟨h0, h1, h2, h3, h4, h5, h6, h7, h9, h10, h8⟩ := h
  refine ⟨h0, h1, h2, h3, ?_, ?_, ?_, h7, h9, h10, h8⟩
  · show mn 100 (u 4 + t_X7_ripen_0 w) = t_X2_ripen_0 (f 6) w
    rw [ripe_eq, h4]
  · show t_X7_ripen_1 (u 4) (u 5) w a r = t_X2_soakOrDry_0 (t_X2_ripen_0 (f 6) w) (f 7) a r
    rw [damp_eq, h4, h5]
  · show t_X7_ripen_2 (u 4) (u 5) (u 6) cl w a r = t_X2_shatter_0 (t_X2_ripen_0 (f 6) w) (t_X2_soakOrDry_0 (t_X2_ripen_0 (f 6) w) (f 7) a r) (f 8) cl r
    rw [lost_eq, h4, h5, h6]
theorem IF.hour {f : Row} {cl w a r : Int32} (h : IF f) : IF (R_X2_passHour_0 f cl w a r) := ⟨h.1, h.2.1, h.2.2.1, h.2.2.2.1, shat_b h.2.2.2.2⟩
theorem Sm.rip {N : Nat → Nat} {tr : Int32} {T U : Tb} {cl w a r : Int32} (h : Sm N tr T U) : ∀ n, n ≤ N 0 → Sm N tr (fisP cl w a r n T) (ripR cl w a r n U)
  | 0, _ => h
  | n + 1, hn => by
    have z := h.rip (cl := cl) (w := w) (a := a) (r := r) n (by omega)
    exact z.set0 (z.1 n (by omega)).1.hour (z.1 n (by omega)).2.hour

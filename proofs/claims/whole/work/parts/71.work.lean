/-! a combine's hour beside the reference's -/
theorem br_b {y l : Int32} (h1 : 10 ≤ y.toInt ∧ y.toInt ≤ 90) (h2 : 0 ≤ l.toInt ∧ l.toInt ≤ 100) : 0 ≤ (t_X2_brings_0 y l).toInt ∧ (t_X2_brings_0 y l).toInt ≤ 90 := by
  have h100 : (100 : Int32).toInt = 100 := by decide
  have e1 : ((100 : Int32) - l).toInt = 100 - l.toInt := (ti_sub (by omega) (by omega)).trans (by omega)
  have m0 : 0 ≤ y.toInt * (100 - l.toInt) := Int.mul_nonneg (by omega) (by omega)
  have m1 : y.toInt * (100 - l.toInt) ≤ 90 * 100 := Int.mul_le_mul (by omega) (by omega) (by omega) (by omega)
  have e2 : (y * ((100 : Int32) - l)).toInt = y.toInt * (100 - l.toInt) := (ti_mul (by rw [e1]; omega) (by rw [e1]; omega)).trans (by rw [e1])
  have e3 : (t_X2_brings_0 y l).toInt = y.toInt * (100 - l.toInt) / 100 := by
    show ((y * ((100 : Int32) - l)) / (100 : Int32)).toInt = _
    rw [ti_div (by rw [e2]; exact m0) (by omega), e2, h100]
  rw [e3]
  omega
theorem i_le0 {a : Int32} : a ≤ 0 ↔ a.toInt ≤ 0 := by
  have h0 : (0 : Int32).toInt = 0 := by decide
  rw [Int32.le_iff_toInt_le, h0]
theorem i_lt0 {a : Int32} : 0 < a ↔ 0 < a.toInt := by
  have h0 : (0 : Int32).toInt = 0 := by decide
  rw [Int32.lt_iff_toInt_lt, h0]
theorem i_eq0 {a : Int32} : a = 0 ↔ a.toInt = 0 := by
  have h0 : (0 : Int32).toInt = 0 := by decide
  rw [← Int32.toInt_inj, h0]
/-- acres at once: none too many for the field, nor for the tank -/
theorem ac_b {pc tk ac y cu l : Int32} (hp : 1 ≤ pc.toInt ∧ pc.toInt ≤ 20) (ht : 0 ≤ tk.toInt ∧ tk.toInt ≤ 400) (ha : 1 ≤ ac.toInt ∧ ac.toInt ≤ 200) (hc : 0 ≤ cu.toInt ∧ cu.toInt ≤ ac.toInt) (hy : 10 ≤ y.toInt ∧ y.toInt ≤ 90) (hl : 0 ≤ l.toInt ∧ l.toInt ≤ 100) :
    0 ≤ (t_X0_acresAtOnce_0 pc tk ac y cu l).toInt ∧ (t_X0_acresAtOnce_0 pc tk ac y cu l).toInt ≤ 20 ∧ (t_X0_acresAtOnce_0 pc tk ac y cu l).toInt ≤ ac.toInt - cu.toInt ∧ (t_X0_acresAtOnce_0 pc tk ac y cu l * t_X2_brings_0 y l).toInt = (t_X0_acresAtOnce_0 pc tk ac y cu l).toInt * (t_X2_brings_0 y l).toInt ∧ 0 ≤ (t_X0_acresAtOnce_0 pc tk ac y cu l * t_X2_brings_0 y l).toInt ∧ (t_X0_acresAtOnce_0 pc tk ac y cu l * t_X2_brings_0 y l).toInt ≤ 400 - tk.toInt := by
  have hb := br_b hy hl
  have h400 : (400 : Int32).toInt = 400 := by decide
  have e1 : (t_X2_uncut_0 ac cu).toInt = ac.toInt - cu.toInt := ti_sub (by omega) (by omega)
  have e2 : ((400 : Int32) - tk).toInt = 400 - tk.toInt := (ti_sub (by omega) (by omega)).trans (by omega)
  obtain ⟨b, eb⟩ : ∃ b, b = t_X2_brings_0 y l := ⟨_, rfl⟩
  rw [← eb] at hb
  obtain ⟨x, ex⟩ : ∃ x, x = t_X0_acresAtOnce_0 pc tk ac y cu l := ⟨_, rfl⟩
  have key : 0 ≤ x.toInt ∧ x.toInt ≤ 20 ∧ x.toInt ≤ ac.toInt - cu.toInt ∧ x.toInt * b.toInt ≤ 400 - tk.toInt := by
    unfold t_X0_acresAtOnce_0 at ex
    rw [← eb] at ex
    by_cases hz : b ≤ 0
    · rw [if_pos hz] at ex
      have hz0 := i_le0.mp hz
      have hb0 : b.toInt = 0 := by omega
      rw [ex, mn_toInt, e1, hb0]
      omega
    · rw [if_neg hz] at ex
      have hz0 := mt i_le0.mpr hz
      have e3 : (((400 : Int32) - tk) / b).toInt = (400 - tk.toInt) / b.toInt := by rw [ti_div (by omega) (by omega), e2]
      have q0 : 0 ≤ (400 - tk.toInt) / b.toInt := Int.ediv_nonneg (by omega) (by omega)
      have q1 : (400 - tk.toInt) / b.toInt * b.toInt ≤ 400 - tk.toInt := Int.ediv_mul_le _ (by omega)
      have ex2 : x.toInt = min (min pc.toInt (ac.toInt - cu.toInt)) ((400 - tk.toInt) / b.toInt) := by rw [ex, mn_toInt, mn_toInt, e1, e3]
      have q2 : x.toInt * b.toInt ≤ (400 - tk.toInt) / b.toInt * b.toInt := Int.mul_le_mul_of_nonneg_right (by omega) (by omega)
      refine ⟨by omega, by omega, by omega, Int.le_trans q2 q1⟩
  rw [← eb, ← ex]
  have m0 : 0 ≤ x.toInt * b.toInt := Int.mul_nonneg key.1 hb.1
  have em : (x * b).toInt = x.toInt * b.toInt := ti_mul (by omega) (by omega)
  rw [em]
  exact ⟨key.1, key.2.1, key.2.2.1, rfl, m0, key.2.2.2⟩
theorem met_eq (x y z : Int32) : (z * ((100 : Int32) + ((x + y) - (4 : Int32)))) / (100 : Int32) = (z * (((96 : Int32) + x) + y)) / (100 : Int32) := by
  rw [Int32.sub_eq_add_neg, Int32.add_comm (x + y), ← Int32.add_assoc 100, show (100 : Int32) + -4 = 96 by decide, Int32.add_assoc 96]
/-- what the reference's working combine does -/
def wrk (U : Tb) (p0 : Int32) (i : Nat) : Tb := tu (tu U 0 (ix (U 1 i 7)) (rw11 (U 0 (ix (U 1 i 7)) 0) (U 0 (ix (U 1 i 7)) 1) (U 0 (ix (U 1 i 7)) 2) ((U 0 (ix (U 1 i 7)) 3) + (a_X7_work U i)) (U 0 (ix (U 1 i 7)) 4) (U 0 (ix (U 1 i 7)) 5) (U 0 (ix (U 1 i 7)) 6) ((U 0 (ix (U 1 i 7)) 7) + ((((a_X7_work U i) * (t_X7_brings_0 (U 0 (ix (U 1 i 7)) 6) (U 0 (ix (U 1 i 7)) 9))) * (((96 : Int32) + ((3 : Int32) * p0)) + ((U 1 i 5) / (20 : Int32)))) / (100 : Int32))) (U 0 (ix (U 1 i 7)) 8) (U 0 (ix (U 1 i 7)) 9) (U 0 (ix (U 1 i 7)) 10))) 1 i (rw11 (U 1 i 0) (U 1 i 1) (if ((a_X7_work U i) * (t_X7_brings_0 (U 0 (ix (U 1 i 7)) 6) (U 0 (ix (U 1 i 7)) 9))) ≤ 0 then U 1 i 2 else (U 1 i 2) + ((a_X7_work U i) * (t_X7_brings_0 (U 0 (ix (U 1 i 7)) 6) (U 0 (ix (U 1 i 7)) 9)))) (if ((a_X7_work U i) * (t_X7_brings_0 (U 0 (ix (U 1 i 7)) 6) (U 0 (ix (U 1 i 7)) 9))) ≤ 0 then U 1 i 3 else U 1 i 7) (if ((a_X7_work U i) * (t_X7_brings_0 (U 0 (ix (U 1 i 7)) 6) (U 0 (ix (U 1 i 7)) 9))) ≤ 0 then U 1 i 4 else if U 1 i 2 = 0 then U 0 (ix (U 1 i 7)) 5 else mx (U 1 i 4) (U 0 (ix (U 1 i 7)) 5)) ((U 1 i 5) + (a_X7_work U i)) (if ((U 1 i 5) + (a_X7_work U i)) < (100 : Int32) then (0 : Int32) else (1 : Int32)) (U 1 i 7) ((U 1 i 8) + (a_X7_work U i)) (U 1 i 9) ((U 1 i 10) + ((a_X7_work U i) * (t_X7_brings_0 (U 0 (ix (U 1 i 7)) 6) (U 0 (ix (U 1 i 7)) 9)))))
def idl (U : Tb) (i : Nat) : Row := (rw11 (U 1 i 0) (U 1 i 1) (U 1 i 2) (U 1 i 3) (U 1 i 4) (U 1 i 5) (U 1 i 6) (U 1 i 7) (U 1 i 8) ((U 1 i 9) + (1 : Int32)) (U 1 i 10))
section UW
variable {N : Nat → Nat} {U : Tb} {now p0 p1 : Int32} {i : Nat}
theorem uw_b (h1 : U 1 i 6 = (1 : Int32)) : u_X7_work N U now p0 p1 i = U := if_pos h1
theorem uw_g (h1 : ¬ U 1 i 6 = (1 : Int32)) (h2 : U 1 i 7 = (-1 : Int32)) : u_X7_work N U now p0 p1 i = U := (if_neg h1).trans (if_pos h2)
theorem uw_m (h1 : ¬ U 1 i 6 = (1 : Int32)) (h2 : ¬ U 1 i 7 = (-1 : Int32)) (h3 : ¬ U 1 i 1 = U 0 (ix (U 1 i 7)) 1) : u_X7_work N U now p0 p1 i = tu U 1 i (rw11 (U 1 i 0) (t_X7_towards_0 (U 1 i 1) (U 0 (ix (U 1 i 7)) 1) (20 : Int32)) (U 1 i 2) (U 1 i 3) (U 1 i 4) (U 1 i 5) (U 1 i 6) (U 1 i 7) (U 1 i 8) (U 1 i 9) (U 1 i 10)) := (if_neg h1).trans ((if_neg h2).trans (if_neg h3))
theorem uw_4 (h1 : ¬ U 1 i 6 = (1 : Int32)) (h2 : ¬ U 1 i 7 = (-1 : Int32)) (h3 : U 1 i 1 = U 0 (ix (U 1 i 7)) 1) (h4 : 0 < p1) : u_X7_work N U now p0 p1 i = tu U 1 i (idl U i) := (if_neg h1).trans ((if_neg h2).trans ((if_pos h3).trans (if_pos h4)))
theorem uw_5 (h1 : ¬ U 1 i 6 = (1 : Int32)) (h2 : ¬ U 1 i 7 = (-1 : Int32)) (h3 : U 1 i 1 = U 0 (ix (U 1 i 7)) 1) (h4 : ¬ 0 < p1) (h5 : U 0 (ix (U 1 i 7)) 4 < (80 : Int32)) : u_X7_work N U now p0 p1 i = tu U 1 i (idl U i) := (if_neg h1).trans ((if_neg h2).trans ((if_pos h3).trans ((if_neg h4).trans (if_pos h5))))
theorem uw_6 (h1 : ¬ U 1 i 6 = (1 : Int32)) (h2 : ¬ U 1 i 7 = (-1 : Int32)) (h3 : U 1 i 1 = U 0 (ix (U 1 i 7)) 1) (h4 : ¬ 0 < p1) (h5 : ¬ U 0 (ix (U 1 i 7)) 4 < (80 : Int32)) (h6 : (20 : Int32) ≤ U 0 (ix (U 1 i 7)) 5) : u_X7_work N U now p0 p1 i = tu U 1 i (idl U i) := (if_neg h1).trans ((if_neg h2).trans ((if_pos h3).trans ((if_neg h4).trans ((if_neg h5).trans (if_pos h6)))))
theorem uw_7 (h1 : ¬ U 1 i 6 = (1 : Int32)) (h2 : ¬ U 1 i 7 = (-1 : Int32)) (h3 : U 1 i 1 = U 0 (ix (U 1 i 7)) 1) (h4 : ¬ 0 < p1) (h5 : ¬ U 0 (ix (U 1 i 7)) 4 < (80 : Int32)) (h6 : ¬ (20 : Int32) ≤ U 0 (ix (U 1 i 7)) 5) (h7 : clk now < (8 : Int32)) : u_X7_work N U now p0 p1 i = tu U 1 i (idl U i) := (if_neg h1).trans ((if_neg h2).trans ((if_pos h3).trans ((if_neg h4).trans ((if_neg h5).trans ((if_neg h6).trans (if_pos h7))))))
theorem uw_8 (h1 : ¬ U 1 i 6 = (1 : Int32)) (h2 : ¬ U 1 i 7 = (-1 : Int32)) (h3 : U 1 i 1 = U 0 (ix (U 1 i 7)) 1) (h4 : ¬ 0 < p1) (h5 : ¬ U 0 (ix (U 1 i 7)) 4 < (80 : Int32)) (h6 : ¬ (20 : Int32) ≤ U 0 (ix (U 1 i 7)) 5) (h7 : ¬ clk now < (8 : Int32)) (h8 : ¬ U 1 i 2 ≤ 0) (h9 : ¬ U 1 i 3 = U 1 i 7) : u_X7_work N U now p0 p1 i = tu U 1 i (idl U i) := (if_neg h1).trans ((if_neg h2).trans ((if_pos h3).trans ((if_neg h4).trans ((if_neg h5).trans ((if_neg h6).trans ((if_neg h7).trans ((if_neg h8).trans (if_neg h9))))))))
theorem uw_9 (h1 : ¬ U 1 i 6 = (1 : Int32)) (h2 : ¬ U 1 i 7 = (-1 : Int32)) (h3 : U 1 i 1 = U 0 (ix (U 1 i 7)) 1) (h4 : ¬ 0 < p1) (h5 : ¬ U 0 (ix (U 1 i 7)) 4 < (80 : Int32)) (h6 : ¬ (20 : Int32) ≤ U 0 (ix (U 1 i 7)) 5) (h7 : ¬ clk now < (8 : Int32)) (h8 : U 1 i 2 ≤ 0 ∨ U 1 i 3 = U 1 i 7) (h9 : a_X7_work U i = 0) : u_X7_work N U now p0 p1 i = tu U 1 i (idl U i) := by
  refine (if_neg h1).trans ((if_neg h2).trans ((if_pos h3).trans ((if_neg h4).trans ((if_neg h5).trans ((if_neg h6).trans ((if_neg h7).trans ?_))))))
  by_cases h10 : U 1 i 2 ≤ 0
  · exact (if_pos h10).trans (if_pos h9)
  · exact (if_neg h10).trans ((if_pos (h8.resolve_left h10)).trans (if_pos h9))
theorem uw_w (h1 : ¬ U 1 i 6 = (1 : Int32)) (h2 : ¬ U 1 i 7 = (-1 : Int32)) (h3 : U 1 i 1 = U 0 (ix (U 1 i 7)) 1) (h4 : ¬ 0 < p1) (h5 : ¬ U 0 (ix (U 1 i 7)) 4 < (80 : Int32)) (h6 : ¬ (20 : Int32) ≤ U 0 (ix (U 1 i 7)) 5) (h7 : ¬ clk now < (8 : Int32)) (h8 : U 1 i 2 ≤ 0 ∨ U 1 i 3 = U 1 i 7) (h9 : ¬ a_X7_work U i = 0) : u_X7_work N U now p0 p1 i = wrk U p0 i := by
  refine (if_neg h1).trans ((if_neg h2).trans ((if_pos h3).trans ((if_neg h4).trans ((if_neg h5).trans ((if_neg h6).trans ((if_neg h7).trans ?_))))))
  unfold wrk
  by_cases h10 : U 1 i 2 ≤ 0
  · refine (if_pos h10).trans ((if_neg h9).trans ?_)
    by_cases g1 : ((a_X7_work U i) * (t_X7_brings_0 (U 0 (ix (U 1 i 7)) 6) (U 0 (ix (U 1 i 7)) 9))) ≤ 0
    · rw [if_pos g1]
      simp only [if_pos g1]
      split <;> rfl
    · rw [if_neg g1]
      simp only [if_neg g1]
      (repeat' split) <;> rfl
  · refine (if_neg h10).trans ((if_pos (h8.resolve_left h10)).trans ((if_neg h9).trans ?_))
    by_cases g1 : ((a_X7_work U i) * (t_X7_brings_0 (U 0 (ix (U 1 i 7)) 6) (U 0 (ix (U 1 i 7)) 9))) ≤ 0
    · rw [if_pos g1]
      simp only [if_pos g1]
      split <;> rfl
    · rw [if_neg g1]
      simp only [if_neg g1]
      (repeat' split) <;> rfl
end UW

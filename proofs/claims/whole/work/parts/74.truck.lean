theorem tkn {a x p : Prop} [Decidable a] [Decidable x] [Decidable p] {A B C : Int32} (h : x ∨ (¬ a ∧ ¬ p)) : (if a then (if x then A else B) else if p then (if x then A else C) else A) = A := by
  by_cases ha : a
  · exact (if_pos ha).trans (if_pos (h.resolve_right (fun z => z.1 ha)))
  · refine (if_neg ha).trans ?_
    by_cases hp : p
    · exact (if_pos hp).trans (if_pos (h.resolve_right (fun z => z.2 hp)))
    · exact if_neg hp
theorem tky {a x p : Prop} [Decidable a] [Decidable x] [Decidable p] {A B C : Int32} (hx : ¬ x) (h : a ∨ p) : (if a then (if x then A else B) else if p then (if x then A else C) else A) = if a then B else C := by
  by_cases ha : a
  · exact (if_pos ha).trans ((if_neg hx).trans (if_pos ha).symm)
  · exact (if_neg ha).trans ((if_pos (h.resolve_left ha)).trans ((if_neg hx).trans (if_neg ha).symm))
theorem ldn {a m p : Prop} [Decidable a] [Decidable m] [Decidable p] {A B C : Int32} (h : m ∨ (¬ a ∧ ¬ p)) : (if m then A else if a then B else if p then C else A) = A := by
  by_cases hm : m
  · exact if_pos hm
  · have h2 := h.resolve_left hm
    exact (if_neg hm).trans ((if_neg h2.1).trans (if_neg h2.2))
theorem ldy {a m p : Prop} [Decidable a] [Decidable m] [Decidable p] {A B C : Int32} (hm : ¬ m) (h : a ∨ p) : (if m then A else if a then B else if p then C else A) = if a then B else C := by
  refine (if_neg hm).trans ?_
  by_cases ha : a
  · exact (if_pos ha).trans (if_pos ha).symm
  · exact (if_neg ha).trans ((if_pos (h.resolve_left ha)).trans (if_neg ha).symm)
theorem if_s {a : Prop} [Decidable a] {A : Int32} : (if a then A else A) = A := by
  by_cases h : a
  · exact if_pos h
  · exact if_neg h
section TR
variable {N : Nat → Nat} {tr : Int32} {T U : Tb} {i : Nat}
theorem pl {n : Nat} {q : Int32} (h : q = -1 ∨ ∃ j, j < n ∧ q = nI j) (hn : q ≠ -1) : ∃ j, j < n ∧ q = nI j := h.resolve_left hn
theorem nI_m {j : Nat} (h : j < 600) : ¬ nI j = (-1 : Int32) := fun z => nI_pos (n := j) (by omega) (by rw [z]; decide)
theorem Sm.slp (h : Sm N tr T U) (hi : i < N 2) : Sm N tr (tu T 2 i (R_X5_sleepHour_0 (T 2 i))) (slR U i) ∧ ph (slR U i) (N 2) ≤ ph U (N 2) ∧ slR U i 4 = U 4 := by
  obtain ⟨⟨r1, r2, r3, r4, r5, r6, r8, r9, hk⟩, ⟨b2, b3, b5, b7, b8⟩⟩ := h.2.2.1 i hi
  have h1 : (1 : Int32).toInt = 1 := by decide
  have h8 : (8 : Int32).toInt = 8 := by decide
  have e1 : (T 2 i 5 + 1).toInt = (T 2 i 5).toInt + 1 := (ti_add (by omega) (by omega)).trans (by omega)
  unfold slR
  by_cases c : U 2 i 6 + 1 = 8
  · rw [if_pos c]
    have c2 : T 2 i 5 + 1 = 8 := by rw [← r6]; exact c
    have c3 : ¬ T 2 i 5 + 1 < 8 := fun z => by
      have := Int32.lt_iff_toInt_lt.mp z
      rw [c2] at this
      omega
    have q1 : (R_X5_sleepHour_0 (T 2 i)) 1 = 0 := if_neg c3
    have q5 : (R_X5_sleepHour_0 (T 2 i)) 5 = 0 := if_neg c3
    refine ⟨h.set2 ⟨r1, r2, r3, r4, q1.symm, q5.symm, r8, r9, hk⟩ ⟨b2, b3, ?_, b7, b8⟩, ph_tu (fun z => z), rfl⟩
    rw [q5]
    decide
  · rw [if_neg c]
    have c2 : ¬ T 2 i 5 + 1 = 8 := by rw [← r6]; exact c
    have c3 : T 2 i 5 + 1 < 8 := by
      refine Int32.lt_iff_toInt_lt.mpr ?_
      have : ¬ (T 2 i 5 + 1).toInt = (8 : Int32).toInt := fun z => c2 (Int32.toInt_inj.mp z)
      omega
    have c4 := Int32.lt_iff_toInt_lt.mp c3
    have q1 : (R_X5_sleepHour_0 (T 2 i)) 1 = T 2 i 1 := if_pos c3
    have q5 : (R_X5_sleepHour_0 (T 2 i)) 5 = T 2 i 5 + 1 := if_pos c3
    refine ⟨h.set2 ⟨r1, r2, r3, r4, r5.trans q1.symm, ?_, r8, r9, hk⟩ ⟨b2, b3, ?_, b7, b8⟩, ph_tu (fun z => z), rfl⟩
    · rw [q5, ← r6]; rfl
    · rw [q5, e1]
      omega
theorem towT_eq (x y z : Int32) : t_X7_towardsT_0 x y z = t_X6_towards_0 x y z := by
  unfold t_X7_towardsT_0 t_X6_towards_0
  rw [mx_comm, mn_comm y]
theorem Sm.drv (h : Sm N tr T U) (hi : i < N 2) (m : Int32) : Sm N tr (tu T 2 i (R_X5_drive_0 (T 2 i) m)) (dvR U i m) ∧ ph (dvR U i m) (N 2) ≤ ph U (N 2) ∧ dvR U i m 4 = U 4 := by
  obtain ⟨⟨r1, r2, r3, r4, r5, r6, r8, r9, hk⟩, ⟨b2, b3, b5, b7, b8⟩⟩ := h.2.2.1 i hi
  refine ⟨h.set2 ⟨?_, r2, r3, r4, ?_, rfl, r8, ?_, hk⟩ ⟨b2, b3, (by show 0 ≤ (0 : Int32).toInt ∧ (0 : Int32).toInt ≤ 7; decide), b7, b8⟩, ph_tu (fun z => z), rfl⟩
  · show t_X7_towardsT_0 (U 2 i 1) m 50 = t_X6_towards_0 (T 2 i 0) m 50
    rw [towT_eq, r1]
  · show U 2 i 5 + 1 = T 2 i 1 + 1
    rw [r5]
  · show U 2 i 9 + ab (t_X7_towardsT_0 (U 2 i 1) m 50 - U 2 i 1) = T 2 i 9 + ab (t_X6_towards_0 (T 2 i 0) m 50 - T 2 i 0)
    rw [towT_eq, r1, r9]
theorem Sm.lod (h : Sm N tr T U) (hi : i < N 2) {j : Nat} (hj : j < N 1) (ej : ix (U 2 i 7) = j) (hk1 : U 2 i 0 = 1) : Sm N tr (tu (tu T 2 i (R_X5_takeFrom_0 (T 2 i) (T 1 j))) 1 j (R_X5_takeFrom_1 (T 2 i) (T 1 j))) (ldR U i) ∧ ph (ldR U i) (N 2) ≤ ph U (N 2) ∧ ldR U i 4 = U 4 := by
  obtain ⟨⟨r1, r2, r3, r4, r5, r6, r8, r9, hk⟩, ⟨b2, b3, b5, b7, b8⟩⟩ := h.2.2.1 i hi
  obtain ⟨⟨c0, q0, q1, q2, q3, q4, q5, q6, q7, q8, q9, q10⟩, ⟨ip, it, itf, ib, ig⟩⟩ := h.2.1 j hj
  have h800 : (800 : Int32).toInt = 800 := by decide
  have h0 : (0 : Int32).toInt = 0 := by decide
  have e8 : ((800 : Int32) - T 2 i 2).toInt = 800 - (T 2 i 2).toInt := (ti_sub (by omega) (by omega)).trans (by omega)
  obtain ⟨x, ex⟩ : ∃ x, x = mn (T 1 j 3) ((800 : Int32) - T 2 i 2) := ⟨_, rfl⟩
  have ex' : mn ((800 : Int32) - T 2 i 2) (T 1 j 3) = x := by rw [mn_comm]; exact ex.symm
  have xt : x.toInt = min (T 1 j 3).toInt (800 - (T 2 i 2).toInt) := by rw [ex, mn_toInt, e8]
  have xl : x ≤ 0 ↔ x = 0 := by
    rw [i_le0, i_eq0]
    omega
  have ea : (T 2 i 2 + x).toInt = (T 2 i 2).toInt + x.toInt := ti_add (by omega) (by omega)
  have es : (T 1 j 3 - x).toInt = (T 1 j 3).toInt - x.toInt := ti_sub (by omega) (by omega)
  have l0 := i_le0 (a := T 2 i 2)
  have l1 := i_eq0 (a := T 2 i 2)
  have x1 := i_eq0 (a := x)
  -- how the class's goes
  have cA : (x = 0 ∨ (¬ T 2 i 2 ≤ 0 ∧ ¬ T 2 i 3 = T 1 j 4)) ∨ (¬ x = 0 ∧ (T 2 i 2 ≤ 0 ∨ T 2 i 3 = T 1 j 4)) := by
    by_cases a : x = 0
    · exact Or.inl (Or.inl a)
    · by_cases b : T 2 i 2 ≤ 0
      · exact Or.inr ⟨a, Or.inl b⟩
      · by_cases c : T 2 i 3 = T 1 j 4
        · exact Or.inr ⟨a, Or.inr c⟩
        · exact Or.inl (Or.inr ⟨b, c⟩)
  have ph7 : ph (ldR U i) (N 2) ≤ ph U (N 2) := by
    unfold ldR
    refine Nat.le_trans (ph_o (by decide)) (ph_tu (fun z => ?_))
    have z1 : U 2 i 0 = 2 := z.1
    rw [hk1] at z1
    exact absurd z1 (by decide)
  refine ⟨?_, ph7, rfl⟩
  unfold ldR
  rw [ej, r2, r3, r4, q2, q3, q4]
  rcases cA with cA | ⟨cx, cA⟩
  · have cB : x ≤ 0 ∨ (¬ T 2 i 2 ≤ 0 ∧ ¬ T 2 i 3 = T 1 j 4) := cA.imp_left xl.mpr
    have A2 : t_X5_takeFrom_0 (T 2 i 2) (T 2 i 3) (T 1 j 3) (T 1 j 4) = T 2 i 2 := by
      unfold t_X5_takeFrom_0
      rw [← ex]
      exact tkn cB
    have A3 : t_X5_takeFrom_1 (T 2 i 2) (T 2 i 3) (T 1 j 3) (T 1 j 4) = T 2 i 3 := by
      unfold t_X5_takeFrom_1
      rw [← ex]
      exact tkn cB
    have A4 : t_X5_takeFrom_2 (T 2 i 2) (T 2 i 3) (T 2 i 4) (T 1 j 3) (T 1 j 4) (T 1 j 5) = T 2 i 4 := by
      unfold t_X5_takeFrom_2
      rw [← ex]
      exact tkn cB
    have A5 : t_X5_takeFrom_3 (T 2 i 2) (T 2 i 3) (T 1 j 3) (T 1 j 4) = T 1 j 3 := by
      unfold t_X5_takeFrom_3
      rw [← ex]
      exact tkn cB
    have B2 : t_X7_load_0 (T 2 i 2) (T 2 i 3) (T 1 j 3) (T 1 j 4) = T 2 i 2 := by
      unfold t_X7_load_0
      rw [ex']
      exact ldn cA
    have B3 : t_X7_load_1 (T 2 i 2) (T 2 i 3) (T 1 j 3) (T 1 j 4) = T 2 i 3 := by
      unfold t_X7_load_1
      rw [ex']
      exact ldn cA
    have B4 : t_X7_load_2 (T 2 i 2) (T 2 i 3) (T 2 i 4) (T 1 j 3) (T 1 j 4) (T 1 j 5) = T 2 i 4 := by
      unfold t_X7_load_2
      rw [ex']
      exact ldn cA
    have B5 : t_X7_load_3 (T 2 i 2) (T 2 i 3) (T 1 j 3) (T 1 j 4) = T 1 j 3 := by
      unfold t_X7_load_3
      rw [ex']
      exact ldn cA
    rw [B2, B3, B4, B5]
    refine Sm.set1 (Sm.set2 h ?_ ?_) ?_ ?_
    · exact ⟨r1, A2.symm, A3.symm, A4.symm, r5, r6, r8, r9, hk⟩
    · refine ⟨?_, ?_, b5, b7, b8⟩
      · show 0 ≤ (t_X5_takeFrom_0 (T 2 i 2) (T 2 i 3) (T 1 j 3) (T 1 j 4)).toInt ∧ (t_X5_takeFrom_0 (T 2 i 2) (T 2 i 3) (T 1 j 3) (T 1 j 4)).toInt ≤ 800
        rw [A2]; exact b2
      · show 0 < (t_X5_takeFrom_0 (T 2 i 2) (T 2 i 3) (T 1 j 3) (T 1 j 4)).toInt → ∃ y, y < N 0 ∧ t_X5_takeFrom_1 (T 2 i 2) (T 2 i 3) (T 1 j 3) (T 1 j 4) = nI y
        rw [A2, A3]; exact b3
    · exact ⟨c0, q0, q1, A5.symm, rfl, rfl, q5, q6, q7, q8, q9, q10⟩
    · refine ⟨ip, ?_, ?_, ib, ig⟩
      · show 0 ≤ (t_X5_takeFrom_3 (T 2 i 2) (T 2 i 3) (T 1 j 3) (T 1 j 4)).toInt ∧ (t_X5_takeFrom_3 (T 2 i 2) (T 2 i 3) (T 1 j 3) (T 1 j 4)).toInt ≤ 400
        rw [A5]; exact it
      · show 0 < (t_X5_takeFrom_3 (T 2 i 2) (T 2 i 3) (T 1 j 3) (T 1 j 4)).toInt → _
        rw [A5]; exact itf
  · have cx' : ¬ x ≤ 0 := fun z => cx (xl.mp z)
    have A2 : t_X5_takeFrom_0 (T 2 i 2) (T 2 i 3) (T 1 j 3) (T 1 j 4) = T 2 i 2 + x := by
      unfold t_X5_takeFrom_0
      rw [← ex]
      exact (tky cx' cA).trans if_s
    have A3 : t_X5_takeFrom_1 (T 2 i 2) (T 2 i 3) (T 1 j 3) (T 1 j 4) = T 1 j 4 := by
      unfold t_X5_takeFrom_1
      rw [← ex]
      exact (tky cx' cA).trans if_s
    have A4 : t_X5_takeFrom_2 (T 2 i 2) (T 2 i 3) (T 2 i 4) (T 1 j 3) (T 1 j 4) (T 1 j 5) = if T 2 i 2 ≤ 0 then T 1 j 5 else mx (T 2 i 4) (T 1 j 5) := by
      unfold t_X5_takeFrom_2
      rw [← ex]
      exact tky cx' cA
    have A5 : t_X5_takeFrom_3 (T 2 i 2) (T 2 i 3) (T 1 j 3) (T 1 j 4) = T 1 j 3 - x := by
      unfold t_X5_takeFrom_3
      rw [← ex]
      exact (tky cx' cA).trans if_s
    have B2 : t_X7_load_0 (T 2 i 2) (T 2 i 3) (T 1 j 3) (T 1 j 4) = T 2 i 2 + x := by
      unfold t_X7_load_0
      rw [ex']
      exact (ldy cx cA).trans if_s
    have B3 : t_X7_load_1 (T 2 i 2) (T 2 i 3) (T 1 j 3) (T 1 j 4) = T 1 j 4 := by
      unfold t_X7_load_1
      rw [ex', if_neg cx]
      by_cases a : T 2 i 2 ≤ 0
      · exact if_pos a
      · exact (if_neg a).trans (if_pos (cA.resolve_left a))
    have B4 : t_X7_load_2 (T 2 i 2) (T 2 i 3) (T 2 i 4) (T 1 j 3) (T 1 j 4) (T 1 j 5) = if T 2 i 2 ≤ 0 then T 1 j 5 else mx (T 2 i 4) (T 1 j 5) := by
      unfold t_X7_load_2
      rw [ex']
      refine (ldy cx cA).trans ?_
      by_cases a : T 2 i 2 ≤ 0
      · have a0 : T 2 i 2 = 0 := l1.mpr (by have := l0.mp a; omega)
        exact (if_pos a).trans ((if_pos a0).trans (if_pos a).symm)
      · have a0 : ¬ T 2 i 2 = 0 := fun z => a (by rw [z]; decide)
        exact (if_neg a).trans ((if_neg a0).trans (if_neg a).symm)
    have B5 : t_X7_load_3 (T 2 i 2) (T 2 i 3) (T 1 j 3) (T 1 j 4) = T 1 j 3 - x := by
      unfold t_X7_load_3
      rw [ex']
      exact (ldy cx cA).trans if_s
    have xp : 0 < x.toInt := by
      have := mt i_le0.mpr cx'
      omega
    rw [B2, B3, B4, B5]
    refine Sm.set1 (Sm.set2 h ?_ ?_) ?_ ?_
    · exact ⟨r1, A2.symm, A3.symm, A4.symm, r5, r6, r8, r9, hk⟩
    · refine ⟨?_, ?_, b5, b7, b8⟩
      · show 0 ≤ (t_X5_takeFrom_0 (T 2 i 2) (T 2 i 3) (T 1 j 3) (T 1 j 4)).toInt ∧ (t_X5_takeFrom_0 (T 2 i 2) (T 2 i 3) (T 1 j 3) (T 1 j 4)).toInt ≤ 800
        rw [A2, ea]
        omega
      · show 0 < (t_X5_takeFrom_0 (T 2 i 2) (T 2 i 3) (T 1 j 3) (T 1 j 4)).toInt → ∃ y, y < N 0 ∧ t_X5_takeFrom_1 (T 2 i 2) (T 2 i 3) (T 1 j 3) (T 1 j 4) = nI y
        rw [A3]
        exact fun _ => itf (by omega)
    · exact ⟨c0, q0, q1, A5.symm, rfl, rfl, q5, q6, q7, q8, q9, q10⟩
    · refine ⟨ip, ?_, ?_, ib, ig⟩
      · show 0 ≤ (t_X5_takeFrom_3 (T 2 i 2) (T 2 i 3) (T 1 j 3) (T 1 j 4)).toInt ∧ (t_X5_takeFrom_3 (T 2 i 2) (T 2 i 3) (T 1 j 3) (T 1 j 4)).toInt ≤ 400
        rw [A5, es]
        omega
      · show 0 < (t_X5_takeFrom_3 (T 2 i 2) (T 2 i 3) (T 1 j 3) (T 1 j 4)).toInt → _
        rw [A5, es]
        exact fun _ => itf (by omega)
end TR

theorem pkb {c1 c2 c3 c4 c5 c6 : Prop} [Decidable c1] [Decidable c2] [Decidable c3] [Decidable c4] [Decidable c5] [Decidable c6] {X Y Z Z' : Int32} (h1 : ¬ c1) : (if c1 then (if c2 then (if c3 then X else if c4 then X else if c5 then (if c6 then X else Y) else X) else Z) else Z') = Z' := if_neg h1
theorem pkm {c1 c2 c3 c4 c5 c6 : Prop} [Decidable c1] [Decidable c2] [Decidable c3] [Decidable c4] [Decidable c5] [Decidable c6] {X Y Z Z' : Int32} (h1 : c1) (h2 : ¬ c2) : (if c1 then (if c2 then (if c3 then X else if c4 then X else if c5 then (if c6 then X else Y) else X) else Z) else Z') = Z := (if_pos h1).trans (if_neg h2)
theorem pki {c1 c2 c3 c4 c5 c6 : Prop} [Decidable c1] [Decidable c2] [Decidable c3] [Decidable c4] [Decidable c5] [Decidable c6] {X Y Z Z' : Int32} (h1 : c1) (h2 : c2) (hi : c3 ∨ c4 ∨ ¬ c5 ∨ c6) : (if c1 then (if c2 then (if c3 then X else if c4 then X else if c5 then (if c6 then X else Y) else X) else Z) else Z') = X := by
  refine (if_pos h1).trans ((if_pos h2).trans ?_)
  by_cases h3 : c3
  · exact if_pos h3
  · refine (if_neg h3).trans ?_
    by_cases h4 : c4
    · exact if_pos h4
    · refine (if_neg h4).trans ?_
      by_cases h5 : c5
      · refine (if_pos h5).trans ?_
        rcases hi with q | q | q | q
        · exact absurd q h3
        · exact absurd q h4
        · exact absurd h5 q
        · exact if_pos q
      · exact if_neg h5
theorem pkw {c1 c2 c3 c4 c5 c6 : Prop} [Decidable c1] [Decidable c2] [Decidable c3] [Decidable c4] [Decidable c5] [Decidable c6] {X Y Z Z' : Int32} (h1 : c1) (h2 : c2) (h3 : ¬ c3) (h4 : ¬ c4) (h5 : c5) (h6 : ¬ c6) : (if c1 then (if c2 then (if c3 then X else if c4 then X else if c5 then (if c6 then X else Y) else X) else Z) else Z') = Y := (if_pos h1).trans ((if_pos h2).trans ((if_neg h3).trans ((if_neg h4).trans ((if_pos h5).trans (if_neg h6)))))
theorem ixR_m1 {n : Nat} : ixR n (-1 : Int32) = none := if_pos (by decide)
theorem fit_0 {x y z : Int32} (h : t_X2_isFit_0 x y z = 0) : x < 80 ∨ 20 ≤ y ∨ z < 8 := by
  unfold t_X2_isFit_0 at h
  by_cases h1 : x < 80
  · exact Or.inl h1
  · rw [if_neg h1] at h
    by_cases h2 : (20 : Int32) ≤ y
    · exact Or.inr (Or.inl h2)
    · rw [if_neg h2] at h
      by_cases h3 : z < 8
      · exact Or.inr (Or.inr h3)
      · rw [if_neg h3] at h
        exact absurd h (by decide)
theorem fit_1 {x y z : Int32} (h1 : ¬ x < 80) (h2 : ¬ (20 : Int32) ≤ y) (h3 : ¬ z < 8) : ¬ t_X2_isFit_0 x y z = 0 := by
  unfold t_X2_isFit_0
  rw [if_neg h1, if_neg h2, if_neg h3]
  decide
theorem fit_n {x y z : Int32} (h : x < 80 ∨ 20 ≤ y ∨ z < 8) : t_X2_isFit_0 x y z = 0 := by
  unfold t_X2_isFit_0
  by_cases h1 : x < 80
  · exact if_pos h1
  · rw [if_neg h1]
    by_cases h2 : (20 : Int32) ≤ y
    · exact if_pos h2
    · rw [if_neg h2]
      exact if_pos ((h.resolve_left h1).resolve_left h2)
theorem hold_0 {x y z : Int32} : t_X0_holdsAnother_0 x y z = 0 ↔ x ≤ 0 ∨ y = z := by
  unfold t_X0_holdsAnother_0
  by_cases h1 : x ≤ 0
  · rw [if_pos h1]
    exact ⟨fun _ => Or.inl h1, fun _ => rfl⟩
  · rw [if_neg h1]
    by_cases h2 : y = z
    · rw [if_pos h2]
      exact ⟨fun _ => Or.inr h2, fun _ => rfl⟩
    · rw [if_neg h2]
      exact ⟨fun q => absurd q (by decide), fun q => absurd q (fun w => w.elim h1 h2)⟩
theorem Sm.both {N : Nat → Nat} {tr : Int32} {T U V : Tb} {i j : Nat} {A B : Row} (h : Sm N tr T U) (hA : RC i A (V 1 i) ∧ IC N A) (hB : RF tr B (V 0 j) ∧ IF B) (hV : ∀ k i', ¬ (k = 1 ∧ i' = i) → ¬ (k = 0 ∧ i' = j) → V k i' = U k i') : Sm N tr (tu (tu T 1 i A) 0 j B) V := by
  refine ⟨fun x hx => ?_, fun x hx => ?_, fun x hx => ?_, fun x hx => ?_⟩
  · by_cases e : x = j
    · subst e
      rw [tu_s]
      exact hB
    · rw [tu_i e, tu_k (by decide), hV 0 x (by simp) (fun z => e z.2)]
      exact h.1 x hx
  · rw [tu_k (by decide)]
    by_cases e : x = i
    · subst e
      rw [tu_s]
      exact hA
    · rw [tu_i e, hV 1 x (fun z => e z.2) (by simp)]
      exact h.2.1 x hx
  · rw [tu_k (by decide), tu_k (by decide), hV 2 x (by simp) (by simp)]
    exact h.2.2.1 x hx
  · rw [tu_k (by decide), tu_k (by decide), hV 3 x (by simp) (by simp)]
    exact h.2.2.2 x hx
theorem t1_o {U : Tb} {i : Nat} {u : Row} {j : Nat} : ∀ k i', ¬ (k = 1 ∧ i' = i) → ¬ (k = 0 ∧ i' = j) → tu U 1 i u k i' = U k i' := fun _ _ h1 _ => if_neg h1
theorem tow_eq (x y z : Int32) : t_X7_towards_0 x y z = t_X6_towards_0 x y z := by
  unfold t_X7_towards_0 t_X6_towards_0
  rw [mx_comm, mn_comm y]
set_option maxHeartbeats 4000000 in
theorem Sm.work {N : Nat → Nat} {tr : Int32} {T U : Tb} {i : Nat} (h : Sm N tr T U) (hN : NB N) (hi : i < N 1) (now r : Int32) : GoOK N U i ∧ Sm N tr (coP (N 0) (clk now) r i T) (u_X7_work N U now (nI i) r i) := by
  have hn0 : N 0 ≤ 600 := by have := hN.1; omega
  obtain ⟨hc, hic⟩ := h.2.1 i hi
  have hcr := hc
  obtain ⟨c0, q0, q1, q2, q3, q4, q5, q6, q7, q8, q9, q10⟩ := hc
  have hica := hic
  obtain ⟨ip, it, itf, ib, ig⟩ := hic
  rcases ig with g | ⟨j, hj, g⟩
  · have gu : U 1 i 7 = -1 := q7.trans g
    refine ⟨fun z => absurd gu z, ?_⟩
    rw [coP_n (by rw [g]; exact ixR_m1)]
    by_cases hb : U 1 i 6 = (1 : Int32)
    · rw [uw_b hb]
      exact h
    · rw [uw_g hb gu]
      exact h
  · have gu : U 1 i 7 = nI j := q7.trans g
    have ej : ix (U 1 i 7) = j := by rw [gu]; exact ix_n (by omega)
    have hm1 : ¬ U 1 i 7 = (-1 : Int32) := fun z => nI_pos (n := j) (by omega) (by rw [← gu, z]; decide)
    refine ⟨fun _ => ⟨by rw [gu]; exact nI_pos (by omega), by rw [ej]; exact hj⟩, ?_⟩
    obtain ⟨hf, hif⟩ := h.1 j hj
    have hfr := hf
    obtain ⟨f0, f1, f2, f3, f4, f5, f6, f7, f9, f10, f8⟩ := hf
    have hifa := hif
    obtain ⟨i0, i2, i5, i3, i8⟩ := hif
    rw [coP_s (j := j) (by rw [g]; exact ixR_of hn0 hj)]
    have ebr : t_X7_brings_0 (U 0 j 6) (U 0 j 9) = t_X2_brings_0 (T 0 j 3) (T 0 j 8) := by rw [f6, f9]; rfl
    have eac : a_X7_work U i = t_X0_acresAtOnce_0 (T 1 i 2) (T 1 i 3) (T 0 j 2) (T 0 j 3) (T 0 j 5) (T 0 j 8) := by
      unfold a_X7_work t_X0_acresAtOnce_0
      rw [ej, ebr, q0, q2, f2, f3]
      rfl
    have hab := ac_b (pc := T 1 i 2) (tk := T 1 i 3) (ac := T 0 j 2) (y := T 0 j 3) (cu := T 0 j 5) (l := T 0 j 8) ip it i2 i5 i3 i8
    by_cases hb : T 1 i 7 = 0
    · have hb1 : ¬ U 1 i 6 = (1 : Int32) := by rw [q6, hb]; decide
      by_cases hm : T 1 i 1 = T 0 j 1
      · have hm' : U 1 i 1 = U 0 (ix (U 1 i 7)) 1 := by rw [ej, q1, f1]; exact hm
        -- idle
        have idle : (0 < r ∨ t_X2_isFit_0 (T 0 j 6) (T 0 j 7) (clk now) = 0 ∨ ¬ t_X0_holdsAnother_0 (T 1 i 3) (T 1 i 4) (T 1 i 9) = 0 ∨ t_X0_acresAtOnce_0 (T 1 i 2) (T 1 i 3) (T 0 j 2) (T 0 j 3) (T 0 j 5) (T 0 j 8) = 0) → u_X7_work N U now (nI i) r i = tu U 1 i (idl U i) → Sm N tr (tu (tu T 1 i (R_X0_passHour_0 (T 1 i) (T 0 j) (clk now) r)) 0 j (R_X0_passHour_1 (T 1 i) (T 0 j) (clk now) r)) (u_X7_work N U now (nI i) r i) := by
          intro I e
          rw [e]
          have A3 : R_X0_passHour_0 (T 1 i) (T 0 j) (clk now) r 3 = T 1 i 3 := pki hb hm I
          have A4 : R_X0_passHour_0 (T 1 i) (T 0 j) (clk now) r 4 = T 1 i 4 := pki hb hm I
          have A7 : R_X0_passHour_0 (T 1 i) (T 0 j) (clk now) r 7 = T 1 i 7 := pki hb hm I
          have B5 : R_X0_passHour_1 (T 1 i) (T 0 j) (clk now) r 5 = T 0 j 5 := pki hb hm I
          have B9 : R_X0_passHour_1 (T 1 i) (T 0 j) (clk now) r 9 = T 0 j 9 := pki hb hm I
          refine h.both ⟨?_, ip, ?_, ?_, ?_, Or.inr ⟨j, hj, g⟩⟩ ⟨?_, i0, i2, ?_, i3, i8⟩ t1_o
          · rw [tu_s]
            refine ⟨c0, q0, ?_, q2.trans A3.symm, q3.trans A4.symm, q4.trans (pki hb hm I).symm, q5.trans (pki hb hm I).symm, q6.trans A7.symm, q7, q8.trans (pki hb hm I).symm, ?_, q10.trans (pki hb hm I).symm⟩
            · exact q1.trans (((if_pos hb).trans (if_pos hm)) : t_X0_passHour_0 (T 1 i 1) (T 1 i 7) (T 0 j 1) = _).symm
            · show U 1 i 9 + 1 = _
              rw [q9]
              exact (pki hb hm I).symm
          · rw [A3]; exact it
          · rw [A3, A4]; exact itf
          · rw [A7]; exact ib
          · rw [tu_k (by decide)]
            exact ⟨f0, f1, f2, f3.trans B5.symm, f4, f5, f6, f7.trans B9.symm, f9, f10, f8⟩
          · rw [B5]; exact i5
        by_cases h4 : 0 < r
        · exact idle (Or.inl h4) (uw_4 hb1 hm1 hm' h4)
        · by_cases h5 : T 0 j 6 < (80 : Int32)
          · exact idle (Or.inr (Or.inl (fit_n (Or.inl h5)))) (uw_5 hb1 hm1 hm' h4 (by rw [ej, f4]; exact h5))
          · by_cases h6 : (20 : Int32) ≤ T 0 j 7
            · exact idle (Or.inr (Or.inl (fit_n (Or.inr (Or.inl h6))))) (uw_6 hb1 hm1 hm' h4 (by rw [ej, f4]; exact h5) (by rw [ej, f5]; exact h6))
            · by_cases h7 : clk now < (8 : Int32)
              · exact idle (Or.inr (Or.inl (fit_n (Or.inr (Or.inr h7))))) (uw_7 hb1 hm1 hm' h4 (by rw [ej, f4]; exact h5) (by rw [ej, f5]; exact h6) h7)
              · by_cases h8 : T 1 i 3 ≤ 0 ∨ T 1 i 4 = T 1 i 9
                · have h8' : U 1 i 2 ≤ 0 ∨ U 1 i 3 = U 1 i 7 := by rw [q2, q3, q7]; exact h8
                  by_cases h9 : t_X0_acresAtOnce_0 (T 1 i 2) (T 1 i 3) (T 0 j 2) (T 0 j 3) (T 0 j 5) (T 0 j 8) = 0
                  · exact idle (Or.inr (Or.inr (Or.inr h9))) (uw_9 hb1 hm1 hm' h4 (by rw [ej, f4]; exact h5) (by rw [ej, f5]; exact h6) h7 h8' (by rw [eac]; exact h9))
                  · have hft := fit_1 h5 h6 h7
                    have hho := hold_0.mpr h8
                    rw [uw_w hb1 hm1 hm' h4 (by rw [ej, f4]; exact h5) (by rw [ej, f5]; exact h6) h7 h8' (by rw [eac]; exact h9)]
                    unfold wrk
                    rw [ej, ebr, eac]
                    obtain ⟨x, ex⟩ : ∃ x, x = t_X0_acresAtOnce_0 (T 1 i 2) (T 1 i 3) (T 0 j 2) (T 0 j 3) (T 0 j 5) (T 0 j 8) := ⟨_, rfl⟩
                    obtain ⟨b, eb⟩ : ∃ b, b = t_X2_brings_0 (T 0 j 3) (T 0 j 8) := ⟨_, rfl⟩
                    have A3 : R_X0_passHour_0 (T 1 i) (T 0 j) (clk now) r 3 = if x * b ≤ 0 then T 1 i 3 else T 1 i 3 + x * b := by rw [ex, eb]; exact pkw hb hm h4 hft hho h9
                    have A4 : R_X0_passHour_0 (T 1 i) (T 0 j) (clk now) r 4 = if x * b ≤ 0 then T 1 i 4 else T 1 i 9 := by rw [ex, eb]; exact pkw hb hm h4 hft hho h9
                    have A5 : R_X0_passHour_0 (T 1 i) (T 0 j) (clk now) r 5 = if x * b ≤ 0 then T 1 i 5 else if T 1 i 3 ≤ 0 then T 0 j 7 else mx (T 1 i 5) (T 0 j 7) := by rw [ex, eb]; exact pkw hb hm h4 hft hho h9
                    have A6 : R_X0_passHour_0 (T 1 i) (T 0 j) (clk now) r 6 = T 1 i 6 + x := by rw [ex]; exact pkw hb hm h4 hft hho h9
                    have A7 : R_X0_passHour_0 (T 1 i) (T 0 j) (clk now) r 7 = if T 1 i 6 + x < 100 then 0 else 1 := by rw [ex]; exact pkw hb hm h4 hft hho h9
                    have A8 : R_X0_passHour_0 (T 1 i) (T 0 j) (clk now) r 8 = T 1 i 8 := pkw hb hm h4 hft hho h9
                    have A10 : R_X0_passHour_0 (T 1 i) (T 0 j) (clk now) r 10 = T 1 i 10 + x := by rw [ex]; exact pkw hb hm h4 hft hho h9
                    have A11 : R_X0_passHour_0 (T 1 i) (T 0 j) (clk now) r 11 = T 1 i 11 + x * b := by rw [ex, eb]; exact pkw hb hm h4 hft hho h9
                    have B5 : R_X0_passHour_1 (T 1 i) (T 0 j) (clk now) r 5 = T 0 j 5 + x := by rw [ex]; exact pkw hb hm h4 hft hho h9
                    have B9 : R_X0_passHour_1 (T 1 i) (T 0 j) (clk now) r 9 = T 0 j 9 + t_X0_metered_0 (T 1 i 0) (T 1 i 6) (x * b) := by rw [ex, eb]; exact pkw hb hm h4 hft hho h9
                    rw [← ex, ← eb] at hab
                    rw [← ex, ← eb]
                    refine h.both ⟨?_, ip, ?_, ?_, ?_, Or.inr ⟨j, hj, g⟩⟩ ⟨?_, i0, i2, ?_, i3, i8⟩ (fun k i' n1 n0 => (if_neg n1).trans (if_neg n0))
                    · rw [tu_s]
                      refine ⟨c0, q0, q1.trans (((if_pos hb).trans (if_pos hm)) : t_X0_passHour_0 (T 1 i 1) (T 1 i 7) (T 0 j 1) = _).symm, ?_, ?_, ?_, ?_, ?_, q7, ?_, q9.trans A8.symm, ?_⟩
                      · rw [A3, ← q2]; rfl
                      · rw [A4, ← q3, ← q7]; rfl
                      · rw [A5, ← q4, ← f5]
                        show (if x * b ≤ 0 then U 1 i 4 else if U 1 i 2 = 0 then U 0 j 5 else mx (U 1 i 4) (U 0 j 5)) = _
                        by_cases w : T 1 i 3 ≤ 0
                        · have w0 := i_le0.mp w
                          rw [if_pos w, if_pos (show U 1 i 2 = 0 by rw [q2]; exact i_eq0.mpr (by omega))]
                        · have w0 := mt i_le0.mpr w
                          rw [if_neg w, if_neg (show ¬ U 1 i 2 = 0 by rw [q2]; exact mt i_eq0.mp (by omega))]
                      · rw [A6, ← q5]; rfl
                      · rw [A7, ← q5]; rfl
                      · rw [A10, ← q8]; rfl
                      · rw [A11, ← q10]; rfl
                    · rw [A3]
                      by_cases w : x * b ≤ 0
                      · rw [if_pos w]; exact it
                      · rw [if_neg w, ti_add (by omega) (by omega)]
                        omega
                    · rw [A3, A4]
                      by_cases w : x * b ≤ 0
                      · rw [if_pos w, if_pos w]; exact itf
                      · rw [if_neg w, if_neg w]
                        exact fun _ => ⟨j, hj, g⟩
                    · rw [A7]
                      split
                      · exact Or.inl rfl
                      · exact Or.inr rfl
                    · rw [tu_k (by decide), tu_s]
                      refine ⟨f0, f1, f2, ?_, f4, f5, f6, ?_, f9, f10, f8⟩
                      · rw [B5, ← f3]; rfl
                      · rw [B9, ← f7]
                        show U 0 j 7 + ((x * b) * (((96 : Int32) + ((3 : Int32) * nI i)) + (U 1 i 5 / (20 : Int32)))) / (100 : Int32) = _
                        unfold t_X0_metered_0
                        rw [met_eq, q5, c0]
                    · rw [B5, ti_add (by omega) (by omega)]
                      show 0 ≤ (T 0 j 5).toInt + x.toInt ∧ (T 0 j 5).toInt + x.toInt ≤ (T 0 j 2).toInt
                      omega
                · exact idle (Or.inr (Or.inr (Or.inl (fun z => h8 (hold_0.mp z))))) (uw_8 hb1 hm1 hm' h4 (by rw [ej, f4]; exact h5) (by rw [ej, f5]; exact h6) h7 (by rw [q2]; exact fun z => h8 (Or.inl z)) (by rw [q3, q7]; exact fun z => h8 (Or.inr z)))
      · have hm' : ¬ U 1 i 1 = U 0 (ix (U 1 i 7)) 1 := by rw [ej, q1, f1]; exact hm
        rw [uw_m hb1 hm1 hm']
        have A3 : R_X0_passHour_0 (T 1 i) (T 0 j) (clk now) r 3 = T 1 i 3 := pkm hb hm
        have A4 : R_X0_passHour_0 (T 1 i) (T 0 j) (clk now) r 4 = T 1 i 4 := pkm hb hm
        have A7 : R_X0_passHour_0 (T 1 i) (T 0 j) (clk now) r 7 = T 1 i 7 := pkm hb hm
        have B5 : R_X0_passHour_1 (T 1 i) (T 0 j) (clk now) r 5 = T 0 j 5 := pkm hb hm
        have B9 : R_X0_passHour_1 (T 1 i) (T 0 j) (clk now) r 9 = T 0 j 9 := pkm hb hm
        refine h.both ⟨?_, ip, ?_, ?_, ?_, Or.inr ⟨j, hj, g⟩⟩ ⟨?_, i0, i2, ?_, i3, i8⟩ t1_o
        · rw [tu_s]
          refine ⟨c0, q0, ?_, q2.trans A3.symm, q3.trans A4.symm, q4.trans (pkm hb hm).symm, q5.trans (pkm hb hm).symm, q6.trans A7.symm, q7, q8.trans (pkm hb hm).symm, q9.trans (pkm hb hm).symm, q10.trans (pkm hb hm).symm⟩
          show t_X7_towards_0 (U 1 i 1) (U 0 (ix (U 1 i 7)) 1) 20 = t_X0_passHour_0 (T 1 i 1) (T 1 i 7) (T 0 j 1)
          rw [ej, q1, f1, tow_eq]
          exact ((if_pos hb).trans (if_neg hm)).symm
        · rw [A3]; exact it
        · rw [A3, A4]; exact itf
        · rw [A7]; exact ib
        · rw [tu_k (by decide)]
          exact ⟨f0, f1, f2, f3.trans B5.symm, f4, f5, f6, f7.trans B9.symm, f9, f10, f8⟩
        · rw [B5]; exact i5
    · have hb1 : U 1 i 6 = (1 : Int32) := q6.trans (ib.resolve_left hb)
      rw [uw_b hb1]
      have A3 : R_X0_passHour_0 (T 1 i) (T 0 j) (clk now) r 3 = T 1 i 3 := pkb hb
      have A4 : R_X0_passHour_0 (T 1 i) (T 0 j) (clk now) r 4 = T 1 i 4 := pkb hb
      have A7 : R_X0_passHour_0 (T 1 i) (T 0 j) (clk now) r 7 = T 1 i 7 := pkb hb
      have B5 : R_X0_passHour_1 (T 1 i) (T 0 j) (clk now) r 5 = T 0 j 5 := pkb hb
      have B9 : R_X0_passHour_1 (T 1 i) (T 0 j) (clk now) r 9 = T 0 j 9 := pkb hb
      refine h.both ⟨⟨c0, q0, ?_, q2.trans A3.symm, q3.trans A4.symm, q4.trans (pkb hb).symm, q5.trans (pkb hb).symm, q6.trans A7.symm, q7, q8.trans (pkb hb).symm, q9.trans (pkb hb).symm, q10.trans (pkb hb).symm⟩, ip, ?_, ?_, ?_, Or.inr ⟨j, hj, g⟩⟩ ⟨⟨f0, f1, f2, f3.trans B5.symm, f4, f5, f6, f7.trans B9.symm, f9, f10, f8⟩, i0, i2, ?_, i3, i8⟩ (fun _ _ _ _ => rfl)
      · exact q1.trans ((if_neg hb) : t_X0_passHour_0 (T 1 i 1) (T 1 i 7) (T 0 j 1) = _).symm
      · rw [A3]; exact it
      · rw [A3, A4]; exact itf
      · rw [A7]; exact ib
      · rw [B5]; exact i5
theorem Sm.works {N : Nat → Nat} {tr : Int32} {T U : Tb} {now r : Int32} (hN : NB N) (h : Sm N tr T U) : ∀ n, n ≤ N 1 → Sm N tr (cosP (N 0) (clk now) r n T) (wksR N now r n U)
  | 0, _ => h
  | n + 1, hn => ((Sm.works (now := now) (r := r) hN h n (by omega)).work hN (by omega) now r).2

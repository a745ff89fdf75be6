/-! what is asked: both faces answer alike -/
theorem ixm {i : Nat} (h : i < 600) : ix (nI i) = i := ix_n (by omega)
theorem Sm.btw {N : Nat → Nat} {T U : Tb} {now : Int32} (h : Sm N 0 T U) {i : Nat} (hi : i < 600) : q_X7_between N U now (nI i) = sa (sa 0 (fun j => if T 1 j 4 = nI i then T 1 j 3 else 0) (N 1)) (fun j => if T 2 j 3 = nI i then T 2 j 2 else 0) (N 2) := by
  unfold q_X7_between
  have e1 : sa 0 (fun j => if nI i = (-1 : Int32) then U 1 j 2 else if U 1 j 3 = nI i then U 1 j 2 else 0) (N 1) = sa 0 (fun j => if T 1 j 4 = nI i then T 1 j 3 else 0) (N 1) := saC (fun j hj => by
    show (if nI i = (-1 : Int32) then U 1 j 2 else if U 1 j 3 = nI i then U 1 j 2 else 0) = (if T 1 j 4 = nI i then T 1 j 3 else 0)
    have q := (h.2.1 j hj).1
    rw [if_neg (nI_m hi), q.2.2.2.1, q.2.2.2.2.1])
  rw [e1]
  refine saC (fun j hj => ?_)
  show (if nI i = (-1 : Int32) then U 2 j 2 else if U 2 j 3 = nI i then U 2 j 2 else 0) = (if T 2 j 3 = nI i then T 2 j 2 else 0)
  have q := (h.2.2.1 j hj).1
  rw [if_neg (nI_m hi), q.2.1, q.2.2.1]
theorem Sm.btwA {N : Nat → Nat} {T U : Tb} {now : Int32} (h : Sm N 0 T U) : q_X7_between N U now (-1) = sa (sa 0 (fun j => T 1 j 3) (N 1)) (fun j => T 2 j 2) (N 2) := by
  unfold q_X7_between
  have e1 : sa 0 (fun j => if (-1 : Int32) = (-1 : Int32) then U 1 j 2 else if U 1 j 3 = (-1 : Int32) then U 1 j 2 else 0) (N 1) = sa 0 (fun j => T 1 j 3) (N 1) := saC (fun j hj => by
    show (if (-1 : Int32) = (-1 : Int32) then U 1 j 2 else if U 1 j 3 = (-1 : Int32) then U 1 j 2 else 0) = T 1 j 3
    rw [if_pos rfl, (h.2.1 j hj).1.2.2.2.1])
  rw [e1]
  refine saC (fun j hj => ?_)
  show (if (-1 : Int32) = (-1 : Int32) then U 2 j 2 else if U 2 j 3 = (-1 : Int32) then U 2 j 2 else 0) = T 2 j 2
  rw [if_pos rfl, (h.2.2.1 j hj).1.2.1]
section AS
variable {N : Nat → Nat} {T U : Tb} {now price money th : Int32} {F Lx : Row} {c : Nat}
theorem as_field (h : St N T U money F Lx c) {i k : Nat} (hi : i < N 0) (hk : k < 12) : qv_X6_ofField N T 0 now price money (nI i) (nI k) = q_X8_fieldNow N U now th price money F Lx (nI i) (nI k) := by
  have hN := h.2.1
  have i9 : i < 600 := by have := hN.1; omega
  have hs : Sm N 0 T U := h.1.1
  have ei := ixm i9
  obtain ⟨⟨f0, f1, f2, f3, f4, f5, f6, f7, f9, f10, f8⟩, -⟩ := hs.1 i hi
  unfold qv_X6_ofField q_X8_fieldNow
  rw [ei]
  match k, hk with
  | 0, _ =>
    refine Eq.trans (if_pos (by decide)) (Eq.symm (Eq.trans ((if_neg (by decide)).trans ((if_neg (by decide)).trans (if_neg (by decide)))) ?_))
    exact f0
  | 1, _ =>
    refine Eq.trans ((if_neg (by decide)).trans (if_pos (by decide))) (Eq.symm (Eq.trans ((if_neg (by decide)).trans ((if_neg (by decide)).trans (if_neg (by decide)))) ?_))
    exact f1
  | 2, _ =>
    refine Eq.trans ((if_neg (by decide)).trans ((if_neg (by decide)).trans (if_pos (by decide)))) (Eq.symm (Eq.trans ((if_neg (by decide)).trans ((if_neg (by decide)).trans (if_neg (by decide)))) ?_))
    exact f2
  | 3, _ =>
    refine Eq.trans ((if_neg (by decide)).trans ((if_neg (by decide)).trans ((if_neg (by decide)).trans (if_pos (by decide))))) (Eq.symm (Eq.trans ((if_neg (by decide)).trans ((if_neg (by decide)).trans (if_neg (by decide)))) ?_))
    exact f3
  | 4, _ =>
    refine Eq.trans ((if_neg (by decide)).trans ((if_neg (by decide)).trans ((if_neg (by decide)).trans ((if_neg (by decide)).trans (if_pos (by decide)))))) (Eq.symm (Eq.trans ((if_neg (by decide)).trans ((if_neg (by decide)).trans (if_neg (by decide)))) ?_))
    exact f4
  | 5, _ =>
    refine Eq.trans ((if_neg (by decide)).trans ((if_neg (by decide)).trans ((if_neg (by decide)).trans ((if_neg (by decide)).trans ((if_neg (by decide)).trans (if_pos (by decide))))))) (Eq.symm (Eq.trans ((if_neg (by decide)).trans ((if_neg (by decide)).trans (if_neg (by decide)))) ?_))
    exact f5
  | 6, _ =>
    refine Eq.trans ((if_neg (by decide)).trans ((if_neg (by decide)).trans ((if_neg (by decide)).trans ((if_neg (by decide)).trans ((if_neg (by decide)).trans ((if_neg (by decide)).trans (if_pos (by decide)))))))) (Eq.symm (Eq.trans ((if_neg (by decide)).trans ((if_neg (by decide)).trans (if_neg (by decide)))) ?_))
    exact f6
  | 7, _ =>
    refine Eq.trans ((if_neg (by decide)).trans ((if_neg (by decide)).trans ((if_neg (by decide)).trans ((if_neg (by decide)).trans ((if_neg (by decide)).trans ((if_neg (by decide)).trans ((if_neg (by decide)).trans (if_pos (by decide))))))))) (Eq.symm (Eq.trans ((if_neg (by decide)).trans ((if_neg (by decide)).trans (if_neg (by decide)))) ?_))
    exact f7
  | 8, _ =>
    refine Eq.trans ((if_neg (by decide)).trans ((if_neg (by decide)).trans ((if_neg (by decide)).trans ((if_neg (by decide)).trans ((if_neg (by decide)).trans ((if_neg (by decide)).trans ((if_neg (by decide)).trans ((if_neg (by decide)).trans (if_pos (by decide)))))))))) (Eq.symm (Eq.trans ((if_neg (by decide)).trans ((if_neg (by decide)).trans (if_neg (by decide)))) ?_))
    exact (f8 rfl)
  | 9, _ =>
    refine Eq.trans ((if_neg (by decide)).trans ((if_neg (by decide)).trans ((if_neg (by decide)).trans ((if_neg (by decide)).trans ((if_neg (by decide)).trans ((if_neg (by decide)).trans ((if_neg (by decide)).trans ((if_neg (by decide)).trans ((if_neg (by decide)).trans (if_pos (by decide))))))))))) (Eq.symm (Eq.trans (if_pos (by decide)) ?_))
    exact hs.btw (by omega)
  | 10, _ =>
    refine Eq.trans ((if_neg (by decide)).trans ((if_neg (by decide)).trans ((if_neg (by decide)).trans ((if_neg (by decide)).trans ((if_neg (by decide)).trans ((if_neg (by decide)).trans ((if_neg (by decide)).trans ((if_neg (by decide)).trans ((if_neg (by decide)).trans ((if_neg (by decide)).trans (if_pos (by decide)))))))))))) (Eq.symm (Eq.trans ((if_neg (by decide)).trans (if_pos (by decide))) ?_))
    rw [hs.btw (by omega), f7, f8 rfl]
    rfl
  | 11, _ =>
    refine Eq.trans ((if_neg (by decide)).trans ((if_neg (by decide)).trans ((if_neg (by decide)).trans ((if_neg (by decide)).trans ((if_neg (by decide)).trans ((if_neg (by decide)).trans ((if_neg (by decide)).trans ((if_neg (by decide)).trans ((if_neg (by decide)).trans ((if_neg (by decide)).trans (if_neg (by decide)))))))))))) (Eq.symm (Eq.trans ((if_neg (by decide)).trans ((if_neg (by decide)).trans (if_pos (by decide)))) ?_))
    refine saC (fun j hj => ?_)
    show (if U 1 j 7 = nI i then (1 : Int32) else 0) = (if T 1 j 9 = nI i then 1 else 0)
    rw [(hs.2.1 j hj).1.2.2.2.2.2.2.2.2.1]
theorem as_combine (h : St N T U money F Lx c) {i k : Nat} (hi : i < N 1) (hk : k < 8) : qv_X6_ofCombine N T 0 now price money (nI i) (nI k) = q_X8_combineNow N U now th price money F Lx (nI i) (nI k) := by
  have hN := h.2.1
  have i9 : i < 600 := by have := hN.2.1; omega
  have hs : Sm N 0 T U := h.1.1
  have ei := ixm i9
  obtain ⟨⟨c0, q0, q1, q2, q3, q4, q5, q6, q7, q8, q9, q10⟩, ⟨ip, it, itf, ib, ig⟩⟩ := hs.2.1 i hi
  have l0 : T 1 i 3 ≤ 0 ↔ T 1 i 3 = 0 := by rw [i_le0, i_eq0]; omega
  unfold qv_X6_ofCombine q_X8_combineNow
  rw [ei]
  match k, hk with
  | 0, _ =>
    refine Eq.trans (if_pos (by decide)) (Eq.trans q1.symm ?_)
    split <;> rfl
  | 1, _ =>
    refine Eq.trans ((if_neg (by decide)).trans (if_pos (by decide))) (Eq.trans q2.symm ?_)
    split <;> rfl
  | 2, _ =>
    refine Eq.trans ((if_neg (by decide)).trans ((if_neg (by decide)).trans (if_pos (by decide)))) ?_
    by_cases z : T 1 i 3 = 0
    · rw [if_pos (l0.mpr z), if_pos (by rw [q2]; exact z)]
      rfl
    · rw [if_neg (fun w => z (l0.mp w)), if_neg (by rw [q2]; exact z)]
      exact q3.symm
  | 3, _ =>
    refine Eq.trans ((if_neg (by decide)).trans ((if_neg (by decide)).trans ((if_neg (by decide)).trans (if_pos (by decide))))) (Eq.trans q5.symm ?_)
    split <;> rfl
  | 4, _ =>
    refine Eq.trans ((if_neg (by decide)).trans ((if_neg (by decide)).trans ((if_neg (by decide)).trans ((if_neg (by decide)).trans (if_pos (by decide)))))) ?_
    have w : (if T 1 i 7 = 0 then (0 : Int32) else 1) = U 1 i 6 := by
      rw [q6]
      rcases ib with ib | ib
      · rw [ib]; rfl
      · rw [ib]; rfl
    refine w.trans ?_
    split <;> rfl
  | 5, _ =>
    refine Eq.trans ((if_neg (by decide)).trans ((if_neg (by decide)).trans ((if_neg (by decide)).trans ((if_neg (by decide)).trans ((if_neg (by decide)).trans (if_pos (by decide))))))) (Eq.trans q7.symm ?_)
    split <;> rfl
  | 6, _ =>
    refine Eq.trans ((if_neg (by decide)).trans ((if_neg (by decide)).trans ((if_neg (by decide)).trans ((if_neg (by decide)).trans ((if_neg (by decide)).trans ((if_neg (by decide)).trans (if_pos (by decide)))))))) (Eq.trans q8.symm ?_)
    split <;> rfl
  | 7, _ =>
    refine Eq.trans ((if_neg (by decide)).trans ((if_neg (by decide)).trans ((if_neg (by decide)).trans ((if_neg (by decide)).trans ((if_neg (by decide)).trans ((if_neg (by decide)).trans (if_neg (by decide)))))))) (Eq.trans q9.symm ?_)
    split <;> rfl
theorem as_truck (h : St N T U money F Lx c) {i k : Nat} (hi : i < N 2) (hk : k < 8) : qv_X6_ofTruck N T 0 now price money (nI i) (nI k) = q_X8_truckNow N U now th price money F Lx (nI i) (nI k) := by
  have hN := h.2.1
  have i9 : i < 600 := by have := hN.2.2.1; omega
  have hs : Sm N 0 T U := h.1.1
  have ei := ixm i9
  obtain ⟨⟨r1, r2, r3, r4, r5, r6, r8, r9, hk9⟩, ⟨b2, b3, b5, b7, b8⟩⟩ := hs.2.2.1 i hi
  have l0 : T 2 i 2 ≤ 0 ↔ T 2 i 2 = 0 := by rw [i_le0, i_eq0]; omega
  unfold qv_X6_ofTruck q_X8_truckNow
  rw [ei]
  match k, hk with
  | 0, _ =>
    refine Eq.trans (if_pos (by decide)) (Eq.trans r1.symm ?_)
    split <;> rfl
  | 1, _ =>
    refine Eq.trans ((if_neg (by decide)).trans (if_pos (by decide))) (Eq.trans r2.symm ?_)
    split <;> rfl
  | 2, _ =>
    refine Eq.trans ((if_neg (by decide)).trans ((if_neg (by decide)).trans (if_pos (by decide)))) ?_
    by_cases z : T 2 i 2 = 0
    · rw [if_pos (l0.mpr z), if_pos (by rw [r2]; exact z)]
      rfl
    · rw [if_neg (fun w => z (l0.mp w)), if_neg (by rw [r2]; exact z)]
      exact r3.symm
  | 3, _ =>
    refine Eq.trans ((if_neg (by decide)).trans ((if_neg (by decide)).trans ((if_neg (by decide)).trans (if_pos (by decide))))) ?_
    by_cases z : T 2 i 2 = 0
    · rw [if_pos (l0.mpr z), if_pos (by rw [r2]; exact z)]
      rfl
    · rw [if_neg (fun w => z (l0.mp w)), if_neg (by rw [r2]; exact z)]
      exact r4.symm
  | 4, _ =>
    refine Eq.trans ((if_neg (by decide)).trans ((if_neg (by decide)).trans ((if_neg (by decide)).trans ((if_neg (by decide)).trans (if_pos (by decide)))))) (Eq.trans r5.symm ?_)
    split <;> rfl
  | 5, _ =>
    refine Eq.trans ((if_neg (by decide)).trans ((if_neg (by decide)).trans ((if_neg (by decide)).trans ((if_neg (by decide)).trans ((if_neg (by decide)).trans (if_pos (by decide))))))) (Eq.trans r6.symm ?_)
    split <;> rfl
  | 6, _ =>
    refine Eq.trans ((if_neg (by decide)).trans ((if_neg (by decide)).trans ((if_neg (by decide)).trans ((if_neg (by decide)).trans ((if_neg (by decide)).trans ((if_neg (by decide)).trans (if_pos (by decide)))))))) (Eq.trans r8.symm ?_)
    split <;> rfl
  | 7, _ =>
    refine Eq.trans ((if_neg (by decide)).trans ((if_neg (by decide)).trans ((if_neg (by decide)).trans ((if_neg (by decide)).trans ((if_neg (by decide)).trans ((if_neg (by decide)).trans (if_neg (by decide)))))))) (Eq.trans r9.symm ?_)
    split <;> rfl
theorem as_ticket (h : St N T U money F Lx c) {i k : Nat} (h4 : N 4 ≤ 600) (hi : i < N 4) (hk : k < 7) : qv_X6_ofTicket N T 0 now price money (nI i) (nI k) = rw7 (U 4 i 0) (U 4 i 1) (U 4 i 2) (U 4 i 3) (U 4 i 4) (U 4 i 5) (U 4 i 6) (ix (nI k)) := by
  have ei := ixm (show i < 600 by omega)
  have g6 : ∀ k, k < 7 → U 4 i k = T 4 i k := h.1.2.2.2.2.2 i hi
  unfold qv_X6_ofTicket
  rw [ei]
  match k, hk with
  | 0, _ => exact Eq.trans (if_pos (by decide)) (g6 0 (by decide)).symm
  | 1, _ => exact Eq.trans ((if_neg (by decide)).trans (if_pos (by decide))) (g6 1 (by decide)).symm
  | 2, _ => exact Eq.trans ((if_neg (by decide)).trans ((if_neg (by decide)).trans (if_pos (by decide)))) (g6 2 (by decide)).symm
  | 3, _ => exact Eq.trans ((if_neg (by decide)).trans ((if_neg (by decide)).trans ((if_neg (by decide)).trans (if_pos (by decide))))) (g6 3 (by decide)).symm
  | 4, _ => exact Eq.trans ((if_neg (by decide)).trans ((if_neg (by decide)).trans ((if_neg (by decide)).trans ((if_neg (by decide)).trans (if_pos (by decide)))))) (g6 4 (by decide)).symm
  | 5, _ => exact Eq.trans ((if_neg (by decide)).trans ((if_neg (by decide)).trans ((if_neg (by decide)).trans ((if_neg (by decide)).trans ((if_neg (by decide)).trans (if_pos (by decide))))))) (g6 5 (by decide)).symm
  | 6, _ => exact Eq.trans ((if_neg (by decide)).trans ((if_neg (by decide)).trans ((if_neg (by decide)).trans ((if_neg (by decide)).trans ((if_neg (by decide)).trans (if_neg (by decide))))))) (g6 6 (by decide)).symm
theorem as_many (h : St N T U money F Lx c) {k : Nat} (hk : k < 13) : qv_X6_many N T 0 now price money (nI k) = q_X8_manyNow N U now th price money F Lx (nI k) := by
  have hs : Sm N 0 T U := h.1.1
  unfold qv_X6_many q_X8_manyNow
  match k, hk with
  | 0, _ =>
    exact (if_pos (by decide))
  | 1, _ =>
    exact ((if_neg (by decide)).trans (if_pos (by decide)))
  | 2, _ =>
    refine Eq.trans ((if_neg (by decide)).trans ((if_neg (by decide)).trans (if_pos (by decide)))) (saC (fun j hj => ?_))
    show T 0 j 2 - T 0 j 5 = U 0 j 2 - U 0 j 3
    rw [(hs.1 j hj).1.2.2.1, (hs.1 j hj).1.2.2.2.1]
  | 3, _ =>
    exact ((if_neg (by decide)).trans ((if_neg (by decide)).trans ((if_neg (by decide)).trans (if_pos (by decide)))))
  | 4, _ =>
    refine Eq.trans ((if_neg (by decide)).trans ((if_neg (by decide)).trans ((if_neg (by decide)).trans ((if_neg (by decide)).trans (if_pos (by decide)))))) (saC (fun j hj => ?_))
    show (if T 1 j 7 = 0 then (0 : Int32) else 1) = U 1 j 6
    rw [(hs.2.1 j hj).1.2.2.2.2.2.2.2.1]
    rcases (hs.2.1 j hj).2.2.2.2.1 with ib | ib
    · rw [ib]; rfl
    · rw [ib]; rfl
  | 5, _ =>
    exact ((if_neg (by decide)).trans ((if_neg (by decide)).trans ((if_neg (by decide)).trans ((if_neg (by decide)).trans ((if_neg (by decide)).trans (if_pos (by decide)))))))
  | 6, _ =>
    exact ((if_neg (by decide)).trans ((if_neg (by decide)).trans ((if_neg (by decide)).trans ((if_neg (by decide)).trans ((if_neg (by decide)).trans ((if_neg (by decide)).trans (if_pos (by decide))))))))
  | 7, _ =>
    exact ((if_neg (by decide)).trans ((if_neg (by decide)).trans ((if_neg (by decide)).trans ((if_neg (by decide)).trans ((if_neg (by decide)).trans ((if_neg (by decide)).trans ((if_neg (by decide)).trans (if_pos (by decide)))))))))
  | 8, _ =>
    exact ((if_neg (by decide)).trans ((if_neg (by decide)).trans ((if_neg (by decide)).trans ((if_neg (by decide)).trans ((if_neg (by decide)).trans ((if_neg (by decide)).trans ((if_neg (by decide)).trans ((if_neg (by decide)).trans (if_pos (by decide))))))))))
  | 9, _ =>
    exact Eq.trans ((if_neg (by decide)).trans ((if_neg (by decide)).trans ((if_neg (by decide)).trans ((if_neg (by decide)).trans ((if_neg (by decide)).trans ((if_neg (by decide)).trans ((if_neg (by decide)).trans ((if_neg (by decide)).trans ((if_neg (by decide)).trans (if_pos (by decide))))))))))) (saC (fun j hj => (hs.2.2.2 j hj).2.2.2.1.symm))
  | 10, _ =>
    exact Eq.trans ((if_neg (by decide)).trans ((if_neg (by decide)).trans ((if_neg (by decide)).trans ((if_neg (by decide)).trans ((if_neg (by decide)).trans ((if_neg (by decide)).trans ((if_neg (by decide)).trans ((if_neg (by decide)).trans ((if_neg (by decide)).trans ((if_neg (by decide)).trans (if_pos (by decide)))))))))))) (hs.btwA (now := now)).symm
  | 11, _ =>
    exact Eq.trans ((if_neg (by decide)).trans ((if_neg (by decide)).trans ((if_neg (by decide)).trans ((if_neg (by decide)).trans ((if_neg (by decide)).trans ((if_neg (by decide)).trans ((if_neg (by decide)).trans ((if_neg (by decide)).trans ((if_neg (by decide)).trans ((if_neg (by decide)).trans ((if_neg (by decide)).trans (if_pos (by decide))))))))))))) (saC (fun j hj => (hs.2.1 j hj).1.2.2.2.2.2.2.2.2.2.2.1.symm))
  | 12, _ =>
    exact Eq.trans ((if_neg (by decide)).trans ((if_neg (by decide)).trans ((if_neg (by decide)).trans ((if_neg (by decide)).trans ((if_neg (by decide)).trans ((if_neg (by decide)).trans ((if_neg (by decide)).trans ((if_neg (by decide)).trans ((if_neg (by decide)).trans ((if_neg (by decide)).trans ((if_neg (by decide)).trans (if_neg (by decide))))))))))))) (saC (fun j hj => (hs.2.2.1 j hj).1.2.2.2.2.2.2.1.symm))
theorem as_owed (h : St N T U money F Lx c) {g : Nat} (hg : g < 4) (p1 : Int32) : qv_X6_owed N T 0 now price money (nI g) p1 = if p1 = 0 then F (ix (nI g)) else Lx (ix (nI g)) := by
  have e4 : F g = fS N (T 0) g := h.1.2.2.2.1 g hg
  have e5 : Lx g = lS N (T 0) g := h.1.2.2.2.2.1 g hg
  unfold qv_X6_owed
  rw [ixm (show g < 600 by omega), e4, e5]
  by_cases z : p1 = 0
  · rw [if_pos z]
    refine saC (fun j _ => ?_)
    show (if T 0 j 0 = nI g then (if p1 = 0 then T 0 j 11 else T 0 j 12) else 0) = _
    rw [if_pos z]
  · rw [if_neg z]
    refine saC (fun j _ => ?_)
    show (if T 0 j 0 = nI g then (if p1 = 0 then T 0 j 11 else T 0 j 12) else 0) = _
    rw [if_neg z]
theorem rd_eq {w a : Int32} {u : Row} : ∀ (n i : Nat) (f : Row), RF 0 f (rhR now w a 0 i u) → rdP now w a n i f = rnR now w a u n (i + 1)
  | 0, _, _, _ => rfl
  | n + 1, i, f, h => by
    have h1 : RF 0 (R_X2_passHour_0 f (clk (now + nI (i + 1))) w a 0) (rhR now w a 0 (i + 1) u) := h.hour
    have z := rd_eq n (i + 1) _ h1
    unfold rdP rnR
    rw [← z, h1.2.2.2.2.1, h1.2.2.2.2.2.1]
    by_cases a1 : R_X2_passHour_0 f (clk (now + nI (i + 1))) w a 0 6 < 80
    · rw [if_pos a1, if_pos (fit_n (Or.inl a1))]
    · by_cases a2 : (20 : Int32) ≤ R_X2_passHour_0 f (clk (now + nI (i + 1))) w a 0 7
      · rw [if_neg a1, if_pos a2, if_pos (fit_n (Or.inr (Or.inl a2)))]
      · by_cases a3 : clk (now + nI (i + 1)) < 8
        · rw [if_neg a1, if_neg a2, if_pos a3, if_pos (fit_n (Or.inr (Or.inr a3)))]
        · rw [if_neg a1, if_neg a2, if_neg a3, if_neg (fit_1 a1 a2 a3)]
theorem as_ready (h : St N T U money F Lx c) {i : Nat} (hi : i < N 0) {w a : Int32} : rdQ now w a (T 0 i) = q_X8_readyNow N U now th price money F Lx (nI i) w a := by
  have hN := h.2.1
  have hs : Sm N 0 T U := h.1.1
  have hf := (hs.1 i hi).1
  have z := rd_eq (now := now) (w := w) (a := a) (u := U 0 i) 96 0 (T 0 i) hf
  have e0 : now + nI 0 = now := Int32.add_zero now
  unfold q_X8_readyNow rdQ
  rw [ixm (show i < 600 by have := hN.1; omega)]
  show _ = (if rhR now w a 0 0 (U 0 i) 4 < 80 then rnR now w a (U 0 i) 96 1 else if (20 : Int32) ≤ rhR now w a 0 0 (U 0 i) 5 then rnR now w a (U 0 i) 96 1 else if clk (now + nI 0) < 8 then rnR now w a (U 0 i) 96 1 else nI 0)
  rw [← z, e0]
  show _ = (if U 0 i 4 < 80 then _ else if (20 : Int32) ≤ U 0 i 5 then _ else if clk now < 8 then _ else nI 0)
  rw [hf.2.2.2.2.1, hf.2.2.2.2.2.1]
  by_cases a1 : T 0 i 6 < 80
  · rw [if_pos a1, if_pos (fit_n (Or.inl a1))]
  · by_cases a2 : (20 : Int32) ≤ T 0 i 7
    · rw [if_neg a1, if_pos a2, if_pos (fit_n (Or.inr (Or.inl a2)))]
    · by_cases a3 : clk now < 8
      · rw [if_neg a1, if_neg a2, if_pos a3, if_pos (fit_n (Or.inr (Or.inr a3)))]
      · rw [if_neg a1, if_neg a2, if_neg a3, if_neg (fit_1 a1 a2 a3)]
        rfl
theorem rh_eq {w a r : Int32} {f u : Row} (h : RF 0 f u) : ∀ k, RF 0 (fhP now w a r k f) (rhR now w a r k u)
  | 0 => h
  | k + 1 => (rh_eq h k).hour
theorem fh_eq {w a r : Int32} {f : Row} : ∀ k, fhP now w a r k f 2 = f 2 ∧ fhP now w a r k f 5 = f 5
  | 0 => ⟨rfl, rfl⟩
  | k + 1 => fh_eq k
theorem as_wait (h : St N T U money F Lx c) {i : Nat} (hi : i < N 0) {p1 w a r : Int32} : t_X2_uncut_0 (T 0 i 2) (T 0 i 5) * (t_X2_brings_0 (T 0 i 3) (T 0 i 8) - t_X2_brings_0 (fhP now w a r (ix p1) (T 0 i) 3) (fhP now w a r (ix p1) (T 0 i) 8)) = q_X8_waitingNow N U now th price money F Lx (nI i) p1 w a r := by
  have hN := h.2.1
  have hs : Sm N 0 T U := h.1.1
  have hf := (hs.1 i hi).1
  have z := rh_eq (now := now) (w := w) (a := a) (r := r) hf (ix p1)
  have y := fh_eq (now := now) (w := w) (a := a) (r := r) (f := T 0 i) (ix p1)
  unfold q_X8_waitingNow
  rw [ixm (show i < 600 by have := hN.1; omega), z.2.2.1, z.2.2.2.1, y.1, y.2, z.2.2.2.2.2.2.1, z.2.2.2.2.2.2.2.2.1, hf.2.2.2.2.2.2.1, hf.2.2.2.2.2.2.2.2.1]
  rfl
theorem as_mean (h : St N T U money F Lx c) : mdV (sa 0 (fun j => T 0 j 7 * t_X2_uncut_0 (T 0 j 2) (T 0 j 5)) (N 0)) (sa 0 (fun j => t_X2_uncut_0 (T 0 j 2) (T 0 j 5)) (N 0)) = mdV (sa 0 (fun j => (U 0 j 2 - U 0 j 3) * U 0 j 5) (N 0)) (sa 0 (fun j => U 0 j 2 - U 0 j 3) (N 0)) := by
  have hs : Sm N 0 T U := h.1.1
  have e2 : ∀ j, j < N 0 → t_X2_uncut_0 (T 0 j 2) (T 0 j 5) = U 0 j 2 - U 0 j 3 := fun j hj => by
    rw [(hs.1 j hj).1.2.2.1, (hs.1 j hj).1.2.2.2.1]
    rfl
  have s1 : sa 0 (fun j => T 0 j 7 * t_X2_uncut_0 (T 0 j 2) (T 0 j 5)) (N 0) = sa 0 (fun j => (U 0 j 2 - U 0 j 3) * U 0 j 5) (N 0) := saC (fun j hj => by
    show T 0 j 7 * t_X2_uncut_0 (T 0 j 2) (T 0 j 5) = (U 0 j 2 - U 0 j 3) * U 0 j 5
    rw [e2 j hj, (hs.1 j hj).1.2.2.2.2.2.1, Int32.mul_comm])
  have s2 : sa 0 (fun j => t_X2_uncut_0 (T 0 j 2) (T 0 j 5)) (N 0) = sa 0 (fun j => U 0 j 2 - U 0 j 3) (N 0) := saC e2
  rw [s1, s2]
theorem as_next (h : St N T U money F Lx c) {i : Nat} (hi : i < N 1) {p1 w a tr : Int32} : (nfP N T tr now price money (nI i) p1 w a (N 0)).1 = q_X8_nextNow N U now th price money F Lx (nI i) p1 w a := by
  have hN := h.2.1
  have hs : Sm N 0 T U := h.1.1
  unfold q_X8_nextNow
  rw [(Sm.next hN hs hi (N 0) (Nat.le_refl _)).1, ixm (show i < 600 by have := hN.2.1; omega)]
/-- the digests -/
theorem dgA_c {q r : Nat → Int32} {d e : Int64} (hd : d = e) : ∀ n, (∀ j, j < n → q j = r j) → dgA q d n = dgA r e n
  | 0, _ => hd
  | n + 1, h => by rw [dgA_s, dgA_s, dgA_c hd n (fun j hj => h j (by omega)), h n (by omega)]
theorem dgB_c {q r : Nat → Int64 → Int64} {d e : Int64} (hd : d = e) : ∀ n, (∀ j, j < n → ∀ x, q j x = r j x) → dgB q d n = dgB r e n
  | 0, _ => hd
  | n + 1, h => by rw [dgB_s, dgB_s, dgB_c hd n (fun j hj => h j (by omega)), h n (by omega)]
theorem as_digest (h : St N T U money F Lx c) (h4 : N 4 ≤ 600) {tr2 : Int32} : dgQ N T 0 tr2 now price money = rdgQ N U now price money F Lx := by
  have hN := h.2.1
  have hs : Sm N 0 T U := h.1.1
  unfold dgQ rdgQ
  refine dgB_c ?_ 4 (fun g hg x => ?_)
  · unfold dg5 rd5
    refine dgB_c ?_ (N 4) (fun i hi x => ?_)
    · unfold dg4 rd4
      refine dgB_c ?_ (N 2) (fun i hi x => ?_)
      · unfold dg3 rd3
        refine dgB_c ?_ (N 1) (fun i hi x => ?_)
        · unfold dg2 rd2
          refine dgB_c ?_ (N 0) (fun i hi x => ?_)
          · unfold dg1 rd1
            exact dgA_c rfl 13 (fun j hj => as_many h hj)
          · unfold dgF rdF
            rw [dgA_c rfl 12 (fun j hj => as_field (now := now) (price := price) (th := 0) h hi hj), as_ready (price := price) (th := 0) h hi]
            congr 1
            exact as_wait h hi
        · unfold dgC rdC
          rw [dgA_c rfl 8 (fun j hj => as_combine (now := now) (price := price) (th := 0) h hi hj), as_next (th := 0) h hi]
      · unfold dgT rdT
        exact dgA_c rfl 8 (fun j hj => as_truck h hi hj)
    · unfold dgK rdK
      exact dgA_c rfl 7 (fun j hj => as_ticket h h4 hi hj)
  · unfold dgO rdO
    rw [as_owed h hg 0, as_owed h hg 1]
    rfl
end AS

/-! a trial's hours cut what the real ones do; when a field is ready; the next field -/
def Rq (T V : Tb) : Prop := T 1 = V 1 ∧ T 2 = V 2 ∧ T 3 = V 3 ∧ ∀ k c, c ≠ 10 → c ≠ 11 → c ≠ 12 → T 0 k c = V 0 k c
theorem Rq.rf {T : Tb} : Rq T T := ⟨rfl, rfl, rfl, fun _ _ _ _ _ => rfl⟩
theorem Rq.sy {T V : Tb} (h : Rq T V) : Rq V T := ⟨h.1.symm, h.2.1.symm, h.2.2.1.symm, fun k c a b d => (h.2.2.2 k c a b d).symm⟩
theorem Rq.tr {T V X : Tb} (h : Rq T V) (h2 : Rq V X) : Rq T X := ⟨h.1.trans h2.1, h.2.1.trans h2.2.1, h.2.2.1.trans h2.2.2.1, fun k c a b d => (h.2.2.2 k c a b d).trans (h2.2.2.2 k c a b d)⟩
theorem tu_both {T V : Tb} {k i : Nat} {f g : Row} {q : Nat} (hq : T q = V q) (e : q = k → f = g) : tu T k i f q = tu V k i g q := funext fun j => by
  by_cases c1 : q = k
  · have := e c1
    subst c1 this
    by_cases c2 : j = i
    · subst c2; rw [tu_s, tu_s]
    · rw [tu_i c2, tu_i c2, hq]
  · rw [tu_k c1, tu_k c1, hq]
theorem Rq.put {T V : Tb} {k i : Nat} {f g : Row} (h : Rq T V) (e : k ≠ 0 → f = g) (e0 : k = 0 → ∀ c, c ≠ 10 → c ≠ 11 → c ≠ 12 → f c = g c) : Rq (tu T k i f) (tu V k i g) := by
  refine ⟨tu_both h.1 (fun z => e (by omega)), tu_both h.2.1 (fun z => e (by omega)), tu_both h.2.2.1 (fun z => e (by omega)), fun q c c10 c11 c12 => ?_⟩
  by_cases c1 : k = 0
  · by_cases c2 : q = i
    · subst c1 c2
      rw [tu_s, tu_s]
      exact e0 rfl c c10 c11 c12
    · rw [tu_i c2, tu_i c2]
      exact h.2.2.2 q c c10 c11 c12
  · rw [tu_k (fun z => c1 z.symm), tu_k (fun z => c1 z.symm)]
    exact h.2.2.2 q c c10 c11 c12
theorem Rq.left {T V : Tb} {k i : Nat} {f : Row} (h : Rq T V) (hk : k = 0 ∨ k = 4) (e0 : k = 0 → ∀ c, c ≠ 10 → c ≠ 11 → c ≠ 12 → f c = T 0 i c) : Rq (tu T k i f) V := by
  have o : ∀ q, q ≠ 0 → q ≠ 4 → tu T k i f q = T q := fun q h1 h2 => funext fun j => tu_k (by omega)
  refine ⟨(o 1 (by decide) (by decide)).trans h.1, (o 2 (by decide) (by decide)).trans h.2.1, (o 3 (by decide) (by decide)).trans h.2.2.1, fun q c c10 c11 c12 => Eq.trans ?_ (h.2.2.2 q c c10 c11 c12)⟩
  exact tu_c (P := fun x => x c = T 0 q c) (fun z1 z2 => by subst z2; exact e0 z1.symm c c10 c11 c12) rfl
theorem RX2_g {f g : Row} {p0 p1 p2 p3 : Int32} (h : ∀ c, c ≠ 10 → c ≠ 11 → c ≠ 12 → f c = g c) : ∀ c, c ≠ 10 → c ≠ 11 → c ≠ 12 → R_X2_passHour_0 f p0 p1 p2 p3 c = R_X2_passHour_0 g p0 p1 p2 p3 c := fun c c10 c11 c12 => by
  by_cases c5 : c = 5
  · subst c5
    rw [RX2_o (by decide) (by decide) (by decide), RX2_o (by decide) (by decide) (by decide)]
    exact h 5 c10 c11 c12
  · by_cases c9 : c = 9
    · subst c9
      rw [RX2_o (by decide) (by decide) (by decide), RX2_o (by decide) (by decide) (by decide)]
      exact h 9 c10 c11 c12
    · exact RX2_c (fun c _ _ a1 a2 a3 => h c a1 a2 a3) c c5 c9 c10 c11 c12
theorem Rq.fis {T V : Tb} {cl w a r : Int32} (h : Rq T V) : ∀ n, Rq (fisP cl w a r n T) (fisP cl w a r n V)
  | 0 => h
  | n + 1 => (Rq.fis h n).put (fun z => absurd rfl z) (fun _ => RX2_g ((Rq.fis h n).2.2.2 n))
theorem RX0_b {a b b' : Row} {p0 p1 : Int32} (h : ∀ c, c ≠ 10 → c ≠ 11 → c ≠ 12 → b c = b' c) : R_X0_passHour_0 a b p0 p1 = R_X0_passHour_0 a b' p0 p1 := by
  have e1 : b 1 = b' 1 := h 1 (by decide) (by decide) (by decide)
  have e2 : b 2 = b' 2 := h 2 (by decide) (by decide) (by decide)
  have e3 : b 3 = b' 3 := h 3 (by decide) (by decide) (by decide)
  have e5 : b 5 = b' 5 := h 5 (by decide) (by decide) (by decide)
  have e6 : b 6 = b' 6 := h 6 (by decide) (by decide) (by decide)
  have e7 : b 7 = b' 7 := h 7 (by decide) (by decide) (by decide)
  have e8 : b 8 = b' 8 := h 8 (by decide) (by decide) (by decide)
  unfold R_X0_passHour_0
  rw [e1, e2, e3, e5, e6, e7, e8]
theorem RX0_b1 {a b b' : Row} {p0 p1 : Int32} (h : ∀ c, c ≠ 10 → c ≠ 11 → c ≠ 12 → b c = b' c) : ∀ c, c ≠ 10 → c ≠ 11 → c ≠ 12 → R_X0_passHour_1 a b p0 p1 c = R_X0_passHour_1 a b' p0 p1 c := fun c c10 c11 c12 => by
  have e1 : b 1 = b' 1 := h 1 (by decide) (by decide) (by decide)
  have e2 : b 2 = b' 2 := h 2 (by decide) (by decide) (by decide)
  have e3 : b 3 = b' 3 := h 3 (by decide) (by decide) (by decide)
  have e5 : b 5 = b' 5 := h 5 (by decide) (by decide) (by decide)
  have e6 : b 6 = b' 6 := h 6 (by decide) (by decide) (by decide)
  have e7 : b 7 = b' 7 := h 7 (by decide) (by decide) (by decide)
  have e8 : b 8 = b' 8 := h 8 (by decide) (by decide) (by decide)
  have e9 : b 9 = b' 9 := h 9 (by decide) (by decide) (by decide)
  by_cases c5 : c = 5
  · subst c5
    show t_X0_passHour_9 (a 1) (a 2) (a 3) (a 4) (a 7) (a 9) (b 1) (b 2) (b 3) (b 5) (b 6) (b 7) (b 8) p0 p1 = t_X0_passHour_9 (a 1) (a 2) (a 3) (a 4) (a 7) (a 9) (b' 1) (b' 2) (b' 3) (b' 5) (b' 6) (b' 7) (b' 8) p0 p1
    rw [e1, e2, e3, e5, e6, e7, e8]
  · by_cases c9 : c = 9
    · subst c9
      show t_X0_passHour_10 (a 0) (a 1) (a 2) (a 3) (a 4) (a 6) (a 7) (a 9) (b 1) (b 2) (b 3) (b 5) (b 6) (b 7) (b 8) (b 9) p0 p1 = t_X0_passHour_10 (a 0) (a 1) (a 2) (a 3) (a 4) (a 6) (a 7) (a 9) (b' 1) (b' 2) (b' 3) (b' 5) (b' 6) (b' 7) (b' 8) (b' 9) p0 p1
      rw [e1, e2, e3, e5, e6, e7, e8, e9]
    · rw [RX0_1o c5 c9, RX0_1o c5 c9]
      exact h c c10 c11 c12
theorem Rq.co {T V : Tb} {n0 : Nat} {cl r : Int32} (h : Rq T V) (i : Nat) : Rq (coP n0 cl r i T) (coP n0 cl r i V) := by
  have e1 : T 1 i = V 1 i := congrFun h.1 i
  cases e : ixR n0 (T 1 i 9) with
  | none =>
    rw [coP_n e, coP_n (by rw [← e1]; exact e)]
    exact h
  | some j =>
    rw [coP_s e, coP_s (j := j) (by rw [← e1]; exact e)]
    refine (h.put (fun _ => ?_) (fun z => by omega)).put (fun z => absurd rfl z) (fun _ => ?_)
    · rw [e1]
      exact RX0_b (h.2.2.2 j)
    · rw [e1]
      exact RX0_b1 (h.2.2.2 j)
theorem Rq.cos {T V : Tb} {n0 : Nat} {cl r : Int32} (h : Rq T V) : ∀ n, Rq (cosP n0 cl r n T) (cosP n0 cl r n V)
  | 0 => h
  | n + 1 => (Rq.cos h n).co n
/-- what an elevator takes, by either way -/
theorem ul_rq {n0 n i e : Nat} {T : Tb} {money tr now price : Int32} (c1 : ¬ t_X1_takes_0 (T 3 e 1) (T 3 e 2) (T 3 e 3) (T 3 e 5) (T 2 i 2) (T 2 i 4) (clk now) = 0) : Rq (ulP n0 tr now price i e (T, n, money)).1 (tu (tu T 3 e (upd (T 3 e) 1 (T 3 e 1 - T 2 i 2))) 2 i (upd (T 2 i) 2 0)) := by
  by_cases c2 : tr = 0
  · rw [ulP_r c1 c2]
    obtain ⟨X, eX⟩ : ∃ X, X = tu T 3 e (upd (T 3 e) 1 (T 3 e 1 - T 2 i 2)) := ⟨_, rfl⟩
    rw [← eX]
    have x2 : X 2 i = T 2 i := by rw [eX, tu_k (by decide)]
    have key : ∀ Z : Tb, Rq Z X → Rq (tu Z 2 i (upd (Z 2 i) 2 0)) (tu X 2 i (upd (T 2 i) 2 0)) := fun Z hZ => hZ.put (fun _ => by rw [congrFun hZ.2.1 i, x2]) (fun z => by omega)
    cases e9 : ixR n0 (tkP now price i e X 0) with
    | none =>
      rw [wtP_n e9 rfl]
      exact key _ (Rq.rf.left (Or.inr rfl) (fun z => by omega))
    | some f9 =>
      rw [wtP_s e9 rfl]
      refine key _ ((Rq.rf.left (Or.inr rfl) (fun z => by omega)).left (Or.inl rfl) (fun _ c c10 c11 c12 => ?_))
      rw [tu_k (by decide : (0 : Nat) ≠ 4)]
      exact RX2c_o c10 c11 c12
  · rw [ulP_t c1 c2]
    exact Rq.rf
theorem Rq.ul {T V : Tb} {n0 n n' i e : Nat} {money money' tr tr' now price price' : Int32} (h : Rq T V) : Rq (ulP n0 tr now price i e (T, n, money)).1 (ulP n0 tr' now price' i e (V, n', money')).1 := by
  have e2 : T 2 i = V 2 i := congrFun h.2.1 i
  have e3 : T 3 e = V 3 e := congrFun h.2.2.1 e
  by_cases c1 : t_X1_takes_0 (T 3 e 1) (T 3 e 2) (T 3 e 3) (T 3 e 5) (T 2 i 2) (T 2 i 4) (clk now) = 0
  · rw [ulP_q c1, ulP_q (by rw [← e2, ← e3]; exact c1)]
    exact h.put (fun _ => by rw [e2]) (fun z => by omega)
  · refine (ul_rq c1).tr (Rq.tr ?_ (ul_rq (by rw [← e2, ← e3]; exact c1)).sy)
    exact (h.put (fun _ => by rw [e2, e3]) (fun z => by omega)).put (fun _ => by rw [e2]) (fun z => by omega)
theorem Rq.tk {T V : Tb} {n0 n1 n3 n n' : Nat} {money money' tr tr' now price price' : Int32} (h : Rq T V) (i : Nat) : Rq (trP n0 n1 n3 tr now price i (T, n, money)).1 (trP n0 n1 n3 tr' now price' i (V, n', money')).1 := by
  have e2 : T 2 i = V 2 i := congrFun h.2.1 i
  by_cases c1 : t_X5_mustRest_0 (T 2 i 1) (T 2 i 7) (T 2 i 8) = 0
  · have d1 : t_X5_mustRest_0 (V 2 i 1) (V 2 i 7) (V 2 i 8) = 0 := by rw [← e2]; exact c1
    cases c2 : ixR n1 (T 2 i 7) with
    | some j =>
      have d2 : ixR n1 (V 2 i 7) = some j := by rw [← e2]; exact c2
      have e1 : T 1 j = V 1 j := congrFun h.1 j
      by_cases c3 : T 2 i 0 = T 1 j 1
      · rw [trP_ct c1 c2 c3, trP_ct d1 d2 (by rw [← e2, ← e1]; exact c3)]
        exact (h.put (fun _ => by rw [e2, e1]) (fun z => by omega)).put (fun _ => by rw [e2, e1]) (fun z => by omega)
      · rw [trP_cd c1 c2 c3, trP_cd d1 d2 (by rw [← e2, ← e1]; exact c3)]
        exact h.put (fun _ => by rw [e2, e1]) (fun z => by omega)
    | none =>
      have d2 : ixR n1 (V 2 i 7) = none := by rw [← e2]; exact c2
      cases c3 : ixR n3 (T 2 i 8) with
      | some v =>
        have d3 : ixR n3 (V 2 i 8) = some v := by rw [← e2]; exact c3
        have e3 : T 3 v = V 3 v := congrFun h.2.2.1 v
        by_cases c4 : T 2 i 0 = T 3 v 0
        · by_cases c5 : T 2 i 2 ≤ 0
          · rw [trP_e0 c1 c2 c3 c4 c5, trP_e0 d1 d2 d3 (by rw [← e2, ← e3]; exact c4) (by rw [← e2]; exact c5)]
            exact h
          · rw [trP_eu c1 c2 c3 c4 c5, trP_eu d1 d2 d3 (by rw [← e2, ← e3]; exact c4) (by rw [← e2]; exact c5)]
            exact h.ul
        · rw [trP_ed c1 c2 c3 c4, trP_ed d1 d2 d3 (by rw [← e2, ← e3]; exact c4)]
          exact h.put (fun _ => by rw [e2, e3]) (fun z => by omega)
      | none =>
        rw [trP_0 c1 c2 c3, trP_0 d1 d2 (by rw [← e2]; exact c3)]
        exact h
  · rw [trP_r c1, trP_r (by rw [← e2]; exact c1)]
    exact h.put (fun _ => by rw [e2]) (fun z => by omega)
theorem Rq.tks {S S' : TS} {n0 n1 n3 : Nat} {tr tr' now price price' : Int32} (h : Rq S.1 S'.1) : ∀ n, Rq (trsP n0 n1 n3 tr now price n S).1 (trsP n0 n1 n3 tr' now price' n S').1
  | 0 => h
  | n + 1 => by
    have z := Rq.tks (n0 := n0) (n1 := n1) (n3 := n3) (tr := tr) (tr' := tr') (now := now) (price := price) (price' := price') h n
    show Rq (trP n0 n1 n3 tr now price n (trsP n0 n1 n3 tr now price n S)).1 (trP n0 n1 n3 tr' now price' n (trsP n0 n1 n3 tr' now price' n S')).1
    obtain ⟨A, eA⟩ : ∃ z, z = trsP n0 n1 n3 tr now price n S := ⟨_, rfl⟩
    obtain ⟨B, eB⟩ : ∃ z, z = trsP n0 n1 n3 tr' now price' n S' := ⟨_, rfl⟩
    rw [← eA, ← eB] at z ⊢
    obtain ⟨A1, A2, A3⟩ := A
    obtain ⟨B1, B2, B3⟩ := B
    exact Rq.tk z n
theorem Rq.hr {S S' : TS} {n0 n1 n2 n3 : Nat} {tr tr' now price price' w a r : Int32} (h : Rq S.1 S'.1) : Rq (hrP n0 n1 n2 n3 tr now price w a r S).1 (hrP n0 n1 n2 n3 tr' now price' w a r S').1 :=
  Rq.tks (S := (cosP n0 (clk (now + 1)) r n1 (fisP (clk (now + 1)) w a r n0 S.1), S.2)) (S' := (cosP n0 (clk (now + 1)) r n1 (fisP (clk (now + 1)) w a r n0 S'.1), S'.2)) ((h.fis n0).cos n1) n2
theorem Rq.hrs {S S' : TS} {n0 n1 n2 n3 : Nat} {tr tr' now price price' w a r : Int32} (h : Rq S.1 S'.1) : ∀ k, Rq (hrsP n0 n1 n2 n3 tr now price w a r k S).1 (hrsP n0 n1 n2 n3 tr' now price' w a r k S').1
  | 0 => h
  | k + 1 => Rq.hr (Rq.hrs h k)
/-- who would bring something as it is sent has cut some acres -/
theorem bs_cut {N : Nat → Nat} {T : Tb} {now price money price' money' f h w a : Int32} {c n : Nat} (hI : Iv (N 0) (N 1) (N 2) T) (h0 : N 0 ≤ 600) (h1 : N 1 ≤ 10) (hh : ix h ≤ 48) (hc : c < N 1) (hb : 0 < bsP N T 1 now price money (nI c) f h w a) : ¬ (hrsP (N 0) (N 1) (N 2) (N 3) 0 now price' w a 0 (ix h) (tu T 1 c (upd (T 1 c) 9 f), n, money')).1 1 c 10 = T 1 c 10 := by
  intro z
  have e1 : ix (nI c) = c := nI_clamp (by omega)
  have hx : ¬ ixR (N 1) (nI c) = none := by rw [ixR_of (by omega) hc]; simp
  unfold bsP at hb
  rw [if_neg hx, e1] at hb
  obtain ⟨X, eX⟩ : ∃ X, X = tu T 1 c (upd (T 1 c) 9 f) := ⟨_, rfl⟩
  rw [← eX] at hb z
  have hX : Iv (N 0) (N 1) (N 2) X := by rw [eX]; exact hI.put (fun z => by omega) (fun _ hi => hI.2.1 c hi) (fun z => by omega)
  have hr : Rq (hrsP (N 0) (N 1) (N 2) (N 3) 1 now price w a 0 (ix h) (X, 0, money)).1 (hrsP (N 0) (N 1) (N 2) (N 3) 0 now price' w a 0 (ix h) (X, n, money')).1 := Rq.hrs (S := (X, 0, money)) (S' := (X, n, money')) Rq.rf (ix h)
  rw [hr.1] at hb
  obtain ⟨d9, d, hd, e10, e11⟩ := (hX.hrs (n3 := N 3) (tr := 0) (now := now) (price := price') (w := w) (a := a) (r := 0) (money := money') (n := n) h0 (by omega) (ix h)).2.1 c
  have x10 : X 1 c 10 = T 1 c 10 := by rw [eX, tu_s]; exact upd_o (by decide)
  have x11 : X 1 c 11 = T 1 c 11 := by rw [eX, tu_s]; exact upd_o (by decide)
  rw [z, x10] at e10
  have hd2 : d < 2 ^ 31 := by
    have q1 : 20 * N 1 * ix h ≤ 20 * 10 * 48 := Nat.mul_le_mul (Nat.mul_le_mul (Nat.le_refl _) h1) hh
    omega
  have d0 : nI d = 0 := by
    have q2 : T 1 c 10 - T 1 c 10 = T 1 c 10 + nI d - T 1 c 10 := by rw [← e10]
    rw [Int32.sub_self, Int32.add_comm, Int32.add_sub_cancel] at q2
    exact q2.symm
  have d00 : d = 0 := by
    have q3 := nI_toInt hd2
    rw [d0, Int32.toInt_zero] at q3
    omega
  rw [e11 d00, x11, Int32.sub_self] at hb
  exact absurd hb (by decide)
/-- when a field is fit -/
def ftP (now w a : Int32) (f : Row) (h : Nat) : Int32 := t_X2_isFit_0 (fhP now w a 0 h f 6) (fhP now w a 0 h f 7) (clk (now + nI h))
theorem rd_spec {now w a : Int32} {f : Row} : ∀ n i, (rdP now w a n i (fhP now w a 0 i f) = -1 ∧ ∀ h, i < h → h ≤ i + n → ftP now w a f h = 0) ∨ ∃ j, i < j ∧ j ≤ i + n ∧ rdP now w a n i (fhP now w a 0 i f) = nI j ∧ ¬ ftP now w a f j = 0 ∧ ∀ h, i < h → h < j → ftP now w a f h = 0
  | 0, i => Or.inl ⟨rfl, fun h h1 h2 => by omega⟩
  | n + 1, i => by
    by_cases c : ftP now w a f (i + 1) = 0
    · have e : rdP now w a (n + 1) i (fhP now w a 0 i f) = rdP now w a n (i + 1) (fhP now w a 0 (i + 1) f) := if_pos c
      rw [e]
      rcases rd_spec (now := now) (w := w) (a := a) (f := f) n (i + 1) with ⟨a1, a2⟩ | ⟨j, b1, b2, b3, b4, b5⟩
      · refine Or.inl ⟨a1, fun h h1 h2 => ?_⟩
        by_cases z : h = i + 1
        · rw [z]; exact c
        · exact a2 h (by omega) (by omega)
      · refine Or.inr ⟨j, by omega, by omega, b3, b4, fun h h1 h2 => ?_⟩
        by_cases z : h = i + 1
        · rw [z]; exact c
        · exact b5 h (by omega) h2
    · have e : rdP now w a (n + 1) i (fhP now w a 0 i f) = nI (i + 1) := if_neg c
      exact Or.inr ⟨i + 1, by omega, by omega, e, c, fun h h1 h2 => by omega⟩
theorem rdQ_spec {now w a : Int32} {f : Row} : (rdQ now w a f = -1 ∧ ∀ h, h ≤ 96 → ftP now w a f h = 0) ∨ ∃ j, j ≤ 96 ∧ rdQ now w a f = nI j ∧ ¬ ftP now w a f j = 0 ∧ ∀ h, h < j → ftP now w a f h = 0 := by
  have e0 : ftP now w a f 0 = t_X2_isFit_0 (f 6) (f 7) (clk now) := by
    show t_X2_isFit_0 (f 6) (f 7) (clk (now + nI 0)) = _
    rw [nI_0, Int32.add_zero]
  unfold rdQ
  by_cases c : t_X2_isFit_0 (f 6) (f 7) (clk now) = 0
  · rw [if_pos c]
    rcases rd_spec (now := now) (w := w) (a := a) (f := f) 96 0 with ⟨a1, a2⟩ | ⟨j, b1, b2, b3, b4, b5⟩
    · refine Or.inl ⟨a1, fun h h1 => ?_⟩
      by_cases z : h = 0
      · rw [z, e0]; exact c
      · exact a2 h (by omega) (by omega)
    · refine Or.inr ⟨j, by omega, b3, b4, fun h h1 => ?_⟩
      by_cases z : h = 0
      · rw [z, e0]; exact c
      · exact b5 h (by omega) h1
  · rw [if_neg c]
    exact Or.inr ⟨0, by omega, nI_0.symm, by rw [e0]; exact c, fun h h1 => by omega⟩

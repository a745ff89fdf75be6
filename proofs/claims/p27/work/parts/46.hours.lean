/-! what an hour does and leaves, by the class's tables alone -/
theorem RX2_o {f : Row} {p0 p1 p2 p3 : Int32} {c : Nat} (h6 : c ≠ 6) (h7 : c ≠ 7) (h8 : c ≠ 8) : R_X2_passHour_0 f p0 p1 p2 p3 c = f c := by
  unfold R_X2_passHour_0
  split
  · exact absurd rfl h6
  · exact absurd rfl h7
  · exact absurd rfl h8
  · rfl
theorem RX0_1o {a b : Row} {p0 p1 : Int32} {c : Nat} (h5 : c ≠ 5) (h9 : c ≠ 9) : R_X0_passHour_1 a b p0 p1 c = b c := by
  unfold R_X0_passHour_1
  split
  · exact absurd rfl h5
  · exact absurd rfl h9
  · rfl
theorem RX2c_o {f : Row} {p0 p1 : Int32} {c : Nat} (h10 : c ≠ 10) (h11 : c ≠ 11) (h12 : c ≠ 12) : R_X2_credit_0 f p0 p1 c = f c := by
  unfold R_X2_credit_0
  split
  · exact absurd rfl h10
  · exact absurd rfl h11
  · exact absurd rfl h12
  · rfl
theorem upd_o {f : Row} {k c : Nat} {v : Int32} (h : c ≠ k) : upd f k v c = f c := if_neg h
theorem upd_s {f : Row} {k : Nat} {v : Int32} : upd f k v k = v := if_pos rfl
theorem pat {c1 c2 c3 c4 c5 c6 : Prop} [Decidable c1] [Decidable c2] [Decidable c3] [Decidable c4] [Decidable c5] [Decidable c6] {X Y : Int32} : (if c1 then (if c2 then (if c3 then X else (if c4 then X else (if c5 then (if c6 then X else Y) else X))) else X) else X) = if c1 ∧ c2 ∧ ¬ c3 ∧ ¬ c4 ∧ c5 ∧ ¬ c6 then Y else X := by
  by_cases h1 : c1
  · by_cases h2 : c2
    · by_cases h3 : c3
      · rw [if_pos h1, if_pos h2, if_pos h3, if_neg (fun z => z.2.2.1 h3)]
      · by_cases h4 : c4
        · rw [if_pos h1, if_pos h2, if_neg h3, if_pos h4, if_neg (fun z => z.2.2.2.1 h4)]
        · by_cases h5 : c5
          · by_cases h6 : c6
            · rw [if_pos h1, if_pos h2, if_neg h3, if_neg h4, if_pos h5, if_pos h6, if_neg (fun z => z.2.2.2.2.2 h6)]
            · rw [if_pos h1, if_pos h2, if_neg h3, if_neg h4, if_pos h5, if_neg h6, if_pos ⟨h1, h2, h3, h4, h5, h6⟩]
          · rw [if_pos h1, if_pos h2, if_neg h3, if_neg h4, if_neg h5, if_neg (fun z => h5 z.2.2.2.2.1)]
    · rw [if_pos h1, if_neg h2, if_neg (fun z => h2 z.2.1)]
  · rw [if_neg h1, if_neg (fun z => h1 z.1)]
abbrev xA (a b : Row) : Int32 := t_X0_acresAtOnce_0 (a 2) (a 3) (b 2) (b 3) (b 5) (b 8)
abbrev cutP (a b : Row) (p0 p1 : Int32) : Prop := a 7 = 0 ∧ a 1 = b 1 ∧ ¬ 0 < p1 ∧ ¬ t_X2_isFit_0 (b 6) (b 7) p0 = 0 ∧ t_X0_holdsAnother_0 (a 3) (a 4) (a 9) = 0 ∧ ¬ xA a b = 0
section CT
variable {a b : Row} {p0 p1 : Int32}
theorem rc_3 : R_X0_passHour_0 a b p0 p1 3 = if cutP a b p0 p1 then t_X0_harvest_0 (a 3) (b 3) (b 8) (xA a b) else a 3 := by
  show t_X0_passHour_1 (a 1) (a 2) (a 3) (a 4) (a 7) (a 9) (b 1) (b 2) (b 3) (b 5) (b 6) (b 7) (b 8) p0 p1 = _
  unfold t_X0_passHour_1
  exact pat
theorem rc_7 : R_X0_passHour_0 a b p0 p1 7 = if cutP a b p0 p1 then t_X0_harvest_3 (a 6) (xA a b) else a 7 := by
  show t_X0_passHour_5 (a 1) (a 2) (a 3) (a 4) (a 6) (a 7) (a 9) (b 1) (b 2) (b 3) (b 5) (b 6) (b 7) (b 8) p0 p1 = _
  unfold t_X0_passHour_5
  exact pat
theorem rc_10 : R_X0_passHour_0 a b p0 p1 10 = if cutP a b p0 p1 then a 10 + xA a b else a 10 := by
  show t_X0_passHour_7 (a 1) (a 2) (a 3) (a 4) (a 7) (a 9) (a 10) (b 1) (b 2) (b 3) (b 5) (b 6) (b 7) (b 8) p0 p1 = _
  unfold t_X0_passHour_7
  exact pat
theorem rc_11 : R_X0_passHour_0 a b p0 p1 11 = if cutP a b p0 p1 then a 11 + xA a b * t_X2_brings_0 (b 3) (b 8) else a 11 := by
  show t_X0_passHour_8 (a 1) (a 2) (a 3) (a 4) (a 7) (a 9) (a 11) (b 1) (b 2) (b 3) (b 5) (b 6) (b 7) (b 8) p0 p1 = _
  unfold t_X0_passHour_8
  exact pat
theorem r1_5 : R_X0_passHour_1 a b p0 p1 5 = if cutP a b p0 p1 then b 5 + xA a b else b 5 := by
  show t_X0_passHour_9 (a 1) (a 2) (a 3) (a 4) (a 7) (a 9) (b 1) (b 2) (b 3) (b 5) (b 6) (b 7) (b 8) p0 p1 = _
  unfold t_X0_passHour_9
  exact pat
end CT
/-- the bounds -/
def IC2 (f : Row) : Prop := (1 ≤ (f 2).toInt ∧ (f 2).toInt ≤ 20) ∧ (0 ≤ (f 3).toInt ∧ (f 3).toInt ≤ 400) ∧ (f 7 = 0 ∨ f 7 = 1)
def IT2 (f : Row) : Prop := 0 ≤ (f 2).toInt ∧ (f 2).toInt ≤ 800
def Iv (n0 n1 n2 : Nat) (T : Tb) : Prop := (∀ i, i < n0 → IF (T 0 i)) ∧ (∀ i, i < n1 → IC2 (T 1 i)) ∧ ∀ i, i < n2 → IT2 (T 2 i)
/-- what combines cut: at most m acres each; who cut none has no bushels more; the fields where they are sent stay -/
def DR (m : Nat) (T T' : Tb) : Prop := ∀ k, T' 1 k 9 = T 1 k 9 ∧ ∃ d, d ≤ m ∧ T' 1 k 10 = T 1 k 10 + nI d ∧ (d = 0 → T' 1 k 11 = T 1 k 11)
/-- of the fields only what is cut, the map and what tickets bring may change -/
def FO (T T' : Tb) : Prop := ∀ k c, c ≠ 5 → c ≠ 9 → c ≠ 10 → c ≠ 11 → c ≠ 12 → T' 0 k c = T 0 k c
theorem DR.rf {m : Nat} {T : Tb} : DR m T T := fun k => ⟨rfl, 0, Nat.zero_le _, by rw [nI_0, Int32.add_zero], fun _ => rfl⟩
theorem DR.tr {m1 m2 : Nat} {T T1 T2 : Tb} (h1 : DR m1 T T1) (h2 : DR m2 T1 T2) : DR (m1 + m2) T T2 := fun k => by
  obtain ⟨a1, d1, b1, c1, e1⟩ := h1 k
  obtain ⟨a2, d2, b2, c2, e2⟩ := h2 k
  refine ⟨a2.trans a1, d1 + d2, by omega, ?_, fun z => (e2 (by omega)).trans (e1 (by omega))⟩
  rw [c2, c1, Int32.add_assoc, nI_add]
theorem DR.up {m m' : Nat} {T T' : Tb} (h : DR m T T') (hm : m ≤ m') : DR m' T T' := fun k => by
  obtain ⟨a, d, b, c, e⟩ := h k
  exact ⟨a, d, by omega, c, e⟩
theorem DR.put {T : Tb} {k i : Nat} {f : Row} (h : k = 1 → f 9 = T 1 i 9 ∧ f 10 = T 1 i 10 ∧ f 11 = T 1 i 11) : DR 0 T (tu T k i f) := fun q => by
  have z : tu T k i f 1 q 9 = T 1 q 9 ∧ tu T k i f 1 q 10 = T 1 q 10 ∧ tu T k i f 1 q 11 = T 1 q 11 := tu_c (P := fun x => x 9 = T 1 q 9 ∧ x 10 = T 1 q 10 ∧ x 11 = T 1 q 11) (fun e1 e2 => by subst e2; exact h e1.symm) ⟨rfl, rfl, rfl⟩
  exact ⟨z.1, 0, Nat.le_refl _, by rw [z.2.1, nI_0, Int32.add_zero], fun _ => z.2.2⟩
theorem FO.rf {T : Tb} : FO T T := fun _ _ _ _ _ _ _ => rfl
theorem FO.tr {T T1 T2 : Tb} (h1 : FO T T1) (h2 : FO T1 T2) : FO T T2 := fun k c a1 a2 a3 a4 a5 => (h2 k c a1 a2 a3 a4 a5).trans (h1 k c a1 a2 a3 a4 a5)
theorem FO.put {T : Tb} {k i : Nat} {f : Row} (h : k = 0 → ∀ c, c ≠ 5 → c ≠ 9 → c ≠ 10 → c ≠ 11 → c ≠ 12 → f c = T 0 i c) : FO T (tu T k i f) := fun q c a1 a2 a3 a4 a5 =>
  tu_c (P := fun x => x c = T 0 q c) (fun e1 e2 => by subst e2; exact h e1.symm c a1 a2 a3 a4 a5) rfl
theorem Iv.put {n0 n1 n2 : Nat} {T : Tb} {k i : Nat} {f : Row} (h : Iv n0 n1 n2 T) (e0 : k = 0 → i < n0 → IF f) (e1 : k = 1 → i < n1 → IC2 f) (e2 : k = 2 → i < n2 → IT2 f) : Iv n0 n1 n2 (tu T k i f) :=
  ⟨fun q hq => tu_c (fun z1 z2 => e0 z1.symm (z2 ▸ hq)) (h.1 q hq), fun q hq => tu_c (fun z1 z2 => e1 z1.symm (z2 ▸ hq)) (h.2.1 q hq), fun q hq => tu_c (fun z1 z2 => e2 z1.symm (z2 ▸ hq)) (h.2.2 q hq)⟩
theorem IF.put {f g : Row} (h : IF f) (e0 : g 0 = f 0) (e2 : g 2 = f 2) (e3 : g 3 = f 3) (e5 : g 5 = f 5) (e8 : g 8 = f 8) : IF g := by
  unfold IF at *
  rw [e0, e2, e3, e5, e8]
  exact h
theorem tu5 (T : Tb) (i : Nat) (f : Row) (q : Nat) : tu T 2 i f 0 q 5 = T 0 q 5 := by rw [tu_k (by decide)]
theorem tu15 (T : Tb) (i : Nat) (f : Row) (q : Nat) : tu T 1 i f 0 q 5 = T 0 q 5 := by rw [tu_k (by decide)]
/-- a combine's hour -/
theorem Iv.co {n0 n1 n2 : Nat} {T : Tb} {cl r : Int32} {i : Nat} (h : Iv n0 n1 n2 T) (h0 : n0 ≤ 600) (hi : i < n1) : Iv n0 n1 n2 (coP n0 cl r i T) ∧ DR 20 T (coP n0 cl r i T) ∧ FO T (coP n0 cl r i T) ∧ (∀ f, ixR n0 (T 1 i 9) ≠ some f → coP n0 cl r i T 0 f 5 = T 0 f 5) ∧ ∀ k, k ≠ 0 → k ≠ 1 → coP n0 cl r i T k = T k := by
  cases e : ixR n0 (T 1 i 9) with
  | none =>
    rw [coP_n e]
    exact ⟨h, DR.rf, FO.rf, fun _ _ => rfl, fun _ _ _ => rfl⟩
  | some j =>
    rw [coP_s e]
    have hj := (ixR_lt h0 e).1
    have hf := h.1 j hj
    have hc := h.2.1 i hi
    obtain ⟨a, ea⟩ : ∃ a, a = T 1 i := ⟨_, rfl⟩
    obtain ⟨b, eb⟩ : ∃ b, b = T 0 j := ⟨_, rfl⟩
    rw [← ea] at hc ⊢
    rw [← eb] at hf ⊢
    have hA : 0 ≤ (xA a b).toInt ∧ (xA a b).toInt ≤ 20 ∧ (xA a b).toInt ≤ (b 2).toInt - (b 5).toInt ∧ (xA a b * t_X2_brings_0 (b 3) (b 8)).toInt = (xA a b).toInt * (t_X2_brings_0 (b 3) (b 8)).toInt ∧ 0 ≤ (xA a b * t_X2_brings_0 (b 3) (b 8)).toInt ∧ (xA a b * t_X2_brings_0 (b 3) (b 8)).toInt ≤ 400 - (a 3).toInt := ac_b hc.1 hc.2.1 hf.2.1 hf.2.2.1 hf.2.2.2.1 hf.2.2.2.2
    obtain ⟨A1, A2, A3, A4, A5, A6⟩ := hA
    obtain ⟨F0, F2, F5, F3, F8⟩ := id hf
    obtain ⟨C2, C3, C7⟩ := id hc
    have hIF : IF (R_X0_passHour_1 a b cl r) := by
      refine ⟨F0, F2, ?_, F3, F8⟩
      rw [r1_5]
      show 0 ≤ (ite _ _ _ : Int32).toInt ∧ (ite _ _ _ : Int32).toInt ≤ (b 2).toInt
      split
      · rw [ti_add (by omega) (by omega)]
        omega
      · exact F5
    have hIC : IC2 (R_X0_passHour_0 a b cl r) := by
      refine ⟨C2, ?_, ?_⟩
      · rw [rc_3]
        split
        · unfold t_X0_harvest_0
          split
          · exact C3
          · rw [ti_add (by omega) (by omega)]
            omega
        · exact C3
      · rw [rc_7]
        split
        · unfold t_X0_harvest_3
          split
          · exact Or.inl rfl
          · exact Or.inr rfl
        · exact C7
    refine ⟨(h.put (fun z => by omega) (fun _ _ => hIC) (fun z => by omega)).put (fun _ _ => hIF) (fun z => by omega) (fun z => by omega), fun k => ?_, ?_, fun f hfj => ?_, fun k hk0 hk1 => ?_⟩
    · rw [tu_k (by decide : (1 : Nat) ≠ 0)]
      by_cases hk : k = i
      · subst hk
        rw [tu_s]
        refine ⟨congrFun ea 9, ?_⟩
        rw [← ea, rc_10, rc_11]
        obtain ⟨d, hd, ed⟩ := nI_of2 (x := xA a b) (M := 20) (n := 20) (by decide) (by rw [Int32.lt_iff_toInt_lt, Int32.toInt_zero]; omega) (by rw [Int32.le_iff_toInt_le]; exact A2)
        by_cases hp : cutP a b cl r
        · refine ⟨d, hd, by rw [if_pos hp, ed], fun z => ?_⟩
          exact absurd (by rw [ed, z, nI_0]) hp.2.2.2.2.2
        · exact ⟨0, Nat.zero_le _, by rw [if_neg hp, nI_0, Int32.add_zero], fun _ => if_neg hp⟩
      · rw [tu_i hk]
        exact ⟨rfl, 0, Nat.zero_le _, by rw [nI_0, Int32.add_zero], fun _ => rfl⟩
    · refine FO.tr (FO.put (fun z => by omega)) (FO.put (fun _ c c5 c9 _ _ _ => ?_))
      rw [tu_k (by decide : (0 : Nat) ≠ 1), ← eb]
      exact RX0_1o c5 c9
    · have hne : f ≠ j := fun z => hfj (by rw [z])
      rw [tu_i hne, tu_k (by decide : (0 : Nat) ≠ 1)]
    · funext q
      rw [tu_k hk0, tu_k hk1]
theorem Iv.cos {n0 n1 n2 : Nat} {T : Tb} {cl r : Int32} (h : Iv n0 n1 n2 T) (h0 : n0 ≤ 600) : ∀ n, n ≤ n1 → Iv n0 n1 n2 (cosP n0 cl r n T) ∧ DR (20 * n) T (cosP n0 cl r n T) ∧ FO T (cosP n0 cl r n T) ∧ (∀ f, (∀ i, i < n1 → ixR n0 (T 1 i 9) ≠ some f) → cosP n0 cl r n T 0 f 5 = T 0 f 5) ∧ ∀ k, k ≠ 0 → k ≠ 1 → cosP n0 cl r n T k = T k
  | 0, _ => ⟨h, DR.rf, FO.rf, fun _ _ => rfl, fun _ _ _ => rfl⟩
  | n + 1, hn => by
    obtain ⟨a1, a2, a3, a4, a5⟩ := Iv.cos h h0 n (by omega)
    obtain ⟨b1, b2, b3, b4, b5⟩ := a1.co (cl := cl) (r := r) h0 (i := n) (by omega)
    show Iv n0 n1 n2 (coP n0 cl r n (cosP n0 cl r n T)) ∧ DR (20 * (n + 1)) T (coP n0 cl r n (cosP n0 cl r n T)) ∧ FO T (coP n0 cl r n (cosP n0 cl r n T)) ∧ (∀ f, _ → coP n0 cl r n (cosP n0 cl r n T) 0 f 5 = T 0 f 5) ∧ ∀ k, k ≠ 0 → k ≠ 1 → coP n0 cl r n (cosP n0 cl r n T) k = T k
    refine ⟨b1, DR.up (a2.tr b2) (by omega), a3.tr b3, fun f hf => ?_, fun k k0 k1 => (b5 k k0 k1).trans (a5 k k0 k1)⟩
    refine (b4 f ?_).trans (a4 f hf)
    rw [(a2 n).1]
    exact hf n (by omega)
/-- a truck's hour -/
theorem take_b {a2 a3 b3 b4 : Int32} (ha : 0 ≤ a2.toInt ∧ a2.toInt ≤ 800) (hb : 0 ≤ b3.toInt ∧ b3.toInt ≤ 400) : (0 ≤ (t_X5_takeFrom_0 a2 a3 b3 b4).toInt ∧ (t_X5_takeFrom_0 a2 a3 b3 b4).toInt ≤ 800) ∧ 0 ≤ (t_X5_takeFrom_3 a2 a3 b3 b4).toInt ∧ (t_X5_takeFrom_3 a2 a3 b3 b4).toInt ≤ 400 := by
  have h800 : (800 : Int32).toInt = 800 := by decide
  have e1 : ((800 : Int32) - a2).toInt = 800 - a2.toInt := (ti_sub (by omega) (by omega)).trans (by omega)
  obtain ⟨q, eq⟩ : ∃ q, q = mn b3 ((800 : Int32) - a2) := ⟨_, rfl⟩
  have eq2 : q.toInt = min b3.toInt (800 - a2.toInt) := by rw [eq, mn_toInt, e1]
  have p1 : (a2 + q).toInt = a2.toInt + q.toInt := ti_add (by omega) (by omega)
  have p2 : (b3 - q).toInt = b3.toInt - q.toInt := ti_sub (by omega) (by omega)
  unfold t_X5_takeFrom_0 t_X5_takeFrom_3
  rw [← eq]
  refine ⟨?_, ?_⟩
  · (repeat' split) <;> omega
  · (repeat' split) <;> omega
def TrO (n0 n1 n2 : Nat) (S S' : TS) : Prop := Iv n0 n1 n2 S'.1 ∧ DR 0 S.1 S'.1 ∧ FO S.1 S'.1 ∧ (∀ f, S'.1 0 f 5 = S.1 0 f 5) ∧ S'.2.1 ≤ S.2.1 + 1
theorem TrO.rf {n0 n1 n2 : Nat} {S : TS} (h : Iv n0 n1 n2 S.1) : TrO n0 n1 n2 S S := ⟨h, DR.rf, FO.rf, fun _ => rfl, Nat.le_succ _⟩
theorem TrO.two {n0 n1 n2 : Nat} {T : Tb} {n i : Nat} {money : Int32} {f : Row} (h : Iv n0 n1 n2 T) (hf : i < n2 → IT2 f) : TrO n0 n1 n2 (T, n, money) (tu T 2 i f, n, money) :=
  ⟨h.put (fun z => by omega) (fun z => by omega) (fun _ => hf), DR.put (fun z => by omega), FO.put (fun z => by omega), fun q => tu5 T i f q, Nat.le_succ _⟩
theorem Iv.ul {n0 n1 n2 : Nat} {T : Tb} {n i e : Nat} {money tr now price : Int32} (h : Iv n0 n1 n2 T) (hi : i < n2) (h0 : n0 ≤ 600) : TrO n0 n1 n2 (T, n, money) (ulP n0 tr now price i e (T, n, money)) := by
  by_cases c1 : t_X1_takes_0 (T 3 e 1) (T 3 e 2) (T 3 e 3) (T 3 e 5) (T 2 i 2) (T 2 i 4) (clk now) = 0
  · rw [ulP_q c1]
    exact TrO.two h (fun hi => h.2.2 i hi)
  · obtain ⟨X, eX⟩ : ∃ X, X = tu T 3 e (upd (T 3 e) 1 (T 3 e 1 - T 2 i 2)) := ⟨_, rfl⟩
    have x1 : Iv n0 n1 n2 X := by rw [eX]; exact h.put (fun z => by omega) (fun z => by omega) (fun z => by omega)
    have x2 : DR 0 T X := by rw [eX]; exact DR.put (fun z => by omega)
    have x3 : FO T X := by rw [eX]; exact FO.put (fun z => by omega)
    have x4 : ∀ f, X 0 f 5 = T 0 f 5 := fun f => by rw [eX, tu_k (by decide)]
    have i0 : ∀ g : Row, IT2 (upd g 2 0) := fun g => ⟨by rw [upd_s]; decide, by rw [upd_s]; decide⟩
    by_cases c2 : tr = 0
    · rw [ulP_r c1 c2, ← eX]
      cases e9 : ixR n0 (tkP now price i e X 0) with
      | none =>
        rw [wtP_n e9 rfl]
        obtain ⟨Z, eZ⟩ : ∃ Z, Z = tu X 4 n (tkP now price i e X) := ⟨_, rfl⟩
        rw [← eZ]
        have z1 : Iv n0 n1 n2 Z := by rw [eZ]; exact x1.put (fun z => by omega) (fun z => by omega) (fun z => by omega)
        have z2 : DR 0 X Z := by rw [eZ]; exact DR.put (fun z => by omega)
        have z3 : FO X Z := by rw [eZ]; exact FO.put (fun z => by omega)
        have z4 : ∀ f, Z 0 f 5 = X 0 f 5 := fun f => by rw [eZ, tu_k (by decide)]
        refine ⟨z1.put (fun z => by omega) (fun z => by omega) (fun _ _ => i0 _), (x2.tr z2).tr (DR.put (fun z => by omega)), (x3.tr z3).tr (FO.put (fun z => by omega)), fun f => ?_, Nat.le_refl _⟩
        exact (tu5 Z i (upd (Z 2 i) 2 0) f).trans ((z4 f).trans (x4 f))
      | some f9 =>
        rw [wtP_s e9 rfl]
        have hf9 := (ixR_lt h0 e9).1
        obtain ⟨Z, eZ⟩ : ∃ Z, Z = tu (tu X 4 n (tkP now price i e X)) 0 f9 (R_X2_credit_0 (X 0 f9) (tkP now price i e X 1) (tkP now price i e X 6)) := ⟨_, rfl⟩
        rw [← eZ]
        have z1 : Iv n0 n1 n2 Z := by
          rw [eZ]
          exact (x1.put (fun z => by omega) (fun z => by omega) (fun z => by omega)).put (fun _ _ => (x1.1 f9 hf9).put rfl rfl rfl rfl rfl) (fun z => by omega) (fun z => by omega)
        have z2 : DR 0 X Z := by rw [eZ]; exact (DR.put (fun z => by omega)).tr (DR.put (fun z => by omega))
        have z3 : FO X Z := by
          rw [eZ]
          refine (FO.put (fun z => by omega)).tr (FO.put (fun _ c _ _ c10 c11 c12 => ?_))
          rw [tu_k (by decide : (0 : Nat) ≠ 4)]
          exact RX2c_o c10 c11 c12
        have z4 : ∀ f, Z 0 f 5 = X 0 f 5 := fun f => by
          rw [eZ]
          refine tu_c (P := fun x => x 5 = X 0 f 5) (fun _ e2 => by subst e2; rfl) ?_
          rw [tu_k (by decide)]
        refine ⟨z1.put (fun z => by omega) (fun z => by omega) (fun _ _ => i0 _), (x2.tr z2).tr (DR.put (fun z => by omega)), (x3.tr z3).tr (FO.put (fun z => by omega)), fun f => ?_, Nat.le_refl _⟩
        exact (tu5 Z i (upd (Z 2 i) 2 0) f).trans ((z4 f).trans (x4 f))
    · rw [ulP_t c1 c2, ← eX]
      refine ⟨x1.put (fun z => by omega) (fun z => by omega) (fun _ _ => i0 _), x2.tr (DR.put (fun z => by omega)), x3.tr (FO.put (fun z => by omega)), fun f => ?_, Nat.le_succ _⟩
      exact (tu5 X i (upd (T 2 i) 2 0) f).trans (x4 f)
theorem Iv.tk {n0 n1 n2 n3 : Nat} {T : Tb} {n i : Nat} {money tr now price : Int32} (h : Iv n0 n1 n2 T) (hi : i < n2) (h0 : n0 ≤ 600) (h1 : n1 ≤ 600) : TrO n0 n1 n2 (T, n, money) (trP n0 n1 n3 tr now price i (T, n, money)) := by
  by_cases c1 : t_X5_mustRest_0 (T 2 i 1) (T 2 i 7) (T 2 i 8) = 0
  · cases c2 : ixR n1 (T 2 i 7) with
    | some j =>
      have hj := (ixR_lt h1 c2).1
      by_cases c3 : T 2 i 0 = T 1 j 1
      · rw [trP_ct c1 c2 c3]
        have hb := take_b (a3 := T 2 i 3) (b4 := T 1 j 4) (h.2.2 i hi) (h.2.1 j hj).2.1
        have hb1 : IT2 (R_X5_takeFrom_0 (T 2 i) (T 1 j)) := hb.1
        have hc := h.2.1 j hj
        refine ⟨(h.put (fun z => by omega) (fun z => by omega) (fun _ _ => hb1)).put (fun z => by omega) (fun _ _ => ⟨hc.1, hb.2, hc.2.2⟩) (fun z => by omega), (DR.put (fun z => by omega)).tr (DR.put (fun _ => ?_)), (FO.put (fun z => by omega)).tr (FO.put (fun z => by omega)), fun f => ?_, Nat.le_succ _⟩
        · rw [tu_k (by decide : (1 : Nat) ≠ 2)]
          exact ⟨rfl, rfl, rfl⟩
        · exact (tu15 (tu T 2 i (R_X5_takeFrom_0 (T 2 i) (T 1 j))) j (R_X5_takeFrom_1 (T 2 i) (T 1 j)) f).trans (tu5 T i (R_X5_takeFrom_0 (T 2 i) (T 1 j)) f)
      · rw [trP_cd c1 c2 c3]
        exact TrO.two h (fun hi => h.2.2 i hi)
    | none =>
      cases c3 : ixR n3 (T 2 i 8) with
      | some v =>
        by_cases c4 : T 2 i 0 = T 3 v 0
        · by_cases c5 : T 2 i 2 ≤ 0
          · rw [trP_e0 c1 c2 c3 c4 c5]
            exact TrO.rf h
          · rw [trP_eu c1 c2 c3 c4 c5]
            exact h.ul hi h0
        · rw [trP_ed c1 c2 c3 c4]
          exact TrO.two h (fun hi => h.2.2 i hi)
      | none =>
        rw [trP_0 c1 c2 c3]
        exact TrO.rf h
  · rw [trP_r c1]
    exact TrO.two h (fun hi => h.2.2 i hi)
theorem Iv.tks {n0 n1 n2 n3 : Nat} {tr now price : Int32} {S : TS} (h : Iv n0 n1 n2 S.1) (h0 : n0 ≤ 600) (h1 : n1 ≤ 600) : ∀ n, n ≤ n2 → Iv n0 n1 n2 (trsP n0 n1 n3 tr now price n S).1 ∧ DR 0 S.1 (trsP n0 n1 n3 tr now price n S).1 ∧ FO S.1 (trsP n0 n1 n3 tr now price n S).1 ∧ (∀ f, (trsP n0 n1 n3 tr now price n S).1 0 f 5 = S.1 0 f 5) ∧ (trsP n0 n1 n3 tr now price n S).2.1 ≤ S.2.1 + n
  | 0, _ => ⟨h, DR.rf, FO.rf, fun _ => rfl, Nat.le_refl _⟩
  | n + 1, hn => by
    obtain ⟨a1, a2, a3, a4, a5⟩ := Iv.tks (n3 := n3) (tr := tr) (now := now) (price := price) h h0 h1 n (by omega)
    obtain ⟨S1, eS1⟩ : ∃ z, z = trsP n0 n1 n3 tr now price n S := ⟨_, rfl⟩
    show Iv n0 n1 n2 (trP n0 n1 n3 tr now price n (trsP n0 n1 n3 tr now price n S)).1 ∧ DR 0 S.1 (trP n0 n1 n3 tr now price n (trsP n0 n1 n3 tr now price n S)).1 ∧ FO S.1 (trP n0 n1 n3 tr now price n (trsP n0 n1 n3 tr now price n S)).1 ∧ (∀ f, (trP n0 n1 n3 tr now price n (trsP n0 n1 n3 tr now price n S)).1 0 f 5 = S.1 0 f 5) ∧ (trP n0 n1 n3 tr now price n (trsP n0 n1 n3 tr now price n S)).2.1 ≤ S.2.1 + (n + 1)
    rw [← eS1] at a1 a2 a3 a4 a5 ⊢
    obtain ⟨T1, m1, mo1⟩ := S1
    obtain ⟨b1, b2, b3, b4, b5⟩ := Iv.tk (n3 := n3) (n := m1) (money := mo1) (tr := tr) (now := now) (price := price) a1 (i := n) (by omega) h0 h1
    exact ⟨b1, a2.tr b2, a3.tr b3, fun f => (b4 f).trans (a4 f), by have b6 : (trP n0 n1 n3 tr now price n (T1, m1, mo1)).2.1 ≤ m1 + 1 := b5; have a6 : m1 ≤ S.2.1 + n := a5; omega⟩
/-- the fields' hours -/
theorem fisP_at {cl w a r : Int32} {T : Tb} : ∀ n, (∀ k, k < n → fisP cl w a r n T 0 k = R_X2_passHour_0 (T 0 k) cl w a r) ∧ (∀ k, n ≤ k → fisP cl w a r n T 0 k = T 0 k) ∧ ∀ k i, k ≠ 0 → fisP cl w a r n T k i = T k i
  | 0 => ⟨fun k hk => absurd hk (Nat.not_lt_zero _), fun _ _ => rfl, fun _ _ _ => rfl⟩
  | n + 1 => by
    obtain ⟨a1, a2, a3⟩ := fisP_at (cl := cl) (w := w) (a := a) (r := r) (T := T) n
    show (∀ k, k < n + 1 → tu (fisP cl w a r n T) 0 n (R_X2_passHour_0 (fisP cl w a r n T 0 n) cl w a r) 0 k = _) ∧ (∀ k, n + 1 ≤ k → tu (fisP cl w a r n T) 0 n (R_X2_passHour_0 (fisP cl w a r n T 0 n) cl w a r) 0 k = _) ∧ ∀ k i, k ≠ 0 → tu (fisP cl w a r n T) 0 n (R_X2_passHour_0 (fisP cl w a r n T 0 n) cl w a r) k i = _
    refine ⟨fun k hk => ?_, fun k hk => ?_, fun k i hk => ?_⟩
    · by_cases hkn : k = n
      · subst hkn
        rw [tu_s, a2 k (Nat.le_refl _)]
      · rw [tu_i hkn]
        exact a1 k (by omega)
    · rw [tu_i (by omega)]
      exact a2 k (by omega)
    · rw [tu_k hk]
      exact a3 k i hk
theorem Iv.fis {n0 n1 n2 : Nat} {T : Tb} {cl w a r : Int32} (h : Iv n0 n1 n2 T) : Iv n0 n1 n2 (fisP cl w a r n0 T) := by
  obtain ⟨a1, a2, a3⟩ := fisP_at (cl := cl) (w := w) (a := a) (r := r) (T := T) n0
  refine ⟨fun i hi => ?_, fun i hi => ?_, fun i hi => ?_⟩
  · rw [a1 i hi]
    exact (h.1 i hi).hour
  · rw [a3 1 i (by decide)]
    exact h.2.1 i hi
  · rw [a3 2 i (by decide)]
    exact h.2.2 i hi
/-- an hour -/
theorem Iv.hr {n0 n1 n2 n3 : Nat} {tr now price w a r : Int32} {S : TS} (h : Iv n0 n1 n2 S.1) (h0 : n0 ≤ 600) (h1 : n1 ≤ 600) : Iv n0 n1 n2 (hrP n0 n1 n2 n3 tr now price w a r S).1 ∧ DR (20 * n1) S.1 (hrP n0 n1 n2 n3 tr now price w a r S).1 ∧ (∀ k, k < n0 → ∀ c, c ≠ 5 → c ≠ 9 → c ≠ 10 → c ≠ 11 → c ≠ 12 → (hrP n0 n1 n2 n3 tr now price w a r S).1 0 k c = R_X2_passHour_0 (S.1 0 k) (clk (now + 1)) w a r c) ∧ (∀ f, f < n0 → (∀ i, i < n1 → ixR n0 (S.1 1 i 9) ≠ some f) → (hrP n0 n1 n2 n3 tr now price w a r S).1 0 f 5 = S.1 0 f 5) ∧ (hrP n0 n1 n2 n3 tr now price w a r S).2.1 ≤ S.2.1 + n2 := by
  obtain ⟨f1, f2, f3⟩ := fisP_at (cl := clk (now + 1)) (w := w) (a := a) (r := r) (T := S.1) n0
  have g1 := h.fis (cl := clk (now + 1)) (w := w) (a := a) (r := r)
  obtain ⟨T1, eT1⟩ : ∃ z, z = fisP (clk (now + 1)) w a r n0 S.1 := ⟨_, rfl⟩
  rw [← eT1] at g1
  simp only [← eT1] at f1 f2 f3
  obtain ⟨c1, c2, c3, c4, -⟩ := g1.cos (cl := clk (now + 1)) (r := r) h0 n1 (Nat.le_refl _)
  obtain ⟨T2, eT2⟩ : ∃ z, z = cosP n0 (clk (now + 1)) r n1 T1 := ⟨_, rfl⟩
  rw [← eT2] at c1 c2 c3
  simp only [← eT2] at c4
  have eh : hrP n0 n1 n2 n3 tr now price w a r S = trsP n0 n1 n3 tr (now + 1) price n2 (T2, S.2) := by rw [eT2, eT1]; rfl
  rw [eh]
  obtain ⟨t1, t2, t3, t4, t5⟩ := Iv.tks (n3 := n3) (tr := tr) (now := now + 1) (price := price) (S := (T2, S.2)) c1 h0 h1 n2 (Nat.le_refl _)
  have d0 : DR 0 S.1 T1 := fun k => ⟨by rw [f3 1 k (by decide)], 0, Nat.zero_le _, by rw [f3 1 k (by decide), nI_0, Int32.add_zero], fun _ => by rw [f3 1 k (by decide)]⟩
  refine ⟨t1, DR.up ((d0.tr c2).tr t2) (by omega), fun k hk c q5 q9 q10 q11 q12 => ?_, fun f hf hal => ?_, t5⟩
  · rw [t3 k c q5 q9 q10 q11 q12]
    show T2 0 k c = _
    rw [c3 k c q5 q9 q10 q11 q12, f1 k hk]
  · rw [t4 f]
    show T2 0 f 5 = _
    rw [c4 f (fun i hi => by rw [f3 1 i (by decide)]; exact hal i hi), f1 f hf]
    exact RX2_o (by decide) (by decide) (by decide)
theorem RX2_c {f g : Row} {p0 p1 p2 p3 : Int32} (h : ∀ c, c ≠ 5 → c ≠ 9 → c ≠ 10 → c ≠ 11 → c ≠ 12 → f c = g c) : ∀ c, c ≠ 5 → c ≠ 9 → c ≠ 10 → c ≠ 11 → c ≠ 12 → R_X2_passHour_0 f p0 p1 p2 p3 c = R_X2_passHour_0 g p0 p1 p2 p3 c := fun c c5 c9 c10 c11 c12 => by
  have e6 : f 6 = g 6 := h 6 (by decide) (by decide) (by decide) (by decide) (by decide)
  have e7 : f 7 = g 7 := h 7 (by decide) (by decide) (by decide) (by decide) (by decide)
  have e8 : f 8 = g 8 := h 8 (by decide) (by decide) (by decide) (by decide) (by decide)
  by_cases h6 : c = 6
  · subst h6
    show t_X2_ripen_0 (f 6) p1 = t_X2_ripen_0 (g 6) p1
    rw [e6]
  · by_cases h7 : c = 7
    · subst h7
      show t_X2_soakOrDry_0 (t_X2_ripen_0 (f 6) p1) (f 7) p2 p3 = t_X2_soakOrDry_0 (t_X2_ripen_0 (g 6) p1) (g 7) p2 p3
      rw [e6, e7]
    · by_cases h8 : c = 8
      · subst h8
        show t_X2_shatter_0 (t_X2_ripen_0 (f 6) p1) (t_X2_soakOrDry_0 (t_X2_ripen_0 (f 6) p1) (f 7) p2 p3) (f 8) p0 p3 = t_X2_shatter_0 (t_X2_ripen_0 (g 6) p1) (t_X2_soakOrDry_0 (t_X2_ripen_0 (g 6) p1) (g 7) p2 p3) (g 8) p0 p3
        rw [e6, e7, e8]
      · rw [RX2_o h6 h7 h8, RX2_o h6 h7 h8]
        exact h c c5 c9 c10 c11 c12
/-- hours -/
theorem Iv.hrs {n0 n1 n2 n3 : Nat} {tr now price w a r money : Int32} {T : Tb} {n : Nat} (h : Iv n0 n1 n2 T) (h0 : n0 ≤ 600) (h1 : n1 ≤ 600) : ∀ k, Iv n0 n1 n2 (hrsP n0 n1 n2 n3 tr now price w a r k (T, n, money)).1 ∧ DR (20 * n1 * k) T (hrsP n0 n1 n2 n3 tr now price w a r k (T, n, money)).1 ∧ (∀ f, f < n0 → ∀ c, c ≠ 5 → c ≠ 9 → c ≠ 10 → c ≠ 11 → c ≠ 12 → (hrsP n0 n1 n2 n3 tr now price w a r k (T, n, money)).1 0 f c = fhP now w a r k (T 0 f) c) ∧ (∀ f, f < n0 → (∀ i, i < n1 → ixR n0 (T 1 i 9) ≠ some f) → (hrsP n0 n1 n2 n3 tr now price w a r k (T, n, money)).1 0 f 5 = T 0 f 5) ∧ (hrsP n0 n1 n2 n3 tr now price w a r k (T, n, money)).2.1 ≤ n + n2 * k
  | 0 => ⟨h, DR.rf, fun _ _ _ _ _ _ _ _ => rfl, fun _ _ _ => rfl, Nat.le_refl _⟩
  | k + 1 => by
    obtain ⟨a1, a2, a3, a4, a5⟩ := Iv.hrs (n3 := n3) (tr := tr) (now := now) (price := price) (w := w) (a := a) (r := r) (money := money) (n := n) h h0 h1 k
    obtain ⟨S1, eS1⟩ : ∃ z, z = hrsP n0 n1 n2 n3 tr now price w a r k (T, n, money) := ⟨_, rfl⟩
    have e9 : hrsP n0 n1 n2 n3 tr now price w a r (k + 1) (T, n, money) = hrP n0 n1 n2 n3 tr (now + nI k) price w a r S1 := by rw [eS1]; rfl
    rw [e9]
    rw [← eS1] at a1 a2 a5
    simp only [← eS1] at a3 a4
    obtain ⟨b1, b2, b3, b4, b5⟩ := a1.hr (n3 := n3) (tr := tr) (now := now + nI k) (price := price) (w := w) (a := a) (r := r) h0 h1
    refine ⟨b1, DR.up (a2.tr b2) (by rw [Nat.mul_succ]; exact Nat.le_refl _), fun f hf c q5 q9 q10 q11 q12 => ?_, fun f hf hal => ?_, ?_⟩
    · rw [b3 f hf c q5 q9 q10 q11 q12, now_s]
      exact RX2_c (a3 f hf) c q5 q9 q10 q11 q12
    · rw [b4 f hf (fun i hi => by rw [(a2 i).1]; exact hal i hi)]
      exact a4 f hf hal
    · rw [Nat.mul_succ]
      omega

/-! the pay of an hour's tickets; hours that go by -/
theorem nI_j {a b : Nat} (ha : a < 600) (hb : b < 600) (h : nI a = nI b) : a = b := by
  have z := congrArg Int32.toInt h
  rw [nI_toInt (by omega), nI_toInt (by omega)] at z
  omega
theorem IF.fm {f : Row} (h : IF f) : ∃ d, d < 4 ∧ f 0 = nI d := by
  have h0 : (0 : Int32).toInt = 0 := by decide
  obtain ⟨j, hj, e⟩ := nI_of (x := f 0) (fun z => by
    have := Int32.lt_iff_toInt_lt.mp z
    have := h.1.1
    omega)
  refine ⟨j, ?_, e⟩
  have h1 := h.1.2
  rw [e, nI_toInt hj] at h1
  omega
theorem pays {N : Nat → Nat} {pr m : Int32} {n0 n : Nat} {T : Tb} {X0 : XS} (hN : NB N) (hs : Sm N 0 T X0.1) (ht : Tk N pr X0.2.2.1 X0.2.2.2.1 X0.2.2.2.2 n0 n (T 4) (T 0) (X0.1 4) m) : ∀ c, c ≤ n - n0 → (Sm N 0 T (pysR N pr n0 c X0).1 ∧ (∀ j, (j < n0 ∨ n0 + c ≤ j) → (pysR N pr n0 c X0).1 4 j = X0.1 4 j) ∧ (∀ j, n0 ≤ j → j < n0 + c → ∀ k, k < 7 → (pysR N pr n0 c X0).1 4 j k = T 4 j k) ∧ (pysR N pr n0 c X0).2.2.1 = X0.2.2.1 + sa 0 (fun k => 2 * (T 4 (n0 + k) 1 / 10)) c ∧ (∀ g, g < 4 → (pysR N pr n0 c X0).2.2.2.1 g = X0.2.2.2.1 g + sa 0 (fun k => tF (T 4) (T 0) (n0 + k) g) c) ∧ (∀ g, g < 4 → (pysR N pr n0 c X0).2.2.2.2 g = X0.2.2.2.2 g + sa 0 (fun k => tL (T 4) (T 0) (n0 + k) g) c)) ∧ (c < n - n0 → PyOK N (pysR N pr n0 c X0).1 (n0 + c)) := by
  obtain ⟨hn, g1, g2, g3, g4, g5, g6⟩ := ht
  have ok : ∀ c, c < n - n0 → ∀ X : XS, Sm N 0 T X.1 → X.1 4 (n0 + c) = X0.1 4 (n0 + c) → ∃ f d, f < N 0 ∧ d < 4 ∧ T 4 (n0 + c) 0 = nI f ∧ ix (X.1 4 (n0 + c) 0) = f ∧ X.1 0 f 0 = nI d ∧ T 0 f 0 = nI d ∧ X.1 0 f 10 = T 0 f 4 := by
    intro c hc X hX hU
    obtain ⟨⟨f, hf, ef⟩, -⟩ := g3 (n0 + c) (by omega) (by omega)
    obtain ⟨d, hd, ed⟩ := (hX.1 f hf).2.fm
    have hr := (hX.1 f hf).1
    refine ⟨f, d, hf, hd, ef, ?_, hr.1.trans ed, ed, hr.2.2.2.2.2.2.2.2.2.1⟩
    rw [hU, g1 _ (by omega) 0 (by decide), ef]
    have := hN.1
    exact ix_n (by omega)
  have pk : ∀ c, c < n - n0 → ∀ X : XS, Sm N 0 T X.1 → X.1 4 (n0 + c) = X0.1 4 (n0 + c) → PyOK N X.1 (n0 + c) := by
    intro c hc X hX hU
    obtain ⟨f, d, hf, hd, ef, e1, e2, e3, e4⟩ := ok c hc X hX hU
    have hn8 := hN.1
    refine ⟨⟨?_, by rw [e1]; exact hf⟩, ?_, ?_⟩
    · rw [hU, g1 _ (by omega) 0 (by decide), ef]
      exact nI_pos (by omega)
    · rw [e1, e2]
      exact nI_pos (by omega)
    · rw [e1, e2, ix_n (by omega)]
      exact hd
  intro c
  induction c with
  | zero =>
    intro _
    refine ⟨⟨hs, fun j _ => rfl, fun j h1 h2 => absurd h2 (by omega), ?_, fun g _ => ?_, fun g _ => ?_⟩, fun hc => pk 0 hc X0 hs rfl⟩
    · exact (Int32.add_zero _).symm
    · exact (Int32.add_zero _).symm
    · exact (Int32.add_zero _).symm
  | succ c ih =>
    intro hc
    obtain ⟨⟨a1, a2, a3, a4, a5, a6⟩, a7⟩ := ih (by omega)
    have hU := a2 (n0 + c) (Or.inr (Nat.le_refl _))
    obtain ⟨X, eX⟩ : ∃ X, X = pysR N pr n0 c X0 := ⟨_, rfl⟩
    have hstep : pysR N pr n0 (c + 1) X0 = pyR N pr (n0 + c) X := by rw [eX]; rfl
    rw [← eX] at a1 a2 a3 a4 a5 a6 hU
    obtain ⟨f, d, hf, hd, ef, e1, e2, e3, e4⟩ := ok c (by omega) X a1 hU
    have hn8 := hN.1
    have u : ∀ k, k < 6 → X.1 4 (n0 + c) k = T 4 (n0 + c) k := fun k hk => by rw [hU]; exact g1 _ (by omega) k hk
    have hw : ((X.1 4 (n0 + c) 1 * pr) * ((100 : Int32) - X.1 4 (n0 + c) 3)) / (10000 : Int32) = T 4 (n0 + c) 6 := by
      rw [u 1 (by decide), u 3 (by decide)]
      exact (g3 (n0 + c) (by omega) (by omega)).2.symm
    have s4 : ∀ j, j ≠ n0 + c → (pyR N pr (n0 + c) X).1 4 j = X.1 4 j := fun j hj => tu_i hj
    have hsm : Sm N 0 T (pyR N pr (n0 + c) X).1 := a1
    have edx : ix (X.1 0 (ix (X.1 4 (n0 + c) 0)) 0) = d := by rw [e1, e2]; exact ix_n (by omega)
    have e10 : X.1 0 (ix (X.1 4 (n0 + c) 0)) 10 = T 0 f 4 := by rw [e1, e4]
    have eT : ix (T 4 (n0 + c) 0) = f := by rw [ef]; exact ix_n (by omega)
    have s5 : ∀ j, j < n0 ∨ n0 + (c + 1) ≤ j → (pyR N pr (n0 + c) X).1 4 j = X0.1 4 j := fun j hj => by
      rw [s4 j (by omega)]
      exact a2 j (by omega)
    rw [hstep]
    refine ⟨⟨hsm, s5, fun j h1 h2 k hk => ?_, ?_, fun g hg => ?_, fun g hg => ?_⟩, fun hc2 => pk (c + 1) hc2 _ hsm (s5 _ (Or.inr (Nat.le_refl _)))⟩
    · by_cases e : j = n0 + c
      · subst e
        show tu X.1 4 (n0 + c) _ 4 (n0 + c) k = _
        rw [tu_s]
        match k, hk with
        | 0, _ => exact u 0 (by decide)
        | 1, _ => exact u 1 (by decide)
        | 2, _ => exact u 2 (by decide)
        | 3, _ => exact u 3 (by decide)
        | 4, _ => exact u 4 (by decide)
        | 5, _ => exact u 5 (by decide)
        | 6, _ => exact hw
      · rw [s4 j e]
        exact a3 j h1 (by omega) k hk
    · show X.2.2.1 + 2 * (X.1 4 (n0 + c) 1 / 10) = _
      rw [sa_s, ← Int32.add_assoc, ← a4, u 1 (by decide)]
    · show upd X.2.2.2.1 (ix (X.1 0 (ix (X.1 4 (n0 + c) 0)) 0)) (X.2.2.2.1 (ix (X.1 0 (ix (X.1 4 (n0 + c) 0)) 0)) + (((X.1 4 (n0 + c) 1 * pr) * ((100 : Int32) - X.1 4 (n0 + c) 3)) / (10000 : Int32) - ((((X.1 4 (n0 + c) 1 * pr) * ((100 : Int32) - X.1 4 (n0 + c) 3)) / (10000 : Int32)) * X.1 0 (ix (X.1 4 (n0 + c) 0)) 10) / (100 : Int32))) g = _
      rw [edx, e10, hw, sa_s, ← Int32.add_assoc, ← a5 g hg]
      unfold upd tF
      rw [eT, e3]
      by_cases e : g = d
      · subst e
        rw [if_pos rfl, if_pos rfl]
      · rw [if_neg e, if_neg (fun z => e (nI_j (by omega) (by omega) z).symm), Int32.add_zero]
    · show upd X.2.2.2.2 (ix (X.1 0 (ix (X.1 4 (n0 + c) 0)) 0)) (X.2.2.2.2 (ix (X.1 0 (ix (X.1 4 (n0 + c) 0)) 0)) + ((((X.1 4 (n0 + c) 1 * pr) * ((100 : Int32) - X.1 4 (n0 + c) 3)) / (10000 : Int32)) * X.1 0 (ix (X.1 4 (n0 + c) 0)) 10) / (100 : Int32)) g = _
      rw [edx, e10, hw, sa_s, ← Int32.add_assoc, ← a6 g hg]
      unfold upd tL
      rw [eT, e3]
      by_cases e : g = d
      · subst e
        rw [if_pos rfl, if_pos rfl]
      · rw [if_neg e, if_neg (fun z => e (nI_j (by omega) (by omega) z).symm), Int32.add_zero]
theorem pysR_2 {N : Nat → Nat} {pr : Int32} {n0 : Nat} {X : XS} : ∀ c j, (pysR N pr n0 c X).1 2 j = X.1 2 j
  | 0, _ => rfl
  | c + 1, j => pysR_2 c j
/-- the real lands beside each other -/
def RS (N : Nat → Nat) (S : TS) (X : XS) : Prop := Sm N 0 S.1 X.1 ∧ X.2.1 = S.2.1 ∧ X.2.2.1 = S.2.2 ∧ (∀ g, g < 4 → X.2.2.2.1 g = fS N (S.1 0) g) ∧ (∀ g, g < 4 → X.2.2.2.2 g = lS N (S.1 0) g) ∧ ∀ j, j < S.2.1 → ∀ k, k < 7 → X.1 4 j k = S.1 4 j k
theorem RS.tk {N : Nat → Nat} {S : TS} {X : XS} (h : RS N S X) (price : Int32) : Tk N price X.2.2.1 X.2.2.2.1 X.2.2.2.2 S.2.1 S.2.1 (S.1 4) (S.1 0) (X.1 4) S.2.2 := by
  obtain ⟨h1, h2, h3, h4, h5, h6⟩ := h
  refine ⟨Nat.le_refl _, fun j hj k hk => h6 j hj k (by omega), fun j hj => h6 j hj 6 (by decide), fun j a b => absurd b (by omega), ?_, fun g hg => ?_, fun g hg => ?_⟩
  · rw [Nat.sub_self, h3]
    exact (Int32.add_zero _).symm
  · rw [Nat.sub_self, h4 g hg]
    exact (Int32.add_zero _).symm
  · rw [Nat.sub_self, h5 g hg]
    exact (Int32.add_zero _).symm
theorem RS.hour {N : Nat → Nat} {S : TS} {X : XS} (h : RS N S X) (hN : NB N) {now price w a r : Int32} : RS N (hrP (N 0) (N 1) (N 2) (N 3) 0 now price w a r S) (paR N now price w a r X) ∧ HrOK N now w a r (X.1, X.2.1) ∧ (∀ c, c < (paR0 N now w a r X).2.1 - X.2.1 → PyOK N (pysR N price X.2.1 c (paR0 N now w a r X)).1 (X.2.1 + c)) ∧ (paR N now price w a r X).2.1 + ph (paR N now price w a r X).1 (N 2) ≤ X.2.1 + ph X.1 (N 2) := by
  have hk := h.tk price
  obtain ⟨h1, h2, h3, h4, h5, h6⟩ := h
  have z := Sm.hour (tr := 0) hN (now := now) (price := price) (w := w) (a := a) (r := r) (n := S.2.1) (nr := X.2.1) (m := S.2.2) h1
  obtain ⟨z0, z1, z2, z3⟩ := z
  obtain ⟨y1, y2⟩ := z3 rfl h2
  have y3 := y2 _ _ _ _ hk
  obtain ⟨S', eS⟩ : ∃ S', S' = hrP (N 0) (N 1) (N 2) (N 3) 0 now price w a r S := ⟨_, rfl⟩
  have eS' : hrP (N 0) (N 1) (N 2) (N 3) 0 now price w a r (S.1, S.2.1, S.2.2) = S' := eS.symm
  rw [eS'] at z1 y1 y3
  rw [← eS]
  have P := pays (X0 := paR0 N now w a r X) (pr := price) (n0 := S.2.1) (n := S'.2.1) (T := S'.1) (m := S'.2.2) hN z1 y3
  have e2 : (paR0 N now w a r X).2.1 = S'.2.1 := y1
  have ge : S.2.1 ≤ S'.2.1 := y3.1
  have en : (paR0 N now w a r X).2.1 - X.2.1 = S'.2.1 - S.2.1 := by rw [e2, h2]
  have epa : paR N now price w a r X = pysR N price S.2.1 (S'.2.1 - S.2.1) (paR0 N now w a r X) := by
    unfold paR
    rw [en, h2]
  obtain ⟨⟨p1, p2, p3, p4, p5, p6⟩, -⟩ := P (S'.2.1 - S.2.1) (Nat.le_refl _)
  obtain ⟨t0, t1, t2, t3, t4, t5, t6⟩ := y3
  refine ⟨?_, z0, fun c hc => ?_, ?_⟩
  · rw [epa]
    refine ⟨p1, (pysR_n _).trans e2, ?_, fun g hg => ?_, fun g hg => ?_, fun j hj k hk7 => ?_⟩
    · rw [p4, t4]; rfl
    · rw [p5 g hg, t5 g hg]; rfl
    · rw [p6 g hg, t6 g hg]; rfl
    · by_cases e : S.2.1 ≤ j
      · exact p3 j e (by omega) k hk7
      · rw [p2 j (Or.inl (by omega))]
        by_cases e6 : k = 6
        · subst e6
          exact t2 j (by omega)
        · exact t1 j hj k (by omega)
  · rw [h2]
    rw [en] at hc
    exact (P c (by omega)).2 hc
  · rw [paR_n]
    refine Nat.le_trans (Nat.add_le_add_left ?_ _) z2
    show ph (paR N now price w a r X).1 (N 2) ≤ ph (paR0 N now w a r X).1 (N 2)
    exact ph_le _ (fun j _ w9 => by
      have e : (paR N now price w a r X).1 2 j = (paR0 N now w a r X).1 2 j := pysR_2 _ j
      rw [e] at w9
      exact w9)
theorem RS.hours {N : Nat → Nat} {S : TS} {X : XS} (h : RS N S X) (hN : NB N) {now price w a r : Int32} : ∀ k, RS N (hrsP (N 0) (N 1) (N 2) (N 3) 0 now price w a r k S) (pasR N now price w a r k X) ∧ (pasR N now price w a r k X).2.1 + ph (pasR N now price w a r k X).1 (N 2) ≤ X.2.1 + ph X.1 (N 2)
  | 0 => ⟨h, Nat.le_refl _⟩
  | k + 1 => by
    obtain ⟨z1, z2⟩ := RS.hours h hN (now := now) (price := price) (w := w) (a := a) (r := r) k
    have y := z1.hour hN (now := now + nI k) (price := price) (w := w) (a := a) (r := r)
    exact ⟨y.1, Nat.le_trans y.2.2.2 z2⟩
theorem RS.paOK {N : Nat → Nat} {S : TS} {X : XS} (h : RS N S X) (hN : NB N) {now price w a r : Int32} (k : Nat) : PaOK N now price w a r k X := fun j _ => by
  have y := (h.hours hN (now := now) (price := price) (w := w) (a := a) (r := r) j).1.hour hN (now := now + nI j) (price := price) (w := w) (a := a) (r := r)
  exact ⟨y.2.1, y.2.2.1⟩

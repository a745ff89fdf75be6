/-! an hour of both lands -/
theorem work_o {N : Nat → Nat} {U : Tb} {now p0 p1 : Int32} {i k : Nat} (h0 : k ≠ 0) (h1 : k ≠ 1) : ∀ j, u_X7_work N U now p0 p1 i k j = U k j := by
  intro j
  by_cases g1 : U 1 i 6 = (1 : Int32)
  · rw [uw_b g1]
  by_cases g2 : U 1 i 7 = (-1 : Int32)
  · rw [uw_g g1 g2]
  by_cases g3 : U 1 i 1 = U 0 (ix (U 1 i 7)) 1
  · by_cases g4 : 0 < p1
    · rw [uw_4 g1 g2 g3 g4]
      exact tu_k h1
    by_cases g5 : U 0 (ix (U 1 i 7)) 4 < (80 : Int32)
    · rw [uw_5 g1 g2 g3 g4 g5]
      exact tu_k h1
    by_cases g6 : (20 : Int32) ≤ U 0 (ix (U 1 i 7)) 5
    · rw [uw_6 g1 g2 g3 g4 g5 g6]
      exact tu_k h1
    by_cases g7 : clk now < (8 : Int32)
    · rw [uw_7 g1 g2 g3 g4 g5 g6 g7]
      exact tu_k h1
    by_cases g8 : U 1 i 2 ≤ 0 ∨ U 1 i 3 = U 1 i 7
    · by_cases g9 : a_X7_work U i = 0
      · rw [uw_9 g1 g2 g3 g4 g5 g6 g7 g8 g9]
        exact tu_k h1
      · rw [uw_w g1 g2 g3 g4 g5 g6 g7 g8 g9]
        exact (tu_k h1).trans (tu_k h0)
    · rw [uw_8 g1 g2 g3 g4 g5 g6 g7 (fun z => g8 (Or.inl z)) (fun z => g8 (Or.inr z))]
      exact tu_k h1
  · rw [uw_m g1 g2 g3]
    exact tu_k h1
/-- what the first half of an hour leaves alone -/
def Qt (T U T' U' : Tb) : Prop := T' 4 = T 4 ∧ (∀ j, T' 0 j 0 = T 0 j 0 ∧ T' 0 j 4 = T 0 j 4 ∧ T' 0 j 11 = T 0 j 11 ∧ T' 0 j 12 = T 0 j 12) ∧ U' 4 = U 4 ∧ ∀ j, U' 2 j = U 2 j
theorem Qt.rf {T U : Tb} : Qt T U T U := ⟨rfl, fun _ => ⟨rfl, rfl, rfl, rfl⟩, rfl, fun _ => rfl⟩
theorem Qt.tr {T U T1 U1 T2 U2 : Tb} (h1 : Qt T U T1 U1) (h2 : Qt T1 U1 T2 U2) : Qt T U T2 U2 := ⟨h2.1.trans h1.1, fun j => ⟨(h2.2.1 j).1.trans (h1.2.1 j).1, (h2.2.1 j).2.1.trans (h1.2.1 j).2.1, (h2.2.1 j).2.2.1.trans (h1.2.1 j).2.2.1, (h2.2.1 j).2.2.2.trans (h1.2.1 j).2.2.2⟩, h2.2.2.1.trans h1.2.2.1, fun j => (h2.2.2.2 j).trans (h1.2.2.2 j)⟩
theorem Qt.rip {cl w a r : Int32} {T U : Tb} : ∀ n, Qt T U (fisP cl w a r n T) (ripR cl w a r n U)
  | 0 => Qt.rf
  | n + 1 => by
    refine (Qt.rip (cl := cl) (w := w) (a := a) (r := r) n).tr ⟨funext fun j => tu_k (by decide), fun j => ?_, funext fun j => tu_k (by decide), fun j => tu_k (by decide)⟩
    show tu _ 0 n _ 0 j 0 = _ ∧ tu _ 0 n _ 0 j 4 = _ ∧ tu _ 0 n _ 0 j 11 = _ ∧ tu _ 0 n _ 0 j 12 = _
    by_cases e : j = n
    · subst e
      rw [tu_s]
      exact ⟨rfl, rfl, rfl, rfl⟩
    · rw [tu_i e]
      exact ⟨rfl, rfl, rfl, rfl⟩
theorem Qt.work {N : Nat → Nat} {n0 : Nat} {now p0 r : Int32} {i : Nat} {T U : Tb} : Qt T U (coP n0 (clk now) r i T) (u_X7_work N U now p0 r i) := by
  refine ⟨?_, fun j => ?_, funext fun j => work_o (by decide) (by decide) j, fun j => work_o (by decide) (by decide) j⟩
  · rcases e : ixR n0 (T 1 i 9) with _ | v
    · rw [coP_n e]
    · rw [coP_s e]
      exact funext fun j => (tu_k (by decide)).trans (tu_k (by decide))
  · rcases e : ixR n0 (T 1 i 9) with _ | v
    · rw [coP_n e]
      exact ⟨rfl, rfl, rfl, rfl⟩
    · rw [coP_s e]
      by_cases e2 : j = v
      · subst e2
        rw [tu_s]
        exact ⟨rfl, rfl, rfl, rfl⟩
      · rw [tu_i e2, tu_k (by decide)]
        exact ⟨rfl, rfl, rfl, rfl⟩
theorem Qt.works {N : Nat → Nat} {n0 : Nat} {now r : Int32} {T U : Tb} : ∀ n, Qt T U (cosP n0 (clk now) r n T) (wksR N now r n U)
  | 0 => Qt.rf
  | n + 1 => (Qt.works (N := N) (n0 := n0) (now := now) (r := r) n).tr Qt.work
theorem Tk.cong {N : Nat → Nat} {price mo0 m : Int32} {F0 L0 : Row} {n0 n : Nat} {T4 T0 U4 T0' : Nat → Row} (h : Tk N price mo0 F0 L0 n0 n T4 T0 U4 m) (hq : ∀ j, T0' j 0 = T0 j 0 ∧ T0' j 4 = T0 j 4 ∧ T0' j 11 = T0 j 11 ∧ T0' j 12 = T0 j 12) : Tk N price mo0 F0 L0 n0 n T4 T0' U4 m := by
  obtain ⟨hn, g1, g2, g3, g4, g5, g6⟩ := h
  refine ⟨hn, g1, g2, g3, g4, fun g hg => ?_, fun g hg => ?_⟩
  · have z := g5 g hg
    unfold fS at z ⊢
    rw [saC (f := fun j => if T0' j 0 = nI g then T0' j 11 else 0) (g := fun j => if T0 j 0 = nI g then T0 j 11 else 0) (fun k _ => by show (if T0' k 0 = nI g then T0' k 11 else 0) = _; rw [(hq k).1, (hq k).2.2.1]), z]
    congr 1
    refine (saC (fun k _ => ?_)).symm
    show tF T4 T0' (n0 + k) g = tF T4 T0 (n0 + k) g
    unfold tF
    rw [(hq _).1, (hq _).2.1]
  · have z := g6 g hg
    unfold lS at z ⊢
    rw [saC (f := fun j => if T0' j 0 = nI g then T0' j 12 else 0) (g := fun j => if T0 j 0 = nI g then T0 j 12 else 0) (fun k _ => by show (if T0' k 0 = nI g then T0' k 12 else 0) = _; rw [(hq k).1, (hq k).2.2.2]), z]
    congr 1
    refine (saC (fun k _ => ?_)).symm
    show tL T4 T0' (n0 + k) g = tL T4 T0 (n0 + k) g
    unfold tL
    rw [(hq _).1, (hq _).2.1]
theorem DvC.rf {N : Nat → Nat} {tr price : Int32} {n nr : Nat} {T U : Tb} {m : Int32} (h : Sm N tr T U) : DvC N tr price n nr T U m (T, n, m) U nr := ⟨h, Nat.le_refl _, fun _ e => ⟨e, fun _ _ _ _ z => z⟩⟩
theorem DvC.tr {N : Nat → Nat} {tr price : Int32} {n nr : Nat} {T U : Tb} {m : Int32} {S1 S2 : TS} {U1 U2 : Tb} {n1 n2 : Nat} (h1 : DvC N tr price n nr T U m S1 U1 n1) (h2 : DvC N tr price S1.2.1 n1 S1.1 U1 S1.2.2 S2 U2 n2) : DvC N tr price n nr T U m S2 U2 n2 := by
  refine ⟨h2.1, Nat.le_trans h2.2.1 h1.2.1, fun ht en => ?_⟩
  obtain ⟨a1, a2⟩ := h1.2.2 ht en
  obtain ⟨b1, b2⟩ := h2.2.2 ht a1
  exact ⟨b1, fun mo0 F0 L0 n0 z => b2 mo0 F0 L0 n0 (a2 mo0 F0 L0 n0 z)⟩
theorem DvC.pre {N : Nat → Nat} {tr price : Int32} {n nr : Nat} {T U T1 U1 : Tb} {m : Int32} {S : TS} {U' : Tb} {n' : Nat} (hq : Qt T U T1 U1) (h : DvC N tr price n nr T1 U1 m S U' n') : DvC N tr price n nr T U m S U' n' := by
  refine ⟨h.1, Nat.le_trans h.2.1 (Nat.add_le_add_left (ph_le _ (fun j _ z => by rw [hq.2.2.2 j] at z; exact z)) _), fun ht en => ?_⟩
  obtain ⟨a1, a2⟩ := h.2.2 ht en
  refine ⟨a1, fun mo0 F0 L0 n0 z => a2 mo0 F0 L0 n0 ?_⟩
  rw [hq.1, hq.2.2.1]
  exact z.cong hq.2.1
theorem Sm.drives {N : Nat → Nat} {tr : Int32} (hN : NB N) {now price : Int32} {n nr : Nat} {m : Int32} {T U : Tb} (h : Sm N tr T U) : ∀ i, i ≤ N 2 → DvC N tr price n nr T U m (trsP (N 0) (N 1) (N 3) tr now price i (T, n, m)) (drsR N now i (U, nr)).1 (drsR N now i (U, nr)).2
  | 0, _ => DvC.rf h
  | i + 1, hi => by
    have z := Sm.drives hN (now := now) (price := price) (n := n) (nr := nr) (m := m) h i (by omega)
    exact z.tr (z.1.drive hN (by omega) now price _ _ _).2
theorem Sm.hour {N : Nat → Nat} {tr : Int32} (hN : NB N) {now price w a r : Int32} {n nr : Nat} {m : Int32} {T U : Tb} (h : Sm N tr T U) : HrOK N now w a r (U, nr) ∧ DvC N tr price n nr T U m (hrP (N 0) (N 1) (N 2) (N 3) tr now price w a r (T, n, m)) (goR N now w a r (U, nr)).1 (goR N now w a r (U, nr)).2 := by
  have h1 := h.rip (cl := clk (now + 1)) (w := w) (a := a) (r := r) (N 0) (Nat.le_refl _)
  have h2 := Sm.works (now := now + 1) (r := r) hN h1
  have h3 := Sm.drives hN (now := now + 1) (price := price) (n := n) (nr := nr) (m := m) (h2 (N 1) (Nat.le_refl _))
  refine ⟨⟨fun i hi => ((h2 i (by omega)).work hN hi (now + 1) r).1, fun i hi => ?_⟩, ?_⟩
  · exact ((h3 i (by omega)).1.drive hN hi (now + 1) price 0 0 0).1
  · exact (h3 (N 2) (Nat.le_refl _)).pre ((Qt.rip (N 0)).tr (Qt.works (N 1)))

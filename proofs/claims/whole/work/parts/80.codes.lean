/-! the codes of the two faces -/
def pcd (a b c : Int32) : Nat → Int32
  | 0 => 0
  | 1 => a
  | 2 => b
  | _ => c
theorem lyp {A B : Prop} [Decidable A] [Decidable B] (h : A ↔ B) {pc : Nat → Int32} {x y : Nat} {u v : Int32} (h1 : pc x = u) (h2 : pc y = v) : pc (if B then x else y) = if A then u else v := by
  by_cases b : B
  · rw [if_pos b, if_pos (h.mpr b)]; exact h1
  · rw [if_neg b, if_neg (fun z => b (h.mp z))]; exact h2
theorem lyn {A B : Prop} [Decidable A] [Decidable B] (h : A ↔ ¬ B) {pc : Nat → Int32} {x y : Nat} {u v : Int32} (h1 : pc y = u) (h2 : pc x = v) : pc (if B then x else y) = if A then u else v := by
  by_cases b : B
  · rw [if_pos b, if_neg (fun z => h.mp z b)]; exact h2
  · rw [if_neg b, if_pos (h.mpr b)]; exact h1
/-- answers, where there is no code -/
theorem lqp {R : Type} {A B : Prop} [Decidable A] [Decidable B] (h : A ↔ B) {x y : Nat} {z r V : R} (hy : x ≠ 0) (hk : (if B then x else y) = 0) (hr : y = 0 → r = V) : (if A then z else r) = V := by
  by_cases b : B
  · rw [if_pos b] at hk
    exact absurd hk hy
  · rw [if_neg b] at hk
    rw [if_neg (fun q => b (h.mp q))]
    exact hr hk
theorem lqn {R : Type} {A B : Prop} [Decidable A] [Decidable B] (h : A ↔ ¬ B) {x y : Nat} {z r V : R} (hy : y ≠ 0) (hk : (if B then x else y) = 0) (hr : x = 0 → r = V) : (if A then z else r) = V := by
  by_cases b : B
  · rw [if_pos b] at hk
    rw [if_neg (fun q => h.mp q b)]
    exact hr hk
  · rw [if_neg b] at hk
    exact absurd hk hy
/-- and what stays, where there is one -/
theorem lkp {R : Type} {A B : Prop} [Decidable A] [Decidable B] (h : A ↔ B) {x y : Nat} {r V : R} (hk : ¬ (if B then x else y) = 0) (hr : ¬ y = 0 → r = V) : (if A then V else r) = V := by
  by_cases b : B
  · exact if_pos (h.mpr b)
  · rw [if_neg b] at hk
    rw [if_neg (fun q => b (h.mp q))]
    exact hr hk
theorem lkn {R : Type} {A B : Prop} [Decidable A] [Decidable B] (h : A ↔ ¬ B) {x y : Nat} {r V : R} (hk : ¬ (if B then x else y) = 0) (hr : ¬ x = 0 → r = V) : (if A then V else r) = V := by
  by_cases b : B
  · rw [if_pos b] at hk
    rw [if_neg (fun q => h.mp q b)]
    exact hr hk
  · exact if_pos (h.mpr b)
theorem io {p a c : Int32} : t_X8_in_0 p a c = 0 ↔ ¬ t_X6_isOutside_0 p a c = 0 := by
  unfold t_X8_in_0 t_X6_isOutside_0
  by_cases h1 : p < a
  · rw [if_pos h1, if_pos h1]
    decide
  · rw [if_neg h1, if_neg h1]
    by_cases h2 : c < p
    · rw [if_pos h2, if_neg (Int32.not_le.mpr h2)]
      decide
    · rw [if_neg h2, if_pos (Int32.not_lt.mp h2)]
      decide
theorem iom {p : Int32} : t_X8_isMile_0 p = 0 ↔ ¬ t_X6_isOutside_0 p 0 300 = 0 := io
theorem iow {a b c : Int32} : t_X8_isWeather_0 a b c = 0 ↔ ¬ t_X6_isNoWeather_0 a b c = 0 := by
  unfold t_X8_isWeather_0 t_X6_isNoWeather_0
  have e1 := io (p := a) (a := 0) (c := 45)
  have e2 := io (p := b) (a := 0) (c := 100)
  have e3 := io (p := c) (a := 0) (c := 20)
  by_cases h1 : t_X6_isOutside_0 a 0 45 = 0
  · rw [if_neg (fun z => e1.mp z h1), if_pos h1]
    by_cases h2 : t_X6_isOutside_0 b 0 100 = 0
    · rw [if_neg (fun z => e2.mp z h2), if_pos h2]
      by_cases h3 : t_X6_isOutside_0 c 0 20 = 0
      · rw [if_neg (fun z => e3.mp z h3), if_pos h3]
        decide
      · rw [if_pos (e3.mpr h3), if_neg h3]
        decide
    · rw [if_pos (e2.mpr h2), if_neg h2]
      decide
  · rw [if_pos (e1.mpr h1), if_neg h1]
    decide
theorem inR {n : Nat} {p : Int32} (hn : n ≤ 600) : t_X8_in_0 p 0 (nI n - 1) = 0 ↔ ixR n p = none := by
  constructor
  · intro h
    rcases e : ixR n p with _ | j
    · rfl
    · obtain ⟨hj, ep⟩ := ixR_lt hn e
      exfalso
      subst ep
      unfold t_X8_in_0 at h
      rw [if_neg (nI_pos (by omega)), if_neg] at h
      · exact absurd h (by decide)
      · rw [nI_m1 (by omega)]
        exact fun z => absurd ((nI_ltI (by omega) (by omega)).mp z) (by omega)
  · intro h
    by_cases c : t_X8_in_0 p 0 (nI n - 1) = 0
    · exact c
    · obtain ⟨c1, c2⟩ := inN c hn
      rw [(ix_nI c1).1, ixR_of hn c2] at h
      cases h
theorem capI {n c : Nat} (h : n ≤ c) (hc : c < 1000) : nI n = nI c ↔ ¬ nI n < nI c := by
  constructor
  · intro e z
    rw [e] at z
    exact Int32.lt_irrefl z
  · intro z
    have : ¬ n < c := fun q => z ((nI_ltI (by omega) (by omega)).mpr q)
    rw [show n = c by omega]
theorem fcI {a b c d : Int32} : t_X6_isNoForecast_0 a b c d = 0 ↔ ¬ t_X8_in_0 a 1 48 = 0 ∧ ¬ t_X8_isWeather_0 b c d = 0 := by
  rw [io, iow]
  unfold t_X6_isNoForecast_0
  by_cases h1 : t_X6_isOutside_0 a 1 48 = 0
  · rw [if_pos h1]
    by_cases h2 : t_X6_isNoWeather_0 b c d = 0
    · rw [if_pos h2]
      exact ⟨fun _ => ⟨fun z => z h1, fun z => z h2⟩, fun _ => rfl⟩
    · rw [if_neg h2]
      exact ⟨fun z => absurd z (by decide), fun z => absurd h2 z.2⟩
  · rw [if_neg h1]
    exact ⟨fun z => absurd z (by decide), fun z => absurd h1 z.1⟩
theorem lyf {A1 A2 B : Prop} [Decidable A1] [Decidable A2] [Decidable B] (h : B ↔ ¬ A1 ∧ ¬ A2) {pc : Nat → Int32} {x y : Nat} {u v : Int32} (h1 : pc y = u) (h2 : pc x = v) : pc (if B then x else y) = if A1 then u else if A2 then u else v := by
  by_cases a1 : A1
  · rw [if_pos a1, if_neg (fun z => (h.mp z).1 a1)]; exact h1
  · by_cases a2 : A2
    · rw [if_neg a1, if_pos a2, if_neg (fun z => (h.mp z).2 a2)]; exact h1
    · rw [if_neg a1, if_neg a2, if_pos (h.mpr ⟨a1, a2⟩)]; exact h2
theorem lqf {R : Type} {A1 A2 B : Prop} [Decidable A1] [Decidable A2] [Decidable B] (h : B ↔ ¬ A1 ∧ ¬ A2) {x y : Nat} {z r V : R} (hy : y ≠ 0) (hk : (if B then x else y) = 0) (hr : x = 0 → r = V) : (if A1 then z else if A2 then z else r) = V := by
  by_cases b : B
  · rw [if_pos b] at hk
    rw [if_neg (h.mp b).1, if_neg (h.mp b).2]
    exact hr hk
  · rw [if_neg b] at hk
    exact absurd hk hy
theorem lkf {R : Type} {A1 A2 B : Prop} [Decidable A1] [Decidable A2] [Decidable B] (h : B ↔ ¬ A1 ∧ ¬ A2) {x y : Nat} {r V : R} (hk : ¬ (if B then x else y) = 0) (hr : ¬ x = 0 → r = V) : (if A1 then V else if A2 then V else r) = V := by
  by_cases a1 : A1
  · exact if_pos a1
  · rw [if_neg a1]
    by_cases a2 : A2
    · exact if_pos a2
    · rw [if_neg a2]
      rw [if_pos (h.mpr ⟨a1, a2⟩)] at hk
      exact hr hk
section CD
variable {N : Nat → Nat} {T U : Tb} {now price money th pr mo : Int32} {F Lx : Row} {p0 p1 p2 p3 p4 p5 : Int32}
theorem cd_field (hN : NB N) : pcd 1 2 3 (kc_X6_field N T 0 now price money p0 p1 p2 p3 p4) = th_X8_field N U now th pr mo F Lx p0 p1 p2 p3 p4 := by
  unfold kc_X6_field th_X8_field
  exact lyn io rfl (lyn iom rfl (lyn io rfl (lyn io rfl (lyn io rfl (lyn (capI (n := N 0) (c := 8) hN.1 (by decide)) rfl (rfl))))))
theorem q0_field (hN : NB N) (hk : kc_X6_field N T 0 now price money p0 p1 p2 p3 p4 = 0) : q_X8_field N U now th pr mo F Lx p0 p1 p2 p3 p4 = (nI (N 0)) := by
  unfold kc_X6_field at hk
  unfold q_X8_field
  exact lqn io (by decide) hk (fun hk => lqn iom (by decide) hk (fun hk => lqn io (by decide) hk (fun hk => lqn io (by decide) hk (fun hk => lqn io (by decide) hk (fun hk => lqn (capI (n := N 0) (c := 8) hN.1 (by decide)) (by decide) hk (fun hk => rfl))))))
theorem u0_field (hN : NB N) (hk : kc_X6_field N T 0 now price money p0 p1 p2 p3 p4 = 0) : u_X8_field N U now th pr mo F Lx p0 p1 p2 p3 p4 = (tu U 0 (N 0) (rw11 p0 p1 p2 (0 : Int32) (0 : Int32) (30 : Int32) (0 : Int32) (0 : Int32) (0 : Int32) p3 p4)) := by
  unfold kc_X6_field at hk
  unfold u_X8_field
  exact lqn io (by decide) hk (fun hk => lqn iom (by decide) hk (fun hk => lqn io (by decide) hk (fun hk => lqn io (by decide) hk (fun hk => lqn io (by decide) hk (fun hk => lqn (capI (n := N 0) (c := 8) hN.1 (by decide)) (by decide) hk (fun hk => rfl))))))
theorem u1_field (hN : NB N) (hk : ¬ kc_X6_field N T 0 now price money p0 p1 p2 p3 p4 = 0) : u_X8_field N U now th pr mo F Lx p0 p1 p2 p3 p4 = U := by
  unfold kc_X6_field at hk
  unfold u_X8_field
  exact lkn io hk (fun hk => lkn iom hk (fun hk => lkn io hk (fun hk => lkn io hk (fun hk => lkn io hk (fun hk => lkn (capI (n := N 0) (c := 8) hN.1 (by decide)) hk (fun hk => absurd rfl hk))))))
theorem n0_field (hN : NB N) (hk : kc_X6_field N T 0 now price money p0 p1 p2 p3 p4 = 0) : n_X8_field N U now th pr mo F Lx p0 p1 p2 p3 p4 = (nu N 0 (N 0 + 1)) := by
  unfold kc_X6_field at hk
  unfold n_X8_field
  exact lqn io (by decide) hk (fun hk => lqn iom (by decide) hk (fun hk => lqn io (by decide) hk (fun hk => lqn io (by decide) hk (fun hk => lqn io (by decide) hk (fun hk => lqn (capI (n := N 0) (c := 8) hN.1 (by decide)) (by decide) hk (fun hk => rfl))))))
theorem n1_field (hN : NB N) (hk : ¬ kc_X6_field N T 0 now price money p0 p1 p2 p3 p4 = 0) : n_X8_field N U now th pr mo F Lx p0 p1 p2 p3 p4 = N := by
  unfold kc_X6_field at hk
  unfold n_X8_field
  exact lkn io hk (fun hk => lkn iom hk (fun hk => lkn io hk (fun hk => lkn io hk (fun hk => lkn io hk (fun hk => lkn (capI (n := N 0) (c := 8) hN.1 (by decide)) hk (fun hk => absurd rfl hk))))))
theorem cd_crop (hN : NB N) : pcd 1 2 0 (kc_X6_crop N T 0 now price money p0 p1 p2) = th_X8_crop N U now th pr mo F Lx p0 p1 p2 := by
  unfold kc_X6_crop th_X8_crop
  exact lyp (inR (by have := hN.1; omega)) rfl (lyn io rfl (lyn io rfl (rfl)))
theorem q0_crop (hN : NB N) (hk : kc_X6_crop N T 0 now price money p0 p1 p2 = 0) : q_X8_crop N U now th pr mo F Lx p0 p1 p2 = (U 0 (ix p0) 4) := by
  unfold kc_X6_crop at hk
  unfold q_X8_crop
  exact lqp (inR (by have := hN.1; omega)) (by decide) hk (fun hk => lqn io (by decide) hk (fun hk => lqn io (by decide) hk (fun hk => rfl)))
theorem u0_crop (hN : NB N) (hk : kc_X6_crop N T 0 now price money p0 p1 p2 = 0) : u_X8_crop N U now th pr mo F Lx p0 p1 p2 = (tu U 0 (ix p0) (rw11 (U 0 (ix p0) 0) (U 0 (ix p0) 1) (U 0 (ix p0) 2) (U 0 (ix p0) 3) p1 p2 (U 0 (ix p0) 6) (U 0 (ix p0) 7) (U 0 (ix p0) 8) (U 0 (ix p0) 9) (U 0 (ix p0) 10))) := by
  unfold kc_X6_crop at hk
  unfold u_X8_crop
  exact lqp (inR (by have := hN.1; omega)) (by decide) hk (fun hk => lqn io (by decide) hk (fun hk => lqn io (by decide) hk (fun hk => rfl)))
theorem u1_crop (hN : NB N) (hk : ¬ kc_X6_crop N T 0 now price money p0 p1 p2 = 0) : u_X8_crop N U now th pr mo F Lx p0 p1 p2 = U := by
  unfold kc_X6_crop at hk
  unfold u_X8_crop
  exact lkp (inR (by have := hN.1; omega)) hk (fun hk => lkn io hk (fun hk => lkn io hk (fun hk => absurd rfl hk)))
theorem cd_combine (hN : NB N) : pcd 0 1 2 (kc_X6_combine N T 0 now price money p0 p1) = th_X8_combine N U now th pr mo F Lx p0 p1 := by
  unfold kc_X6_combine th_X8_combine
  exact lyn iom rfl (lyn io rfl (lyn (capI (n := N 1) (c := 4) hN.2.1 (by decide)) rfl (rfl)))
theorem q0_combine (hN : NB N) (hk : kc_X6_combine N T 0 now price money p0 p1 = 0) : q_X8_combine N U now th pr mo F Lx p0 p1 = (nI (N 1)) := by
  unfold kc_X6_combine at hk
  unfold q_X8_combine
  exact lqn iom (by decide) hk (fun hk => lqn io (by decide) hk (fun hk => lqn (capI (n := N 1) (c := 4) hN.2.1 (by decide)) (by decide) hk (fun hk => rfl)))
theorem u0_combine (hN : NB N) (hk : kc_X6_combine N T 0 now price money p0 p1 = 0) : u_X8_combine N U now th pr mo F Lx p0 p1 = (tu U 1 (N 1) (rw11 p1 p0 (0 : Int32) (-1 : Int32) (0 : Int32) (0 : Int32) (0 : Int32) (-1 : Int32) (0 : Int32) (0 : Int32) (0 : Int32))) := by
  unfold kc_X6_combine at hk
  unfold u_X8_combine
  exact lqn iom (by decide) hk (fun hk => lqn io (by decide) hk (fun hk => lqn (capI (n := N 1) (c := 4) hN.2.1 (by decide)) (by decide) hk (fun hk => rfl)))
theorem u1_combine (hN : NB N) (hk : ¬ kc_X6_combine N T 0 now price money p0 p1 = 0) : u_X8_combine N U now th pr mo F Lx p0 p1 = U := by
  unfold kc_X6_combine at hk
  unfold u_X8_combine
  exact lkn iom hk (fun hk => lkn io hk (fun hk => lkn (capI (n := N 1) (c := 4) hN.2.1 (by decide)) hk (fun hk => absurd rfl hk)))
theorem n0_combine (hN : NB N) (hk : kc_X6_combine N T 0 now price money p0 p1 = 0) : n_X8_combine N U now th pr mo F Lx p0 p1 = (nu N 1 (N 1 + 1)) := by
  unfold kc_X6_combine at hk
  unfold n_X8_combine
  exact lqn iom (by decide) hk (fun hk => lqn io (by decide) hk (fun hk => lqn (capI (n := N 1) (c := 4) hN.2.1 (by decide)) (by decide) hk (fun hk => rfl)))
theorem n1_combine (hN : NB N) (hk : ¬ kc_X6_combine N T 0 now price money p0 p1 = 0) : n_X8_combine N U now th pr mo F Lx p0 p1 = N := by
  unfold kc_X6_combine at hk
  unfold n_X8_combine
  exact lkn iom hk (fun hk => lkn io hk (fun hk => lkn (capI (n := N 1) (c := 4) hN.2.1 (by decide)) hk (fun hk => absurd rfl hk)))
theorem cd_truck (hN : NB N) : pcd 0 1 2 (kc_X6_truck N T 0 now price money p0) = th_X8_truck N U now th pr mo F Lx p0 := by
  unfold kc_X6_truck th_X8_truck
  exact lyn iom rfl (lyn (capI (n := N 2) (c := 4) hN.2.2.1 (by decide)) rfl (rfl))
theorem q0_truck (hN : NB N) (hk : kc_X6_truck N T 0 now price money p0 = 0) : q_X8_truck N U now th pr mo F Lx p0 = (nI (N 2)) := by
  unfold kc_X6_truck at hk
  unfold q_X8_truck
  exact lqn iom (by decide) hk (fun hk => lqn (capI (n := N 2) (c := 4) hN.2.2.1 (by decide)) (by decide) hk (fun hk => rfl))
theorem u0_truck (hN : NB N) (hk : kc_X6_truck N T 0 now price money p0 = 0) : u_X8_truck N U now th pr mo F Lx p0 = (tu U 2 (N 2) (rw10 (0 : Int32) p0 (0 : Int32) (-1 : Int32) (0 : Int32) (0 : Int32) (0 : Int32) (-1 : Int32) (0 : Int32) (0 : Int32))) := by
  unfold kc_X6_truck at hk
  unfold u_X8_truck
  exact lqn iom (by decide) hk (fun hk => lqn (capI (n := N 2) (c := 4) hN.2.2.1 (by decide)) (by decide) hk (fun hk => rfl))
theorem u1_truck (hN : NB N) (hk : ¬ kc_X6_truck N T 0 now price money p0 = 0) : u_X8_truck N U now th pr mo F Lx p0 = U := by
  unfold kc_X6_truck at hk
  unfold u_X8_truck
  exact lkn iom hk (fun hk => lkn (capI (n := N 2) (c := 4) hN.2.2.1 (by decide)) hk (fun hk => absurd rfl hk))
theorem n0_truck (hN : NB N) (hk : kc_X6_truck N T 0 now price money p0 = 0) : n_X8_truck N U now th pr mo F Lx p0 = (nu N 2 (N 2 + 1)) := by
  unfold kc_X6_truck at hk
  unfold n_X8_truck
  exact lqn iom (by decide) hk (fun hk => lqn (capI (n := N 2) (c := 4) hN.2.2.1 (by decide)) (by decide) hk (fun hk => rfl))
theorem n1_truck (hN : NB N) (hk : ¬ kc_X6_truck N T 0 now price money p0 = 0) : n_X8_truck N U now th pr mo F Lx p0 = N := by
  unfold kc_X6_truck at hk
  unfold n_X8_truck
  exact lkn iom hk (fun hk => lkn (capI (n := N 2) (c := 4) hN.2.2.1 (by decide)) hk (fun hk => absurd rfl hk))
theorem cd_elevator (hN : NB N) : pcd 0 1 2 (kc_X6_elevator N T 0 now price money p0 p1 p2 p3 p4 p5) = th_X8_elevator N U now th pr mo F Lx p0 p1 p2 p3 p4 p5 := by
  unfold kc_X6_elevator th_X8_elevator
  exact lyn iom rfl (lyn io rfl (lyn io rfl (lyn io rfl (lyp Iff.rfl rfl (lyn io rfl (lyn io rfl (lyn (capI (n := N 3) (c := 3) hN.2.2.2 (by decide)) rfl (rfl))))))))
theorem q0_elevator (hN : NB N) (hk : kc_X6_elevator N T 0 now price money p0 p1 p2 p3 p4 p5 = 0) : q_X8_elevator N U now th pr mo F Lx p0 p1 p2 p3 p4 p5 = (nI (N 3)) := by
  unfold kc_X6_elevator at hk
  unfold q_X8_elevator
  exact lqn iom (by decide) hk (fun hk => lqn io (by decide) hk (fun hk => lqn io (by decide) hk (fun hk => lqn io (by decide) hk (fun hk => lqp Iff.rfl (by decide) hk (fun hk => lqn io (by decide) hk (fun hk => lqn io (by decide) hk (fun hk => lqn (capI (n := N 3) (c := 3) hN.2.2.2 (by decide)) (by decide) hk (fun hk => rfl))))))))
theorem u0_elevator (hN : NB N) (hk : kc_X6_elevator N T 0 now price money p0 p1 p2 p3 p4 p5 = 0) : u_X8_elevator N U now th pr mo F Lx p0 p1 p2 p3 p4 p5 = (tu U 3 (N 3) (rw6 p2 p0 p3 p1 p4 p5)) := by
  unfold kc_X6_elevator at hk
  unfold u_X8_elevator
  exact lqn iom (by decide) hk (fun hk => lqn io (by decide) hk (fun hk => lqn io (by decide) hk (fun hk => lqn io (by decide) hk (fun hk => lqp Iff.rfl (by decide) hk (fun hk => lqn io (by decide) hk (fun hk => lqn io (by decide) hk (fun hk => lqn (capI (n := N 3) (c := 3) hN.2.2.2 (by decide)) (by decide) hk (fun hk => rfl))))))))
theorem u1_elevator (hN : NB N) (hk : ¬ kc_X6_elevator N T 0 now price money p0 p1 p2 p3 p4 p5 = 0) : u_X8_elevator N U now th pr mo F Lx p0 p1 p2 p3 p4 p5 = U := by
  unfold kc_X6_elevator at hk
  unfold u_X8_elevator
  exact lkn iom hk (fun hk => lkn io hk (fun hk => lkn io hk (fun hk => lkn io hk (fun hk => lkp Iff.rfl hk (fun hk => lkn io hk (fun hk => lkn io hk (fun hk => lkn (capI (n := N 3) (c := 3) hN.2.2.2 (by decide)) hk (fun hk => absurd rfl hk))))))))
theorem n0_elevator (hN : NB N) (hk : kc_X6_elevator N T 0 now price money p0 p1 p2 p3 p4 p5 = 0) : n_X8_elevator N U now th pr mo F Lx p0 p1 p2 p3 p4 p5 = (nu N 3 (N 3 + 1)) := by
  unfold kc_X6_elevator at hk
  unfold n_X8_elevator
  exact lqn iom (by decide) hk (fun hk => lqn io (by decide) hk (fun hk => lqn io (by decide) hk (fun hk => lqn io (by decide) hk (fun hk => lqp Iff.rfl (by decide) hk (fun hk => lqn io (by decide) hk (fun hk => lqn io (by decide) hk (fun hk => lqn (capI (n := N 3) (c := 3) hN.2.2.2 (by decide)) (by decide) hk (fun hk => rfl))))))))
theorem n1_elevator (hN : NB N) (hk : ¬ kc_X6_elevator N T 0 now price money p0 p1 p2 p3 p4 p5 = 0) : n_X8_elevator N U now th pr mo F Lx p0 p1 p2 p3 p4 p5 = N := by
  unfold kc_X6_elevator at hk
  unfold n_X8_elevator
  exact lkn iom hk (fun hk => lkn io hk (fun hk => lkn io hk (fun hk => lkn io hk (fun hk => lkp Iff.rfl hk (fun hk => lkn io hk (fun hk => lkn io hk (fun hk => lkn (capI (n := N 3) (c := 3) hN.2.2.2 (by decide)) hk (fun hk => absurd rfl hk))))))))
theorem cd_price (hN : NB N) : pcd 0 1 0 (kc_X6_price N T 0 now price money p0) = th_X8_price N U now th pr mo F Lx p0 := by
  unfold kc_X6_price th_X8_price
  exact lyn io rfl (rfl)
theorem q0_price (hN : NB N) (hk : kc_X6_price N T 0 now price money p0 = 0) : q_X8_price N U now th pr mo F Lx p0 = pr := by
  unfold kc_X6_price at hk
  unfold q_X8_price
  exact lqn io (by decide) hk (fun hk => rfl)
theorem pr0_price (hN : NB N) (hk : kc_X6_price N T 0 now price money p0 = 0) : pr_X8_price N U now th pr mo F Lx p0 = p0 := by
  unfold kc_X6_price at hk
  unfold pr_X8_price
  exact lqn io (by decide) hk (fun hk => rfl)
theorem pr1_price (hN : NB N) (hk : ¬ kc_X6_price N T 0 now price money p0 = 0) : pr_X8_price N U now th pr mo F Lx p0 = pr := by
  unfold kc_X6_price at hk
  unfold pr_X8_price
  exact lkn io hk (fun hk => absurd rfl hk)
theorem cd_fetch (hN : NB N) : pcd 1 0 0 (kc_X6_fetch N T 0 now price money p0 p1) = th_X8_fetch N U now th pr mo F Lx p0 p1 := by
  unfold kc_X6_fetch th_X8_fetch
  exact lyp (inR (by have := hN.2.2.1; omega)) rfl (lyp (inR (by have := hN.2.1; omega)) rfl (rfl))
theorem q0_fetch (hN : NB N) (hk : kc_X6_fetch N T 0 now price money p0 p1 = 0) : q_X8_fetch N U now th pr mo F Lx p0 p1 = (q_X8_send N U now (0 : Int32) pr mo F Lx p0 (1 : Int32) p1 (U 1 (ix p1) 1)) := by
  unfold kc_X6_fetch at hk
  unfold q_X8_fetch
  exact lqp (inR (by have := hN.2.2.1; omega)) (by decide) hk (fun hk => lqp (inR (by have := hN.2.1; omega)) (by decide) hk (fun hk => rfl))
theorem u0_fetch (hN : NB N) (hk : kc_X6_fetch N T 0 now price money p0 p1 = 0) : u_X8_fetch N U now th pr mo F Lx p0 p1 = (tu U 2 (ix p0) (rw10 (1 : Int32) (U 2 (ix p0) 1) (U 2 (ix p0) 2) (U 2 (ix p0) 3) (U 2 (ix p0) 4) (U 2 (ix p0) 5) (U 2 (ix p0) 6) p1 (U 2 (ix p0) 8) (U 2 (ix p0) 9))) := by
  unfold kc_X6_fetch at hk
  unfold u_X8_fetch
  exact lqp (inR (by have := hN.2.2.1; omega)) (by decide) hk (fun hk => lqp (inR (by have := hN.2.1; omega)) (by decide) hk (fun hk => rfl))
theorem u1_fetch (hN : NB N) (hk : ¬ kc_X6_fetch N T 0 now price money p0 p1 = 0) : u_X8_fetch N U now th pr mo F Lx p0 p1 = U := by
  unfold kc_X6_fetch at hk
  unfold u_X8_fetch
  exact lkp (inR (by have := hN.2.2.1; omega)) hk (fun hk => lkp (inR (by have := hN.2.1; omega)) hk (fun hk => absurd rfl hk))
theorem cd_haul (hN : NB N) : pcd 1 0 0 (kc_X6_haul N T 0 now price money p0 p1) = th_X8_haul N U now th pr mo F Lx p0 p1 := by
  unfold kc_X6_haul th_X8_haul
  exact lyp (inR (by have := hN.2.2.1; omega)) rfl (lyp (inR (by have := hN.2.2.2; omega)) rfl (rfl))
theorem q0_haul (hN : NB N) (hk : kc_X6_haul N T 0 now price money p0 p1 = 0) : q_X8_haul N U now th pr mo F Lx p0 p1 = (q_X8_send N U now (0 : Int32) pr mo F Lx p0 (2 : Int32) p1 (U 3 (ix p1) 1)) := by
  unfold kc_X6_haul at hk
  unfold q_X8_haul
  exact lqp (inR (by have := hN.2.2.1; omega)) (by decide) hk (fun hk => lqp (inR (by have := hN.2.2.2; omega)) (by decide) hk (fun hk => rfl))
theorem u0_haul (hN : NB N) (hk : kc_X6_haul N T 0 now price money p0 p1 = 0) : u_X8_haul N U now th pr mo F Lx p0 p1 = (tu U 2 (ix p0) (rw10 (2 : Int32) (U 2 (ix p0) 1) (U 2 (ix p0) 2) (U 2 (ix p0) 3) (U 2 (ix p0) 4) (U 2 (ix p0) 5) (U 2 (ix p0) 6) p1 (U 2 (ix p0) 8) (U 2 (ix p0) 9))) := by
  unfold kc_X6_haul at hk
  unfold u_X8_haul
  exact lqp (inR (by have := hN.2.2.1; omega)) (by decide) hk (fun hk => lqp (inR (by have := hN.2.2.2; omega)) (by decide) hk (fun hk => rfl))
theorem u1_haul (hN : NB N) (hk : ¬ kc_X6_haul N T 0 now price money p0 p1 = 0) : u_X8_haul N U now th pr mo F Lx p0 p1 = U := by
  unfold kc_X6_haul at hk
  unfold u_X8_haul
  exact lkp (inR (by have := hN.2.2.1; omega)) hk (fun hk => lkp (inR (by have := hN.2.2.2; omega)) hk (fun hk => absurd rfl hk))
theorem cd_stop (hN : NB N) : pcd 1 0 0 (kc_X6_stop N T 0 now price money p0) = th_X8_stop N U now th pr mo F Lx p0 := by
  unfold kc_X6_stop th_X8_stop
  exact lyp (inR (by have := hN.2.2.1; omega)) rfl (rfl)
theorem q0_stop (hN : NB N) (hk : kc_X6_stop N T 0 now price money p0 = 0) : q_X8_stop N U now th pr mo F Lx p0 = (U 2 (ix p0) 5) := by
  unfold kc_X6_stop at hk
  unfold q_X8_stop
  exact lqp (inR (by have := hN.2.2.1; omega)) (by decide) hk (fun hk => rfl)
theorem u0_stop (hN : NB N) (hk : kc_X6_stop N T 0 now price money p0 = 0) : u_X8_stop N U now th pr mo F Lx p0 = (tu U 2 (ix p0) (rw10 (0 : Int32) (U 2 (ix p0) 1) (U 2 (ix p0) 2) (U 2 (ix p0) 3) (U 2 (ix p0) 4) (U 2 (ix p0) 5) (U 2 (ix p0) 6) (U 2 (ix p0) 7) (U 2 (ix p0) 8) (U 2 (ix p0) 9))) := by
  unfold kc_X6_stop at hk
  unfold u_X8_stop
  exact lqp (inR (by have := hN.2.2.1; omega)) (by decide) hk (fun hk => rfl)
theorem u1_stop (hN : NB N) (hk : ¬ kc_X6_stop N T 0 now price money p0 = 0) : u_X8_stop N U now th pr mo F Lx p0 = U := by
  unfold kc_X6_stop at hk
  unfold u_X8_stop
  exact lkp (inR (by have := hN.2.2.1; omega)) hk (fun hk => absurd rfl hk)
theorem cd_train (hN : NB N) : pcd 1 2 0 (kc_X6_train N T 0 now price money p0 p1) = th_X8_train N U now th pr mo F Lx p0 p1 := by
  unfold kc_X6_train th_X8_train
  exact lyp (inR (by have := hN.2.2.2; omega)) rfl (lyn io rfl (rfl))
theorem q0_train (hN : NB N) (hk : kc_X6_train N T 0 now price money p0 p1 = 0) : q_X8_train N U now th pr mo F Lx p0 p1 = (mn (9999 : Int32) ((U 3 (ix p0) 3) + p1)) := by
  unfold kc_X6_train at hk
  unfold q_X8_train
  exact lqp (inR (by have := hN.2.2.2; omega)) (by decide) hk (fun hk => lqn io (by decide) hk (fun hk => rfl))
theorem u0_train (hN : NB N) (hk : kc_X6_train N T 0 now price money p0 p1 = 0) : u_X8_train N U now th pr mo F Lx p0 p1 = (tu U 3 (ix p0) (rw6 (U 3 (ix p0) 0) (U 3 (ix p0) 1) (U 3 (ix p0) 2) (mn (9999 : Int32) ((U 3 (ix p0) 3) + p1)) (U 3 (ix p0) 4) (U 3 (ix p0) 5))) := by
  unfold kc_X6_train at hk
  unfold u_X8_train
  exact lqp (inR (by have := hN.2.2.2; omega)) (by decide) hk (fun hk => lqn io (by decide) hk (fun hk => rfl))
theorem u1_train (hN : NB N) (hk : ¬ kc_X6_train N T 0 now price money p0 p1 = 0) : u_X8_train N U now th pr mo F Lx p0 p1 = U := by
  unfold kc_X6_train at hk
  unfold u_X8_train
  exact lkp (inR (by have := hN.2.2.2; omega)) hk (fun hk => lkn io hk (fun hk => absurd rfl hk))
theorem cd_ofField (hN : NB N) : pcd 1 2 0 (kc_X6_ofField N T 0 now price money p0 p1) = th_X8_ofField N U now th pr mo F Lx p0 p1 := by
  unfold kc_X6_ofField th_X8_ofField
  exact lyp (inR (by have := hN.1; omega)) rfl (lyn io rfl (rfl))
theorem q0_ofField (hN : NB N) (hk : kc_X6_ofField N T 0 now price money p0 p1 = 0) : q_X8_ofField N U now th pr mo F Lx p0 p1 = (q_X8_fieldNow N U now (0 : Int32) pr mo F Lx p0 p1) := by
  unfold kc_X6_ofField at hk
  unfold q_X8_ofField
  exact lqp (inR (by have := hN.1; omega)) (by decide) hk (fun hk => lqn io (by decide) hk (fun hk => rfl))
theorem cd_ofCombine (hN : NB N) : pcd 1 2 0 (kc_X6_ofCombine N T 0 now price money p0 p1) = th_X8_ofCombine N U now th pr mo F Lx p0 p1 := by
  unfold kc_X6_ofCombine th_X8_ofCombine
  exact lyp (inR (by have := hN.2.1; omega)) rfl (lyn io rfl (rfl))
theorem q0_ofCombine (hN : NB N) (hk : kc_X6_ofCombine N T 0 now price money p0 p1 = 0) : q_X8_ofCombine N U now th pr mo F Lx p0 p1 = (q_X8_combineNow N U now (0 : Int32) pr mo F Lx p0 p1) := by
  unfold kc_X6_ofCombine at hk
  unfold q_X8_ofCombine
  exact lqp (inR (by have := hN.2.1; omega)) (by decide) hk (fun hk => lqn io (by decide) hk (fun hk => rfl))
theorem cd_ofTruck (hN : NB N) : pcd 1 2 0 (kc_X6_ofTruck N T 0 now price money p0 p1) = th_X8_ofTruck N U now th pr mo F Lx p0 p1 := by
  unfold kc_X6_ofTruck th_X8_ofTruck
  exact lyp (inR (by have := hN.2.2.1; omega)) rfl (lyn io rfl (rfl))
theorem q0_ofTruck (hN : NB N) (hk : kc_X6_ofTruck N T 0 now price money p0 p1 = 0) : q_X8_ofTruck N U now th pr mo F Lx p0 p1 = (q_X8_truckNow N U now (0 : Int32) pr mo F Lx p0 p1) := by
  unfold kc_X6_ofTruck at hk
  unfold q_X8_ofTruck
  exact lqp (inR (by have := hN.2.2.1; omega)) (by decide) hk (fun hk => lqn io (by decide) hk (fun hk => rfl))
theorem cd_ofTicket (hN : NB N) (h4 : N 4 ≤ 600) : pcd 1 2 0 (kc_X6_ofTicket N T 0 now price money p0 p1) = th_X8_ofTicket N U now th pr mo F Lx p0 p1 := by
  unfold kc_X6_ofTicket th_X8_ofTicket
  exact lyp (inR h4) rfl (lyn io rfl (rfl))
theorem q0_ofTicket (hN : NB N) (h4 : N 4 ≤ 600) (hk : kc_X6_ofTicket N T 0 now price money p0 p1 = 0) : q_X8_ofTicket N U now th pr mo F Lx p0 p1 = (rw7 (U 4 (ix p0) 0) (U 4 (ix p0) 1) (U 4 (ix p0) 2) (U 4 (ix p0) 3) (U 4 (ix p0) 4) (U 4 (ix p0) 5) (U 4 (ix p0) 6) (ix p1)) := by
  unfold kc_X6_ofTicket at hk
  unfold q_X8_ofTicket
  exact lqp (inR h4) (by decide) hk (fun hk => lqn io (by decide) hk (fun hk => rfl))
theorem cd_many (hN : NB N) : pcd 0 1 0 (kc_X6_many N T 0 now price money p0) = th_X8_many N U now th pr mo F Lx p0 := by
  unfold kc_X6_many th_X8_many
  exact lyn io rfl (rfl)
theorem q0_many (hN : NB N) (hk : kc_X6_many N T 0 now price money p0 = 0) : q_X8_many N U now th pr mo F Lx p0 = (q_X8_manyNow N U now (0 : Int32) pr mo F Lx p0) := by
  unfold kc_X6_many at hk
  unfold q_X8_many
  exact lqn io (by decide) hk (fun hk => rfl)
theorem cd_owed (hN : NB N) : pcd 1 0 0 (kc_X6_owed N T 0 now price money p0 p1) = th_X8_owed N U now th pr mo F Lx p0 p1 := by
  unfold kc_X6_owed th_X8_owed
  exact lyn io rfl (rfl)
theorem q0_owed (hN : NB N) (hk : kc_X6_owed N T 0 now price money p0 p1 = 0) : q_X8_owed N U now th pr mo F Lx p0 p1 = if p1 = 0 then (F (ix p0)) else (Lx (ix p0)) := by
  unfold kc_X6_owed at hk
  unfold q_X8_owed
  exact lqn io (by decide) hk (fun hk => rfl)
theorem cd_readyIn (hN : NB N) : pcd 1 2 0 (kc_X6_readyIn N T 0 now price money p0 p1 p2) = th_X8_readyIn N U now th pr mo F Lx p0 p1 p2 := by
  unfold kc_X6_readyIn th_X8_readyIn
  exact lyp (inR (by have := hN.1; omega)) rfl (lyn iow rfl (rfl))
theorem q0_readyIn (hN : NB N) (hk : kc_X6_readyIn N T 0 now price money p0 p1 p2 = 0) : q_X8_readyIn N U now th pr mo F Lx p0 p1 p2 = (q_X8_readyNow N U now (0 : Int32) pr mo F Lx p0 p1 p2) := by
  unfold kc_X6_readyIn at hk
  unfold q_X8_readyIn
  exact lqp (inR (by have := hN.1; omega)) (by decide) hk (fun hk => lqn iow (by decide) hk (fun hk => rfl))
theorem cd_waiting (hN : NB N) : pcd 1 2 0 (kc_X6_waiting N T 0 now price money p0 p1 p2 p3 p4) = th_X8_waiting N U now th pr mo F Lx p0 p1 p2 p3 p4 := by
  unfold kc_X6_waiting th_X8_waiting
  exact lyp (inR (by have := hN.1; omega)) rfl (lyf fcI rfl (rfl))
theorem q0_waiting (hN : NB N) (hk : kc_X6_waiting N T 0 now price money p0 p1 p2 p3 p4 = 0) : q_X8_waiting N U now th pr mo F Lx p0 p1 p2 p3 p4 = (q_X8_waitingNow N U now (0 : Int32) pr mo F Lx p0 p1 p2 p3 p4) := by
  unfold kc_X6_waiting at hk
  unfold q_X8_waiting
  exact lqp (inR (by have := hN.1; omega)) (by decide) hk (fun hk => lqf fcI (by decide) hk (fun hk => rfl))
theorem cd_nextField (hN : NB N) : pcd 1 2 0 (kc_X6_nextField N T 0 now price money p0 p1 p2 p3) = th_X8_nextField N U now th pr mo F Lx p0 p1 p2 p3 := by
  unfold kc_X6_nextField th_X8_nextField
  exact lyp (inR (by have := hN.2.1; omega)) rfl (lyf fcI rfl (rfl))
theorem q0_nextField (hN : NB N) (hk : kc_X6_nextField N T 0 now price money p0 p1 p2 p3 = 0) : q_X8_nextField N U now th pr mo F Lx p0 p1 p2 p3 = (q_X8_nextNow N U now (0 : Int32) pr mo F Lx p0 p1 p2 p3) := by
  unfold kc_X6_nextField at hk
  unfold q_X8_nextField
  exact lqp (inR (by have := hN.2.1; omega)) (by decide) hk (fun hk => lqf fcI (by decide) hk (fun hk => rfl))
theorem cd_cut (hN : NB N) : pcd 1 0 0 (kc_X6_cut N T 0 now price money p0 p1) = th_X8_cut N U now th pr mo F Lx p0 p1 := by
  unfold kc_X6_cut th_X8_cut
  exact lyp (inR (by have := hN.2.1; omega)) rfl (lyp Iff.rfl rfl (lyp (inR (by have := hN.1; omega)) rfl rfl))
theorem cd_pass (hN : NB N) : pcd 0 1 2 (kc_X6_pass N T 0 now price money p0 p1 p2 p3) = th_X8_pass N U now th pr mo F Lx p0 p1 p2 p3 := by
  unfold kc_X6_pass th_X8_pass
  exact lyf fcI rfl (lyp Iff.rfl rfl rfl)
theorem q0_pass (hk : kc_X6_pass N T 0 now price money p0 p1 p2 p3 = 0) : q_X8_pass N U now th pr mo F Lx p0 p1 p2 p3 = (nI (pasR N now pr p1 p2 p3 (ix p0) (U, N 4, mo, F, Lx)).2.1 - nI (N 4)) := by
  unfold kc_X6_pass at hk
  unfold q_X8_pass
  refine lqf fcI (by decide) hk (fun hk => ?_)
  by_cases b : now + p0 ≤ 2400
  · exact if_pos b
  · rw [if_neg b] at hk
    exact absurd hk (by decide)
theorem u0_pass (hk : kc_X6_pass N T 0 now price money p0 p1 p2 p3 = 0) : u_X8_pass N U now th pr mo F Lx p0 p1 p2 p3 = (pasR N now pr p1 p2 p3 (ix p0) (U, N 4, mo, F, Lx)).1 := by
  unfold kc_X6_pass at hk
  unfold u_X8_pass
  refine lqf fcI (by decide) hk (fun hk => ?_)
  by_cases b : now + p0 ≤ 2400
  · exact if_pos b
  · rw [if_neg b] at hk
    exact absurd hk (by decide)
theorem u1_pass (hk : ¬ kc_X6_pass N T 0 now price money p0 p1 p2 p3 = 0) : u_X8_pass N U now th pr mo F Lx p0 p1 p2 p3 = U := by
  unfold kc_X6_pass at hk
  unfold u_X8_pass
  refine lkf fcI hk (fun hk => ?_)
  by_cases b : now + p0 ≤ 2400
  · rw [if_pos b] at hk
    exact absurd rfl hk
  · exact if_neg b
theorem n0_pass (hk : kc_X6_pass N T 0 now price money p0 p1 p2 p3 = 0) : n_X8_pass N U now th pr mo F Lx p0 p1 p2 p3 = (nu N 4 (pasR N now pr p1 p2 p3 (ix p0) (U, N 4, mo, F, Lx)).2.1) := by
  unfold kc_X6_pass at hk
  unfold n_X8_pass
  refine lqf fcI (by decide) hk (fun hk => ?_)
  by_cases b : now + p0 ≤ 2400
  · exact if_pos b
  · rw [if_neg b] at hk
    exact absurd hk (by decide)
theorem n1_pass (hk : ¬ kc_X6_pass N T 0 now price money p0 p1 p2 p3 = 0) : n_X8_pass N U now th pr mo F Lx p0 p1 p2 p3 = N := by
  unfold kc_X6_pass at hk
  unfold n_X8_pass
  refine lkf fcI hk (fun hk => ?_)
  by_cases b : now + p0 ≤ 2400
  · rw [if_pos b] at hk
    exact absurd rfl hk
  · exact if_neg b
theorem mo0_pass (hk : kc_X6_pass N T 0 now price money p0 p1 p2 p3 = 0) : mo_X8_pass N U now th pr mo F Lx p0 p1 p2 p3 = (pasR N now pr p1 p2 p3 (ix p0) (U, N 4, mo, F, Lx)).2.2.1 := by
  unfold kc_X6_pass at hk
  unfold mo_X8_pass
  refine lqf fcI (by decide) hk (fun hk => ?_)
  by_cases b : now + p0 ≤ 2400
  · exact if_pos b
  · rw [if_neg b] at hk
    exact absurd hk (by decide)
theorem mo1_pass (hk : ¬ kc_X6_pass N T 0 now price money p0 p1 p2 p3 = 0) : mo_X8_pass N U now th pr mo F Lx p0 p1 p2 p3 = mo := by
  unfold kc_X6_pass at hk
  unfold mo_X8_pass
  refine lkf fcI hk (fun hk => ?_)
  by_cases b : now + p0 ≤ 2400
  · rw [if_pos b] at hk
    exact absurd rfl hk
  · exact if_neg b
theorem f0_pass (hk : kc_X6_pass N T 0 now price money p0 p1 p2 p3 = 0) : f_X8_pass N U now th pr mo F Lx p0 p1 p2 p3 = (pasR N now pr p1 p2 p3 (ix p0) (U, N 4, mo, F, Lx)).2.2.2.1 := by
  unfold kc_X6_pass at hk
  unfold f_X8_pass
  refine lqf fcI (by decide) hk (fun hk => ?_)
  by_cases b : now + p0 ≤ 2400
  · exact if_pos b
  · rw [if_neg b] at hk
    exact absurd hk (by decide)
theorem f1_pass (hk : ¬ kc_X6_pass N T 0 now price money p0 p1 p2 p3 = 0) : f_X8_pass N U now th pr mo F Lx p0 p1 p2 p3 = F := by
  unfold kc_X6_pass at hk
  unfold f_X8_pass
  refine lkf fcI hk (fun hk => ?_)
  by_cases b : now + p0 ≤ 2400
  · rw [if_pos b] at hk
    exact absurd rfl hk
  · exact if_neg b
theorem lx0_pass (hk : kc_X6_pass N T 0 now price money p0 p1 p2 p3 = 0) : lx_X8_pass N U now th pr mo F Lx p0 p1 p2 p3 = (pasR N now pr p1 p2 p3 (ix p0) (U, N 4, mo, F, Lx)).2.2.2.2 := by
  unfold kc_X6_pass at hk
  unfold lx_X8_pass
  refine lqf fcI (by decide) hk (fun hk => ?_)
  by_cases b : now + p0 ≤ 2400
  · exact if_pos b
  · rw [if_neg b] at hk
    exact absurd hk (by decide)
theorem lx1_pass (hk : ¬ kc_X6_pass N T 0 now price money p0 p1 p2 p3 = 0) : lx_X8_pass N U now th pr mo F Lx p0 p1 p2 p3 = Lx := by
  unfold kc_X6_pass at hk
  unfold lx_X8_pass
  refine lkf fcI hk (fun hk => ?_)
  by_cases b : now + p0 ≤ 2400
  · rw [if_pos b] at hk
    exact absurd rfl hk
  · exact if_neg b
theorem now0_pass (hk : kc_X6_pass N T 0 now price money p0 p1 p2 p3 = 0) : now_X8_pass N U now th pr mo F Lx p0 p1 p2 p3 = (now + p0) := by
  unfold kc_X6_pass at hk
  unfold now_X8_pass
  refine lqf fcI (by decide) hk (fun hk => ?_)
  by_cases b : now + p0 ≤ 2400
  · exact if_pos b
  · rw [if_neg b] at hk
    exact absurd hk (by decide)
theorem now1_pass (hk : ¬ kc_X6_pass N T 0 now price money p0 p1 p2 p3 = 0) : now_X8_pass N U now th pr mo F Lx p0 p1 p2 p3 = now := by
  unfold kc_X6_pass at hk
  unfold now_X8_pass
  refine lkf fcI hk (fun hk => ?_)
  by_cases b : now + p0 ≤ 2400
  · rw [if_pos b] at hk
    exact absurd rfl hk
  · exact if_neg b
end CD

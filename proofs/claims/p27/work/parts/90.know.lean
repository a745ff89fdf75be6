/-! what holds at the law's start -/
theorem st_tx : ∀ q ∈ txL, Cond.stringRef RX6 q.1 q.2 ∈ lw_tbl := by decide +kernel
theorem st_ca : ∀ C ∈ kdL, Cond.castable C "java/lang/Object" ∈ lw_tbl := by decide +kernel
theorem st_dc : ∀ y ∈ dcL, Cond.declares y ∈ lw_tbl := by decide +kernel
theorem st_xx : ∀ X ∈ exL, Cond.castable X X ∈ lw_tbl := by decide +kernel
theorem st_K {s : State} {args : Array Value} (hts0 : ∀ w ∈ lw_tbl, w.before args s = true) : ∃ (D : va_G) (cA : Nat → ClassId), va_K D vwCl [(cA 0, .int), (cA 1, .array .int), (cA 2, .object "java/lang/Object")] s := by
  have hts : ∀ w ∈ AL, w.before args s = true := fun w h => hts0 w (List.mem_filter.mp h).1
  obtain ⟨c9, i9, k9⟩ := u_known (C := RJx4a65c) (T := TJx4a65c) (N := 3) (n := 3) hts iaJx4a65c (hts _ wb_Jx4a65c)
  obtain ⟨c0, i0, k0⟩ := u_known (C := RX0) (T := TX0) (N := 12) (n := 12) hts iaX0 (hts _ wb_X0)
  obtain ⟨c1, i1, k1⟩ := u_known (C := RX1) (T := TX1) (N := 6) (n := 6) hts iaX1 (hts _ wb_X1)
  obtain ⟨c2, i2, k2⟩ := u_known (C := RX2) (T := TX2) (N := 13) (n := 13) hts iaX2 (hts _ wb_X2)
  obtain ⟨c3, i3, k3⟩ := u_known (C := RX3) (T := TX3) (N := 9) (n := 9) hts iaX3 (hts _ wb_X3)
  obtain ⟨c4, i4, k4⟩ := u_known (C := RX4) (T := TX4) (N := 7) (n := 7) hts iaX4 (hts _ wb_X4)
  obtain ⟨c5, i5, k5⟩ := u_known (C := RX5) (T := TX5) (N := 10) (n := 10) hts iaX5 (hts _ wb_X5)
  obtain ⟨c6, i6, k6⟩ := u_known (C := RX6) (T := TX6) (N := 3) (n := 3) hts iaX6 (hts _ wb_X6)
  obtain ⟨c7, i7, k7⟩ := u_known (C := RX7) (T := TX7) (N := 12) (n := 12) hts iaX7 (hts _ wb_X7)
  obtain ⟨a0, x0, y0, f0, g0, h0⟩ := Cond.arrayClass_spec (hts _ wa_int)
  obtain ⟨y1, a1, x1, f1, g1, h1, m1⟩ := Cond.arrayOver_specA (hts0 (.arrayOver (.array .int)) (by decide +kernel))
  obtain ⟨y2, a2, x2, f2, e2, g2, h2, m2⟩ := Cond.arrayOver_spec (hts0 (.arrayOver (.object "java/lang/Object")) (by decide +kernel))
  refine ⟨(fun k => match k with | 0 => c9 | 1 => c0 | 2 => c1 | 3 => c2 | 4 => c3 | 5 => c4 | 6 => c5 | 7 => c6 | _ => c7, fun k => match k with | 0 => i9 | 1 => i0 | 2 => i1 | 3 => i2 | 4 => i3 | 5 => i4 | 6 => i5 | 7 => i6 | _ => i7), fun k => match k with | 0 => a0 | 1 => a1 | _ => a2, fun k q hq => ?_, fun k q hq => ?_⟩
  · match k, hq with
    | 0, hq => cases hq; exact k9
    | 1, hq => cases hq; exact k0
    | 2, hq => cases hq; exact k1
    | 3, hq => cases hq; exact k2
    | 4, hq => cases hq; exact k3
    | 5, hq => cases hq; exact k4
    | 6, hq => cases hq; exact k5
    | 7, hq => cases hq; exact k6
    | 8, hq => cases hq; exact k7
    | k + 9, hq => simp [vwCl] at hq
  · match k, hq with
    | 0, hq => cases hq; exact ⟨fun n z => ⟨fun k h => (by cases h), x0, g0, y0, h0⟩, f0⟩
    | 1, hq => cases hq; exact ⟨fun n z => ⟨fun k h => (by cases h), x1, g1, y1, h1⟩, m1⟩
    | 2, hq => cases hq; exact ⟨fun n z => ⟨fun k h => (by cases h), x2, g2, y2, h2⟩, x2, y2, g2, h2, f2, m2⟩
    | k + 3, hq => simp at hq
theorem st_all {s : State} {args : Array Value} (hts0 : ∀ w ∈ lw_tbl, w.before args s = true) (hgv : (Jvm.Cond.and given_1 narrow_1).before args s = true) : ∃ G : GG, G.2.2 0 = s.heap.size ∧ Kw G s ∧ Kx G s s.heap := by
  have hs := flat_of_before _ hgv
  obtain ⟨D, cA, hK⟩ := st_K hts0
  have hA : ∀ a : Nat, a < s.heap.size → ¬ s.heap.size ≤ a := fun a h => Nat.not_le.mpr h
  have e1 : (Cond.arrayOf (.static RJx4a65c "DEFAULTCAPACITY_EMPTY_ELEMENTDATA" "[Ljava/lang/Object;") (.object "java/lang/Object")).before args s = true := hs _ (by decide +kernel)
  have e2 : (Cond.eq (.length (.static RJx4a65c "DEFAULTCAPACITY_EMPTY_ELEMENTDATA" "[Ljava/lang/Object;")) (.int 0)).before args s = true := hs _ (by decide +kernel)
  have e3 : (Cond.isRef (.mirror "[Ljava/lang/Object;")).before args s = true := hs _ (by decide +kernel)
  have e4 : (Cond.isRef (.static Bundle.tN "UNASSIGNED_STACK" Bundle.steD)).before args s = true := hs _ (by decide +kernel)
  have e5 : (Cond.isRef (.static Bundle.tN "SUPPRESSED_SENTINEL" Bundle.listD)).before args s = true := hs _ (by decide +kernel)
  obtain ⟨t, ht, hT⟩ := va_Tof (N := 0) (f := fun _ => .null) (A := fun q => s.heap.size ≤ q) (by decide) e1 (va_eqt e2) (fun j hj => absurd hj (Nat.not_lt_zero _)) hA
  obtain ⟨mi, hmi⟩ := va_Mi.of e3
  have l1 : (Cond.laysStatic RJx4a65c "DEFAULTCAPACITY_EMPTY_ELEMENTDATA" "[Ljava/lang/Object;").before args s = true := hts0 _ (by decide +kernel)
  have l2 : (Cond.laysStatic Bundle.tN "UNASSIGNED_STACK" Bundle.steD).before args s = true := hts0 _ (by decide +kernel)
  have l3 : (Cond.laysStatic Bundle.tN "SUPPRESSED_SENTINEL" Bundle.listD).before args s = true := hts0 _ (by decide +kernel)
  have n1 : (Cond.initialized RJx4a65c).before args s = true := hts0 _ (by decide +kernel)
  have n2 : (Cond.initialized Bundle.tN).before args s = true := hts0 _ (by decide +kernel)
  have hcl : ∃ c6, s.vm.findClass RX6 = some c6 := by
    obtain ⟨-, z⟩ := hK.1 7 _ rfl
    exact ⟨_, z.1⟩
  obtain ⟨c6, hc6⟩ := hcl
  refine ⟨(D, cA, fun j => match j with | 0 => s.heap.size | 1 => t | _ => mi), rfl, ⟨hK, ⟨?_, ?_, ?_, ?_⟩, trivial, ⟨?_, ?_, ?_⟩, ?_, ?_, hmi, ?_⟩, ?_, ?_, ?_, ?_, ?_⟩
  · exact va_Nw.of rfl (hts0 (.methodLinkNest RX0 52 yX6_towards RX6) (by decide +kernel))
  · exact va_Nw.of rfl (hts0 (.methodLinkNest RX5 42 yX6_towards RX6) (by decide +kernel))
  · exact va_Nw.of rfl (hts0 (.methodLinkNest RX7 50 yL_cell RL) (by decide +kernel))
  · exact va_Nw.of rfl (hts0 (.methodLinkNest RX7 56 yL_below RL) (by decide +kernel))
  · exact va_AO.of (hts0 (.arrayOver (.object "java/lang/Object")) (by decide +kernel))
  · exact fun C hC => va_Nw.of rfl (hts0 _ (st_ca C hC))
  · exact hts0 (.arrayOver (.array .int)) (by decide +kernel)
  · exact va_Zref l1 n1 ht hA
  · exact ⟨_, hT⟩
  · exact va_Dc.of (hts0 (.declares ⟨"java/lang/Object", "getClass", "()Ljava/lang/Class;"⟩) (by decide +kernel))
  · exact vx_Zqof l2 n2 e4 hA
  · exact vx_Zqof l3 n2 e5 hA
  · intro q hq
    have h1 := hts0 _ (st_tx q hq)
    obtain ⟨k, cf, i, a, -, -, -, -, -, h⟩ := Cond.stringRef_spec (args := args) (first := s) (o := none) (idx := []) hc6 h1
    exact ⟨a, vk_R.of h1 h⟩
  · exact fun y hy => va_Nw.of rfl (hts0 _ (st_dc y hy))
  · exact fun X hX => va_Nw.of rfl (hts0 _ (st_xx X hX))

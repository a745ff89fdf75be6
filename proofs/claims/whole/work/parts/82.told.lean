theorem tu_tu {T : Tb} {k i : Nat} {a b : Row} : tu (tu T k i a) k i b = tu T k i b := funext fun x => funext fun y => by
  unfold tu
  split <;> rfl
theorem ab_neg (a b : Int32) : ab (a - b) = ab (b - a) := by
  have e : a - b = 0 - (b - a) := by rw [Int32.zero_sub, Int32.neg_sub]
  rw [e]
  obtain ⟨x, ex⟩ : ∃ x, x = b - a := ⟨_, rfl⟩
  rw [← ex]
  show (if 0 ≤ 0 - x then 0 - x else 0 - (0 - x)) = (if 0 ≤ x then x else 0 - x)
  have h0 : (0 : Int32).toInt = 0 := by decide
  have hb := Int32.toInt_lt x
  have hb2 := Int32.le_toInt x
  have hs : (0 - x).toInt = (0 - x.toInt).bmod (2 ^ 32) := by rw [Int32.toInt_sub, h0]
  have nn : 0 - (0 - x) = x := by rw [Int32.zero_sub, Int32.zero_sub, Int32.neg_neg]
  by_cases h1 : 0 ≤ x
  · have q1 := Int32.le_iff_toInt_le.mp h1
    rw [if_pos h1]
    by_cases h2 : 0 ≤ 0 - x
    · have q2 := Int32.le_iff_toInt_le.mp h2
      rw [bm_id (by omega) (by omega)] at hs
      rw [if_pos h2]
      exact Int32.toInt_inj.mp (by omega)
    · rw [if_neg h2, nn]
  · have q1 := mt Int32.le_iff_toInt_le.mpr h1
    rw [if_neg h1]
    by_cases h2 : 0 ≤ 0 - x
    · rw [if_pos h2]
    · have q2 := mt Int32.le_iff_toInt_le.mpr h2
      rw [if_neg h2, nn]
      by_cases h3 : x.toInt = -2147483648
      · refine Int32.toInt_inj.mp ?_
        rw [hs, h3]
        decide
      · rw [bm_id (by omega) (by omega)] at hs
        omega
section TO
variable {N : Nat → Nat} {T U : Tb} {now price money th : Int32} {F Lx : Row} {c : Nat} {p0 p1 p2 p3 p4 p5 : Int32}
theorem nb0 {k c : Nat} (h : NB N) (hk : k < 4) (h0 : k = 0 → N k < 8) (h1 : k = 1 → N k < 4) (h2 : k = 2 → N k < 4) (h3 : k = 3 → N k < 3) : NB (nu N k (N k + 1)) := by
  obtain ⟨a, b, c, d⟩ := h
  refine ⟨?_, ?_, ?_, ?_⟩ <;> unfold nu <;> split <;> rename_i q
  · subst q; have := h0 rfl; omega
  · exact a
  · subst q; have := h1 rfl; omega
  · exact b
  · subst q; have := h2 rfl; omega
  · exact c
  · subst q; have := h3 rfl; omega
  · exact d
theorem nI_lw {a b : Nat} (ha : a < 600) (hb : b < 600) (h : nI a < nI b) : a < b := (nI_ltI (by omega) (by omega)).mp h
theorem i1 : (1 : Int32).toInt = 1 := by decide
theorem i3 : (3 : Int32).toInt = 3 := by decide
theorem i0 : (0 : Int32).toInt = 0 := by decide
theorem to_field (h : St N T U money F Lx c) (hk : kc_X6_field N T 0 now price money p0 p1 p2 p3 p4 = 0) : St (nu N 0 (N 0 + 1)) (tu T 0 (N 0) (R_X2_init_0 (fun _ => 0) p0 p1 p2 p3 p4)) (tu U 0 (N 0) (rw11 p0 p1 p2 (0 : Int32) (0 : Int32) (30 : Int32) (0 : Int32) (0 : Int32) (0 : Int32) p3 p4)) money F Lx (c + 1) := by
  unfold kc_X6_field at hk
  obtain ⟨o0, hk⟩ := bkn (by decide) hk
  obtain ⟨o1, hk⟩ := bkn (by decide) hk
  obtain ⟨o2, hk⟩ := bkn (by decide) hk
  obtain ⟨o3, hk⟩ := bkn (by decide) hk
  obtain ⟨o4, hk⟩ := bkn (by decide) hk
  obtain ⟨o5, -⟩ := bkn (by decide) hk
  have hN := h.2.1
  have hcap : N 0 < 8 := nI_lw (a := N 0) (b := 8) (by have := hN.1; omega) (by decide) o5
  have t0 := outT o0
  have t2 := outT o2
  have t3 := outT o3
  have e200 : (200 : Int32).toInt = 200 := by decide
  have e90 : (90 : Int32).toInt = 90 := by decide
  have e10 : (10 : Int32).toInt = 10 := by decide
  rw [i0, i3] at t0
  rw [i1, e200] at t2
  rw [e10, e90] at t3
  refine h.grow (k := 0) (by decide) (nb0 (c := 0) hN (by decide) (fun _ => hcap) (fun z => absurd z (by decide)) (fun z => absurd z (by decide)) (fun z => absurd z (by decide))) (fun _ => ⟨⟨rfl, rfl, rfl, rfl, rfl, rfl, rfl, rfl, rfl, rfl, fun _ => rfl⟩, ⟨t0, t2, ?_, t3, ?_⟩, rfl, rfl⟩) (fun z => absurd z (by decide)) (fun z => absurd z (by decide)) (fun z => absurd z (by decide))
  · show 0 ≤ (0 : Int32).toInt ∧ (0 : Int32).toInt ≤ p2.toInt
    rw [i0]
    omega
  · show 0 ≤ (0 : Int32).toInt ∧ (0 : Int32).toInt ≤ 100
    decide
theorem to_combine (h : St N T U money F Lx c) (hk : kc_X6_combine N T 0 now price money p0 p1 = 0) : St (nu N 1 (N 1 + 1)) (tu T 1 (N 1) (R_X0_init_0 (fun _ => 0) (nI (N 1)) p0 p1)) (tu U 1 (N 1) (rw11 p1 p0 (0 : Int32) (-1 : Int32) (0 : Int32) (0 : Int32) (0 : Int32) (-1 : Int32) (0 : Int32) (0 : Int32) (0 : Int32))) money F Lx (c + 1) := by
  unfold kc_X6_combine at hk
  obtain ⟨o0, hk⟩ := bkn (by decide) hk
  obtain ⟨o1, hk⟩ := bkn (by decide) hk
  obtain ⟨o5, -⟩ := bkn (by decide) hk
  have hN := h.2.1
  have hcap : N 1 < 4 := nI_lw (a := N 1) (b := 4) (by have := hN.2.1; omega) (by decide) o5
  have t1 := outT o1
  have e20 : (20 : Int32).toInt = 20 := by decide
  rw [i1, e20] at t1
  refine h.grow (k := 1) (by decide) (nb0 (c := 0) hN (by decide) (fun z => absurd z (by decide)) (fun _ => hcap) (fun z => absurd z (by decide)) (fun z => absurd z (by decide))) (fun z => absurd z (by decide)) (fun _ => ⟨⟨rfl, rfl, rfl, rfl, rfl, rfl, rfl, rfl, rfl, rfl, rfl, rfl⟩, ⟨t1, ?_, fun z => absurd (show 0 < (0 : Int32).toInt from z) (by decide), Or.inl rfl, Or.inl rfl⟩⟩) (fun z => absurd z (by decide)) (fun z => absurd z (by decide))
  show 0 ≤ (0 : Int32).toInt ∧ (0 : Int32).toInt ≤ 400
  decide
theorem to_truck (h : St N T U money F Lx c) (hk : kc_X6_truck N T 0 now price money p0 = 0) : St (nu N 2 (N 2 + 1)) (tu T 2 (N 2) (R_X5_init_0 (fun _ => 0) p0)) (tu U 2 (N 2) (rw10 (0 : Int32) p0 (0 : Int32) (-1 : Int32) (0 : Int32) (0 : Int32) (0 : Int32) (-1 : Int32) (0 : Int32) (0 : Int32))) money F Lx (c + 1) := by
  unfold kc_X6_truck at hk
  obtain ⟨o0, hk⟩ := bkn (by decide) hk
  obtain ⟨o5, -⟩ := bkn (by decide) hk
  have hN := h.2.1
  have hcap : N 2 < 4 := nI_lw (a := N 2) (b := 4) (by have := hN.2.2.1; omega) (by decide) o5
  refine h.grow (k := 2) (by decide) (nb0 (c := 0) hN (by decide) (fun z => absurd z (by decide)) (fun z => absurd z (by decide)) (fun _ => hcap) (fun z => absurd z (by decide))) (fun z => absurd z (by decide)) (fun z => absurd z (by decide)) (fun _ => ⟨⟨rfl, rfl, rfl, rfl, rfl, rfl, rfl, rfl, Or.inl ⟨rfl, rfl, rfl⟩⟩, ⟨?_, fun z => absurd (show 0 < (0 : Int32).toInt from z) (by decide), ?_, Or.inl rfl, Or.inl rfl⟩, rfl⟩) (fun z => absurd z (by decide))
  · show 0 ≤ (0 : Int32).toInt ∧ (0 : Int32).toInt ≤ 800
    decide
  · show 0 ≤ (0 : Int32).toInt ∧ (0 : Int32).toInt ≤ 7
    decide
theorem to_elevator (h : St N T U money F Lx c) (hk : kc_X6_elevator N T 0 now price money p0 p1 p2 p3 p4 p5 = 0) : St (nu N 3 (N 3 + 1)) (tu T 3 (N 3) (R_X1_init_0 (fun _ => 0) p0 p1 p2 p3 p4 p5)) (tu U 3 (N 3) (rw6 p2 p0 p3 p1 p4 p5)) money F Lx (c + 1) := by
  unfold kc_X6_elevator at hk
  obtain ⟨-, hk⟩ := bkn (by decide) hk
  obtain ⟨-, hk⟩ := bkn (by decide) hk
  obtain ⟨-, hk⟩ := bkn (by decide) hk
  obtain ⟨-, hk⟩ := bkn (by decide) hk
  obtain ⟨-, hk⟩ := bkp (by decide) hk
  obtain ⟨-, hk⟩ := bkn (by decide) hk
  obtain ⟨-, hk⟩ := bkn (by decide) hk
  obtain ⟨o5, -⟩ := bkn (by decide) hk
  have hN := h.2.1
  have hcap : N 3 < 3 := nI_lw (a := N 3) (b := 3) (by have := hN.2.2.2; omega) (by decide) o5
  exact h.grow (k := 3) (by decide) (nb0 (c := 0) hN (by decide) (fun z => absurd z (by decide)) (fun z => absurd z (by decide)) (fun z => absurd z (by decide)) (fun _ => hcap)) (fun z => absurd z (by decide)) (fun z => absurd z (by decide)) (fun z => absurd z (by decide)) (fun _ => ⟨rfl, rfl, rfl, rfl, rfl, rfl⟩)
theorem to_crop (h : St N T U money F Lx c) (hk : kc_X6_crop N T 0 now price money p0 p1 p2 = 0) : St N (tu (tu T 0 (ix p0) (upd (T 0 (ix p0)) 6 p1)) 0 (ix p0) (upd (upd (T 0 (ix p0)) 6 p1) 7 p2)) (tu U 0 (ix p0) (rw11 (U 0 (ix p0) 0) (U 0 (ix p0) 1) (U 0 (ix p0) 2) (U 0 (ix p0) 3) p1 p2 (U 0 (ix p0) 6) (U 0 (ix p0) 7) (U 0 (ix p0) 8) (U 0 (ix p0) 9) (U 0 (ix p0) 10))) money F Lx (c + 1) ∧ U 0 (ix p0) 4 = qv_X6_crop N T 0 now price money p0 p1 p2 := by
  unfold kc_X6_crop at hk
  obtain ⟨o0, hk⟩ := bkp (by decide) hk
  have hN := h.2.1
  obtain ⟨j, hj, e, ej⟩ := ixN (by have := hN.1; omega) o0
  have hs : Sm N 0 T U := h.1.1
  obtain ⟨⟨f0, f1, f2, f3, f4, f5, f6, f7, f9, f10, f8⟩, hi⟩ := hs.1 j hj
  rw [ej, tu_tu]
  refine ⟨h.row (by decide) (hs.set0 ⟨f0, f1, f2, f3, rfl, rfl, f6, f7, f9, f10, f8⟩ hi) (fun _ => ⟨rfl, rfl, rfl⟩) (Nat.le_succ_of_le (ph_o (by decide))), ?_⟩
  unfold qv_X6_crop
  rw [ej]
  exact f4
theorem to_cut (h : St N T U money F Lx c) (hk : kc_X6_cut N T 0 now price money p0 p1 = 0) : u_X8_cut N U now th price money F Lx p0 p1 = tu U 1 (ix p0) (rw11 (U 1 (ix p0) 0) (U 1 (ix p0) 1) (U 1 (ix p0) 2) (U 1 (ix p0) 3) (U 1 (ix p0) 4) (U 1 (ix p0) 5) (U 1 (ix p0) 6) p1 (U 1 (ix p0) 8) (U 1 (ix p0) 9) (U 1 (ix p0) 10)) ∧ St N (tu T 1 (ix p0) (upd (T 1 (ix p0)) 9 p1)) (u_X8_cut N U now th price money F Lx p0 p1) money F Lx (c + 1) ∧ q_X8_cut N U now th price money F Lx p0 p1 = qv_X6_cut N T 0 now price money p0 p1 := by
  have hk0 := hk
  unfold kc_X6_cut at hk
  obtain ⟨o0, hk⟩ := bkp (by decide) hk
  have hN := h.2.1
  have n0 : N 0 ≤ 600 := by have := hN.1; omega
  have n1 : N 1 ≤ 600 := by have := hN.2.1; omega
  have a0 : ¬ t_X8_in_0 p0 0 (nI (N 1) - 1) = 0 := fun z => o0 ((inR n1).mp z)
  obtain ⟨j, hj, e, ej⟩ := ixN n1 o0
  have hs : Sm N 0 T U := h.1.1
  have hcc := hs.2.1 j hj
  obtain ⟨⟨c0, q0, q1, q2, q3, q4, q5, q6, q7, q8, q9, q10⟩, ⟨ip, it, itf, ib, ig⟩⟩ := hcc
  have hg : p1 = -1 ∨ ∃ v, v < N 0 ∧ p1 = nI v := by
    by_cases b : p1 = -1
    · exact Or.inl b
    · rw [if_neg b] at hk
      obtain ⟨o1, -⟩ := bkp (by decide) hk
      obtain ⟨v, hv, ev, -⟩ := ixN n0 o1
      exact Or.inr ⟨v, hv, ev⟩
  have eu : u_X8_cut N U now th price money F Lx p0 p1 = tu U 1 (ix p0) (rw11 (U 1 (ix p0) 0) (U 1 (ix p0) 1) (U 1 (ix p0) 2) (U 1 (ix p0) 3) (U 1 (ix p0) 4) (U 1 (ix p0) 5) (U 1 (ix p0) 6) p1 (U 1 (ix p0) 8) (U 1 (ix p0) 9) (U 1 (ix p0) 10)) := by
    unfold u_X8_cut
    rw [if_neg a0]
    by_cases b : p1 = -1
    · rw [if_pos b]
    · rw [if_neg b]
      rw [if_neg b] at hk
      obtain ⟨o1, -⟩ := bkp (by decide) hk
      rw [if_neg (fun z => o1 ((inR n0).mp z))]
  have hsm : Sm N 0 (tu T 1 j (upd (T 1 j) 9 p1)) (tu U 1 j (rw11 (U 1 j 0) (U 1 j 1) (U 1 j 2) (U 1 j 3) (U 1 j 4) (U 1 j 5) (U 1 j 6) p1 (U 1 j 8) (U 1 j 9) (U 1 j 10))) := hs.set1 ⟨c0, q0, q1, q2, q3, q4, q5, q6, rfl, q8, q9, q10⟩ ⟨ip, it, itf, ib, hg⟩
  refine ⟨eu, ?_, ?_⟩
  · rw [eu, ej]
    exact h.row (by decide) hsm (fun z => absurd z (by decide)) (Nat.le_succ_of_le (ph_o (by decide)))
  · unfold q_X8_cut qv_X6_cut
    rw [if_neg a0]
    by_cases b : p1 = -1
    · rw [if_pos b, if_pos b]
    · rw [if_neg b, if_neg b]
      rw [if_neg b] at hk
      obtain ⟨o1, -⟩ := bkp (by decide) hk
      rw [if_neg (fun z => o1 ((inR n0).mp z)), ej]
      unfold q_X7_sentTo
      refine saC (fun v hv => ?_)
      show (if tu U 1 j _ 1 v 7 = p1 then (1 : Int32) else 0) = (if tu T 1 j _ 1 v 9 = p1 then 1 else 0)
      rw [(hsm.2.1 v hv).1.2.2.2.2.2.2.2.2.1]
theorem to_fetch (h : St N T U money F Lx c) (hk : kc_X6_fetch N T 0 now price money p0 p1 = 0) : St N (tu (tu T 2 (ix p0) (upd (T 2 (ix p0)) 7 p1)) 2 (ix p0) (upd (upd (T 2 (ix p0)) 7 p1) 8 (-1 : Int32))) (tu U 2 (ix p0) (rw10 (1 : Int32) (U 2 (ix p0) 1) (U 2 (ix p0) 2) (U 2 (ix p0) 3) (U 2 (ix p0) 4) (U 2 (ix p0) 5) (U 2 (ix p0) 6) p1 (U 2 (ix p0) 8) (U 2 (ix p0) 9))) money F Lx (c + 1) ∧ q_X8_send N U now (0 : Int32) price money F Lx p0 (1 : Int32) p1 (U 1 (ix p1) 1) = qv_X6_fetch N T 0 now price money p0 p1 := by
  unfold kc_X6_fetch at hk
  obtain ⟨o0, hk⟩ := bkp (by decide) hk
  obtain ⟨o1, -⟩ := bkp (by decide) hk
  have hN := h.2.1
  obtain ⟨j, hj, e, ej⟩ := ixN (by have := hN.2.2.1; omega) o0
  obtain ⟨v, hv, e1, ev⟩ := ixN (by have := hN.2.1; omega) o1
  have hs : Sm N 0 T U := h.1.1
  obtain ⟨⟨r1, r2, r3, r4, r5, r6, r8, r9, hk9⟩, ⟨b2, b3, b5, b7, b8⟩⟩ := hs.2.2.1 j hj
  have hn1 : p1 ≠ -1 := by rw [e1]; exact nI_m (by have := hN.2.1; omega)
  rw [ej, tu_tu]
  refine ⟨h.row (by decide) (hs.set2 ⟨r1, r2, r3, r4, r5, r6, r8, r9, Or.inr (Or.inl ⟨rfl, rfl, hn1, rfl⟩)⟩ ⟨b2, b3, b5, Or.inr ⟨v, hv, e1⟩, Or.inl rfl⟩) (fun z => absurd z (by decide)) (ph_up (i := j) _ (fun x _ hne z => by rw [tu_i hne] at z; exact z)), ?_⟩
  unfold q_X8_send qv_X6_fetch
  rw [ej, ev, r1, (hs.2.1 v hv).1.2.2.1, ab_neg]
  rfl
theorem to_haul (h : St N T U money F Lx c) (hk : kc_X6_haul N T 0 now price money p0 p1 = 0) : St N (tu (tu T 2 (ix p0) (upd (T 2 (ix p0)) 7 (-1 : Int32))) 2 (ix p0) (upd (upd (T 2 (ix p0)) 7 (-1 : Int32)) 8 p1)) (tu U 2 (ix p0) (rw10 (2 : Int32) (U 2 (ix p0) 1) (U 2 (ix p0) 2) (U 2 (ix p0) 3) (U 2 (ix p0) 4) (U 2 (ix p0) 5) (U 2 (ix p0) 6) p1 (U 2 (ix p0) 8) (U 2 (ix p0) 9))) money F Lx (c + 1) ∧ q_X8_send N U now (0 : Int32) price money F Lx p0 (2 : Int32) p1 (U 3 (ix p1) 1) = qv_X6_haul N T 0 now price money p0 p1 := by
  unfold kc_X6_haul at hk
  obtain ⟨o0, hk⟩ := bkp (by decide) hk
  obtain ⟨o1, -⟩ := bkp (by decide) hk
  have hN := h.2.1
  obtain ⟨j, hj, e, ej⟩ := ixN (by have := hN.2.2.1; omega) o0
  obtain ⟨v, hv, e1, ev⟩ := ixN (by have := hN.2.2.2; omega) o1
  have hs : Sm N 0 T U := h.1.1
  obtain ⟨⟨r1, r2, r3, r4, r5, r6, r8, r9, hk9⟩, ⟨b2, b3, b5, b7, b8⟩⟩ := hs.2.2.1 j hj
  have hn1 : p1 ≠ -1 := by rw [e1]; exact nI_m (by have := hN.2.2.2; omega)
  rw [ej, tu_tu]
  refine ⟨h.row (by decide) (hs.set2 ⟨r1, r2, r3, r4, r5, r6, r8, r9, Or.inr (Or.inr ⟨rfl, rfl, rfl, hn1⟩)⟩ ⟨b2, b3, b5, Or.inl rfl, Or.inr ⟨v, hv, e1⟩⟩) (fun z => absurd z (by decide)) (ph_up (i := j) _ (fun x _ hne z => by rw [tu_i hne] at z; exact z)), ?_⟩
  unfold q_X8_send qv_X6_haul
  rw [ej, ev, r1, (hs.2.2.2 v hv).2.1, ab_neg]
  rfl
theorem to_stop (h : St N T U money F Lx c) (hk : kc_X6_stop N T 0 now price money p0 = 0) : St N (tu (tu T 2 (ix p0) (upd (T 2 (ix p0)) 7 (-1 : Int32))) 2 (ix p0) (upd (upd (T 2 (ix p0)) 7 (-1 : Int32)) 8 (-1 : Int32))) (tu U 2 (ix p0) (rw10 (0 : Int32) (U 2 (ix p0) 1) (U 2 (ix p0) 2) (U 2 (ix p0) 3) (U 2 (ix p0) 4) (U 2 (ix p0) 5) (U 2 (ix p0) 6) (U 2 (ix p0) 7) (U 2 (ix p0) 8) (U 2 (ix p0) 9))) money F Lx (c + 1) ∧ U 2 (ix p0) 5 = qv_X6_stop N T 0 now price money p0 := by
  unfold kc_X6_stop at hk
  obtain ⟨o0, -⟩ := bkp (by decide) hk
  have hN := h.2.1
  obtain ⟨j, hj, e, ej⟩ := ixN (by have := hN.2.2.1; omega) o0
  have hs : Sm N 0 T U := h.1.1
  obtain ⟨⟨r1, r2, r3, r4, r5, r6, r8, r9, hk9⟩, ⟨b2, b3, b5, b7, b8⟩⟩ := hs.2.2.1 j hj
  rw [ej, tu_tu]
  refine ⟨h.row (by decide) (hs.set2 ⟨r1, r2, r3, r4, r5, r6, r8, r9, Or.inl ⟨rfl, rfl, rfl⟩⟩ ⟨b2, b3, b5, Or.inl rfl, Or.inl rfl⟩) (fun z => absurd z (by decide)) (ph_up (i := j) _ (fun x _ hne z => by rw [tu_i hne] at z; exact z)), ?_⟩
  unfold qv_X6_stop
  rw [ej, r5]
  rfl
theorem to_train (h : St N T U money F Lx c) (hk : kc_X6_train N T 0 now price money p0 p1 = 0) : St N (tu T 3 (ix p0) (upd (T 3 (ix p0)) 1 (mn ((T 3 (ix p0) 1) + p1) (9999 : Int32)))) (tu U 3 (ix p0) (rw6 (U 3 (ix p0) 0) (U 3 (ix p0) 1) (U 3 (ix p0) 2) (mn (9999 : Int32) ((U 3 (ix p0) 3) + p1)) (U 3 (ix p0) 4) (U 3 (ix p0) 5))) money F Lx (c + 1) ∧ mn (9999 : Int32) ((U 3 (ix p0) 3) + p1) = qv_X6_train N T 0 now price money p0 p1 := by
  unfold kc_X6_train at hk
  obtain ⟨o0, -⟩ := bkp (by decide) hk
  have hN := h.2.1
  obtain ⟨j, hj, e, ej⟩ := ixN (by have := hN.2.2.2; omega) o0
  have hs : Sm N 0 T U := h.1.1
  obtain ⟨e0, e1, e2, e3, e4, e5⟩ := hs.2.2.2 j hj
  rw [ej]
  have ev : mn (9999 : Int32) (U 3 j 3 + p1) = mn (T 3 j 1 + p1) 9999 := by rw [mn_comm, e3]
  refine ⟨h.row (by decide) (hs.set3 ⟨e0, e1, e2, ev, e4, e5⟩) (fun z => absurd z (by decide)) (Nat.le_succ_of_le (ph_o (by decide))), ?_⟩
  unfold qv_X6_train
  rw [ev, ej]
  rfl
theorem cd_mend (h : St N T U money F Lx c) : pcd 1 0 2 (kc_X6_mend N T 0 now price money p0) = th_X8_mend N U now th price money F Lx p0 := by
  have hN := h.2.1
  have n1 : N 1 ≤ 600 := by have := hN.2.1; omega
  unfold kc_X6_mend th_X8_mend
  by_cases a : ixR (N 1) p0 = none
  · rw [if_pos a, if_pos ((inR n1).mpr a)]
    rfl
  · rw [if_neg a, if_neg (fun z => a ((inR n1).mp z))]
    obtain ⟨j, hj, e, ej⟩ := ixN n1 a
    have e5 := ((show Sm N 0 T U from h.1.1).2.1 j hj).1.2.2.2.2.2.2.1
    rw [ej, e5, Int32.mul_comm 3]
    by_cases b : T 1 j 6 * 3 ≤ money
    · rw [if_pos b, if_pos b]
      rfl
    · rw [if_neg b, if_neg b]
      rfl
theorem to_mend (h : St N T U money F Lx c) (hk : kc_X6_mend N T 0 now price money p0 = 0) : St N (tu (tu T 1 (ix p0) (upd (T 1 (ix p0)) 6 (0 : Int32))) 1 (ix p0) (upd (upd (T 1 (ix p0)) 6 (0 : Int32)) 7 (0 : Int32))) (u_X8_mend N U now th price money F Lx p0) (money - ((T 1 (ix p0) 6) * (3 : Int32))) F Lx (c + 1) ∧ mo_X8_mend N U now th price money F Lx p0 = money - ((T 1 (ix p0) 6) * (3 : Int32)) ∧ q_X8_mend N U now th price money F Lx p0 = qv_X6_mend N T 0 now price money p0 := by
  have hN := h.2.1
  have n1 : N 1 ≤ 600 := by have := hN.2.1; omega
  unfold kc_X6_mend at hk
  obtain ⟨o0, hk⟩ := bkp (by decide) hk
  obtain ⟨o1, -⟩ := bkn (by decide) hk
  obtain ⟨j, hj, e, ej⟩ := ixN n1 o0
  have hs : Sm N 0 T U := h.1.1
  obtain ⟨⟨c0, q0, q1, q2, q3, q4, q5, q6, q7, q8, q9, q10⟩, ⟨ip, it, itf, ib, ig⟩⟩ := hs.2.1 j hj
  have a0 : ¬ t_X8_in_0 p0 0 (nI (N 1) - 1) = 0 := fun z => o0 ((inR n1).mp z)
  rw [ej] at o1
  have a1 : 3 * U 1 j 5 ≤ money := by rw [q5, Int32.mul_comm]; exact o1
  unfold u_X8_mend mo_X8_mend q_X8_mend qv_X6_mend
  rw [ej, if_neg a0, if_neg a0, if_neg a0, if_pos a1, if_pos a1, if_pos a1, tu_tu, q5, Int32.mul_comm 3]
  refine ⟨h.row (by decide) (hs.set1 ⟨c0, q0, q1, q2, q3, q4, rfl, rfl, q7, q8, q9, q10⟩ ⟨ip, it, itf, Or.inl rfl, ig⟩) (fun z => absurd z (by decide)) (Nat.le_succ_of_le (ph_o (by decide))), rfl, rfl⟩
theorem no_mend (h : St N T U money F Lx c) (hk : ¬ kc_X6_mend N T 0 now price money p0 = 0) : u_X8_mend N U now th price money F Lx p0 = U ∧ mo_X8_mend N U now th price money F Lx p0 = money := by
  have hN := h.2.1
  have n1 : N 1 ≤ 600 := by have := hN.2.1; omega
  unfold kc_X6_mend at hk
  unfold u_X8_mend mo_X8_mend
  by_cases a : ixR (N 1) p0 = none
  · rw [if_pos ((inR n1).mpr a), if_pos ((inR n1).mpr a)]
    exact ⟨rfl, rfl⟩
  · rw [if_neg a] at hk
    obtain ⟨j, hj, e, ej⟩ := ixN n1 a
    have e5 := ((show Sm N 0 T U from h.1.1).2.1 j hj).1.2.2.2.2.2.2.1
    rw [if_neg (fun z => a ((inR n1).mp z)), if_neg (fun z => a ((inR n1).mp z)), ej, e5, Int32.mul_comm 3]
    rw [ej] at hk
    by_cases b : T 1 j 6 * 3 ≤ money
    · rw [if_pos b] at hk
      exact absurd rfl hk
    · rw [if_neg b, if_neg b]
      exact ⟨rfl, rfl⟩
theorem no_cut (h : St N T U money F Lx c) (hk : ¬ kc_X6_cut N T 0 now price money p0 p1 = 0) : u_X8_cut N U now th price money F Lx p0 p1 = U := by
  have hN := h.2.1
  have n0 : N 0 ≤ 600 := by have := hN.1; omega
  have n1 : N 1 ≤ 600 := by have := hN.2.1; omega
  unfold kc_X6_cut at hk
  unfold u_X8_cut
  by_cases a : ixR (N 1) p0 = none
  · exact if_pos ((inR n1).mpr a)
  · rw [if_neg a] at hk
    rw [if_neg (fun z => a ((inR n1).mp z))]
    by_cases b : p1 = -1
    · rw [if_pos b] at hk
      exact absurd rfl hk
    · rw [if_neg b] at hk
      rw [if_neg b]
      by_cases d : ixR (N 0) p1 = none
      · exact if_pos ((inR n0).mpr d)
      · rw [if_neg d] at hk
        exact absurd rfl hk
theorem to_pass (h : St N T U money F Lx c) {k : Nat} : St (nu N 4 (hrsP (N 0) (N 1) (N 2) (N 3) 0 now price p1 p2 p3 k (T, N 4, money)).2.1) (hrsP (N 0) (N 1) (N 2) (N 3) 0 now price p1 p2 p3 k (T, N 4, money)).1 (pasR N now price p1 p2 p3 k (U, N 4, money, F, Lx)).1 (hrsP (N 0) (N 1) (N 2) (N 3) 0 now price p1 p2 p3 k (T, N 4, money)).2.2 (pasR N now price p1 p2 p3 k (U, N 4, money, F, Lx)).2.2.2.1 (pasR N now price p1 p2 p3 k (U, N 4, money, F, Lx)).2.2.2.2 c ∧ (pasR N now price p1 p2 p3 k (U, N 4, money, F, Lx)).2.2.1 = (hrsP (N 0) (N 1) (N 2) (N 3) 0 now price p1 p2 p3 k (T, N 4, money)).2.2 ∧ (pasR N now price p1 p2 p3 k (U, N 4, money, F, Lx)).2.1 = (hrsP (N 0) (N 1) (N 2) (N 3) 0 now price p1 p2 p3 k (T, N 4, money)).2.1 := by
  obtain ⟨h1, hN, hc⟩ := h
  obtain ⟨⟨g1, g2, g3, g4, g5, g6⟩, z2⟩ := h1.hours hN (now := now) (price := price) (w := p1) (a := p2) (r := p3) k
  have e : ∀ n, nu N 4 n 0 = N 0 ∧ nu N 4 n 1 = N 1 ∧ nu N 4 n 2 = N 2 ∧ nu N 4 n 3 = N 3 ∧ nu N 4 n 4 = n := fun n => ⟨rfl, rfl, rfl, rfl, nu_s⟩
  refine ⟨⟨⟨g1, rfl, rfl, g4, g5, fun j hj k' hk' => g6 j (by show j < _; have := (e (hrsP (N 0) (N 1) (N 2) (N 3) 0 now price p1 p2 p3 k (T, N 4, money)).2.1).2.2.2.2; exact Nat.lt_of_lt_of_eq hj this) k' hk'⟩, hN, ?_⟩, g3, g2⟩
  show nu N 4 _ 4 + _ ≤ c
  rw [nu_s, ← g2]
  exact Nat.le_trans z2 hc
end TO

/-! which codes there are -/
theorem outK {p : Int32} {c : Nat} (hc : c < 100) (h : t_X6_isOutside_0 p 0 (nI c) = 0) : ∃ k, k < c + 1 ∧ p = nI k := by
  have h1 := out_nn (show (0 : Int32) ≤ 0 by decide) h
  have h2 := out_hi h
  obtain ⟨e1, e2⟩ := ix_nI h1
  refine ⟨ix p, ?_, e1⟩
  rw [e1] at h2
  have := (nI_leI (by omega) (by omega)).mp h2
  omega
section AN
variable {N : Nat → Nat} {T U : Tb} {now price money th : Int32} {F Lx : Row} {c : Nat} {p0 p1 p2 p3 p4 p5 : Int32}
theorem ks_field : kc_X6_field N T 0 now price money p0 p1 p2 p3 p4 = 0 ∨ kc_X6_field N T 0 now price money p0 p1 p2 p3 p4 = 1 ∨ kc_X6_field N T 0 now price money p0 p1 p2 p3 p4 = 2 ∨ kc_X6_field N T 0 now price money p0 p1 p2 p3 p4 = 3 := by
  unfold kc_X6_field
  (repeat' split) <;> simp
theorem kz_field (h : (pcd 1 2 3) (kc_X6_field N T 0 now price money p0 p1 p2 p3 p4) = 0) : kc_X6_field N T 0 now price money p0 p1 p2 p3 p4 = 0 := by
  rcases (ks_field (N := N) (T := T) (now := now) (price := price) (money := money) (p0 := p0) (p1 := p1) (p2 := p2) (p3 := p3) (p4 := p4)) with e | e | e | e
  · exact e
  · rw [e] at h
    exact absurd h (by decide)
  · rw [e] at h
    exact absurd h (by decide)
  · rw [e] at h
    exact absurd h (by decide)
theorem ks_crop : kc_X6_crop N T 0 now price money p0 p1 p2 = 0 ∨ kc_X6_crop N T 0 now price money p0 p1 p2 = 1 ∨ kc_X6_crop N T 0 now price money p0 p1 p2 = 2 := by
  unfold kc_X6_crop
  (repeat' split) <;> simp
theorem kz_crop (h : (pcd 1 2 0) (kc_X6_crop N T 0 now price money p0 p1 p2) = 0) : kc_X6_crop N T 0 now price money p0 p1 p2 = 0 := by
  rcases (ks_crop (N := N) (T := T) (now := now) (price := price) (money := money) (p0 := p0) (p1 := p1) (p2 := p2)) with e | e | e
  · exact e
  · rw [e] at h
    exact absurd h (by decide)
  · rw [e] at h
    exact absurd h (by decide)
theorem ks_combine : kc_X6_combine N T 0 now price money p0 p1 = 0 ∨ kc_X6_combine N T 0 now price money p0 p1 = 2 ∨ kc_X6_combine N T 0 now price money p0 p1 = 3 := by
  unfold kc_X6_combine
  (repeat' split) <;> simp
theorem kz_combine (h : (pcd 0 1 2) (kc_X6_combine N T 0 now price money p0 p1) = 0) : kc_X6_combine N T 0 now price money p0 p1 = 0 := by
  rcases (ks_combine (N := N) (T := T) (now := now) (price := price) (money := money) (p0 := p0) (p1 := p1)) with e | e | e
  · exact e
  · rw [e] at h
    exact absurd h (by decide)
  · rw [e] at h
    exact absurd h (by decide)
theorem ks_truck : kc_X6_truck N T 0 now price money p0 = 0 ∨ kc_X6_truck N T 0 now price money p0 = 2 ∨ kc_X6_truck N T 0 now price money p0 = 3 := by
  unfold kc_X6_truck
  (repeat' split) <;> simp
theorem kz_truck (h : (pcd 0 1 2) (kc_X6_truck N T 0 now price money p0) = 0) : kc_X6_truck N T 0 now price money p0 = 0 := by
  rcases (ks_truck (N := N) (T := T) (now := now) (price := price) (money := money) (p0 := p0)) with e | e | e
  · exact e
  · rw [e] at h
    exact absurd h (by decide)
  · rw [e] at h
    exact absurd h (by decide)
theorem ks_elevator : kc_X6_elevator N T 0 now price money p0 p1 p2 p3 p4 p5 = 0 ∨ kc_X6_elevator N T 0 now price money p0 p1 p2 p3 p4 p5 = 2 ∨ kc_X6_elevator N T 0 now price money p0 p1 p2 p3 p4 p5 = 3 := by
  unfold kc_X6_elevator
  (repeat' split) <;> simp
theorem kz_elevator (h : (pcd 0 1 2) (kc_X6_elevator N T 0 now price money p0 p1 p2 p3 p4 p5) = 0) : kc_X6_elevator N T 0 now price money p0 p1 p2 p3 p4 p5 = 0 := by
  rcases (ks_elevator (N := N) (T := T) (now := now) (price := price) (money := money) (p0 := p0) (p1 := p1) (p2 := p2) (p3 := p3) (p4 := p4) (p5 := p5)) with e | e | e
  · exact e
  · rw [e] at h
    exact absurd h (by decide)
  · rw [e] at h
    exact absurd h (by decide)
theorem ks_price : kc_X6_price N T 0 now price money p0 = 0 ∨ kc_X6_price N T 0 now price money p0 = 2 := by
  unfold kc_X6_price
  (repeat' split) <;> simp
theorem kz_price (h : (pcd 0 1 0) (kc_X6_price N T 0 now price money p0) = 0) : kc_X6_price N T 0 now price money p0 = 0 := by
  rcases (ks_price (N := N) (T := T) (now := now) (price := price) (money := money) (p0 := p0)) with e | e
  · exact e
  · rw [e] at h
    exact absurd h (by decide)
theorem ks_cut : kc_X6_cut N T 0 now price money p0 p1 = 0 ∨ kc_X6_cut N T 0 now price money p0 p1 = 1 := by
  unfold kc_X6_cut
  (repeat' split) <;> simp
theorem kz_cut (h : (pcd 1 0 0) (kc_X6_cut N T 0 now price money p0 p1) = 0) : kc_X6_cut N T 0 now price money p0 p1 = 0 := by
  rcases (ks_cut (N := N) (T := T) (now := now) (price := price) (money := money) (p0 := p0) (p1 := p1)) with e | e
  · exact e
  · rw [e] at h
    exact absurd h (by decide)
theorem ks_fetch : kc_X6_fetch N T 0 now price money p0 p1 = 0 ∨ kc_X6_fetch N T 0 now price money p0 p1 = 1 := by
  unfold kc_X6_fetch
  (repeat' split) <;> simp
theorem kz_fetch (h : (pcd 1 0 0) (kc_X6_fetch N T 0 now price money p0 p1) = 0) : kc_X6_fetch N T 0 now price money p0 p1 = 0 := by
  rcases (ks_fetch (N := N) (T := T) (now := now) (price := price) (money := money) (p0 := p0) (p1 := p1)) with e | e
  · exact e
  · rw [e] at h
    exact absurd h (by decide)
theorem ks_haul : kc_X6_haul N T 0 now price money p0 p1 = 0 ∨ kc_X6_haul N T 0 now price money p0 p1 = 1 := by
  unfold kc_X6_haul
  (repeat' split) <;> simp
theorem kz_haul (h : (pcd 1 0 0) (kc_X6_haul N T 0 now price money p0 p1) = 0) : kc_X6_haul N T 0 now price money p0 p1 = 0 := by
  rcases (ks_haul (N := N) (T := T) (now := now) (price := price) (money := money) (p0 := p0) (p1 := p1)) with e | e
  · exact e
  · rw [e] at h
    exact absurd h (by decide)
theorem ks_stop : kc_X6_stop N T 0 now price money p0 = 0 ∨ kc_X6_stop N T 0 now price money p0 = 1 := by
  unfold kc_X6_stop
  (repeat' split) <;> simp
theorem kz_stop (h : (pcd 1 0 0) (kc_X6_stop N T 0 now price money p0) = 0) : kc_X6_stop N T 0 now price money p0 = 0 := by
  rcases (ks_stop (N := N) (T := T) (now := now) (price := price) (money := money) (p0 := p0)) with e | e
  · exact e
  · rw [e] at h
    exact absurd h (by decide)
theorem ks_mend : kc_X6_mend N T 0 now price money p0 = 0 ∨ kc_X6_mend N T 0 now price money p0 = 1 ∨ kc_X6_mend N T 0 now price money p0 = 3 := by
  unfold kc_X6_mend
  (repeat' split) <;> simp
theorem kz_mend (h : (pcd 1 0 2) (kc_X6_mend N T 0 now price money p0) = 0) : kc_X6_mend N T 0 now price money p0 = 0 := by
  rcases (ks_mend (N := N) (T := T) (now := now) (price := price) (money := money) (p0 := p0)) with e | e | e
  · exact e
  · rw [e] at h
    exact absurd h (by decide)
  · rw [e] at h
    exact absurd h (by decide)
theorem ks_train : kc_X6_train N T 0 now price money p0 p1 = 0 ∨ kc_X6_train N T 0 now price money p0 p1 = 1 ∨ kc_X6_train N T 0 now price money p0 p1 = 2 := by
  unfold kc_X6_train
  (repeat' split) <;> simp
theorem kz_train (h : (pcd 1 2 0) (kc_X6_train N T 0 now price money p0 p1) = 0) : kc_X6_train N T 0 now price money p0 p1 = 0 := by
  rcases (ks_train (N := N) (T := T) (now := now) (price := price) (money := money) (p0 := p0) (p1 := p1)) with e | e | e
  · exact e
  · rw [e] at h
    exact absurd h (by decide)
  · rw [e] at h
    exact absurd h (by decide)
theorem ks_pass : kc_X6_pass N T 0 now price money p0 p1 p2 p3 = 0 ∨ kc_X6_pass N T 0 now price money p0 p1 p2 p3 = 2 ∨ kc_X6_pass N T 0 now price money p0 p1 p2 p3 = 3 := by
  unfold kc_X6_pass
  (repeat' split) <;> simp
theorem kz_pass (h : (pcd 0 1 2) (kc_X6_pass N T 0 now price money p0 p1 p2 p3) = 0) : kc_X6_pass N T 0 now price money p0 p1 p2 p3 = 0 := by
  rcases (ks_pass (N := N) (T := T) (now := now) (price := price) (money := money) (p0 := p0) (p1 := p1) (p2 := p2) (p3 := p3)) with e | e | e
  · exact e
  · rw [e] at h
    exact absurd h (by decide)
  · rw [e] at h
    exact absurd h (by decide)
theorem ks_ofField : kc_X6_ofField N T 0 now price money p0 p1 = 0 ∨ kc_X6_ofField N T 0 now price money p0 p1 = 1 ∨ kc_X6_ofField N T 0 now price money p0 p1 = 2 := by
  unfold kc_X6_ofField
  (repeat' split) <;> simp
theorem kz_ofField (h : (pcd 1 2 0) (kc_X6_ofField N T 0 now price money p0 p1) = 0) : kc_X6_ofField N T 0 now price money p0 p1 = 0 := by
  rcases (ks_ofField (N := N) (T := T) (now := now) (price := price) (money := money) (p0 := p0) (p1 := p1)) with e | e | e
  · exact e
  · rw [e] at h
    exact absurd h (by decide)
  · rw [e] at h
    exact absurd h (by decide)
theorem ks_ofCombine : kc_X6_ofCombine N T 0 now price money p0 p1 = 0 ∨ kc_X6_ofCombine N T 0 now price money p0 p1 = 1 ∨ kc_X6_ofCombine N T 0 now price money p0 p1 = 2 := by
  unfold kc_X6_ofCombine
  (repeat' split) <;> simp
theorem kz_ofCombine (h : (pcd 1 2 0) (kc_X6_ofCombine N T 0 now price money p0 p1) = 0) : kc_X6_ofCombine N T 0 now price money p0 p1 = 0 := by
  rcases (ks_ofCombine (N := N) (T := T) (now := now) (price := price) (money := money) (p0 := p0) (p1 := p1)) with e | e | e
  · exact e
  · rw [e] at h
    exact absurd h (by decide)
  · rw [e] at h
    exact absurd h (by decide)
theorem ks_ofTruck : kc_X6_ofTruck N T 0 now price money p0 p1 = 0 ∨ kc_X6_ofTruck N T 0 now price money p0 p1 = 1 ∨ kc_X6_ofTruck N T 0 now price money p0 p1 = 2 := by
  unfold kc_X6_ofTruck
  (repeat' split) <;> simp
theorem kz_ofTruck (h : (pcd 1 2 0) (kc_X6_ofTruck N T 0 now price money p0 p1) = 0) : kc_X6_ofTruck N T 0 now price money p0 p1 = 0 := by
  rcases (ks_ofTruck (N := N) (T := T) (now := now) (price := price) (money := money) (p0 := p0) (p1 := p1)) with e | e | e
  · exact e
  · rw [e] at h
    exact absurd h (by decide)
  · rw [e] at h
    exact absurd h (by decide)
theorem ks_ofTicket : kc_X6_ofTicket N T 0 now price money p0 p1 = 0 ∨ kc_X6_ofTicket N T 0 now price money p0 p1 = 1 ∨ kc_X6_ofTicket N T 0 now price money p0 p1 = 2 := by
  unfold kc_X6_ofTicket
  (repeat' split) <;> simp
theorem kz_ofTicket (h : (pcd 1 2 0) (kc_X6_ofTicket N T 0 now price money p0 p1) = 0) : kc_X6_ofTicket N T 0 now price money p0 p1 = 0 := by
  rcases (ks_ofTicket (N := N) (T := T) (now := now) (price := price) (money := money) (p0 := p0) (p1 := p1)) with e | e | e
  · exact e
  · rw [e] at h
    exact absurd h (by decide)
  · rw [e] at h
    exact absurd h (by decide)
theorem ks_owed : kc_X6_owed N T 0 now price money p0 p1 = 0 ∨ kc_X6_owed N T 0 now price money p0 p1 = 1 := by
  unfold kc_X6_owed
  (repeat' split) <;> simp
theorem kz_owed (h : (pcd 1 0 0) (kc_X6_owed N T 0 now price money p0 p1) = 0) : kc_X6_owed N T 0 now price money p0 p1 = 0 := by
  rcases (ks_owed (N := N) (T := T) (now := now) (price := price) (money := money) (p0 := p0) (p1 := p1)) with e | e
  · exact e
  · rw [e] at h
    exact absurd h (by decide)
theorem ks_many : kc_X6_many N T 0 now price money p0 = 0 ∨ kc_X6_many N T 0 now price money p0 = 2 := by
  unfold kc_X6_many
  (repeat' split) <;> simp
theorem kz_many (h : (pcd 0 1 0) (kc_X6_many N T 0 now price money p0) = 0) : kc_X6_many N T 0 now price money p0 = 0 := by
  rcases (ks_many (N := N) (T := T) (now := now) (price := price) (money := money) (p0 := p0)) with e | e
  · exact e
  · rw [e] at h
    exact absurd h (by decide)
theorem ks_readyIn : kc_X6_readyIn N T 0 now price money p0 p1 p2 = 0 ∨ kc_X6_readyIn N T 0 now price money p0 p1 p2 = 1 ∨ kc_X6_readyIn N T 0 now price money p0 p1 p2 = 2 := by
  unfold kc_X6_readyIn
  (repeat' split) <;> simp
theorem kz_readyIn (h : (pcd 1 2 0) (kc_X6_readyIn N T 0 now price money p0 p1 p2) = 0) : kc_X6_readyIn N T 0 now price money p0 p1 p2 = 0 := by
  rcases (ks_readyIn (N := N) (T := T) (now := now) (price := price) (money := money) (p0 := p0) (p1 := p1) (p2 := p2)) with e | e | e
  · exact e
  · rw [e] at h
    exact absurd h (by decide)
  · rw [e] at h
    exact absurd h (by decide)
theorem ks_nextField : kc_X6_nextField N T 0 now price money p0 p1 p2 p3 = 0 ∨ kc_X6_nextField N T 0 now price money p0 p1 p2 p3 = 1 ∨ kc_X6_nextField N T 0 now price money p0 p1 p2 p3 = 2 := by
  unfold kc_X6_nextField
  (repeat' split) <;> simp
theorem kz_nextField (h : (pcd 1 2 0) (kc_X6_nextField N T 0 now price money p0 p1 p2 p3) = 0) : kc_X6_nextField N T 0 now price money p0 p1 p2 p3 = 0 := by
  rcases (ks_nextField (N := N) (T := T) (now := now) (price := price) (money := money) (p0 := p0) (p1 := p1) (p2 := p2) (p3 := p3)) with e | e | e
  · exact e
  · rw [e] at h
    exact absurd h (by decide)
  · rw [e] at h
    exact absurd h (by decide)
theorem ks_waiting : kc_X6_waiting N T 0 now price money p0 p1 p2 p3 p4 = 0 ∨ kc_X6_waiting N T 0 now price money p0 p1 p2 p3 p4 = 1 ∨ kc_X6_waiting N T 0 now price money p0 p1 p2 p3 p4 = 2 := by
  unfold kc_X6_waiting
  (repeat' split) <;> simp
theorem kz_waiting (h : (pcd 1 2 0) (kc_X6_waiting N T 0 now price money p0 p1 p2 p3 p4) = 0) : kc_X6_waiting N T 0 now price money p0 p1 p2 p3 p4 = 0 := by
  rcases (ks_waiting (N := N) (T := T) (now := now) (price := price) (money := money) (p0 := p0) (p1 := p1) (p2 := p2) (p3 := p3) (p4 := p4)) with e | e | e
  · exact e
  · rw [e] at h
    exact absurd h (by decide)
  · rw [e] at h
    exact absurd h (by decide)
theorem an_ofField (h : St N T U money F Lx c) (hk : kc_X6_ofField N T 0 now price money p0 p1 = 0) : qv_X6_ofField N T 0 now price money p0 p1 = q_X8_ofField N U now th price money F Lx p0 p1 := by
  have hN := h.2.1
  rw [q0_ofField hN hk]
  unfold kc_X6_ofField at hk
  obtain ⟨x0, hk⟩ := bkp (by decide) hk
  obtain ⟨x1, -⟩ := bkn (by decide) hk
  obtain ⟨i, hi, e, -⟩ := ixN (by have := hN.1; omega) x0
  obtain ⟨k, hk, e2⟩ := outK (c := 11) (by decide) x1
  rw [e, e2]
  exact as_field h hi hk
theorem an_ofCombine (h : St N T U money F Lx c) (hk : kc_X6_ofCombine N T 0 now price money p0 p1 = 0) : qv_X6_ofCombine N T 0 now price money p0 p1 = q_X8_ofCombine N U now th price money F Lx p0 p1 := by
  have hN := h.2.1
  rw [q0_ofCombine hN hk]
  unfold kc_X6_ofCombine at hk
  obtain ⟨x0, hk⟩ := bkp (by decide) hk
  obtain ⟨x1, -⟩ := bkn (by decide) hk
  obtain ⟨i, hi, e, -⟩ := ixN (by have := hN.2.1; omega) x0
  obtain ⟨k, hk, e2⟩ := outK (c := 7) (by decide) x1
  rw [e, e2]
  exact as_combine h hi hk
theorem an_ofTruck (h : St N T U money F Lx c) (hk : kc_X6_ofTruck N T 0 now price money p0 p1 = 0) : qv_X6_ofTruck N T 0 now price money p0 p1 = q_X8_ofTruck N U now th price money F Lx p0 p1 := by
  have hN := h.2.1
  rw [q0_ofTruck hN hk]
  unfold kc_X6_ofTruck at hk
  obtain ⟨x0, hk⟩ := bkp (by decide) hk
  obtain ⟨x1, -⟩ := bkn (by decide) hk
  obtain ⟨i, hi, e, -⟩ := ixN (by have := hN.2.2.1; omega) x0
  obtain ⟨k, hk, e2⟩ := outK (c := 7) (by decide) x1
  rw [e, e2]
  exact as_truck h hi hk
theorem an_ofTicket (h : St N T U money F Lx c) (h4 : N 4 ≤ 600) (hk : kc_X6_ofTicket N T 0 now price money p0 p1 = 0) : qv_X6_ofTicket N T 0 now price money p0 p1 = q_X8_ofTicket N U now th price money F Lx p0 p1 := by
  have hN := h.2.1
  rw [q0_ofTicket hN h4 hk]
  unfold kc_X6_ofTicket at hk
  obtain ⟨x0, hk⟩ := bkp (by decide) hk
  obtain ⟨x1, -⟩ := bkn (by decide) hk
  obtain ⟨i, hi, e, ei⟩ := ixN h4 x0
  obtain ⟨k, hk, e2⟩ := outK (c := 6) (by decide) x1
  rw [ei, e, e2]
  exact as_ticket h h4 hi hk
theorem an_many (h : St N T U money F Lx c) (hk : kc_X6_many N T 0 now price money p0 = 0) : qv_X6_many N T 0 now price money p0 = q_X8_many N U now th price money F Lx p0 := by
  have hN := h.2.1
  rw [q0_many hN hk]
  unfold kc_X6_many at hk
  obtain ⟨x1, -⟩ := bkn (by decide) hk
  obtain ⟨k, hk, e2⟩ := outK (c := 12) (by decide) x1
  rw [e2]
  exact as_many h hk
theorem an_owed (h : St N T U money F Lx c) (hk : kc_X6_owed N T 0 now price money p0 p1 = 0) : qv_X6_owed N T 0 now price money p0 p1 = q_X8_owed N U now th price money F Lx p0 p1 := by
  have hN := h.2.1
  rw [q0_owed hN hk]
  unfold kc_X6_owed at hk
  obtain ⟨x1, -⟩ := bkn (by decide) hk
  obtain ⟨k, hk, e2⟩ := outK (c := 3) (by decide) x1
  rw [e2]
  exact as_owed h hk p1
theorem an_readyIn (h : St N T U money F Lx c) (hk : kc_X6_readyIn N T 0 now price money p0 p1 p2 = 0) : rdQ now p1 p2 (T 0 (ix p0)) = q_X8_readyIn N U now th price money F Lx p0 p1 p2 := by
  have hN := h.2.1
  rw [q0_readyIn hN hk]
  unfold kc_X6_readyIn at hk
  obtain ⟨x0, hk⟩ := bkp (by decide) hk
  obtain ⟨i, hi, e, ei⟩ := ixN (by have := hN.1; omega) x0
  rw [ei, e]
  exact as_ready h hi
theorem an_waiting (h : St N T U money F Lx c) (hk : kc_X6_waiting N T 0 now price money p0 p1 p2 p3 p4 = 0) : (t_X2_uncut_0 ((T 0 (ix p0)) 2) ((T 0 (ix p0)) 5)) * ((t_X2_brings_0 ((T 0 (ix p0)) 3) ((T 0 (ix p0)) 8)) - (t_X2_brings_0 (fhP now p2 p3 p4 (ix p1) (T 0 (ix p0)) 3) (fhP now p2 p3 p4 (ix p1) (T 0 (ix p0)) 8))) = q_X8_waiting N U now th price money F Lx p0 p1 p2 p3 p4 := by
  have hN := h.2.1
  rw [q0_waiting hN hk]
  unfold kc_X6_waiting at hk
  obtain ⟨x0, hk⟩ := bkp (by decide) hk
  obtain ⟨i, hi, e, ei⟩ := ixN (by have := hN.1; omega) x0
  rw [ei, e]
  exact as_wait h hi
theorem an_nextField {tr2 : Int32} (h : St N T U money F Lx c) (hk : kc_X6_nextField N T 0 now price money p0 p1 p2 p3 = 0) : (nfP N T tr2 now price money p0 p1 p2 p3 (N 0)).1 = q_X8_nextField N U now th price money F Lx p0 p1 p2 p3 := by
  have hN := h.2.1
  rw [q0_nextField hN hk]
  unfold kc_X6_nextField at hk
  obtain ⟨x0, hk⟩ := bkp (by decide) hk
  obtain ⟨i, hi, e, ei⟩ := ixN (by have := hN.2.1; omega) x0
  rw [e]
  exact as_next h hi
theorem an_field (h : St N T U money F Lx c) (hk : kc_X6_field N T 0 now price money p0 p1 p2 p3 p4 = 0) : nI (N 0) = q_X8_field N U now th price money F Lx p0 p1 p2 p3 p4 := (q0_field h.2.1 hk).symm
theorem an_combine (h : St N T U money F Lx c) (hk : kc_X6_combine N T 0 now price money p0 p1 = 0) : nI (N 1) = q_X8_combine N U now th price money F Lx p0 p1 := (q0_combine h.2.1 hk).symm
theorem an_truck (h : St N T U money F Lx c) (hk : kc_X6_truck N T 0 now price money p0 = 0) : nI (N 2) = q_X8_truck N U now th price money F Lx p0 := (q0_truck h.2.1 hk).symm
theorem an_elevator (h : St N T U money F Lx c) (hk : kc_X6_elevator N T 0 now price money p0 p1 p2 p3 p4 p5 = 0) : nI (N 3) = q_X8_elevator N U now th price money F Lx p0 p1 p2 p3 p4 p5 := (q0_elevator h.2.1 hk).symm
theorem an_price (h : St N T U money F Lx c) (hk : kc_X6_price N T 0 now price money p0 = 0) : qv_X6_price N T 0 now price money p0 = q_X8_price N U now th price money F Lx p0 := (q0_price h.2.1 hk).symm
theorem an_crop (h : St N T U money F Lx c) (hk : kc_X6_crop N T 0 now price money p0 p1 p2 = 0) : qv_X6_crop N T 0 now price money p0 p1 p2 = q_X8_crop N U now th price money F Lx p0 p1 p2 := ((q0_crop h.2.1 hk).trans (to_crop h hk).2).symm
theorem an_cut (h : St N T U money F Lx c) (hk : kc_X6_cut N T 0 now price money p0 p1 = 0) : qv_X6_cut N T 0 now price money p0 p1 = q_X8_cut N U now th price money F Lx p0 p1 := (to_cut h hk).2.2.symm
theorem an_fetch (h : St N T U money F Lx c) (hk : kc_X6_fetch N T 0 now price money p0 p1 = 0) : qv_X6_fetch N T 0 now price money p0 p1 = q_X8_fetch N U now th price money F Lx p0 p1 := ((q0_fetch h.2.1 hk).trans (to_fetch h hk).2).symm
theorem an_haul (h : St N T U money F Lx c) (hk : kc_X6_haul N T 0 now price money p0 p1 = 0) : qv_X6_haul N T 0 now price money p0 p1 = q_X8_haul N U now th price money F Lx p0 p1 := ((q0_haul h.2.1 hk).trans (to_haul h hk).2).symm
theorem an_stop (h : St N T U money F Lx c) (hk : kc_X6_stop N T 0 now price money p0 = 0) : qv_X6_stop N T 0 now price money p0 = q_X8_stop N U now th price money F Lx p0 := ((q0_stop h.2.1 hk).trans (to_stop h hk).2).symm
theorem an_train (h : St N T U money F Lx c) (hk : kc_X6_train N T 0 now price money p0 p1 = 0) : qv_X6_train N T 0 now price money p0 p1 = q_X8_train N U now th price money F Lx p0 p1 := ((q0_train h.2.1 hk).trans (to_train h hk).2).symm
theorem an_mend (h : St N T U money F Lx c) (hk : kc_X6_mend N T 0 now price money p0 = 0) : qv_X6_mend N T 0 now price money p0 = q_X8_mend N U now th price money F Lx p0 := (to_mend h hk).2.2.symm
theorem an_pass (h : St N T U money F Lx c) (hk : kc_X6_pass N T 0 now price money p0 p1 p2 p3 = 0) : (nI (hrsP (N 0) (N 1) (N 2) (N 3) 0 now price p1 p2 p3 (ix p0) (T, N 4, money)).2.1 - nI (N 4)) = q_X8_pass N U now th price money F Lx p0 p1 p2 p3 := by
  rw [q0_pass hk, (to_pass (now := now) (price := price) (p1 := p1) (p2 := p2) (p3 := p3) h (k := ix p0)).2.2]
end AN

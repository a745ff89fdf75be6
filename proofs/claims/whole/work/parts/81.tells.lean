/-! what is told: both lands go on together -/
theorem bkn {B : Prop} [Decidable B] {x y : Nat} (hy : y ≠ 0) (hk : (if B then x else y) = 0) : B ∧ x = 0 := by
  by_cases b : B
  · rw [if_pos b] at hk
    exact ⟨b, hk⟩
  · rw [if_neg b] at hk
    exact absurd hk hy
theorem bkp {B : Prop} [Decidable B] {x y : Nat} (hx : x ≠ 0) (hk : (if B then x else y) = 0) : ¬ B ∧ y = 0 := by
  by_cases b : B
  · rw [if_pos b] at hk
    exact absurd hk hx
  · rw [if_neg b] at hk
    exact ⟨b, hk⟩
theorem outT {p a c : Int32} (h : t_X6_isOutside_0 p a c = 0) : a.toInt ≤ p.toInt ∧ p.toInt ≤ c.toInt := by
  have h2 := Int32.le_iff_toInt_le.mp (out_hi h)
  unfold t_X6_isOutside_0 at h
  by_cases z : p < a
  · rw [if_pos z] at h
    exact absurd h (by decide)
  · have := mt Int32.lt_iff_toInt_lt.mpr z
    omega
theorem ixN {n : Nat} {p : Int32} (hn : n ≤ 600) (h : ¬ ixR n p = none) : ∃ j, j < n ∧ p = nI j ∧ ix p = j := by
  rcases e : ixR n p with _ | j
  · exact absurd e h
  · obtain ⟨a, b⟩ := ixR_lt hn e
    exact ⟨j, a, b, by rw [b]; exact ix_n (by omega)⟩
theorem IC.mono {N N' : Nat → Nat} {f : Row} (h : IC N f) (h0 : N 0 ≤ N' 0) : IC N' f := by
  obtain ⟨a, b, c, d, e⟩ := h
  refine ⟨a, b, fun z => ?_, d, ?_⟩
  · obtain ⟨j, hj, q⟩ := c z
    exact ⟨j, by omega, q⟩
  · rcases e with e | ⟨j, hj, q⟩
    · exact Or.inl e
    · exact Or.inr ⟨j, by omega, q⟩
theorem IT.mono {N N' : Nat → Nat} {f : Row} (h : IT N f) (h0 : N 0 ≤ N' 0) (h1 : N 1 ≤ N' 1) (h3 : N 3 ≤ N' 3) : IT N' f := by
  obtain ⟨a, b, c, d, e⟩ := h
  refine ⟨a, fun z => ?_, c, ?_, ?_⟩
  · obtain ⟨j, hj, q⟩ := b z
    exact ⟨j, by omega, q⟩
  · rcases d with d | ⟨j, hj, q⟩
    · exact Or.inl d
    · exact Or.inr ⟨j, by omega, q⟩
  · rcases e with e | ⟨j, hj, q⟩
    · exact Or.inl e
    · exact Or.inr ⟨j, by omega, q⟩
/-- the two lands between two calls, the calls so far bounding the tickets -/
def St (N : Nat → Nat) (T U : Tb) (money : Int32) (F Lx : Row) (c : Nat) : Prop := RS N (T, N 4, money) (U, N 4, money, F, Lx) ∧ NB N ∧ N 4 + ph U (N 2) ≤ c
theorem St.le {N : Nat → Nat} {T U : Tb} {money : Int32} {F Lx : Row} {c c' : Nat} (h : St N T U money F Lx c) (hc : c ≤ c') : St N T U money F Lx c' := ⟨h.1, h.2.1, Nat.le_trans h.2.2 hc⟩
theorem St.n4 {N : Nat → Nat} {T U : Tb} {money : Int32} {F Lx : Row} {c : Nat} (h : St N T U money F Lx c) : N 4 ≤ c := by have := h.2.2; omega
section ST
variable {N : Nat → Nat} {T U : Tb} {money : Int32} {F Lx : Row} {c : Nat}
/-- a change of one row of kind 1, 2, 3 on both sides, or of a field's crop -/
theorem St.row (h : St N T U money F Lx c) {k i : Nat} {f u : Row} {money' : Int32} (hk : k < 4) (hs : Sm N 0 (tu T k i f) (tu U k i u)) (h0 : k = 0 → f 0 = T 0 i 0 ∧ f 11 = T 0 i 11 ∧ f 12 = T 0 i 12) (hp : ph (tu U k i u) (N 2) ≤ ph U (N 2) + 1) : St N (tu T k i f) (tu U k i u) money' F Lx (c + 1) := by
  obtain ⟨⟨h1, h2, h3, h4, h5, h6⟩, hN, hc⟩ := h
  have e : ∀ j, (tu T k i f) 0 j 0 = T 0 j 0 ∧ (tu T k i f) 0 j 11 = T 0 j 11 ∧ (tu T k i f) 0 j 12 = T 0 j 12 := fun j => by
    unfold tu
    split
    · rename_i q
      obtain ⟨q1, q2⟩ := q
      subst q2
      exact h0 q1.symm
    · exact ⟨rfl, rfl, rfl⟩
  refine ⟨⟨hs, rfl, rfl, fun g hg => ?_, fun g hg => ?_, fun j hj k' hk' => ?_⟩, hN, by omega⟩
  · refine (h4 g hg).trans (saC (fun j _ => ?_))
    show (if T 0 j 0 = nI g then T 0 j 11 else 0) = (if (tu T k i f) 0 j 0 = nI g then (tu T k i f) 0 j 11 else 0)
    rw [(e j).1, (e j).2.1]
  · refine (h5 g hg).trans (saC (fun j _ => ?_))
    show (if T 0 j 0 = nI g then T 0 j 12 else 0) = (if (tu T k i f) 0 j 0 = nI g then (tu T k i f) 0 j 12 else 0)
    rw [(e j).1, (e j).2.2]
  · show tu U k i u 4 j k' = tu T k i f 4 j k'
    rw [tu_k (by omega), tu_k (by omega)]
    exact h6 j hj k' hk'
/-- a new row of a kind -/
theorem St.grow (h : St N T U money F Lx c) {k : Nat} {f u : Row} (hk : k < 4) (hcap : NB (nu N k (N k + 1))) (e0 : k = 0 → RF 0 f u ∧ IF f ∧ f 11 = 0 ∧ f 12 = 0) (e1 : k = 1 → RC (N 1) f u ∧ IC N f) (e2 : k = 2 → RT f u ∧ IT N f ∧ u 0 = 0) (e3 : k = 3 → RE f u) : St (nu N k (N k + 1)) (tu T k (N k) f) (tu U k (N k) u) money F Lx (c + 1) := by
  obtain ⟨⟨⟨s0, s1, s2, s3⟩, h2, h3, h4, h5, h6⟩, hN, hc⟩ := h
  have hm : ∀ j, N j ≤ nu N k (N k + 1) j := fun j => by
    unfold nu
    split
    · rename_i q
      subst q
      omega
    · exact Nat.le_refl _
  have en4 : nu N k (N k + 1) 4 = N 4 := nu_n (by omega)
  have old : ∀ k' j, j < nu N k (N k + 1) k' → ¬ (k' = k ∧ j = N k) → j < N k' := fun k' j hj hne => by
    unfold nu at hj
    split at hj
    · rename_i q
      subst q
      have : ¬ j = N k' := fun z => hne ⟨rfl, z⟩
      omega
    · exact hj
  refine ⟨⟨⟨fun i hi => ?_, fun i hi => ?_, fun i hi => ?_, fun i hi => ?_⟩, rfl, rfl, fun g hg => ?_, fun g hg => ?_, fun j hj k' hk' => ?_⟩, hcap, ?_⟩
  · by_cases q : (0 = k ∧ i = N k)
    · obtain ⟨q1, q2⟩ := q
      subst q1 q2
      show RF 0 (tu T 0 (N 0) f 0 (N 0)) (tu U 0 (N 0) u 0 (N 0)) ∧ IF (tu T 0 (N 0) f 0 (N 0))
      rw [tu_s, tu_s]
      exact ⟨(e0 rfl).1, (e0 rfl).2.1⟩
    · show RF 0 (tu T k (N k) f 0 i) (tu U k (N k) u 0 i) ∧ IF (tu T k (N k) f 0 i)
      rw [show tu T k (N k) f 0 i = T 0 i from if_neg q, show tu U k (N k) u 0 i = U 0 i from if_neg q]
      exact s0 i (old 0 i hi q)
  · by_cases q : (1 = k ∧ i = N k)
    · obtain ⟨q1, q2⟩ := q
      subst q1 q2
      show RC (N 1) (tu T 1 (N 1) f 1 (N 1)) (tu U 1 (N 1) u 1 (N 1)) ∧ IC _ (tu T 1 (N 1) f 1 (N 1))
      rw [tu_s, tu_s]
      exact ⟨(e1 rfl).1, (e1 rfl).2.mono (hm 0)⟩
    · show RC i (tu T k (N k) f 1 i) (tu U k (N k) u 1 i) ∧ IC _ (tu T k (N k) f 1 i)
      rw [show tu T k (N k) f 1 i = T 1 i from if_neg q, show tu U k (N k) u 1 i = U 1 i from if_neg q]
      exact ⟨(s1 i (old 1 i hi q)).1, (s1 i (old 1 i hi q)).2.mono (hm 0)⟩
  · by_cases q : (2 = k ∧ i = N k)
    · obtain ⟨q1, q2⟩ := q
      subst q1 q2
      show RT (tu T 2 (N 2) f 2 (N 2)) (tu U 2 (N 2) u 2 (N 2)) ∧ IT _ (tu T 2 (N 2) f 2 (N 2))
      rw [tu_s, tu_s]
      exact ⟨(e2 rfl).1, (e2 rfl).2.1.mono (hm 0) (hm 1) (hm 3)⟩
    · show RT (tu T k (N k) f 2 i) (tu U k (N k) u 2 i) ∧ IT _ (tu T k (N k) f 2 i)
      rw [show tu T k (N k) f 2 i = T 2 i from if_neg q, show tu U k (N k) u 2 i = U 2 i from if_neg q]
      exact ⟨(s2 i (old 2 i hi q)).1, (s2 i (old 2 i hi q)).2.mono (hm 0) (hm 1) (hm 3)⟩
  · by_cases q : (3 = k ∧ i = N k)
    · obtain ⟨q1, q2⟩ := q
      subst q1 q2
      show RE (tu T 3 (N 3) f 3 (N 3)) (tu U 3 (N 3) u 3 (N 3))
      rw [tu_s, tu_s]
      exact e3 rfl
    · show RE (tu T k (N k) f 3 i) (tu U k (N k) u 3 i)
      rw [show tu T k (N k) f 3 i = T 3 i from if_neg q, show tu U k (N k) u 3 i = U 3 i from if_neg q]
      exact s3 i (old 3 i hi q)
  · refine (h4 g hg).trans ?_
    show fS N (T 0) g = fS (nu N k (N k + 1)) (tu T k (N k) f 0) g
    unfold fS
    by_cases q : k = 0
    · subst q
      rw [nu_s, sa_s, tu_s, (e0 rfl).2.2.1, if_s, Int32.add_zero]
      refine saC (fun j hj => ?_)
      show (if T 0 j 0 = nI g then T 0 j 11 else 0) = (if tu T 0 (N 0) f 0 j 0 = nI g then tu T 0 (N 0) f 0 j 11 else 0)
      rw [tu_i (by omega)]
    · rw [nu_n (Ne.symm q)]
      refine saC (fun j hj => ?_)
      show (if T 0 j 0 = nI g then T 0 j 11 else 0) = (if tu T k (N k) f 0 j 0 = nI g then tu T k (N k) f 0 j 11 else 0)
      rw [tu_k (Ne.symm q)]
  · refine (h5 g hg).trans ?_
    show lS N (T 0) g = lS (nu N k (N k + 1)) (tu T k (N k) f 0) g
    unfold lS
    by_cases q : k = 0
    · subst q
      rw [nu_s, sa_s, tu_s, (e0 rfl).2.2.2, if_s, Int32.add_zero]
      refine saC (fun j hj => ?_)
      show (if T 0 j 0 = nI g then T 0 j 12 else 0) = (if tu T 0 (N 0) f 0 j 0 = nI g then tu T 0 (N 0) f 0 j 12 else 0)
      rw [tu_i (by omega)]
    · rw [nu_n (Ne.symm q)]
      refine saC (fun j hj => ?_)
      show (if T 0 j 0 = nI g then T 0 j 12 else 0) = (if tu T k (N k) f 0 j 0 = nI g then tu T k (N k) f 0 j 12 else 0)
      rw [tu_k (Ne.symm q)]
  · show tu U k (N k) u 4 j k' = tu T k (N k) f 4 j k'
    rw [tu_k (by omega), tu_k (by omega)]
    exact h6 j (by rw [en4] at hj; exact hj) k' hk'
  · have old2 : ph (tu U k (N k) u) (N 2) ≤ ph U (N 2) := ph_le _ (fun j hj z => by
      by_cases q : (2 = k ∧ j = N k)
      · obtain ⟨q1, q2⟩ := q
        subst q1
        exact absurd hj (by omega)
      · rw [show tu U k (N k) u 2 j = U 2 j from if_neg q] at z
        exact z)
    have new2 : ph (tu U k (N k) u) (nu N k (N k + 1) 2) ≤ ph U (N 2) := by
      by_cases q : k = 2
      · subst q
        rw [nu_s]
        show ph (tu U 2 (N 2) u) (N 2) + _ ≤ _
        rw [tu_s, if_neg (by rw [(e2 rfl).2.2]; decide)]
        omega
      · rw [nu_n (Ne.symm q)]
        exact old2
    rw [en4]
    omega
end ST

/-! the state of a land: kinds 0 fields, 1 combines, 2 trucks, 3 elevators, 4 tickets; a row is a function of the field's place -/
abbrev Row : Type := Nat → Int32
abbrev Tb : Type := Nat → Nat → Row
def kc : Nat → Nat | 0 => 3 | 1 => 1 | 2 => 6 | 3 => 2 | _ => 5
/-- the class's objects by kind -/
def eC (k : Nat) (f : Row) : va_E := match k with
  | 0 => .inr (3, [.int (f 0), .int (f 1), .int (f 2), .int (f 3), .int (f 4), .int (f 5), .int (f 6), .int (f 7), .int (f 8), .int (f 9), .int (f 10), .int (f 11), .int (f 12)])
  | 1 => .inr (1, [.int (f 0), .int (f 1), .int (f 2), .int (f 3), .int (f 4), .int (f 5), .int (f 6), .int (f 7), .int (f 8), .int (f 9), .int (f 10), .int (f 11)])
  | 2 => .inr (6, [.int (f 0), .int (f 1), .int (f 2), .int (f 3), .int (f 4), .int (f 5), .int (f 6), .int (f 7), .int (f 8), .int (f 9)])
  | 3 => .inr (2, [.int (f 0), .int (f 1), .int (f 2), .int (f 3), .int (f 4), .int (f 5)])
  | _ => .inr (5, [.int (f 0), .int (f 1), .int (f 2), .int (f 3), .int (f 4), .int (f 5), .int (f 6)])
theorem eC_c (k : Nat) (f : Row) : ∃ fs, eC k f = .inr (kc k, fs) := by
  match k with
  | 0 => exact ⟨_, rfl⟩
  | 1 => exact ⟨_, rfl⟩
  | 2 => exact ⟨_, rfl⟩
  | 3 => exact ⟨_, rfl⟩
  | k + 4 => exact ⟨_, rfl⟩
theorem kc_inj : ∀ k k' : Nat, k < 5 → k' < 5 → kc k = kc k' → k = k' := by
  intro k k' h h'
  match k, k', h, h' with
  | 0, 0, _, _ => intro; rfl
  | 0, 1, _, _ => intro h; cases h
  | 0, 2, _, _ => intro h; cases h
  | 0, 3, _, _ => intro h; cases h
  | 0, 4, _, _ => intro h; cases h
  | 1, 0, _, _ => intro h; cases h
  | 1, 1, _, _ => intro; rfl
  | 1, 2, _, _ => intro h; cases h
  | 1, 3, _, _ => intro h; cases h
  | 1, 4, _, _ => intro h; cases h
  | 2, 0, _, _ => intro h; cases h
  | 2, 1, _, _ => intro h; cases h
  | 2, 2, _, _ => intro; rfl
  | 2, 3, _, _ => intro h; cases h
  | 2, 4, _, _ => intro h; cases h
  | 3, 0, _, _ => intro h; cases h
  | 3, 1, _, _ => intro h; cases h
  | 3, 2, _, _ => intro h; cases h
  | 3, 3, _, _ => intro; rfl
  | 3, 4, _, _ => intro h; cases h
  | 4, 0, _, _ => intro h; cases h
  | 4, 1, _, _ => intro h; cases h
  | 4, 2, _, _ => intro h; cases h
  | 4, 3, _, _ => intro h; cases h
  | 4, 4, _, _ => intro; rfl
theorem kc_ok : ∀ k : Nat, k < 5 → kc k ≠ 0 ∧ kc k ≠ 4 ∧ (kc k = 1 ∨ kc k = 2 ∨ kc k = 3 ∨ kc k = 5 ∨ kc k = 6) := by
  intro k h
  match k, h with
  | 0, _ => decide
  | 1, _ => decide
  | 2, _ => decide
  | 3, _ => decide
  | 4, _ => decide
theorem eC_okv (G : GG) {k : Nat} (hk : k < 5) (f : Row) : okv G (eC k f) := by
  obtain ⟨fs, h⟩ := eC_c k f
  exact Or.inl ⟨kc k, fs, h, (kc_ok k hk).2.2⟩
/-- tables, one row changed -/
def tu (T : Tb) (k i : Nat) (f : Row) : Tb := fun k' i' => if k' = k ∧ i' = i then f else T k' i'
theorem tu_s {T : Tb} {k i : Nat} {f : Row} : tu T k i f k i = f := if_pos ⟨rfl, rfl⟩
theorem tu_k {T : Tb} {k i k' i' : Nat} {f : Row} (h : k' ≠ k) : tu T k i f k' i' = T k' i' := if_neg fun z => h z.1
theorem tu_i {T : Tb} {k i k' i' : Nat} {f : Row} (h : i' ≠ i) : tu T k i f k' i' = T k' i' := if_neg fun z => h z.2
/-- where a land's things lie: lists, their counts of changes, arrays, places, what the arrays hold, rows -/
abbrev LY : Type := (Nat → Nat) × (Nat → Int32) × (Nat → Nat) × (Nat → Nat) × (Nat → Nat → Option Nat) × (Nat → Nat → Nat)
abbrev LY.la (Y : LY) := Y.1
abbrev LY.mc (Y : LY) := Y.2.1
abbrev LY.ar (Y : LY) := Y.2.2.1
abbrev LY.cap (Y : LY) := Y.2.2.2.1
abbrev LY.g (Y : LY) := Y.2.2.2.2.1
abbrev LY.ra (Y : LY) := Y.2.2.2.2.2
abbrev ldE (Y : LY) (tr now price money : Int32) : va_E := .inr (4, [.ref (Y.1 0), .ref (Y.1 1), .ref (Y.1 2), .ref (Y.1 3), .ref (Y.1 4), .int tr, .int now, .int price, .int money])
/-- the land at a, in the region t -/
def LdR (G : GG) (M : HM) (t a : Nat) (Y : LY) (N : Nat → Nat) (T : Tb) (tr now price money : Int32) : Prop :=
  M a = some (t, ldE Y tr now price money) ∧
  (∀ k, k < 5 → LsR G M t (Y.1 k) (N k) (Y.2.1 k) (Y.2.2.1 k) (Y.2.2.2.1 k) (Y.2.2.2.2.1 k)) ∧
  (∀ k i, k < 5 → i < N k → Y.2.2.2.2.1 k i = some (Y.2.2.2.2.2 k i) ∧ M (Y.2.2.2.2.2 k i) = some (t, eC k (T k i))) ∧
  (∀ k i j, k < 5 → i < N k → j < N k → Y.2.2.2.2.2 k i = Y.2.2.2.2.2 k j → i = j) ∧
  (∀ k k', k < 5 → k' < 5 → Y.1 k = Y.1 k' → k = k') ∧
  (∀ k k', k < 5 → k' < 5 → Y.2.2.2.1 k ≠ 0 → Y.2.2.2.1 k' ≠ 0 → Y.2.2.1 k = Y.2.2.1 k' → k = k') ∧
  (∀ k, N k ≤ 600) ∧ (∀ k, k < 5 → Y.2.2.2.1 k ≠ 0 → Y.2.2.1 k ≠ G.2.2 1)
/-- what isn't of the region t stays -/
def Fr (t : Nat) (M M' : HM) : Prop := ∀ q r e, r ≠ t → M q = some (r, e) → M' q = some (r, e)
theorem Fr.rf {t : Nat} {M : HM} : Fr t M M := fun _ _ _ _ h => h
theorem Fr.tr {t : Nat} {M M1 M2 : HM} (h1 : Fr t M M1) (h2 : Fr t M1 M2) : Fr t M M2 := fun q r e h h3 => h2 q r e h (h1 q r e h h3)
theorem Fr.up {t : Nat} {M : HM} {a : Nat} {e0 e : va_E} (h : M a = some (t, e0)) : Fr t M (hu M a t e) := fun q r e9 hr hq => hu_n (fun z => by subst z; rw [h] at hq; cases hq; exact hr rfl) hq
theorem Fr.new {t : Nat} {M : HM} {a : Nat} {r0 : Nat} {e : va_E} (h : M a = none) : Fr t M (hu M a r0 e) := fun q r e9 hr hq => hu_n (fun z => by subst z; rw [h] at hq; cases hq) hq
theorem LsR.same {G : GG} {M M' : HM} {t la n : Nat} {mc : Int32} {ar cap : Nat} {g : Nat → Option Nat} (h : LsR G M t la n mc ar cap g) (hs : ∀ q e, M q = some (t, e) → (q = la ∨ q = ar) → M' q = some (t, e)) : LsR G M' t la n mc ar cap g := by
  obtain ⟨h1, h2, h3, h4⟩ := h
  refine ⟨hs _ _ h1 (Or.inl rfl), h2, h3, ?_⟩
  rcases h4 with h4 | ⟨h4, h5⟩
  · exact Or.inl h4
  · exact Or.inr ⟨h4, hs _ _ h5 (Or.inr rfl)⟩
section LD
variable {G : GG} {M : HM} {t a : Nat} {Y : LY} {N : Nat → Nat} {T : Tb} {tr now price money : Int32}
theorem LdR.same {M' : HM} (h : LdR G M t a Y N T tr now price money) (hs : ∀ q e, M q = some (t, e) → M' q = some (t, e)) : LdR G M' t a Y N T tr now price money := by
  obtain ⟨h1, h2, h3, h4⟩ := h
  exact ⟨hs _ _ h1, fun k hk => (h2 k hk).same (fun q e z _ => hs q e z), fun k i hk hi => ⟨(h3 k i hk hi).1, hs _ _ (h3 k i hk hi).2⟩, h4⟩
theorem LdR.frame {M' : HM} {t' : Nat} (h : LdR G M t a Y N T tr now price money) (hne : t ≠ t') (hf : Fr t' M M') : LdR G M' t a Y N T tr now price money := h.same (fun q e z => hf q t e hne z)
theorem LdR.row (h : LdR G M t a Y N T tr now price money) {k i : Nat} (hk : k < 5) (hi : i < N k) : M (Y.2.2.2.2.2 k i) = some (t, eC k (T k i)) := (h.2.2.1 k i hk hi).2
theorem LdR.at_g (h : LdR G M t a Y N T tr now price money) {k i : Nat} (hk : k < 5) (hi : i < N k) : Y.2.2.2.2.1 k i = some (Y.2.2.2.2.2 k i) := (h.2.2.1 k i hk hi).1
/-- one row is changed -/
theorem LdR.setRow (h : LdR G M t a Y N T tr now price money) {k i : Nat} (hk : k < 5) (hi : i < N k) (f : Row) : LdR G (hu M (Y.2.2.2.2.2 k i) t (eC k f)) t a Y N (tu T k i f) tr now price money := by
  have hrow := h.row hk hi
  obtain ⟨fs, hfs⟩ := eC_c k (T k i)
  obtain ⟨h1, h2, h3, h4, h5, h6, h7⟩ := h
  have hx : ∀ {q : Nat} {r : Nat} {e : va_E}, M q = some (r, e) → e ≠ eC k (T k i) → hu M (Y.2.2.2.2.2 k i) t (eC k f) q = some (r, e) := fun {q r e} hq hne => hu_n (hu_ne hq hrow (fun z => hne (by injection z with z; injection z with z1 z2))) hq
  refine ⟨hx h1 ?_, fun k' hk' => ?_, fun k' i' hk' hi' => ⟨(h3 k' i' hk' hi').1, ?_⟩, h4, h5, h6, h7⟩
  · rw [hfs]
    intro z
    injection z with z
    injection z with z1 z2
    exact (kc_ok k hk).2.1 z1.symm
  · obtain ⟨g1, g2, g3, g4⟩ := h2 k' hk'
    refine ⟨hx g1 ?_, g2, g3, ?_⟩
    · rw [hfs]
      intro z
      injection z with z
      injection z with z1 z2
      exact (kc_ok k hk).1 z1.symm
    · rcases g4 with g4 | ⟨g4, g5⟩
      · exact Or.inl g4
      · exact Or.inr ⟨g4, hx g5 (by rw [hfs]; intro z; cases z)⟩
  · have hr2 := (h3 k' i' hk' hi').2
    by_cases e1 : k' = k
    · subst e1
      by_cases e2 : i' = i
      · subst e2
        rw [tu_s]
        exact hu_s
      · rw [tu_i e2]
        exact hu_n (fun z => e2 (h4 k' i' i hk' hi' hi z)) hr2
    · rw [tu_k e1]
      refine hx hr2 ?_
      obtain ⟨fs2, hfs2⟩ := eC_c k' (T k' i')
      rw [hfs, hfs2]
      intro z
      injection z with z
      injection z with z1 z2
      exact e1 (kc_inj k' k hk' hk z1)
/-- the land's own numbers are changed -/
theorem LdR.setLand (h : LdR G M t a Y N T tr now price money) (now' price' money' : Int32) : LdR G (hu M a t (ldE Y tr now' price' money')) t a Y N T tr now' price' money' := by
  obtain ⟨h1, h2, h3, h4, h5, h6, h7⟩ := h
  have hx : ∀ {q : Nat} {r : Nat} {e : va_E}, M q = some (r, e) → e ≠ ldE Y tr now price money → hu M a t (ldE Y tr now' price' money') q = some (r, e) := fun {q r e} hq hne => hu_n (hu_ne hq h1 (fun z => hne (by injection z with z; injection z with z1 z2))) hq
  refine ⟨hu_s, fun k' hk' => ?_, fun k' i' hk' hi' => ⟨(h3 k' i' hk' hi').1, hx (h3 k' i' hk' hi').2 ?_⟩, h4, h5, h6, h7⟩
  · obtain ⟨g1, g2, g3, g4⟩ := h2 k' hk'
    refine ⟨hx g1 (by intro z; injection z with z; injection z with z1 z2; cases z1), g2, g3, ?_⟩
    rcases g4 with g4 | ⟨g4, g5⟩
    · exact Or.inl g4
    · exact Or.inr ⟨g4, hx g5 (by intro z; cases z)⟩
  · obtain ⟨fs2, hfs2⟩ := eC_c k' (T k' i')
    rw [hfs2]
    intro z
    injection z with z
    injection z with z1 z2
    exact (kc_ok k' hk').2.1 z1
end LD
set_option maxHeartbeats 4000000 in
set_option maxRecDepth 100000 in
/-- get(i) of a list -/
theorem c_getL (l : Launch) (G : GG) (M : HM) (t la n ar cap i : Nat) (mc : Int32) (g : Nat → Option Nat) (h : LsR G M t la n mc ar cap g) (hi : i < n) : Mq l yJx4a65c_get_915e3 (.code yJx4a65c_get_915e3 cJx4a65c_get_915e3 2 (some (.object "java/lang/Object")) :: AL) 2 43 0 0 [.ref la, .int (nI i)] G M (fun r M' => r = g i ∧ M' = M) := by
  obtain ⟨h1, h2, h3, h4⟩ := h
  rcases h4 with ⟨h4, -⟩ | ⟨h4, h5⟩
  · omega
  · exact c_get l G M la t ar t cap n i g mc h1 h5 hi h2 (by omega)
/-- the number of one kind, changed -/
def nu (N : Nat → Nat) (k n : Nat) : Nat → Nat := fun j => if j = k then n else N j
theorem nu_s {N : Nat → Nat} {k n : Nat} : nu N k n k = n := if_pos rfl
theorem nu_n {N : Nat → Nat} {k n j : Nat} (h : j ≠ k) : nu N k n j = N j := if_neg h
def yu (Y : LY) (k n : Nat) (mc : Int32) (ar cap : Nat) (g : Nat → Option Nat) (q : Nat) : LY := (Y.1, fun j => if j = k then mc else Y.2.1 j, fun j => if j = k then ar else Y.2.2.1 j, fun j => if j = k then cap else Y.2.2.2.1 j, fun j => if j = k then g else Y.2.2.2.2.1 j, fun j i => if j = k ∧ i = n then q else Y.2.2.2.2.2 j i)
section LA
variable {G : GG} {M : HM} {t a : Nat} {Y : LY} {N : Nat → Nat} {T : Tb} {tr now price money : Int32}
/-- an object q is new, and then added to the list of its kind -/
theorem LdR.add {M1 M2 : HM} (h : LdR G M t a Y N T tr now price money) {k q ar' cap' : Nat} {f : Row} {g' : Nat → Option Nat} (hk : k < 5) (hq : M q = none) (hM1 : M1 = hu M q t (eC k f)) (hn : N k < 600)
    (h1 : LsR G M2 t (Y.1 k) (N k + 1) (Y.2.1 k + 1) ar' cap' g') (h2 : ∀ i, i < N k → g' i = Y.2.2.2.2.1 k i) (h3 : g' (N k) = some q) (h4 : ar' = Y.2.2.1 k ∨ M1 ar' = none) (h5 : ar' ≠ G.2.2 1) (h6 : ∀ q', q' ≠ Y.1 k → (Y.2.2.2.1 k ≠ 0 → q' ≠ Y.2.2.1 k) → M1 q' ≠ none → M2 q' = M1 q') :
    LdR G M2 t a (yu Y k (N k) (Y.2.1 k + 1) ar' cap' g' q) (nu N k (N k + 1)) (tu T k (N k) f) tr now price money := by
  subst hM1
  obtain ⟨e1, e2, e3, e4, e5, e6, e7, e8⟩ := h
  have old : ∀ {x r : Nat} {e : va_E}, M x = some (r, e) → hu M q t (eC k f) x = some (r, e) := fun {x r e} hx => hu_n (hu_ne hx hq (by simp)) hx
  -- what is neither the list nor its array stays
  have keep : ∀ {x r : Nat} {e : va_E}, hu M q t (eC k f) x = some (r, e) → x ≠ Y.1 k → (Y.2.2.2.1 k ≠ 0 → x ≠ Y.2.2.1 k) → M2 x = some (r, e) := fun {x r e} hx g1 g2 => by
    rw [h6 x g1 g2 (by rw [hx]; simp)]
    exact hx
  obtain ⟨l1, l2, l3, l4⟩ := e2 k hk
  have arK : Y.2.2.2.1 k ≠ 0 → ∃ n9 g9, M (Y.2.2.1 k) = some (t, qarr G n9 g9) := fun hc => by
    rcases l4 with ⟨l4, -⟩ | ⟨-, l5⟩
    · exact absurd l4 hc
    · exact ⟨_, _, l5⟩
  have obj : ∀ {x r ci : Nat} {fs : List Value}, M x = some (r, .inr (ci, fs)) → ci ≠ 0 → x ≠ Y.1 k ∧ (Y.2.2.2.1 k ≠ 0 → x ≠ Y.2.2.1 k) := fun {x r ci fs} hx hc => ⟨hu_ne hx l1 (fun z => by injection z with z; injection z with z1 z2; injection z2 with z3; injection z3 with z4 z5; exact hc z4), fun hc2 => by
    obtain ⟨n9, g9, h9⟩ := arK hc2
    exact hu_ne hx h9 (fun z => by injection z with z; injection z with z1 z2; cases z2)⟩
  refine ⟨?_, fun k' hk' => ?_, fun k' i hk' hi => ?_, fun k' i j hk' hi hj hij => ?_, e5, fun k1 k2 hk1 hk2 c1 c2 hij => ?_, fun k' => ?_, fun k' hk' hc => ?_⟩
  · have := obj e1 (by decide)
    exact keep (old e1) this.1 this.2
  · by_cases c : k' = k
    · subst c
      simp only [yu, nu, if_true]
      exact h1
    · simp only [yu, nu, if_neg c]
      obtain ⟨m1, m2, m3, m4⟩ := e2 k' hk'
      refine ⟨keep (old m1) (fun z => c (e5 k' k hk' hk z)) (fun hc2 => ?_), m2, m3, ?_⟩
      · obtain ⟨n9, g9, h9⟩ := arK hc2
        exact hu_ne m1 h9 (fun z => by injection z with z; injection z with z1 z2; cases z2)
      · rcases m4 with m4 | ⟨m4, m5⟩
        · exact Or.inl m4
        · refine Or.inr ⟨m4, keep (old m5) (hu_ne m5 l1 (fun z => by injection z with z; injection z with z1 z2; cases z2)) (fun hc2 z => c (e6 k' k hk' hk (by omega) hc2 z))⟩
  · by_cases c : k' = k
    · subst c
      by_cases c2 : i = N k'
      · subst c2
        simp only [yu, if_true, and_self]
        refine ⟨h3, ?_⟩
        rw [tu_s]
        obtain ⟨fs, hfs⟩ := eC_c k' f
        have hq2 : hu M q t (eC k' f) q = some (t, eC k' f) := hu_s
        refine keep hq2 (fun z => ?_) (fun hc2 z => ?_)
        · rw [z] at hq
          rw [hq] at l1
          cases l1
        · obtain ⟨n9, g9, h9⟩ := arK hc2
          rw [← z, hq] at h9
          cases h9
      · have hi2 : i < N k' := by rw [nu_s] at hi; omega
        simp only [yu, if_true, if_neg (fun z : True ∧ i = N k' => c2 z.2), true_and, if_neg c2]
        obtain ⟨g1, g2⟩ := e3 k' i hk' hi2
        refine ⟨(h2 i hi2).trans g1, ?_⟩
        rw [tu_i c2]
        obtain ⟨fs, hfs⟩ := eC_c k' (T k' i)
        rw [hfs] at g2 ⊢
        have := obj g2 (kc_ok k' hk').1
        exact keep (old g2) this.1 this.2
    · have hi2 : i < N k' := by rw [nu_n c] at hi; exact hi
      simp only [yu, if_neg c, if_neg (fun z : k' = k ∧ i = N k => c z.1)]
      obtain ⟨g1, g2⟩ := e3 k' i hk' hi2
      refine ⟨g1, ?_⟩
      rw [tu_k c]
      obtain ⟨fs, hfs⟩ := eC_c k' (T k' i)
      rw [hfs] at g2 ⊢
      have := obj g2 (kc_ok k' hk').1
      exact keep (old g2) this.1 this.2
  · have hrow : ∀ {k9 i9 : Nat}, k9 < 5 → i9 < N k9 → M (Y.2.2.2.2.2 k9 i9) ≠ none := fun {k9 i9} h9 h10 => by rw [(e3 k9 i9 h9 h10).2]; simp
    by_cases c : k' = k
    · subst c
      rw [nu_s] at hi hj
      simp only [yu, true_and] at hij
      by_cases c1 : i = N k' <;> by_cases c2 : j = N k'
      · omega
      · rw [if_pos c1, if_neg c2] at hij
        exact absurd (hij ▸ hq) (hrow hk' (by omega))
      · rw [if_neg c1, if_pos c2] at hij
        exact absurd (hij ▸ hq) (hrow hk' (by omega))
      · rw [if_neg c1, if_neg c2] at hij
        exact e4 k' i j hk' (by omega) (by omega) hij
    · rw [nu_n c] at hi hj
      simp only [yu, if_neg (fun z : k' = k ∧ i = N k => c z.1), if_neg (fun z : k' = k ∧ j = N k => c z.1)] at hij
      exact e4 k' i j hk' hi hj hij
  · have other : ∀ {k9 : Nat}, k9 < 5 → k9 ≠ k → Y.2.2.2.1 k9 ≠ 0 → Y.2.2.1 k9 ≠ ar' := fun {k9} h9 hne hc z => by
      have hm9 : ∃ n9 g9, M (Y.2.2.1 k9) = some (t, qarr G n9 g9) := by
        rcases (e2 k9 h9).2.2.2 with ⟨m4, -⟩ | ⟨-, m5⟩
        · exact absurd m4 hc
        · exact ⟨_, _, m5⟩
      obtain ⟨n9, g9, hm9⟩ := hm9
      rcases h4 with h4 | h4
      · by_cases hck : Y.2.2.2.1 k = 0
        · rcases l4 with ⟨-, l5⟩ | ⟨l5, -⟩
          · exact h5 (h4.trans l5)
          · omega
        · exact hne (e6 k9 k h9 hk hc hck (z.trans h4))
      · rw [← z, old hm9] at h4
        cases h4
    simp only [yu] at c1 c2 hij
    by_cases b1 : k1 = k <;> by_cases b2 : k2 = k
    · omega
    · rw [if_pos b1, if_neg b2] at hij
      rw [if_neg b2] at c2
      exact absurd hij.symm (other hk2 b2 c2)
    · rw [if_neg b1, if_pos b2] at hij
      rw [if_neg b1] at c1
      exact absurd hij (other hk1 b1 c1)
    · rw [if_neg b1] at c1 hij
      rw [if_neg b2] at c2 hij
      exact e6 k1 k2 hk1 hk2 c1 c2 hij
  · by_cases c : k' = k
    · subst c
      rw [nu_s]
      omega
    · rw [nu_n c]
      exact e7 k'
  · simp only [yu] at hc ⊢
    by_cases c : k' = k
    · rw [if_pos c]
      exact h5
    · rw [if_neg c] at hc ⊢
      exact e8 k' hk' hc
end LA

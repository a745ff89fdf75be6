/-! the reference's state: the same kinds; rows are int arrays in arrays of arrays; the tickets a list of arrays -/
/-- an array's row by kind, in the reference's own order of its places -/
def eR (G : GG) (k : Nat) (f : Row) : va_E := match k with
  | 0 => .inl (G.2.1 0, 11, .inl (rw11 (f 0) (f 1) (f 2) (f 3) (f 4) (f 5) (f 6) (f 7) (f 8) (f 9) (f 10)))
  | 1 => .inl (G.2.1 0, 11, .inl (rw11 (f 0) (f 1) (f 2) (f 3) (f 4) (f 5) (f 6) (f 7) (f 8) (f 9) (f 10)))
  | 2 => .inl (G.2.1 0, 10, .inl (rw10 (f 0) (f 1) (f 2) (f 3) (f 4) (f 5) (f 6) (f 7) (f 8) (f 9)))
  | 3 => .inl (G.2.1 0, 6, .inl (rw6 (f 0) (f 1) (f 2) (f 3) (f 4) (f 5)))
  | _ => .inl (G.2.1 0, 7, .inl (rw7 (f 0) (f 1) (f 2) (f 3) (f 4) (f 5) (f 6)))
theorem eR_c (G : GG) (k : Nat) (f : Row) : ∃ n g, eR G k f = .inl (G.2.1 0, n, .inl g) := by
  match k with
  | 0 => exact ⟨_, _, rfl⟩
  | 1 => exact ⟨_, _, rfl⟩
  | 2 => exact ⟨_, _, rfl⟩
  | 3 => exact ⟨_, _, rfl⟩
  | k + 4 => exact ⟨_, _, rfl⟩
theorem eR_okv (G : GG) (k : Nat) (f : Row) : okv G (eR G k f) := by
  obtain ⟨n, g, h⟩ := eR_c G k f
  exact Or.inr ⟨n, g, h⟩
/-- how many rows a kind has -/
def lmR (N : Nat → Nat) : Nat → Nat | 0 => 8 | 1 => 4 | 2 => 4 | 3 => 3 | _ => N 4
/-- where its things lie: outer arrays, rows, the list, its count of changes, its array, places, what that holds -/
abbrev LZ : Type := (Nat → Nat) × (Nat → Nat → Nat) × Nat × Int32 × Nat × Nat × (Nat → Option Nat)
abbrev mdE (Z : LZ) (N : Nat → Nat) (now : Int32) : va_E := .inr (8, [.ref (Z.1 0), .ref (Z.1 1), .ref (Z.1 2), .ref (Z.1 3), .ref Z.2.2.1, .int now, .int (nI (N 0)), .int (nI (N 1)), .int (nI (N 2)), .int (nI (N 3))])
abbrev oaE (G : GG) (c : Nat) (h : Nat → Nat) : va_E := .inl (G.2.1 1, c, .inr (.inr (.inr (.inr (fun i => if i < c then some (h i) else none)))))
def MdR (G : GG) (M : HM) (t a : Nat) (Z : LZ) (N : Nat → Nat) (U : Tb) (now : Int32) : Prop :=
  M a = some (t, mdE Z N now) ∧
  (∀ k, k < 4 → M (Z.1 k) = some (t, oaE G (lmR N k) (Z.2.1 k))) ∧
  LsR G M t Z.2.2.1 (N 4) Z.2.2.2.1 Z.2.2.2.2.1 Z.2.2.2.2.2.1 Z.2.2.2.2.2.2 ∧
  (∀ k i, k < 5 → i < lmR N k → M (Z.2.1 k i) = some (t, eR G k (U k i))) ∧
  (∀ i, i < N 4 → Z.2.2.2.2.2.2 i = some (Z.2.1 4 i)) ∧
  (∀ k i k' i', k < 5 → k' < 5 → i < lmR N k → i' < lmR N k' → Z.2.1 k i = Z.2.1 k' i' → k = k' ∧ i = i') ∧
  (∀ k, k < 4 → N k ≤ lmR N k) ∧ N 4 ≤ 600 ∧ (Z.2.2.2.2.2.1 ≠ 0 → Z.2.2.2.2.1 ≠ G.2.2 1)
theorem lmR_nu {N : Nat → Nat} {k n j : Nat} (h : j < 4) : lmR (nu N k n) j = lmR N j := by
  match j, h with
  | 0, _ => rfl
  | 1, _ => rfl
  | 2, _ => rfl
  | 3, _ => rfl
theorem eR_ne {G : GG} {r r' k : Nat} {f : Row} {ci : Nat} {fs : List Value} : some (r, (.inr (ci, fs) : va_E)) ≠ some (r', eR G k f) := by
  obtain ⟨n, g, h⟩ := eR_c G k f
  rw [h]
  intro z
  injection z with z
  injection z with z1 z2
  cases z2
theorem eR_neO {G : GG} {r r' k n : Nat} {f : Row} {j : Nat} {g : Nat → Option Nat} : some (r, (.inl (G.2.1 j, n, .inr (.inr (.inr (.inr g)))) : va_E)) ≠ some (r', eR G k f) := by
  obtain ⟨n, g, h⟩ := eR_c G k f
  rw [h]
  intro z
  injection z with z
  injection z with z1 z2
  injection z2 with z3
  injection z3 with z4 z5
  injection z5 with z6 z7
  cases z7
section MD
variable {G : GG} {M : HM} {t a : Nat} {Z : LZ} {N : Nat → Nat} {U : Tb} {now : Int32}
theorem MdR.same {M' : HM} (h : MdR G M t a Z N U now) (hs : ∀ q e, M q = some (t, e) → M' q = some (t, e)) : MdR G M' t a Z N U now := by
  obtain ⟨h1, h2, h3, h4, h5⟩ := h
  exact ⟨hs _ _ h1, fun k hk => hs _ _ (h2 k hk), h3.same (fun q e z _ => hs q e z), fun k i hk hi => hs _ _ (h4 k i hk hi), h5⟩
theorem MdR.frame {M' : HM} {t' : Nat} (h : MdR G M t a Z N U now) (hne : t ≠ t') (hf : Fr t' M M') : MdR G M' t a Z N U now := h.same (fun q e z => hf q t e hne z)
theorem MdR.new {q r0 : Nat} {e : va_E} (h : MdR G M t a Z N U now) (hq : M q = none) : MdR G (hu M q r0 e) t a Z N U now := h.same (fun x e9 hx => hu_n (hu_ne hx hq (by simp)) hx)
theorem MdR.row (h : MdR G M t a Z N U now) {k i : Nat} (hk : k < 5) (hi : i < lmR N k) : M (Z.2.1 k i) = some (t, eR G k (U k i)) := h.2.2.2.1 k i hk hi
theorem MdR.rne (h : MdR G M t a Z N U now) {k i k' i' : Nat} (hk : k < 5) (hk' : k' < 5) (hi : i < lmR N k) (hi' : i' < lmR N k') (hne : k ≠ k') : Z.2.1 k i ≠ Z.2.1 k' i' := fun z => hne (h.2.2.2.2.2.1 k i k' i' hk hk' hi hi' z).1
theorem MdR.cnt (h : MdR G M t a Z N U now) {k : Nat} (hk : k < 4) : N k ≤ lmR N k := h.2.2.2.2.2.2.1 k hk
/-- one row is changed -/
theorem MdR.setRow (h : MdR G M t a Z N U now) {k i : Nat} (hk : k < 5) (hi : i < lmR N k) (f : Row) : MdR G (hu M (Z.2.1 k i) t (eR G k f)) t a Z N (tu U k i f) now := by
  have hrow := h.row hk hi
  obtain ⟨h1, h2, h3, h4, h5, h6, h7⟩ := h
  have hx : ∀ {q : Nat} {r : Nat} {e : va_E}, M q = some (r, e) → some (r, e) ≠ some (t, eR G k (U k i)) → hu M (Z.2.1 k i) t (eR G k f) q = some (r, e) := fun {q r e} hq hne => hu_n (hu_ne hq hrow hne) hq
  refine ⟨hx h1 eR_ne, fun k' hk' => hx (h2 k' hk') eR_neO, ?_, fun k' i' hk' hi' => ?_, h5, h6, h7⟩
  · refine ⟨hx h3.1 eR_ne, h3.2.1, h3.2.2.1, ?_⟩
    rcases h3.2.2.2 with g4 | ⟨g4, g5⟩
    · exact Or.inl g4
    · exact Or.inr ⟨g4, hx g5 eR_neO⟩
  · by_cases e : k' = k ∧ i' = i
    · obtain ⟨rfl, rfl⟩ := e
      rw [tu_s]
      exact hu_s
    · rw [show tu U k i f k' i' = U k' i' from if_neg e]
      exact hu_n (fun z => e (h6 k' i' k i hk' hk hi' hi z)) (h4 k' i' hk' hi')
/-- its own numbers are changed -/
theorem MdR.setLand (h : MdR G M t a Z N U now) (N' : Nat → Nat) (now' : Int32) (h4' : N' 4 = N 4) (hN : ∀ k, k < 4 → N' k ≤ lmR N k) : MdR G (hu M a t (mdE Z N' now')) t a Z N' U now' := by
  have hlm : ∀ k, lmR N' k = lmR N k := fun k => by
    match k with
    | 0 => rfl
    | 1 => rfl
    | 2 => rfl
    | 3 => rfl
    | k + 4 => exact h4'
  obtain ⟨h1, h2, h3, h4, h5, h6, h7, h8, h9⟩ := h
  have hx : ∀ {q : Nat} {r : Nat} {e : va_E}, M q = some (r, e) → some (r, e) ≠ some (t, mdE Z N now) → hu M a t (mdE Z N' now') q = some (r, e) := fun {q r e} hq hne => hu_n (hu_ne hq h1 hne) hq
  refine ⟨hu_s, fun k hk => ?_, ?_, fun k i hk hi => ?_, fun i hi => h5 i (by omega), fun k i k' i' hk hk' hi hi' => h6 k i k' i' hk hk' (by rw [← hlm]; exact hi) (by rw [← hlm]; exact hi'), fun k hk => by rw [hlm]; exact hN k hk, by omega, h9⟩
  · rw [hlm]
    exact hx (h2 k hk) (by intro z; injection z with z; injection z with z1 z2; cases z2)
  · rw [h4']
    refine ⟨hx h3.1 (by intro z; injection z with z; injection z with z1 z2; injection z2 with z3; injection z3 with z4 z5; cases z4), h3.2.1, h3.2.2.1, ?_⟩
    rcases h3.2.2.2 with g4 | ⟨g4, g5⟩
    · exact Or.inl g4
    · exact Or.inr ⟨g4, hx g5 (by intro z; injection z with z; injection z with z1 z2; cases z2)⟩
  · rw [hlm] at hi
    exact hx (h4 k i hk hi) (fun z => eR_ne z.symm)
/-- what one reads of an outer array -/
theorem MdR.outer (h : MdR G M t a Z N U now) {k : Nat} (hk : k < 4) : M (Z.1 k) = some (t, oaE G (lmR N k) (Z.2.1 k)) := h.2.1 k hk
/-- a ticket's array is new, and then added to the list -/
def zu (Z : LZ) (n : Nat) (mc : Int32) (ar cap : Nat) (g : Nat → Option Nat) (q : Nat) : LZ := (Z.1, fun k i => if k = 4 ∧ i = n then q else Z.2.1 k i, Z.2.2.1, mc, ar, cap, g)
theorem MdR.add {M1 M2 : HM} (h : MdR G M t a Z N U now) {q ar' cap' : Nat} {f : Row} {g' : Nat → Option Nat} (hq : M q = none) (hM1 : M1 = hu M q t (eR G 4 f)) (hn : N 4 < 600)
    (h1 : LsR G M2 t Z.2.2.1 (N 4 + 1) (Z.2.2.2.1 + 1) ar' cap' g') (h2 : ∀ i, i < N 4 → g' i = Z.2.2.2.2.2.2 i) (h3 : g' (N 4) = some q) (h5 : ar' ≠ G.2.2 1) (h6 : ∀ q', q' ≠ Z.2.2.1 → (Z.2.2.2.2.2.1 ≠ 0 → q' ≠ Z.2.2.2.2.1) → M1 q' ≠ none → M2 q' = M1 q') :
    MdR G M2 t a (zu Z (N 4) (Z.2.2.2.1 + 1) ar' cap' g' q) (nu N 4 (N 4 + 1)) (tu U 4 (N 4) f) now := by
  subst hM1
  obtain ⟨e1, e2, e3, e4, e5, e6, e7, e8, e9⟩ := h
  have hlm : ∀ k, k < 4 → lmR (nu N 4 (N 4 + 1)) k = lmR N k := fun k hk => lmR_nu hk
  have hl4 : lmR (nu N 4 (N 4 + 1)) 4 = N 4 + 1 := nu_s
  have old : ∀ {x r : Nat} {e : va_E}, M x = some (r, e) → hu M q t (eR G 4 f) x = some (r, e) := fun {x r e} hx => hu_n (hu_ne hx hq (by simp)) hx
  have keep : ∀ {x r : Nat} {e : va_E}, hu M q t (eR G 4 f) x = some (r, e) → x ≠ Z.2.2.1 → (Z.2.2.2.2.2.1 ≠ 0 → x ≠ Z.2.2.2.2.1) → M2 x = some (r, e) := fun {x r e} hx g1 g2 => by
    rw [h6 x g1 g2 (by rw [hx]; simp)]
    exact hx
  obtain ⟨l1, l2, l3, l4⟩ := e3
  have arK : Z.2.2.2.2.2.1 ≠ 0 → ∃ n9 g9, M (Z.2.2.2.2.1) = some (t, qarr G n9 g9) := fun hc => by
    rcases l4 with ⟨l4, -⟩ | ⟨-, l5⟩
    · exact absurd l4 hc
    · exact ⟨_, _, l5⟩
  have nl : ∀ {x r : Nat} {e : va_E}, M x = some (r, e) → (∀ r' mc' ar' n', some (r, e) ≠ some (r', lsE mc' ar' n')) → x ≠ Z.2.2.1 := fun {x r e} hx hne => hu_ne hx l1 (hne _ _ _ _)
  have na : ∀ {x r : Nat} {e : va_E}, M x = some (r, e) → (∀ r' n' g', some (r, e) ≠ some (r', qarr G n' g')) → Z.2.2.2.2.2.1 ≠ 0 → x ≠ Z.2.2.2.2.1 := fun {x r e} hx hne hc => by
    obtain ⟨n9, g9, h9⟩ := arK hc
    exact hu_ne hx h9 (hne _ _ _)
  have kr : ∀ k i, k < 5 → i < lmR N k → M2 (Z.2.1 k i) = some (t, eR G k (U k i)) := fun k i hk hi => by
    have hr := e4 k i hk hi
    exact keep (old hr) (nl hr (fun _ _ _ _ z => eR_ne z.symm)) (na hr (fun _ _ _ z => eR_neO z.symm))
  have rq : ∀ k i, k < 5 → i < lmR N k → Z.2.1 k i ≠ q := fun k i hk hi z => by
    have hr := e4 k i hk hi
    rw [z, hq] at hr
    cases hr
  refine ⟨?_, fun k hk => ?_, ?_, fun k i hk hi => ?_, fun i hi => ?_, fun k i k' i' hk hk' hi hi' hz => ?_, fun k hk => ?_, ?_, fun _ => h5⟩
  · exact keep (old e1) (nl e1 (fun _ _ _ _ z => by injection z with z; injection z with z1 z2; injection z2 with z3; injection z3 with z4 z5; cases z4)) (na e1 (fun _ _ _ z => by injection z with z; injection z with z1 z2; cases z2))
  · rw [hlm k hk]
    have ho := e2 k hk
    have hzz : (zu Z (N 4) (Z.2.2.2.1 + 1) ar' cap' g' q).2.1 k = Z.2.1 k := funext fun i => if_neg (fun z : k = 4 ∧ i = N 4 => by omega)
    rw [hzz]
    show M2 (Z.1 k) = _
    by_cases hc : Z.2.2.2.2.2.1 = 0
    · exact keep (old ho) (nl ho (fun _ _ _ _ z => by injection z with z; injection z with z1 z2; cases z2)) (fun z => absurd hc z)
    · refine keep (old ho) (nl ho (fun _ _ _ _ z => by injection z with z; injection z with z1 z2; cases z2)) (fun _ z => ?_)
      rcases l4 with ⟨l4, -⟩ | ⟨l4, l5⟩
      · exact hc l4
      · rw [← z, ho] at l5
        have hcap : lmR N k < 10 := by
          match k, hk with
          | 0, _ => show 8 < 10; decide
          | 1, _ => show 4 < 10; decide
          | 2, _ => show 4 < 10; decide
          | 3, _ => show 3 < 10; decide
        injection l5 with l5
        injection l5 with _ l5
        injection l5 with l5
        injection l5 with _ l5
        injection l5 with l5 _
        omega
  · show LsR G M2 t Z.2.2.1 (nu N 4 (N 4 + 1) 4) (Z.2.2.2.1 + 1) ar' cap' g'
    rw [nu_s]
    exact h1
  · by_cases e : k = 4 ∧ i = N 4
    · obtain ⟨rfl, rfl⟩ := e
      rw [tu_s]
      show M2 (if 4 = 4 ∧ N 4 = N 4 then q else Z.2.1 4 (N 4)) = _
      rw [if_pos ⟨rfl, rfl⟩]
      have hs : hu M q t (eR G 4 f) q = some (t, eR G 4 f) := hu_s
      refine keep hs (fun z => ?_) (fun hc z => ?_)
      · rw [← z, hq] at l1
        cases l1
      · obtain ⟨n9, g9, h9⟩ := arK hc
        rw [← z, hq] at h9
        cases h9
    · have hi2 : i < lmR N k := by
        by_cases e9 : k = 4
        · subst e9
          rw [hl4] at hi
          show i < N 4
          have : i ≠ N 4 := fun z => e ⟨rfl, z⟩
          omega
        · rw [hlm k (by omega)] at hi
          exact hi
      rw [show tu U 4 (N 4) f k i = U k i from if_neg e]
      show M2 (if k = 4 ∧ i = N 4 then q else Z.2.1 k i) = _
      rw [if_neg e]
      exact kr k i hk hi2
  · rw [nu_s] at hi
    show g' i = some (if 4 = 4 ∧ i = N 4 then q else Z.2.1 4 i)
    by_cases e : i = N 4
    · rw [if_pos ⟨rfl, e⟩, e]
      exact h3
    · rw [if_neg (fun z => e z.2), h2 i (by omega)]
      exact e5 i (by omega)
  · have lim : ∀ {k i : Nat}, k < 5 → i < lmR (nu N 4 (N 4 + 1)) k → ¬ (k = 4 ∧ i = N 4) → i < lmR N k := fun {k i} hk hi e => by
      by_cases e9 : k = 4
      · subst e9
        rw [hl4] at hi
        show i < N 4
        have : i ≠ N 4 := fun z => e ⟨rfl, z⟩
        omega
      · rw [hlm k (by omega)] at hi
        exact hi
    have hz : (if k = 4 ∧ i = N 4 then q else Z.2.1 k i) = (if k' = 4 ∧ i' = N 4 then q else Z.2.1 k' i') := hz
    by_cases c1 : k = 4 ∧ i = N 4 <;> by_cases c2 : k' = 4 ∧ i' = N 4
    · exact ⟨c1.1.trans c2.1.symm, c1.2.trans c2.2.symm⟩
    · rw [if_pos c1, if_neg c2] at hz
      exact absurd hz.symm (rq k' i' hk' (lim hk' hi' c2))
    · rw [if_neg c1, if_pos c2] at hz
      exact absurd hz (rq k i hk (lim hk hi c1))
    · rw [if_neg c1, if_neg c2] at hz
      exact e6 k i k' i' hk hk' (lim hk hi c1) (lim hk' hi' c2) hz
  · rw [hlm k hk, nu_n (by omega)]
    exact e7 k hk
  · rw [nu_s]
    omega
theorem MdR.addFr (h : MdR G M t a Z N U now) {q : Nat} {e : va_E} {M2 : HM} (hq : M q = none) (h6 : ∀ q', q' ≠ Z.2.2.1 → (Z.2.2.2.2.2.1 ≠ 0 → q' ≠ Z.2.2.2.2.1) → hu M q t e q' ≠ none → M2 q' = hu M q t e q') : Fr t M M2 := by
  intro x r e9 hr hx
  obtain ⟨l1, l2, l3, l4⟩ := h.2.2.1
  have h0 : hu M q t e x = some (r, e9) := hu_n (hu_ne hx hq (by simp)) hx
  rw [h6 x (fun z => ?_) (fun hc z => ?_) (by rw [h0]; simp)]
  · exact h0
  · rw [z, l1] at hx
    cases hx
    exact hr rfl
  · rcases l4 with ⟨l4, -⟩ | ⟨-, l5⟩
    · exact hc l4
    · rw [z, l5] at hx
      cases hx
      exact hr rfl
theorem MdR.lsNew (h : MdR G M t a Z N U now) {q r0 : Nat} {e : va_E} (hq : M q = none) : LsR G (hu M q r0 e) t Z.2.2.1 (N 4) Z.2.2.2.1 Z.2.2.2.2.1 Z.2.2.2.2.2.1 Z.2.2.2.2.2.2 := h.2.2.1.same (fun _ _ hx _ => hu_n (hu_ne hx hq (by simp)) hx)
theorem MdR.elNew (h : MdR G M t a Z N U now) {q r0 : Nat} {e : va_E} (hq : M q = none) : ∀ i : Nat, i < N 4 → ∀ y : Nat, Z.2.2.2.2.2.2 i = some y → ∃ rv en, hu M q r0 e y = some (rv, en) ∧ okv G en := by
  intro i hi y hy
  rw [h.2.2.2.2.1 i hi] at hy
  cases hy
  have h2 := h.row (k := 4) (i := i) (by decide) hi
  exact ⟨_, _, hu_n (hu_ne h2 hq (by simp)) h2, eR_okv G 4 _⟩
end MD
section GR
variable {p : Program} {l : Launch} {e : Env} {R : Room} {s : State} {m : MethodId} {args : Array Value} {below : List Frame} {meth : Method} {c : Code} {H : Heap} {locs : List Loc} {cells slots : Nat} {Q : State → Prop}
variable {cc : ByteArray} {pc : Nat} {ls : Array Slot} {rest : List Value} {a : Nat} {G : GG} {M : HM}
/-- a row of an outer array, at an index in range -/
theorem g_aaldR (hx : p.tables.exec = Jvm.exec) (hb : c.code = cc) (hK : Kw G s) (hM : Wd G M s H locs) {n r : Nat} {h : Nat → Nat} (ha : M a = some (r, oaE G n h)) {i : Int32} (h0 : ¬ i < 0) (hi : ix i < n) (hdg : decode cc pc = .ok (.aaload, 1))
    (kk : W p l e R s m args below meth c H locs cells slots Q (F0 m (pc + 1) ls (.ref (h (ix i)) :: rest))) : W p l e R s m args below meth c H locs cells slots Q (F0 m pc ls (.int i :: .ref a :: rest)) :=
  g_aald hx hb hK hM (j := 1) ha rfl rfl (fun q => by
    rcases q with q | q
    · exact h0 q
    · exact absurd hi (Nat.not_lt.mpr q)) hdg (by
    show W p l e R s m args below meth c H locs cells slots Q (F0 m (pc + 1) ls (va_rf (if ix i < n then some (h (ix i)) else none) :: rest))
    rw [if_pos hi]
    exact kk)
theorem g_aaldN (hx : p.tables.exec = Jvm.exec) (hb : c.code = cc) (hK : Kw G s) (hM : Wd G M s H locs) {n r : Nat} {h : Nat → Nat} (ha : M a = some (r, oaE G n h)) {i : Nat} (hi : i < n) (h31 : n < 1000) (hdg : decode cc pc = .ok (.aaload, 1))
    (kk : W p l e R s m args below meth c H locs cells slots Q (F0 m (pc + 1) ls (.ref (h i) :: rest))) : W p l e R s m args below meth c H locs cells slots Q (F0 m pc ls (.int (nI i) :: .ref a :: rest)) :=
  g_aaldR hx hb hK hM ha (nI_pos (by omega)) (by show (nI i).toNatClampNeg < n; rw [nI_clamp (by omega)]; exact hi) hdg (by
    show W p l e R s m args below meth c H locs cells slots Q (F0 m (pc + 1) ls (.ref (h (nI i).toNatClampNeg) :: rest))
    rw [nI_clamp (by omega)]
    exact kk)
end GR

/-! the next field stays the next one -/
def nxG (U : Nat → Bool) (s : Nat → Int32) (g : Int32) : Nat → Int32 × Int32
  | 0 => (-1, 0)
  | i + 1 => if U i = true then nxG U s g i else nfV (s i) (nI i) g (nxG U s g i).1 (nxG U s g i).2
theorem nf_G {N : Nat → Nat} {T : Tb} {tr now price money c h w a : Int32} : ∀ n, nfP N T tr now price money c h w a n = nxG (fun i => decide (t_X2_uncut_0 (T 0 i 2) (T 0 i 5) ≤ 0)) (fun i => bsP N T tr now price money c (nI i) h w a) (T 1 (ix c) 9) n
  | 0 => rfl
  | n + 1 => by
    show (if _ then _ else _) = (if _ then _ else _)
    rw [nf_G n]
    by_cases c1 : t_X2_uncut_0 (T 0 n 2) (T 0 n 5) ≤ 0
    · rw [if_pos c1, if_pos (decide_eq_true c1)]
    · rw [if_neg c1, if_neg (by simpa using c1)]
theorem nfV_c {s i g b m : Int32} : (m.toInt < s.toInt ∧ nfV s i g b m = (i, s)) ∨ (s = m ∧ 0 < s.toInt ∧ i = g ∧ nfV s i g b m = (i, s)) ∨ (s.toInt ≤ m.toInt ∧ (s = m → 0 < s.toInt → i ≠ g) ∧ nfV s i g b m = (b, m)) := by
  unfold nfV
  by_cases c1 : m < s
  · exact Or.inl ⟨Int32.lt_iff_toInt_lt.mp c1, if_pos c1⟩
  · have d1 := mt Int32.lt_iff_toInt_lt.mpr c1
    rw [if_neg c1]
    by_cases c2 : s = m
    · rw [if_pos c2]
      by_cases c3 : s ≤ 0
      · rw [if_pos c3]
        exact Or.inr (Or.inr ⟨by omega, fun _ z => absurd (i_le0.mp c3) (by omega), rfl⟩)
      · rw [if_neg c3]
        have d3 := mt i_le0.mpr c3
        by_cases c4 : i = g
        · rw [if_pos c4]
          exact Or.inr (Or.inl ⟨c2, by omega, c4, rfl⟩)
        · rw [if_neg c4]
          exact Or.inr (Or.inr ⟨by omega, fun _ _ => c4, rfl⟩)
    · rw [if_neg c2]
      exact Or.inr (Or.inr ⟨by omega, fun z => absurd z c2, rfl⟩)
theorem nx_best {U : Nat → Bool} {s : Nat → Int32} {g : Int32} : ∀ n, 0 ≤ (nxG U s g n).2.toInt ∧ (∀ i, i < n → U i = false → (s i).toInt ≤ (nxG U s g n).2.toInt) ∧ (((nxG U s g n).1 = -1 ∧ (nxG U s g n).2 = 0) ∨ ∃ j, j < n ∧ (nxG U s g n).1 = nI j ∧ U j = false ∧ s j = (nxG U s g n).2 ∧ 0 < (s j).toInt)
  | 0 => ⟨by show 0 ≤ (0 : Int32).toInt; decide, fun i hi => absurd hi (Nat.not_lt_zero _), Or.inl ⟨rfl, rfl⟩⟩
  | n + 1 => by
    obtain ⟨a1, a2, a3⟩ := nx_best (U := U) (s := s) (g := g) n
    have ad : nxG U s g (n + 1) = if U n = true then nxG U s g n else nfV (s n) (nI n) g (nxG U s g n).1 (nxG U s g n).2 := rfl
    rw [ad]
    by_cases c : U n = true
    · rw [if_pos c]
      refine ⟨a1, fun i hi hu => ?_, ?_⟩
      · by_cases z : i = n
        · rw [z, c] at hu
          cases hu
        · exact a2 i (by omega) hu
      · rcases a3 with a3 | ⟨j, hj, a3⟩
        · exact Or.inl a3
        · exact Or.inr ⟨j, by omega, a3⟩
    · rw [if_neg c]
      have cf : U n = false := by
        cases z : U n with
        | true => exact absurd z c
        | false => rfl
      obtain ⟨P, eP⟩ : ∃ P, P = nxG U s g n := ⟨_, rfl⟩
      rw [← eP] at a1 a2 a3 ⊢
      rcases nfV_c (s := s n) (i := nI n) (g := g) (b := P.1) (m := P.2) with ⟨b1, b2⟩ | ⟨b1, b2, b3, b4⟩ | ⟨b1, b2, b3⟩
      · rw [b2]
        refine ⟨by show 0 ≤ (s n).toInt; omega, fun i hi hu => ?_, Or.inr ⟨n, by omega, rfl, cf, rfl, by omega⟩⟩
        show (s i).toInt ≤ (s n).toInt
        by_cases z : i = n
        · rw [z]; exact Int.le_refl _
        · have := a2 i (by omega) hu
          omega
      · rw [b4]
        refine ⟨by show 0 ≤ (s n).toInt; omega, fun i hi hu => ?_, Or.inr ⟨n, by omega, rfl, cf, rfl, b2⟩⟩
        show (s i).toInt ≤ (s n).toInt
        by_cases z : i = n
        · rw [z]; exact Int.le_refl _
        · have := a2 i (by omega) hu
          rw [b1]
          exact this
      · rw [b3]
        refine ⟨a1, fun i hi hu => ?_, ?_⟩
        · show (s i).toInt ≤ P.2.toInt
          by_cases z : i = n
          · rw [z]; exact b1
          · exact a2 i (by omega) hu
        · rcases a3 with a3 | ⟨j, hj, a3⟩
          · exact Or.inl a3
          · exact Or.inr ⟨j, by omega, a3⟩
theorem nx_stay {U : Nat → Bool} {s : Nat → Int32} {g : Int32} {n j : Nat} (hn : n ≤ 600) (hj : j < n) (e : (nxG U s g n).1 = nI j) : (nxG U s (nI j) n).1 = nI j := by
  obtain ⟨a1, a2, a3⟩ := nx_best (U := U) (s := s) (g := g) n
  obtain ⟨M, eM⟩ : ∃ M, M = (nxG U s g n).2 := ⟨_, rfl⟩
  rw [← eM] at a1 a2 a3
  have hu : U j = false ∧ s j = M ∧ 0 < (s j).toInt := by
    rcases a3 with ⟨z, -⟩ | ⟨i, hi, z1, z2, z3, z4⟩
    · rw [e] at z
      exact absurd z (nI_m (by omega))
    · rw [e] at z1
      have : j = i := (nI_eq (by omega) (by omega)).mp z1
      subst this
      exact ⟨z2, z3, z4⟩
  obtain ⟨u1, u2, u3⟩ := hu
  have key : ∀ k, k ≤ n → (k ≤ j → 0 ≤ (nxG U s (nI j) k).2.toInt ∧ (nxG U s (nI j) k).2.toInt ≤ M.toInt) ∧ (j < k → (nxG U s (nI j) k).1 = nI j ∧ (nxG U s (nI j) k).2 = M) := by
    intro k
    induction k with
    | zero => intro _; exact ⟨fun _ => ⟨by show 0 ≤ (0 : Int32).toInt; decide, by show (0 : Int32).toInt ≤ _; rw [Int32.toInt_zero]; exact a1⟩, fun z => absurd z (Nat.not_lt_zero _)⟩
    | succ k ih =>
      intro hk
      obtain ⟨i1, i2⟩ := ih (by omega)
      have ad : nxG U s (nI j) (k + 1) = if U k = true then nxG U s (nI j) k else nfV (s k) (nI k) (nI j) (nxG U s (nI j) k).1 (nxG U s (nI j) k).2 := rfl
      rw [ad]
      obtain ⟨P, eP⟩ : ∃ P, P = nxG U s (nI j) k := ⟨_, rfl⟩
      rw [← eP] at i1 i2 ⊢
      by_cases c : U k = true
      · rw [if_pos c]
        refine ⟨fun z => i1 (by omega), fun z => ?_⟩
        by_cases z2 : k = j
        · rw [z2, u1] at c
          cases c
        · exact i2 (by omega)
      · rw [if_neg c]
        have cf : U k = false := by
          cases z : U k with
          | true => exact absurd z c
          | false => rfl
        have sk := a2 k (by omega) cf
        rcases nfV_c (s := s k) (i := nI k) (g := nI j) (b := P.1) (m := P.2) with ⟨b1, b2⟩ | ⟨b1, b2, b3, b4⟩ | ⟨b1, b2, b3⟩
        · rw [b2]
          refine ⟨fun z => ?_, fun z => ?_⟩
          · have := i1 (by omega)
            exact ⟨by show 0 ≤ (s k).toInt; omega, sk⟩
          · by_cases z2 : k = j
            · rw [z2]
              exact ⟨rfl, u2⟩
            · have := (i2 (by omega)).2
              rw [this] at b1
              omega
        · rw [b4]
          have z3 : k = j := (nI_eq (by omega) (by omega)).mp b3
          refine ⟨fun z => by omega, fun z => ?_⟩
          rw [z3]
          exact ⟨rfl, u2⟩
        · rw [b3]
          refine ⟨fun z => i1 (by omega), fun z => ?_⟩
          by_cases z2 : k = j
          · have q1 := i1 (by omega)
            rw [z2, u2] at b1
            have q2 : P.2 = M := Int32.toInt_inj.mp (by omega)
            rw [z2] at b2
            exact absurd rfl (b2 (by rw [u2, q2]) u3)
          · exact i2 (by omega)
  exact ((key n (Nat.le_refl _)).2 hj).1
theorem nfP_m1 {N : Nat → Nat} {T : Tb} {tr now price money c h w a : Int32} {n : Nat} : (nfP N T tr now price money c h w a n).1 = -1 ∨ ∃ j, j < n ∧ (nfP N T tr now price money c h w a n).1 = nI j ∧ 0 < bsP N T tr now price money c (nI j) h w a := by
  rw [nf_G]
  rcases (nx_best (U := fun i => decide (t_X2_uncut_0 (T 0 i 2) (T 0 i 5) ≤ 0)) (s := fun i => bsP N T tr now price money c (nI i) h w a) (g := T 1 (ix c) 9) n).2.2 with ⟨z, -⟩ | ⟨j, hj, z1, z2, z3, z4⟩
  · exact Or.inl z
  · exact Or.inr ⟨j, hj, z1, i_lt0.mpr z4⟩
theorem tu_tu {T : Tb} {k i : Nat} {f g : Row} : tu (tu T k i f) k i g = tu T k i g := funext fun q => funext fun j => by
  unfold tu
  split <;> rfl
theorem upd_upd {f : Row} {k : Nat} {v u : Int32} : upd (upd f k v) k u = upd f k u := funext fun j => by
  unfold upd
  split <;> rfl
theorem nfP_stay {N : Nat → Nat} {T : Tb} {tr now price money h w a : Int32} {c n j : Nat} (hc : c < 600) (hn : n ≤ 600) (hj : j < n) (e : (nfP N T tr now price money (nI c) h w a n).1 = nI j) : (nfP N (tu T 1 c (upd (T 1 c) 9 (nI j))) tr now price money (nI c) h w a n).1 = nI j := by
  have e1 : ix (nI c) = c := nI_clamp (by omega)
  obtain ⟨X, eX⟩ : ∃ X, X = tu T 1 c (upd (T 1 c) 9 (nI j)) := ⟨_, rfl⟩
  rw [← eX]
  have x0 : ∀ i, X 0 i = T 0 i := fun i => by rw [eX, tu_k (by decide)]
  have x1 : X 1 c = upd (T 1 c) 9 (nI j) := by rw [eX, tu_s]
  have xb : ∀ i, bsP N X tr now price money (nI c) (nI i) h w a = bsP N T tr now price money (nI c) (nI i) h w a := fun i => by
    have q1 : tu X 1 c (upd (X 1 c) 9 (nI i)) = tu T 1 c (upd (T 1 c) 9 (nI i)) := by rw [x1, upd_upd, eX, tu_tu]
    have q2 : X 1 c 11 = T 1 c 11 := by rw [x1]; exact upd_o (by decide)
    unfold bsP
    rw [e1, q1, q2]
  rw [nf_G] at e ⊢
  rw [e1] at e ⊢
  have y1 : (fun i => decide (t_X2_uncut_0 (X 0 i 2) (X 0 i 5) ≤ 0)) = fun i => decide (t_X2_uncut_0 (T 0 i 2) (T 0 i 5) ≤ 0) := funext fun i => by rw [x0]
  have y2 : (fun i => bsP N X tr now price money (nI c) (nI i) h w a) = fun i => bsP N T tr now price money (nI c) (nI i) h w a := funext xb
  rw [y1, y2, x1, upd_s]
  exact nx_stay hn hj e

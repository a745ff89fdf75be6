/-! the tickets of an hour, and what they are worth to whom -/
def tF (T4 T0 : Nat → Row) (j g : Nat) : Int32 := if T0 (ix (T4 j 0)) 0 = nI g then T4 j 6 - (T4 j 6 * T0 (ix (T4 j 0)) 4) / 100 else 0
def tL (T4 T0 : Nat → Row) (j g : Nat) : Int32 := if T0 (ix (T4 j 0)) 0 = nI g then (T4 j 6 * T0 (ix (T4 j 0)) 4) / 100 else 0
def fS (N : Nat → Nat) (T0 : Nat → Row) (g : Nat) : Int32 := sa 0 (fun j => if T0 j 0 = nI g then T0 j 11 else 0) (N 0)
def lS (N : Nat → Nat) (T0 : Nat → Row) (g : Nat) : Int32 := sa 0 (fun j => if T0 j 0 = nI g then T0 j 12 else 0) (N 0)
def Tk (N : Nat → Nat) (price mo0 : Int32) (F0 L0 : Row) (n0 n : Nat) (T4 T0 U4 : Nat → Row) (m : Int32) : Prop := n0 ≤ n ∧ (∀ j, j < n → ∀ k, k < 6 → U4 j k = T4 j k) ∧ (∀ j, j < n0 → U4 j 6 = T4 j 6) ∧ (∀ j, n0 ≤ j → j < n → (∃ f, f < N 0 ∧ T4 j 0 = nI f) ∧ T4 j 6 = ((T4 j 1 * price) * ((100 : Int32) - T4 j 3)) / (10000 : Int32)) ∧ m = mo0 + sa 0 (fun k => 2 * (T4 (n0 + k) 1 / 10)) (n - n0) ∧ (∀ g, g < 4 → fS N T0 g = F0 g + sa 0 (fun k => tF T4 T0 (n0 + k) g) (n - n0)) ∧ (∀ g, g < 4 → lS N T0 g = L0 g + sa 0 (fun k => tL T4 T0 (n0 + k) g) (n - n0))
theorem Tk.sale {N : Nat → Nat} {price mo0 m : Int32} {F0 L0 : Row} {n0 n f : Nat} {T4 T0 U4 T4' T0' U4' : Nat → Row} (h : Tk N price mo0 F0 L0 n0 n T4 T0 U4 m) (hf : f < N 0) (hf6 : N 0 ≤ 600) (hw : (T4' n) 6 = (((T4' n) 1 * price) * ((100 : Int32) - (T4' n) 3)) / (10000 : Int32)) (h0 : T4' n 0 = nI f) (h4 : ∀ j, j ≠ n → T4' j = T4 j) (hu : ∀ k, k < 6 → U4' n k = T4' n k) (hu4 : ∀ j, j ≠ n → U4' j = U4 j) (hc : T0' f = R_X2_credit_0 (T0 f) (T4' n 1) (T4' n 6)) (hc4 : ∀ j, j ≠ f → T0' j = T0 j) : Tk N price mo0 F0 L0 n0 (n + 1) T4' T0' U4' (m + 2 * (T4' n 1 / 10)) := by
  obtain ⟨hn, g1, g2, g3, g4, g5, g6⟩ := h
  have en : n + 1 - n0 = (n - n0) + 1 := by omega
  have en2 : n0 + (n - n0) = n := by omega
  have c0 : ∀ j, T0' j 0 = T0 j 0 := fun j => by
    by_cases e : j = f
    · subst e
      rw [hc]; rfl
    · rw [hc4 j e]
  have c4 : ∀ j, T0' j 4 = T0 j 4 := fun j => by
    by_cases e : j = f
    · subst e
      rw [hc]; rfl
    · rw [hc4 j e]
  have eix : ix (T4' n 0) = f := by rw [h0]; exact ix_n (by omega)
  refine ⟨by omega, fun j hj k hk => ?_, fun j hj => ?_, fun j hj1 hj2 => ?_, ?_, fun g hg => ?_, fun g hg => ?_⟩
  · by_cases e : j = n
    · subst e
      exact hu k hk
    · rw [h4 j e, hu4 j e]
      exact g1 j (by omega) k hk
  · rw [h4 j (by omega), hu4 j (by omega)]
    exact g2 j hj
  · by_cases e : j = n
    · subst e
      exact ⟨⟨f, hf, h0⟩, hw⟩
    · rw [h4 j e]
      exact g3 j hj1 (by omega)
  · rw [en, sa_s, en2, g4, Int32.add_assoc]
    rw [saC (f := fun k => 2 * (T4' (n0 + k) 1 / 10)) (g := fun k => 2 * (T4 (n0 + k) 1 / 10)) (fun k hk => by show 2 * (T4' (n0 + k) 1 / 10) = _; rw [h4 _ (by omega)])]
  · have ho : sa 0 (fun k => tF T4' T0' (n0 + k) g) (n - n0) = sa 0 (fun k => tF T4 T0 (n0 + k) g) (n - n0) := saC (fun k hk => by
      show tF T4' T0' (n0 + k) g = tF T4 T0 (n0 + k) g
      unfold tF
      rw [h4 _ (by omega), c0, c4])
    rw [en, sa_s, en2, ho, ← Int32.add_assoc, ← g5 g hg]
    unfold fS tF
    rw [eix, c0, c4]
    by_cases e : T0 f 0 = nI g
    · rw [if_pos e]
      refine saU (j := f) ?_ hf (fun k hk hne => ?_)
      · show (if T0' f 0 = nI g then T0' f 11 else 0) = (if T0 f 0 = nI g then T0 f 11 else 0) + _
        rw [c0, if_pos e, if_pos e, hc]
        rfl
      · show (if T0' k 0 = nI g then T0' k 11 else 0) = (if T0 k 0 = nI g then T0 k 11 else 0)
        rw [hc4 k hne]
    · rw [if_neg e, Int32.add_zero]
      refine saC (fun k hk => ?_)
      show (if T0' k 0 = nI g then T0' k 11 else 0) = (if T0 k 0 = nI g then T0 k 11 else 0)
      by_cases e2 : k = f
      · subst e2
        rw [c0, if_neg e, if_neg e]
      · rw [hc4 k e2]
  · have ho : sa 0 (fun k => tL T4' T0' (n0 + k) g) (n - n0) = sa 0 (fun k => tL T4 T0 (n0 + k) g) (n - n0) := saC (fun k hk => by
      show tL T4' T0' (n0 + k) g = tL T4 T0 (n0 + k) g
      unfold tL
      rw [h4 _ (by omega), c0, c4])
    rw [en, sa_s, en2, ho, ← Int32.add_assoc, ← g6 g hg]
    unfold lS tL
    rw [eix, c0, c4]
    by_cases e : T0 f 0 = nI g
    · rw [if_pos e]
      refine saU (j := f) ?_ hf (fun k hk hne => ?_)
      · show (if T0' f 0 = nI g then T0' f 12 else 0) = (if T0 f 0 = nI g then T0 f 12 else 0) + _
        rw [c0, if_pos e, if_pos e, hc]
        rfl
      · show (if T0' k 0 = nI g then T0' k 12 else 0) = (if T0 k 0 = nI g then T0 k 12 else 0)
        rw [hc4 k hne]
    · rw [if_neg e, Int32.add_zero]
      refine saC (fun k hk => ?_)
      show (if T0' k 0 = nI g then T0' k 12 else 0) = (if T0 k 0 = nI g then T0 k 12 else 0)
      by_cases e2 : k = f
      · subst e2
        rw [c0, if_neg e, if_neg e]
      · rw [hc4 k e2]
/-- what a truck's hour keeps -/
def DvC (N : Nat → Nat) (tr price : Int32) (n nr : Nat) (T U : Tb) (m : Int32) (S : TS) (U' : Tb) (n' : Nat) : Prop := Sm N tr S.1 U' ∧ n' + ph U' (N 2) ≤ nr + ph U (N 2) ∧ (tr = 0 → nr = n → n' = S.2.1 ∧ ∀ mo0 F0 L0 n0, Tk N price mo0 F0 L0 n0 n (T 4) (T 0) (U 4) m → Tk N price mo0 F0 L0 n0 S.2.1 (S.1 4) (S.1 0) (U' 4) S.2.2)
theorem DvC.quiet {N : Nat → Nat} {tr price : Int32} {n nr : Nat} {T U : Tb} {m : Int32} {S : TS} {U' : Tb} {n' : Nat} {T' : Tb} (eS : S = (T', n, m)) (en : n' = nr) (hs : Sm N tr T' U' ∧ ph U' (N 2) ≤ ph U (N 2) ∧ U' 4 = U 4) (h4 : T' 4 = T 4) (h0 : T' 0 = T 0) : DvC N tr price n nr T U m S U' n' := by
  subst eS en
  refine ⟨hs.1, Nat.add_le_add_left hs.2.1 _, fun _ e => ⟨e, fun mo0 F0 L0 n0 ht => ?_⟩⟩
  show Tk N price mo0 F0 L0 n0 n (T' 4) (T' 0) (U' 4) m
  rw [h4, h0, hs.2.2]
  exact ht

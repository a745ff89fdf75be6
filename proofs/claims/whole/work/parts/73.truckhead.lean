/-! a truck's hour beside the reference's -/
theorem saC {x : Int32} {f g : Nat → Int32} : ∀ {n : Nat}, (∀ k, k < n → f k = g k) → sa x f n = sa x g n
  | 0, _ => rfl
  | n + 1, h => by rw [sa_s, sa_s, saC (fun k hk => h k (by omega)), h n (by omega)]
theorem saU {x d : Int32} {f g : Nat → Int32} {j : Nat} (hj : g j = f j + d) : ∀ {n : Nat}, j < n → (∀ k, k < n → k ≠ j → g k = f k) → sa x g n = sa x f n + d
  | 0, h, _ => absurd h (Nat.not_lt_zero _)
  | n + 1, h, hk => by
    rw [sa_s, sa_s]
    by_cases e : j = n
    · subst e
      rw [saC (f := g) (g := f) (fun k q => hk k (by omega) (by omega)), hj, Int32.add_assoc]
    · rw [saU hj (n := n) (by omega) (fun k q => hk k (by omega)), hk n (by omega) (by omega), Int32.add_assoc, Int32.add_comm d, Int32.add_assoc]
theorem Sm.setU {N : Nat → Nat} {tr : Int32} {T U : Tb} {i k : Nat} {u : Row} (h : Sm N tr T U) (e0 : k = 0 → RF tr (T 0 i) u) (e1 : k ≠ 1) (e2 : k ≠ 2) (e3 : k ≠ 3) : Sm N tr T (tu U k i u) := by
  refine ⟨fun j hj => ?_, fun j hj => ?_, fun j hj => ?_, fun j hj => ?_⟩
  · exact ⟨tu_c (P := fun z => RF tr (T 0 j) z) (fun a b => by subst b; exact e0 a.symm) (h.1 j hj).1, (h.1 j hj).2⟩
  · rw [tu_k (Ne.symm e1)]; exact h.2.1 j hj
  · rw [tu_k (Ne.symm e2)]; exact h.2.2.1 j hj
  · rw [tu_k (Ne.symm e3)]; exact h.2.2.2 j hj
/-- trucks on their way to an elevator with a load -/
def ph (U : Tb) : Nat → Nat
  | 0 => 0
  | n + 1 => ph U n + (if U 2 n 0 = 2 then (if 0 < U 2 n 2 then 1 else 0) else 0)
def hl2 (u : Row) : Prop := u 0 = 2 ∧ 0 < u 2
theorem ph1 {U V : Tb} {n : Nat} (h : hl2 (V 2 n) → hl2 (U 2 n)) : (if V 2 n 0 = 2 then (if 0 < V 2 n 2 then 1 else 0) else 0) ≤ (if U 2 n 0 = 2 then (if 0 < U 2 n 2 then 1 else 0) else 0) := by
  by_cases a : V 2 n 0 = 2
  · by_cases b : 0 < V 2 n 2
    · obtain ⟨c, d⟩ := h ⟨a, b⟩
      rw [if_pos a, if_pos b, if_pos c, if_pos d]
      exact Nat.le_refl _
    · rw [if_pos a, if_neg b]
      exact Nat.zero_le _
  · rw [if_neg a]
    exact Nat.zero_le _
theorem ph_b {U : Tb} : ∀ n, ph U n ≤ n
  | 0 => Nat.le_refl _
  | n + 1 => by
    have := ph_b (U := U) n
    show ph U n + _ ≤ n + 1
    split
    · split <;> omega
    · omega
theorem ph_le {U V : Tb} : ∀ n, (∀ j, j < n → hl2 (V 2 j) → hl2 (U 2 j)) → ph V n ≤ ph U n
  | 0, _ => Nat.le_refl _
  | n + 1, h => Nat.add_le_add (ph_le n (fun j hj => h j (by omega))) (ph1 (h n (by omega)))
theorem ph_lt {U V : Tb} {i : Nat} (hv : ¬ hl2 (V 2 i)) (hu : hl2 (U 2 i)) : ∀ n, i < n → (∀ j, j < n → hl2 (V 2 j) → hl2 (U 2 j)) → ph V n + 1 ≤ ph U n
  | 0, h, _ => absurd h (Nat.not_lt_zero _)
  | n + 1, h, hk => by
    by_cases e : i = n
    · subst e
      have z := ph_le i (fun j hj => hk j (by omega))
      show ph V i + _ + 1 ≤ ph U i + (if U 2 i 0 = 2 then (if 0 < U 2 i 2 then 1 else 0) else 0)
      rw [if_pos hu.1, if_pos hu.2]
      have w : (if V 2 i 0 = 2 then (if 0 < V 2 i 2 then 1 else 0) else 0) = 0 := by
        by_cases a : V 2 i 0 = 2
        · rw [if_pos a, if_neg (fun b => hv ⟨a, b⟩)]
        · rw [if_neg a]
      rw [w]
      omega
    · have z := ph_lt hv hu n (by omega) (fun j hj => hk j (by omega))
      have z1 := ph1 (hk n (by omega))
      show ph V n + _ + 1 ≤ ph U n + _
      omega
theorem ph_up {U V : Tb} {i : Nat} : ∀ n, (∀ j, j < n → j ≠ i → hl2 (V 2 j) → hl2 (U 2 j)) → ph V n ≤ ph U n + 1
  | 0, _ => Nat.zero_le _
  | n + 1, h => by
    by_cases e : i = n
    · subst e
      have z := ph_le i (fun j hj => h j (by omega) (by omega))
      show ph V i + _ ≤ ph U i + _ + 1
      have w : (if V 2 i 0 = 2 then (if 0 < V 2 i 2 then 1 else 0) else 0) ≤ 1 := by
        split
        · split <;> omega
        · omega
      omega
    · have z := ph_up (i := i) n (fun j hj => h j (by omega))
      have z1 := ph1 (h n (by omega) (fun q => e q.symm))
      show ph V n + _ ≤ ph U n + _ + 1
      omega
/-- a change of one truck's row that makes no new one such -/
theorem ph_tu {U : Tb} {i n : Nat} {u : Row} (h : hl2 u → hl2 (U 2 i)) : ph (tu U 2 i u) n ≤ ph U n := ph_le n (fun j _ z => by
  by_cases e : j = i
  · subst e
    rw [tu_s] at z
    exact h z
  · rw [tu_i e] at z
    exact z)
theorem ph_o {U : Tb} {k i n : Nat} {u : Row} (hk : k ≠ 2) : ph (tu U k i u) n ≤ ph U n := ph_le n (fun j _ z => by
  rw [tu_k (Ne.symm hk)] at z
  exact z)
/-- sleeping; loading; driving; queueing; selling -/
def slR (U : Tb) (i : Nat) : Tb := (if ((U 2 i 6) + (1 : Int32)) = (8 : Int32) then (tu U 2 i (rw10 (U 2 i 0) (U 2 i 1) (U 2 i 2) (U 2 i 3) (U 2 i 4) (0 : Int32) (0 : Int32) (U 2 i 7) (U 2 i 8) (U 2 i 9))) else (tu U 2 i (rw10 (U 2 i 0) (U 2 i 1) (U 2 i 2) (U 2 i 3) (U 2 i 4) (U 2 i 5) ((U 2 i 6) + (1 : Int32)) (U 2 i 7) (U 2 i 8) (U 2 i 9))))
def ldR (U : Tb) (i : Nat) : Tb := (tu (tu U 2 i (rw10 (U 2 i 0) (U 2 i 1) (t_X7_load_0 (U 2 i 2) (U 2 i 3) (U 1 (ix (U 2 i 7)) 2) (U 1 (ix (U 2 i 7)) 3)) (t_X7_load_1 (U 2 i 2) (U 2 i 3) (U 1 (ix (U 2 i 7)) 2) (U 1 (ix (U 2 i 7)) 3)) (t_X7_load_2 (U 2 i 2) (U 2 i 3) (U 2 i 4) (U 1 (ix (U 2 i 7)) 2) (U 1 (ix (U 2 i 7)) 3) (U 1 (ix (U 2 i 7)) 4)) (U 2 i 5) (U 2 i 6) (U 2 i 7) (U 2 i 8) (U 2 i 9))) 1 (ix (U 2 i 7)) (rw11 (U 1 (ix (U 2 i 7)) 0) (U 1 (ix (U 2 i 7)) 1) (t_X7_load_3 (U 2 i 2) (U 2 i 3) (U 1 (ix (U 2 i 7)) 2) (U 1 (ix (U 2 i 7)) 3)) (U 1 (ix (U 2 i 7)) 3) (U 1 (ix (U 2 i 7)) 4) (U 1 (ix (U 2 i 7)) 5) (U 1 (ix (U 2 i 7)) 6) (U 1 (ix (U 2 i 7)) 7) (U 1 (ix (U 2 i 7)) 8) (U 1 (ix (U 2 i 7)) 9) (U 1 (ix (U 2 i 7)) 10)))
def dvR (U : Tb) (i : Nat) (m : Int32) : Tb := (tu U 2 i (rw10 (U 2 i 0) (t_X7_towardsT_0 (U 2 i 1) m (50 : Int32)) (U 2 i 2) (U 2 i 3) (U 2 i 4) ((U 2 i 5) + (1 : Int32)) (0 : Int32) (U 2 i 7) (U 2 i 8) ((U 2 i 9) + (ab ((t_X7_towardsT_0 (U 2 i 1) m (50 : Int32)) - (U 2 i 1))))))
def slS (N : Nat → Nat) (U : Tb) (now : Int32) (i v : Nat) : Tb := (tu (tu (tu (tu U 4 (N 4) (rw7 (U 2 i 3) (U 2 i 2) (U 2 i 4) ((2 : Int32) * (mx (0 : Int32) ((U 2 i 4) - (U 3 v 4)))) (U 2 i 7) now (0 : Int32))) 0 (ix (U 2 i 3)) (rw11 (U 0 (ix (U 2 i 3)) 0) (U 0 (ix (U 2 i 3)) 1) (U 0 (ix (U 2 i 3)) 2) (U 0 (ix (U 2 i 3)) 3) (U 0 (ix (U 2 i 3)) 4) (U 0 (ix (U 2 i 3)) 5) (U 0 (ix (U 2 i 3)) 6) (U 0 (ix (U 2 i 3)) 7) ((U 0 (ix (U 2 i 3)) 8) + (U 2 i 2)) (U 0 (ix (U 2 i 3)) 9) (U 0 (ix (U 2 i 3)) 10))) 3 v (rw6 (U 3 v 0) (U 3 v 1) (U 3 v 2) ((U 3 v 3) - (U 2 i 2)) (U 3 v 4) (U 3 v 5))) 2 i (rw10 (U 2 i 0) (U 2 i 1) (0 : Int32) (U 2 i 3) (U 2 i 4) (U 2 i 5) (U 2 i 6) (U 2 i 7) (U 2 i 8) (U 2 i 9)))
section UD
variable {N : Nat → Nat} {U : Tb} {now : Int32} {i v : Nat}
theorem ud_r (h1 : (10 : Int32) ≤ U 2 i 5) : u_X7_drive N U now i = slR U i ∧ n_X7_drive N U now i = N 4 := ⟨if_pos h1, if_pos h1⟩
theorem ud_0 (h1 : ¬ (10 : Int32) ≤ U 2 i 5) (h2 : U 2 i 0 = 0) (h3 : U 2 i 5 ≤ 0) : u_X7_drive N U now i = U ∧ n_X7_drive N U now i = N 4 := ⟨(if_neg h1).trans ((if_pos h2).trans (if_pos h3)), (if_neg h1).trans (if_pos h2)⟩
theorem ud_0r (h1 : ¬ (10 : Int32) ≤ U 2 i 5) (h2 : U 2 i 0 = 0) (h3 : ¬ U 2 i 5 ≤ 0) : u_X7_drive N U now i = slR U i ∧ n_X7_drive N U now i = N 4 := ⟨(if_neg h1).trans ((if_pos h2).trans (if_neg h3)), (if_neg h1).trans (if_pos h2)⟩
theorem ud_1l (h1 : ¬ (10 : Int32) ≤ U 2 i 5) (h2 : U 2 i 0 = 1) (h3 : U 2 i 1 = U 1 (ix (U 2 i 7)) 1) : u_X7_drive N U now i = ldR U i ∧ n_X7_drive N U now i = N 4 := ⟨(if_neg h1).trans ((if_neg (by rw [h2]; decide)).trans ((if_pos h2).trans (if_pos h3))), (if_neg h1).trans ((if_neg (by rw [h2]; decide)).trans (if_pos h2))⟩
theorem ud_1d (h1 : ¬ (10 : Int32) ≤ U 2 i 5) (h2 : U 2 i 0 = 1) (h3 : ¬ U 2 i 1 = U 1 (ix (U 2 i 7)) 1) : u_X7_drive N U now i = dvR U i (U 1 (ix (U 2 i 7)) 1) ∧ n_X7_drive N U now i = N 4 := ⟨(if_neg h1).trans ((if_neg (by rw [h2]; decide)).trans ((if_pos h2).trans (if_neg h3))), (if_neg h1).trans ((if_neg (by rw [h2]; decide)).trans (if_pos h2))⟩
theorem ud_2d (h1 : ¬ (10 : Int32) ≤ U 2 i 5) (h2 : U 2 i 0 = 2) (h3 : ¬ U 2 i 1 = U 3 (ix (U 2 i 7)) 1) : u_X7_drive N U now i = dvR U i (U 3 (ix (U 2 i 7)) 1) ∧ n_X7_drive N U now i = N 4 := ⟨(if_neg h1).trans ((if_neg (by rw [h2]; decide)).trans ((if_neg (by rw [h2]; decide)).trans (if_neg h3))), (if_neg h1).trans ((if_neg (by rw [h2]; decide)).trans ((if_neg (by rw [h2]; decide)).trans (if_neg h3)))⟩
theorem ud_2e (h1 : ¬ (10 : Int32) ≤ U 2 i 5) (h2 : U 2 i 0 = 2) (h3 : U 2 i 1 = U 3 (ix (U 2 i 7)) 1) (h4 : U 2 i 2 ≤ 0) : u_X7_drive N U now i = U ∧ n_X7_drive N U now i = N 4 := ⟨(if_neg h1).trans ((if_neg (by rw [h2]; decide)).trans ((if_neg (by rw [h2]; decide)).trans ((if_pos h3).trans (if_pos h4)))), (if_neg h1).trans ((if_neg (by rw [h2]; decide)).trans ((if_neg (by rw [h2]; decide)).trans ((if_pos h3).trans (if_pos h4))))⟩
theorem ud_2s (h1 : ¬ (10 : Int32) ≤ U 2 i 5) (h2 : U 2 i 0 = 2) (h3 : U 2 i 1 = U 3 (ix (U 2 i 7)) 1) (h4 : ¬ U 2 i 2 ≤ 0) : u_X7_drive N U now i = u_X7_sell N U now i (ix (U 2 i 7)) ∧ n_X7_drive N U now i = n_X7_sell N U now i (ix (U 2 i 7)) := ⟨(if_neg h1).trans ((if_neg (by rw [h2]; decide)).trans ((if_neg (by rw [h2]; decide)).trans ((if_pos h3).trans (if_neg h4)))), (if_neg h1).trans ((if_neg (by rw [h2]; decide)).trans ((if_neg (by rw [h2]; decide)).trans ((if_pos h3).trans (if_neg h4))))⟩
theorem us_q (h : q_X7_isOpen N U now v = 0 ∨ U 3 v 5 < U 2 i 4 ∨ ¬ U 2 i 2 ≤ U 3 v 3) : u_X7_sell N U now i v = tu U 2 i (rw10 (U 2 i 0) (U 2 i 1) (U 2 i 2) (U 2 i 3) (U 2 i 4) (U 2 i 5) (U 2 i 6) (U 2 i 7) ((U 2 i 8) + (1 : Int32)) (U 2 i 9)) ∧ n_X7_sell N U now i v = N 4 := by
  by_cases h1 : q_X7_isOpen N U now v = 0
  · exact ⟨if_pos h1, if_pos h1⟩
  · by_cases h2 : U 3 v 5 < U 2 i 4
    · exact ⟨(if_neg h1).trans (if_pos h2), (if_neg h1).trans (if_pos h2)⟩
    · have h3 := (h.resolve_left h1).resolve_left h2
      exact ⟨(if_neg h1).trans ((if_neg h2).trans (if_neg h3)), (if_neg h1).trans ((if_neg h2).trans (if_neg h3))⟩
theorem us_s (h1 : ¬ q_X7_isOpen N U now v = 0) (h2 : ¬ U 3 v 5 < U 2 i 4) (h3 : U 2 i 2 ≤ U 3 v 3) : u_X7_sell N U now i v = slS N U now i v ∧ n_X7_sell N U now i v = N 4 + 1 := ⟨(if_neg h1).trans ((if_neg h2).trans (if_pos h3)), (if_neg h1).trans ((if_neg h2).trans (if_pos h3))⟩
end UD
theorem mr_0 {a b c : Int32} : t_X5_mustRest_0 a b c = 0 ↔ ¬ (10 : Int32) ≤ a ∧ (b = -1 → c = -1 → a ≤ 0) := by
  unfold t_X5_mustRest_0
  rw [if_neg (show ¬ (1 : Int32) = 0 by decide), if_pos (show (0 : Int32) = 0 from rfl)]
  by_cases h1 : b = -1
  · by_cases h2 : c = -1
    · rw [if_pos h1, if_pos h2]
      by_cases h3 : (10 : Int32) ≤ a
      · rw [if_pos h3]
        exact ⟨fun z => absurd z (by decide), fun z => absurd h3 z.1⟩
      · rw [if_neg h3]
        by_cases h4 : a ≤ 0
        · rw [if_pos h4]
          exact ⟨fun _ => ⟨h3, fun _ _ => h4⟩, fun _ => rfl⟩
        · rw [if_neg h4]
          exact ⟨fun z => absurd z (by decide), fun z => absurd (z.2 h1 h2) h4⟩
    · rw [if_pos h1, if_neg h2]
      by_cases h3 : (10 : Int32) ≤ a
      · rw [if_pos h3]
        exact ⟨fun z => absurd z (by decide), fun z => absurd h3 z.1⟩
      · rw [if_neg h3]
        exact ⟨fun _ => ⟨h3, fun _ z => absurd z h2⟩, fun _ => rfl⟩
  · rw [if_neg h1]
    by_cases h3 : (10 : Int32) ≤ a
    · rw [if_pos h3]
      exact ⟨fun z => absurd z (by decide), fun z => absurd h3 z.1⟩
    · rw [if_neg h3]
      exact ⟨fun _ => ⟨h3, fun z => absurd z h1⟩, fun _ => rfl⟩
theorem opn_eq {N : Nat → Nat} {U : Tb} {now : Int32} {v : Nat} {f : Row} (h : RE f (U 3 v)) : q_X7_isOpen N U now v = t_X1_isOpen_0 (f 2) (f 3) (clk now) := by
  obtain ⟨e0, e1, e2, e3, e4, e5⟩ := h
  unfold q_X7_isOpen t_X1_isOpen_0
  rw [e0, e2]
theorem tak_0 {a1 a2 a3 a5 b2 b4 c : Int32} : t_X1_takes_0 a1 a2 a3 a5 b2 b4 c = 0 ↔ (t_X1_isOpen_0 a2 a3 c = 0 ∨ a5 < b4 ∨ a1 < b2) := by
  unfold t_X1_takes_0
  by_cases h1 : t_X1_isOpen_0 a2 a3 c = 0
  · rw [if_pos h1]
    exact ⟨fun _ => Or.inl h1, fun _ => rfl⟩
  · rw [if_neg h1]
    by_cases h2 : a5 < b4
    · rw [if_pos h2]
      exact ⟨fun _ => Or.inr (Or.inl h2), fun _ => rfl⟩
    · rw [if_neg h2]
      by_cases h3 : a1 < b2
      · rw [if_pos h3]
        exact ⟨fun _ => Or.inr (Or.inr h3), fun _ => rfl⟩
      · rw [if_neg h3]
        exact ⟨fun z => absurd z (by decide), fun z => absurd z (fun w => w.elim h1 (fun w => w.elim h2 h3))⟩

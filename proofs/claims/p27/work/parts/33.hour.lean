/-! an hour over a land, as a function of its tables -/
def ixR (n : Nat) (q : Int32) : Option Nat := if q < 0 then none else if q < nI n then some q.toNatClampNeg else none
theorem atR_n {Y : LY} {N : Nat → Nat} {k : Nat} {q : Int32} (h : ixR (N k) q = none) : atR Y N k q = none := by
  unfold ixR at h
  unfold atR
  split <;> rename_i h1
  · rfl
  · rw [if_neg h1] at h
    split <;> rename_i h2
    · rw [if_pos h2] at h; cases h
    · rfl
theorem atR_s {Y : LY} {N : Nat → Nat} {k j : Nat} {q : Int32} (h : ixR (N k) q = some j) : atR Y N k q = some (Y.2.2.2.2.2 k j) := by
  unfold ixR at h
  unfold atR
  split <;> rename_i h1
  · rw [if_pos h1] at h; cases h
  · rw [if_neg h1] at h
    split <;> rename_i h2
    · rw [if_pos h2] at h; cases h; rfl
    · rw [if_neg h2] at h; cases h
theorem ixR_lt {n j : Nat} {q : Int32} (hn : n ≤ 600) (h : ixR n q = some j) : j < n ∧ q = nI j := by
  unfold ixR at h
  split at h <;> rename_i h1
  · cases h
  · split at h <;> rename_i h2
    · cases h
      obtain ⟨j, hj31, hj⟩ := nI_of h1
      subst hj
      rw [nI_clamp (by omega)]
      exact ⟨(nI_ltI (by omega) (by omega)).mp h2, rfl⟩
    · cases h
theorem ixR_of {n j : Nat} (hn : n ≤ 600) (hj : j < n) : ixR n (nI j) = some j := by
  unfold ixR
  rw [if_neg (nI_pos (by omega)), if_pos ((nI_ltI (by omega) (by omega)).mpr hj), nI_clamp (by omega)]
theorem eC_ne {r r' k k' : Nat} {f f' : Row} (h : kc k ≠ kc k') : some (r, eC k f) ≠ some (r', eC k' f') := by
  obtain ⟨a, ha⟩ := eC_c k f
  obtain ⟨b, hb⟩ := eC_c k' f'
  rw [ha, hb]
  intro z
  injection z with z
  injection z with z1 z2
  injection z2 with z3
  injection z3 with z4 z5
  exact h z4
theorem eC_neL {r r' k : Nat} {f : Row} {Y : LY} {tr now price money : Int32} (h : kc k ≠ 4) : some (r, eC k f) ≠ some (r', ldE Y tr now price money) := by
  obtain ⟨a, ha⟩ := eC_c k f
  rw [ha]
  intro z
  injection z with z
  injection z with z1 z2
  injection z2 with z3
  injection z3 with z4 z5
  exact h z4
theorem nu_i {N : Nat → Nat} {k : Nat} : nu N k (N k) = N := funext fun j => by
  unfold nu
  split <;> rename_i h
  · rw [h]
  · rfl
theorem nu_nu {N : Nat → Nat} {k a b : Nat} : nu (nu N k a) k b = nu N k b := funext fun j => by
  unfold nu
  split <;> rfl
section LN
variable {G : GG} {M : HM} {t a : Nat} {Y : LY} {N : Nat → Nat} {T : Tb} {tr now price money : Int32}
theorem LdR.lsNew (h : LdR G M t a Y N T tr now price money) {k q r0 : Nat} {e : va_E} (hk : k < 5) (hq : M q = none) : LsR G (hu M q r0 e) t (Y.1 k) (N k) (Y.2.1 k) (Y.2.2.1 k) (Y.2.2.2.1 k) (Y.2.2.2.2.1 k) :=
  (h.2.1 k hk).same (fun _ _ hx _ => hu_n (hu_ne hx hq (by simp)) hx)
theorem LdR.elNew (h : LdR G M t a Y N T tr now price money) {k q r0 : Nat} {e : va_E} (hk : k < 5) (hq : M q = none) : ∀ i : Nat, i < N k → ∀ y : Nat, Y.2.2.2.2.1 k i = some y → ∃ rv en, hu M q r0 e y = some (rv, en) ∧ okv G en := by
  intro i hi y hy
  have h1 := h.at_g hk hi
  rw [h1] at hy
  cases hy
  have h2 := h.row hk hi
  exact ⟨_, _, hu_n (hu_ne h2 hq (by simp)) h2, eC_okv G hk _⟩
theorem LdR.addFr (h : LdR G M t a Y N T tr now price money) {k q : Nat} {e : va_E} {M2 : HM} (hk : k < 5) (hq : M q = none) (h6 : ∀ q', q' ≠ Y.1 k → (Y.2.2.2.1 k ≠ 0 → q' ≠ Y.2.2.1 k) → hu M q t e q' ≠ none → M2 q' = hu M q t e q') : Fr t M M2 := by
  intro x r e9 hr hx
  obtain ⟨l1, l2, l3, l4⟩ := h.2.1 k hk
  have h0 : hu M q t e x = some (r, e9) := hu_n (hu_ne hx hq (by simp)) hx
  rw [h6 x (fun z => ?_) (fun hc z => ?_) (by rw [h0]; simp)]
  · exact h0
  · rw [z, l1] at hx
    cases hx
    exact hr rfl
  · rcases l4 with ⟨l4, -⟩ | ⟨-, l5⟩
    · exact hc l4
    · rw [z, l5] at hx
      cases hx
      exact hr rfl
end LN
theorem nfX4 : ∀ j, j < 7 → defaultValue (tyX4 j) = vp_V [.int 0, .int 0, .int 0, .int 0, .int 0, .int 0, .int 0] j := by
  intro j hj
  match j, hj with
  | 0, _ => rfl
  | 1, _ => rfl
  | 2, _ => rfl
  | 3, _ => rfl
  | 4, _ => rfl
  | 5, _ => rfl
  | 6, _ => rfl
abbrev TS : Type := Tb × Nat × Int32
/-- the row of a ticket -/
def tkP (now price : Int32) (i e : Nat) (T : Tb) : Row := R_X4_init_0 (fun _ => 0) (T 2 i) (t_X1_discount_0 (T 3 e 4) (T 2 i 4)) now price
def wtP (n0 : Nat) (now price : Int32) (i e : Nat) (S : TS) : TS :=
  (match ixR n0 (tkP now price i e S.1 0) with
   | none => tu S.1 4 S.2.1 (tkP now price i e S.1)
   | some f => tu (tu S.1 4 S.2.1 (tkP now price i e S.1)) 0 f (R_X2_credit_0 (S.1 0 f) (tkP now price i e S.1 1) (tkP now price i e S.1 6)), S.2.1 + 1, S.2.2 + 2 * (tkP now price i e S.1 1 / 10))
theorem wtP_cnt {n0 : Nat} {now price : Int32} {i e : Nat} {S : TS} : (wtP n0 now price i e S).2.1 = S.2.1 + 1 := rfl
theorem wtP_n {n0 : Nat} {now price : Int32} {i e n : Nat} {T : Tb} {money : Int32} {tk : Row} (h : ixR n0 (tkP now price i e T 0) = none) (ht : tk = tkP now price i e T) : wtP n0 now price i e (T, n, money) = (tu T 4 n tk, n + 1, money + 2 * (tk 1 / 10)) := by
  subst ht
  unfold wtP
  rw [h]
theorem wtP_s {n0 : Nat} {now price : Int32} {i e n f : Nat} {T : Tb} {money : Int32} {tk : Row} (h : ixR n0 (tkP now price i e T 0) = some f) (ht : tk = tkP now price i e T) : wtP n0 now price i e (T, n, money) = (tu (tu T 4 n tk) 0 f (R_X2_credit_0 (T 0 f) (tk 1) (tk 6)), n + 1, money + 2 * (tk 1 / 10)) := by
  subst ht
  unfold wtP
  rw [h]
/-- at an elevator, with a load -/
def ulP (n0 : Nat) (tr now price : Int32) (i e : Nat) (S : TS) : TS :=
  if t_X1_takes_0 (S.1 3 e 1) (S.1 3 e 2) (S.1 3 e 3) (S.1 3 e 5) (S.1 2 i 2) (S.1 2 i 4) (clk now) = 0 then (tu S.1 2 i (upd (S.1 2 i) 6 (S.1 2 i 6 + 1)), S.2)
  else if tr = 0 then (tu (wtP n0 now price i e (tu S.1 3 e (upd (S.1 3 e) 1 (S.1 3 e 1 - S.1 2 i 2)), S.2)).1 2 i (upd ((wtP n0 now price i e (tu S.1 3 e (upd (S.1 3 e) 1 (S.1 3 e 1 - S.1 2 i 2)), S.2)).1 2 i) 2 0), (wtP n0 now price i e (tu S.1 3 e (upd (S.1 3 e) 1 (S.1 3 e 1 - S.1 2 i 2)), S.2)).2)
  else (tu (tu S.1 3 e (upd (S.1 3 e) 1 (S.1 3 e 1 - S.1 2 i 2))) 2 i (upd (S.1 2 i) 2 0), S.2)
section UL
variable {n0 : Nat} {tr now price : Int32} {i e n : Nat} {T : Tb} {money : Int32}
theorem ulP_q (h : t_X1_takes_0 (T 3 e 1) (T 3 e 2) (T 3 e 3) (T 3 e 5) (T 2 i 2) (T 2 i 4) (clk now) = 0) : ulP n0 tr now price i e (T, n, money) = (tu T 2 i (upd (T 2 i) 6 (T 2 i 6 + 1)), n, money) := if_pos h
theorem ulP_t (h : ¬ t_X1_takes_0 (T 3 e 1) (T 3 e 2) (T 3 e 3) (T 3 e 5) (T 2 i 2) (T 2 i 4) (clk now) = 0) (h2 : ¬ tr = 0) : ulP n0 tr now price i e (T, n, money) = (tu (tu T 3 e (upd (T 3 e) 1 (T 3 e 1 - T 2 i 2))) 2 i (upd (T 2 i) 2 0), n, money) := (if_neg h).trans (if_neg h2)
theorem ulP_r (h : ¬ t_X1_takes_0 (T 3 e 1) (T 3 e 2) (T 3 e 3) (T 3 e 5) (T 2 i 2) (T 2 i 4) (clk now) = 0) (h2 : tr = 0) : ulP n0 tr now price i e (T, n, money) = (tu (wtP n0 now price i e (tu T 3 e (upd (T 3 e) 1 (T 3 e 1 - T 2 i 2)), n, money)).1 2 i (upd ((wtP n0 now price i e (tu T 3 e (upd (T 3 e) 1 (T 3 e 1 - T 2 i 2)), n, money)).1 2 i) 2 0), (wtP n0 now price i e (tu T 3 e (upd (T 3 e) 1 (T 3 e 1 - T 2 i 2)), n, money)).2) := (if_neg h).trans (if_pos h2)
end UL
/-- what is so behind a step: the land by the new tables; the rest stays -/
def HP (G : GG) (M : HM) (t h0 : Nat) (Y : LY) (N : Nat → Nat) (tr now price : Int32) (S : TS) : HM → Prop := fun M' => ∃ Y', LdR G M' t h0 Y' (nu N 4 S.2.1) S.1 tr now price S.2.2 ∧ Fr t M M' ∧ (∀ k i, k ≠ 4 → Y'.2.2.2.2.2 k i = Y.2.2.2.2.2 k i) ∧ Y'.1 = Y.1
theorem HP.mk {G : GG} {M M' : HM} {t h0 : Nat} {Y Y' : LY} {N : Nat → Nat} {tr now price money : Int32} {T : Tb} {n : Nat} {S : TS} (h : S = (T, n, money)) (hL : LdR G M' t h0 Y' (nu N 4 n) T tr now price money) (hF : Fr t M M') (h1 : ∀ k i, k ≠ 4 → Y'.2.2.2.2.2 k i = Y.2.2.2.2.2 k i) (h2 : Y'.1 = Y.1) : HP G M t h0 Y N tr now price S M' := by
  subst h
  exact ⟨Y', hL, hF, h1, h2⟩
theorem HP.mk0 {G : GG} {M M' : HM} {t h0 : Nat} {Y : LY} {N : Nat → Nat} {tr now price money : Int32} {T : Tb} {S : TS} (h : S = (T, N 4, money)) (hL : LdR G M' t h0 Y N T tr now price money) (hF : Fr t M M') : HP G M t h0 Y N tr now price S M' := by
  subst h
  refine ⟨Y, ?_, hF, fun _ _ _ => rfl, rfl⟩
  show LdR G M' t h0 Y (nu N 4 (N 4)) T tr now price money
  rw [nu_i]
  exact hL
/-- a truck's hour -/
def trP (n0 n1 n3 : Nat) (tr now price : Int32) (i : Nat) (S : TS) : TS :=
  if t_X5_mustRest_0 (S.1 2 i 1) (S.1 2 i 7) (S.1 2 i 8) = 0 then
    match ixR n1 (S.1 2 i 7) with
    | some j => if S.1 2 i 0 = S.1 1 j 1 then (tu (tu S.1 2 i (R_X5_takeFrom_0 (S.1 2 i) (S.1 1 j))) 1 j (R_X5_takeFrom_1 (S.1 2 i) (S.1 1 j)), S.2) else (tu S.1 2 i (R_X5_drive_0 (S.1 2 i) (S.1 1 j 1)), S.2)
    | none => match ixR n3 (S.1 2 i 8) with
      | some v => if S.1 2 i 0 = S.1 3 v 0 then (if S.1 2 i 2 ≤ 0 then S else ulP n0 tr now price i v S) else (tu S.1 2 i (R_X5_drive_0 (S.1 2 i) (S.1 3 v 0)), S.2)
      | none => S
  else (tu S.1 2 i (R_X5_sleepHour_0 (S.1 2 i)), S.2)
section TRP
variable {n0 n1 n3 : Nat} {tr now price : Int32} {i j v n : Nat} {T : Tb} {money : Int32}
theorem trP_r (h : ¬ t_X5_mustRest_0 (T 2 i 1) (T 2 i 7) (T 2 i 8) = 0) : trP n0 n1 n3 tr now price i (T, n, money) = (tu T 2 i (R_X5_sleepHour_0 (T 2 i)), n, money) := if_neg h
theorem trP_ct (h : t_X5_mustRest_0 (T 2 i 1) (T 2 i 7) (T 2 i 8) = 0) (hc : ixR n1 (T 2 i 7) = some j) (h3 : T 2 i 0 = T 1 j 1) : trP n0 n1 n3 tr now price i (T, n, money) = (tu (tu T 2 i (R_X5_takeFrom_0 (T 2 i) (T 1 j))) 1 j (R_X5_takeFrom_1 (T 2 i) (T 1 j)), n, money) := by
  unfold trP
  rw [if_pos h]
  simp only [hc]
  rw [if_pos h3]
theorem trP_cd (h : t_X5_mustRest_0 (T 2 i 1) (T 2 i 7) (T 2 i 8) = 0) (hc : ixR n1 (T 2 i 7) = some j) (h3 : ¬ T 2 i 0 = T 1 j 1) : trP n0 n1 n3 tr now price i (T, n, money) = (tu T 2 i (R_X5_drive_0 (T 2 i) (T 1 j 1)), n, money) := by
  unfold trP
  rw [if_pos h]
  simp only [hc]
  rw [if_neg h3]
theorem trP_eu (h : t_X5_mustRest_0 (T 2 i 1) (T 2 i 7) (T 2 i 8) = 0) (hc : ixR n1 (T 2 i 7) = none) (he : ixR n3 (T 2 i 8) = some v) (h3 : T 2 i 0 = T 3 v 0) (h4 : ¬ T 2 i 2 ≤ 0) : trP n0 n1 n3 tr now price i (T, n, money) = ulP n0 tr now price i v (T, n, money) := by
  unfold trP
  rw [if_pos h]
  simp only [hc, he]
  rw [if_pos h3, if_neg h4]
theorem trP_e0 (h : t_X5_mustRest_0 (T 2 i 1) (T 2 i 7) (T 2 i 8) = 0) (hc : ixR n1 (T 2 i 7) = none) (he : ixR n3 (T 2 i 8) = some v) (h3 : T 2 i 0 = T 3 v 0) (h4 : T 2 i 2 ≤ 0) : trP n0 n1 n3 tr now price i (T, n, money) = (T, n, money) := by
  unfold trP
  rw [if_pos h]
  simp only [hc, he]
  rw [if_pos h3, if_pos h4]
theorem trP_ed (h : t_X5_mustRest_0 (T 2 i 1) (T 2 i 7) (T 2 i 8) = 0) (hc : ixR n1 (T 2 i 7) = none) (he : ixR n3 (T 2 i 8) = some v) (h3 : ¬ T 2 i 0 = T 3 v 0) : trP n0 n1 n3 tr now price i (T, n, money) = (tu T 2 i (R_X5_drive_0 (T 2 i) (T 3 v 0)), n, money) := by
  unfold trP
  rw [if_pos h]
  simp only [hc, he]
  rw [if_neg h3]
theorem trP_0 (h : t_X5_mustRest_0 (T 2 i 1) (T 2 i 7) (T 2 i 8) = 0) (hc : ixR n1 (T 2 i 7) = none) (he : ixR n3 (T 2 i 8) = none) : trP n0 n1 n3 tr now price i (T, n, money) = (T, n, money) := by
  unfold trP
  rw [if_pos h]
  simp only [hc, he]
theorem ulP_mono {S : TS} : S.2.1 ≤ (ulP n0 tr now price i v S).2.1 := by
  unfold ulP
  split
  · exact Nat.le_refl _
  · split
    · exact Nat.le_succ _
    · exact Nat.le_refl _
theorem trP_mono {S : TS} : S.2.1 ≤ (trP n0 n1 n3 tr now price i S).2.1 := by
  unfold trP
  split
  · split
    · split <;> exact Nat.le_refl _
    · split
      · split
        · split
          · exact Nat.le_refl _
          · exact ulP_mono
        · exact Nat.le_refl _
      · exact Nat.le_refl _
  · exact Nat.le_refl _
end TRP
/-- the fields' hours, the combines' hours, the trucks' hours; the hour -/
def fisP (cl w a r : Int32) : Nat → Tb → Tb
  | 0, T => T
  | i + 1, T => tu (fisP cl w a r i T) 0 i (R_X2_passHour_0 (fisP cl w a r i T 0 i) cl w a r)
def coP (n0 : Nat) (cl r : Int32) (i : Nat) (T : Tb) : Tb := match ixR n0 (T 1 i 9) with
  | none => T
  | some j => tu (tu T 1 i (R_X0_passHour_0 (T 1 i) (T 0 j) cl r)) 0 j (R_X0_passHour_1 (T 1 i) (T 0 j) cl r)
def cosP (n0 : Nat) (cl r : Int32) : Nat → Tb → Tb
  | 0, T => T
  | i + 1, T => coP n0 cl r i (cosP n0 cl r i T)
def trsP (n0 n1 n3 : Nat) (tr now price : Int32) : Nat → TS → TS
  | 0, S => S
  | i + 1, S => trP n0 n1 n3 tr now price i (trsP n0 n1 n3 tr now price i S)
def hrP (n0 n1 n2 n3 : Nat) (tr now price w a r : Int32) (S : TS) : TS := trsP n0 n1 n3 tr (now + 1) price n2 (cosP n0 (clk (now + 1)) r n1 (fisP (clk (now + 1)) w a r n0 S.1), S.2)
theorem coP_n {n0 : Nat} {cl r : Int32} {i : Nat} {T : Tb} (h : ixR n0 (T 1 i 9) = none) : coP n0 cl r i T = T := by
  unfold coP
  rw [h]
theorem coP_s {n0 : Nat} {cl r : Int32} {i j : Nat} {T : Tb} (h : ixR n0 (T 1 i 9) = some j) : coP n0 cl r i T = tu (tu T 1 i (R_X0_passHour_0 (T 1 i) (T 0 j) cl r)) 0 j (R_X0_passHour_1 (T 1 i) (T 0 j) cl r) := by
  unfold coP
  rw [h]
theorem trsP_mono {n0 n1 n3 : Nat} {tr now price : Int32} {S : TS} {i j : Nat} (h : i ≤ j) : (trsP n0 n1 n3 tr now price i S).2.1 ≤ (trsP n0 n1 n3 tr now price j S).2.1 := by
  induction h with
  | refl => exact Nat.le_refl _
  | step _ ih => exact Nat.le_trans ih trP_mono
theorem trsP_ge {n0 n1 n3 : Nat} {tr now price : Int32} {S : TS} {i : Nat} : S.2.1 ≤ (trsP n0 n1 n3 tr now price i S).2.1 := trsP_mono (Nat.zero_le i)
section WC
variable {p : Program} {l : Launch} {e : Env} {R : Room} {s : State} {m : MethodId} {args : Array Value} {below : List Frame} {meth : Method} {c : Code} {H : Heap} {locs : List Loc} {cells slots cells' slots' : Nat} {Q : State → Prop} {g : JFrame}
theorem W.cst (e1 : cells = cells') (e2 : slots = slots') (h : W p l e R s m args below meth c H locs cells' slots' Q g) : W p l e R s m args below meth c H locs cells slots Q g := by
  subst e1 e2
  exact h
end WC

set_option maxHeartbeats 4000000 in
set_option maxRecDepth 100000 in
theorem c_X3_writeTicket (l : Launch) (G : GG) (M : HM) (t h0 : Nat) (Y : LY) (N : Nat → Nat) (T : Tb) (tr now price money : Int32)  (hL : LdR G M t h0 Y N T tr now price money) (i ev : Nat) (hi : i < N 2) (hev : ev < N 3) (hN4 : N 4 < 600): Mv l yX3_writeTicket (.code yX3_writeTicket cX3_writeTicket 5 none :: AL) 7 171 2 (7 + (N 4 + N 4 / 2 + 10)) [.ref h0, .ref (Y.2.2.2.2.2 2 i), .ref (Y.2.2.2.2.2 3 ev)] G M (HP G M t h0 Y N tr now price (wtP (N 0) now price i ev (T, N 4, money))) := by
  refine Mv.go (by decide) (Nat.le_of_ble_eq_true rfl) ?_
  intro p e s m below meth c ls hx hb hr hml hown hlocks hname hts hK hM hl
  have hown : s.vm.findClass RX3 = some m.cls := hown
  have hl : lv_has ls 5 [(0, .ref h0), (1, .ref (Y.2.2.2.2.2 2 i)), (2, .ref (Y.2.2.2.2.2 3 ev))] := hl
  refine g_new (ci := 5) (fs := [.int 0, .int 0, .int 0, .int 0, .int 0, .int 0, .int 0]) hx hb hts hown hK hM iaX4 rfl tyX4 tyX4_ok wk_X3_93 wb_X4 wn_X4 nfX4 t (by show _ ≤ 2; omega) (by show _ ≤ 7 + (N 4 + N 4 / 2 + 10); omega) dX3_writeTicket_0 (fun q H hq0 hM => ?_)
  have n2 : (Y.2.2.2.2.2 2 i) ≠ q := hu_ne (hL.row (k := 2) (by decide) hi) hq0 (by simp)
  have n3 : (Y.2.2.2.2.2 3 ev) ≠ q := hu_ne (hL.row (k := 3) (by decide) hev) hq0 (by simp)
  have nl : h0 ≠ q := hu_ne hL.1 hq0 (by simp)
  refine lv_dup hx hb dX3_writeTicket_3 rfl ?_
  refine lv_aload_n hx hb dX3_writeTicket_4 rfl (lv_at hl 1 rfl) ?_
  refine lv_aload_n hx hb dX3_writeTicket_5 rfl (lv_at hl 2 rfl) ?_
  refine lv_aload_n hx hb dX3_writeTicket_6 rfl (lv_at hl 1 rfl) ?_
  refine fg_X3_167 hx hb hts hown hK hM (hu_n n2 (hL.row (k := 2) (by decide) hi)) dX3_writeTicket_7 ?_
  refine g_callVi (n9 := 1) (As := [.int ((T 2 i) 4)]) (rest := [.ref (Y.2.2.2.2.2 2 i), .ref q, .ref q]) hx hb hml hl.1 hown hts hK hM (cr_X1_discount l G _ (Y.2.2.2.2.2 3 ev) t (T 3 ev) ((T 2 i) 4) (hu_n n3 (hL.row (k := 3) (by decide) hev)) ) wm_X3_170 wi_X1_discount wl_X1_discount wn_X1 wc_X1_discount (by decide +kernel) (hM.recv hK (ci := 2) rfl (hu_n n3 (hL.row (k := 3) (by decide) hev))) ⟨Nat.le_of_ble_eq_true rfl, Nat.le_of_ble_eq_true rfl⟩ ⟨by show _ ≤ 2; omega, by show _ ≤ 7 + (N 4 + N 4 / 2 + 10); omega⟩ rfl (Nat.le_of_ble_eq_true rfl) rfl dX3_writeTicket_10 (fun r_10 Mz H locs hq hM => ?_)
  have hq1 := hq.1.symm
  have hq2 := hq.2.symm
  subst hq1 hq2
  refine lv_aload_n hx hb dX3_writeTicket_13 rfl (lv_at hl 0 rfl) ?_
  refine fg_X3_41 hx hb hts hown hK hM (hu_n nl hL.1) dX3_writeTicket_14 ?_
  refine lv_aload_n hx hb dX3_writeTicket_17 rfl (lv_at hl 0 rfl) ?_
  refine fg_X3_30 hx hb hts hown hK hM (hu_n nl hL.1) dX3_writeTicket_18 ?_
  refine g_callIv (n9 := 4) (As := [.ref (Y.2.2.2.2.2 2 i), .int (t_X1_discount_0 ((T 3 ev) 4) ((T 2 i) 4)), .int now, .int price]) (rest := [.ref q]) hx hb hml hl.1 hown hts hK hM (cr_X4_init l G _ q t (Y.2.2.2.2.2 2 i) t (fun _ => 0) (T 2 i) (t_X1_discount_0 ((T 3 ev) 4) ((T 2 i) 4)) now price hu_s (hu_n n2 (hL.row (k := 2) (by decide) hi)) (Ne.symm n2)) wm_X3_174 wi_X4_init wn_X4 rfl wc_X4_init (by decide +kernel) ⟨Nat.le_of_ble_eq_true rfl, Nat.le_of_ble_eq_true rfl⟩ ⟨by show _ ≤ 2; omega, by show _ ≤ 7 + (N 4 + N 4 / 2 + 10); omega⟩ rfl (Nat.le_of_ble_eq_true rfl) rfl dX3_writeTicket_21 (fun Mz H locs hq hM => ?_)
  subst hq
  obtain ⟨tk, etk⟩ : ∃ z, z = (R_X4_init_0 (fun _ => 0) (T 2 i) (t_X1_discount_0 ((T 3 ev) 4) ((T 2 i) 4)) now price) := ⟨_, rfl⟩
  rw [← etk] at hM
  replace hM := hM.eq (hu_u _ _ _ _ _ _)
  refine lv_astore_n (lv' := [(3, .ref q), (0, .ref h0), (1, .ref (Y.2.2.2.2.2 2 i)), (2, .ref (Y.2.2.2.2.2 3 ev))]) hx hb dX3_writeTicket_24 rfl hl (by decide) rfl (fun ls hl => ?_)
  refine lv_aload_n hx hb dX3_writeTicket_25 rfl (lv_at hl 1 rfl) ?_
  refine fg_X3_27 hx hb hts hown hK hM (hu_n nl hL.1) dX3_writeTicket_26 ?_
  refine lv_aload_n hx hb dX3_writeTicket_29 rfl (lv_at hl 0 rfl) ?_
  refine g_callVi (n9 := 1) (As := [.ref q]) (rest := []) hx hb hml hl.1 hown hts hK hM (c_add l G _ (Y.1 4) t q t (N 4) (Y.2.2.1 4) (Y.2.2.2.1 4) (eC 4 tk) (Y.2.2.2.2.1 4) (Y.2.1 4) (hL.lsNew (k := 4) (by decide) hq0) hu_s (eC_okv G (by decide) tk) (by omega) (hL.elNew (k := 4) (by decide) hq0)) wm_X3_80 wi_Jx4a65c_add_9ea2d wl_Jx4a65c_add_9ea2d wn_Jx4a65c wc_Jx4a65c_add_9ea2d (by decide +kernel) (hM.recv hK (ci := 0) rfl (hL.lsNew (k := 4) (by decide) hq0).1) ⟨Nat.le_of_ble_eq_true rfl, Nat.le_of_ble_eq_true rfl⟩ ⟨by show _ ≤ 2; omega, by show _ ≤ 7 + (N 4 + N 4 / 2 + 10); omega⟩ rfl (Nat.le_of_ble_eq_true rfl) rfl dX3_writeTicket_30 (fun r_30 M1 H locs hq hM => ?_)
  obtain ⟨hq1, ar1, cap1, g1, b1, b2, b3, b4, b5, b6⟩ := hq
  have hL1 := hL.add (k := 4) (by decide) hq0 rfl (by omega) b1 b2 b3 b4 b5 b6
  have hF1 : Fr t M M1 := hL.addFr (k := 4) (by decide) hq0 b6
  obtain ⟨Y1, eY1⟩ : ∃ z, z = yu Y 4 (N 4) (Y.2.1 4 + 1) ar1 cap1 g1 q := ⟨_, rfl⟩
  rw [← eY1] at hL1
  have hYa : ∀ k i, k ≠ 4 → Y1.2.2.2.2.2 k i = Y.2.2.2.2.2 k i := fun k i hk => by rw [eY1]; exact if_neg (fun z => hk z.1)
  have hYl : Y1.1 = Y.1 := by rw [eY1]; rfl
  have hYq : Y1.2.2.2.2.2 4 (N 4) = q := by rw [eY1]; exact if_pos ⟨rfl, rfl⟩
  have hqr : M1 q = some (t, eC 4 tk) := by
    have h9 := hL1.row (k := 4) (i := N 4) (by decide) (by rw [nu_s]; omega)
    rw [hYq, tu_s] at h9
    exact h9
  refine lv_pop hx hb dX3_writeTicket_33 rfl ?_
  refine lv_aload_n hx hb dX3_writeTicket_34 rfl (lv_at hl 1 rfl) ?_
  refine lv_dup hx hb dX3_writeTicket_35 rfl ?_
  refine fg_X3_34 hx hb hts hown hK hM hL1.1 dX3_writeTicket_36 ?_
  refine lv_iconst (v := (2 : Int32)) hx hb dX3_writeTicket_39 (by decide) ?_
  refine lv_aload_n hx hb dX3_writeTicket_40 rfl (lv_at hl 0 rfl) ?_
  refine fg_X3_177 hx hb hts hown hK hM hqr dX3_writeTicket_41 ?_
  refine lv_bipush (v := (10 : Int32)) hx hb dX3_writeTicket_44 (by decide) ?_
  refine lv_idiv hx hb dX3_writeTicket_46 (by decide) ?_
  refine lv_imul hx hb dX3_writeTicket_47 ?_
  refine lv_iadd hx hb dX3_writeTicket_48 ?_
  refine fp_X3_34 hx hb hts hown hK hM hL1.1 dX3_writeTicket_49 (fun H locs hM => ?_)
  obtain ⟨M2, eM2⟩ : ∃ z, z = hu M1 h0 t (ldE Y1 tr now price (money + ((2 : Int32) * ((tk 1) / (10 : Int32))))) := ⟨_, rfl⟩
  replace hM := hM.eq eM2.symm
  have hL2 : LdR G M2 t h0 Y1 (nu N 4 (N 4 + 1)) (tu T 4 (N 4) tk) tr now price (money + ((2 : Int32) * ((tk 1) / (10 : Int32)))) := by rw [eM2]; exact hL1.setLand _ _ _
  have hF2 : Fr t M M2 := by rw [eM2]; exact Fr.tr hF1 (Fr.up hL1.1)
  have hr2_4 : M2 q = some (t, eC 4 tk) := by rw [eM2]; exact hu_n (hu_ne hqr hL1.1 (eC_neL (by decide))) hqr
  refine lv_aload_n hx hb dX3_writeTicket_52 rfl (lv_at hl 1 rfl) ?_
  refine lv_aload_n hx hb dX3_writeTicket_53 rfl (lv_at hl 0 rfl) ?_
  refine fg_X3_180 hx hb hts hown hK hM hr2_4 dX3_writeTicket_54 ?_
  have etk0 : tk 0 = T 2 i 3 := by rw [etk]; rfl
  rcases hix : ixR (N 0) (tk 0) with _ | f
  · refine g_callVq (n9 := 1) (As := [.int (tk 0)]) (rest := []) hx hb hml hl.1 hown hts hK hM (c_X3_fieldAt l G _ t h0 Y1 (nu N 4 (N 4 + 1)) _ tr now price (money + ((2 : Int32) * ((tk 1) / (10 : Int32)))) (tk 0) hL2) wm_X3_105 wi_X3_fieldAt wl_X3_fieldAt wn_X3 wc_X3_fieldAt (by decide +kernel) (hM.recv hK (ci := 4) rfl hL2.1) ⟨Nat.le_of_ble_eq_true rfl, Nat.le_of_ble_eq_true rfl⟩ ⟨by show _ ≤ 2; omega, by show _ ≤ 7 + (N 4 + N 4 / 2 + 10); omega⟩ rfl (Nat.le_of_ble_eq_true rfl) rfl dX3_writeTicket_57 (fun r_57 Mz H locs hq hM => ?_)
    have hq1 := (hq.1.trans (atR_n (N := nu N 4 (N 4 + 1)) (k := 0) hix)).symm
    have hq2 := hq.2.symm
    subst hq1 hq2
    refine lv_astoreN (lv' := [(4, .null), (3, .ref q), (0, .ref h0), (1, .ref (Y.2.2.2.2.2 2 i)), (2, .ref (Y.2.2.2.2.2 3 ev))]) hx hb dX3_writeTicket_60 hl (by decide) rfl (fun ls hl => ?_)
    refine lv_aloadN hx hb dX3_writeTicket_62 (lv_at hl 0 rfl) ?_
    refine lv_ifnullN (tgt := 80) hx hb dX3_writeTicket_64 (by decide) ?_
    exact g_vret hx hb hr hlocks hM (by show _ ≤ 2; omega) (by show _ ≤ 7 + (N 4 + N 4 / 2 + 10); omega) (HP.mk (wtP_n (by rw [etk] at hix; exact hix) etk) hL2 hF2 hYa hYl) dX3_writeTicket_80
  · refine g_callVq (n9 := 1) (As := [.int (tk 0)]) (rest := []) hx hb hml hl.1 hown hts hK hM (c_X3_fieldAt l G _ t h0 Y1 (nu N 4 (N 4 + 1)) _ tr now price (money + ((2 : Int32) * ((tk 1) / (10 : Int32)))) (tk 0) hL2) wm_X3_105 wi_X3_fieldAt wl_X3_fieldAt wn_X3 wc_X3_fieldAt (by decide +kernel) (hM.recv hK (ci := 4) rfl hL2.1) ⟨Nat.le_of_ble_eq_true rfl, Nat.le_of_ble_eq_true rfl⟩ ⟨by show _ ≤ 2; omega, by show _ ≤ 7 + (N 4 + N 4 / 2 + 10); omega⟩ rfl (Nat.le_of_ble_eq_true rfl) rfl dX3_writeTicket_57 (fun r_57 Mz H locs hq hM => ?_)
    have hq1 := (hq.1.trans (atR_s (N := nu N 4 (N 4 + 1)) (k := 0) hix)).symm
    have hq2 := hq.2.symm
    subst hq1 hq2
    have hf : f < N 0 := (ixR_lt (hL.2.2.2.2.2.2.1 0) hix).1
    refine lv_astore (lv' := [(4, .ref (Y1.2.2.2.2.2 0 f)), (3, .ref q), (0, .ref h0), (1, .ref (Y.2.2.2.2.2 2 i)), (2, .ref (Y.2.2.2.2.2 3 ev))]) hx hb dX3_writeTicket_60 hl (by decide) rfl (fun ls hl => ?_)
    refine lv_aload hx hb dX3_writeTicket_62 (lv_at hl 0 rfl) ?_
    refine lv_ifnull hx hb dX3_writeTicket_64 ?_
    refine lv_aload hx hb dX3_writeTicket_67 (lv_at hl 0 rfl) ?_
    refine lv_aload_n hx hb dX3_writeTicket_69 rfl (lv_at hl 1 rfl) ?_
    refine fg_X3_177 hx hb hts hown hK hM hr2_4 dX3_writeTicket_70 ?_
    refine lv_aload_n hx hb dX3_writeTicket_73 rfl (lv_at hl 1 rfl) ?_
    refine fg_X3_183 hx hb hts hown hK hM hr2_4 dX3_writeTicket_74 ?_
    refine g_callVv (n9 := 2) (As := [.int (tk 1), .int (tk 6)]) (rest := []) hx hb hml hl.1 hown hts hK hM (cr_X2_credit l G _ (Y1.2.2.2.2.2 0 f) t (T 0 f) (tk 1) (tk 6) (hL2.row (k := 0) (i := f) (by decide) hf) ) wm_X3_186 wi_X2_credit wl_X2_credit wn_X2 wc_X2_credit (by decide +kernel) (hM.recv hK (ci := 3) rfl (hL2.row (k := 0) (i := f) (by decide) hf)) ⟨Nat.le_of_ble_eq_true rfl, Nat.le_of_ble_eq_true rfl⟩ ⟨by show _ ≤ 2; omega, by show _ ≤ 7 + (N 4 + N 4 / 2 + 10); omega⟩ rfl (Nat.le_of_ble_eq_true rfl) rfl dX3_writeTicket_77 (fun Mz H locs hq hM => ?_)
    subst hq
    obtain ⟨M3, eM3⟩ : ∃ z, z = hu M2 (Y1.2.2.2.2.2 0 f) t (eC 0 (R_X2_credit_0 (T 0 f) (tk 1) (tk 6))) := ⟨_, rfl⟩
    replace hM := hM.eq eM3.symm
    have hL3 : LdR G M3 t h0 Y1 (nu N 4 (N 4 + 1)) (tu (tu T 4 (N 4) tk) 0 f (R_X2_credit_0 (T 0 f) (tk 1) (tk 6))) tr now price (money + ((2 : Int32) * ((tk 1) / (10 : Int32)))) := by rw [eM3]; exact hL2.setRow (k := 0) (by decide) hf (R_X2_credit_0 (T 0 f) (tk 1) (tk 6))
    have hF3 : Fr t M M3 := by rw [eM3]; exact Fr.tr hF2 (Fr.up (hL2.row (k := 0) (i := f) (by decide) hf))
    have hr3_4 : M3 q = some (t, eC 4 tk) := by rw [eM3]; exact hu_n (hu_ne hr2_4 (hL2.row (k := 0) (i := f) (by decide) hf) (eC_ne (by decide))) hr2_4
    have hr3_0 : M3 (Y1.2.2.2.2.2 0 f) = some (t, eC 0 (R_X2_credit_0 (T 0 f) (tk 1) (tk 6))) := by rw [eM3]; exact hu_s
    exact g_vret hx hb hr hlocks hM (by show _ ≤ 2; omega) (by show _ ≤ 7 + (N 4 + N 4 / 2 + 10); omega) (HP.mk (wtP_s (f := f) (by rw [etk] at hix; exact hix) etk) hL3 hF3 hYa hYl) dX3_writeTicket_80
set_option maxHeartbeats 4000000 in
set_option maxRecDepth 100000 in
theorem c_X3_unload (l : Launch) (G : GG) (M : HM) (t h0 : Nat) (Y : LY) (N : Nat → Nat) (T : Tb) (tr now price money : Int32)  (hL : LdR G M t h0 Y N T tr now price money) (i ev : Nat) (hi : i < N 2) (hev : ev < N 3) (hN4 : N 4 < 600): Mv l yX3_unload (.code yX3_unload cX3_unload 3 none :: AL) 8 195 (2 * ((ulP (N 0) tr now price i ev (T, N 4, money)).2.1 - N 4)) (1000 * ((ulP (N 0) tr now price i ev (T, N 4, money)).2.1 - N 4)) [.ref h0, .ref (Y.2.2.2.2.2 2 i), .ref (Y.2.2.2.2.2 3 ev)] G M (HP G M t h0 Y N tr now price (ulP (N 0) tr now price i ev (T, N 4, money))) := by
  refine Mv.go (by decide) (Nat.le_of_ble_eq_true rfl) ?_
  intro p e s m below meth c ls hx hb hr hml hown hlocks hname hts hK hM hl
  have hown : s.vm.findClass RX3 = some m.cls := hown
  have hl : lv_has ls 3 [(0, .ref h0), (1, .ref (Y.2.2.2.2.2 2 i)), (2, .ref (Y.2.2.2.2.2 3 ev))] := hl
  refine lv_aload_n hx hb dX3_unload_0 rfl (lv_at hl 2 rfl) ?_
  refine lv_aload_n hx hb dX3_unload_1 rfl (lv_at hl 1 rfl) ?_
  refine lv_aload_n hx hb dX3_unload_2 rfl (lv_at hl 0 rfl) ?_
  refine g_callVi (n9 := 0) (As := []) (rest := [.ref (Y.2.2.2.2.2 2 i), .ref (Y.2.2.2.2.2 3 ev)]) hx hb hml hl.1 hown hts hK hM (c_X3_clock l G _ t h0 Y N _ tr now price money hL) wm_X3_95 wi_X3_clock wl_X3_clock wn_X3 wc_X3_clock (by decide +kernel) (hM.recv hK (ci := 4) rfl hL.1) ⟨Nat.le_of_ble_eq_true rfl, Nat.le_of_ble_eq_true rfl⟩ ⟨Nat.le_trans (Nat.le_of_ble_eq_true rfl) (Nat.zero_le _), Nat.le_trans (Nat.le_of_ble_eq_true rfl) (Nat.zero_le _)⟩ rfl (Nat.le_of_ble_eq_true rfl) rfl dX3_unload_3 (fun r_3 Mz H locs hq hM => ?_)
  have hq1 := hq.1.symm
  have hq2 := hq.2.symm
  subst hq1 hq2
  refine g_callVi (n9 := 2) (As := [.ref (Y.2.2.2.2.2 2 i), .int (clk now)]) (rest := []) hx hb hml hl.1 hown hts hK hM (cr_X1_takes l G _ (Y.2.2.2.2.2 3 ev) t (Y.2.2.2.2.2 2 i) t (T 3 ev) (T 2 i) (clk now) (hL.row (k := 3) (by decide) hev) (hL.row (k := 2) (by decide) hi) (hu_ne (hL.row (k := 3) (by decide) hev) (hL.row (k := 2) (by decide) hi) (eC_ne (by decide)))) wm_X3_154 wi_X1_takes wl_X1_takes wn_X1 wc_X1_takes (by decide +kernel) (hM.recv hK (ci := 2) rfl (hL.row (k := 3) (by decide) hev)) ⟨Nat.le_of_ble_eq_true rfl, Nat.le_of_ble_eq_true rfl⟩ ⟨Nat.le_trans (Nat.le_of_ble_eq_true rfl) (Nat.zero_le _), Nat.le_trans (Nat.le_of_ble_eq_true rfl) (Nat.zero_le _)⟩ rfl (Nat.le_of_ble_eq_true rfl) rfl dX3_unload_6 (fun r_6 Mz H locs hq hM => ?_)
  have hq1 := hq.1.symm
  have hq2 := hq.2.symm
  subst hq1 hq2
  refine lv_if_ne (tgt := 23) hx hb dX3_unload_9 (by decide) (fun c1 => ?_) (fun c1 => ?_)
  · refine lv_aload_n hx hb dX3_unload_23 rfl (lv_at hl 2 rfl) ?_
    refine lv_dup hx hb dX3_unload_24 rfl ?_
    refine fg_X3_161 hx hb hts hown hK hM (hL.row (k := 3) (by decide) hev) dX3_unload_25 ?_
    refine lv_aload_n hx hb dX3_unload_28 rfl (lv_at hl 1 rfl) ?_
    refine fg_X3_147 hx hb hts hown hK hM (hL.row (k := 2) (by decide) hi) dX3_unload_29 ?_
    refine lv_isub hx hb dX3_unload_32 ?_
    refine fp_X3_161 hx hb hts hown hK hM (hL.row (k := 3) (by decide) hev) dX3_unload_33 (fun H locs hM => ?_)
    obtain ⟨M1, eM1⟩ : ∃ z, z = hu M (Y.2.2.2.2.2 3 ev) t (eC 3 (upd (T 3 ev) 1 (((T 3 ev) 1) - ((T 2 i) 2)))) := ⟨_, rfl⟩
    replace hM := hM.eq eM1.symm
    have hL1 : LdR G M1 t h0 Y N (tu T 3 ev (upd (T 3 ev) 1 (((T 3 ev) 1) - ((T 2 i) 2)))) tr now price money := by rw [eM1]; exact hL.setRow (k := 3) (by decide) hev (upd (T 3 ev) 1 (((T 3 ev) 1) - ((T 2 i) 2)))
    have hF1 : Fr t M M1 := by rw [eM1]; exact Fr.tr Fr.rf (Fr.up (hL.row (k := 3) (by decide) hev))
    have hr1_2 : M1 (Y.2.2.2.2.2 2 i) = some (t, eC 2 (T 2 i)) := by rw [eM1]; exact hu_n (hu_ne (hL.row (k := 2) (by decide) hi) (hL.row (k := 3) (by decide) hev) (eC_ne (by decide))) (hL.row (k := 2) (by decide) hi)
    have hr1_3 : M1 (Y.2.2.2.2.2 3 ev) = some (t, eC 3 (upd (T 3 ev) 1 (((T 3 ev) 1) - ((T 2 i) 2)))) := by rw [eM1]; exact hu_s
    refine lv_aload_n hx hb dX3_unload_36 rfl (lv_at hl 0 rfl) ?_
    refine fg_X3_37 hx hb hts hown hK hM hL1.1 dX3_unload_37 ?_
    refine lv_if_ne (tgt := 49) hx hb dX3_unload_40 (by decide) (fun c2 => ?_) (fun c2 => ?_)
    · refine lv_aload_n hx hb dX3_unload_49 rfl (lv_at hl 1 rfl) ?_
      refine lv_iconst (v := (0 : Int32)) hx hb dX3_unload_50 (by decide) ?_
      refine fp_X3_147 hx hb hts hown hK hM hr1_2 dX3_unload_51 (fun H locs hM => ?_)
      obtain ⟨M2, eM2⟩ : ∃ z, z = hu M1 (Y.2.2.2.2.2 2 i) t (eC 2 (upd (T 2 i) 2 (0 : Int32))) := ⟨_, rfl⟩
      replace hM := hM.eq eM2.symm
      have hL2 : LdR G M2 t h0 Y N (tu (tu T 3 ev (upd (T 3 ev) 1 (((T 3 ev) 1) - ((T 2 i) 2)))) 2 i (upd (T 2 i) 2 (0 : Int32))) tr now price money := by rw [eM2]; exact hL1.setRow (k := 2) (by decide) hi (upd (T 2 i) 2 (0 : Int32))
      have hF2 : Fr t M M2 := by rw [eM2]; exact Fr.tr hF1 (Fr.up hr1_2)
      have hr2_2 : M2 (Y.2.2.2.2.2 2 i) = some (t, eC 2 (upd (T 2 i) 2 (0 : Int32))) := by rw [eM2]; exact hu_s
      have hr2_3 : M2 (Y.2.2.2.2.2 3 ev) = some (t, eC 3 (upd (T 3 ev) 1 (((T 3 ev) 1) - ((T 2 i) 2)))) := by rw [eM2]; exact hu_n (hu_ne hr1_3 hr1_2 (eC_ne (by decide))) hr1_3
      exact g_vret hx hb hr hlocks hM (Nat.zero_le _) (Nat.zero_le _) (HP.mk0 (ulP_t c1 c2) hL2 hF2) dX3_unload_54
    · refine lv_aload_n hx hb dX3_unload_43 rfl (lv_at hl 0 rfl) ?_
      refine lv_aload_n hx hb dX3_unload_44 rfl (lv_at hl 1 rfl) ?_
      refine lv_aload_n hx hb dX3_unload_45 rfl (lv_at hl 2 rfl) ?_
      have hn9 : (ulP (N 0) tr now price i ev (T, N 4, money)).2.1 = N 4 + 1 := by rw [ulP_r c1 c2]; rfl
      refine g_callVv (n9 := 2) (As := [.ref (Y.2.2.2.2.2 2 i), .ref (Y.2.2.2.2.2 3 ev)]) (rest := []) hx hb hml hl.1 hown hts hK hM (c_X3_writeTicket l G _ t h0 Y N _ tr now price money hL1 i ev hi hev hN4) wm_X3_164 wi_X3_writeTicket wl_X3_writeTicket wn_X3 wc_X3_writeTicket (by decide +kernel) (hM.recv hK (ci := 4) rfl hL1.1) ⟨Nat.le_of_ble_eq_true rfl, Nat.le_of_ble_eq_true rfl⟩ ⟨by show _ ≤ 2 * ((ulP (N 0) tr now price i ev (T, N 4, money)).2.1 - N 4); rw [hn9]; omega, by show _ ≤ 1000 * ((ulP (N 0) tr now price i ev (T, N 4, money)).2.1 - N 4); rw [hn9]; omega⟩ rfl (Nat.le_of_ble_eq_true rfl) rfl dX3_unload_46 (fun M9 H locs hq hM => ?_)
      obtain ⟨Y9, g1, g2, g3, g4⟩ := hq
      obtain ⟨S9, eS9⟩ : ∃ z, z = (wtP (N 0) now price i ev (tu T 3 ev (upd (T 3 ev) 1 ((T 3 ev 1) - (T 2 i 2))), N 4, money)) := ⟨_, rfl⟩
      rw [← eS9] at g1
      have g0 : M9 (Y.2.2.2.2.2 2 i) = some (t, eC 2 (S9.1 2 i)) := by
        have z := g1.row (k := 2) (i := i) (by decide) hi
        rw [g3 2 i (by decide)] at z
        exact z
      have g5 : LdR G M9 t h0 Y9 (nu N 4 S9.2.1) S9.1 tr now price S9.2.2 := g1
      refine lv_aload_n hx hb dX3_unload_49 rfl (lv_at hl 1 rfl) ?_
      refine lv_iconst (v := (0 : Int32)) hx hb dX3_unload_50 (by decide) ?_
      refine fp_X3_147 hx hb hts hown hK hM g0 dX3_unload_51 (fun H locs hM => ?_)
      have hLz := g5.setRow (k := 2) (i := i) (by decide) hi (upd (S9.1 2 i) 2 (0 : Int32))
      rw [g3 2 i (by decide)] at hLz
      exact g_vret hx hb hr hlocks hM (by show _ ≤ 2 * ((ulP (N 0) tr now price i ev (T, N 4, money)).2.1 - N 4); rw [hn9]; omega) (by show _ ≤ 1000 * ((ulP (N 0) tr now price i ev (T, N 4, money)).2.1 - N 4); rw [hn9]; omega) (HP.mk (by rw [ulP_r c1 c2, ← eS9]) hLz (Fr.tr (Fr.tr hF1 g2) (Fr.up g0)) g3 g4) dX3_unload_54
  · refine lv_aload_n hx hb dX3_unload_12 rfl (lv_at hl 1 rfl) ?_
    refine lv_dup hx hb dX3_unload_13 rfl ?_
    refine fg_X3_158 hx hb hts hown hK hM (hL.row (k := 2) (by decide) hi) dX3_unload_14 ?_
    refine lv_iconst (v := (1 : Int32)) hx hb dX3_unload_17 (by decide) ?_
    refine lv_iadd hx hb dX3_unload_18 ?_
    refine fp_X3_158 hx hb hts hown hK hM (hL.row (k := 2) (by decide) hi) dX3_unload_19 (fun H locs hM => ?_)
    obtain ⟨M1, eM1⟩ : ∃ z, z = hu M (Y.2.2.2.2.2 2 i) t (eC 2 (upd (T 2 i) 6 (((T 2 i) 6) + (1 : Int32)))) := ⟨_, rfl⟩
    replace hM := hM.eq eM1.symm
    have hL1 : LdR G M1 t h0 Y N (tu T 2 i (upd (T 2 i) 6 (((T 2 i) 6) + (1 : Int32)))) tr now price money := by rw [eM1]; exact hL.setRow (k := 2) (by decide) hi (upd (T 2 i) 6 (((T 2 i) 6) + (1 : Int32)))
    have hF1 : Fr t M M1 := by rw [eM1]; exact Fr.tr Fr.rf (Fr.up (hL.row (k := 2) (by decide) hi))
    have hr1_2 : M1 (Y.2.2.2.2.2 2 i) = some (t, eC 2 (upd (T 2 i) 6 (((T 2 i) 6) + (1 : Int32)))) := by rw [eM1]; exact hu_s
    have hr1_3 : M1 (Y.2.2.2.2.2 3 ev) = some (t, eC 3 (T 3 ev)) := by rw [eM1]; exact hu_n (hu_ne (hL.row (k := 3) (by decide) hev) (hL.row (k := 2) (by decide) hi) (eC_ne (by decide))) (hL.row (k := 3) (by decide) hev)
    exact g_vret hx hb hr hlocks hM (Nat.zero_le _) (Nat.zero_le _) (HP.mk0 (ulP_q c1) hL1 hF1) dX3_unload_22
set_option maxHeartbeats 4000000 in
set_option maxRecDepth 100000 in
theorem c_X3_passTruckHour (l : Launch) (G : GG) (M : HM) (t h0 : Nat) (Y : LY) (N : Nat → Nat) (T : Tb) (tr now price money : Int32)  (hL : LdR G M t h0 Y N T tr now price money) (i : Nat) (hi : i < N 2) (hN4 : N 4 < 600): Mv l yX3_passTruckHour (.code yX3_passTruckHour cX3_passTruckHour 4 none :: AL) 9 217 (2 * ((trP (N 0) (N 1) (N 3) tr now price i (T, N 4, money)).2.1 - N 4)) (1000 * ((trP (N 0) (N 1) (N 3) tr now price i (T, N 4, money)).2.1 - N 4)) [.ref h0, .ref (Y.2.2.2.2.2 2 i)] G M (HP G M t h0 Y N tr now price (trP (N 0) (N 1) (N 3) tr now price i (T, N 4, money))) := by
  refine Mv.go (by decide) (Nat.le_of_ble_eq_true rfl) ?_
  intro p e s m below meth c ls hx hb hr hml hown hlocks hname hts hK hM hl
  have hown : s.vm.findClass RX3 = some m.cls := hown
  have hl : lv_has ls 4 [(0, .ref h0), (1, .ref (Y.2.2.2.2.2 2 i))] := hl
  refine lv_aload_n hx hb dX3_passTruckHour_0 rfl (lv_at hl 0 rfl) ?_
  refine lv_aload_n hx hb dX3_passTruckHour_1 rfl (lv_at hl 1 rfl) ?_
  refine fg_X3_115 hx hb hts hown hK hM (hL.row (k := 2) (by decide) hi) dX3_passTruckHour_2 ?_
  rcases hc : ixR (N 1) ((T 2 i) 7) with _ | j
  · refine g_callVq (n9 := 1) (As := [.int ((T 2 i) 7)]) (rest := []) hx hb hml hl.1 hown hts hK hM (c_X3_combineAt l G _ t h0 Y N _ tr now price money ((T 2 i) 7) hL) wm_X3_118 wi_X3_combineAt wl_X3_combineAt wn_X3 wc_X3_combineAt (by decide +kernel) (hM.recv hK (ci := 4) rfl hL.1) ⟨Nat.le_of_ble_eq_true rfl, Nat.le_of_ble_eq_true rfl⟩ ⟨Nat.le_trans (Nat.le_of_ble_eq_true rfl) (Nat.zero_le _), Nat.le_trans (Nat.le_of_ble_eq_true rfl) (Nat.zero_le _)⟩ rfl (Nat.le_of_ble_eq_true rfl) rfl dX3_passTruckHour_5 (fun r_5 Mz H locs hq hM => ?_)
    have hq1 := (hq.1.trans (atR_n (N := N) (k := 1) hc)).symm
    have hq2 := hq.2.symm
    subst hq1 hq2
    refine lv_astore_nN (lv' := [(2, .null), (0, .ref h0), (1, .ref (Y.2.2.2.2.2 2 i))]) hx hb dX3_passTruckHour_8 rfl hl (by decide) rfl (fun ls hl => ?_)
    refine lv_aload_n hx hb dX3_passTruckHour_9 rfl (lv_at hl 1 rfl) ?_
    refine lv_aload_n hx hb dX3_passTruckHour_10 rfl (lv_at hl 2 rfl) ?_
    refine fg_X3_122 hx hb hts hown hK hM (hL.row (k := 2) (by decide) hi) dX3_passTruckHour_11 ?_
    rcases he : ixR (N 3) ((T 2 i) 8) with _ | v
    · refine g_callVq (n9 := 1) (As := [.int ((T 2 i) 8)]) (rest := []) hx hb hml hl.1 hown hts hK hM (c_X3_elevatorAt l G _ t h0 Y N _ tr now price money ((T 2 i) 8) hL) wm_X3_125 wi_X3_elevatorAt wl_X3_elevatorAt wn_X3 wc_X3_elevatorAt (by decide +kernel) (hM.recv hK (ci := 4) rfl hL.1) ⟨Nat.le_of_ble_eq_true rfl, Nat.le_of_ble_eq_true rfl⟩ ⟨Nat.le_trans (Nat.le_of_ble_eq_true rfl) (Nat.zero_le _), Nat.le_trans (Nat.le_of_ble_eq_true rfl) (Nat.zero_le _)⟩ rfl (Nat.le_of_ble_eq_true rfl) rfl dX3_passTruckHour_14 (fun r_14 Mz H locs hq hM => ?_)
      have hq1 := (hq.1.trans (atR_n (N := N) (k := 3) he)).symm
      have hq2 := hq.2.symm
      subst hq1 hq2
      refine lv_astore_nN (lv' := [(3, .null), (2, .null), (0, .ref h0), (1, .ref (Y.2.2.2.2.2 2 i))]) hx hb dX3_passTruckHour_17 rfl hl (by decide) rfl (fun ls hl => ?_)
      refine lv_aload_n hx hb dX3_passTruckHour_18 rfl (lv_at hl 3 rfl) ?_
      refine g_callVi (n9 := 0) (As := []) (rest := []) hx hb hml hl.1 hown hts hK hM (cr_X5_mustRest l G _ (Y.2.2.2.2.2 2 i) t (T 2 i)  (hL.row (k := 2) (by decide) hi) ) wm_X3_129 wi_X5_mustRest wl_X5_mustRest wn_X5 wc_X5_mustRest (by decide +kernel) (hM.recv hK (ci := 6) rfl (hL.row (k := 2) (by decide) hi)) ⟨Nat.le_of_ble_eq_true rfl, Nat.le_of_ble_eq_true rfl⟩ ⟨Nat.le_trans (Nat.le_of_ble_eq_true rfl) (Nat.zero_le _), Nat.le_trans (Nat.le_of_ble_eq_true rfl) (Nat.zero_le _)⟩ rfl (Nat.le_of_ble_eq_true rfl) rfl dX3_passTruckHour_19 (fun r_19 Mz H locs hq hM => ?_)
      have hq1 := hq.1.symm
      have hq2 := hq.2.symm
      subst hq1 hq2
      refine lv_if_eq (tgt := 32) hx hb dX3_passTruckHour_22 (by decide) (fun c1 => ?_) (fun c1 => ?_)
      · refine lv_aload_nN hx hb dX3_passTruckHour_32 rfl (lv_at hl 1 rfl) ?_
        refine lv_ifnullN (tgt := 66) hx hb dX3_passTruckHour_33 (by decide) ?_
        refine lv_aload_nN hx hb dX3_passTruckHour_66 rfl (lv_at hl 0 rfl) ?_
        refine lv_ifnullN (tgt := 105) hx hb dX3_passTruckHour_67 (by decide) ?_
        exact g_vret hx hb hr hlocks hM (Nat.zero_le _) (Nat.zero_le _) (HP.mk0 (trP_0 c1 hc he) hL Fr.rf) dX3_passTruckHour_105
      · refine lv_aload_n hx hb dX3_passTruckHour_25 rfl (lv_at hl 3 rfl) ?_
        refine g_callVv (n9 := 0) (As := []) (rest := []) hx hb hml hl.1 hown hts hK hM (cr_X5_sleepHour l G _ (Y.2.2.2.2.2 2 i) t (T 2 i)  (hL.row (k := 2) (by decide) hi) ) wm_X3_133 wi_X5_sleepHour wl_X5_sleepHour wn_X5 wc_X5_sleepHour (by decide +kernel) (hM.recv hK (ci := 6) rfl (hL.row (k := 2) (by decide) hi)) ⟨Nat.le_of_ble_eq_true rfl, Nat.le_of_ble_eq_true rfl⟩ ⟨Nat.le_trans (Nat.le_of_ble_eq_true rfl) (Nat.zero_le _), Nat.le_trans (Nat.le_of_ble_eq_true rfl) (Nat.zero_le _)⟩ rfl (Nat.le_of_ble_eq_true rfl) rfl dX3_passTruckHour_26 (fun Mz H locs hq hM => ?_)
        subst hq
        obtain ⟨M1, eM1⟩ : ∃ z, z = hu M (Y.2.2.2.2.2 2 i) t (eC 2 (R_X5_sleepHour_0 (T 2 i) )) := ⟨_, rfl⟩
        replace hM := hM.eq eM1.symm
        have hL1 : LdR G M1 t h0 Y N (tu T 2 i (R_X5_sleepHour_0 (T 2 i) )) tr now price money := by rw [eM1]; exact hL.setRow (k := 2) (by decide) hi (R_X5_sleepHour_0 (T 2 i) )
        have hF1 : Fr t M M1 := by rw [eM1]; exact Fr.tr Fr.rf (Fr.up (hL.row (k := 2) (by decide) hi))
        have hr1_2 : M1 (Y.2.2.2.2.2 2 i) = some (t, eC 2 (R_X5_sleepHour_0 (T 2 i) )) := by rw [eM1]; exact hu_s
        refine lv_goto (tgt := 105) hx hb dX3_passTruckHour_29 (by decide) ?_
        exact g_vret hx hb hr hlocks hM (Nat.zero_le _) (Nat.zero_le _) (HP.mk0 (trP_r c1) hL1 hF1) dX3_passTruckHour_105
    · refine g_callVq (n9 := 1) (As := [.int ((T 2 i) 8)]) (rest := []) hx hb hml hl.1 hown hts hK hM (c_X3_elevatorAt l G _ t h0 Y N _ tr now price money ((T 2 i) 8) hL) wm_X3_125 wi_X3_elevatorAt wl_X3_elevatorAt wn_X3 wc_X3_elevatorAt (by decide +kernel) (hM.recv hK (ci := 4) rfl hL.1) ⟨Nat.le_of_ble_eq_true rfl, Nat.le_of_ble_eq_true rfl⟩ ⟨Nat.le_trans (Nat.le_of_ble_eq_true rfl) (Nat.zero_le _), Nat.le_trans (Nat.le_of_ble_eq_true rfl) (Nat.zero_le _)⟩ rfl (Nat.le_of_ble_eq_true rfl) rfl dX3_passTruckHour_14 (fun r_14 Mz H locs hq hM => ?_)
      have hq1 := (hq.1.trans (atR_s (N := N) (k := 3) he)).symm
      have hq2 := hq.2.symm
      subst hq1 hq2
      have hv : v < N 3 := (ixR_lt (hL.2.2.2.2.2.2.1 3) he).1
      refine lv_astore_n (lv' := [(3, .ref (Y.2.2.2.2.2 3 v)), (2, .null), (0, .ref h0), (1, .ref (Y.2.2.2.2.2 2 i))]) hx hb dX3_passTruckHour_17 rfl hl (by decide) rfl (fun ls hl => ?_)
      refine lv_aload_n hx hb dX3_passTruckHour_18 rfl (lv_at hl 3 rfl) ?_
      refine g_callVi (n9 := 0) (As := []) (rest := []) hx hb hml hl.1 hown hts hK hM (cr_X5_mustRest l G _ (Y.2.2.2.2.2 2 i) t (T 2 i)  (hL.row (k := 2) (by decide) hi) ) wm_X3_129 wi_X5_mustRest wl_X5_mustRest wn_X5 wc_X5_mustRest (by decide +kernel) (hM.recv hK (ci := 6) rfl (hL.row (k := 2) (by decide) hi)) ⟨Nat.le_of_ble_eq_true rfl, Nat.le_of_ble_eq_true rfl⟩ ⟨Nat.le_trans (Nat.le_of_ble_eq_true rfl) (Nat.zero_le _), Nat.le_trans (Nat.le_of_ble_eq_true rfl) (Nat.zero_le _)⟩ rfl (Nat.le_of_ble_eq_true rfl) rfl dX3_passTruckHour_19 (fun r_19 Mz H locs hq hM => ?_)
      have hq1 := hq.1.symm
      have hq2 := hq.2.symm
      subst hq1 hq2
      refine lv_if_eq (tgt := 32) hx hb dX3_passTruckHour_22 (by decide) (fun c2 => ?_) (fun c2 => ?_)
      · refine lv_aload_nN hx hb dX3_passTruckHour_32 rfl (lv_at hl 1 rfl) ?_
        refine lv_ifnullN (tgt := 66) hx hb dX3_passTruckHour_33 (by decide) ?_
        refine lv_aload_n hx hb dX3_passTruckHour_66 rfl (lv_at hl 0 rfl) ?_
        refine lv_ifnull hx hb dX3_passTruckHour_67 ?_
        refine lv_aload_n hx hb dX3_passTruckHour_70 rfl (lv_at hl 3 rfl) ?_
        refine fg_X3_136 hx hb hts hown hK hM (hL.row (k := 2) (by decide) hi) dX3_passTruckHour_71 ?_
        refine lv_aload_n hx hb dX3_passTruckHour_74 rfl (lv_at hl 0 rfl) ?_
        refine fg_X3_146 hx hb hts hown hK hM (hL.row (k := 3) (i := v) (by decide) hv) dX3_passTruckHour_75 ?_
        refine lv_icmp_eq (tgt := 92) hx hb dX3_passTruckHour_78 (by decide) (fun c3 => ?_) (fun c3 => ?_)
        · refine lv_aload_n hx hb dX3_passTruckHour_92 rfl (lv_at hl 3 rfl) ?_
          refine fg_X3_147 hx hb hts hown hK hM (hL.row (k := 2) (by decide) hi) dX3_passTruckHour_93 ?_
          refine lv_if_le (tgt := 105) hx hb dX3_passTruckHour_96 (by decide) (fun c4 => ?_) (fun c4 => ?_)
          · exact g_vret hx hb hr hlocks hM (Nat.zero_le _) (Nat.zero_le _) (HP.mk0 (trP_e0 c2 hc he c3 c4) hL Fr.rf) dX3_passTruckHour_105
          · refine lv_aload_n hx hb dX3_passTruckHour_99 rfl (lv_at hl 2 rfl) ?_
            refine lv_aload_n hx hb dX3_passTruckHour_100 rfl (lv_at hl 3 rfl) ?_
            refine lv_aload_n hx hb dX3_passTruckHour_101 rfl (lv_at hl 0 rfl) ?_
            have e9 : (trP (N 0) (N 1) (N 3) tr now price i (T, N 4, money)) = (ulP (N 0) tr now price i v (T, N 4, money)) := trP_eu c2 hc he c3 c4
            refine g_callVv (n9 := 2) (As := [.ref (Y.2.2.2.2.2 2 i), .ref (Y.2.2.2.2.2 3 v)]) (rest := []) hx hb hml hl.1 hown hts hK hM (c_X3_unload l G _ t h0 Y N _ tr now price money hL i v hi hv hN4) wm_X3_150 wi_X3_unload wl_X3_unload wn_X3 wc_X3_unload (by decide +kernel) (hM.recv hK (ci := 4) rfl hL.1) ⟨Nat.le_of_ble_eq_true rfl, Nat.le_of_ble_eq_true rfl⟩ ⟨by show _ ≤ 2 * ((trP (N 0) (N 1) (N 3) tr now price i (T, N 4, money)).2.1 - N 4); rw [e9]; omega, by show _ ≤ 1000 * ((trP (N 0) (N 1) (N 3) tr now price i (T, N 4, money)).2.1 - N 4); rw [e9]; omega⟩ rfl (Nat.le_of_ble_eq_true rfl) rfl dX3_passTruckHour_102 (fun M9 H locs hq hM => ?_)
            exact g_vret hx hb hr hlocks hM (by show _ ≤ 2 * ((trP (N 0) (N 1) (N 3) tr now price i (T, N 4, money)).2.1 - N 4); rw [e9]; omega) (by show _ ≤ 1000 * ((trP (N 0) (N 1) (N 3) tr now price i (T, N 4, money)).2.1 - N 4); rw [e9]; omega) (by rw [e9]; exact hq) dX3_passTruckHour_105
        · refine lv_aload_n hx hb dX3_passTruckHour_81 rfl (lv_at hl 3 rfl) ?_
          refine lv_aload_n hx hb dX3_passTruckHour_82 rfl (lv_at hl 0 rfl) ?_
          refine fg_X3_146 hx hb hts hown hK hM (hL.row (k := 3) (i := v) (by decide) hv) dX3_passTruckHour_83 ?_
          refine g_callVv (n9 := 1) (As := [.int ((T 3 v) 0)]) (rest := []) hx hb hml hl.1 hown hts hK hM (cr_X5_drive l G _ (Y.2.2.2.2.2 2 i) t (T 2 i) ((T 3 v) 0) (hL.row (k := 2) (by decide) hi) ) wm_X3_140 wi_X5_drive wl_X5_drive wn_X5 wc_X5_drive (by decide +kernel) (hM.recv hK (ci := 6) rfl (hL.row (k := 2) (by decide) hi)) ⟨Nat.le_of_ble_eq_true rfl, Nat.le_of_ble_eq_true rfl⟩ ⟨Nat.le_trans (Nat.le_of_ble_eq_true rfl) (Nat.zero_le _), Nat.le_trans (Nat.le_of_ble_eq_true rfl) (Nat.zero_le _)⟩ rfl (Nat.le_of_ble_eq_true rfl) rfl dX3_passTruckHour_86 (fun Mz H locs hq hM => ?_)
          subst hq
          obtain ⟨M1, eM1⟩ : ∃ z, z = hu M (Y.2.2.2.2.2 2 i) t (eC 2 (R_X5_drive_0 (T 2 i) ((T 3 v) 0))) := ⟨_, rfl⟩
          replace hM := hM.eq eM1.symm
          have hL1 : LdR G M1 t h0 Y N (tu T 2 i (R_X5_drive_0 (T 2 i) ((T 3 v) 0))) tr now price money := by rw [eM1]; exact hL.setRow (k := 2) (by decide) hi (R_X5_drive_0 (T 2 i) ((T 3 v) 0))
          have hF1 : Fr t M M1 := by rw [eM1]; exact Fr.tr Fr.rf (Fr.up (hL.row (k := 2) (by decide) hi))
          have hr1_2 : M1 (Y.2.2.2.2.2 2 i) = some (t, eC 2 (R_X5_drive_0 (T 2 i) ((T 3 v) 0))) := by rw [eM1]; exact hu_s
          have hr1_3 : M1 (Y.2.2.2.2.2 3 v) = some (t, eC 3 (T 3 v)) := by rw [eM1]; exact hu_n (hu_ne (hL.row (k := 3) (i := v) (by decide) hv) (hL.row (k := 2) (by decide) hi) (eC_ne (by decide))) (hL.row (k := 3) (i := v) (by decide) hv)
          refine lv_goto (tgt := 105) hx hb dX3_passTruckHour_89 (by decide) ?_
          exact g_vret hx hb hr hlocks hM (Nat.zero_le _) (Nat.zero_le _) (HP.mk0 (trP_ed c2 hc he c3) hL1 hF1) dX3_passTruckHour_105
      · refine lv_aload_n hx hb dX3_passTruckHour_25 rfl (lv_at hl 3 rfl) ?_
        refine g_callVv (n9 := 0) (As := []) (rest := []) hx hb hml hl.1 hown hts hK hM (cr_X5_sleepHour l G _ (Y.2.2.2.2.2 2 i) t (T 2 i)  (hL.row (k := 2) (by decide) hi) ) wm_X3_133 wi_X5_sleepHour wl_X5_sleepHour wn_X5 wc_X5_sleepHour (by decide +kernel) (hM.recv hK (ci := 6) rfl (hL.row (k := 2) (by decide) hi)) ⟨Nat.le_of_ble_eq_true rfl, Nat.le_of_ble_eq_true rfl⟩ ⟨Nat.le_trans (Nat.le_of_ble_eq_true rfl) (Nat.zero_le _), Nat.le_trans (Nat.le_of_ble_eq_true rfl) (Nat.zero_le _)⟩ rfl (Nat.le_of_ble_eq_true rfl) rfl dX3_passTruckHour_26 (fun Mz H locs hq hM => ?_)
        subst hq
        obtain ⟨M1, eM1⟩ : ∃ z, z = hu M (Y.2.2.2.2.2 2 i) t (eC 2 (R_X5_sleepHour_0 (T 2 i) )) := ⟨_, rfl⟩
        replace hM := hM.eq eM1.symm
        have hL1 : LdR G M1 t h0 Y N (tu T 2 i (R_X5_sleepHour_0 (T 2 i) )) tr now price money := by rw [eM1]; exact hL.setRow (k := 2) (by decide) hi (R_X5_sleepHour_0 (T 2 i) )
        have hF1 : Fr t M M1 := by rw [eM1]; exact Fr.tr Fr.rf (Fr.up (hL.row (k := 2) (by decide) hi))
        have hr1_2 : M1 (Y.2.2.2.2.2 2 i) = some (t, eC 2 (R_X5_sleepHour_0 (T 2 i) )) := by rw [eM1]; exact hu_s
        have hr1_3 : M1 (Y.2.2.2.2.2 3 v) = some (t, eC 3 (T 3 v)) := by rw [eM1]; exact hu_n (hu_ne (hL.row (k := 3) (i := v) (by decide) hv) (hL.row (k := 2) (by decide) hi) (eC_ne (by decide))) (hL.row (k := 3) (i := v) (by decide) hv)
        refine lv_goto (tgt := 105) hx hb dX3_passTruckHour_29 (by decide) ?_
        exact g_vret hx hb hr hlocks hM (Nat.zero_le _) (Nat.zero_le _) (HP.mk0 (trP_r c2) hL1 hF1) dX3_passTruckHour_105
  · refine g_callVq (n9 := 1) (As := [.int ((T 2 i) 7)]) (rest := []) hx hb hml hl.1 hown hts hK hM (c_X3_combineAt l G _ t h0 Y N _ tr now price money ((T 2 i) 7) hL) wm_X3_118 wi_X3_combineAt wl_X3_combineAt wn_X3 wc_X3_combineAt (by decide +kernel) (hM.recv hK (ci := 4) rfl hL.1) ⟨Nat.le_of_ble_eq_true rfl, Nat.le_of_ble_eq_true rfl⟩ ⟨Nat.le_trans (Nat.le_of_ble_eq_true rfl) (Nat.zero_le _), Nat.le_trans (Nat.le_of_ble_eq_true rfl) (Nat.zero_le _)⟩ rfl (Nat.le_of_ble_eq_true rfl) rfl dX3_passTruckHour_5 (fun r_5 Mz H locs hq hM => ?_)
    have hq1 := (hq.1.trans (atR_s (N := N) (k := 1) hc)).symm
    have hq2 := hq.2.symm
    subst hq1 hq2
    have hj : j < N 1 := (ixR_lt (hL.2.2.2.2.2.2.1 1) hc).1
    refine lv_astore_n (lv' := [(2, .ref (Y.2.2.2.2.2 1 j)), (0, .ref h0), (1, .ref (Y.2.2.2.2.2 2 i))]) hx hb dX3_passTruckHour_8 rfl hl (by decide) rfl (fun ls hl => ?_)
    refine lv_aload_n hx hb dX3_passTruckHour_9 rfl (lv_at hl 1 rfl) ?_
    refine lv_aload_n hx hb dX3_passTruckHour_10 rfl (lv_at hl 2 rfl) ?_
    refine fg_X3_122 hx hb hts hown hK hM (hL.row (k := 2) (by decide) hi) dX3_passTruckHour_11 ?_
    rcases he : ixR (N 3) ((T 2 i) 8) with _ | v
    · refine g_callVq (n9 := 1) (As := [.int ((T 2 i) 8)]) (rest := []) hx hb hml hl.1 hown hts hK hM (c_X3_elevatorAt l G _ t h0 Y N _ tr now price money ((T 2 i) 8) hL) wm_X3_125 wi_X3_elevatorAt wl_X3_elevatorAt wn_X3 wc_X3_elevatorAt (by decide +kernel) (hM.recv hK (ci := 4) rfl hL.1) ⟨Nat.le_of_ble_eq_true rfl, Nat.le_of_ble_eq_true rfl⟩ ⟨Nat.le_trans (Nat.le_of_ble_eq_true rfl) (Nat.zero_le _), Nat.le_trans (Nat.le_of_ble_eq_true rfl) (Nat.zero_le _)⟩ rfl (Nat.le_of_ble_eq_true rfl) rfl dX3_passTruckHour_14 (fun r_14 Mz H locs hq hM => ?_)
      have hq1 := (hq.1.trans (atR_n (N := N) (k := 3) he)).symm
      have hq2 := hq.2.symm
      subst hq1 hq2
      refine lv_astore_nN (lv' := [(3, .null), (2, .ref (Y.2.2.2.2.2 1 j)), (0, .ref h0), (1, .ref (Y.2.2.2.2.2 2 i))]) hx hb dX3_passTruckHour_17 rfl hl (by decide) rfl (fun ls hl => ?_)
      refine lv_aload_n hx hb dX3_passTruckHour_18 rfl (lv_at hl 3 rfl) ?_
      refine g_callVi (n9 := 0) (As := []) (rest := []) hx hb hml hl.1 hown hts hK hM (cr_X5_mustRest l G _ (Y.2.2.2.2.2 2 i) t (T 2 i)  (hL.row (k := 2) (by decide) hi) ) wm_X3_129 wi_X5_mustRest wl_X5_mustRest wn_X5 wc_X5_mustRest (by decide +kernel) (hM.recv hK (ci := 6) rfl (hL.row (k := 2) (by decide) hi)) ⟨Nat.le_of_ble_eq_true rfl, Nat.le_of_ble_eq_true rfl⟩ ⟨Nat.le_trans (Nat.le_of_ble_eq_true rfl) (Nat.zero_le _), Nat.le_trans (Nat.le_of_ble_eq_true rfl) (Nat.zero_le _)⟩ rfl (Nat.le_of_ble_eq_true rfl) rfl dX3_passTruckHour_19 (fun r_19 Mz H locs hq hM => ?_)
      have hq1 := hq.1.symm
      have hq2 := hq.2.symm
      subst hq1 hq2
      refine lv_if_eq (tgt := 32) hx hb dX3_passTruckHour_22 (by decide) (fun c5 => ?_) (fun c5 => ?_)
      · refine lv_aload_n hx hb dX3_passTruckHour_32 rfl (lv_at hl 1 rfl) ?_
        refine lv_ifnull hx hb dX3_passTruckHour_33 ?_
        refine lv_aload_n hx hb dX3_passTruckHour_36 rfl (lv_at hl 3 rfl) ?_
        refine fg_X3_136 hx hb hts hown hK hM (hL.row (k := 2) (by decide) hi) dX3_passTruckHour_37 ?_
        refine lv_aload_n hx hb dX3_passTruckHour_40 rfl (lv_at hl 1 rfl) ?_
        refine fg_X3_139 hx hb hts hown hK hM (hL.row (k := 1) (i := j) (by decide) hj) dX3_passTruckHour_41 ?_
        refine lv_icmp_eq (tgt := 58) hx hb dX3_passTruckHour_44 (by decide) (fun c6 => ?_) (fun c6 => ?_)
        · refine lv_aload_n hx hb dX3_passTruckHour_58 rfl (lv_at hl 3 rfl) ?_
          refine lv_aload_n hx hb dX3_passTruckHour_59 rfl (lv_at hl 1 rfl) ?_
          refine g_callVv (n9 := 1) (As := [.ref (Y.2.2.2.2.2 1 j)]) (rest := []) hx hb hml hl.1 hown hts hK hM (cr_X5_takeFrom l G _ (Y.2.2.2.2.2 2 i) t (Y.2.2.2.2.2 1 j) t (T 2 i) (T 1 j)  (hL.row (k := 2) (by decide) hi) (hL.row (k := 1) (i := j) (by decide) hj) (hu_ne (hL.row (k := 2) (by decide) hi) (hL.row (k := 1) (i := j) (by decide) hj) (eC_ne (by decide)))) wm_X3_143 wi_X5_takeFrom wl_X5_takeFrom wn_X5 wc_X5_takeFrom (by decide +kernel) (hM.recv hK (ci := 6) rfl (hL.row (k := 2) (by decide) hi)) ⟨Nat.le_of_ble_eq_true rfl, Nat.le_of_ble_eq_true rfl⟩ ⟨Nat.le_trans (Nat.le_of_ble_eq_true rfl) (Nat.zero_le _), Nat.le_trans (Nat.le_of_ble_eq_true rfl) (Nat.zero_le _)⟩ rfl (Nat.le_of_ble_eq_true rfl) rfl dX3_passTruckHour_60 (fun Mz H locs hq hM => ?_)
          subst hq
          obtain ⟨M1, eM1⟩ : ∃ z, z = hu M (Y.2.2.2.2.2 2 i) t (eC 2 (R_X5_takeFrom_0 (T 2 i) (T 1 j) )) := ⟨_, rfl⟩
          rw [← eM1] at hM
          have hL1 : LdR G M1 t h0 Y N (tu T 2 i (R_X5_takeFrom_0 (T 2 i) (T 1 j) )) tr now price money := by rw [eM1]; exact hL.setRow (k := 2) (by decide) hi (R_X5_takeFrom_0 (T 2 i) (T 1 j) )
          have hF1 : Fr t M M1 := by rw [eM1]; exact Fr.tr Fr.rf (Fr.up (hL.row (k := 2) (by decide) hi))
          have hr1_2 : M1 (Y.2.2.2.2.2 2 i) = some (t, eC 2 (R_X5_takeFrom_0 (T 2 i) (T 1 j) )) := by rw [eM1]; exact hu_s
          have hr1_1 : M1 (Y.2.2.2.2.2 1 j) = some (t, eC 1 (T 1 j)) := by rw [eM1]; exact hu_n (hu_ne (hL.row (k := 1) (i := j) (by decide) hj) (hL.row (k := 2) (by decide) hi) (eC_ne (by decide))) (hL.row (k := 1) (i := j) (by decide) hj)
          obtain ⟨M2, eM2⟩ : ∃ z, z = hu M1 (Y.2.2.2.2.2 1 j) t (eC 1 (R_X5_takeFrom_1 (T 2 i) (T 1 j) )) := ⟨_, rfl⟩
          replace hM := hM.eq eM2.symm
          have hL2 : LdR G M2 t h0 Y N (tu (tu T 2 i (R_X5_takeFrom_0 (T 2 i) (T 1 j) )) 1 j (R_X5_takeFrom_1 (T 2 i) (T 1 j) )) tr now price money := by rw [eM2]; exact hL1.setRow (k := 1) (by decide) hj (R_X5_takeFrom_1 (T 2 i) (T 1 j) )
          have hF2 : Fr t M M2 := by rw [eM2]; exact Fr.tr hF1 (Fr.up hr1_1)
          have hr2_2 : M2 (Y.2.2.2.2.2 2 i) = some (t, eC 2 (R_X5_takeFrom_0 (T 2 i) (T 1 j) )) := by rw [eM2]; exact hu_n (hu_ne hr1_2 hr1_1 (eC_ne (by decide))) hr1_2
          have hr2_1 : M2 (Y.2.2.2.2.2 1 j) = some (t, eC 1 (R_X5_takeFrom_1 (T 2 i) (T 1 j) )) := by rw [eM2]; exact hu_s
          refine lv_goto (tgt := 105) hx hb dX3_passTruckHour_63 (by decide) ?_
          exact g_vret hx hb hr hlocks hM (Nat.zero_le _) (Nat.zero_le _) (HP.mk0 (trP_ct c5 hc c6) hL2 hF2) dX3_passTruckHour_105
        · refine lv_aload_n hx hb dX3_passTruckHour_47 rfl (lv_at hl 3 rfl) ?_
          refine lv_aload_n hx hb dX3_passTruckHour_48 rfl (lv_at hl 1 rfl) ?_
          refine fg_X3_139 hx hb hts hown hK hM (hL.row (k := 1) (i := j) (by decide) hj) dX3_passTruckHour_49 ?_
          refine g_callVv (n9 := 1) (As := [.int ((T 1 j) 1)]) (rest := []) hx hb hml hl.1 hown hts hK hM (cr_X5_drive l G _ (Y.2.2.2.2.2 2 i) t (T 2 i) ((T 1 j) 1) (hL.row (k := 2) (by decide) hi) ) wm_X3_140 wi_X5_drive wl_X5_drive wn_X5 wc_X5_drive (by decide +kernel) (hM.recv hK (ci := 6) rfl (hL.row (k := 2) (by decide) hi)) ⟨Nat.le_of_ble_eq_true rfl, Nat.le_of_ble_eq_true rfl⟩ ⟨Nat.le_trans (Nat.le_of_ble_eq_true rfl) (Nat.zero_le _), Nat.le_trans (Nat.le_of_ble_eq_true rfl) (Nat.zero_le _)⟩ rfl (Nat.le_of_ble_eq_true rfl) rfl dX3_passTruckHour_52 (fun Mz H locs hq hM => ?_)
          subst hq
          obtain ⟨M1, eM1⟩ : ∃ z, z = hu M (Y.2.2.2.2.2 2 i) t (eC 2 (R_X5_drive_0 (T 2 i) ((T 1 j) 1))) := ⟨_, rfl⟩
          replace hM := hM.eq eM1.symm
          have hL1 : LdR G M1 t h0 Y N (tu T 2 i (R_X5_drive_0 (T 2 i) ((T 1 j) 1))) tr now price money := by rw [eM1]; exact hL.setRow (k := 2) (by decide) hi (R_X5_drive_0 (T 2 i) ((T 1 j) 1))
          have hF1 : Fr t M M1 := by rw [eM1]; exact Fr.tr Fr.rf (Fr.up (hL.row (k := 2) (by decide) hi))
          have hr1_2 : M1 (Y.2.2.2.2.2 2 i) = some (t, eC 2 (R_X5_drive_0 (T 2 i) ((T 1 j) 1))) := by rw [eM1]; exact hu_s
          have hr1_1 : M1 (Y.2.2.2.2.2 1 j) = some (t, eC 1 (T 1 j)) := by rw [eM1]; exact hu_n (hu_ne (hL.row (k := 1) (i := j) (by decide) hj) (hL.row (k := 2) (by decide) hi) (eC_ne (by decide))) (hL.row (k := 1) (i := j) (by decide) hj)
          refine lv_goto (tgt := 105) hx hb dX3_passTruckHour_55 (by decide) ?_
          exact g_vret hx hb hr hlocks hM (Nat.zero_le _) (Nat.zero_le _) (HP.mk0 (trP_cd c5 hc c6) hL1 hF1) dX3_passTruckHour_105
      · refine lv_aload_n hx hb dX3_passTruckHour_25 rfl (lv_at hl 3 rfl) ?_
        refine g_callVv (n9 := 0) (As := []) (rest := []) hx hb hml hl.1 hown hts hK hM (cr_X5_sleepHour l G _ (Y.2.2.2.2.2 2 i) t (T 2 i)  (hL.row (k := 2) (by decide) hi) ) wm_X3_133 wi_X5_sleepHour wl_X5_sleepHour wn_X5 wc_X5_sleepHour (by decide +kernel) (hM.recv hK (ci := 6) rfl (hL.row (k := 2) (by decide) hi)) ⟨Nat.le_of_ble_eq_true rfl, Nat.le_of_ble_eq_true rfl⟩ ⟨Nat.le_trans (Nat.le_of_ble_eq_true rfl) (Nat.zero_le _), Nat.le_trans (Nat.le_of_ble_eq_true rfl) (Nat.zero_le _)⟩ rfl (Nat.le_of_ble_eq_true rfl) rfl dX3_passTruckHour_26 (fun Mz H locs hq hM => ?_)
        subst hq
        obtain ⟨M1, eM1⟩ : ∃ z, z = hu M (Y.2.2.2.2.2 2 i) t (eC 2 (R_X5_sleepHour_0 (T 2 i) )) := ⟨_, rfl⟩
        replace hM := hM.eq eM1.symm
        have hL1 : LdR G M1 t h0 Y N (tu T 2 i (R_X5_sleepHour_0 (T 2 i) )) tr now price money := by rw [eM1]; exact hL.setRow (k := 2) (by decide) hi (R_X5_sleepHour_0 (T 2 i) )
        have hF1 : Fr t M M1 := by rw [eM1]; exact Fr.tr Fr.rf (Fr.up (hL.row (k := 2) (by decide) hi))
        have hr1_2 : M1 (Y.2.2.2.2.2 2 i) = some (t, eC 2 (R_X5_sleepHour_0 (T 2 i) )) := by rw [eM1]; exact hu_s
        have hr1_1 : M1 (Y.2.2.2.2.2 1 j) = some (t, eC 1 (T 1 j)) := by rw [eM1]; exact hu_n (hu_ne (hL.row (k := 1) (i := j) (by decide) hj) (hL.row (k := 2) (by decide) hi) (eC_ne (by decide))) (hL.row (k := 1) (i := j) (by decide) hj)
        refine lv_goto (tgt := 105) hx hb dX3_passTruckHour_29 (by decide) ?_
        exact g_vret hx hb hr hlocks hM (Nat.zero_le _) (Nat.zero_le _) (HP.mk0 (trP_r c5) hL1 hF1) dX3_passTruckHour_105
    · refine g_callVq (n9 := 1) (As := [.int ((T 2 i) 8)]) (rest := []) hx hb hml hl.1 hown hts hK hM (c_X3_elevatorAt l G _ t h0 Y N _ tr now price money ((T 2 i) 8) hL) wm_X3_125 wi_X3_elevatorAt wl_X3_elevatorAt wn_X3 wc_X3_elevatorAt (by decide +kernel) (hM.recv hK (ci := 4) rfl hL.1) ⟨Nat.le_of_ble_eq_true rfl, Nat.le_of_ble_eq_true rfl⟩ ⟨Nat.le_trans (Nat.le_of_ble_eq_true rfl) (Nat.zero_le _), Nat.le_trans (Nat.le_of_ble_eq_true rfl) (Nat.zero_le _)⟩ rfl (Nat.le_of_ble_eq_true rfl) rfl dX3_passTruckHour_14 (fun r_14 Mz H locs hq hM => ?_)
      have hq1 := (hq.1.trans (atR_s (N := N) (k := 3) he)).symm
      have hq2 := hq.2.symm
      subst hq1 hq2
      have hv : v < N 3 := (ixR_lt (hL.2.2.2.2.2.2.1 3) he).1
      refine lv_astore_n (lv' := [(3, .ref (Y.2.2.2.2.2 3 v)), (2, .ref (Y.2.2.2.2.2 1 j)), (0, .ref h0), (1, .ref (Y.2.2.2.2.2 2 i))]) hx hb dX3_passTruckHour_17 rfl hl (by decide) rfl (fun ls hl => ?_)
      refine lv_aload_n hx hb dX3_passTruckHour_18 rfl (lv_at hl 3 rfl) ?_
      refine g_callVi (n9 := 0) (As := []) (rest := []) hx hb hml hl.1 hown hts hK hM (cr_X5_mustRest l G _ (Y.2.2.2.2.2 2 i) t (T 2 i)  (hL.row (k := 2) (by decide) hi) ) wm_X3_129 wi_X5_mustRest wl_X5_mustRest wn_X5 wc_X5_mustRest (by decide +kernel) (hM.recv hK (ci := 6) rfl (hL.row (k := 2) (by decide) hi)) ⟨Nat.le_of_ble_eq_true rfl, Nat.le_of_ble_eq_true rfl⟩ ⟨Nat.le_trans (Nat.le_of_ble_eq_true rfl) (Nat.zero_le _), Nat.le_trans (Nat.le_of_ble_eq_true rfl) (Nat.zero_le _)⟩ rfl (Nat.le_of_ble_eq_true rfl) rfl dX3_passTruckHour_19 (fun r_19 Mz H locs hq hM => ?_)
      have hq1 := hq.1.symm
      have hq2 := hq.2.symm
      subst hq1 hq2
      refine lv_if_eq (tgt := 32) hx hb dX3_passTruckHour_22 (by decide) (fun c7 => ?_) (fun c7 => ?_)
      · refine lv_aload_n hx hb dX3_passTruckHour_32 rfl (lv_at hl 1 rfl) ?_
        refine lv_ifnull hx hb dX3_passTruckHour_33 ?_
        refine lv_aload_n hx hb dX3_passTruckHour_36 rfl (lv_at hl 3 rfl) ?_
        refine fg_X3_136 hx hb hts hown hK hM (hL.row (k := 2) (by decide) hi) dX3_passTruckHour_37 ?_
        refine lv_aload_n hx hb dX3_passTruckHour_40 rfl (lv_at hl 1 rfl) ?_
        refine fg_X3_139 hx hb hts hown hK hM (hL.row (k := 1) (i := j) (by decide) hj) dX3_passTruckHour_41 ?_
        refine lv_icmp_eq (tgt := 58) hx hb dX3_passTruckHour_44 (by decide) (fun c8 => ?_) (fun c8 => ?_)
        · refine lv_aload_n hx hb dX3_passTruckHour_58 rfl (lv_at hl 3 rfl) ?_
          refine lv_aload_n hx hb dX3_passTruckHour_59 rfl (lv_at hl 1 rfl) ?_
          refine g_callVv (n9 := 1) (As := [.ref (Y.2.2.2.2.2 1 j)]) (rest := []) hx hb hml hl.1 hown hts hK hM (cr_X5_takeFrom l G _ (Y.2.2.2.2.2 2 i) t (Y.2.2.2.2.2 1 j) t (T 2 i) (T 1 j)  (hL.row (k := 2) (by decide) hi) (hL.row (k := 1) (i := j) (by decide) hj) (hu_ne (hL.row (k := 2) (by decide) hi) (hL.row (k := 1) (i := j) (by decide) hj) (eC_ne (by decide)))) wm_X3_143 wi_X5_takeFrom wl_X5_takeFrom wn_X5 wc_X5_takeFrom (by decide +kernel) (hM.recv hK (ci := 6) rfl (hL.row (k := 2) (by decide) hi)) ⟨Nat.le_of_ble_eq_true rfl, Nat.le_of_ble_eq_true rfl⟩ ⟨Nat.le_trans (Nat.le_of_ble_eq_true rfl) (Nat.zero_le _), Nat.le_trans (Nat.le_of_ble_eq_true rfl) (Nat.zero_le _)⟩ rfl (Nat.le_of_ble_eq_true rfl) rfl dX3_passTruckHour_60 (fun Mz H locs hq hM => ?_)
          subst hq
          obtain ⟨M1, eM1⟩ : ∃ z, z = hu M (Y.2.2.2.2.2 2 i) t (eC 2 (R_X5_takeFrom_0 (T 2 i) (T 1 j) )) := ⟨_, rfl⟩
          rw [← eM1] at hM
          have hL1 : LdR G M1 t h0 Y N (tu T 2 i (R_X5_takeFrom_0 (T 2 i) (T 1 j) )) tr now price money := by rw [eM1]; exact hL.setRow (k := 2) (by decide) hi (R_X5_takeFrom_0 (T 2 i) (T 1 j) )
          have hF1 : Fr t M M1 := by rw [eM1]; exact Fr.tr Fr.rf (Fr.up (hL.row (k := 2) (by decide) hi))
          have hr1_2 : M1 (Y.2.2.2.2.2 2 i) = some (t, eC 2 (R_X5_takeFrom_0 (T 2 i) (T 1 j) )) := by rw [eM1]; exact hu_s
          have hr1_1 : M1 (Y.2.2.2.2.2 1 j) = some (t, eC 1 (T 1 j)) := by rw [eM1]; exact hu_n (hu_ne (hL.row (k := 1) (i := j) (by decide) hj) (hL.row (k := 2) (by decide) hi) (eC_ne (by decide))) (hL.row (k := 1) (i := j) (by decide) hj)
          have hr1_3 : M1 (Y.2.2.2.2.2 3 v) = some (t, eC 3 (T 3 v)) := by rw [eM1]; exact hu_n (hu_ne (hL.row (k := 3) (i := v) (by decide) hv) (hL.row (k := 2) (by decide) hi) (eC_ne (by decide))) (hL.row (k := 3) (i := v) (by decide) hv)
          obtain ⟨M2, eM2⟩ : ∃ z, z = hu M1 (Y.2.2.2.2.2 1 j) t (eC 1 (R_X5_takeFrom_1 (T 2 i) (T 1 j) )) := ⟨_, rfl⟩
          replace hM := hM.eq eM2.symm
          have hL2 : LdR G M2 t h0 Y N (tu (tu T 2 i (R_X5_takeFrom_0 (T 2 i) (T 1 j) )) 1 j (R_X5_takeFrom_1 (T 2 i) (T 1 j) )) tr now price money := by rw [eM2]; exact hL1.setRow (k := 1) (by decide) hj (R_X5_takeFrom_1 (T 2 i) (T 1 j) )
          have hF2 : Fr t M M2 := by rw [eM2]; exact Fr.tr hF1 (Fr.up hr1_1)
          have hr2_2 : M2 (Y.2.2.2.2.2 2 i) = some (t, eC 2 (R_X5_takeFrom_0 (T 2 i) (T 1 j) )) := by rw [eM2]; exact hu_n (hu_ne hr1_2 hr1_1 (eC_ne (by decide))) hr1_2
          have hr2_1 : M2 (Y.2.2.2.2.2 1 j) = some (t, eC 1 (R_X5_takeFrom_1 (T 2 i) (T 1 j) )) := by rw [eM2]; exact hu_s
          have hr2_3 : M2 (Y.2.2.2.2.2 3 v) = some (t, eC 3 (T 3 v)) := by rw [eM2]; exact hu_n (hu_ne hr1_3 hr1_1 (eC_ne (by decide))) hr1_3
          refine lv_goto (tgt := 105) hx hb dX3_passTruckHour_63 (by decide) ?_
          exact g_vret hx hb hr hlocks hM (Nat.zero_le _) (Nat.zero_le _) (HP.mk0 (trP_ct c7 hc c8) hL2 hF2) dX3_passTruckHour_105
        · refine lv_aload_n hx hb dX3_passTruckHour_47 rfl (lv_at hl 3 rfl) ?_
          refine lv_aload_n hx hb dX3_passTruckHour_48 rfl (lv_at hl 1 rfl) ?_
          refine fg_X3_139 hx hb hts hown hK hM (hL.row (k := 1) (i := j) (by decide) hj) dX3_passTruckHour_49 ?_
          refine g_callVv (n9 := 1) (As := [.int ((T 1 j) 1)]) (rest := []) hx hb hml hl.1 hown hts hK hM (cr_X5_drive l G _ (Y.2.2.2.2.2 2 i) t (T 2 i) ((T 1 j) 1) (hL.row (k := 2) (by decide) hi) ) wm_X3_140 wi_X5_drive wl_X5_drive wn_X5 wc_X5_drive (by decide +kernel) (hM.recv hK (ci := 6) rfl (hL.row (k := 2) (by decide) hi)) ⟨Nat.le_of_ble_eq_true rfl, Nat.le_of_ble_eq_true rfl⟩ ⟨Nat.le_trans (Nat.le_of_ble_eq_true rfl) (Nat.zero_le _), Nat.le_trans (Nat.le_of_ble_eq_true rfl) (Nat.zero_le _)⟩ rfl (Nat.le_of_ble_eq_true rfl) rfl dX3_passTruckHour_52 (fun Mz H locs hq hM => ?_)
          subst hq
          obtain ⟨M1, eM1⟩ : ∃ z, z = hu M (Y.2.2.2.2.2 2 i) t (eC 2 (R_X5_drive_0 (T 2 i) ((T 1 j) 1))) := ⟨_, rfl⟩
          replace hM := hM.eq eM1.symm
          have hL1 : LdR G M1 t h0 Y N (tu T 2 i (R_X5_drive_0 (T 2 i) ((T 1 j) 1))) tr now price money := by rw [eM1]; exact hL.setRow (k := 2) (by decide) hi (R_X5_drive_0 (T 2 i) ((T 1 j) 1))
          have hF1 : Fr t M M1 := by rw [eM1]; exact Fr.tr Fr.rf (Fr.up (hL.row (k := 2) (by decide) hi))
          have hr1_2 : M1 (Y.2.2.2.2.2 2 i) = some (t, eC 2 (R_X5_drive_0 (T 2 i) ((T 1 j) 1))) := by rw [eM1]; exact hu_s
          have hr1_1 : M1 (Y.2.2.2.2.2 1 j) = some (t, eC 1 (T 1 j)) := by rw [eM1]; exact hu_n (hu_ne (hL.row (k := 1) (i := j) (by decide) hj) (hL.row (k := 2) (by decide) hi) (eC_ne (by decide))) (hL.row (k := 1) (i := j) (by decide) hj)
          have hr1_3 : M1 (Y.2.2.2.2.2 3 v) = some (t, eC 3 (T 3 v)) := by rw [eM1]; exact hu_n (hu_ne (hL.row (k := 3) (i := v) (by decide) hv) (hL.row (k := 2) (by decide) hi) (eC_ne (by decide))) (hL.row (k := 3) (i := v) (by decide) hv)
          refine lv_goto (tgt := 105) hx hb dX3_passTruckHour_55 (by decide) ?_
          exact g_vret hx hb hr hlocks hM (Nat.zero_le _) (Nat.zero_le _) (HP.mk0 (trP_cd c7 hc c8) hL1 hF1) dX3_passTruckHour_105
      · refine lv_aload_n hx hb dX3_passTruckHour_25 rfl (lv_at hl 3 rfl) ?_
        refine g_callVv (n9 := 0) (As := []) (rest := []) hx hb hml hl.1 hown hts hK hM (cr_X5_sleepHour l G _ (Y.2.2.2.2.2 2 i) t (T 2 i)  (hL.row (k := 2) (by decide) hi) ) wm_X3_133 wi_X5_sleepHour wl_X5_sleepHour wn_X5 wc_X5_sleepHour (by decide +kernel) (hM.recv hK (ci := 6) rfl (hL.row (k := 2) (by decide) hi)) ⟨Nat.le_of_ble_eq_true rfl, Nat.le_of_ble_eq_true rfl⟩ ⟨Nat.le_trans (Nat.le_of_ble_eq_true rfl) (Nat.zero_le _), Nat.le_trans (Nat.le_of_ble_eq_true rfl) (Nat.zero_le _)⟩ rfl (Nat.le_of_ble_eq_true rfl) rfl dX3_passTruckHour_26 (fun Mz H locs hq hM => ?_)
        subst hq
        obtain ⟨M1, eM1⟩ : ∃ z, z = hu M (Y.2.2.2.2.2 2 i) t (eC 2 (R_X5_sleepHour_0 (T 2 i) )) := ⟨_, rfl⟩
        replace hM := hM.eq eM1.symm
        have hL1 : LdR G M1 t h0 Y N (tu T 2 i (R_X5_sleepHour_0 (T 2 i) )) tr now price money := by rw [eM1]; exact hL.setRow (k := 2) (by decide) hi (R_X5_sleepHour_0 (T 2 i) )
        have hF1 : Fr t M M1 := by rw [eM1]; exact Fr.tr Fr.rf (Fr.up (hL.row (k := 2) (by decide) hi))
        have hr1_2 : M1 (Y.2.2.2.2.2 2 i) = some (t, eC 2 (R_X5_sleepHour_0 (T 2 i) )) := by rw [eM1]; exact hu_s
        have hr1_1 : M1 (Y.2.2.2.2.2 1 j) = some (t, eC 1 (T 1 j)) := by rw [eM1]; exact hu_n (hu_ne (hL.row (k := 1) (i := j) (by decide) hj) (hL.row (k := 2) (by decide) hi) (eC_ne (by decide))) (hL.row (k := 1) (i := j) (by decide) hj)
        have hr1_3 : M1 (Y.2.2.2.2.2 3 v) = some (t, eC 3 (T 3 v)) := by rw [eM1]; exact hu_n (hu_ne (hL.row (k := 3) (i := v) (by decide) hv) (hL.row (k := 2) (by decide) hi) (eC_ne (by decide))) (hL.row (k := 3) (i := v) (by decide) hv)
        refine lv_goto (tgt := 105) hx hb dX3_passTruckHour_29 (by decide) ?_
        exact g_vret hx hb hr hlocks hM (Nat.zero_le _) (Nat.zero_le _) (HP.mk0 (trP_r c7) hL1 hF1) dX3_passTruckHour_105
set_option maxHeartbeats 4000000 in
set_option maxRecDepth 100000 in
theorem c_X3_passHour (l : Launch) (G : GG) (M : HM) (t h0 : Nat) (Y : LY) (N : Nat → Nat) (T : Tb) (tr now price money : Int32) (p0 : Int32) (p1 : Int32) (p2 : Int32) (hL : LdR G M t h0 Y N T tr now price money) (hN4 : (hrP (N 0) (N 1) (N 2) (N 3) tr now price p0 p1 p2 (T, N 4, money)).2.1 < 600): Mv l yX3_passHour (.code yX3_passHour cX3_passHour 6 none :: AL) 10 240 (2 * ((hrP (N 0) (N 1) (N 2) (N 3) tr now price p0 p1 p2 (T, N 4, money)).2.1 - N 4)) (1000 * ((hrP (N 0) (N 1) (N 2) (N 3) tr now price p0 p1 p2 (T, N 4, money)).2.1 - N 4)) [.ref h0, .int p0, .int p1, .int p2] G M (HP G M t h0 Y N tr (now + (1 : Int32)) price (hrP (N 0) (N 1) (N 2) (N 3) tr now price p0 p1 p2 (T, N 4, money))) := by
  refine Mv.go (by decide) (Nat.le_of_ble_eq_true rfl) ?_
  intro p e s m below meth c ls hx hb hr hml hown hlocks hname hts hK hM hl
  have hown : s.vm.findClass RX3 = some m.cls := hown
  have hl : lv_has ls 6 [(0, .ref h0), (1, .int p0), (2, .int p1), (3, .int p2)] := hl
  obtain ⟨mc, emc⟩ : ∃ z, z = 2 * ((hrP (N 0) (N 1) (N 2) (N 3) tr now price p0 p1 p2 (T, N 4, money)).2.1 - N 4) := ⟨_, rfl⟩
  obtain ⟨ms, ems⟩ : ∃ z, z = 1000 * ((hrP (N 0) (N 1) (N 2) (N 3) tr now price p0 p1 p2 (T, N 4, money)).2.1 - N 4) := ⟨_, rfl⟩
  rw [← emc, ← ems]
  refine lv_aload_n hx hb dX3_passHour_0 rfl (lv_at hl 0 rfl) ?_
  refine lv_dup hx hb dX3_passHour_1 rfl ?_
  refine fg_X3_41 hx hb hts hown hK hM hL.1 dX3_passHour_2 ?_
  refine lv_iconst (v := (1 : Int32)) hx hb dX3_passHour_5 (by decide) ?_
  refine lv_iadd hx hb dX3_passHour_6 ?_
  refine fp_X3_41 hx hb hts hown hK hM hL.1 dX3_passHour_7 (fun H locs hM => ?_)
  obtain ⟨M1, eM1⟩ : ∃ z, z = hu M h0 t (ldE Y tr (now + (1 : Int32)) price money) := ⟨_, rfl⟩
  replace hM := hM.eq eM1.symm
  have hL1 : LdR G M1 t h0 Y N T tr (now + (1 : Int32)) price money := by rw [eM1]; exact hL.setLand _ _ _
  have hF1 : Fr t M M1 := by rw [eM1]; exact Fr.tr Fr.rf (Fr.up hL.1)
  have L110 : ∀ (n i : Nat), i ≤ N 2 → N 2 - i < n → ∀ (M1 : HM) (H : Heap) (locs : List Loc) (ls : Array Slot) (Y1 : LY) (S1 : TS), S1 = (trsP (N 0) (N 1) (N 3) tr (now + (1 : Int32)) price i ((cosP (N 0) (clk (now + (1 : Int32))) p2 (N 1) (fisP (clk (now + (1 : Int32))) p0 p1 p2 (N 0) T)), N 4, money)) → LdR G M1 t h0 Y1 (nu N 4 S1.2.1) S1.1 tr (now + (1 : Int32)) price S1.2.2 → Fr t M M1 → (∀ k i, k ≠ 4 → Y1.2.2.2.2.2 k i = Y.2.2.2.2.2 k i) → Y1.1 = Y.1 → Wd G M1 s H locs → lv_has ls 6 [(4, .int (nI i)), (0, .ref h0), (1, .int p0), (2, .int p1), (3, .int p2)] → W p l e ({ frames := 10, cells := mc, slots := ms, locals := 240 } : Room) s m [.ref h0, .int p0, .int p1, .int p2].toArray below meth c H locs (2 * (S1.2.1 - N 4)) (1000 * (S1.2.1 - N 4)) (MQ below (va_Qv (HP G M t h0 Y N tr (now + (1 : Int32)) price (hrP (N 0) (N 1) (N 2) (N 3) tr now price p0 p1 p2 (T, N 4, money))) (gB G) (gA G)) [.ref h0, .int p0, .int p1, .int p2].toArray s mc ms (gA G)) (F0 m 110 ls []) := by
    intro n
    induction n with
    | zero => intro i h1 h2; omega
    | succ n ih =>
      intro i h1 h2 M1 H locs ls Y1 S1 eS hL1 hF1 hY1 hYl hM hl
      have hle : S1.2.1 ≤ (hrP (N 0) (N 1) (N 2) (N 3) tr now price p0 p1 p2 (T, N 4, money)).2.1 := by rw [eS]; exact trsP_mono h1
      have hge : N 4 ≤ S1.2.1 := by rw [eS]; exact trsP_ge (S := ((cosP (N 0) (clk (now + (1 : Int32))) p2 (N 1) (fisP (clk (now + (1 : Int32))) p0 p1 p2 (N 0) T)), N 4, money))
      have hN2 : N 2 ≤ 600 := hL.2.2.2.2.2.2.1 2
      refine lv_iload hx hb dX3_passHour_110 (lv_at hl 0 rfl) ?_
      refine lv_aload_n hx hb dX3_passHour_112 rfl (lv_at hl 1 rfl) ?_
      refine fg_X3_21 hx hb hts hown hK hM hL1.1 dX3_passHour_113 ?_
      refine g_callVi (n9 := 0) (As := []) (rest := [.int (nI i)]) hx hb hml hl.1 hown hts hK hM (c_Jx4a65c_size_8abf5 l G _ (Y1.1 2) t _ _ _ ((hL1.2.1 2 (by decide)).1)) wm_X3_48 wi_Jx4a65c_size_8abf5 wl_Jx4a65c_size_8abf5 wn_Jx4a65c wc_Jx4a65c_size_8abf5 (by decide +kernel) (hM.recv hK (ci := 0) rfl ((hL1.2.1 2 (by decide)).1)) ⟨Nat.le_of_ble_eq_true rfl, Nat.le_of_ble_eq_true rfl⟩ ⟨by show _ ≤ mc; omega, by show _ ≤ ms; omega⟩ rfl (Nat.le_of_ble_eq_true rfl) rfl dX3_passHour_116 (fun r_116 Mz H locs hq hM => ?_)
      have hq1 := hq.1.symm
      have hq2 := hq.2.symm
      subst hq1 hq2
      have hN9 := hL1.2.2.2.2.2.2.1 2
      refine lv_icmp_ge (tgt := 144) hx hb dX3_passHour_119 (by decide) (fun c1 => ?_) (fun c1 => ?_)
      · have hi : i = N 2 := by
          have := (nI_leI (a := N 2) (b := i) (by omega) (by omega)).mp c1
          omega
        subst hi
        exact g_vret hx hb hr hlocks hM (by omega) (by omega) (HP.mk (eS.symm.trans rfl) hL1 hF1 hY1 hYl) dX3_passHour_144
      · have hi : i < N 2 := by
          rcases Nat.lt_or_ge i (N 2) with z | z
          · exact z
          · exact absurd (nI_le z (by omega)) c1
        refine lv_aload_n hx hb dX3_passHour_122 rfl (lv_at hl 1 rfl) ?_
        refine lv_aload_n hx hb dX3_passHour_123 rfl (lv_at hl 1 rfl) ?_
        refine fg_X3_21 hx hb hts hown hK hM hL1.1 dX3_passHour_124 ?_
        refine lv_iload hx hb dX3_passHour_127 (lv_at hl 0 rfl) ?_
        refine g_callVq (n9 := 1) (As := [.int (nI i)]) (rest := [.ref h0]) hx hb hml hl.1 hown hts hK hM (c_getL l G _ t (Y1.1 2) ((nu N 4 S1.2.1) 2) _ _ i _ _ (hL1.2.1 2 (by decide)) hi) wm_X3_52 wi_Jx4a65c_get_915e3 wl_Jx4a65c_get_915e3 wn_Jx4a65c wc_Jx4a65c_get_915e3 (by decide +kernel) (hM.recv hK (ci := 0) rfl ((hL1.2.1 2 (by decide)).1)) ⟨Nat.le_of_ble_eq_true rfl, Nat.le_of_ble_eq_true rfl⟩ ⟨by show _ ≤ mc; omega, by show _ ≤ ms; omega⟩ rfl (Nat.le_of_ble_eq_true rfl) rfl dX3_passHour_129 (fun r_129 Mz H locs hq hM => ?_)
        have hq1 := (hq.1.trans (hL1.at_g (k := 2) (i := i) (by decide) hi)).symm
        have hq2 := hq.2.symm
        subst hq1 hq2
        refine va_castS (nm := RX5) hx hb hown (hts _ wk_X3_67) (hK.1.1 6 _ rfl).2 (hM.recv hK (ci := 6) rfl (hL1.row (k := 2) (i := i) (by decide) hi)) dX3_passHour_132 ?_
        have en : (trP (N 0) (N 1) (N 3) tr (now + (1 : Int32)) price i S1) = trsP (N 0) (N 1) (N 3) tr (now + (1 : Int32)) price (i + 1) ((cosP (N 0) (clk (now + (1 : Int32))) p2 (N 1) (fisP (clk (now + (1 : Int32))) p0 p1 p2 (N 0) T)), N 4, money) := by rw [eS]; rfl
        have hle2 : (trP (N 0) (N 1) (N 3) tr (now + (1 : Int32)) price i S1).2.1 ≤ (hrP (N 0) (N 1) (N 2) (N 3) tr now price p0 p1 p2 (T, N 4, money)).2.1 := by rw [en]; exact trsP_mono hi
        have hge2 : S1.2.1 ≤ (trP (N 0) (N 1) (N 3) tr (now + (1 : Int32)) price i S1).2.1 := trP_mono
        refine g_callVv (n9 := 1) (As := [.ref (Y1.2.2.2.2.2 2 i)]) (rest := []) hx hb hml hl.1 hown hts hK hM (c_X3_passTruckHour l G _ t h0 Y1 (nu N 4 S1.2.1) S1.1 tr (now + (1 : Int32)) price S1.2.2 hL1 i hi (by show S1.2.1 < 600; omega)) wm_X3_112 wi_X3_passTruckHour wl_X3_passTruckHour wn_X3 wc_X3_passTruckHour (by decide +kernel) (hM.recv hK (ci := 4) rfl hL1.1) ⟨Nat.le_of_ble_eq_true rfl, Nat.le_of_ble_eq_true rfl⟩ ⟨by show 2 * (S1.2.1 - N 4) + 2 * ((trP (N 0) (N 1) (N 3) tr (now + (1 : Int32)) price i S1).2.1 - S1.2.1) ≤ mc; omega, by show 1000 * (S1.2.1 - N 4) + 1000 * ((trP (N 0) (N 1) (N 3) tr (now + (1 : Int32)) price i S1).2.1 - S1.2.1) ≤ ms; omega⟩ rfl (Nat.le_of_ble_eq_true rfl) rfl dX3_passHour_135 (fun M9 H locs hq hM => ?_)
        obtain ⟨Y9, g1, g2, g3, g4⟩ := hq
        replace g1 : LdR G M9 t h0 Y9 (nu N 4 (trP (N 0) (N 1) (N 3) tr (now + (1 : Int32)) price i S1).2.1) (trP (N 0) (N 1) (N 3) tr (now + (1 : Int32)) price i S1).1 tr (now + (1 : Int32)) price (trP (N 0) (N 1) (N 3) tr (now + (1 : Int32)) price i S1).2.2 := by rw [nu_nu] at g1; exact g1
        refine W.cst (cells' := 2 * ((trP (N 0) (N 1) (N 3) tr (now + (1 : Int32)) price i S1).2.1 - N 4)) (slots' := 1000 * ((trP (N 0) (N 1) (N 3) tr (now + (1 : Int32)) price i S1).2.1 - N 4)) (by show 2 * (S1.2.1 - N 4) + 2 * ((trP (N 0) (N 1) (N 3) tr (now + (1 : Int32)) price i S1).2.1 - S1.2.1) = _; omega) (by show 1000 * (S1.2.1 - N 4) + 1000 * ((trP (N 0) (N 1) (N 3) tr (now + (1 : Int32)) price i S1).2.1 - S1.2.1) = _; omega) ?_
        refine lv_iinc (v := (nI (i + 1))) (lv' := [(4, .int (nI (i + 1))), (0, .ref h0), (1, .int p0), (2, .int p1), (3, .int p2)]) hx hb dX3_passHour_138 hl (k := 0) rfl (nI_1 i) (by decide) rfl (fun ls hl => ?_)
        refine lv_goto (tgt := 110) hx hb dX3_passHour_141 (by decide) ?_
        exact ih (i + 1) (by omega) (by omega) M9 _ _ _ Y9 _ en g1 (Fr.tr hF1 g2) (fun k j hk => (g3 k j hk).trans (hY1 k j hk)) (g4.trans hYl) hM (lv_sub hl [0, 1, 2, 3, 4] rfl)
  have L56 : ∀ (n i : Nat), i ≤ N 1 → N 1 - i < n → ∀ (M1 : HM) (H : Heap) (locs : List Loc) (ls : Array Slot) (T1 : Tb), T1 = cosP (N 0) (clk (now + (1 : Int32))) p2 i (fisP (clk (now + (1 : Int32))) p0 p1 p2 (N 0) T) → LdR G M1 t h0 Y N T1 tr (now + (1 : Int32)) price money → Fr t M M1 → Wd G M1 s H locs → lv_has ls 6 [(4, .int (nI i)), (0, .ref h0), (1, .int p0), (2, .int p1), (3, .int p2)] → W p l e ({ frames := 10, cells := mc, slots := ms, locals := 240 } : Room) s m [.ref h0, .int p0, .int p1, .int p2].toArray below meth c H locs 0 0 (MQ below (va_Qv (HP G M t h0 Y N tr (now + (1 : Int32)) price (hrP (N 0) (N 1) (N 2) (N 3) tr now price p0 p1 p2 (T, N 4, money))) (gB G) (gA G)) [.ref h0, .int p0, .int p1, .int p2].toArray s mc ms (gA G)) (F0 m 56 ls []) := by
    intro n
    induction n with
    | zero => intro i h1 h2; omega
    | succ n ih =>
      intro i h1 h2 M1 H locs ls T1 eT hL1 hF1 hM hl
      have hN9 : N 1 ≤ 600 := hL.2.2.2.2.2.2.1 1
      refine lv_iload hx hb dX3_passHour_56 (lv_at hl 0 rfl) ?_
      refine lv_aload_n hx hb dX3_passHour_58 rfl (lv_at hl 1 rfl) ?_
      refine fg_X3_18 hx hb hts hown hK hM hL1.1 dX3_passHour_59 ?_
      refine g_callVi (n9 := 0) (As := []) (rest := [.int (nI i)]) hx hb hml hl.1 hown hts hK hM (c_Jx4a65c_size_8abf5 l G _ (Y.1 1) t _ _ _ ((hL1.2.1 1 (by decide)).1)) wm_X3_48 wi_Jx4a65c_size_8abf5 wl_Jx4a65c_size_8abf5 wn_Jx4a65c wc_Jx4a65c_size_8abf5 (by decide +kernel) (hM.recv hK (ci := 0) rfl ((hL1.2.1 1 (by decide)).1)) ⟨Nat.le_of_ble_eq_true rfl, Nat.le_of_ble_eq_true rfl⟩ ⟨Nat.le_trans (Nat.le_of_ble_eq_true rfl) (Nat.zero_le _), Nat.le_trans (Nat.le_of_ble_eq_true rfl) (Nat.zero_le _)⟩ rfl (Nat.le_of_ble_eq_true rfl) rfl dX3_passHour_62 (fun r_62 Mz H locs hq hM => ?_)
      have hq1 := hq.1.symm
      have hq2 := hq.2.symm
      subst hq1 hq2
      refine lv_icmp_ge (tgt := 107) hx hb dX3_passHour_65 (by decide) (fun c2 => ?_) (fun c2 => ?_)
      · have hi : i = N 1 := by
          have := (nI_leI (a := N 1) (b := i) (by omega) (by omega)).mp c2
          omega
        subst hi
        refine lv_iconst (v := (0 : Int32)) hx hb dX3_passHour_107 (by decide) ?_
        refine lv_istore (lv' := [(4, .int (0 : Int32)), (0, .ref h0), (1, .int p0), (2, .int p1), (3, .int p2)]) hx hb dX3_passHour_108 hl (by decide) rfl (fun ls hl => ?_)
        subst eT
        refine W.cst (cells := 0) (slots := 0) (cells' := 2 * (N 4 - N 4)) (slots' := 1000 * (N 4 - N 4)) (by omega) (by omega) ?_
        exact L110 (N 2 + 1) 0 (Nat.zero_le _) (by omega) M1 _ _ _ Y ((cosP (N 0) (clk (now + (1 : Int32))) p2 (N 1) (fisP (clk (now + (1 : Int32))) p0 p1 p2 (N 0) T)), N 4, money) rfl (by show LdR G M1 t h0 Y (nu N 4 (N 4)) _ tr _ price money; rw [nu_i]; exact hL1) hF1 (fun _ _ _ => rfl) rfl hM (lv_sub hl [0, 1, 2, 3, 4] rfl)
      · have hi : i < N 1 := by
          rcases Nat.lt_or_ge i (N 1) with z | z
          · exact z
          · exact absurd (nI_le z (by omega)) c2
        refine lv_aload_n hx hb dX3_passHour_68 rfl (lv_at hl 1 rfl) ?_
        refine fg_X3_18 hx hb hts hown hK hM hL1.1 dX3_passHour_69 ?_
        refine lv_iload hx hb dX3_passHour_72 (lv_at hl 0 rfl) ?_
        refine g_callVq (n9 := 1) (As := [.int (nI i)]) (rest := []) hx hb hml hl.1 hown hts hK hM (c_getL l G _ t (Y.1 1) (N 1) _ _ i _ _ (hL1.2.1 1 (by decide)) hi) wm_X3_52 wi_Jx4a65c_get_915e3 wl_Jx4a65c_get_915e3 wn_Jx4a65c wc_Jx4a65c_get_915e3 (by decide +kernel) (hM.recv hK (ci := 0) rfl ((hL1.2.1 1 (by decide)).1)) ⟨Nat.le_of_ble_eq_true rfl, Nat.le_of_ble_eq_true rfl⟩ ⟨Nat.le_trans (Nat.le_of_ble_eq_true rfl) (Nat.zero_le _), Nat.le_trans (Nat.le_of_ble_eq_true rfl) (Nat.zero_le _)⟩ rfl (Nat.le_of_ble_eq_true rfl) rfl dX3_passHour_74 (fun r_74 Mz H locs hq hM => ?_)
        have hq1 := (hq.1.trans (hL1.at_g (k := 1) (i := i) (by decide) hi)).symm
        have hq2 := hq.2.symm
        subst hq1 hq2
        refine va_castS (nm := RX0) hx hb hown (hts _ wk_X3_62) (hK.1.1 1 _ rfl).2 (hM.recv hK (ci := 1) rfl (hL1.row (k := 1) (i := i) (by decide) hi)) dX3_passHour_77 ?_
        refine lv_astore (lv' := [(5, .ref (Y.2.2.2.2.2 1 i)), (4, .int (nI i)), (0, .ref h0), (1, .int p0), (2, .int p1), (3, .int p2)]) hx hb dX3_passHour_80 hl (by decide) rfl (fun ls hl => ?_)
        refine lv_aload hx hb dX3_passHour_82 (lv_at hl 0 rfl) ?_
        refine lv_aload_n hx hb dX3_passHour_84 rfl (lv_at hl 2 rfl) ?_
        refine lv_aload hx hb dX3_passHour_85 (lv_at hl 0 rfl) ?_
        refine fg_X3_102 hx hb hts hown hK hM (hL1.row (k := 1) (i := i) (by decide) hi) dX3_passHour_87 ?_
        rcases hc : ixR (N 0) ((T1 1 i) 9) with _ | j
        · refine g_callVq (n9 := 1) (As := [.int ((T1 1 i) 9)]) (rest := [.ref (Y.2.2.2.2.2 1 i)]) hx hb hml hl.1 hown hts hK hM (c_X3_fieldAt l G _ t h0 Y N _ tr (now + (1 : Int32)) price money ((T1 1 i) 9) hL1) wm_X3_105 wi_X3_fieldAt wl_X3_fieldAt wn_X3 wc_X3_fieldAt (by decide +kernel) (hM.recv hK (ci := 4) rfl hL1.1) ⟨Nat.le_of_ble_eq_true rfl, Nat.le_of_ble_eq_true rfl⟩ ⟨Nat.le_trans (Nat.le_of_ble_eq_true rfl) (Nat.zero_le _), Nat.le_trans (Nat.le_of_ble_eq_true rfl) (Nat.zero_le _)⟩ rfl (Nat.le_of_ble_eq_true rfl) rfl dX3_passHour_90 (fun r_90 Mz H locs hq hM => ?_)
          have hq1 := (hq.1.trans (atR_n (N := N) (k := 0) hc)).symm
          have hq2 := hq.2.symm
          subst hq1 hq2
          refine lv_aload_n hx hb dX3_passHour_93 rfl (lv_at hl 2 rfl) ?_
          refine g_callVi (n9 := 0) (As := []) (rest := [.null, .ref (Y.2.2.2.2.2 1 i)]) hx hb hml hl.1 hown hts hK hM (c_X3_clock l G _ t h0 Y N _ tr (now + (1 : Int32)) price money hL1) wm_X3_95 wi_X3_clock wl_X3_clock wn_X3 wc_X3_clock (by decide +kernel) (hM.recv hK (ci := 4) rfl hL1.1) ⟨Nat.le_of_ble_eq_true rfl, Nat.le_of_ble_eq_true rfl⟩ ⟨Nat.le_trans (Nat.le_of_ble_eq_true rfl) (Nat.zero_le _), Nat.le_trans (Nat.le_of_ble_eq_true rfl) (Nat.zero_le _)⟩ rfl (Nat.le_of_ble_eq_true rfl) rfl dX3_passHour_94 (fun r_94 Mz H locs hq hM => ?_)
          have hq1 := hq.1.symm
          have hq2 := hq.2.symm
          subst hq1 hq2
          refine lv_iload_n hx hb dX3_passHour_97 rfl (lv_at hl 5 rfl) ?_
          refine g_callVv (n9 := 3) (As := [.null, .int (clk (now + (1 : Int32))), .int p2]) (rest := []) hx hb hml hl.1 hown hts hK hM (cr_X0_passHourN l G _ (Y.2.2.2.2.2 1 i) t (T1 1 i) (clk (now + (1 : Int32))) p2 (hL1.row (k := 1) (i := i) (by decide) hi)) wm_X3_109 wi_X0_passHour wl_X0_passHour wn_X0 wc_X0_passHour (by decide +kernel) (hM.recv hK (ci := 1) rfl (hL1.row (k := 1) (i := i) (by decide) hi)) ⟨Nat.le_of_ble_eq_true rfl, Nat.le_of_ble_eq_true rfl⟩ ⟨Nat.le_trans (Nat.le_of_ble_eq_true rfl) (Nat.zero_le _), Nat.le_trans (Nat.le_of_ble_eq_true rfl) (Nat.zero_le _)⟩ rfl (Nat.le_of_ble_eq_true rfl) rfl dX3_passHour_98 (fun Mz H locs hq hM => ?_)
          replace hq := hq.symm
          subst hq
          refine lv_iinc (v := (nI (i + 1))) (lv' := [(4, .int (nI (i + 1))), (5, .ref (Y.2.2.2.2.2 1 i)), (0, .ref h0), (1, .int p0), (2, .int p1), (3, .int p2)]) hx hb dX3_passHour_101 hl (k := 1) rfl (nI_1 i) (by decide) rfl (fun ls hl => ?_)
          refine lv_goto (tgt := 56) hx hb dX3_passHour_104 (by decide) ?_
          exact ih (i + 1) (by omega) (by omega) _ _ _ _ _ (by rw [eT] at hc ⊢; exact (coP_n hc).symm) hL1 hF1 hM (lv_sub hl [0, 2, 3, 4, 5] rfl)
        · refine g_callVq (n9 := 1) (As := [.int ((T1 1 i) 9)]) (rest := [.ref (Y.2.2.2.2.2 1 i)]) hx hb hml hl.1 hown hts hK hM (c_X3_fieldAt l G _ t h0 Y N _ tr (now + (1 : Int32)) price money ((T1 1 i) 9) hL1) wm_X3_105 wi_X3_fieldAt wl_X3_fieldAt wn_X3 wc_X3_fieldAt (by decide +kernel) (hM.recv hK (ci := 4) rfl hL1.1) ⟨Nat.le_of_ble_eq_true rfl, Nat.le_of_ble_eq_true rfl⟩ ⟨Nat.le_trans (Nat.le_of_ble_eq_true rfl) (Nat.zero_le _), Nat.le_trans (Nat.le_of_ble_eq_true rfl) (Nat.zero_le _)⟩ rfl (Nat.le_of_ble_eq_true rfl) rfl dX3_passHour_90 (fun r_90 Mz H locs hq hM => ?_)
          have hq1 := (hq.1.trans (atR_s (N := N) (k := 0) hc)).symm
          have hq2 := hq.2.symm
          subst hq1 hq2
          have hj : j < N 0 := (ixR_lt (hL1.2.2.2.2.2.2.1 0) hc).1
          refine lv_aload_n hx hb dX3_passHour_93 rfl (lv_at hl 2 rfl) ?_
          refine g_callVi (n9 := 0) (As := []) (rest := [.ref (Y.2.2.2.2.2 0 j), .ref (Y.2.2.2.2.2 1 i)]) hx hb hml hl.1 hown hts hK hM (c_X3_clock l G _ t h0 Y N _ tr (now + (1 : Int32)) price money hL1) wm_X3_95 wi_X3_clock wl_X3_clock wn_X3 wc_X3_clock (by decide +kernel) (hM.recv hK (ci := 4) rfl hL1.1) ⟨Nat.le_of_ble_eq_true rfl, Nat.le_of_ble_eq_true rfl⟩ ⟨Nat.le_trans (Nat.le_of_ble_eq_true rfl) (Nat.zero_le _), Nat.le_trans (Nat.le_of_ble_eq_true rfl) (Nat.zero_le _)⟩ rfl (Nat.le_of_ble_eq_true rfl) rfl dX3_passHour_94 (fun r_94 Mz H locs hq hM => ?_)
          have hq1 := hq.1.symm
          have hq2 := hq.2.symm
          subst hq1 hq2
          refine lv_iload_n hx hb dX3_passHour_97 rfl (lv_at hl 5 rfl) ?_
          refine g_callVv (n9 := 3) (As := [.ref (Y.2.2.2.2.2 0 j), .int (clk (now + (1 : Int32))), .int p2]) (rest := []) hx hb hml hl.1 hown hts hK hM (cr_X0_passHour l G _ (Y.2.2.2.2.2 1 i) t (Y.2.2.2.2.2 0 j) t (T1 1 i) (T1 0 j) (clk (now + (1 : Int32))) p2 (hL1.row (k := 1) (i := i) (by decide) hi) (hL1.row (k := 0) (i := j) (by decide) hj) (hu_ne (hL1.row (k := 1) (i := i) (by decide) hi) (hL1.row (k := 0) (i := j) (by decide) hj) (eC_ne (by decide)))) wm_X3_109 wi_X0_passHour wl_X0_passHour wn_X0 wc_X0_passHour (by decide +kernel) (hM.recv hK (ci := 1) rfl (hL1.row (k := 1) (i := i) (by decide) hi)) ⟨Nat.le_of_ble_eq_true rfl, Nat.le_of_ble_eq_true rfl⟩ ⟨Nat.le_trans (Nat.le_of_ble_eq_true rfl) (Nat.zero_le _), Nat.le_trans (Nat.le_of_ble_eq_true rfl) (Nat.zero_le _)⟩ rfl (Nat.le_of_ble_eq_true rfl) rfl dX3_passHour_98 (fun Mz H locs hq hM => ?_)
          subst hq
          obtain ⟨M2, eM2⟩ : ∃ z, z = hu M1 (Y.2.2.2.2.2 1 i) t (eC 1 (R_X0_passHour_0 (T1 1 i) (T1 0 j) (clk (now + (1 : Int32))) p2)) := ⟨_, rfl⟩
          rw [← eM2] at hM
          have hL2 : LdR G M2 t h0 Y N (tu T1 1 i (R_X0_passHour_0 (T1 1 i) (T1 0 j) (clk (now + (1 : Int32))) p2)) tr (now + (1 : Int32)) price money := by rw [eM2]; exact hL1.setRow (k := 1) (by decide) hi (R_X0_passHour_0 (T1 1 i) (T1 0 j) (clk (now + (1 : Int32))) p2)
          have hF2 : Fr t M M2 := by rw [eM2]; exact Fr.tr hF1 (Fr.up (hL1.row (k := 1) (i := i) (by decide) hi))
          have hr2_1 : M2 (Y.2.2.2.2.2 1 i) = some (t, eC 1 (R_X0_passHour_0 (T1 1 i) (T1 0 j) (clk (now + (1 : Int32))) p2)) := by rw [eM2]; exact hu_s
          have hr2_0 : M2 (Y.2.2.2.2.2 0 j) = some (t, eC 0 (T1 0 j)) := by rw [eM2]; exact hu_n (hu_ne (hL1.row (k := 0) (i := j) (by decide) hj) (hL1.row (k := 1) (i := i) (by decide) hi) (eC_ne (by decide))) (hL1.row (k := 0) (i := j) (by decide) hj)
          obtain ⟨M3, eM3⟩ : ∃ z, z = hu M2 (Y.2.2.2.2.2 0 j) t (eC 0 (R_X0_passHour_1 (T1 1 i) (T1 0 j) (clk (now + (1 : Int32))) p2)) := ⟨_, rfl⟩
          replace hM := hM.eq eM3.symm
          have hL3 : LdR G M3 t h0 Y N (tu (tu T1 1 i (R_X0_passHour_0 (T1 1 i) (T1 0 j) (clk (now + (1 : Int32))) p2)) 0 j (R_X0_passHour_1 (T1 1 i) (T1 0 j) (clk (now + (1 : Int32))) p2)) tr (now + (1 : Int32)) price money := by rw [eM3]; exact hL2.setRow (k := 0) (by decide) hj (R_X0_passHour_1 (T1 1 i) (T1 0 j) (clk (now + (1 : Int32))) p2)
          have hF3 : Fr t M M3 := by rw [eM3]; exact Fr.tr hF2 (Fr.up hr2_0)
          have hr3_1 : M3 (Y.2.2.2.2.2 1 i) = some (t, eC 1 (R_X0_passHour_0 (T1 1 i) (T1 0 j) (clk (now + (1 : Int32))) p2)) := by rw [eM3]; exact hu_n (hu_ne hr2_1 hr2_0 (eC_ne (by decide))) hr2_1
          have hr3_0 : M3 (Y.2.2.2.2.2 0 j) = some (t, eC 0 (R_X0_passHour_1 (T1 1 i) (T1 0 j) (clk (now + (1 : Int32))) p2)) := by rw [eM3]; exact hu_s
          refine lv_iinc (v := (nI (i + 1))) (lv' := [(4, .int (nI (i + 1))), (5, .ref (Y.2.2.2.2.2 1 i)), (0, .ref h0), (1, .int p0), (2, .int p1), (3, .int p2)]) hx hb dX3_passHour_101 hl (k := 1) rfl (nI_1 i) (by decide) rfl (fun ls hl => ?_)
          refine lv_goto (tgt := 56) hx hb dX3_passHour_104 (by decide) ?_
          exact ih (i + 1) (by omega) (by omega) _ _ _ _ _ (by rw [eT] at hc ⊢; exact (coP_s hc).symm) hL3 hF3 hM (lv_sub hl [0, 2, 3, 4, 5] rfl)
  have L13 : ∀ (n i : Nat), i ≤ N 0 → N 0 - i < n → ∀ (M1 : HM) (H : Heap) (locs : List Loc) (ls : Array Slot) (T1 : Tb), T1 = fisP (clk (now + (1 : Int32))) p0 p1 p2 i T → LdR G M1 t h0 Y N T1 tr (now + (1 : Int32)) price money → Fr t M M1 → Wd G M1 s H locs → lv_has ls 6 [(4, .int (nI i)), (0, .ref h0), (1, .int p0), (2, .int p1), (3, .int p2)] → W p l e ({ frames := 10, cells := mc, slots := ms, locals := 240 } : Room) s m [.ref h0, .int p0, .int p1, .int p2].toArray below meth c H locs 0 0 (MQ below (va_Qv (HP G M t h0 Y N tr (now + (1 : Int32)) price (hrP (N 0) (N 1) (N 2) (N 3) tr now price p0 p1 p2 (T, N 4, money))) (gB G) (gA G)) [.ref h0, .int p0, .int p1, .int p2].toArray s mc ms (gA G)) (F0 m 13 ls []) := by
    intro n
    induction n with
    | zero => intro i h1 h2; omega
    | succ n ih =>
      intro i h1 h2 M1 H locs ls T1 eT hL1 hF1 hM hl
      have hN9 : N 0 ≤ 600 := hL.2.2.2.2.2.2.1 0
      refine lv_iload hx hb dX3_passHour_13 (lv_at hl 0 rfl) ?_
      refine lv_aload_n hx hb dX3_passHour_15 rfl (lv_at hl 1 rfl) ?_
      refine fg_X3_12 hx hb hts hown hK hM hL1.1 dX3_passHour_16 ?_
      refine g_callVi (n9 := 0) (As := []) (rest := [.int (nI i)]) hx hb hml hl.1 hown hts hK hM (c_Jx4a65c_size_8abf5 l G _ (Y.1 0) t _ _ _ ((hL1.2.1 0 (by decide)).1)) wm_X3_48 wi_Jx4a65c_size_8abf5 wl_Jx4a65c_size_8abf5 wn_Jx4a65c wc_Jx4a65c_size_8abf5 (by decide +kernel) (hM.recv hK (ci := 0) rfl ((hL1.2.1 0 (by decide)).1)) ⟨Nat.le_of_ble_eq_true rfl, Nat.le_of_ble_eq_true rfl⟩ ⟨Nat.le_trans (Nat.le_of_ble_eq_true rfl) (Nat.zero_le _), Nat.le_trans (Nat.le_of_ble_eq_true rfl) (Nat.zero_le _)⟩ rfl (Nat.le_of_ble_eq_true rfl) rfl dX3_passHour_19 (fun r_19 Mz H locs hq hM => ?_)
      have hq1 := hq.1.symm
      have hq2 := hq.2.symm
      subst hq1 hq2
      refine lv_icmp_ge (tgt := 53) hx hb dX3_passHour_22 (by decide) (fun c3 => ?_) (fun c3 => ?_)
      · have hi : i = N 0 := by
          have := (nI_leI (a := N 0) (b := i) (by omega) (by omega)).mp c3
          omega
        subst hi
        refine lv_iconst (v := (0 : Int32)) hx hb dX3_passHour_53 (by decide) ?_
        refine lv_istore (lv' := [(4, .int (0 : Int32)), (0, .ref h0), (1, .int p0), (2, .int p1), (3, .int p2)]) hx hb dX3_passHour_54 hl (by decide) rfl (fun ls hl => ?_)
        exact L56 (N 1 + 1) 0 (Nat.zero_le _) (by omega) M1 _ _ _ T1 eT hL1 hF1 hM (lv_sub hl [0, 1, 2, 3, 4] rfl)
      · have hi : i < N 0 := by
          rcases Nat.lt_or_ge i (N 0) with z | z
          · exact z
          · exact absurd (nI_le z (by omega)) c3
        refine lv_aload_n hx hb dX3_passHour_25 rfl (lv_at hl 1 rfl) ?_
        refine fg_X3_12 hx hb hts hown hK hM hL1.1 dX3_passHour_26 ?_
        refine lv_iload hx hb dX3_passHour_29 (lv_at hl 0 rfl) ?_
        refine g_callVq (n9 := 1) (As := [.int (nI i)]) (rest := []) hx hb hml hl.1 hown hts hK hM (c_getL l G _ t (Y.1 0) (N 0) _ _ i _ _ (hL1.2.1 0 (by decide)) hi) wm_X3_52 wi_Jx4a65c_get_915e3 wl_Jx4a65c_get_915e3 wn_Jx4a65c wc_Jx4a65c_get_915e3 (by decide +kernel) (hM.recv hK (ci := 0) rfl ((hL1.2.1 0 (by decide)).1)) ⟨Nat.le_of_ble_eq_true rfl, Nat.le_of_ble_eq_true rfl⟩ ⟨Nat.le_trans (Nat.le_of_ble_eq_true rfl) (Nat.zero_le _), Nat.le_trans (Nat.le_of_ble_eq_true rfl) (Nat.zero_le _)⟩ rfl (Nat.le_of_ble_eq_true rfl) rfl dX3_passHour_31 (fun r_31 Mz H locs hq hM => ?_)
        have hq1 := (hq.1.trans (hL1.at_g (k := 0) (i := i) (by decide) hi)).symm
        have hq2 := hq.2.symm
        subst hq1 hq2
        refine va_castS (nm := RX2) hx hb hown (hts _ wk_X3_56) (hK.1.1 3 _ rfl).2 (hM.recv hK (ci := 3) rfl (hL1.row (k := 0) (i := i) (by decide) hi)) dX3_passHour_34 ?_
        refine lv_aload_n hx hb dX3_passHour_37 rfl (lv_at hl 1 rfl) ?_
        refine g_callVi (n9 := 0) (As := []) (rest := [.ref (Y.2.2.2.2.2 0 i)]) hx hb hml hl.1 hown hts hK hM (c_X3_clock l G _ t h0 Y N _ tr (now + (1 : Int32)) price money hL1) wm_X3_95 wi_X3_clock wl_X3_clock wn_X3 wc_X3_clock (by decide +kernel) (hM.recv hK (ci := 4) rfl hL1.1) ⟨Nat.le_of_ble_eq_true rfl, Nat.le_of_ble_eq_true rfl⟩ ⟨Nat.le_trans (Nat.le_of_ble_eq_true rfl) (Nat.zero_le _), Nat.le_trans (Nat.le_of_ble_eq_true rfl) (Nat.zero_le _)⟩ rfl (Nat.le_of_ble_eq_true rfl) rfl dX3_passHour_38 (fun r_38 Mz H locs hq hM => ?_)
        have hq1 := hq.1.symm
        have hq2 := hq.2.symm
        subst hq1 hq2
        refine lv_iload_n hx hb dX3_passHour_41 rfl (lv_at hl 2 rfl) ?_
        refine lv_iload_n hx hb dX3_passHour_42 rfl (lv_at hl 3 rfl) ?_
        refine lv_iload_n hx hb dX3_passHour_43 rfl (lv_at hl 4 rfl) ?_
        refine g_callVv (n9 := 4) (As := [.int (clk (now + (1 : Int32))), .int p0, .int p1, .int p2]) (rest := []) hx hb hml hl.1 hown hts hK hM (cr_X2_passHour l G _ (Y.2.2.2.2.2 0 i) t (T1 0 i) (clk (now + (1 : Int32))) p0 p1 p2 (hL1.row (k := 0) (i := i) (by decide) hi) ) wm_X3_98 wi_X2_passHour wl_X2_passHour wn_X2 wc_X2_passHour (by decide +kernel) (hM.recv hK (ci := 3) rfl (hL1.row (k := 0) (i := i) (by decide) hi)) ⟨Nat.le_of_ble_eq_true rfl, Nat.le_of_ble_eq_true rfl⟩ ⟨Nat.le_trans (Nat.le_of_ble_eq_true rfl) (Nat.zero_le _), Nat.le_trans (Nat.le_of_ble_eq_true rfl) (Nat.zero_le _)⟩ rfl (Nat.le_of_ble_eq_true rfl) rfl dX3_passHour_44 (fun Mz H locs hq hM => ?_)
        subst hq
        obtain ⟨M2, eM2⟩ : ∃ z, z = hu M1 (Y.2.2.2.2.2 0 i) t (eC 0 (R_X2_passHour_0 (T1 0 i) (clk (now + (1 : Int32))) p0 p1 p2)) := ⟨_, rfl⟩
        replace hM := hM.eq eM2.symm
        have hL2 : LdR G M2 t h0 Y N (tu T1 0 i (R_X2_passHour_0 (T1 0 i) (clk (now + (1 : Int32))) p0 p1 p2)) tr (now + (1 : Int32)) price money := by rw [eM2]; exact hL1.setRow (k := 0) (by decide) hi (R_X2_passHour_0 (T1 0 i) (clk (now + (1 : Int32))) p0 p1 p2)
        have hF2 : Fr t M M2 := by rw [eM2]; exact Fr.tr hF1 (Fr.up (hL1.row (k := 0) (i := i) (by decide) hi))
        have hr2_0 : M2 (Y.2.2.2.2.2 0 i) = some (t, eC 0 (R_X2_passHour_0 (T1 0 i) (clk (now + (1 : Int32))) p0 p1 p2)) := by rw [eM2]; exact hu_s
        refine lv_iinc (v := (nI (i + 1))) (lv' := [(4, .int (nI (i + 1))), (0, .ref h0), (1, .int p0), (2, .int p1), (3, .int p2)]) hx hb dX3_passHour_47 hl (k := 0) rfl (nI_1 i) (by decide) rfl (fun ls hl => ?_)
        refine lv_goto (tgt := 13) hx hb dX3_passHour_50 (by decide) ?_
        exact ih (i + 1) (by omega) (by omega) _ _ _ _ _ (by rw [eT]; rfl) hL2 hF2 hM (lv_sub hl [0, 1, 2, 3, 4] rfl)
  refine lv_iconst (v := (0 : Int32)) hx hb dX3_passHour_10 (by decide) ?_
  refine lv_istore (lv' := [(4, .int (0 : Int32)), (0, .ref h0), (1, .int p0), (2, .int p1), (3, .int p2)]) hx hb dX3_passHour_11 hl (by decide) rfl (fun ls hl => ?_)
  exact L13 (N 0 + 1) 0 (Nat.zero_le _) (by omega) _ _ _ _ T rfl hL1 hF1 hM (lv_sub hl [0, 1, 2, 3, 4] rfl)

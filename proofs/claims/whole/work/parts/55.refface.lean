/-! the reference's face: its object and its two rows lie in the region tx, its land in t, what is thrown away in t2 -/
def XdR (G : GG) (M : HM) (tx ma h0 fa lb : Nat) (th pr mo : Int32) (F Lx : Row) : Prop :=
  M ma = some (tx, .inr (9, [.int th, .ref h0, .ref fa, .ref lb, .int pr, .int mo])) ∧ M fa = some (tx, .inl (G.2.1 0, 4, .inl F)) ∧ M lb = some (tx, .inl (G.2.1 0, 4, .inl Lx)) ∧ fa ≠ lb
/-- what lies neither in tx nor in t nor in t2 stays -/
def F3 (tx t t2 : Nat) (M M' : HM) : Prop := ∀ q r e, r ≠ t → r ≠ tx → r ≠ t2 → M q = some (r, e) → M' q = some (r, e)
theorem F3.rf {tx t t2 : Nat} {M : HM} : F3 tx t t2 M M := fun _ _ _ _ _ _ h => h
theorem F3.tr {tx t t2 : Nat} {M M1 M2 : HM} (h1 : F3 tx t t2 M M1) (h2 : F3 tx t t2 M1 M2) : F3 tx t t2 M M2 := fun q r e a b c h => h2 q r e a b c (h1 q r e a b c h)
theorem F3.up {tx t t2 : Nat} {M : HM} {a r : Nat} {e0 e : va_E} (h : M a = some (r, e0)) (hr : r = t ∨ r = tx ∨ r = t2) : F3 tx t t2 M (hu M a r e) := fun q r9 e9 h1 h2 h3 hq => hu_n (fun z => by
  subst z
  rw [h] at hq
  cases hq
  rcases hr with z | z | z
  · exact h1 z
  · exact h2 z
  · exact h3 z) hq
theorem F3.new {tx t t2 : Nat} {M : HM} {a r : Nat} {e : va_E} (h : M a = none) : F3 tx t t2 M (hu M a r e) := fun q r9 e9 _ _ _ hq => hu_n (hu_ne hq h (by simp)) hq
theorem F3.fr {tx t t2 : Nat} {M M' : HM} (h : Fr t M M') : F3 tx t t2 M M' := fun q r e h1 _ _ hq => h q r e h1 hq
theorem F3.fr2 {tx t t2 : Nat} {M M' : HM} (h : Fr t2 M M') : F3 tx t t2 M M' := fun q r e _ _ h3 hq => h q r e h3 hq
theorem rg_ne {r r' : Nat} {e e' : va_E} (h : r ≠ r') : some (r, e) ≠ some (r', e') := fun z => by
  injection z with z
  injection z with z1 z2
  exact h z1
section XD
variable {G : GG} {M : HM} {tx ma h0 fa lb : Nat} {th pr mo : Int32} {F Lx : Row}
theorem XdR.same {M' : HM} (h : XdR G M tx ma h0 fa lb th pr mo F Lx) (hs : ∀ q e, M q = some (tx, e) → M' q = some (tx, e)) : XdR G M' tx ma h0 fa lb th pr mo F Lx := ⟨hs _ _ h.1, hs _ _ h.2.1, hs _ _ h.2.2.1, h.2.2.2⟩
theorem XdR.frame {M' : HM} {t : Nat} (h : XdR G M tx ma h0 fa lb th pr mo F Lx) (hne : tx ≠ t) (hf : Fr t M M') : XdR G M' tx ma h0 fa lb th pr mo F Lx := h.same (fun q e z => hf q tx e hne z)
theorem XdR.new {q r0 : Nat} {e : va_E} (h : XdR G M tx ma h0 fa lb th pr mo F Lx) (hq : M q = none) : XdR G (hu M q r0 e) tx ma h0 fa lb th pr mo F Lx := h.same (fun x e9 hx => hu_n (hu_ne hx hq (by simp)) hx)
theorem XdR.setO (h : XdR G M tx ma h0 fa lb th pr mo F Lx) (th' pr' mo' : Int32) : XdR G (hu M ma tx (.inr (9, [.int th', .ref h0, .ref fa, .ref lb, .int pr', .int mo']))) tx ma h0 fa lb th' pr' mo' F Lx :=
  ⟨hu_s, hu_n (hu_ne h.2.1 h.1 (fun z => by injection z with z; injection z with z1 z2; cases z2)) h.2.1, hu_n (hu_ne h.2.2.1 h.1 (fun z => by injection z with z; injection z with z1 z2; cases z2)) h.2.2.1, h.2.2.2⟩
theorem XdR.setF (h : XdR G M tx ma h0 fa lb th pr mo F Lx) (F' : Row) : XdR G (hu M fa tx (.inl (G.2.1 0, 4, .inl F'))) tx ma h0 fa lb th pr mo F' Lx :=
  ⟨hu_n (hu_ne h.1 h.2.1 (fun z => by injection z with z; injection z with z1 z2; cases z2)) h.1, hu_s, hu_n (Ne.symm h.2.2.2) h.2.2.1, h.2.2.2⟩
theorem XdR.setL (h : XdR G M tx ma h0 fa lb th pr mo F Lx) (F' : Row) : XdR G (hu M lb tx (.inl (G.2.1 0, 4, .inl F'))) tx ma h0 fa lb th pr mo F F' :=
  ⟨hu_n (hu_ne h.1 h.2.2.1 (fun z => by injection z with z; injection z with z1 z2; cases z2)) h.1, hu_n h.2.2.2 h.2.1, hu_s, h.2.2.2⟩
end XD
def XP (G : GG) (M M' : HM) (tx ma h0 fa lb t t2 : Nat) (N : Nat → Nat) (U : Tb) (now th pr mo : Int32) (F Lx : Row) : Prop := XdR G M' tx ma h0 fa lb th pr mo F Lx ∧ (∃ Z', MdR G M' t h0 Z' N U now) ∧ F3 tx t t2 M M'
theorem nI_m1 {n : Nat} (h : 0 < n) : nI n - 1 = nI (n - 1) := by
  obtain ⟨k, rfl⟩ := Nat.exists_eq_add_of_le h
  rw [Nat.add_comm 1 k, ← nI_1 k, Nat.add_sub_cancel]
  exact Int32.add_sub_cancel _ _
theorem inN {p : Int32} {n : Nat} (h : ¬ t_X8_in_0 p 0 (nI n - 1) = 0) (hn : n ≤ 600) : ¬ p < 0 ∧ ix p < n := by
  unfold t_X8_in_0 at h
  by_cases h1 : p < 0
  · rw [if_pos h1] at h
    exact absurd rfl h
  · rw [if_neg h1] at h
    by_cases h2 : nI n - 1 < p
    · rw [if_pos h2] at h
      exact absurd rfl h
    · refine ⟨h1, ?_⟩
      obtain ⟨e1, e2⟩ := ix_nI h1
      rcases Nat.lt_or_ge (ix p) n with z | z
      · exact z
      · refine absurd ?_ h2
        rcases Nat.eq_zero_or_pos n with z0 | z0
        · subst z0
          exact Int32.lt_of_lt_of_le (show nI 0 - 1 < 0 by decide) (Int32.not_lt.mp h1)
        · rw [nI_m1 z0, e1]
          exact (nI_ltI (by omega) (by omega)).mpr (by omega)
theorem inN9 {p : Int32} {n : Nat} (h : ¬ t_X8_in_0 p 0 (nI n - 1) = 0) (hn : n ≤ 8) : ¬ p < 0 ∧ ix p < n := inN h (by omega)
theorem nI_lt_of_ne {n c : Nat} (h : n ≤ c) (hc : c < 1000) (hne : ¬ nI n = nI c) : n < c := by
  rcases Nat.lt_or_ge n c with z | z
  · exact z
  · exact absurd (by rw [show n = c by omega]) hne
theorem cnt_up {N : Nat → Nat} {k : Nat} (h : ∀ j, j < 4 → N j ≤ lmR N j) (hlt : N k < lmR N k) : ∀ j, j < 4 → nu N k (N k + 1) j ≤ lmR N j := by
  intro j hj
  by_cases e : j = k
  · subst e
    rw [nu_s]
    exact hlt
  · rw [nu_n e]
    exact h j hj
def t_X8_no_0 : Int32 := (0 : Int32)
set_option maxHeartbeats 4000000 in
set_option maxRecDepth 100000 in
theorem c_X8_no (l : Launch) (G : GG) (M : HM) (h0 r0 : Nat) (a0 a4 a5 : Int32) (aq1 aq2 aq3 : Nat) (p0 : Int32) (ha_h0 : M h0 = some (r0, (.inr (9, [.int a0, .ref aq1, .ref aq2, .ref aq3, .int a4, .int a5])))) : Mi l yX8_no (.code yX8_no cX8_no 2 (some .int) :: AL) 0 0 0 0 [.ref h0, .int p0] G M (fun r M' => r = t_X8_no_0 ∧ M' = (hu M h0 r0 (.inr (9, [.int p0, .ref aq1, .ref aq2, .ref aq3, .int a4, .int a5])))) := by
  refine Mi.go (by decide) (Nat.le_of_ble_eq_true rfl) ?_
  intro p e s m below meth c ls hx hb hr hml hown hlocks hname hts hK hM hl
  have hown : s.vm.findClass RX8 = some m.cls := hown
  have hl : lv_has ls 2 [(0, .ref h0), (1, .int p0)] := hl
  refine lv_aload_n hx hb dX8_no_0 rfl (lv_at hl 0 rfl) ?_
  refine lv_iload_n hx hb dX8_no_1 rfl (lv_at hl 1 rfl) ?_
  refine fp_X8_30 hx hb hts hown hK hM ha_h0 dX8_no_2 (fun H locs hM => ?_)
  refine lv_iconst (v := (0 : Int32)) hx hb dX8_no_5 (by decide) ?_
  exact g_iret hx hb hr hlocks hM (Nat.zero_le _) (Nat.zero_le _) ⟨rfl, rfl⟩ dX8_no_6
set_option maxHeartbeats 4000000 in
set_option maxRecDepth 100000 in
theorem c_X8_isField (l : Launch) (G : GG) (M : HM) (tx ma h0 fa lb t t2 : Nat) (Z : LZ) (N : Nat → Nat) (U : Tb) (now th pr mo : Int32) (F Lx : Row) (p0 : Int32) (hO : XdR G M tx ma h0 fa lb th pr mo F Lx) (hL : MdR G M t h0 Z N U now)   : Mi l yX8_isField (.code yX8_isField cX8_isField 2 (some .boolean) :: AL) 1 22 0 0 [.ref ma, .int p0] G M (fun r M' => r = t_X8_in_0 p0 (0 : Int32) ((nI (N 0)) - (1 : Int32)) ∧ M' = M) := by
  refine Mi.go (by decide) (Nat.le_of_ble_eq_true rfl) ?_
  intro p e s m below meth c ls hx hb hr hml hown hlocks hname hts hK hM hl
  have hown : s.vm.findClass RX8 = some m.cls := hown
  have hl : lv_has ls 2 [(0, .ref ma), (1, .int p0)] := hl
  have hn0 := hL.cnt (k := 0) (by decide)
  have hn09 : N 0 ≤ 8 := by have : N 0 ≤ 8 := hn0; omega
  have hn1 := hL.cnt (k := 1) (by decide)
  have hn19 : N 1 ≤ 8 := by have : N 1 ≤ 4 := hn1; omega
  have hn2 := hL.cnt (k := 2) (by decide)
  have hn29 : N 2 ≤ 8 := by have : N 2 ≤ 4 := hn2; omega
  have hn3 := hL.cnt (k := 3) (by decide)
  have hn39 : N 3 ≤ 8 := by have : N 3 ≤ 3 := hn3; omega
  refine lv_iload_n hx hb dX8_isField_0 rfl (lv_at hl 1 rfl) ?_
  refine lv_iconst (v := (0 : Int32)) hx hb dX8_isField_1 (by decide) ?_
  refine lv_aload_n hx hb dX8_isField_2 rfl (lv_at hl 0 rfl) ?_
  refine fg_X8_10 hx hb hts hown hK hM hO.1 dX8_isField_3 ?_
  refine fg_X8_33 hx hb hts hown hK hM hL.1 dX8_isField_6 ?_
  refine lv_iconst (v := (1 : Int32)) hx hb dX8_isField_9 (by decide) ?_
  refine lv_isub hx hb dX8_isField_10 ?_
  refine g_callSi (n9 := 3) (As := [.int p0, .int (0 : Int32), .int ((nI (N 0)) - (1 : Int32))]) (rest := []) hx hb hml hl.1 hown hts hK hM (c_X8_in l G _ p0 (0 : Int32) ((nI (N 0)) - (1 : Int32)) ) wm_X8_36 wt_X8_in wn_X8 wc_X8_in (by decide +kernel) ⟨Nat.le_of_ble_eq_true rfl, Nat.le_of_ble_eq_true rfl⟩ ⟨Nat.le_of_ble_eq_true rfl, Nat.le_of_ble_eq_true rfl⟩ rfl (Nat.le_of_ble_eq_true rfl) rfl dX8_isField_11 (fun r_11 M1 H locs hq hM => ?_)
  have hq1 := hq.1.symm
  have hq2 := hq.2.symm
  subst hq1 hq2
  exact g_zret hx hb hr hlocks hM (Nat.zero_le _) (Nat.zero_le _) (nz01 t_X8_in_0_01) ⟨rfl, rfl⟩ dX8_isField_14
set_option maxHeartbeats 4000000 in
set_option maxRecDepth 100000 in
theorem c_X8_isCombine (l : Launch) (G : GG) (M : HM) (tx ma h0 fa lb t t2 : Nat) (Z : LZ) (N : Nat → Nat) (U : Tb) (now th pr mo : Int32) (F Lx : Row) (p0 : Int32) (hO : XdR G M tx ma h0 fa lb th pr mo F Lx) (hL : MdR G M t h0 Z N U now)   : Mi l yX8_isCombine (.code yX8_isCombine cX8_isCombine 2 (some .boolean) :: AL) 1 22 0 0 [.ref ma, .int p0] G M (fun r M' => r = t_X8_in_0 p0 (0 : Int32) ((nI (N 1)) - (1 : Int32)) ∧ M' = M) := by
  refine Mi.go (by decide) (Nat.le_of_ble_eq_true rfl) ?_
  intro p e s m below meth c ls hx hb hr hml hown hlocks hname hts hK hM hl
  have hown : s.vm.findClass RX8 = some m.cls := hown
  have hl : lv_has ls 2 [(0, .ref ma), (1, .int p0)] := hl
  have hn0 := hL.cnt (k := 0) (by decide)
  have hn09 : N 0 ≤ 8 := by have : N 0 ≤ 8 := hn0; omega
  have hn1 := hL.cnt (k := 1) (by decide)
  have hn19 : N 1 ≤ 8 := by have : N 1 ≤ 4 := hn1; omega
  have hn2 := hL.cnt (k := 2) (by decide)
  have hn29 : N 2 ≤ 8 := by have : N 2 ≤ 4 := hn2; omega
  have hn3 := hL.cnt (k := 3) (by decide)
  have hn39 : N 3 ≤ 8 := by have : N 3 ≤ 3 := hn3; omega
  refine lv_iload_n hx hb dX8_isCombine_0 rfl (lv_at hl 1 rfl) ?_
  refine lv_iconst (v := (0 : Int32)) hx hb dX8_isCombine_1 (by decide) ?_
  refine lv_aload_n hx hb dX8_isCombine_2 rfl (lv_at hl 0 rfl) ?_
  refine fg_X8_10 hx hb hts hown hK hM hO.1 dX8_isCombine_3 ?_
  refine fg_X8_40 hx hb hts hown hK hM hL.1 dX8_isCombine_6 ?_
  refine lv_iconst (v := (1 : Int32)) hx hb dX8_isCombine_9 (by decide) ?_
  refine lv_isub hx hb dX8_isCombine_10 ?_
  refine g_callSi (n9 := 3) (As := [.int p0, .int (0 : Int32), .int ((nI (N 1)) - (1 : Int32))]) (rest := []) hx hb hml hl.1 hown hts hK hM (c_X8_in l G _ p0 (0 : Int32) ((nI (N 1)) - (1 : Int32)) ) wm_X8_36 wt_X8_in wn_X8 wc_X8_in (by decide +kernel) ⟨Nat.le_of_ble_eq_true rfl, Nat.le_of_ble_eq_true rfl⟩ ⟨Nat.le_of_ble_eq_true rfl, Nat.le_of_ble_eq_true rfl⟩ rfl (Nat.le_of_ble_eq_true rfl) rfl dX8_isCombine_11 (fun r_11 M1 H locs hq hM => ?_)
  have hq1 := hq.1.symm
  have hq2 := hq.2.symm
  subst hq1 hq2
  exact g_zret hx hb hr hlocks hM (Nat.zero_le _) (Nat.zero_le _) (nz01 t_X8_in_0_01) ⟨rfl, rfl⟩ dX8_isCombine_14
set_option maxHeartbeats 4000000 in
set_option maxRecDepth 100000 in
theorem c_X8_isTruck (l : Launch) (G : GG) (M : HM) (tx ma h0 fa lb t t2 : Nat) (Z : LZ) (N : Nat → Nat) (U : Tb) (now th pr mo : Int32) (F Lx : Row) (p0 : Int32) (hO : XdR G M tx ma h0 fa lb th pr mo F Lx) (hL : MdR G M t h0 Z N U now)   : Mi l yX8_isTruck (.code yX8_isTruck cX8_isTruck 2 (some .boolean) :: AL) 1 22 0 0 [.ref ma, .int p0] G M (fun r M' => r = t_X8_in_0 p0 (0 : Int32) ((nI (N 2)) - (1 : Int32)) ∧ M' = M) := by
  refine Mi.go (by decide) (Nat.le_of_ble_eq_true rfl) ?_
  intro p e s m below meth c ls hx hb hr hml hown hlocks hname hts hK hM hl
  have hown : s.vm.findClass RX8 = some m.cls := hown
  have hl : lv_has ls 2 [(0, .ref ma), (1, .int p0)] := hl
  have hn0 := hL.cnt (k := 0) (by decide)
  have hn09 : N 0 ≤ 8 := by have : N 0 ≤ 8 := hn0; omega
  have hn1 := hL.cnt (k := 1) (by decide)
  have hn19 : N 1 ≤ 8 := by have : N 1 ≤ 4 := hn1; omega
  have hn2 := hL.cnt (k := 2) (by decide)
  have hn29 : N 2 ≤ 8 := by have : N 2 ≤ 4 := hn2; omega
  have hn3 := hL.cnt (k := 3) (by decide)
  have hn39 : N 3 ≤ 8 := by have : N 3 ≤ 3 := hn3; omega
  refine lv_iload_n hx hb dX8_isTruck_0 rfl (lv_at hl 1 rfl) ?_
  refine lv_iconst (v := (0 : Int32)) hx hb dX8_isTruck_1 (by decide) ?_
  refine lv_aload_n hx hb dX8_isTruck_2 rfl (lv_at hl 0 rfl) ?_
  refine fg_X8_10 hx hb hts hown hK hM hO.1 dX8_isTruck_3 ?_
  refine fg_X8_43 hx hb hts hown hK hM hL.1 dX8_isTruck_6 ?_
  refine lv_iconst (v := (1 : Int32)) hx hb dX8_isTruck_9 (by decide) ?_
  refine lv_isub hx hb dX8_isTruck_10 ?_
  refine g_callSi (n9 := 3) (As := [.int p0, .int (0 : Int32), .int ((nI (N 2)) - (1 : Int32))]) (rest := []) hx hb hml hl.1 hown hts hK hM (c_X8_in l G _ p0 (0 : Int32) ((nI (N 2)) - (1 : Int32)) ) wm_X8_36 wt_X8_in wn_X8 wc_X8_in (by decide +kernel) ⟨Nat.le_of_ble_eq_true rfl, Nat.le_of_ble_eq_true rfl⟩ ⟨Nat.le_of_ble_eq_true rfl, Nat.le_of_ble_eq_true rfl⟩ rfl (Nat.le_of_ble_eq_true rfl) rfl dX8_isTruck_11 (fun r_11 M1 H locs hq hM => ?_)
  have hq1 := hq.1.symm
  have hq2 := hq.2.symm
  subst hq1 hq2
  exact g_zret hx hb hr hlocks hM (Nat.zero_le _) (Nat.zero_le _) (nz01 t_X8_in_0_01) ⟨rfl, rfl⟩ dX8_isTruck_14
set_option maxHeartbeats 4000000 in
set_option maxRecDepth 100000 in
theorem c_X8_isElevator (l : Launch) (G : GG) (M : HM) (tx ma h0 fa lb t t2 : Nat) (Z : LZ) (N : Nat → Nat) (U : Tb) (now th pr mo : Int32) (F Lx : Row) (p0 : Int32) (hO : XdR G M tx ma h0 fa lb th pr mo F Lx) (hL : MdR G M t h0 Z N U now)   : Mi l yX8_isElevator (.code yX8_isElevator cX8_isElevator 2 (some .boolean) :: AL) 1 22 0 0 [.ref ma, .int p0] G M (fun r M' => r = t_X8_in_0 p0 (0 : Int32) ((nI (N 3)) - (1 : Int32)) ∧ M' = M) := by
  refine Mi.go (by decide) (Nat.le_of_ble_eq_true rfl) ?_
  intro p e s m below meth c ls hx hb hr hml hown hlocks hname hts hK hM hl
  have hown : s.vm.findClass RX8 = some m.cls := hown
  have hl : lv_has ls 2 [(0, .ref ma), (1, .int p0)] := hl
  have hn0 := hL.cnt (k := 0) (by decide)
  have hn09 : N 0 ≤ 8 := by have : N 0 ≤ 8 := hn0; omega
  have hn1 := hL.cnt (k := 1) (by decide)
  have hn19 : N 1 ≤ 8 := by have : N 1 ≤ 4 := hn1; omega
  have hn2 := hL.cnt (k := 2) (by decide)
  have hn29 : N 2 ≤ 8 := by have : N 2 ≤ 4 := hn2; omega
  have hn3 := hL.cnt (k := 3) (by decide)
  have hn39 : N 3 ≤ 8 := by have : N 3 ≤ 3 := hn3; omega
  refine lv_iload_n hx hb dX8_isElevator_0 rfl (lv_at hl 1 rfl) ?_
  refine lv_iconst (v := (0 : Int32)) hx hb dX8_isElevator_1 (by decide) ?_
  refine lv_aload_n hx hb dX8_isElevator_2 rfl (lv_at hl 0 rfl) ?_
  refine fg_X8_10 hx hb hts hown hK hM hO.1 dX8_isElevator_3 ?_
  refine fg_X8_46 hx hb hts hown hK hM hL.1 dX8_isElevator_6 ?_
  refine lv_iconst (v := (1 : Int32)) hx hb dX8_isElevator_9 (by decide) ?_
  refine lv_isub hx hb dX8_isElevator_10 ?_
  refine g_callSi (n9 := 3) (As := [.int p0, .int (0 : Int32), .int ((nI (N 3)) - (1 : Int32))]) (rest := []) hx hb hml hl.1 hown hts hK hM (c_X8_in l G _ p0 (0 : Int32) ((nI (N 3)) - (1 : Int32)) ) wm_X8_36 wt_X8_in wn_X8 wc_X8_in (by decide +kernel) ⟨Nat.le_of_ble_eq_true rfl, Nat.le_of_ble_eq_true rfl⟩ ⟨Nat.le_of_ble_eq_true rfl, Nat.le_of_ble_eq_true rfl⟩ rfl (Nat.le_of_ble_eq_true rfl) rfl dX8_isElevator_11 (fun r_11 M1 H locs hq hM => ?_)
  have hq1 := hq.1.symm
  have hq2 := hq.2.symm
  subst hq1 hq2
  exact g_zret hx hb hr hlocks hM (Nat.zero_le _) (Nat.zero_le _) (nz01 t_X8_in_0_01) ⟨rfl, rfl⟩ dX8_isElevator_14
def q_X8_send (N : Nat → Nat) (U : Tb) (now th pr mo : Int32) (F Lx : Row) (p0 p1 p2 p3 : Int32) : Int32 := (ab ((U 2 (ix p0) 1) - p3))
set_option maxHeartbeats 4000000 in
set_option maxRecDepth 100000 in
theorem c_X8_send (l : Launch) (G : GG) (M : HM) (tx ma h0 fa lb t t2 : Nat) (Z : LZ) (N : Nat → Nat) (U : Tb) (now th pr mo : Int32) (F Lx : Row) (p0 p1 p2 p3 : Int32) (hO : XdR G M tx ma h0 fa lb th pr mo F Lx) (hL : MdR G M t h0 Z N U now) (d1 : tx ≠ t) (d2 : tx ≠ t2) (d3 : t ≠ t2)  (hs : ¬ p0 < 0 ∧ ix p0 < N 2) : Mi l yX8_send (.code yX8_send cX8_send 6 (some .int) :: AL) 1 21 0 0 [.ref ma, .int p0, .int p1, .int p2, .int p3] G M (fun r M' => r = (q_X8_send N U now th pr mo F Lx p0 p1 p2 p3) ∧ XP G M M' tx ma h0 fa lb t t2 N (tu U 2 (ix p0) (rw10 p1 (U 2 (ix p0) 1) (U 2 (ix p0) 2) (U 2 (ix p0) 3) (U 2 (ix p0) 4) (U 2 (ix p0) 5) (U 2 (ix p0) 6) p2 (U 2 (ix p0) 8) (U 2 (ix p0) 9))) now th pr mo F Lx) := by
  refine Mi.go (by decide) (Nat.le_of_ble_eq_true rfl) ?_
  intro p e s m below meth c ls hx hb hr hml hown hlocks hname hts hK hM hl
  have hown : s.vm.findClass RX8 = some m.cls := hown
  have hl : lv_has ls 6 [(0, .ref ma), (1, .int p0), (2, .int p1), (3, .int p2), (4, .int p3)] := hl
  have hn0 := hL.cnt (k := 0) (by decide)
  have hn09 : N 0 ≤ 8 := by have : N 0 ≤ 8 := hn0; omega
  have hn1 := hL.cnt (k := 1) (by decide)
  have hn19 : N 1 ≤ 8 := by have : N 1 ≤ 4 := hn1; omega
  have hn2 := hL.cnt (k := 2) (by decide)
  have hn29 : N 2 ≤ 8 := by have : N 2 ≤ 4 := hn2; omega
  have hn3 := hL.cnt (k := 3) (by decide)
  have hn39 : N 3 ≤ 8 := by have : N 3 ≤ 3 := hn3; omega
  refine lv_aload_n hx hb dX8_send_0 rfl (lv_at hl 0 rfl) ?_
  refine fg_X8_10 hx hb hts hown hK hM hO.1 dX8_send_1 ?_
  refine fg_X8_73 hx hb hts hown hK hM hL.1 dX8_send_4 ?_
  refine lv_iload_n hx hb dX8_send_7 rfl (lv_at hl 1 rfl) ?_
  refine g_aaldR hx hb hK hM (hL.outer (k := 2) (by decide)) hs.1 (Nat.lt_of_lt_of_le hs.2 hn2) dX8_send_8 ?_
  refine lv_astore (lv' := [(5, .ref (Z.2.1 2 (ix p0))), (0, .ref ma), (1, .int p0), (2, .int p1), (3, .int p2), (4, .int p3)]) hx hb dX8_send_9 hl (by decide) rfl (fun ls hl => ?_)
  refine lv_aload hx hb dX8_send_11 (lv_at hl 0 rfl) ?_
  refine lv_iconst (v := (0 : Int32)) hx hb dX8_send_13 (by decide) ?_
  refine lv_iload_n hx hb dX8_send_14 rfl (lv_at hl 3 rfl) ?_
  refine is10_0 hx hb hK hM (hL.row (k := 2) (by decide) (Nat.lt_of_lt_of_le hs.2 hn2)) dX8_send_15 (fun H locs hM => ?_)
  refine lv_aload hx hb dX8_send_16 (lv_at hl 0 rfl) ?_
  refine lv_bipush (v := (7 : Int32)) hx hb dX8_send_18 (by decide) ?_
  refine lv_iload_n hx hb dX8_send_20 rfl (lv_at hl 4 rfl) ?_
  refine is10_7 hx hb hK hM hu_s dX8_send_21 (fun H locs hM => ?_)
  replace hM := hM.eq (hu_u _ _ _ _ _ _)
  refine lv_aload hx hb dX8_send_22 (lv_at hl 0 rfl) ?_
  refine lv_iconst (v := (1 : Int32)) hx hb dX8_send_24 (by decide) ?_
  refine ia10_1 hx hb hK hM hu_s dX8_send_25 ?_
  refine lv_iload hx hb dX8_send_26 (lv_at hl 5 rfl) ?_
  refine lv_isub hx hb dX8_send_28 ?_
  refine va_mabs hx hb (hml.trans hl.1.symm) hown (hts _ wm_X8_85) (hts _ wt_mabs) (hts _ wn_java_lang_Math) (hts _ wc_mabs) (Nat.le_of_ble_eq_true rfl) (Nat.le_of_ble_eq_true rfl) (Nat.zero_le _) (Nat.zero_le _) dX8_send_29 ?_
  obtain ⟨M1, eM1⟩ : ∃ z, z = hu M (Z.2.1 2 (ix p0)) t (.inl (G.2.1 0, 10, .inl (rw10 p1 (U 2 (ix p0) 1) (U 2 (ix p0) 2) (U 2 (ix p0) 3) (U 2 (ix p0) 4) (U 2 (ix p0) 5) (U 2 (ix p0) 6) p2 (U 2 (ix p0) 8) (U 2 (ix p0) 9)))) := ⟨_, rfl⟩
  rw [← eM1] at hM
  have hO1 : XdR G M1 tx ma h0 fa lb th pr mo F Lx := by rw [eM1]; exact hO.frame d1 (Fr.up (hL.row (k := 2) (by decide) (Nat.lt_of_lt_of_le hs.2 hn2)))
  have hL1 : MdR G M1 t h0 Z N (tu U 2 (ix p0) (rw10 p1 (U 2 (ix p0) 1) (U 2 (ix p0) 2) (U 2 (ix p0) 3) (U 2 (ix p0) 4) (U 2 (ix p0) 5) (U 2 (ix p0) 6) p2 (U 2 (ix p0) 8) (U 2 (ix p0) 9))) now := by rw [eM1]; exact hL.setRow (k := 2) (by decide) (Nat.lt_of_lt_of_le hs.2 hn2) (rw10 p1 (U 2 (ix p0) 1) (U 2 (ix p0) 2) (U 2 (ix p0) 3) (U 2 (ix p0) 4) (U 2 (ix p0) 5) (U 2 (ix p0) 6) p2 (U 2 (ix p0) 8) (U 2 (ix p0) 9))
  have hF1 : F3 tx t t2 M M1 := by rw [eM1]; exact F3.tr (F3.rf) (F3.up (hL.row (k := 2) (by decide) (Nat.lt_of_lt_of_le hs.2 hn2)) (Or.inl rfl))
  have hr1_0 : M1 (Z.2.1 2 (ix p0)) = some (t, (.inl (G.2.1 0, 10, .inl (rw10 p1 (U 2 (ix p0) 1) (U 2 (ix p0) 2) (U 2 (ix p0) 3) (U 2 (ix p0) 4) (U 2 (ix p0) 5) (U 2 (ix p0) 6) p2 (U 2 (ix p0) 8) (U 2 (ix p0) 9))))) := by rw [eM1]; exact hu_s
  exact g_iret hx hb hr hlocks hM (Nat.zero_le _) (Nat.zero_le _) ⟨(by unfold q_X8_send; rfl), (by skip; exact ⟨hO1, ⟨Z, hL1⟩, hF1⟩)⟩ dX8_send_32
def q_X8_field (N : Nat → Nat) (U : Tb) (now th pr mo : Int32) (F Lx : Row) (p0 p1 p2 p3 p4 : Int32) : Int32 := if (t_X8_in_0 p0 (0 : Int32) (3 : Int32)) = 0 then t_X8_no_0 else (if (t_X8_isMile_0 p1) = 0 then t_X8_no_0 else (if (t_X8_in_0 p2 (1 : Int32) (200 : Int32)) = 0 then t_X8_no_0 else (if (t_X8_in_0 p3 (10 : Int32) (90 : Int32)) = 0 then t_X8_no_0 else (if (t_X8_in_0 p4 (0 : Int32) (50 : Int32)) = 0 then t_X8_no_0 else (if (nI (N 0)) = (8 : Int32) then t_X8_no_0 else (nI (N 0)))))))
def th_X8_field (N : Nat → Nat) (U : Tb) (now th pr mo : Int32) (F Lx : Row) (p0 p1 p2 p3 p4 : Int32) : Int32 := if (t_X8_in_0 p0 (0 : Int32) (3 : Int32)) = 0 then (1 : Int32) else (if (t_X8_isMile_0 p1) = 0 then (2 : Int32) else (if (t_X8_in_0 p2 (1 : Int32) (200 : Int32)) = 0 then (2 : Int32) else (if (t_X8_in_0 p3 (10 : Int32) (90 : Int32)) = 0 then (2 : Int32) else (if (t_X8_in_0 p4 (0 : Int32) (50 : Int32)) = 0 then (2 : Int32) else (if (nI (N 0)) = (8 : Int32) then (3 : Int32) else (0 : Int32))))))
def u_X8_field (N : Nat → Nat) (U : Tb) (now th pr mo : Int32) (F Lx : Row) (p0 p1 p2 p3 p4 : Int32) : Tb := if (t_X8_in_0 p0 (0 : Int32) (3 : Int32)) = 0 then U else (if (t_X8_isMile_0 p1) = 0 then U else (if (t_X8_in_0 p2 (1 : Int32) (200 : Int32)) = 0 then U else (if (t_X8_in_0 p3 (10 : Int32) (90 : Int32)) = 0 then U else (if (t_X8_in_0 p4 (0 : Int32) (50 : Int32)) = 0 then U else (if (nI (N 0)) = (8 : Int32) then U else (tu U 0 (N 0) (rw11 p0 p1 p2 (0 : Int32) (0 : Int32) (30 : Int32) (0 : Int32) (0 : Int32) (0 : Int32) p3 p4)))))))
def n_X8_field (N : Nat → Nat) (U : Tb) (now th pr mo : Int32) (F Lx : Row) (p0 p1 p2 p3 p4 : Int32) : Nat → Nat := if (t_X8_in_0 p0 (0 : Int32) (3 : Int32)) = 0 then N else (if (t_X8_isMile_0 p1) = 0 then N else (if (t_X8_in_0 p2 (1 : Int32) (200 : Int32)) = 0 then N else (if (t_X8_in_0 p3 (10 : Int32) (90 : Int32)) = 0 then N else (if (t_X8_in_0 p4 (0 : Int32) (50 : Int32)) = 0 then N else (if (nI (N 0)) = (8 : Int32) then N else (nu N 0 (N 0 + 1)))))))
set_option maxHeartbeats 4000000 in
set_option maxRecDepth 100000 in
theorem c_X8_field (l : Launch) (G : GG) (M : HM) (tx ma h0 fa lb t t2 : Nat) (Z : LZ) (N : Nat → Nat) (U : Tb) (now th pr mo : Int32) (F Lx : Row) (p0 p1 p2 p3 p4 : Int32) (hO : XdR G M tx ma h0 fa lb th pr mo F Lx) (hL : MdR G M t h0 Z N U now) (d1 : tx ≠ t) (d2 : tx ≠ t2) (d3 : t ≠ t2)   : Mi l yX8_field (.code yX8_field cX8_field 7 (some .int) :: AL) 2 68 1 11 [.ref ma, .int p0, .int p1, .int p2, .int p3, .int p4] G M (fun r M' => r = (q_X8_field N U now th pr mo F Lx p0 p1 p2 p3 p4) ∧ XP G M M' tx ma h0 fa lb t t2 (n_X8_field N U now th pr mo F Lx p0 p1 p2 p3 p4) (u_X8_field N U now th pr mo F Lx p0 p1 p2 p3 p4) now (th_X8_field N U now th pr mo F Lx p0 p1 p2 p3 p4) pr mo F Lx) := by
  refine Mi.go (by decide) (Nat.le_of_ble_eq_true rfl) ?_
  intro p e s m below meth c ls hx hb hr hml hown hlocks hname hts hK hM hl
  have hown : s.vm.findClass RX8 = some m.cls := hown
  have hl : lv_has ls 7 [(0, .ref ma), (1, .int p0), (2, .int p1), (3, .int p2), (4, .int p3), (5, .int p4)] := hl
  have hn0 := hL.cnt (k := 0) (by decide)
  have hn09 : N 0 ≤ 8 := by have : N 0 ≤ 8 := hn0; omega
  have hn1 := hL.cnt (k := 1) (by decide)
  have hn19 : N 1 ≤ 8 := by have : N 1 ≤ 4 := hn1; omega
  have hn2 := hL.cnt (k := 2) (by decide)
  have hn29 : N 2 ≤ 8 := by have : N 2 ≤ 4 := hn2; omega
  have hn3 := hL.cnt (k := 3) (by decide)
  have hn39 : N 3 ≤ 8 := by have : N 3 ≤ 3 := hn3; omega
  refine lv_aload_n hx hb dX8_field_0 rfl (lv_at hl 0 rfl) ?_
  refine lv_iconst (v := (0 : Int32)) hx hb dX8_field_1 (by decide) ?_
  refine fp_X8_30 hx hb hts hown hK hM hO.1 dX8_field_2 (fun H locs hM => ?_)
  obtain ⟨M1, eM1⟩ : ∃ z, z = hu M ma tx (.inr (9, [.int (0 : Int32), .ref h0, .ref fa, .ref lb, .int pr, .int mo])) := ⟨_, rfl⟩
  replace hM : Wd G M1 s H locs := hM.eq eM1.symm
  have hO1 : XdR G M1 tx ma h0 fa lb (0 : Int32) pr mo F Lx := by rw [eM1]; exact hO.setO (0 : Int32) pr mo
  have hL1 : MdR G M1 t h0 Z N U now := by rw [eM1]; exact hL.frame (Ne.symm d1) (Fr.up hO.1)
  have hF1 : F3 tx t t2 M M1 := by rw [eM1]; exact F3.tr (F3.rf) (F3.up hO.1 (Or.inr (Or.inl rfl)))
  refine lv_iload_n hx hb dX8_field_5 rfl (lv_at hl 1 rfl) ?_
  refine lv_iconst (v := (0 : Int32)) hx hb dX8_field_6 (by decide) ?_
  refine lv_iconst (v := (3 : Int32)) hx hb dX8_field_7 (by decide) ?_
  refine g_callSi (n9 := 3) (As := [.int p0, .int (0 : Int32), .int (3 : Int32)]) (rest := []) hx hb hml hl.1 hown hts hK hM (c_X8_in l G _ p0 (0 : Int32) (3 : Int32) ) wm_X8_36 wt_X8_in wn_X8 wc_X8_in (by decide +kernel) ⟨Nat.le_of_ble_eq_true rfl, Nat.le_of_ble_eq_true rfl⟩ ⟨Nat.le_of_ble_eq_true rfl, Nat.le_of_ble_eq_true rfl⟩ rfl (Nat.le_of_ble_eq_true rfl) rfl dX8_field_8 (fun r_8 M1 H locs hq hM => ?_)
  have hq1 := hq.1.symm
  have hq2 := hq.2.symm
  subst hq1 hq2
  refine lv_if_ne (tgt := 20) hx hb dX8_field_11 (by decide) (fun c1 => ?_) (fun c1 => ?_)
  · refine lv_iload_n hx hb dX8_field_20 rfl (lv_at hl 2 rfl) ?_
    refine g_callSi (n9 := 1) (As := [.int p1]) (rest := []) hx hb hml hl.1 hown hts hK hM (c_X8_isMile l G _ p1 ) wm_X8_53 wt_X8_isMile wn_X8 wc_X8_isMile (by decide +kernel) ⟨Nat.le_of_ble_eq_true rfl, Nat.le_of_ble_eq_true rfl⟩ ⟨Nat.le_of_ble_eq_true rfl, Nat.le_of_ble_eq_true rfl⟩ rfl (Nat.le_of_ble_eq_true rfl) rfl dX8_field_21 (fun r_21 M1 H locs hq hM => ?_)
    have hq1 := hq.1.symm
    have hq2 := hq.2.symm
    subst hq1 hq2
    refine lv_if_eq (tgt := 61) hx hb dX8_field_24 (by decide) (fun c2 => ?_) (fun c2 => ?_)
    · refine lv_aload_n hx hb dX8_field_61 rfl (lv_at hl 0 rfl) ?_
      refine lv_iconst (v := (2 : Int32)) hx hb dX8_field_62 (by decide) ?_
      refine g_callVi (n9 := 1) (As := [.int (2 : Int32)]) (rest := []) hx hb hml hl.1 hown hts hK hM (c_X8_no l G _ ma tx (0 : Int32) pr mo h0 fa lb (2 : Int32) hO1.1) wm_X8_49 wi_X8_no wl_X8_no wn_X8 wc_X8_no (by decide +kernel) (hM.recv hK (ci := 9) rfl hO1.1) ⟨Nat.le_of_ble_eq_true rfl, Nat.le_of_ble_eq_true rfl⟩ ⟨Nat.le_of_ble_eq_true rfl, Nat.le_of_ble_eq_true rfl⟩ rfl (Nat.le_of_ble_eq_true rfl) rfl dX8_field_63 (fun r_63 M9 H locs hq hM => ?_)
      obtain ⟨er, eM9⟩ := hq
      subst er
      replace hM := hM.eq eM9
      obtain ⟨M2, eM2⟩ : ∃ z, z = hu M1 ma tx (.inr (9, [.int (2 : Int32), .ref h0, .ref fa, .ref lb, .int pr, .int mo])) := ⟨_, rfl⟩
      replace hM : Wd G M2 s H locs := hM.eq eM2.symm
      have hO2 : XdR G M2 tx ma h0 fa lb (2 : Int32) pr mo F Lx := by rw [eM2]; exact hO1.setO (2 : Int32) pr mo
      have hL2 : MdR G M2 t h0 Z N U now := by rw [eM2]; exact hL1.frame (Ne.symm d1) (Fr.up hO1.1)
      have hF2 : F3 tx t t2 M M2 := by rw [eM2]; exact F3.tr hF1 (F3.up hO1.1 (Or.inr (Or.inl rfl)))
      exact g_iret hx hb hr hlocks hM (Nat.le_of_ble_eq_true rfl) (Nat.le_of_ble_eq_true rfl) ⟨(by unfold q_X8_field; rw [if_neg c1, if_pos c2]), (by rw [show th_X8_field N U now th pr mo F Lx p0 p1 p2 p3 p4 = (2 : Int32) from by unfold th_X8_field; rw [if_neg c1, if_pos c2]]; rw [show u_X8_field N U now th pr mo F Lx p0 p1 p2 p3 p4 = U from by unfold u_X8_field; rw [if_neg c1, if_pos c2]]; rw [show n_X8_field N U now th pr mo F Lx p0 p1 p2 p3 p4 = N from by unfold n_X8_field; rw [if_neg c1, if_pos c2]]; exact ⟨hO2, ⟨Z, hL2⟩, hF2⟩)⟩ dX8_field_66
    · refine lv_iload_n hx hb dX8_field_27 rfl (lv_at hl 3 rfl) ?_
      refine lv_iconst (v := (1 : Int32)) hx hb dX8_field_28 (by decide) ?_
      refine lv_sipush (v := (200 : Int32)) hx hb dX8_field_29 (by decide) ?_
      refine g_callSi (n9 := 3) (As := [.int p2, .int (1 : Int32), .int (200 : Int32)]) (rest := []) hx hb hml hl.1 hown hts hK hM (c_X8_in l G _ p2 (1 : Int32) (200 : Int32) ) wm_X8_36 wt_X8_in wn_X8 wc_X8_in (by decide +kernel) ⟨Nat.le_of_ble_eq_true rfl, Nat.le_of_ble_eq_true rfl⟩ ⟨Nat.le_of_ble_eq_true rfl, Nat.le_of_ble_eq_true rfl⟩ rfl (Nat.le_of_ble_eq_true rfl) rfl dX8_field_32 (fun r_32 M1 H locs hq hM => ?_)
      have hq1 := hq.1.symm
      have hq2 := hq.2.symm
      subst hq1 hq2
      refine lv_if_eq (tgt := 61) hx hb dX8_field_35 (by decide) (fun c3 => ?_) (fun c3 => ?_)
      · refine lv_aload_n hx hb dX8_field_61 rfl (lv_at hl 0 rfl) ?_
        refine lv_iconst (v := (2 : Int32)) hx hb dX8_field_62 (by decide) ?_
        refine g_callVi (n9 := 1) (As := [.int (2 : Int32)]) (rest := []) hx hb hml hl.1 hown hts hK hM (c_X8_no l G _ ma tx (0 : Int32) pr mo h0 fa lb (2 : Int32) hO1.1) wm_X8_49 wi_X8_no wl_X8_no wn_X8 wc_X8_no (by decide +kernel) (hM.recv hK (ci := 9) rfl hO1.1) ⟨Nat.le_of_ble_eq_true rfl, Nat.le_of_ble_eq_true rfl⟩ ⟨Nat.le_of_ble_eq_true rfl, Nat.le_of_ble_eq_true rfl⟩ rfl (Nat.le_of_ble_eq_true rfl) rfl dX8_field_63 (fun r_63 M9 H locs hq hM => ?_)
        obtain ⟨er, eM9⟩ := hq
        subst er
        replace hM := hM.eq eM9
        obtain ⟨M2, eM2⟩ : ∃ z, z = hu M1 ma tx (.inr (9, [.int (2 : Int32), .ref h0, .ref fa, .ref lb, .int pr, .int mo])) := ⟨_, rfl⟩
        replace hM : Wd G M2 s H locs := hM.eq eM2.symm
        have hO2 : XdR G M2 tx ma h0 fa lb (2 : Int32) pr mo F Lx := by rw [eM2]; exact hO1.setO (2 : Int32) pr mo
        have hL2 : MdR G M2 t h0 Z N U now := by rw [eM2]; exact hL1.frame (Ne.symm d1) (Fr.up hO1.1)
        have hF2 : F3 tx t t2 M M2 := by rw [eM2]; exact F3.tr hF1 (F3.up hO1.1 (Or.inr (Or.inl rfl)))
        exact g_iret hx hb hr hlocks hM (Nat.le_of_ble_eq_true rfl) (Nat.le_of_ble_eq_true rfl) ⟨(by unfold q_X8_field; rw [if_neg c1, if_neg c2, if_pos c3]), (by rw [show th_X8_field N U now th pr mo F Lx p0 p1 p2 p3 p4 = (2 : Int32) from by unfold th_X8_field; rw [if_neg c1, if_neg c2, if_pos c3]]; rw [show u_X8_field N U now th pr mo F Lx p0 p1 p2 p3 p4 = U from by unfold u_X8_field; rw [if_neg c1, if_neg c2, if_pos c3]]; rw [show n_X8_field N U now th pr mo F Lx p0 p1 p2 p3 p4 = N from by unfold n_X8_field; rw [if_neg c1, if_neg c2, if_pos c3]]; exact ⟨hO2, ⟨Z, hL2⟩, hF2⟩)⟩ dX8_field_66
      · refine lv_iload hx hb dX8_field_38 (lv_at hl 4 rfl) ?_
        refine lv_bipush (v := (10 : Int32)) hx hb dX8_field_40 (by decide) ?_
        refine lv_bipush (v := (90 : Int32)) hx hb dX8_field_42 (by decide) ?_
        refine g_callSi (n9 := 3) (As := [.int p3, .int (10 : Int32), .int (90 : Int32)]) (rest := []) hx hb hml hl.1 hown hts hK hM (c_X8_in l G _ p3 (10 : Int32) (90 : Int32) ) wm_X8_36 wt_X8_in wn_X8 wc_X8_in (by decide +kernel) ⟨Nat.le_of_ble_eq_true rfl, Nat.le_of_ble_eq_true rfl⟩ ⟨Nat.le_of_ble_eq_true rfl, Nat.le_of_ble_eq_true rfl⟩ rfl (Nat.le_of_ble_eq_true rfl) rfl dX8_field_44 (fun r_44 M1 H locs hq hM => ?_)
        have hq1 := hq.1.symm
        have hq2 := hq.2.symm
        subst hq1 hq2
        refine lv_if_eq (tgt := 61) hx hb dX8_field_47 (by decide) (fun c4 => ?_) (fun c4 => ?_)
        · refine lv_aload_n hx hb dX8_field_61 rfl (lv_at hl 0 rfl) ?_
          refine lv_iconst (v := (2 : Int32)) hx hb dX8_field_62 (by decide) ?_
          refine g_callVi (n9 := 1) (As := [.int (2 : Int32)]) (rest := []) hx hb hml hl.1 hown hts hK hM (c_X8_no l G _ ma tx (0 : Int32) pr mo h0 fa lb (2 : Int32) hO1.1) wm_X8_49 wi_X8_no wl_X8_no wn_X8 wc_X8_no (by decide +kernel) (hM.recv hK (ci := 9) rfl hO1.1) ⟨Nat.le_of_ble_eq_true rfl, Nat.le_of_ble_eq_true rfl⟩ ⟨Nat.le_of_ble_eq_true rfl, Nat.le_of_ble_eq_true rfl⟩ rfl (Nat.le_of_ble_eq_true rfl) rfl dX8_field_63 (fun r_63 M9 H locs hq hM => ?_)
          obtain ⟨er, eM9⟩ := hq
          subst er
          replace hM := hM.eq eM9
          obtain ⟨M2, eM2⟩ : ∃ z, z = hu M1 ma tx (.inr (9, [.int (2 : Int32), .ref h0, .ref fa, .ref lb, .int pr, .int mo])) := ⟨_, rfl⟩
          replace hM : Wd G M2 s H locs := hM.eq eM2.symm
          have hO2 : XdR G M2 tx ma h0 fa lb (2 : Int32) pr mo F Lx := by rw [eM2]; exact hO1.setO (2 : Int32) pr mo
          have hL2 : MdR G M2 t h0 Z N U now := by rw [eM2]; exact hL1.frame (Ne.symm d1) (Fr.up hO1.1)
          have hF2 : F3 tx t t2 M M2 := by rw [eM2]; exact F3.tr hF1 (F3.up hO1.1 (Or.inr (Or.inl rfl)))
          exact g_iret hx hb hr hlocks hM (Nat.le_of_ble_eq_true rfl) (Nat.le_of_ble_eq_true rfl) ⟨(by unfold q_X8_field; rw [if_neg c1, if_neg c2, if_neg c3, if_pos c4]), (by rw [show th_X8_field N U now th pr mo F Lx p0 p1 p2 p3 p4 = (2 : Int32) from by unfold th_X8_field; rw [if_neg c1, if_neg c2, if_neg c3, if_pos c4]]; rw [show u_X8_field N U now th pr mo F Lx p0 p1 p2 p3 p4 = U from by unfold u_X8_field; rw [if_neg c1, if_neg c2, if_neg c3, if_pos c4]]; rw [show n_X8_field N U now th pr mo F Lx p0 p1 p2 p3 p4 = N from by unfold n_X8_field; rw [if_neg c1, if_neg c2, if_neg c3, if_pos c4]]; exact ⟨hO2, ⟨Z, hL2⟩, hF2⟩)⟩ dX8_field_66
        · refine lv_iload hx hb dX8_field_50 (lv_at hl 5 rfl) ?_
          refine lv_iconst (v := (0 : Int32)) hx hb dX8_field_52 (by decide) ?_
          refine lv_bipush (v := (50 : Int32)) hx hb dX8_field_53 (by decide) ?_
          refine g_callSi (n9 := 3) (As := [.int p4, .int (0 : Int32), .int (50 : Int32)]) (rest := []) hx hb hml hl.1 hown hts hK hM (c_X8_in l G _ p4 (0 : Int32) (50 : Int32) ) wm_X8_36 wt_X8_in wn_X8 wc_X8_in (by decide +kernel) ⟨Nat.le_of_ble_eq_true rfl, Nat.le_of_ble_eq_true rfl⟩ ⟨Nat.le_of_ble_eq_true rfl, Nat.le_of_ble_eq_true rfl⟩ rfl (Nat.le_of_ble_eq_true rfl) rfl dX8_field_55 (fun r_55 M1 H locs hq hM => ?_)
          have hq1 := hq.1.symm
          have hq2 := hq.2.symm
          subst hq1 hq2
          refine lv_if_ne (tgt := 67) hx hb dX8_field_58 (by decide) (fun c5 => ?_) (fun c5 => ?_)
          · refine lv_aload_n hx hb dX8_field_67 rfl (lv_at hl 0 rfl) ?_
            refine fg_X8_10 hx hb hts hown hK hM hO1.1 dX8_field_68 ?_
            refine fg_X8_33 hx hb hts hown hK hM hL1.1 dX8_field_71 ?_
            refine lv_bipush (v := (8 : Int32)) hx hb dX8_field_74 (by decide) ?_
            refine lv_icmp_ne (tgt := 85) hx hb dX8_field_76 (by decide) (fun c6 => ?_) (fun c6 => ?_)
            · refine lv_bipush (v := (11 : Int32)) hx hb dX8_field_85 (by decide) ?_
              refine g_newI hx hb hK hM hts 11 (by decide) (by decide) (by decide) t2 (Nat.le_of_ble_eq_true rfl) (Nat.le_of_ble_eq_true rfl) dX8_field_87 (fun q0 H hq0 hM => ?_)
              rw [rw11_0] at hM
              refine lv_dup hx hb dX8_field_89 rfl ?_
              refine lv_iconst (v := (0 : Int32)) hx hb dX8_field_90 (by decide) ?_
              refine lv_iload_n hx hb dX8_field_91 rfl (lv_at hl 1 rfl) ?_
              refine is11_0 hx hb hK hM hu_s dX8_field_92 (fun H locs hM => ?_)
              replace hM := hM.eq (hu_u _ _ _ _ _ _)
              refine lv_dup hx hb dX8_field_93 rfl ?_
              refine lv_iconst (v := (1 : Int32)) hx hb dX8_field_94 (by decide) ?_
              refine lv_iload_n hx hb dX8_field_95 rfl (lv_at hl 2 rfl) ?_
              refine is11_1 hx hb hK hM hu_s dX8_field_96 (fun H locs hM => ?_)
              replace hM := hM.eq (hu_u _ _ _ _ _ _)
              refine lv_dup hx hb dX8_field_97 rfl ?_
              refine lv_iconst (v := (2 : Int32)) hx hb dX8_field_98 (by decide) ?_
              refine lv_iload_n hx hb dX8_field_99 rfl (lv_at hl 3 rfl) ?_
              refine is11_2 hx hb hK hM hu_s dX8_field_100 (fun H locs hM => ?_)
              replace hM := hM.eq (hu_u _ _ _ _ _ _)
              refine lv_dup hx hb dX8_field_101 rfl ?_
              refine lv_iconst (v := (3 : Int32)) hx hb dX8_field_102 (by decide) ?_
              refine lv_iconst (v := (0 : Int32)) hx hb dX8_field_103 (by decide) ?_
              refine is11_3 hx hb hK hM hu_s dX8_field_104 (fun H locs hM => ?_)
              replace hM := hM.eq (hu_u _ _ _ _ _ _)
              refine lv_dup hx hb dX8_field_105 rfl ?_
              refine lv_iconst (v := (4 : Int32)) hx hb dX8_field_106 (by decide) ?_
              refine lv_iconst (v := (0 : Int32)) hx hb dX8_field_107 (by decide) ?_
              refine is11_4 hx hb hK hM hu_s dX8_field_108 (fun H locs hM => ?_)
              replace hM := hM.eq (hu_u _ _ _ _ _ _)
              refine lv_dup hx hb dX8_field_109 rfl ?_
              refine lv_iconst (v := (5 : Int32)) hx hb dX8_field_110 (by decide) ?_
              refine lv_bipush (v := (30 : Int32)) hx hb dX8_field_111 (by decide) ?_
              refine is11_5 hx hb hK hM hu_s dX8_field_113 (fun H locs hM => ?_)
              replace hM := hM.eq (hu_u _ _ _ _ _ _)
              refine lv_dup hx hb dX8_field_114 rfl ?_
              refine lv_bipush (v := (6 : Int32)) hx hb dX8_field_115 (by decide) ?_
              refine lv_iconst (v := (0 : Int32)) hx hb dX8_field_117 (by decide) ?_
              refine is11_6 hx hb hK hM hu_s dX8_field_118 (fun H locs hM => ?_)
              replace hM := hM.eq (hu_u _ _ _ _ _ _)
              refine lv_dup hx hb dX8_field_119 rfl ?_
              refine lv_bipush (v := (7 : Int32)) hx hb dX8_field_120 (by decide) ?_
              refine lv_iconst (v := (0 : Int32)) hx hb dX8_field_122 (by decide) ?_
              refine is11_7 hx hb hK hM hu_s dX8_field_123 (fun H locs hM => ?_)
              replace hM := hM.eq (hu_u _ _ _ _ _ _)
              refine lv_dup hx hb dX8_field_124 rfl ?_
              refine lv_bipush (v := (8 : Int32)) hx hb dX8_field_125 (by decide) ?_
              refine lv_iconst (v := (0 : Int32)) hx hb dX8_field_127 (by decide) ?_
              refine is11_8 hx hb hK hM hu_s dX8_field_128 (fun H locs hM => ?_)
              replace hM := hM.eq (hu_u _ _ _ _ _ _)
              refine lv_dup hx hb dX8_field_129 rfl ?_
              refine lv_bipush (v := (9 : Int32)) hx hb dX8_field_130 (by decide) ?_
              refine lv_iload hx hb dX8_field_132 (lv_at hl 4 rfl) ?_
              refine is11_9 hx hb hK hM hu_s dX8_field_134 (fun H locs hM => ?_)
              replace hM := hM.eq (hu_u _ _ _ _ _ _)
              refine lv_dup hx hb dX8_field_135 rfl ?_
              refine lv_bipush (v := (10 : Int32)) hx hb dX8_field_136 (by decide) ?_
              refine lv_iload hx hb dX8_field_138 (lv_at hl 5 rfl) ?_
              refine is11_10 hx hb hK hM hu_s dX8_field_140 (fun H locs hM => ?_)
              replace hM := hM.eq (hu_u _ _ _ _ _ _)
              refine lv_astore (lv' := [(6, .ref q0), (0, .ref ma), (1, .int p0), (2, .int p1), (3, .int p2), (4, .int p3), (5, .int p4)]) hx hb dX8_field_141 hl (by decide) rfl (fun ls hl => ?_)
              refine lv_aload hx hb dX8_field_143 (lv_at hl 0 rfl) ?_
              refine lv_iconst (v := (0 : Int32)) hx hb dX8_field_145 (by decide) ?_
              refine lv_aload_n hx hb dX8_field_146 rfl (lv_at hl 1 rfl) ?_
              refine fg_X8_10 hx hb hts hown hK hM (hu_n (hu_ne hO1.1 hq0 (by simp)) hO1.1) dX8_field_147 ?_
              refine fg_X8_57 hx hb hts hown hK hM (hu_n (hu_ne hL1.1 hq0 (by simp)) hL1.1) dX8_field_150 ?_
              refine lv_aload_n hx hb dX8_field_153 rfl (lv_at hl 1 rfl) ?_
              refine fg_X8_10 hx hb hts hown hK hM (hu_n (hu_ne hO1.1 hq0 (by simp)) hO1.1) dX8_field_154 ?_
              refine fg_X8_33 hx hb hts hown hK hM (hu_n (hu_ne hL1.1 hq0 (by simp)) hL1.1) dX8_field_157 ?_
              obtain ⟨M2, eM2⟩ : ∃ z, z = hu M1 q0 t2 (.inl (G.2.1 0, 11, .inl (rw11 p0 p1 p2 (0 : Int32) (0 : Int32) (30 : Int32) (0 : Int32) (0 : Int32) (0 : Int32) p3 p4))) := ⟨_, rfl⟩
              rw [← eM2] at hM
              have hO2 : XdR G M2 tx ma h0 fa lb (0 : Int32) pr mo F Lx := by rw [eM2]; exact hO1.new hq0
              have hL2 : MdR G M2 t h0 Z N U now := by rw [eM2]; exact hL1.new hq0
              have hF2 : F3 tx t t2 M M2 := by rw [eM2]; exact F3.tr hF1 (F3.new hq0)
              have hr2_0 : M2 q0 = some (t2, (.inl (G.2.1 0, 11, .inl (rw11 p0 p1 p2 (0 : Int32) (0 : Int32) (30 : Int32) (0 : Int32) (0 : Int32) (0 : Int32) p3 p4)))) := by rw [eM2]; exact hu_s
              have hlt0 : N 0 < 8 := nI_lt_of_ne hn0 (by decide) c6
              refine g_aaldN hx hb hK hM (hL2.outer (k := 0) (by decide)) hlt0 (by show 8 < 1000; decide) dX8_field_160 ?_
              refine lv_iconst (v := (0 : Int32)) hx hb dX8_field_161 (by decide) ?_
              refine lv_bipush (v := (11 : Int32)) hx hb dX8_field_162 (by decide) ?_
              refine g_copyR hx hb (hml.trans hl.1.symm) hts hown hK hM wm_X8_61 0 (by decide) (f := (rw11 p0 p1 p2 (0 : Int32) (0 : Int32) (30 : Int32) (0 : Int32) (0 : Int32) (0 : Int32) p3 p4)) (g := rw11 (U 0 (N 0) 0) (U 0 (N 0) 1) (U 0 (N 0) 2) (U 0 (N 0) 3) (U 0 (N 0) 4) (U 0 (N 0) 5) (U 0 (N 0) 6) (U 0 (N 0) 7) (U 0 (N 0) 8) (U 0 (N 0) 9) (U 0 (N 0) 10)) hr2_0 (hL2.row (k := 0) (by decide) hlt0) (by decide) (by decide) (Nat.le_of_ble_eq_true rfl) (Nat.le_of_ble_eq_true rfl) dX8_field_164 (fun H locs hM => ?_)
              replace hM : Wd G (hu M2 (Z.2.1 0 (N 0)) t (.inl (G.2.1 0, 11, .inl (rw11 p0 p1 p2 (0 : Int32) (0 : Int32) (30 : Int32) (0 : Int32) (0 : Int32) (0 : Int32) p3 p4)))) s H locs := hM
              refine lv_aload_n hx hb dX8_field_167 rfl (lv_at hl 1 rfl) ?_
              refine fg_X8_10 hx hb hts hown hK hM (hu_n (hu_ne hO2.1 (hL2.row (k := 0) (by decide) hlt0) (rg_ne d1)) hO2.1) dX8_field_168 ?_
              refine lv_dup hx hb dX8_field_171 rfl ?_
              refine fg_X8_33 hx hb hts hown hK hM (hu_n (hu_ne hL2.1 (hL2.row (k := 0) (by decide) hlt0) eR_ne) hL2.1) dX8_field_172 ?_
              refine lv_dup_x1 hx hb dX8_field_175 rfl rfl ?_
              refine lv_iconst (v := (1 : Int32)) hx hb dX8_field_176 (by decide) ?_
              refine lv_iadd hx hb dX8_field_177 ?_
              obtain ⟨M3, eM3⟩ : ∃ z, z = hu M2 (Z.2.1 0 (N 0)) t (.inl (G.2.1 0, 11, .inl (rw11 p0 p1 p2 (0 : Int32) (0 : Int32) (30 : Int32) (0 : Int32) (0 : Int32) (0 : Int32) p3 p4))) := ⟨_, rfl⟩
              rw [← eM3] at hM
              have hO3 : XdR G M3 tx ma h0 fa lb (0 : Int32) pr mo F Lx := by rw [eM3]; exact hO2.frame d1 (Fr.up (hL2.row (k := 0) (by decide) hlt0))
              have hL3 : MdR G M3 t h0 Z N (tu U 0 (N 0) (rw11 p0 p1 p2 (0 : Int32) (0 : Int32) (30 : Int32) (0 : Int32) (0 : Int32) (0 : Int32) p3 p4)) now := by rw [eM3]; exact hL2.setRow (k := 0) (by decide) hlt0 (rw11 p0 p1 p2 (0 : Int32) (0 : Int32) (30 : Int32) (0 : Int32) (0 : Int32) (0 : Int32) p3 p4)
              have hF3 : F3 tx t t2 M M3 := by rw [eM3]; exact F3.tr hF2 (F3.up (hL2.row (k := 0) (by decide) hlt0) (Or.inl rfl))
              have hr3_0 : M3 q0 = some (t2, (.inl (G.2.1 0, 11, .inl (rw11 p0 p1 p2 (0 : Int32) (0 : Int32) (30 : Int32) (0 : Int32) (0 : Int32) (0 : Int32) p3 p4)))) := by rw [eM3]; exact hu_n (hu_ne hr2_0 (hL2.row (k := 0) (by decide) hlt0) (rg_ne (Ne.symm d3))) hr2_0
              have hr3_1 : M3 (Z.2.1 0 (N 0)) = some (t, (.inl (G.2.1 0, 11, .inl (rw11 p0 p1 p2 (0 : Int32) (0 : Int32) (30 : Int32) (0 : Int32) (0 : Int32) (0 : Int32) p3 p4)))) := by rw [eM3]; exact hu_s
              refine fp_X8_33 hx hb hts hown hK hM hL3.1 dX8_field_178 (fun H locs hM => ?_)
              obtain ⟨M4, eM4⟩ : ∃ z, z = hu M3 h0 t (mdE Z (nu N 0 (N 0 + 1)) now) := ⟨_, rfl⟩
              replace hM : Wd G M4 s H locs := hM.eq (by rw [eM4, nI_1 (N 0)]; rfl)
              have hO4 : XdR G M4 tx ma h0 fa lb (0 : Int32) pr mo F Lx := by rw [eM4]; exact hO3.frame d1 (Fr.up hL3.1)
              have hL4 : MdR G M4 t h0 Z (nu N 0 (N 0 + 1)) (tu U 0 (N 0) (rw11 p0 p1 p2 (0 : Int32) (0 : Int32) (30 : Int32) (0 : Int32) (0 : Int32) (0 : Int32) p3 p4)) now := by rw [eM4]; exact hL3.setLand (nu N 0 (N 0 + 1)) _ (nu_n (by decide)) (fun k hk => cnt_up (fun j hj => hL3.cnt hj) hlt0 k hk)
              have hF4 : F3 tx t t2 M M4 := by rw [eM4]; exact F3.tr hF3 (F3.up hL3.1 (Or.inl rfl))
              exact g_iret hx hb hr hlocks hM (Nat.le_of_ble_eq_true rfl) (Nat.le_of_ble_eq_true rfl) ⟨(by unfold q_X8_field; rw [if_neg c1, if_neg c2, if_neg c3, if_neg c4, if_neg c5, if_neg c6]), (by rw [show th_X8_field N U now th pr mo F Lx p0 p1 p2 p3 p4 = (0 : Int32) from by unfold th_X8_field; rw [if_neg c1, if_neg c2, if_neg c3, if_neg c4, if_neg c5, if_neg c6]]; rw [show u_X8_field N U now th pr mo F Lx p0 p1 p2 p3 p4 = (tu U 0 (N 0) (rw11 p0 p1 p2 (0 : Int32) (0 : Int32) (30 : Int32) (0 : Int32) (0 : Int32) (0 : Int32) p3 p4)) from by unfold u_X8_field; rw [if_neg c1, if_neg c2, if_neg c3, if_neg c4, if_neg c5, if_neg c6]]; rw [show n_X8_field N U now th pr mo F Lx p0 p1 p2 p3 p4 = (nu N 0 (N 0 + 1)) from by unfold n_X8_field; rw [if_neg c1, if_neg c2, if_neg c3, if_neg c4, if_neg c5, if_neg c6]]; exact ⟨hO4, ⟨Z, hL4⟩, hF4⟩)⟩ dX8_field_181
            · refine lv_aload_n hx hb dX8_field_79 rfl (lv_at hl 0 rfl) ?_
              refine lv_iconst (v := (3 : Int32)) hx hb dX8_field_80 (by decide) ?_
              refine g_callVi (n9 := 1) (As := [.int (3 : Int32)]) (rest := []) hx hb hml hl.1 hown hts hK hM (c_X8_no l G _ ma tx (0 : Int32) pr mo h0 fa lb (3 : Int32) hO1.1) wm_X8_49 wi_X8_no wl_X8_no wn_X8 wc_X8_no (by decide +kernel) (hM.recv hK (ci := 9) rfl hO1.1) ⟨Nat.le_of_ble_eq_true rfl, Nat.le_of_ble_eq_true rfl⟩ ⟨Nat.le_of_ble_eq_true rfl, Nat.le_of_ble_eq_true rfl⟩ rfl (Nat.le_of_ble_eq_true rfl) rfl dX8_field_81 (fun r_81 M9 H locs hq hM => ?_)
              obtain ⟨er, eM9⟩ := hq
              subst er
              replace hM := hM.eq eM9
              obtain ⟨M2, eM2⟩ : ∃ z, z = hu M1 ma tx (.inr (9, [.int (3 : Int32), .ref h0, .ref fa, .ref lb, .int pr, .int mo])) := ⟨_, rfl⟩
              replace hM : Wd G M2 s H locs := hM.eq eM2.symm
              have hO2 : XdR G M2 tx ma h0 fa lb (3 : Int32) pr mo F Lx := by rw [eM2]; exact hO1.setO (3 : Int32) pr mo
              have hL2 : MdR G M2 t h0 Z N U now := by rw [eM2]; exact hL1.frame (Ne.symm d1) (Fr.up hO1.1)
              have hF2 : F3 tx t t2 M M2 := by rw [eM2]; exact F3.tr hF1 (F3.up hO1.1 (Or.inr (Or.inl rfl)))
              exact g_iret hx hb hr hlocks hM (Nat.le_of_ble_eq_true rfl) (Nat.le_of_ble_eq_true rfl) ⟨(by unfold q_X8_field; rw [if_neg c1, if_neg c2, if_neg c3, if_neg c4, if_neg c5, if_pos c6]), (by rw [show th_X8_field N U now th pr mo F Lx p0 p1 p2 p3 p4 = (3 : Int32) from by unfold th_X8_field; rw [if_neg c1, if_neg c2, if_neg c3, if_neg c4, if_neg c5, if_pos c6]]; rw [show u_X8_field N U now th pr mo F Lx p0 p1 p2 p3 p4 = U from by unfold u_X8_field; rw [if_neg c1, if_neg c2, if_neg c3, if_neg c4, if_neg c5, if_pos c6]]; rw [show n_X8_field N U now th pr mo F Lx p0 p1 p2 p3 p4 = N from by unfold n_X8_field; rw [if_neg c1, if_neg c2, if_neg c3, if_neg c4, if_neg c5, if_pos c6]]; exact ⟨hO2, ⟨Z, hL2⟩, hF2⟩)⟩ dX8_field_84
          · refine lv_aload_n hx hb dX8_field_61 rfl (lv_at hl 0 rfl) ?_
            refine lv_iconst (v := (2 : Int32)) hx hb dX8_field_62 (by decide) ?_
            refine g_callVi (n9 := 1) (As := [.int (2 : Int32)]) (rest := []) hx hb hml hl.1 hown hts hK hM (c_X8_no l G _ ma tx (0 : Int32) pr mo h0 fa lb (2 : Int32) hO1.1) wm_X8_49 wi_X8_no wl_X8_no wn_X8 wc_X8_no (by decide +kernel) (hM.recv hK (ci := 9) rfl hO1.1) ⟨Nat.le_of_ble_eq_true rfl, Nat.le_of_ble_eq_true rfl⟩ ⟨Nat.le_of_ble_eq_true rfl, Nat.le_of_ble_eq_true rfl⟩ rfl (Nat.le_of_ble_eq_true rfl) rfl dX8_field_63 (fun r_63 M9 H locs hq hM => ?_)
            obtain ⟨er, eM9⟩ := hq
            subst er
            replace hM := hM.eq eM9
            obtain ⟨M2, eM2⟩ : ∃ z, z = hu M1 ma tx (.inr (9, [.int (2 : Int32), .ref h0, .ref fa, .ref lb, .int pr, .int mo])) := ⟨_, rfl⟩
            replace hM : Wd G M2 s H locs := hM.eq eM2.symm
            have hO2 : XdR G M2 tx ma h0 fa lb (2 : Int32) pr mo F Lx := by rw [eM2]; exact hO1.setO (2 : Int32) pr mo
            have hL2 : MdR G M2 t h0 Z N U now := by rw [eM2]; exact hL1.frame (Ne.symm d1) (Fr.up hO1.1)
            have hF2 : F3 tx t t2 M M2 := by rw [eM2]; exact F3.tr hF1 (F3.up hO1.1 (Or.inr (Or.inl rfl)))
            exact g_iret hx hb hr hlocks hM (Nat.le_of_ble_eq_true rfl) (Nat.le_of_ble_eq_true rfl) ⟨(by unfold q_X8_field; rw [if_neg c1, if_neg c2, if_neg c3, if_neg c4, if_pos c5]), (by rw [show th_X8_field N U now th pr mo F Lx p0 p1 p2 p3 p4 = (2 : Int32) from by unfold th_X8_field; rw [if_neg c1, if_neg c2, if_neg c3, if_neg c4, if_pos c5]]; rw [show u_X8_field N U now th pr mo F Lx p0 p1 p2 p3 p4 = U from by unfold u_X8_field; rw [if_neg c1, if_neg c2, if_neg c3, if_neg c4, if_pos c5]]; rw [show n_X8_field N U now th pr mo F Lx p0 p1 p2 p3 p4 = N from by unfold n_X8_field; rw [if_neg c1, if_neg c2, if_neg c3, if_neg c4, if_pos c5]]; exact ⟨hO2, ⟨Z, hL2⟩, hF2⟩)⟩ dX8_field_66
  · refine lv_aload_n hx hb dX8_field_14 rfl (lv_at hl 0 rfl) ?_
    refine lv_iconst (v := (1 : Int32)) hx hb dX8_field_15 (by decide) ?_
    refine g_callVi (n9 := 1) (As := [.int (1 : Int32)]) (rest := []) hx hb hml hl.1 hown hts hK hM (c_X8_no l G _ ma tx (0 : Int32) pr mo h0 fa lb (1 : Int32) hO1.1) wm_X8_49 wi_X8_no wl_X8_no wn_X8 wc_X8_no (by decide +kernel) (hM.recv hK (ci := 9) rfl hO1.1) ⟨Nat.le_of_ble_eq_true rfl, Nat.le_of_ble_eq_true rfl⟩ ⟨Nat.le_of_ble_eq_true rfl, Nat.le_of_ble_eq_true rfl⟩ rfl (Nat.le_of_ble_eq_true rfl) rfl dX8_field_16 (fun r_16 M9 H locs hq hM => ?_)
    obtain ⟨er, eM9⟩ := hq
    subst er
    replace hM := hM.eq eM9
    obtain ⟨M2, eM2⟩ : ∃ z, z = hu M1 ma tx (.inr (9, [.int (1 : Int32), .ref h0, .ref fa, .ref lb, .int pr, .int mo])) := ⟨_, rfl⟩
    replace hM : Wd G M2 s H locs := hM.eq eM2.symm
    have hO2 : XdR G M2 tx ma h0 fa lb (1 : Int32) pr mo F Lx := by rw [eM2]; exact hO1.setO (1 : Int32) pr mo
    have hL2 : MdR G M2 t h0 Z N U now := by rw [eM2]; exact hL1.frame (Ne.symm d1) (Fr.up hO1.1)
    have hF2 : F3 tx t t2 M M2 := by rw [eM2]; exact F3.tr hF1 (F3.up hO1.1 (Or.inr (Or.inl rfl)))
    exact g_iret hx hb hr hlocks hM (Nat.le_of_ble_eq_true rfl) (Nat.le_of_ble_eq_true rfl) ⟨(by unfold q_X8_field; rw [if_pos c1]), (by rw [show th_X8_field N U now th pr mo F Lx p0 p1 p2 p3 p4 = (1 : Int32) from by unfold th_X8_field; rw [if_pos c1]]; rw [show u_X8_field N U now th pr mo F Lx p0 p1 p2 p3 p4 = U from by unfold u_X8_field; rw [if_pos c1]]; rw [show n_X8_field N U now th pr mo F Lx p0 p1 p2 p3 p4 = N from by unfold n_X8_field; rw [if_pos c1]]; exact ⟨hO2, ⟨Z, hL2⟩, hF2⟩)⟩ dX8_field_19
def q_X8_crop (N : Nat → Nat) (U : Tb) (now th pr mo : Int32) (F Lx : Row) (p0 p1 p2 : Int32) : Int32 := if (t_X8_in_0 p0 (0 : Int32) ((nI (N 0)) - (1 : Int32))) = 0 then t_X8_no_0 else (if (t_X8_in_0 p1 (0 : Int32) (100 : Int32)) = 0 then t_X8_no_0 else (if (t_X8_in_0 p2 (5 : Int32) (40 : Int32)) = 0 then t_X8_no_0 else (U 0 (ix p0) 4)))
def th_X8_crop (N : Nat → Nat) (U : Tb) (now th pr mo : Int32) (F Lx : Row) (p0 p1 p2 : Int32) : Int32 := if (t_X8_in_0 p0 (0 : Int32) ((nI (N 0)) - (1 : Int32))) = 0 then (1 : Int32) else (if (t_X8_in_0 p1 (0 : Int32) (100 : Int32)) = 0 then (2 : Int32) else (if (t_X8_in_0 p2 (5 : Int32) (40 : Int32)) = 0 then (2 : Int32) else (0 : Int32)))
def u_X8_crop (N : Nat → Nat) (U : Tb) (now th pr mo : Int32) (F Lx : Row) (p0 p1 p2 : Int32) : Tb := if (t_X8_in_0 p0 (0 : Int32) ((nI (N 0)) - (1 : Int32))) = 0 then U else (if (t_X8_in_0 p1 (0 : Int32) (100 : Int32)) = 0 then U else (if (t_X8_in_0 p2 (5 : Int32) (40 : Int32)) = 0 then U else (tu U 0 (ix p0) (rw11 (U 0 (ix p0) 0) (U 0 (ix p0) 1) (U 0 (ix p0) 2) (U 0 (ix p0) 3) p1 p2 (U 0 (ix p0) 6) (U 0 (ix p0) 7) (U 0 (ix p0) 8) (U 0 (ix p0) 9) (U 0 (ix p0) 10)))))
set_option maxHeartbeats 4000000 in
set_option maxRecDepth 100000 in
theorem c_X8_crop (l : Launch) (G : GG) (M : HM) (tx ma h0 fa lb t t2 : Nat) (Z : LZ) (N : Nat → Nat) (U : Tb) (now th pr mo : Int32) (F Lx : Row) (p0 p1 p2 : Int32) (hO : XdR G M tx ma h0 fa lb th pr mo F Lx) (hL : MdR G M t h0 Z N U now) (d1 : tx ≠ t) (d2 : tx ≠ t2) (d3 : t ≠ t2)   : Mi l yX8_crop (.code yX8_crop cX8_crop 5 (some .int) :: AL) 2 43 0 0 [.ref ma, .int p0, .int p1, .int p2] G M (fun r M' => r = (q_X8_crop N U now th pr mo F Lx p0 p1 p2) ∧ XP G M M' tx ma h0 fa lb t t2 N (u_X8_crop N U now th pr mo F Lx p0 p1 p2) now (th_X8_crop N U now th pr mo F Lx p0 p1 p2) pr mo F Lx) := by
  refine Mi.go (by decide) (Nat.le_of_ble_eq_true rfl) ?_
  intro p e s m below meth c ls hx hb hr hml hown hlocks hname hts hK hM hl
  have hown : s.vm.findClass RX8 = some m.cls := hown
  have hl : lv_has ls 5 [(0, .ref ma), (1, .int p0), (2, .int p1), (3, .int p2)] := hl
  have hn0 := hL.cnt (k := 0) (by decide)
  have hn09 : N 0 ≤ 8 := by have : N 0 ≤ 8 := hn0; omega
  have hn1 := hL.cnt (k := 1) (by decide)
  have hn19 : N 1 ≤ 8 := by have : N 1 ≤ 4 := hn1; omega
  have hn2 := hL.cnt (k := 2) (by decide)
  have hn29 : N 2 ≤ 8 := by have : N 2 ≤ 4 := hn2; omega
  have hn3 := hL.cnt (k := 3) (by decide)
  have hn39 : N 3 ≤ 8 := by have : N 3 ≤ 3 := hn3; omega
  refine lv_aload_n hx hb dX8_crop_0 rfl (lv_at hl 0 rfl) ?_
  refine lv_iconst (v := (0 : Int32)) hx hb dX8_crop_1 (by decide) ?_
  refine fp_X8_30 hx hb hts hown hK hM hO.1 dX8_crop_2 (fun H locs hM => ?_)
  obtain ⟨M1, eM1⟩ : ∃ z, z = hu M ma tx (.inr (9, [.int (0 : Int32), .ref h0, .ref fa, .ref lb, .int pr, .int mo])) := ⟨_, rfl⟩
  replace hM : Wd G M1 s H locs := hM.eq eM1.symm
  have hO1 : XdR G M1 tx ma h0 fa lb (0 : Int32) pr mo F Lx := by rw [eM1]; exact hO.setO (0 : Int32) pr mo
  have hL1 : MdR G M1 t h0 Z N U now := by rw [eM1]; exact hL.frame (Ne.symm d1) (Fr.up hO.1)
  have hF1 : F3 tx t t2 M M1 := by rw [eM1]; exact F3.tr (F3.rf) (F3.up hO.1 (Or.inr (Or.inl rfl)))
  refine lv_aload_n hx hb dX8_crop_5 rfl (lv_at hl 0 rfl) ?_
  refine lv_iload_n hx hb dX8_crop_6 rfl (lv_at hl 1 rfl) ?_
  refine g_callVi (n9 := 1) (As := [.int p0]) (rest := []) hx hb hml hl.1 hown hts hK hM (c_X8_isField l G _ tx ma h0 fa lb t t2 Z N U now (0 : Int32) pr mo F Lx p0 hO1 hL1) wm_X8_67 wi_X8_isField wl_X8_isField wn_X8 wc_X8_isField (by decide +kernel) (hM.recv hK (ci := 9) rfl hO1.1) ⟨Nat.le_of_ble_eq_true rfl, Nat.le_of_ble_eq_true rfl⟩ ⟨Nat.le_of_ble_eq_true rfl, Nat.le_of_ble_eq_true rfl⟩ rfl (Nat.le_of_ble_eq_true rfl) rfl dX8_crop_7 (fun r_7 Mz H locs hq hM => ?_)
  have hq1 := hq.1.symm
  have hq2 := hq.2.symm
  subst hq1 hq2
  refine lv_if_ne (tgt := 19) hx hb dX8_crop_10 (by decide) (fun c1 => ?_) (fun c1 => ?_)
  · refine lv_iload_n hx hb dX8_crop_19 rfl (lv_at hl 2 rfl) ?_
    refine lv_iconst (v := (0 : Int32)) hx hb dX8_crop_20 (by decide) ?_
    refine lv_bipush (v := (100 : Int32)) hx hb dX8_crop_21 (by decide) ?_
    refine g_callSi (n9 := 3) (As := [.int p1, .int (0 : Int32), .int (100 : Int32)]) (rest := []) hx hb hml hl.1 hown hts hK hM (c_X8_in l G _ p1 (0 : Int32) (100 : Int32) ) wm_X8_36 wt_X8_in wn_X8 wc_X8_in (by decide +kernel) ⟨Nat.le_of_ble_eq_true rfl, Nat.le_of_ble_eq_true rfl⟩ ⟨Nat.le_of_ble_eq_true rfl, Nat.le_of_ble_eq_true rfl⟩ rfl (Nat.le_of_ble_eq_true rfl) rfl dX8_crop_23 (fun r_23 M1 H locs hq hM => ?_)
    have hq1 := hq.1.symm
    have hq2 := hq.2.symm
    subst hq1 hq2
    refine lv_if_eq (tgt := 39) hx hb dX8_crop_26 (by decide) (fun c2 => ?_) (fun c2 => ?_)
    · refine lv_aload_n hx hb dX8_crop_39 rfl (lv_at hl 0 rfl) ?_
      refine lv_iconst (v := (2 : Int32)) hx hb dX8_crop_40 (by decide) ?_
      refine g_callVi (n9 := 1) (As := [.int (2 : Int32)]) (rest := []) hx hb hml hl.1 hown hts hK hM (c_X8_no l G _ ma tx (0 : Int32) pr mo h0 fa lb (2 : Int32) hO1.1) wm_X8_49 wi_X8_no wl_X8_no wn_X8 wc_X8_no (by decide +kernel) (hM.recv hK (ci := 9) rfl hO1.1) ⟨Nat.le_of_ble_eq_true rfl, Nat.le_of_ble_eq_true rfl⟩ ⟨Nat.le_of_ble_eq_true rfl, Nat.le_of_ble_eq_true rfl⟩ rfl (Nat.le_of_ble_eq_true rfl) rfl dX8_crop_41 (fun r_41 M9 H locs hq hM => ?_)
      obtain ⟨er, eM9⟩ := hq
      subst er
      replace hM := hM.eq eM9
      obtain ⟨M2, eM2⟩ : ∃ z, z = hu M1 ma tx (.inr (9, [.int (2 : Int32), .ref h0, .ref fa, .ref lb, .int pr, .int mo])) := ⟨_, rfl⟩
      replace hM : Wd G M2 s H locs := hM.eq eM2.symm
      have hO2 : XdR G M2 tx ma h0 fa lb (2 : Int32) pr mo F Lx := by rw [eM2]; exact hO1.setO (2 : Int32) pr mo
      have hL2 : MdR G M2 t h0 Z N U now := by rw [eM2]; exact hL1.frame (Ne.symm d1) (Fr.up hO1.1)
      have hF2 : F3 tx t t2 M M2 := by rw [eM2]; exact F3.tr hF1 (F3.up hO1.1 (Or.inr (Or.inl rfl)))
      exact g_iret hx hb hr hlocks hM (Nat.le_of_ble_eq_true rfl) (Nat.le_of_ble_eq_true rfl) ⟨(by unfold q_X8_crop; rw [if_neg c1, if_pos c2]), (by rw [show th_X8_crop N U now th pr mo F Lx p0 p1 p2 = (2 : Int32) from by unfold th_X8_crop; rw [if_neg c1, if_pos c2]]; rw [show u_X8_crop N U now th pr mo F Lx p0 p1 p2 = U from by unfold u_X8_crop; rw [if_neg c1, if_pos c2]]; exact ⟨hO2, ⟨Z, hL2⟩, hF2⟩)⟩ dX8_crop_44
    · refine lv_iload_n hx hb dX8_crop_29 rfl (lv_at hl 3 rfl) ?_
      refine lv_iconst (v := (5 : Int32)) hx hb dX8_crop_30 (by decide) ?_
      refine lv_bipush (v := (40 : Int32)) hx hb dX8_crop_31 (by decide) ?_
      refine g_callSi (n9 := 3) (As := [.int p2, .int (5 : Int32), .int (40 : Int32)]) (rest := []) hx hb hml hl.1 hown hts hK hM (c_X8_in l G _ p2 (5 : Int32) (40 : Int32) ) wm_X8_36 wt_X8_in wn_X8 wc_X8_in (by decide +kernel) ⟨Nat.le_of_ble_eq_true rfl, Nat.le_of_ble_eq_true rfl⟩ ⟨Nat.le_of_ble_eq_true rfl, Nat.le_of_ble_eq_true rfl⟩ rfl (Nat.le_of_ble_eq_true rfl) rfl dX8_crop_33 (fun r_33 M1 H locs hq hM => ?_)
      have hq1 := hq.1.symm
      have hq2 := hq.2.symm
      subst hq1 hq2
      refine lv_if_ne (tgt := 45) hx hb dX8_crop_36 (by decide) (fun c3 => ?_) (fun c3 => ?_)
      · refine lv_aload_n hx hb dX8_crop_45 rfl (lv_at hl 0 rfl) ?_
        refine fg_X8_10 hx hb hts hown hK hM hO1.1 dX8_crop_46 ?_
        refine fg_X8_57 hx hb hts hown hK hM hL1.1 dX8_crop_49 ?_
        refine lv_iload_n hx hb dX8_crop_52 rfl (lv_at hl 1 rfl) ?_
        have hg4 := inN9 c1 hn09
        refine g_aaldR hx hb hK hM (hL1.outer (k := 0) (by decide)) hg4.1 (Nat.lt_of_lt_of_le hg4.2 hn0) dX8_crop_53 ?_
        refine lv_iconst (v := (4 : Int32)) hx hb dX8_crop_54 (by decide) ?_
        refine ia11_4 hx hb hK hM (hL1.row (k := 0) (by decide) (Nat.lt_of_lt_of_le hg4.2 hn0)) dX8_crop_55 ?_
        refine lv_istore (lv' := [(4, .int (U 0 (ix p0) 4)), (0, .ref ma), (1, .int p0), (2, .int p1), (3, .int p2)]) hx hb dX8_crop_56 hl (by decide) rfl (fun ls hl => ?_)
        refine lv_aload_n hx hb dX8_crop_58 rfl (lv_at hl 1 rfl) ?_
        refine fg_X8_10 hx hb hts hown hK hM hO1.1 dX8_crop_59 ?_
        refine fg_X8_57 hx hb hts hown hK hM hL1.1 dX8_crop_62 ?_
        refine lv_iload_n hx hb dX8_crop_65 rfl (lv_at hl 2 rfl) ?_
        refine g_aaldR hx hb hK hM (hL1.outer (k := 0) (by decide)) hg4.1 (Nat.lt_of_lt_of_le hg4.2 hn0) dX8_crop_66 ?_
        refine lv_iconst (v := (4 : Int32)) hx hb dX8_crop_67 (by decide) ?_
        refine lv_iload_n hx hb dX8_crop_68 rfl (lv_at hl 3 rfl) ?_
        refine is11_4 hx hb hK hM (hL1.row (k := 0) (by decide) (Nat.lt_of_lt_of_le hg4.2 hn0)) dX8_crop_69 (fun H locs hM => ?_)
        refine lv_aload_n hx hb dX8_crop_70 rfl (lv_at hl 1 rfl) ?_
        refine fg_X8_10 hx hb hts hown hK hM (hu_n (hu_ne hO1.1 (hL1.row (k := 0) (by decide) (Nat.lt_of_lt_of_le hg4.2 hn0)) (rg_ne d1)) hO1.1) dX8_crop_71 ?_
        refine fg_X8_57 hx hb hts hown hK hM (hu_n (hu_ne hL1.1 (hL1.row (k := 0) (by decide) (Nat.lt_of_lt_of_le hg4.2 hn0)) eR_ne) hL1.1) dX8_crop_74 ?_
        refine lv_iload_n hx hb dX8_crop_77 rfl (lv_at hl 2 rfl) ?_
        refine g_aaldR hx hb hK hM (hu_n (hu_ne (hL1.outer (k := 0) (by decide)) (hL1.row (k := 0) (by decide) (Nat.lt_of_lt_of_le hg4.2 hn0)) eR_neO) (hL1.outer (k := 0) (by decide))) hg4.1 (Nat.lt_of_lt_of_le hg4.2 hn0) dX8_crop_78 ?_
        refine lv_iconst (v := (5 : Int32)) hx hb dX8_crop_79 (by decide) ?_
        refine lv_iload_n hx hb dX8_crop_80 rfl (lv_at hl 4 rfl) ?_
        refine is11_5 hx hb hK hM hu_s dX8_crop_81 (fun H locs hM => ?_)
        replace hM := hM.eq (hu_u _ _ _ _ _ _)
        refine lv_iload hx hb dX8_crop_82 (lv_at hl 0 rfl) ?_
        obtain ⟨M2, eM2⟩ : ∃ z, z = hu M1 (Z.2.1 0 (ix p0)) t (.inl (G.2.1 0, 11, .inl (rw11 (U 0 (ix p0) 0) (U 0 (ix p0) 1) (U 0 (ix p0) 2) (U 0 (ix p0) 3) p1 p2 (U 0 (ix p0) 6) (U 0 (ix p0) 7) (U 0 (ix p0) 8) (U 0 (ix p0) 9) (U 0 (ix p0) 10)))) := ⟨_, rfl⟩
        rw [← eM2] at hM
        have hO2 : XdR G M2 tx ma h0 fa lb (0 : Int32) pr mo F Lx := by rw [eM2]; exact hO1.frame d1 (Fr.up (hL1.row (k := 0) (by decide) (Nat.lt_of_lt_of_le hg4.2 hn0)))
        have hL2 : MdR G M2 t h0 Z N (tu U 0 (ix p0) (rw11 (U 0 (ix p0) 0) (U 0 (ix p0) 1) (U 0 (ix p0) 2) (U 0 (ix p0) 3) p1 p2 (U 0 (ix p0) 6) (U 0 (ix p0) 7) (U 0 (ix p0) 8) (U 0 (ix p0) 9) (U 0 (ix p0) 10))) now := by rw [eM2]; exact hL1.setRow (k := 0) (by decide) (Nat.lt_of_lt_of_le hg4.2 hn0) (rw11 (U 0 (ix p0) 0) (U 0 (ix p0) 1) (U 0 (ix p0) 2) (U 0 (ix p0) 3) p1 p2 (U 0 (ix p0) 6) (U 0 (ix p0) 7) (U 0 (ix p0) 8) (U 0 (ix p0) 9) (U 0 (ix p0) 10))
        have hF2 : F3 tx t t2 M M2 := by rw [eM2]; exact F3.tr hF1 (F3.up (hL1.row (k := 0) (by decide) (Nat.lt_of_lt_of_le hg4.2 hn0)) (Or.inl rfl))
        have hr2_0 : M2 (Z.2.1 0 (ix p0)) = some (t, (.inl (G.2.1 0, 11, .inl (rw11 (U 0 (ix p0) 0) (U 0 (ix p0) 1) (U 0 (ix p0) 2) (U 0 (ix p0) 3) p1 p2 (U 0 (ix p0) 6) (U 0 (ix p0) 7) (U 0 (ix p0) 8) (U 0 (ix p0) 9) (U 0 (ix p0) 10))))) := by rw [eM2]; exact hu_s
        exact g_iret hx hb hr hlocks hM (Nat.le_of_ble_eq_true rfl) (Nat.le_of_ble_eq_true rfl) ⟨(by unfold q_X8_crop; rw [if_neg c1, if_neg c2, if_neg c3]), (by rw [show th_X8_crop N U now th pr mo F Lx p0 p1 p2 = (0 : Int32) from by unfold th_X8_crop; rw [if_neg c1, if_neg c2, if_neg c3]]; rw [show u_X8_crop N U now th pr mo F Lx p0 p1 p2 = (tu U 0 (ix p0) (rw11 (U 0 (ix p0) 0) (U 0 (ix p0) 1) (U 0 (ix p0) 2) (U 0 (ix p0) 3) p1 p2 (U 0 (ix p0) 6) (U 0 (ix p0) 7) (U 0 (ix p0) 8) (U 0 (ix p0) 9) (U 0 (ix p0) 10))) from by unfold u_X8_crop; rw [if_neg c1, if_neg c2, if_neg c3]]; exact ⟨hO2, ⟨Z, hL2⟩, hF2⟩)⟩ dX8_crop_84
      · refine lv_aload_n hx hb dX8_crop_39 rfl (lv_at hl 0 rfl) ?_
        refine lv_iconst (v := (2 : Int32)) hx hb dX8_crop_40 (by decide) ?_
        refine g_callVi (n9 := 1) (As := [.int (2 : Int32)]) (rest := []) hx hb hml hl.1 hown hts hK hM (c_X8_no l G _ ma tx (0 : Int32) pr mo h0 fa lb (2 : Int32) hO1.1) wm_X8_49 wi_X8_no wl_X8_no wn_X8 wc_X8_no (by decide +kernel) (hM.recv hK (ci := 9) rfl hO1.1) ⟨Nat.le_of_ble_eq_true rfl, Nat.le_of_ble_eq_true rfl⟩ ⟨Nat.le_of_ble_eq_true rfl, Nat.le_of_ble_eq_true rfl⟩ rfl (Nat.le_of_ble_eq_true rfl) rfl dX8_crop_41 (fun r_41 M9 H locs hq hM => ?_)
        obtain ⟨er, eM9⟩ := hq
        subst er
        replace hM := hM.eq eM9
        obtain ⟨M2, eM2⟩ : ∃ z, z = hu M1 ma tx (.inr (9, [.int (2 : Int32), .ref h0, .ref fa, .ref lb, .int pr, .int mo])) := ⟨_, rfl⟩
        replace hM : Wd G M2 s H locs := hM.eq eM2.symm
        have hO2 : XdR G M2 tx ma h0 fa lb (2 : Int32) pr mo F Lx := by rw [eM2]; exact hO1.setO (2 : Int32) pr mo
        have hL2 : MdR G M2 t h0 Z N U now := by rw [eM2]; exact hL1.frame (Ne.symm d1) (Fr.up hO1.1)
        have hF2 : F3 tx t t2 M M2 := by rw [eM2]; exact F3.tr hF1 (F3.up hO1.1 (Or.inr (Or.inl rfl)))
        exact g_iret hx hb hr hlocks hM (Nat.le_of_ble_eq_true rfl) (Nat.le_of_ble_eq_true rfl) ⟨(by unfold q_X8_crop; rw [if_neg c1, if_neg c2, if_pos c3]), (by rw [show th_X8_crop N U now th pr mo F Lx p0 p1 p2 = (2 : Int32) from by unfold th_X8_crop; rw [if_neg c1, if_neg c2, if_pos c3]]; rw [show u_X8_crop N U now th pr mo F Lx p0 p1 p2 = U from by unfold u_X8_crop; rw [if_neg c1, if_neg c2, if_pos c3]]; exact ⟨hO2, ⟨Z, hL2⟩, hF2⟩)⟩ dX8_crop_44
  · refine lv_aload_n hx hb dX8_crop_13 rfl (lv_at hl 0 rfl) ?_
    refine lv_iconst (v := (1 : Int32)) hx hb dX8_crop_14 (by decide) ?_
    refine g_callVi (n9 := 1) (As := [.int (1 : Int32)]) (rest := []) hx hb hml hl.1 hown hts hK hM (c_X8_no l G _ ma tx (0 : Int32) pr mo h0 fa lb (1 : Int32) hO1.1) wm_X8_49 wi_X8_no wl_X8_no wn_X8 wc_X8_no (by decide +kernel) (hM.recv hK (ci := 9) rfl hO1.1) ⟨Nat.le_of_ble_eq_true rfl, Nat.le_of_ble_eq_true rfl⟩ ⟨Nat.le_of_ble_eq_true rfl, Nat.le_of_ble_eq_true rfl⟩ rfl (Nat.le_of_ble_eq_true rfl) rfl dX8_crop_15 (fun r_15 M9 H locs hq hM => ?_)
    obtain ⟨er, eM9⟩ := hq
    subst er
    replace hM := hM.eq eM9
    obtain ⟨M2, eM2⟩ : ∃ z, z = hu M1 ma tx (.inr (9, [.int (1 : Int32), .ref h0, .ref fa, .ref lb, .int pr, .int mo])) := ⟨_, rfl⟩
    replace hM : Wd G M2 s H locs := hM.eq eM2.symm
    have hO2 : XdR G M2 tx ma h0 fa lb (1 : Int32) pr mo F Lx := by rw [eM2]; exact hO1.setO (1 : Int32) pr mo
    have hL2 : MdR G M2 t h0 Z N U now := by rw [eM2]; exact hL1.frame (Ne.symm d1) (Fr.up hO1.1)
    have hF2 : F3 tx t t2 M M2 := by rw [eM2]; exact F3.tr hF1 (F3.up hO1.1 (Or.inr (Or.inl rfl)))
    exact g_iret hx hb hr hlocks hM (Nat.le_of_ble_eq_true rfl) (Nat.le_of_ble_eq_true rfl) ⟨(by unfold q_X8_crop; rw [if_pos c1]), (by rw [show th_X8_crop N U now th pr mo F Lx p0 p1 p2 = (1 : Int32) from by unfold th_X8_crop; rw [if_pos c1]]; rw [show u_X8_crop N U now th pr mo F Lx p0 p1 p2 = U from by unfold u_X8_crop; rw [if_pos c1]]; exact ⟨hO2, ⟨Z, hL2⟩, hF2⟩)⟩ dX8_crop_18
def q_X8_combine (N : Nat → Nat) (U : Tb) (now th pr mo : Int32) (F Lx : Row) (p0 p1 : Int32) : Int32 := if (t_X8_isMile_0 p0) = 0 then t_X8_no_0 else (if (t_X8_in_0 p1 (1 : Int32) (20 : Int32)) = 0 then t_X8_no_0 else (if (nI (N 1)) = (4 : Int32) then t_X8_no_0 else (nI (N 1))))
def th_X8_combine (N : Nat → Nat) (U : Tb) (now th pr mo : Int32) (F Lx : Row) (p0 p1 : Int32) : Int32 := if (t_X8_isMile_0 p0) = 0 then (1 : Int32) else (if (t_X8_in_0 p1 (1 : Int32) (20 : Int32)) = 0 then (1 : Int32) else (if (nI (N 1)) = (4 : Int32) then (2 : Int32) else (0 : Int32)))
def u_X8_combine (N : Nat → Nat) (U : Tb) (now th pr mo : Int32) (F Lx : Row) (p0 p1 : Int32) : Tb := if (t_X8_isMile_0 p0) = 0 then U else (if (t_X8_in_0 p1 (1 : Int32) (20 : Int32)) = 0 then U else (if (nI (N 1)) = (4 : Int32) then U else (tu U 1 (N 1) (rw11 p1 p0 (0 : Int32) (-1 : Int32) (0 : Int32) (0 : Int32) (0 : Int32) (-1 : Int32) (0 : Int32) (0 : Int32) (0 : Int32)))))
def n_X8_combine (N : Nat → Nat) (U : Tb) (now th pr mo : Int32) (F Lx : Row) (p0 p1 : Int32) : Nat → Nat := if (t_X8_isMile_0 p0) = 0 then N else (if (t_X8_in_0 p1 (1 : Int32) (20 : Int32)) = 0 then N else (if (nI (N 1)) = (4 : Int32) then N else (nu N 1 (N 1 + 1))))
set_option maxHeartbeats 4000000 in
set_option maxRecDepth 100000 in
theorem c_X8_combine (l : Launch) (G : GG) (M : HM) (tx ma h0 fa lb t t2 : Nat) (Z : LZ) (N : Nat → Nat) (U : Tb) (now th pr mo : Int32) (F Lx : Row) (p0 p1 : Int32) (hO : XdR G M tx ma h0 fa lb th pr mo F Lx) (hL : MdR G M t h0 Z N U now) (d1 : tx ≠ t) (d2 : tx ≠ t2) (d3 : t ≠ t2)   : Mi l yX8_combine (.code yX8_combine cX8_combine 4 (some .int) :: AL) 2 68 1 11 [.ref ma, .int p0, .int p1] G M (fun r M' => r = (q_X8_combine N U now th pr mo F Lx p0 p1) ∧ XP G M M' tx ma h0 fa lb t t2 (n_X8_combine N U now th pr mo F Lx p0 p1) (u_X8_combine N U now th pr mo F Lx p0 p1) now (th_X8_combine N U now th pr mo F Lx p0 p1) pr mo F Lx) := by
  refine Mi.go (by decide) (Nat.le_of_ble_eq_true rfl) ?_
  intro p e s m below meth c ls hx hb hr hml hown hlocks hname hts hK hM hl
  have hown : s.vm.findClass RX8 = some m.cls := hown
  have hl : lv_has ls 4 [(0, .ref ma), (1, .int p0), (2, .int p1)] := hl
  have hn0 := hL.cnt (k := 0) (by decide)
  have hn09 : N 0 ≤ 8 := by have : N 0 ≤ 8 := hn0; omega
  have hn1 := hL.cnt (k := 1) (by decide)
  have hn19 : N 1 ≤ 8 := by have : N 1 ≤ 4 := hn1; omega
  have hn2 := hL.cnt (k := 2) (by decide)
  have hn29 : N 2 ≤ 8 := by have : N 2 ≤ 4 := hn2; omega
  have hn3 := hL.cnt (k := 3) (by decide)
  have hn39 : N 3 ≤ 8 := by have : N 3 ≤ 3 := hn3; omega
  refine lv_aload_n hx hb dX8_combine_0 rfl (lv_at hl 0 rfl) ?_
  refine lv_iconst (v := (0 : Int32)) hx hb dX8_combine_1 (by decide) ?_
  refine fp_X8_30 hx hb hts hown hK hM hO.1 dX8_combine_2 (fun H locs hM => ?_)
  obtain ⟨M1, eM1⟩ : ∃ z, z = hu M ma tx (.inr (9, [.int (0 : Int32), .ref h0, .ref fa, .ref lb, .int pr, .int mo])) := ⟨_, rfl⟩
  replace hM : Wd G M1 s H locs := hM.eq eM1.symm
  have hO1 : XdR G M1 tx ma h0 fa lb (0 : Int32) pr mo F Lx := by rw [eM1]; exact hO.setO (0 : Int32) pr mo
  have hL1 : MdR G M1 t h0 Z N U now := by rw [eM1]; exact hL.frame (Ne.symm d1) (Fr.up hO.1)
  have hF1 : F3 tx t t2 M M1 := by rw [eM1]; exact F3.tr (F3.rf) (F3.up hO.1 (Or.inr (Or.inl rfl)))
  refine lv_iload_n hx hb dX8_combine_5 rfl (lv_at hl 1 rfl) ?_
  refine g_callSi (n9 := 1) (As := [.int p0]) (rest := []) hx hb hml hl.1 hown hts hK hM (c_X8_isMile l G _ p0 ) wm_X8_53 wt_X8_isMile wn_X8 wc_X8_isMile (by decide +kernel) ⟨Nat.le_of_ble_eq_true rfl, Nat.le_of_ble_eq_true rfl⟩ ⟨Nat.le_of_ble_eq_true rfl, Nat.le_of_ble_eq_true rfl⟩ rfl (Nat.le_of_ble_eq_true rfl) rfl dX8_combine_6 (fun r_6 M1 H locs hq hM => ?_)
  have hq1 := hq.1.symm
  have hq2 := hq.2.symm
  subst hq1 hq2
  refine lv_if_eq (tgt := 22) hx hb dX8_combine_9 (by decide) (fun c1 => ?_) (fun c1 => ?_)
  · refine lv_aload_n hx hb dX8_combine_22 rfl (lv_at hl 0 rfl) ?_
    refine lv_iconst (v := (1 : Int32)) hx hb dX8_combine_23 (by decide) ?_
    refine g_callVi (n9 := 1) (As := [.int (1 : Int32)]) (rest := []) hx hb hml hl.1 hown hts hK hM (c_X8_no l G _ ma tx (0 : Int32) pr mo h0 fa lb (1 : Int32) hO1.1) wm_X8_49 wi_X8_no wl_X8_no wn_X8 wc_X8_no (by decide +kernel) (hM.recv hK (ci := 9) rfl hO1.1) ⟨Nat.le_of_ble_eq_true rfl, Nat.le_of_ble_eq_true rfl⟩ ⟨Nat.le_of_ble_eq_true rfl, Nat.le_of_ble_eq_true rfl⟩ rfl (Nat.le_of_ble_eq_true rfl) rfl dX8_combine_24 (fun r_24 M9 H locs hq hM => ?_)
    obtain ⟨er, eM9⟩ := hq
    subst er
    replace hM := hM.eq eM9
    obtain ⟨M2, eM2⟩ : ∃ z, z = hu M1 ma tx (.inr (9, [.int (1 : Int32), .ref h0, .ref fa, .ref lb, .int pr, .int mo])) := ⟨_, rfl⟩
    replace hM : Wd G M2 s H locs := hM.eq eM2.symm
    have hO2 : XdR G M2 tx ma h0 fa lb (1 : Int32) pr mo F Lx := by rw [eM2]; exact hO1.setO (1 : Int32) pr mo
    have hL2 : MdR G M2 t h0 Z N U now := by rw [eM2]; exact hL1.frame (Ne.symm d1) (Fr.up hO1.1)
    have hF2 : F3 tx t t2 M M2 := by rw [eM2]; exact F3.tr hF1 (F3.up hO1.1 (Or.inr (Or.inl rfl)))
    exact g_iret hx hb hr hlocks hM (Nat.le_of_ble_eq_true rfl) (Nat.le_of_ble_eq_true rfl) ⟨(by unfold q_X8_combine; rw [if_pos c1]), (by rw [show th_X8_combine N U now th pr mo F Lx p0 p1 = (1 : Int32) from by unfold th_X8_combine; rw [if_pos c1]]; rw [show u_X8_combine N U now th pr mo F Lx p0 p1 = U from by unfold u_X8_combine; rw [if_pos c1]]; rw [show n_X8_combine N U now th pr mo F Lx p0 p1 = N from by unfold n_X8_combine; rw [if_pos c1]]; exact ⟨hO2, ⟨Z, hL2⟩, hF2⟩)⟩ dX8_combine_27
  · refine lv_iload_n hx hb dX8_combine_12 rfl (lv_at hl 2 rfl) ?_
    refine lv_iconst (v := (1 : Int32)) hx hb dX8_combine_13 (by decide) ?_
    refine lv_bipush (v := (20 : Int32)) hx hb dX8_combine_14 (by decide) ?_
    refine g_callSi (n9 := 3) (As := [.int p1, .int (1 : Int32), .int (20 : Int32)]) (rest := []) hx hb hml hl.1 hown hts hK hM (c_X8_in l G _ p1 (1 : Int32) (20 : Int32) ) wm_X8_36 wt_X8_in wn_X8 wc_X8_in (by decide +kernel) ⟨Nat.le_of_ble_eq_true rfl, Nat.le_of_ble_eq_true rfl⟩ ⟨Nat.le_of_ble_eq_true rfl, Nat.le_of_ble_eq_true rfl⟩ rfl (Nat.le_of_ble_eq_true rfl) rfl dX8_combine_16 (fun r_16 M1 H locs hq hM => ?_)
    have hq1 := hq.1.symm
    have hq2 := hq.2.symm
    subst hq1 hq2
    refine lv_if_ne (tgt := 28) hx hb dX8_combine_19 (by decide) (fun c2 => ?_) (fun c2 => ?_)
    · refine lv_aload_n hx hb dX8_combine_28 rfl (lv_at hl 0 rfl) ?_
      refine fg_X8_10 hx hb hts hown hK hM hO1.1 dX8_combine_29 ?_
      refine fg_X8_40 hx hb hts hown hK hM hL1.1 dX8_combine_32 ?_
      refine lv_iconst (v := (4 : Int32)) hx hb dX8_combine_35 (by decide) ?_
      refine lv_icmp_ne (tgt := 45) hx hb dX8_combine_36 (by decide) (fun c3 => ?_) (fun c3 => ?_)
      · refine lv_bipush (v := (11 : Int32)) hx hb dX8_combine_45 (by decide) ?_
        refine g_newI hx hb hK hM hts 11 (by decide) (by decide) (by decide) t2 (Nat.le_of_ble_eq_true rfl) (Nat.le_of_ble_eq_true rfl) dX8_combine_47 (fun q0 H hq0 hM => ?_)
        rw [rw11_0] at hM
        refine lv_dup hx hb dX8_combine_49 rfl ?_
        refine lv_iconst (v := (0 : Int32)) hx hb dX8_combine_50 (by decide) ?_
        refine lv_iload_n hx hb dX8_combine_51 rfl (lv_at hl 2 rfl) ?_
        refine is11_0 hx hb hK hM hu_s dX8_combine_52 (fun H locs hM => ?_)
        replace hM := hM.eq (hu_u _ _ _ _ _ _)
        refine lv_dup hx hb dX8_combine_53 rfl ?_
        refine lv_iconst (v := (1 : Int32)) hx hb dX8_combine_54 (by decide) ?_
        refine lv_iload_n hx hb dX8_combine_55 rfl (lv_at hl 1 rfl) ?_
        refine is11_1 hx hb hK hM hu_s dX8_combine_56 (fun H locs hM => ?_)
        replace hM := hM.eq (hu_u _ _ _ _ _ _)
        refine lv_dup hx hb dX8_combine_57 rfl ?_
        refine lv_iconst (v := (2 : Int32)) hx hb dX8_combine_58 (by decide) ?_
        refine lv_iconst (v := (0 : Int32)) hx hb dX8_combine_59 (by decide) ?_
        refine is11_2 hx hb hK hM hu_s dX8_combine_60 (fun H locs hM => ?_)
        replace hM := hM.eq (hu_u _ _ _ _ _ _)
        refine lv_dup hx hb dX8_combine_61 rfl ?_
        refine lv_iconst (v := (3 : Int32)) hx hb dX8_combine_62 (by decide) ?_
        refine lv_iconst (v := (-1 : Int32)) hx hb dX8_combine_63 (by decide) ?_
        refine is11_3 hx hb hK hM hu_s dX8_combine_64 (fun H locs hM => ?_)
        replace hM := hM.eq (hu_u _ _ _ _ _ _)
        refine lv_dup hx hb dX8_combine_65 rfl ?_
        refine lv_iconst (v := (4 : Int32)) hx hb dX8_combine_66 (by decide) ?_
        refine lv_iconst (v := (0 : Int32)) hx hb dX8_combine_67 (by decide) ?_
        refine is11_4 hx hb hK hM hu_s dX8_combine_68 (fun H locs hM => ?_)
        replace hM := hM.eq (hu_u _ _ _ _ _ _)
        refine lv_dup hx hb dX8_combine_69 rfl ?_
        refine lv_iconst (v := (5 : Int32)) hx hb dX8_combine_70 (by decide) ?_
        refine lv_iconst (v := (0 : Int32)) hx hb dX8_combine_71 (by decide) ?_
        refine is11_5 hx hb hK hM hu_s dX8_combine_72 (fun H locs hM => ?_)
        replace hM := hM.eq (hu_u _ _ _ _ _ _)
        refine lv_dup hx hb dX8_combine_73 rfl ?_
        refine lv_bipush (v := (6 : Int32)) hx hb dX8_combine_74 (by decide) ?_
        refine lv_iconst (v := (0 : Int32)) hx hb dX8_combine_76 (by decide) ?_
        refine is11_6 hx hb hK hM hu_s dX8_combine_77 (fun H locs hM => ?_)
        replace hM := hM.eq (hu_u _ _ _ _ _ _)
        refine lv_dup hx hb dX8_combine_78 rfl ?_
        refine lv_bipush (v := (7 : Int32)) hx hb dX8_combine_79 (by decide) ?_
        refine lv_iconst (v := (-1 : Int32)) hx hb dX8_combine_81 (by decide) ?_
        refine is11_7 hx hb hK hM hu_s dX8_combine_82 (fun H locs hM => ?_)
        replace hM := hM.eq (hu_u _ _ _ _ _ _)
        refine lv_dup hx hb dX8_combine_83 rfl ?_
        refine lv_bipush (v := (8 : Int32)) hx hb dX8_combine_84 (by decide) ?_
        refine lv_iconst (v := (0 : Int32)) hx hb dX8_combine_86 (by decide) ?_
        refine is11_8 hx hb hK hM hu_s dX8_combine_87 (fun H locs hM => ?_)
        replace hM := hM.eq (hu_u _ _ _ _ _ _)
        refine lv_dup hx hb dX8_combine_88 rfl ?_
        refine lv_bipush (v := (9 : Int32)) hx hb dX8_combine_89 (by decide) ?_
        refine lv_iconst (v := (0 : Int32)) hx hb dX8_combine_91 (by decide) ?_
        refine is11_9 hx hb hK hM hu_s dX8_combine_92 (fun H locs hM => ?_)
        replace hM := hM.eq (hu_u _ _ _ _ _ _)
        refine lv_dup hx hb dX8_combine_93 rfl ?_
        refine lv_bipush (v := (10 : Int32)) hx hb dX8_combine_94 (by decide) ?_
        refine lv_iconst (v := (0 : Int32)) hx hb dX8_combine_96 (by decide) ?_
        refine is11_10 hx hb hK hM hu_s dX8_combine_97 (fun H locs hM => ?_)
        replace hM := hM.eq (hu_u _ _ _ _ _ _)
        refine lv_astore_n (lv' := [(3, .ref q0), (0, .ref ma), (1, .int p0), (2, .int p1)]) hx hb dX8_combine_98 rfl hl (by decide) rfl (fun ls hl => ?_)
        refine lv_aload_n hx hb dX8_combine_99 rfl (lv_at hl 0 rfl) ?_
        refine lv_iconst (v := (0 : Int32)) hx hb dX8_combine_100 (by decide) ?_
        refine lv_aload_n hx hb dX8_combine_101 rfl (lv_at hl 1 rfl) ?_
        refine fg_X8_10 hx hb hts hown hK hM (hu_n (hu_ne hO1.1 hq0 (by simp)) hO1.1) dX8_combine_102 ?_
        refine fg_X8_70 hx hb hts hown hK hM (hu_n (hu_ne hL1.1 hq0 (by simp)) hL1.1) dX8_combine_105 ?_
        refine lv_aload_n hx hb dX8_combine_108 rfl (lv_at hl 1 rfl) ?_
        refine fg_X8_10 hx hb hts hown hK hM (hu_n (hu_ne hO1.1 hq0 (by simp)) hO1.1) dX8_combine_109 ?_
        refine fg_X8_40 hx hb hts hown hK hM (hu_n (hu_ne hL1.1 hq0 (by simp)) hL1.1) dX8_combine_112 ?_
        obtain ⟨M2, eM2⟩ : ∃ z, z = hu M1 q0 t2 (.inl (G.2.1 0, 11, .inl (rw11 p1 p0 (0 : Int32) (-1 : Int32) (0 : Int32) (0 : Int32) (0 : Int32) (-1 : Int32) (0 : Int32) (0 : Int32) (0 : Int32)))) := ⟨_, rfl⟩
        rw [← eM2] at hM
        have hO2 : XdR G M2 tx ma h0 fa lb (0 : Int32) pr mo F Lx := by rw [eM2]; exact hO1.new hq0
        have hL2 : MdR G M2 t h0 Z N U now := by rw [eM2]; exact hL1.new hq0
        have hF2 : F3 tx t t2 M M2 := by rw [eM2]; exact F3.tr hF1 (F3.new hq0)
        have hr2_0 : M2 q0 = some (t2, (.inl (G.2.1 0, 11, .inl (rw11 p1 p0 (0 : Int32) (-1 : Int32) (0 : Int32) (0 : Int32) (0 : Int32) (-1 : Int32) (0 : Int32) (0 : Int32) (0 : Int32))))) := by rw [eM2]; exact hu_s
        have hlt1 : N 1 < 4 := nI_lt_of_ne hn1 (by decide) c3
        refine g_aaldN hx hb hK hM (hL2.outer (k := 1) (by decide)) hlt1 (by show 4 < 1000; decide) dX8_combine_115 ?_
        refine lv_iconst (v := (0 : Int32)) hx hb dX8_combine_116 (by decide) ?_
        refine lv_bipush (v := (11 : Int32)) hx hb dX8_combine_117 (by decide) ?_
        refine g_copyR hx hb (hml.trans hl.1.symm) hts hown hK hM wm_X8_61 1 (by decide) (f := (rw11 p1 p0 (0 : Int32) (-1 : Int32) (0 : Int32) (0 : Int32) (0 : Int32) (-1 : Int32) (0 : Int32) (0 : Int32) (0 : Int32))) (g := rw11 (U 1 (N 1) 0) (U 1 (N 1) 1) (U 1 (N 1) 2) (U 1 (N 1) 3) (U 1 (N 1) 4) (U 1 (N 1) 5) (U 1 (N 1) 6) (U 1 (N 1) 7) (U 1 (N 1) 8) (U 1 (N 1) 9) (U 1 (N 1) 10)) hr2_0 (hL2.row (k := 1) (by decide) hlt1) (by decide) (by decide) (Nat.le_of_ble_eq_true rfl) (Nat.le_of_ble_eq_true rfl) dX8_combine_119 (fun H locs hM => ?_)
        replace hM : Wd G (hu M2 (Z.2.1 1 (N 1)) t (.inl (G.2.1 0, 11, .inl (rw11 p1 p0 (0 : Int32) (-1 : Int32) (0 : Int32) (0 : Int32) (0 : Int32) (-1 : Int32) (0 : Int32) (0 : Int32) (0 : Int32))))) s H locs := hM
        refine lv_aload_n hx hb dX8_combine_122 rfl (lv_at hl 1 rfl) ?_
        refine fg_X8_10 hx hb hts hown hK hM (hu_n (hu_ne hO2.1 (hL2.row (k := 1) (by decide) hlt1) (rg_ne d1)) hO2.1) dX8_combine_123 ?_
        refine lv_dup hx hb dX8_combine_126 rfl ?_
        refine fg_X8_40 hx hb hts hown hK hM (hu_n (hu_ne hL2.1 (hL2.row (k := 1) (by decide) hlt1) eR_ne) hL2.1) dX8_combine_127 ?_
        refine lv_dup_x1 hx hb dX8_combine_130 rfl rfl ?_
        refine lv_iconst (v := (1 : Int32)) hx hb dX8_combine_131 (by decide) ?_
        refine lv_iadd hx hb dX8_combine_132 ?_
        obtain ⟨M3, eM3⟩ : ∃ z, z = hu M2 (Z.2.1 1 (N 1)) t (.inl (G.2.1 0, 11, .inl (rw11 p1 p0 (0 : Int32) (-1 : Int32) (0 : Int32) (0 : Int32) (0 : Int32) (-1 : Int32) (0 : Int32) (0 : Int32) (0 : Int32)))) := ⟨_, rfl⟩
        rw [← eM3] at hM
        have hO3 : XdR G M3 tx ma h0 fa lb (0 : Int32) pr mo F Lx := by rw [eM3]; exact hO2.frame d1 (Fr.up (hL2.row (k := 1) (by decide) hlt1))
        have hL3 : MdR G M3 t h0 Z N (tu U 1 (N 1) (rw11 p1 p0 (0 : Int32) (-1 : Int32) (0 : Int32) (0 : Int32) (0 : Int32) (-1 : Int32) (0 : Int32) (0 : Int32) (0 : Int32))) now := by rw [eM3]; exact hL2.setRow (k := 1) (by decide) hlt1 (rw11 p1 p0 (0 : Int32) (-1 : Int32) (0 : Int32) (0 : Int32) (0 : Int32) (-1 : Int32) (0 : Int32) (0 : Int32) (0 : Int32))
        have hF3 : F3 tx t t2 M M3 := by rw [eM3]; exact F3.tr hF2 (F3.up (hL2.row (k := 1) (by decide) hlt1) (Or.inl rfl))
        have hr3_0 : M3 q0 = some (t2, (.inl (G.2.1 0, 11, .inl (rw11 p1 p0 (0 : Int32) (-1 : Int32) (0 : Int32) (0 : Int32) (0 : Int32) (-1 : Int32) (0 : Int32) (0 : Int32) (0 : Int32))))) := by rw [eM3]; exact hu_n (hu_ne hr2_0 (hL2.row (k := 1) (by decide) hlt1) (rg_ne (Ne.symm d3))) hr2_0
        have hr3_1 : M3 (Z.2.1 1 (N 1)) = some (t, (.inl (G.2.1 0, 11, .inl (rw11 p1 p0 (0 : Int32) (-1 : Int32) (0 : Int32) (0 : Int32) (0 : Int32) (-1 : Int32) (0 : Int32) (0 : Int32) (0 : Int32))))) := by rw [eM3]; exact hu_s
        refine fp_X8_40 hx hb hts hown hK hM hL3.1 dX8_combine_133 (fun H locs hM => ?_)
        obtain ⟨M4, eM4⟩ : ∃ z, z = hu M3 h0 t (mdE Z (nu N 1 (N 1 + 1)) now) := ⟨_, rfl⟩
        replace hM : Wd G M4 s H locs := hM.eq (by rw [eM4, nI_1 (N 1)]; rfl)
        have hO4 : XdR G M4 tx ma h0 fa lb (0 : Int32) pr mo F Lx := by rw [eM4]; exact hO3.frame d1 (Fr.up hL3.1)
        have hL4 : MdR G M4 t h0 Z (nu N 1 (N 1 + 1)) (tu U 1 (N 1) (rw11 p1 p0 (0 : Int32) (-1 : Int32) (0 : Int32) (0 : Int32) (0 : Int32) (-1 : Int32) (0 : Int32) (0 : Int32) (0 : Int32))) now := by rw [eM4]; exact hL3.setLand (nu N 1 (N 1 + 1)) _ (nu_n (by decide)) (fun k hk => cnt_up (fun j hj => hL3.cnt hj) hlt1 k hk)
        have hF4 : F3 tx t t2 M M4 := by rw [eM4]; exact F3.tr hF3 (F3.up hL3.1 (Or.inl rfl))
        exact g_iret hx hb hr hlocks hM (Nat.le_of_ble_eq_true rfl) (Nat.le_of_ble_eq_true rfl) ⟨(by unfold q_X8_combine; rw [if_neg c1, if_neg c2, if_neg c3]), (by rw [show th_X8_combine N U now th pr mo F Lx p0 p1 = (0 : Int32) from by unfold th_X8_combine; rw [if_neg c1, if_neg c2, if_neg c3]]; rw [show u_X8_combine N U now th pr mo F Lx p0 p1 = (tu U 1 (N 1) (rw11 p1 p0 (0 : Int32) (-1 : Int32) (0 : Int32) (0 : Int32) (0 : Int32) (-1 : Int32) (0 : Int32) (0 : Int32) (0 : Int32))) from by unfold u_X8_combine; rw [if_neg c1, if_neg c2, if_neg c3]]; rw [show n_X8_combine N U now th pr mo F Lx p0 p1 = (nu N 1 (N 1 + 1)) from by unfold n_X8_combine; rw [if_neg c1, if_neg c2, if_neg c3]]; exact ⟨hO4, ⟨Z, hL4⟩, hF4⟩)⟩ dX8_combine_136
      · refine lv_aload_n hx hb dX8_combine_39 rfl (lv_at hl 0 rfl) ?_
        refine lv_iconst (v := (2 : Int32)) hx hb dX8_combine_40 (by decide) ?_
        refine g_callVi (n9 := 1) (As := [.int (2 : Int32)]) (rest := []) hx hb hml hl.1 hown hts hK hM (c_X8_no l G _ ma tx (0 : Int32) pr mo h0 fa lb (2 : Int32) hO1.1) wm_X8_49 wi_X8_no wl_X8_no wn_X8 wc_X8_no (by decide +kernel) (hM.recv hK (ci := 9) rfl hO1.1) ⟨Nat.le_of_ble_eq_true rfl, Nat.le_of_ble_eq_true rfl⟩ ⟨Nat.le_of_ble_eq_true rfl, Nat.le_of_ble_eq_true rfl⟩ rfl (Nat.le_of_ble_eq_true rfl) rfl dX8_combine_41 (fun r_41 M9 H locs hq hM => ?_)
        obtain ⟨er, eM9⟩ := hq
        subst er
        replace hM := hM.eq eM9
        obtain ⟨M2, eM2⟩ : ∃ z, z = hu M1 ma tx (.inr (9, [.int (2 : Int32), .ref h0, .ref fa, .ref lb, .int pr, .int mo])) := ⟨_, rfl⟩
        replace hM : Wd G M2 s H locs := hM.eq eM2.symm
        have hO2 : XdR G M2 tx ma h0 fa lb (2 : Int32) pr mo F Lx := by rw [eM2]; exact hO1.setO (2 : Int32) pr mo
        have hL2 : MdR G M2 t h0 Z N U now := by rw [eM2]; exact hL1.frame (Ne.symm d1) (Fr.up hO1.1)
        have hF2 : F3 tx t t2 M M2 := by rw [eM2]; exact F3.tr hF1 (F3.up hO1.1 (Or.inr (Or.inl rfl)))
        exact g_iret hx hb hr hlocks hM (Nat.le_of_ble_eq_true rfl) (Nat.le_of_ble_eq_true rfl) ⟨(by unfold q_X8_combine; rw [if_neg c1, if_neg c2, if_pos c3]), (by rw [show th_X8_combine N U now th pr mo F Lx p0 p1 = (2 : Int32) from by unfold th_X8_combine; rw [if_neg c1, if_neg c2, if_pos c3]]; rw [show u_X8_combine N U now th pr mo F Lx p0 p1 = U from by unfold u_X8_combine; rw [if_neg c1, if_neg c2, if_pos c3]]; rw [show n_X8_combine N U now th pr mo F Lx p0 p1 = N from by unfold n_X8_combine; rw [if_neg c1, if_neg c2, if_pos c3]]; exact ⟨hO2, ⟨Z, hL2⟩, hF2⟩)⟩ dX8_combine_44
    · refine lv_aload_n hx hb dX8_combine_22 rfl (lv_at hl 0 rfl) ?_
      refine lv_iconst (v := (1 : Int32)) hx hb dX8_combine_23 (by decide) ?_
      refine g_callVi (n9 := 1) (As := [.int (1 : Int32)]) (rest := []) hx hb hml hl.1 hown hts hK hM (c_X8_no l G _ ma tx (0 : Int32) pr mo h0 fa lb (1 : Int32) hO1.1) wm_X8_49 wi_X8_no wl_X8_no wn_X8 wc_X8_no (by decide +kernel) (hM.recv hK (ci := 9) rfl hO1.1) ⟨Nat.le_of_ble_eq_true rfl, Nat.le_of_ble_eq_true rfl⟩ ⟨Nat.le_of_ble_eq_true rfl, Nat.le_of_ble_eq_true rfl⟩ rfl (Nat.le_of_ble_eq_true rfl) rfl dX8_combine_24 (fun r_24 M9 H locs hq hM => ?_)
      obtain ⟨er, eM9⟩ := hq
      subst er
      replace hM := hM.eq eM9
      obtain ⟨M2, eM2⟩ : ∃ z, z = hu M1 ma tx (.inr (9, [.int (1 : Int32), .ref h0, .ref fa, .ref lb, .int pr, .int mo])) := ⟨_, rfl⟩
      replace hM : Wd G M2 s H locs := hM.eq eM2.symm
      have hO2 : XdR G M2 tx ma h0 fa lb (1 : Int32) pr mo F Lx := by rw [eM2]; exact hO1.setO (1 : Int32) pr mo
      have hL2 : MdR G M2 t h0 Z N U now := by rw [eM2]; exact hL1.frame (Ne.symm d1) (Fr.up hO1.1)
      have hF2 : F3 tx t t2 M M2 := by rw [eM2]; exact F3.tr hF1 (F3.up hO1.1 (Or.inr (Or.inl rfl)))
      exact g_iret hx hb hr hlocks hM (Nat.le_of_ble_eq_true rfl) (Nat.le_of_ble_eq_true rfl) ⟨(by unfold q_X8_combine; rw [if_neg c1, if_pos c2]), (by rw [show th_X8_combine N U now th pr mo F Lx p0 p1 = (1 : Int32) from by unfold th_X8_combine; rw [if_neg c1, if_pos c2]]; rw [show u_X8_combine N U now th pr mo F Lx p0 p1 = U from by unfold u_X8_combine; rw [if_neg c1, if_pos c2]]; rw [show n_X8_combine N U now th pr mo F Lx p0 p1 = N from by unfold n_X8_combine; rw [if_neg c1, if_pos c2]]; exact ⟨hO2, ⟨Z, hL2⟩, hF2⟩)⟩ dX8_combine_27
def q_X8_truck (N : Nat → Nat) (U : Tb) (now th pr mo : Int32) (F Lx : Row) (p0 : Int32) : Int32 := if (t_X8_isMile_0 p0) = 0 then t_X8_no_0 else (if (nI (N 2)) = (4 : Int32) then t_X8_no_0 else (nI (N 2)))
def th_X8_truck (N : Nat → Nat) (U : Tb) (now th pr mo : Int32) (F Lx : Row) (p0 : Int32) : Int32 := if (t_X8_isMile_0 p0) = 0 then (1 : Int32) else (if (nI (N 2)) = (4 : Int32) then (2 : Int32) else (0 : Int32))
def u_X8_truck (N : Nat → Nat) (U : Tb) (now th pr mo : Int32) (F Lx : Row) (p0 : Int32) : Tb := if (t_X8_isMile_0 p0) = 0 then U else (if (nI (N 2)) = (4 : Int32) then U else (tu U 2 (N 2) (rw10 (0 : Int32) p0 (0 : Int32) (-1 : Int32) (0 : Int32) (0 : Int32) (0 : Int32) (-1 : Int32) (0 : Int32) (0 : Int32))))
def n_X8_truck (N : Nat → Nat) (U : Tb) (now th pr mo : Int32) (F Lx : Row) (p0 : Int32) : Nat → Nat := if (t_X8_isMile_0 p0) = 0 then N else (if (nI (N 2)) = (4 : Int32) then N else (nu N 2 (N 2 + 1)))
set_option maxHeartbeats 4000000 in
set_option maxRecDepth 100000 in
theorem c_X8_truck (l : Launch) (G : GG) (M : HM) (tx ma h0 fa lb t t2 : Nat) (Z : LZ) (N : Nat → Nat) (U : Tb) (now th pr mo : Int32) (F Lx : Row) (p0 : Int32) (hO : XdR G M tx ma h0 fa lb th pr mo F Lx) (hL : MdR G M t h0 Z N U now) (d1 : tx ≠ t) (d2 : tx ≠ t2) (d3 : t ≠ t2)   : Mi l yX8_truck (.code yX8_truck cX8_truck 3 (some .int) :: AL) 2 68 1 10 [.ref ma, .int p0] G M (fun r M' => r = (q_X8_truck N U now th pr mo F Lx p0) ∧ XP G M M' tx ma h0 fa lb t t2 (n_X8_truck N U now th pr mo F Lx p0) (u_X8_truck N U now th pr mo F Lx p0) now (th_X8_truck N U now th pr mo F Lx p0) pr mo F Lx) := by
  refine Mi.go (by decide) (Nat.le_of_ble_eq_true rfl) ?_
  intro p e s m below meth c ls hx hb hr hml hown hlocks hname hts hK hM hl
  have hown : s.vm.findClass RX8 = some m.cls := hown
  have hl : lv_has ls 3 [(0, .ref ma), (1, .int p0)] := hl
  have hn0 := hL.cnt (k := 0) (by decide)
  have hn09 : N 0 ≤ 8 := by have : N 0 ≤ 8 := hn0; omega
  have hn1 := hL.cnt (k := 1) (by decide)
  have hn19 : N 1 ≤ 8 := by have : N 1 ≤ 4 := hn1; omega
  have hn2 := hL.cnt (k := 2) (by decide)
  have hn29 : N 2 ≤ 8 := by have : N 2 ≤ 4 := hn2; omega
  have hn3 := hL.cnt (k := 3) (by decide)
  have hn39 : N 3 ≤ 8 := by have : N 3 ≤ 3 := hn3; omega
  refine lv_aload_n hx hb dX8_truck_0 rfl (lv_at hl 0 rfl) ?_
  refine lv_iconst (v := (0 : Int32)) hx hb dX8_truck_1 (by decide) ?_
  refine fp_X8_30 hx hb hts hown hK hM hO.1 dX8_truck_2 (fun H locs hM => ?_)
  obtain ⟨M1, eM1⟩ : ∃ z, z = hu M ma tx (.inr (9, [.int (0 : Int32), .ref h0, .ref fa, .ref lb, .int pr, .int mo])) := ⟨_, rfl⟩
  replace hM : Wd G M1 s H locs := hM.eq eM1.symm
  have hO1 : XdR G M1 tx ma h0 fa lb (0 : Int32) pr mo F Lx := by rw [eM1]; exact hO.setO (0 : Int32) pr mo
  have hL1 : MdR G M1 t h0 Z N U now := by rw [eM1]; exact hL.frame (Ne.symm d1) (Fr.up hO.1)
  have hF1 : F3 tx t t2 M M1 := by rw [eM1]; exact F3.tr (F3.rf) (F3.up hO.1 (Or.inr (Or.inl rfl)))
  refine lv_iload_n hx hb dX8_truck_5 rfl (lv_at hl 1 rfl) ?_
  refine g_callSi (n9 := 1) (As := [.int p0]) (rest := []) hx hb hml hl.1 hown hts hK hM (c_X8_isMile l G _ p0 ) wm_X8_53 wt_X8_isMile wn_X8 wc_X8_isMile (by decide +kernel) ⟨Nat.le_of_ble_eq_true rfl, Nat.le_of_ble_eq_true rfl⟩ ⟨Nat.le_of_ble_eq_true rfl, Nat.le_of_ble_eq_true rfl⟩ rfl (Nat.le_of_ble_eq_true rfl) rfl dX8_truck_6 (fun r_6 M1 H locs hq hM => ?_)
  have hq1 := hq.1.symm
  have hq2 := hq.2.symm
  subst hq1 hq2
  refine lv_if_ne (tgt := 18) hx hb dX8_truck_9 (by decide) (fun c1 => ?_) (fun c1 => ?_)
  · refine lv_aload_n hx hb dX8_truck_18 rfl (lv_at hl 0 rfl) ?_
    refine fg_X8_10 hx hb hts hown hK hM hO1.1 dX8_truck_19 ?_
    refine fg_X8_43 hx hb hts hown hK hM hL1.1 dX8_truck_22 ?_
    refine lv_iconst (v := (4 : Int32)) hx hb dX8_truck_25 (by decide) ?_
    refine lv_icmp_ne (tgt := 35) hx hb dX8_truck_26 (by decide) (fun c2 => ?_) (fun c2 => ?_)
    · refine lv_bipush (v := (10 : Int32)) hx hb dX8_truck_35 (by decide) ?_
      refine g_newI hx hb hK hM hts 10 (by decide) (by decide) (by decide) t2 (Nat.le_of_ble_eq_true rfl) (Nat.le_of_ble_eq_true rfl) dX8_truck_37 (fun q0 H hq0 hM => ?_)
      rw [rw10_0] at hM
      refine lv_dup hx hb dX8_truck_39 rfl ?_
      refine lv_iconst (v := (0 : Int32)) hx hb dX8_truck_40 (by decide) ?_
      refine lv_iconst (v := (0 : Int32)) hx hb dX8_truck_41 (by decide) ?_
      refine is10_0 hx hb hK hM hu_s dX8_truck_42 (fun H locs hM => ?_)
      replace hM := hM.eq (hu_u _ _ _ _ _ _)
      refine lv_dup hx hb dX8_truck_43 rfl ?_
      refine lv_iconst (v := (1 : Int32)) hx hb dX8_truck_44 (by decide) ?_
      refine lv_iload_n hx hb dX8_truck_45 rfl (lv_at hl 1 rfl) ?_
      refine is10_1 hx hb hK hM hu_s dX8_truck_46 (fun H locs hM => ?_)
      replace hM := hM.eq (hu_u _ _ _ _ _ _)
      refine lv_dup hx hb dX8_truck_47 rfl ?_
      refine lv_iconst (v := (2 : Int32)) hx hb dX8_truck_48 (by decide) ?_
      refine lv_iconst (v := (0 : Int32)) hx hb dX8_truck_49 (by decide) ?_
      refine is10_2 hx hb hK hM hu_s dX8_truck_50 (fun H locs hM => ?_)
      replace hM := hM.eq (hu_u _ _ _ _ _ _)
      refine lv_dup hx hb dX8_truck_51 rfl ?_
      refine lv_iconst (v := (3 : Int32)) hx hb dX8_truck_52 (by decide) ?_
      refine lv_iconst (v := (-1 : Int32)) hx hb dX8_truck_53 (by decide) ?_
      refine is10_3 hx hb hK hM hu_s dX8_truck_54 (fun H locs hM => ?_)
      replace hM := hM.eq (hu_u _ _ _ _ _ _)
      refine lv_dup hx hb dX8_truck_55 rfl ?_
      refine lv_iconst (v := (4 : Int32)) hx hb dX8_truck_56 (by decide) ?_
      refine lv_iconst (v := (0 : Int32)) hx hb dX8_truck_57 (by decide) ?_
      refine is10_4 hx hb hK hM hu_s dX8_truck_58 (fun H locs hM => ?_)
      replace hM := hM.eq (hu_u _ _ _ _ _ _)
      refine lv_dup hx hb dX8_truck_59 rfl ?_
      refine lv_iconst (v := (5 : Int32)) hx hb dX8_truck_60 (by decide) ?_
      refine lv_iconst (v := (0 : Int32)) hx hb dX8_truck_61 (by decide) ?_
      refine is10_5 hx hb hK hM hu_s dX8_truck_62 (fun H locs hM => ?_)
      replace hM := hM.eq (hu_u _ _ _ _ _ _)
      refine lv_dup hx hb dX8_truck_63 rfl ?_
      refine lv_bipush (v := (6 : Int32)) hx hb dX8_truck_64 (by decide) ?_
      refine lv_iconst (v := (0 : Int32)) hx hb dX8_truck_66 (by decide) ?_
      refine is10_6 hx hb hK hM hu_s dX8_truck_67 (fun H locs hM => ?_)
      replace hM := hM.eq (hu_u _ _ _ _ _ _)
      refine lv_dup hx hb dX8_truck_68 rfl ?_
      refine lv_bipush (v := (7 : Int32)) hx hb dX8_truck_69 (by decide) ?_
      refine lv_iconst (v := (-1 : Int32)) hx hb dX8_truck_71 (by decide) ?_
      refine is10_7 hx hb hK hM hu_s dX8_truck_72 (fun H locs hM => ?_)
      replace hM := hM.eq (hu_u _ _ _ _ _ _)
      refine lv_dup hx hb dX8_truck_73 rfl ?_
      refine lv_bipush (v := (8 : Int32)) hx hb dX8_truck_74 (by decide) ?_
      refine lv_iconst (v := (0 : Int32)) hx hb dX8_truck_76 (by decide) ?_
      refine is10_8 hx hb hK hM hu_s dX8_truck_77 (fun H locs hM => ?_)
      replace hM := hM.eq (hu_u _ _ _ _ _ _)
      refine lv_dup hx hb dX8_truck_78 rfl ?_
      refine lv_bipush (v := (9 : Int32)) hx hb dX8_truck_79 (by decide) ?_
      refine lv_iconst (v := (0 : Int32)) hx hb dX8_truck_81 (by decide) ?_
      refine is10_9 hx hb hK hM hu_s dX8_truck_82 (fun H locs hM => ?_)
      replace hM := hM.eq (hu_u _ _ _ _ _ _)
      refine lv_astore_n (lv' := [(2, .ref q0), (0, .ref ma), (1, .int p0)]) hx hb dX8_truck_83 rfl hl (by decide) rfl (fun ls hl => ?_)
      refine lv_aload_n hx hb dX8_truck_84 rfl (lv_at hl 0 rfl) ?_
      refine lv_iconst (v := (0 : Int32)) hx hb dX8_truck_85 (by decide) ?_
      refine lv_aload_n hx hb dX8_truck_86 rfl (lv_at hl 1 rfl) ?_
      refine fg_X8_10 hx hb hts hown hK hM (hu_n (hu_ne hO1.1 hq0 (by simp)) hO1.1) dX8_truck_87 ?_
      refine fg_X8_73 hx hb hts hown hK hM (hu_n (hu_ne hL1.1 hq0 (by simp)) hL1.1) dX8_truck_90 ?_
      refine lv_aload_n hx hb dX8_truck_93 rfl (lv_at hl 1 rfl) ?_
      refine fg_X8_10 hx hb hts hown hK hM (hu_n (hu_ne hO1.1 hq0 (by simp)) hO1.1) dX8_truck_94 ?_
      refine fg_X8_43 hx hb hts hown hK hM (hu_n (hu_ne hL1.1 hq0 (by simp)) hL1.1) dX8_truck_97 ?_
      obtain ⟨M2, eM2⟩ : ∃ z, z = hu M1 q0 t2 (.inl (G.2.1 0, 10, .inl (rw10 (0 : Int32) p0 (0 : Int32) (-1 : Int32) (0 : Int32) (0 : Int32) (0 : Int32) (-1 : Int32) (0 : Int32) (0 : Int32)))) := ⟨_, rfl⟩
      rw [← eM2] at hM
      have hO2 : XdR G M2 tx ma h0 fa lb (0 : Int32) pr mo F Lx := by rw [eM2]; exact hO1.new hq0
      have hL2 : MdR G M2 t h0 Z N U now := by rw [eM2]; exact hL1.new hq0
      have hF2 : F3 tx t t2 M M2 := by rw [eM2]; exact F3.tr hF1 (F3.new hq0)
      have hr2_0 : M2 q0 = some (t2, (.inl (G.2.1 0, 10, .inl (rw10 (0 : Int32) p0 (0 : Int32) (-1 : Int32) (0 : Int32) (0 : Int32) (0 : Int32) (-1 : Int32) (0 : Int32) (0 : Int32))))) := by rw [eM2]; exact hu_s
      have hlt2 : N 2 < 4 := nI_lt_of_ne hn2 (by decide) c2
      refine g_aaldN hx hb hK hM (hL2.outer (k := 2) (by decide)) hlt2 (by show 4 < 1000; decide) dX8_truck_100 ?_
      refine lv_iconst (v := (0 : Int32)) hx hb dX8_truck_101 (by decide) ?_
      refine lv_bipush (v := (10 : Int32)) hx hb dX8_truck_102 (by decide) ?_
      refine g_copyR hx hb (hml.trans hl.1.symm) hts hown hK hM wm_X8_61 2 (by decide) (f := (rw10 (0 : Int32) p0 (0 : Int32) (-1 : Int32) (0 : Int32) (0 : Int32) (0 : Int32) (-1 : Int32) (0 : Int32) (0 : Int32))) (g := rw10 (U 2 (N 2) 0) (U 2 (N 2) 1) (U 2 (N 2) 2) (U 2 (N 2) 3) (U 2 (N 2) 4) (U 2 (N 2) 5) (U 2 (N 2) 6) (U 2 (N 2) 7) (U 2 (N 2) 8) (U 2 (N 2) 9)) hr2_0 (hL2.row (k := 2) (by decide) hlt2) (by decide) (by decide) (Nat.le_of_ble_eq_true rfl) (Nat.le_of_ble_eq_true rfl) dX8_truck_104 (fun H locs hM => ?_)
      replace hM : Wd G (hu M2 (Z.2.1 2 (N 2)) t (.inl (G.2.1 0, 10, .inl (rw10 (0 : Int32) p0 (0 : Int32) (-1 : Int32) (0 : Int32) (0 : Int32) (0 : Int32) (-1 : Int32) (0 : Int32) (0 : Int32))))) s H locs := hM
      refine lv_aload_n hx hb dX8_truck_107 rfl (lv_at hl 1 rfl) ?_
      refine fg_X8_10 hx hb hts hown hK hM (hu_n (hu_ne hO2.1 (hL2.row (k := 2) (by decide) hlt2) (rg_ne d1)) hO2.1) dX8_truck_108 ?_
      refine lv_dup hx hb dX8_truck_111 rfl ?_
      refine fg_X8_43 hx hb hts hown hK hM (hu_n (hu_ne hL2.1 (hL2.row (k := 2) (by decide) hlt2) eR_ne) hL2.1) dX8_truck_112 ?_
      refine lv_dup_x1 hx hb dX8_truck_115 rfl rfl ?_
      refine lv_iconst (v := (1 : Int32)) hx hb dX8_truck_116 (by decide) ?_
      refine lv_iadd hx hb dX8_truck_117 ?_
      obtain ⟨M3, eM3⟩ : ∃ z, z = hu M2 (Z.2.1 2 (N 2)) t (.inl (G.2.1 0, 10, .inl (rw10 (0 : Int32) p0 (0 : Int32) (-1 : Int32) (0 : Int32) (0 : Int32) (0 : Int32) (-1 : Int32) (0 : Int32) (0 : Int32)))) := ⟨_, rfl⟩
      rw [← eM3] at hM
      have hO3 : XdR G M3 tx ma h0 fa lb (0 : Int32) pr mo F Lx := by rw [eM3]; exact hO2.frame d1 (Fr.up (hL2.row (k := 2) (by decide) hlt2))
      have hL3 : MdR G M3 t h0 Z N (tu U 2 (N 2) (rw10 (0 : Int32) p0 (0 : Int32) (-1 : Int32) (0 : Int32) (0 : Int32) (0 : Int32) (-1 : Int32) (0 : Int32) (0 : Int32))) now := by rw [eM3]; exact hL2.setRow (k := 2) (by decide) hlt2 (rw10 (0 : Int32) p0 (0 : Int32) (-1 : Int32) (0 : Int32) (0 : Int32) (0 : Int32) (-1 : Int32) (0 : Int32) (0 : Int32))
      have hF3 : F3 tx t t2 M M3 := by rw [eM3]; exact F3.tr hF2 (F3.up (hL2.row (k := 2) (by decide) hlt2) (Or.inl rfl))
      have hr3_0 : M3 q0 = some (t2, (.inl (G.2.1 0, 10, .inl (rw10 (0 : Int32) p0 (0 : Int32) (-1 : Int32) (0 : Int32) (0 : Int32) (0 : Int32) (-1 : Int32) (0 : Int32) (0 : Int32))))) := by rw [eM3]; exact hu_n (hu_ne hr2_0 (hL2.row (k := 2) (by decide) hlt2) (rg_ne (Ne.symm d3))) hr2_0
      have hr3_1 : M3 (Z.2.1 2 (N 2)) = some (t, (.inl (G.2.1 0, 10, .inl (rw10 (0 : Int32) p0 (0 : Int32) (-1 : Int32) (0 : Int32) (0 : Int32) (0 : Int32) (-1 : Int32) (0 : Int32) (0 : Int32))))) := by rw [eM3]; exact hu_s
      refine fp_X8_43 hx hb hts hown hK hM hL3.1 dX8_truck_118 (fun H locs hM => ?_)
      obtain ⟨M4, eM4⟩ : ∃ z, z = hu M3 h0 t (mdE Z (nu N 2 (N 2 + 1)) now) := ⟨_, rfl⟩
      replace hM : Wd G M4 s H locs := hM.eq (by rw [eM4, nI_1 (N 2)]; rfl)
      have hO4 : XdR G M4 tx ma h0 fa lb (0 : Int32) pr mo F Lx := by rw [eM4]; exact hO3.frame d1 (Fr.up hL3.1)
      have hL4 : MdR G M4 t h0 Z (nu N 2 (N 2 + 1)) (tu U 2 (N 2) (rw10 (0 : Int32) p0 (0 : Int32) (-1 : Int32) (0 : Int32) (0 : Int32) (0 : Int32) (-1 : Int32) (0 : Int32) (0 : Int32))) now := by rw [eM4]; exact hL3.setLand (nu N 2 (N 2 + 1)) _ (nu_n (by decide)) (fun k hk => cnt_up (fun j hj => hL3.cnt hj) hlt2 k hk)
      have hF4 : F3 tx t t2 M M4 := by rw [eM4]; exact F3.tr hF3 (F3.up hL3.1 (Or.inl rfl))
      exact g_iret hx hb hr hlocks hM (Nat.le_of_ble_eq_true rfl) (Nat.le_of_ble_eq_true rfl) ⟨(by unfold q_X8_truck; rw [if_neg c1, if_neg c2]), (by rw [show th_X8_truck N U now th pr mo F Lx p0 = (0 : Int32) from by unfold th_X8_truck; rw [if_neg c1, if_neg c2]]; rw [show u_X8_truck N U now th pr mo F Lx p0 = (tu U 2 (N 2) (rw10 (0 : Int32) p0 (0 : Int32) (-1 : Int32) (0 : Int32) (0 : Int32) (0 : Int32) (-1 : Int32) (0 : Int32) (0 : Int32))) from by unfold u_X8_truck; rw [if_neg c1, if_neg c2]]; rw [show n_X8_truck N U now th pr mo F Lx p0 = (nu N 2 (N 2 + 1)) from by unfold n_X8_truck; rw [if_neg c1, if_neg c2]]; exact ⟨hO4, ⟨Z, hL4⟩, hF4⟩)⟩ dX8_truck_121
    · refine lv_aload_n hx hb dX8_truck_29 rfl (lv_at hl 0 rfl) ?_
      refine lv_iconst (v := (2 : Int32)) hx hb dX8_truck_30 (by decide) ?_
      refine g_callVi (n9 := 1) (As := [.int (2 : Int32)]) (rest := []) hx hb hml hl.1 hown hts hK hM (c_X8_no l G _ ma tx (0 : Int32) pr mo h0 fa lb (2 : Int32) hO1.1) wm_X8_49 wi_X8_no wl_X8_no wn_X8 wc_X8_no (by decide +kernel) (hM.recv hK (ci := 9) rfl hO1.1) ⟨Nat.le_of_ble_eq_true rfl, Nat.le_of_ble_eq_true rfl⟩ ⟨Nat.le_of_ble_eq_true rfl, Nat.le_of_ble_eq_true rfl⟩ rfl (Nat.le_of_ble_eq_true rfl) rfl dX8_truck_31 (fun r_31 M9 H locs hq hM => ?_)
      obtain ⟨er, eM9⟩ := hq
      subst er
      replace hM := hM.eq eM9
      obtain ⟨M2, eM2⟩ : ∃ z, z = hu M1 ma tx (.inr (9, [.int (2 : Int32), .ref h0, .ref fa, .ref lb, .int pr, .int mo])) := ⟨_, rfl⟩
      replace hM : Wd G M2 s H locs := hM.eq eM2.symm
      have hO2 : XdR G M2 tx ma h0 fa lb (2 : Int32) pr mo F Lx := by rw [eM2]; exact hO1.setO (2 : Int32) pr mo
      have hL2 : MdR G M2 t h0 Z N U now := by rw [eM2]; exact hL1.frame (Ne.symm d1) (Fr.up hO1.1)
      have hF2 : F3 tx t t2 M M2 := by rw [eM2]; exact F3.tr hF1 (F3.up hO1.1 (Or.inr (Or.inl rfl)))
      exact g_iret hx hb hr hlocks hM (Nat.le_of_ble_eq_true rfl) (Nat.le_of_ble_eq_true rfl) ⟨(by unfold q_X8_truck; rw [if_neg c1, if_pos c2]), (by rw [show th_X8_truck N U now th pr mo F Lx p0 = (2 : Int32) from by unfold th_X8_truck; rw [if_neg c1, if_pos c2]]; rw [show u_X8_truck N U now th pr mo F Lx p0 = U from by unfold u_X8_truck; rw [if_neg c1, if_pos c2]]; rw [show n_X8_truck N U now th pr mo F Lx p0 = N from by unfold n_X8_truck; rw [if_neg c1, if_pos c2]]; exact ⟨hO2, ⟨Z, hL2⟩, hF2⟩)⟩ dX8_truck_34
  · refine lv_aload_n hx hb dX8_truck_12 rfl (lv_at hl 0 rfl) ?_
    refine lv_iconst (v := (1 : Int32)) hx hb dX8_truck_13 (by decide) ?_
    refine g_callVi (n9 := 1) (As := [.int (1 : Int32)]) (rest := []) hx hb hml hl.1 hown hts hK hM (c_X8_no l G _ ma tx (0 : Int32) pr mo h0 fa lb (1 : Int32) hO1.1) wm_X8_49 wi_X8_no wl_X8_no wn_X8 wc_X8_no (by decide +kernel) (hM.recv hK (ci := 9) rfl hO1.1) ⟨Nat.le_of_ble_eq_true rfl, Nat.le_of_ble_eq_true rfl⟩ ⟨Nat.le_of_ble_eq_true rfl, Nat.le_of_ble_eq_true rfl⟩ rfl (Nat.le_of_ble_eq_true rfl) rfl dX8_truck_14 (fun r_14 M9 H locs hq hM => ?_)
    obtain ⟨er, eM9⟩ := hq
    subst er
    replace hM := hM.eq eM9
    obtain ⟨M2, eM2⟩ : ∃ z, z = hu M1 ma tx (.inr (9, [.int (1 : Int32), .ref h0, .ref fa, .ref lb, .int pr, .int mo])) := ⟨_, rfl⟩
    replace hM : Wd G M2 s H locs := hM.eq eM2.symm
    have hO2 : XdR G M2 tx ma h0 fa lb (1 : Int32) pr mo F Lx := by rw [eM2]; exact hO1.setO (1 : Int32) pr mo
    have hL2 : MdR G M2 t h0 Z N U now := by rw [eM2]; exact hL1.frame (Ne.symm d1) (Fr.up hO1.1)
    have hF2 : F3 tx t t2 M M2 := by rw [eM2]; exact F3.tr hF1 (F3.up hO1.1 (Or.inr (Or.inl rfl)))
    exact g_iret hx hb hr hlocks hM (Nat.le_of_ble_eq_true rfl) (Nat.le_of_ble_eq_true rfl) ⟨(by unfold q_X8_truck; rw [if_pos c1]), (by rw [show th_X8_truck N U now th pr mo F Lx p0 = (1 : Int32) from by unfold th_X8_truck; rw [if_pos c1]]; rw [show u_X8_truck N U now th pr mo F Lx p0 = U from by unfold u_X8_truck; rw [if_pos c1]]; rw [show n_X8_truck N U now th pr mo F Lx p0 = N from by unfold n_X8_truck; rw [if_pos c1]]; exact ⟨hO2, ⟨Z, hL2⟩, hF2⟩)⟩ dX8_truck_17
def q_X8_elevator (N : Nat → Nat) (U : Tb) (now th pr mo : Int32) (F Lx : Row) (p0 p1 p2 p3 p4 p5 : Int32) : Int32 := if (t_X8_isMile_0 p0) = 0 then t_X8_no_0 else (if (t_X8_in_0 p1 (0 : Int32) (9999 : Int32)) = 0 then t_X8_no_0 else (if (t_X8_in_0 p2 (0 : Int32) (23 : Int32)) = 0 then t_X8_no_0 else (if (t_X8_in_0 p3 (0 : Int32) (23 : Int32)) = 0 then t_X8_no_0 else (if p2 = p3 then t_X8_no_0 else (if (t_X8_in_0 p4 (5 : Int32) (40 : Int32)) = 0 then t_X8_no_0 else (if (t_X8_in_0 p5 p4 (40 : Int32)) = 0 then t_X8_no_0 else (if (nI (N 3)) = (3 : Int32) then t_X8_no_0 else (nI (N 3)))))))))
def th_X8_elevator (N : Nat → Nat) (U : Tb) (now th pr mo : Int32) (F Lx : Row) (p0 p1 p2 p3 p4 p5 : Int32) : Int32 := if (t_X8_isMile_0 p0) = 0 then (1 : Int32) else (if (t_X8_in_0 p1 (0 : Int32) (9999 : Int32)) = 0 then (1 : Int32) else (if (t_X8_in_0 p2 (0 : Int32) (23 : Int32)) = 0 then (1 : Int32) else (if (t_X8_in_0 p3 (0 : Int32) (23 : Int32)) = 0 then (1 : Int32) else (if p2 = p3 then (1 : Int32) else (if (t_X8_in_0 p4 (5 : Int32) (40 : Int32)) = 0 then (1 : Int32) else (if (t_X8_in_0 p5 p4 (40 : Int32)) = 0 then (1 : Int32) else (if (nI (N 3)) = (3 : Int32) then (2 : Int32) else (0 : Int32))))))))
def u_X8_elevator (N : Nat → Nat) (U : Tb) (now th pr mo : Int32) (F Lx : Row) (p0 p1 p2 p3 p4 p5 : Int32) : Tb := if (t_X8_isMile_0 p0) = 0 then U else (if (t_X8_in_0 p1 (0 : Int32) (9999 : Int32)) = 0 then U else (if (t_X8_in_0 p2 (0 : Int32) (23 : Int32)) = 0 then U else (if (t_X8_in_0 p3 (0 : Int32) (23 : Int32)) = 0 then U else (if p2 = p3 then U else (if (t_X8_in_0 p4 (5 : Int32) (40 : Int32)) = 0 then U else (if (t_X8_in_0 p5 p4 (40 : Int32)) = 0 then U else (if (nI (N 3)) = (3 : Int32) then U else (tu U 3 (N 3) (rw6 p2 p0 p3 p1 p4 p5)))))))))
def n_X8_elevator (N : Nat → Nat) (U : Tb) (now th pr mo : Int32) (F Lx : Row) (p0 p1 p2 p3 p4 p5 : Int32) : Nat → Nat := if (t_X8_isMile_0 p0) = 0 then N else (if (t_X8_in_0 p1 (0 : Int32) (9999 : Int32)) = 0 then N else (if (t_X8_in_0 p2 (0 : Int32) (23 : Int32)) = 0 then N else (if (t_X8_in_0 p3 (0 : Int32) (23 : Int32)) = 0 then N else (if p2 = p3 then N else (if (t_X8_in_0 p4 (5 : Int32) (40 : Int32)) = 0 then N else (if (t_X8_in_0 p5 p4 (40 : Int32)) = 0 then N else (if (nI (N 3)) = (3 : Int32) then N else (nu N 3 (N 3 + 1)))))))))
set_option maxHeartbeats 4000000 in
set_option maxRecDepth 100000 in
theorem c_X8_elevator (l : Launch) (G : GG) (M : HM) (tx ma h0 fa lb t t2 : Nat) (Z : LZ) (N : Nat → Nat) (U : Tb) (now th pr mo : Int32) (F Lx : Row) (p0 p1 p2 p3 p4 p5 : Int32) (hO : XdR G M tx ma h0 fa lb th pr mo F Lx) (hL : MdR G M t h0 Z N U now) (d1 : tx ≠ t) (d2 : tx ≠ t2) (d3 : t ≠ t2)   : Mi l yX8_elevator (.code yX8_elevator cX8_elevator 8 (some .int) :: AL) 2 68 1 6 [.ref ma, .int p0, .int p1, .int p2, .int p3, .int p4, .int p5] G M (fun r M' => r = (q_X8_elevator N U now th pr mo F Lx p0 p1 p2 p3 p4 p5) ∧ XP G M M' tx ma h0 fa lb t t2 (n_X8_elevator N U now th pr mo F Lx p0 p1 p2 p3 p4 p5) (u_X8_elevator N U now th pr mo F Lx p0 p1 p2 p3 p4 p5) now (th_X8_elevator N U now th pr mo F Lx p0 p1 p2 p3 p4 p5) pr mo F Lx) := by
  refine Mi.go (by decide) (Nat.le_of_ble_eq_true rfl) ?_
  intro p e s m below meth c ls hx hb hr hml hown hlocks hname hts hK hM hl
  have hown : s.vm.findClass RX8 = some m.cls := hown
  have hl : lv_has ls 8 [(0, .ref ma), (1, .int p0), (2, .int p1), (3, .int p2), (4, .int p3), (5, .int p4), (6, .int p5)] := hl
  have hn0 := hL.cnt (k := 0) (by decide)
  have hn09 : N 0 ≤ 8 := by have : N 0 ≤ 8 := hn0; omega
  have hn1 := hL.cnt (k := 1) (by decide)
  have hn19 : N 1 ≤ 8 := by have : N 1 ≤ 4 := hn1; omega
  have hn2 := hL.cnt (k := 2) (by decide)
  have hn29 : N 2 ≤ 8 := by have : N 2 ≤ 4 := hn2; omega
  have hn3 := hL.cnt (k := 3) (by decide)
  have hn39 : N 3 ≤ 8 := by have : N 3 ≤ 3 := hn3; omega
  refine lv_aload_n hx hb dX8_elevator_0 rfl (lv_at hl 0 rfl) ?_
  refine lv_iconst (v := (0 : Int32)) hx hb dX8_elevator_1 (by decide) ?_
  refine fp_X8_30 hx hb hts hown hK hM hO.1 dX8_elevator_2 (fun H locs hM => ?_)
  obtain ⟨M1, eM1⟩ : ∃ z, z = hu M ma tx (.inr (9, [.int (0 : Int32), .ref h0, .ref fa, .ref lb, .int pr, .int mo])) := ⟨_, rfl⟩
  replace hM : Wd G M1 s H locs := hM.eq eM1.symm
  have hO1 : XdR G M1 tx ma h0 fa lb (0 : Int32) pr mo F Lx := by rw [eM1]; exact hO.setO (0 : Int32) pr mo
  have hL1 : MdR G M1 t h0 Z N U now := by rw [eM1]; exact hL.frame (Ne.symm d1) (Fr.up hO.1)
  have hF1 : F3 tx t t2 M M1 := by rw [eM1]; exact F3.tr (F3.rf) (F3.up hO.1 (Or.inr (Or.inl rfl)))
  refine lv_iload_n hx hb dX8_elevator_5 rfl (lv_at hl 1 rfl) ?_
  refine g_callSi (n9 := 1) (As := [.int p0]) (rest := []) hx hb hml hl.1 hown hts hK hM (c_X8_isMile l G _ p0 ) wm_X8_53 wt_X8_isMile wn_X8 wc_X8_isMile (by decide +kernel) ⟨Nat.le_of_ble_eq_true rfl, Nat.le_of_ble_eq_true rfl⟩ ⟨Nat.le_of_ble_eq_true rfl, Nat.le_of_ble_eq_true rfl⟩ rfl (Nat.le_of_ble_eq_true rfl) rfl dX8_elevator_6 (fun r_6 M1 H locs hq hM => ?_)
  have hq1 := hq.1.symm
  have hq2 := hq.2.symm
  subst hq1 hq2
  refine lv_if_eq (tgt := 73) hx hb dX8_elevator_9 (by decide) (fun c1 => ?_) (fun c1 => ?_)
  · refine lv_aload_n hx hb dX8_elevator_73 rfl (lv_at hl 0 rfl) ?_
    refine lv_iconst (v := (1 : Int32)) hx hb dX8_elevator_74 (by decide) ?_
    refine g_callVi (n9 := 1) (As := [.int (1 : Int32)]) (rest := []) hx hb hml hl.1 hown hts hK hM (c_X8_no l G _ ma tx (0 : Int32) pr mo h0 fa lb (1 : Int32) hO1.1) wm_X8_49 wi_X8_no wl_X8_no wn_X8 wc_X8_no (by decide +kernel) (hM.recv hK (ci := 9) rfl hO1.1) ⟨Nat.le_of_ble_eq_true rfl, Nat.le_of_ble_eq_true rfl⟩ ⟨Nat.le_of_ble_eq_true rfl, Nat.le_of_ble_eq_true rfl⟩ rfl (Nat.le_of_ble_eq_true rfl) rfl dX8_elevator_75 (fun r_75 M9 H locs hq hM => ?_)
    obtain ⟨er, eM9⟩ := hq
    subst er
    replace hM := hM.eq eM9
    obtain ⟨M2, eM2⟩ : ∃ z, z = hu M1 ma tx (.inr (9, [.int (1 : Int32), .ref h0, .ref fa, .ref lb, .int pr, .int mo])) := ⟨_, rfl⟩
    replace hM : Wd G M2 s H locs := hM.eq eM2.symm
    have hO2 : XdR G M2 tx ma h0 fa lb (1 : Int32) pr mo F Lx := by rw [eM2]; exact hO1.setO (1 : Int32) pr mo
    have hL2 : MdR G M2 t h0 Z N U now := by rw [eM2]; exact hL1.frame (Ne.symm d1) (Fr.up hO1.1)
    have hF2 : F3 tx t t2 M M2 := by rw [eM2]; exact F3.tr hF1 (F3.up hO1.1 (Or.inr (Or.inl rfl)))
    exact g_iret hx hb hr hlocks hM (Nat.le_of_ble_eq_true rfl) (Nat.le_of_ble_eq_true rfl) ⟨(by unfold q_X8_elevator; rw [if_pos c1]), (by rw [show th_X8_elevator N U now th pr mo F Lx p0 p1 p2 p3 p4 p5 = (1 : Int32) from by unfold th_X8_elevator; rw [if_pos c1]]; rw [show u_X8_elevator N U now th pr mo F Lx p0 p1 p2 p3 p4 p5 = U from by unfold u_X8_elevator; rw [if_pos c1]]; rw [show n_X8_elevator N U now th pr mo F Lx p0 p1 p2 p3 p4 p5 = N from by unfold n_X8_elevator; rw [if_pos c1]]; exact ⟨hO2, ⟨Z, hL2⟩, hF2⟩)⟩ dX8_elevator_78
  · refine lv_iload_n hx hb dX8_elevator_12 rfl (lv_at hl 2 rfl) ?_
    refine lv_iconst (v := (0 : Int32)) hx hb dX8_elevator_13 (by decide) ?_
    refine lv_sipush (v := (9999 : Int32)) hx hb dX8_elevator_14 (by decide) ?_
    refine g_callSi (n9 := 3) (As := [.int p1, .int (0 : Int32), .int (9999 : Int32)]) (rest := []) hx hb hml hl.1 hown hts hK hM (c_X8_in l G _ p1 (0 : Int32) (9999 : Int32) ) wm_X8_36 wt_X8_in wn_X8 wc_X8_in (by decide +kernel) ⟨Nat.le_of_ble_eq_true rfl, Nat.le_of_ble_eq_true rfl⟩ ⟨Nat.le_of_ble_eq_true rfl, Nat.le_of_ble_eq_true rfl⟩ rfl (Nat.le_of_ble_eq_true rfl) rfl dX8_elevator_17 (fun r_17 M1 H locs hq hM => ?_)
    have hq1 := hq.1.symm
    have hq2 := hq.2.symm
    subst hq1 hq2
    refine lv_if_eq (tgt := 73) hx hb dX8_elevator_20 (by decide) (fun c2 => ?_) (fun c2 => ?_)
    · refine lv_aload_n hx hb dX8_elevator_73 rfl (lv_at hl 0 rfl) ?_
      refine lv_iconst (v := (1 : Int32)) hx hb dX8_elevator_74 (by decide) ?_
      refine g_callVi (n9 := 1) (As := [.int (1 : Int32)]) (rest := []) hx hb hml hl.1 hown hts hK hM (c_X8_no l G _ ma tx (0 : Int32) pr mo h0 fa lb (1 : Int32) hO1.1) wm_X8_49 wi_X8_no wl_X8_no wn_X8 wc_X8_no (by decide +kernel) (hM.recv hK (ci := 9) rfl hO1.1) ⟨Nat.le_of_ble_eq_true rfl, Nat.le_of_ble_eq_true rfl⟩ ⟨Nat.le_of_ble_eq_true rfl, Nat.le_of_ble_eq_true rfl⟩ rfl (Nat.le_of_ble_eq_true rfl) rfl dX8_elevator_75 (fun r_75 M9 H locs hq hM => ?_)
      obtain ⟨er, eM9⟩ := hq
      subst er
      replace hM := hM.eq eM9
      obtain ⟨M2, eM2⟩ : ∃ z, z = hu M1 ma tx (.inr (9, [.int (1 : Int32), .ref h0, .ref fa, .ref lb, .int pr, .int mo])) := ⟨_, rfl⟩
      replace hM : Wd G M2 s H locs := hM.eq eM2.symm
      have hO2 : XdR G M2 tx ma h0 fa lb (1 : Int32) pr mo F Lx := by rw [eM2]; exact hO1.setO (1 : Int32) pr mo
      have hL2 : MdR G M2 t h0 Z N U now := by rw [eM2]; exact hL1.frame (Ne.symm d1) (Fr.up hO1.1)
      have hF2 : F3 tx t t2 M M2 := by rw [eM2]; exact F3.tr hF1 (F3.up hO1.1 (Or.inr (Or.inl rfl)))
      exact g_iret hx hb hr hlocks hM (Nat.le_of_ble_eq_true rfl) (Nat.le_of_ble_eq_true rfl) ⟨(by unfold q_X8_elevator; rw [if_neg c1, if_pos c2]), (by rw [show th_X8_elevator N U now th pr mo F Lx p0 p1 p2 p3 p4 p5 = (1 : Int32) from by unfold th_X8_elevator; rw [if_neg c1, if_pos c2]]; rw [show u_X8_elevator N U now th pr mo F Lx p0 p1 p2 p3 p4 p5 = U from by unfold u_X8_elevator; rw [if_neg c1, if_pos c2]]; rw [show n_X8_elevator N U now th pr mo F Lx p0 p1 p2 p3 p4 p5 = N from by unfold n_X8_elevator; rw [if_neg c1, if_pos c2]]; exact ⟨hO2, ⟨Z, hL2⟩, hF2⟩)⟩ dX8_elevator_78
    · refine lv_iload_n hx hb dX8_elevator_23 rfl (lv_at hl 3 rfl) ?_
      refine lv_iconst (v := (0 : Int32)) hx hb dX8_elevator_24 (by decide) ?_
      refine lv_bipush (v := (23 : Int32)) hx hb dX8_elevator_25 (by decide) ?_
      refine g_callSi (n9 := 3) (As := [.int p2, .int (0 : Int32), .int (23 : Int32)]) (rest := []) hx hb hml hl.1 hown hts hK hM (c_X8_in l G _ p2 (0 : Int32) (23 : Int32) ) wm_X8_36 wt_X8_in wn_X8 wc_X8_in (by decide +kernel) ⟨Nat.le_of_ble_eq_true rfl, Nat.le_of_ble_eq_true rfl⟩ ⟨Nat.le_of_ble_eq_true rfl, Nat.le_of_ble_eq_true rfl⟩ rfl (Nat.le_of_ble_eq_true rfl) rfl dX8_elevator_27 (fun r_27 M1 H locs hq hM => ?_)
      have hq1 := hq.1.symm
      have hq2 := hq.2.symm
      subst hq1 hq2
      refine lv_if_eq (tgt := 73) hx hb dX8_elevator_30 (by decide) (fun c3 => ?_) (fun c3 => ?_)
      · refine lv_aload_n hx hb dX8_elevator_73 rfl (lv_at hl 0 rfl) ?_
        refine lv_iconst (v := (1 : Int32)) hx hb dX8_elevator_74 (by decide) ?_
        refine g_callVi (n9 := 1) (As := [.int (1 : Int32)]) (rest := []) hx hb hml hl.1 hown hts hK hM (c_X8_no l G _ ma tx (0 : Int32) pr mo h0 fa lb (1 : Int32) hO1.1) wm_X8_49 wi_X8_no wl_X8_no wn_X8 wc_X8_no (by decide +kernel) (hM.recv hK (ci := 9) rfl hO1.1) ⟨Nat.le_of_ble_eq_true rfl, Nat.le_of_ble_eq_true rfl⟩ ⟨Nat.le_of_ble_eq_true rfl, Nat.le_of_ble_eq_true rfl⟩ rfl (Nat.le_of_ble_eq_true rfl) rfl dX8_elevator_75 (fun r_75 M9 H locs hq hM => ?_)
        obtain ⟨er, eM9⟩ := hq
        subst er
        replace hM := hM.eq eM9
        obtain ⟨M2, eM2⟩ : ∃ z, z = hu M1 ma tx (.inr (9, [.int (1 : Int32), .ref h0, .ref fa, .ref lb, .int pr, .int mo])) := ⟨_, rfl⟩
        replace hM : Wd G M2 s H locs := hM.eq eM2.symm
        have hO2 : XdR G M2 tx ma h0 fa lb (1 : Int32) pr mo F Lx := by rw [eM2]; exact hO1.setO (1 : Int32) pr mo
        have hL2 : MdR G M2 t h0 Z N U now := by rw [eM2]; exact hL1.frame (Ne.symm d1) (Fr.up hO1.1)
        have hF2 : F3 tx t t2 M M2 := by rw [eM2]; exact F3.tr hF1 (F3.up hO1.1 (Or.inr (Or.inl rfl)))
        exact g_iret hx hb hr hlocks hM (Nat.le_of_ble_eq_true rfl) (Nat.le_of_ble_eq_true rfl) ⟨(by unfold q_X8_elevator; rw [if_neg c1, if_neg c2, if_pos c3]), (by rw [show th_X8_elevator N U now th pr mo F Lx p0 p1 p2 p3 p4 p5 = (1 : Int32) from by unfold th_X8_elevator; rw [if_neg c1, if_neg c2, if_pos c3]]; rw [show u_X8_elevator N U now th pr mo F Lx p0 p1 p2 p3 p4 p5 = U from by unfold u_X8_elevator; rw [if_neg c1, if_neg c2, if_pos c3]]; rw [show n_X8_elevator N U now th pr mo F Lx p0 p1 p2 p3 p4 p5 = N from by unfold n_X8_elevator; rw [if_neg c1, if_neg c2, if_pos c3]]; exact ⟨hO2, ⟨Z, hL2⟩, hF2⟩)⟩ dX8_elevator_78
      · refine lv_iload hx hb dX8_elevator_33 (lv_at hl 4 rfl) ?_
        refine lv_iconst (v := (0 : Int32)) hx hb dX8_elevator_35 (by decide) ?_
        refine lv_bipush (v := (23 : Int32)) hx hb dX8_elevator_36 (by decide) ?_
        refine g_callSi (n9 := 3) (As := [.int p3, .int (0 : Int32), .int (23 : Int32)]) (rest := []) hx hb hml hl.1 hown hts hK hM (c_X8_in l G _ p3 (0 : Int32) (23 : Int32) ) wm_X8_36 wt_X8_in wn_X8 wc_X8_in (by decide +kernel) ⟨Nat.le_of_ble_eq_true rfl, Nat.le_of_ble_eq_true rfl⟩ ⟨Nat.le_of_ble_eq_true rfl, Nat.le_of_ble_eq_true rfl⟩ rfl (Nat.le_of_ble_eq_true rfl) rfl dX8_elevator_38 (fun r_38 M1 H locs hq hM => ?_)
        have hq1 := hq.1.symm
        have hq2 := hq.2.symm
        subst hq1 hq2
        refine lv_if_eq (tgt := 73) hx hb dX8_elevator_41 (by decide) (fun c4 => ?_) (fun c4 => ?_)
        · refine lv_aload_n hx hb dX8_elevator_73 rfl (lv_at hl 0 rfl) ?_
          refine lv_iconst (v := (1 : Int32)) hx hb dX8_elevator_74 (by decide) ?_
          refine g_callVi (n9 := 1) (As := [.int (1 : Int32)]) (rest := []) hx hb hml hl.1 hown hts hK hM (c_X8_no l G _ ma tx (0 : Int32) pr mo h0 fa lb (1 : Int32) hO1.1) wm_X8_49 wi_X8_no wl_X8_no wn_X8 wc_X8_no (by decide +kernel) (hM.recv hK (ci := 9) rfl hO1.1) ⟨Nat.le_of_ble_eq_true rfl, Nat.le_of_ble_eq_true rfl⟩ ⟨Nat.le_of_ble_eq_true rfl, Nat.le_of_ble_eq_true rfl⟩ rfl (Nat.le_of_ble_eq_true rfl) rfl dX8_elevator_75 (fun r_75 M9 H locs hq hM => ?_)
          obtain ⟨er, eM9⟩ := hq
          subst er
          replace hM := hM.eq eM9
          obtain ⟨M2, eM2⟩ : ∃ z, z = hu M1 ma tx (.inr (9, [.int (1 : Int32), .ref h0, .ref fa, .ref lb, .int pr, .int mo])) := ⟨_, rfl⟩
          replace hM : Wd G M2 s H locs := hM.eq eM2.symm
          have hO2 : XdR G M2 tx ma h0 fa lb (1 : Int32) pr mo F Lx := by rw [eM2]; exact hO1.setO (1 : Int32) pr mo
          have hL2 : MdR G M2 t h0 Z N U now := by rw [eM2]; exact hL1.frame (Ne.symm d1) (Fr.up hO1.1)
          have hF2 : F3 tx t t2 M M2 := by rw [eM2]; exact F3.tr hF1 (F3.up hO1.1 (Or.inr (Or.inl rfl)))
          exact g_iret hx hb hr hlocks hM (Nat.le_of_ble_eq_true rfl) (Nat.le_of_ble_eq_true rfl) ⟨(by unfold q_X8_elevator; rw [if_neg c1, if_neg c2, if_neg c3, if_pos c4]), (by rw [show th_X8_elevator N U now th pr mo F Lx p0 p1 p2 p3 p4 p5 = (1 : Int32) from by unfold th_X8_elevator; rw [if_neg c1, if_neg c2, if_neg c3, if_pos c4]]; rw [show u_X8_elevator N U now th pr mo F Lx p0 p1 p2 p3 p4 p5 = U from by unfold u_X8_elevator; rw [if_neg c1, if_neg c2, if_neg c3, if_pos c4]]; rw [show n_X8_elevator N U now th pr mo F Lx p0 p1 p2 p3 p4 p5 = N from by unfold n_X8_elevator; rw [if_neg c1, if_neg c2, if_neg c3, if_pos c4]]; exact ⟨hO2, ⟨Z, hL2⟩, hF2⟩)⟩ dX8_elevator_78
        · refine lv_iload_n hx hb dX8_elevator_44 rfl (lv_at hl 3 rfl) ?_
          refine lv_iload hx hb dX8_elevator_45 (lv_at hl 4 rfl) ?_
          refine lv_icmp_eq (tgt := 73) hx hb dX8_elevator_47 (by decide) (fun c5 => ?_) (fun c5 => ?_)
          · refine lv_aload_n hx hb dX8_elevator_73 rfl (lv_at hl 0 rfl) ?_
            refine lv_iconst (v := (1 : Int32)) hx hb dX8_elevator_74 (by decide) ?_
            refine g_callVi (n9 := 1) (As := [.int (1 : Int32)]) (rest := []) hx hb hml hl.1 hown hts hK hM (c_X8_no l G _ ma tx (0 : Int32) pr mo h0 fa lb (1 : Int32) hO1.1) wm_X8_49 wi_X8_no wl_X8_no wn_X8 wc_X8_no (by decide +kernel) (hM.recv hK (ci := 9) rfl hO1.1) ⟨Nat.le_of_ble_eq_true rfl, Nat.le_of_ble_eq_true rfl⟩ ⟨Nat.le_of_ble_eq_true rfl, Nat.le_of_ble_eq_true rfl⟩ rfl (Nat.le_of_ble_eq_true rfl) rfl dX8_elevator_75 (fun r_75 M9 H locs hq hM => ?_)
            obtain ⟨er, eM9⟩ := hq
            subst er
            replace hM := hM.eq eM9
            obtain ⟨M2, eM2⟩ : ∃ z, z = hu M1 ma tx (.inr (9, [.int (1 : Int32), .ref h0, .ref fa, .ref lb, .int pr, .int mo])) := ⟨_, rfl⟩
            replace hM : Wd G M2 s H locs := hM.eq eM2.symm
            have hO2 : XdR G M2 tx ma h0 fa lb (1 : Int32) pr mo F Lx := by rw [eM2]; exact hO1.setO (1 : Int32) pr mo
            have hL2 : MdR G M2 t h0 Z N U now := by rw [eM2]; exact hL1.frame (Ne.symm d1) (Fr.up hO1.1)
            have hF2 : F3 tx t t2 M M2 := by rw [eM2]; exact F3.tr hF1 (F3.up hO1.1 (Or.inr (Or.inl rfl)))
            exact g_iret hx hb hr hlocks hM (Nat.le_of_ble_eq_true rfl) (Nat.le_of_ble_eq_true rfl) ⟨(by unfold q_X8_elevator; rw [if_neg c1, if_neg c2, if_neg c3, if_neg c4, if_pos c5]), (by rw [show th_X8_elevator N U now th pr mo F Lx p0 p1 p2 p3 p4 p5 = (1 : Int32) from by unfold th_X8_elevator; rw [if_neg c1, if_neg c2, if_neg c3, if_neg c4, if_pos c5]]; rw [show u_X8_elevator N U now th pr mo F Lx p0 p1 p2 p3 p4 p5 = U from by unfold u_X8_elevator; rw [if_neg c1, if_neg c2, if_neg c3, if_neg c4, if_pos c5]]; rw [show n_X8_elevator N U now th pr mo F Lx p0 p1 p2 p3 p4 p5 = N from by unfold n_X8_elevator; rw [if_neg c1, if_neg c2, if_neg c3, if_neg c4, if_pos c5]]; exact ⟨hO2, ⟨Z, hL2⟩, hF2⟩)⟩ dX8_elevator_78
          · refine lv_iload hx hb dX8_elevator_50 (lv_at hl 5 rfl) ?_
            refine lv_iconst (v := (5 : Int32)) hx hb dX8_elevator_52 (by decide) ?_
            refine lv_bipush (v := (40 : Int32)) hx hb dX8_elevator_53 (by decide) ?_
            refine g_callSi (n9 := 3) (As := [.int p4, .int (5 : Int32), .int (40 : Int32)]) (rest := []) hx hb hml hl.1 hown hts hK hM (c_X8_in l G _ p4 (5 : Int32) (40 : Int32) ) wm_X8_36 wt_X8_in wn_X8 wc_X8_in (by decide +kernel) ⟨Nat.le_of_ble_eq_true rfl, Nat.le_of_ble_eq_true rfl⟩ ⟨Nat.le_of_ble_eq_true rfl, Nat.le_of_ble_eq_true rfl⟩ rfl (Nat.le_of_ble_eq_true rfl) rfl dX8_elevator_55 (fun r_55 M1 H locs hq hM => ?_)
            have hq1 := hq.1.symm
            have hq2 := hq.2.symm
            subst hq1 hq2
            refine lv_if_eq (tgt := 73) hx hb dX8_elevator_58 (by decide) (fun c6 => ?_) (fun c6 => ?_)
            · refine lv_aload_n hx hb dX8_elevator_73 rfl (lv_at hl 0 rfl) ?_
              refine lv_iconst (v := (1 : Int32)) hx hb dX8_elevator_74 (by decide) ?_
              refine g_callVi (n9 := 1) (As := [.int (1 : Int32)]) (rest := []) hx hb hml hl.1 hown hts hK hM (c_X8_no l G _ ma tx (0 : Int32) pr mo h0 fa lb (1 : Int32) hO1.1) wm_X8_49 wi_X8_no wl_X8_no wn_X8 wc_X8_no (by decide +kernel) (hM.recv hK (ci := 9) rfl hO1.1) ⟨Nat.le_of_ble_eq_true rfl, Nat.le_of_ble_eq_true rfl⟩ ⟨Nat.le_of_ble_eq_true rfl, Nat.le_of_ble_eq_true rfl⟩ rfl (Nat.le_of_ble_eq_true rfl) rfl dX8_elevator_75 (fun r_75 M9 H locs hq hM => ?_)
              obtain ⟨er, eM9⟩ := hq
              subst er
              replace hM := hM.eq eM9
              obtain ⟨M2, eM2⟩ : ∃ z, z = hu M1 ma tx (.inr (9, [.int (1 : Int32), .ref h0, .ref fa, .ref lb, .int pr, .int mo])) := ⟨_, rfl⟩
              replace hM : Wd G M2 s H locs := hM.eq eM2.symm
              have hO2 : XdR G M2 tx ma h0 fa lb (1 : Int32) pr mo F Lx := by rw [eM2]; exact hO1.setO (1 : Int32) pr mo
              have hL2 : MdR G M2 t h0 Z N U now := by rw [eM2]; exact hL1.frame (Ne.symm d1) (Fr.up hO1.1)
              have hF2 : F3 tx t t2 M M2 := by rw [eM2]; exact F3.tr hF1 (F3.up hO1.1 (Or.inr (Or.inl rfl)))
              exact g_iret hx hb hr hlocks hM (Nat.le_of_ble_eq_true rfl) (Nat.le_of_ble_eq_true rfl) ⟨(by unfold q_X8_elevator; rw [if_neg c1, if_neg c2, if_neg c3, if_neg c4, if_neg c5, if_pos c6]), (by rw [show th_X8_elevator N U now th pr mo F Lx p0 p1 p2 p3 p4 p5 = (1 : Int32) from by unfold th_X8_elevator; rw [if_neg c1, if_neg c2, if_neg c3, if_neg c4, if_neg c5, if_pos c6]]; rw [show u_X8_elevator N U now th pr mo F Lx p0 p1 p2 p3 p4 p5 = U from by unfold u_X8_elevator; rw [if_neg c1, if_neg c2, if_neg c3, if_neg c4, if_neg c5, if_pos c6]]; rw [show n_X8_elevator N U now th pr mo F Lx p0 p1 p2 p3 p4 p5 = N from by unfold n_X8_elevator; rw [if_neg c1, if_neg c2, if_neg c3, if_neg c4, if_neg c5, if_pos c6]]; exact ⟨hO2, ⟨Z, hL2⟩, hF2⟩)⟩ dX8_elevator_78
            · refine lv_iload hx hb dX8_elevator_61 (lv_at hl 6 rfl) ?_
              refine lv_iload hx hb dX8_elevator_63 (lv_at hl 5 rfl) ?_
              refine lv_bipush (v := (40 : Int32)) hx hb dX8_elevator_65 (by decide) ?_
              refine g_callSi (n9 := 3) (As := [.int p5, .int p4, .int (40 : Int32)]) (rest := []) hx hb hml hl.1 hown hts hK hM (c_X8_in l G _ p5 p4 (40 : Int32) ) wm_X8_36 wt_X8_in wn_X8 wc_X8_in (by decide +kernel) ⟨Nat.le_of_ble_eq_true rfl, Nat.le_of_ble_eq_true rfl⟩ ⟨Nat.le_of_ble_eq_true rfl, Nat.le_of_ble_eq_true rfl⟩ rfl (Nat.le_of_ble_eq_true rfl) rfl dX8_elevator_67 (fun r_67 M1 H locs hq hM => ?_)
              have hq1 := hq.1.symm
              have hq2 := hq.2.symm
              subst hq1 hq2
              refine lv_if_ne (tgt := 79) hx hb dX8_elevator_70 (by decide) (fun c7 => ?_) (fun c7 => ?_)
              · refine lv_aload_n hx hb dX8_elevator_79 rfl (lv_at hl 0 rfl) ?_
                refine fg_X8_10 hx hb hts hown hK hM hO1.1 dX8_elevator_80 ?_
                refine fg_X8_46 hx hb hts hown hK hM hL1.1 dX8_elevator_83 ?_
                refine lv_iconst (v := (3 : Int32)) hx hb dX8_elevator_86 (by decide) ?_
                refine lv_icmp_ne (tgt := 96) hx hb dX8_elevator_87 (by decide) (fun c8 => ?_) (fun c8 => ?_)
                · refine lv_bipush (v := (6 : Int32)) hx hb dX8_elevator_96 (by decide) ?_
                  refine g_newI hx hb hK hM hts 6 (by decide) (by decide) (by decide) t2 (Nat.le_of_ble_eq_true rfl) (Nat.le_of_ble_eq_true rfl) dX8_elevator_98 (fun q0 H hq0 hM => ?_)
                  rw [rw6_0] at hM
                  refine lv_dup hx hb dX8_elevator_100 rfl ?_
                  refine lv_iconst (v := (0 : Int32)) hx hb dX8_elevator_101 (by decide) ?_
                  refine lv_iload_n hx hb dX8_elevator_102 rfl (lv_at hl 3 rfl) ?_
                  refine is6_0 hx hb hK hM hu_s dX8_elevator_103 (fun H locs hM => ?_)
                  replace hM := hM.eq (hu_u _ _ _ _ _ _)
                  refine lv_dup hx hb dX8_elevator_104 rfl ?_
                  refine lv_iconst (v := (1 : Int32)) hx hb dX8_elevator_105 (by decide) ?_
                  refine lv_iload_n hx hb dX8_elevator_106 rfl (lv_at hl 1 rfl) ?_
                  refine is6_1 hx hb hK hM hu_s dX8_elevator_107 (fun H locs hM => ?_)
                  replace hM := hM.eq (hu_u _ _ _ _ _ _)
                  refine lv_dup hx hb dX8_elevator_108 rfl ?_
                  refine lv_iconst (v := (2 : Int32)) hx hb dX8_elevator_109 (by decide) ?_
                  refine lv_iload hx hb dX8_elevator_110 (lv_at hl 4 rfl) ?_
                  refine is6_2 hx hb hK hM hu_s dX8_elevator_112 (fun H locs hM => ?_)
                  replace hM := hM.eq (hu_u _ _ _ _ _ _)
                  refine lv_dup hx hb dX8_elevator_113 rfl ?_
                  refine lv_iconst (v := (3 : Int32)) hx hb dX8_elevator_114 (by decide) ?_
                  refine lv_iload_n hx hb dX8_elevator_115 rfl (lv_at hl 2 rfl) ?_
                  refine is6_3 hx hb hK hM hu_s dX8_elevator_116 (fun H locs hM => ?_)
                  replace hM := hM.eq (hu_u _ _ _ _ _ _)
                  refine lv_dup hx hb dX8_elevator_117 rfl ?_
                  refine lv_iconst (v := (4 : Int32)) hx hb dX8_elevator_118 (by decide) ?_
                  refine lv_iload hx hb dX8_elevator_119 (lv_at hl 5 rfl) ?_
                  refine is6_4 hx hb hK hM hu_s dX8_elevator_121 (fun H locs hM => ?_)
                  replace hM := hM.eq (hu_u _ _ _ _ _ _)
                  refine lv_dup hx hb dX8_elevator_122 rfl ?_
                  refine lv_iconst (v := (5 : Int32)) hx hb dX8_elevator_123 (by decide) ?_
                  refine lv_iload hx hb dX8_elevator_124 (lv_at hl 6 rfl) ?_
                  refine is6_5 hx hb hK hM hu_s dX8_elevator_126 (fun H locs hM => ?_)
                  replace hM := hM.eq (hu_u _ _ _ _ _ _)
                  refine lv_astore (lv' := [(7, .ref q0), (0, .ref ma), (1, .int p0), (2, .int p1), (3, .int p2), (4, .int p3), (5, .int p4), (6, .int p5)]) hx hb dX8_elevator_127 hl (by decide) rfl (fun ls hl => ?_)
                  refine lv_aload hx hb dX8_elevator_129 (lv_at hl 0 rfl) ?_
                  refine lv_iconst (v := (0 : Int32)) hx hb dX8_elevator_131 (by decide) ?_
                  refine lv_aload_n hx hb dX8_elevator_132 rfl (lv_at hl 1 rfl) ?_
                  refine fg_X8_10 hx hb hts hown hK hM (hu_n (hu_ne hO1.1 hq0 (by simp)) hO1.1) dX8_elevator_133 ?_
                  refine fg_X8_76 hx hb hts hown hK hM (hu_n (hu_ne hL1.1 hq0 (by simp)) hL1.1) dX8_elevator_136 ?_
                  refine lv_aload_n hx hb dX8_elevator_139 rfl (lv_at hl 1 rfl) ?_
                  refine fg_X8_10 hx hb hts hown hK hM (hu_n (hu_ne hO1.1 hq0 (by simp)) hO1.1) dX8_elevator_140 ?_
                  refine fg_X8_46 hx hb hts hown hK hM (hu_n (hu_ne hL1.1 hq0 (by simp)) hL1.1) dX8_elevator_143 ?_
                  obtain ⟨M2, eM2⟩ : ∃ z, z = hu M1 q0 t2 (.inl (G.2.1 0, 6, .inl (rw6 p2 p0 p3 p1 p4 p5))) := ⟨_, rfl⟩
                  rw [← eM2] at hM
                  have hO2 : XdR G M2 tx ma h0 fa lb (0 : Int32) pr mo F Lx := by rw [eM2]; exact hO1.new hq0
                  have hL2 : MdR G M2 t h0 Z N U now := by rw [eM2]; exact hL1.new hq0
                  have hF2 : F3 tx t t2 M M2 := by rw [eM2]; exact F3.tr hF1 (F3.new hq0)
                  have hr2_0 : M2 q0 = some (t2, (.inl (G.2.1 0, 6, .inl (rw6 p2 p0 p3 p1 p4 p5)))) := by rw [eM2]; exact hu_s
                  have hlt3 : N 3 < 3 := nI_lt_of_ne hn3 (by decide) c8
                  refine g_aaldN hx hb hK hM (hL2.outer (k := 3) (by decide)) hlt3 (by show 3 < 1000; decide) dX8_elevator_146 ?_
                  refine lv_iconst (v := (0 : Int32)) hx hb dX8_elevator_147 (by decide) ?_
                  refine lv_bipush (v := (6 : Int32)) hx hb dX8_elevator_148 (by decide) ?_
                  refine g_copyR hx hb (hml.trans hl.1.symm) hts hown hK hM wm_X8_61 3 (by decide) (f := (rw6 p2 p0 p3 p1 p4 p5)) (g := rw6 (U 3 (N 3) 0) (U 3 (N 3) 1) (U 3 (N 3) 2) (U 3 (N 3) 3) (U 3 (N 3) 4) (U 3 (N 3) 5)) hr2_0 (hL2.row (k := 3) (by decide) hlt3) (by decide) (by decide) (Nat.le_of_ble_eq_true rfl) (Nat.le_of_ble_eq_true rfl) dX8_elevator_150 (fun H locs hM => ?_)
                  replace hM : Wd G (hu M2 (Z.2.1 3 (N 3)) t (.inl (G.2.1 0, 6, .inl (rw6 p2 p0 p3 p1 p4 p5)))) s H locs := hM
                  refine lv_aload_n hx hb dX8_elevator_153 rfl (lv_at hl 1 rfl) ?_
                  refine fg_X8_10 hx hb hts hown hK hM (hu_n (hu_ne hO2.1 (hL2.row (k := 3) (by decide) hlt3) (rg_ne d1)) hO2.1) dX8_elevator_154 ?_
                  refine lv_dup hx hb dX8_elevator_157 rfl ?_
                  refine fg_X8_46 hx hb hts hown hK hM (hu_n (hu_ne hL2.1 (hL2.row (k := 3) (by decide) hlt3) eR_ne) hL2.1) dX8_elevator_158 ?_
                  refine lv_dup_x1 hx hb dX8_elevator_161 rfl rfl ?_
                  refine lv_iconst (v := (1 : Int32)) hx hb dX8_elevator_162 (by decide) ?_
                  refine lv_iadd hx hb dX8_elevator_163 ?_
                  obtain ⟨M3, eM3⟩ : ∃ z, z = hu M2 (Z.2.1 3 (N 3)) t (.inl (G.2.1 0, 6, .inl (rw6 p2 p0 p3 p1 p4 p5))) := ⟨_, rfl⟩
                  rw [← eM3] at hM
                  have hO3 : XdR G M3 tx ma h0 fa lb (0 : Int32) pr mo F Lx := by rw [eM3]; exact hO2.frame d1 (Fr.up (hL2.row (k := 3) (by decide) hlt3))
                  have hL3 : MdR G M3 t h0 Z N (tu U 3 (N 3) (rw6 p2 p0 p3 p1 p4 p5)) now := by rw [eM3]; exact hL2.setRow (k := 3) (by decide) hlt3 (rw6 p2 p0 p3 p1 p4 p5)
                  have hF3 : F3 tx t t2 M M3 := by rw [eM3]; exact F3.tr hF2 (F3.up (hL2.row (k := 3) (by decide) hlt3) (Or.inl rfl))
                  have hr3_0 : M3 q0 = some (t2, (.inl (G.2.1 0, 6, .inl (rw6 p2 p0 p3 p1 p4 p5)))) := by rw [eM3]; exact hu_n (hu_ne hr2_0 (hL2.row (k := 3) (by decide) hlt3) (rg_ne (Ne.symm d3))) hr2_0
                  have hr3_1 : M3 (Z.2.1 3 (N 3)) = some (t, (.inl (G.2.1 0, 6, .inl (rw6 p2 p0 p3 p1 p4 p5)))) := by rw [eM3]; exact hu_s
                  refine fp_X8_46 hx hb hts hown hK hM hL3.1 dX8_elevator_164 (fun H locs hM => ?_)
                  obtain ⟨M4, eM4⟩ : ∃ z, z = hu M3 h0 t (mdE Z (nu N 3 (N 3 + 1)) now) := ⟨_, rfl⟩
                  replace hM : Wd G M4 s H locs := hM.eq (by rw [eM4, nI_1 (N 3)]; rfl)
                  have hO4 : XdR G M4 tx ma h0 fa lb (0 : Int32) pr mo F Lx := by rw [eM4]; exact hO3.frame d1 (Fr.up hL3.1)
                  have hL4 : MdR G M4 t h0 Z (nu N 3 (N 3 + 1)) (tu U 3 (N 3) (rw6 p2 p0 p3 p1 p4 p5)) now := by rw [eM4]; exact hL3.setLand (nu N 3 (N 3 + 1)) _ (nu_n (by decide)) (fun k hk => cnt_up (fun j hj => hL3.cnt hj) hlt3 k hk)
                  have hF4 : F3 tx t t2 M M4 := by rw [eM4]; exact F3.tr hF3 (F3.up hL3.1 (Or.inl rfl))
                  exact g_iret hx hb hr hlocks hM (Nat.le_of_ble_eq_true rfl) (Nat.le_of_ble_eq_true rfl) ⟨(by unfold q_X8_elevator; rw [if_neg c1, if_neg c2, if_neg c3, if_neg c4, if_neg c5, if_neg c6, if_neg c7, if_neg c8]), (by rw [show th_X8_elevator N U now th pr mo F Lx p0 p1 p2 p3 p4 p5 = (0 : Int32) from by unfold th_X8_elevator; rw [if_neg c1, if_neg c2, if_neg c3, if_neg c4, if_neg c5, if_neg c6, if_neg c7, if_neg c8]]; rw [show u_X8_elevator N U now th pr mo F Lx p0 p1 p2 p3 p4 p5 = (tu U 3 (N 3) (rw6 p2 p0 p3 p1 p4 p5)) from by unfold u_X8_elevator; rw [if_neg c1, if_neg c2, if_neg c3, if_neg c4, if_neg c5, if_neg c6, if_neg c7, if_neg c8]]; rw [show n_X8_elevator N U now th pr mo F Lx p0 p1 p2 p3 p4 p5 = (nu N 3 (N 3 + 1)) from by unfold n_X8_elevator; rw [if_neg c1, if_neg c2, if_neg c3, if_neg c4, if_neg c5, if_neg c6, if_neg c7, if_neg c8]]; exact ⟨hO4, ⟨Z, hL4⟩, hF4⟩)⟩ dX8_elevator_167
                · refine lv_aload_n hx hb dX8_elevator_90 rfl (lv_at hl 0 rfl) ?_
                  refine lv_iconst (v := (2 : Int32)) hx hb dX8_elevator_91 (by decide) ?_
                  refine g_callVi (n9 := 1) (As := [.int (2 : Int32)]) (rest := []) hx hb hml hl.1 hown hts hK hM (c_X8_no l G _ ma tx (0 : Int32) pr mo h0 fa lb (2 : Int32) hO1.1) wm_X8_49 wi_X8_no wl_X8_no wn_X8 wc_X8_no (by decide +kernel) (hM.recv hK (ci := 9) rfl hO1.1) ⟨Nat.le_of_ble_eq_true rfl, Nat.le_of_ble_eq_true rfl⟩ ⟨Nat.le_of_ble_eq_true rfl, Nat.le_of_ble_eq_true rfl⟩ rfl (Nat.le_of_ble_eq_true rfl) rfl dX8_elevator_92 (fun r_92 M9 H locs hq hM => ?_)
                  obtain ⟨er, eM9⟩ := hq
                  subst er
                  replace hM := hM.eq eM9
                  obtain ⟨M2, eM2⟩ : ∃ z, z = hu M1 ma tx (.inr (9, [.int (2 : Int32), .ref h0, .ref fa, .ref lb, .int pr, .int mo])) := ⟨_, rfl⟩
                  replace hM : Wd G M2 s H locs := hM.eq eM2.symm
                  have hO2 : XdR G M2 tx ma h0 fa lb (2 : Int32) pr mo F Lx := by rw [eM2]; exact hO1.setO (2 : Int32) pr mo
                  have hL2 : MdR G M2 t h0 Z N U now := by rw [eM2]; exact hL1.frame (Ne.symm d1) (Fr.up hO1.1)
                  have hF2 : F3 tx t t2 M M2 := by rw [eM2]; exact F3.tr hF1 (F3.up hO1.1 (Or.inr (Or.inl rfl)))
                  exact g_iret hx hb hr hlocks hM (Nat.le_of_ble_eq_true rfl) (Nat.le_of_ble_eq_true rfl) ⟨(by unfold q_X8_elevator; rw [if_neg c1, if_neg c2, if_neg c3, if_neg c4, if_neg c5, if_neg c6, if_neg c7, if_pos c8]), (by rw [show th_X8_elevator N U now th pr mo F Lx p0 p1 p2 p3 p4 p5 = (2 : Int32) from by unfold th_X8_elevator; rw [if_neg c1, if_neg c2, if_neg c3, if_neg c4, if_neg c5, if_neg c6, if_neg c7, if_pos c8]]; rw [show u_X8_elevator N U now th pr mo F Lx p0 p1 p2 p3 p4 p5 = U from by unfold u_X8_elevator; rw [if_neg c1, if_neg c2, if_neg c3, if_neg c4, if_neg c5, if_neg c6, if_neg c7, if_pos c8]]; rw [show n_X8_elevator N U now th pr mo F Lx p0 p1 p2 p3 p4 p5 = N from by unfold n_X8_elevator; rw [if_neg c1, if_neg c2, if_neg c3, if_neg c4, if_neg c5, if_neg c6, if_neg c7, if_pos c8]]; exact ⟨hO2, ⟨Z, hL2⟩, hF2⟩)⟩ dX8_elevator_95
              · refine lv_aload_n hx hb dX8_elevator_73 rfl (lv_at hl 0 rfl) ?_
                refine lv_iconst (v := (1 : Int32)) hx hb dX8_elevator_74 (by decide) ?_
                refine g_callVi (n9 := 1) (As := [.int (1 : Int32)]) (rest := []) hx hb hml hl.1 hown hts hK hM (c_X8_no l G _ ma tx (0 : Int32) pr mo h0 fa lb (1 : Int32) hO1.1) wm_X8_49 wi_X8_no wl_X8_no wn_X8 wc_X8_no (by decide +kernel) (hM.recv hK (ci := 9) rfl hO1.1) ⟨Nat.le_of_ble_eq_true rfl, Nat.le_of_ble_eq_true rfl⟩ ⟨Nat.le_of_ble_eq_true rfl, Nat.le_of_ble_eq_true rfl⟩ rfl (Nat.le_of_ble_eq_true rfl) rfl dX8_elevator_75 (fun r_75 M9 H locs hq hM => ?_)
                obtain ⟨er, eM9⟩ := hq
                subst er
                replace hM := hM.eq eM9
                obtain ⟨M2, eM2⟩ : ∃ z, z = hu M1 ma tx (.inr (9, [.int (1 : Int32), .ref h0, .ref fa, .ref lb, .int pr, .int mo])) := ⟨_, rfl⟩
                replace hM : Wd G M2 s H locs := hM.eq eM2.symm
                have hO2 : XdR G M2 tx ma h0 fa lb (1 : Int32) pr mo F Lx := by rw [eM2]; exact hO1.setO (1 : Int32) pr mo
                have hL2 : MdR G M2 t h0 Z N U now := by rw [eM2]; exact hL1.frame (Ne.symm d1) (Fr.up hO1.1)
                have hF2 : F3 tx t t2 M M2 := by rw [eM2]; exact F3.tr hF1 (F3.up hO1.1 (Or.inr (Or.inl rfl)))
                exact g_iret hx hb hr hlocks hM (Nat.le_of_ble_eq_true rfl) (Nat.le_of_ble_eq_true rfl) ⟨(by unfold q_X8_elevator; rw [if_neg c1, if_neg c2, if_neg c3, if_neg c4, if_neg c5, if_neg c6, if_pos c7]), (by rw [show th_X8_elevator N U now th pr mo F Lx p0 p1 p2 p3 p4 p5 = (1 : Int32) from by unfold th_X8_elevator; rw [if_neg c1, if_neg c2, if_neg c3, if_neg c4, if_neg c5, if_neg c6, if_pos c7]]; rw [show u_X8_elevator N U now th pr mo F Lx p0 p1 p2 p3 p4 p5 = U from by unfold u_X8_elevator; rw [if_neg c1, if_neg c2, if_neg c3, if_neg c4, if_neg c5, if_neg c6, if_pos c7]]; rw [show n_X8_elevator N U now th pr mo F Lx p0 p1 p2 p3 p4 p5 = N from by unfold n_X8_elevator; rw [if_neg c1, if_neg c2, if_neg c3, if_neg c4, if_neg c5, if_neg c6, if_pos c7]]; exact ⟨hO2, ⟨Z, hL2⟩, hF2⟩)⟩ dX8_elevator_78
def q_X8_price (N : Nat → Nat) (U : Tb) (now th pr mo : Int32) (F Lx : Row) (p0 : Int32) : Int32 := if (t_X8_in_0 p0 (1 : Int32) (999 : Int32)) = 0 then t_X8_no_0 else pr
def th_X8_price (N : Nat → Nat) (U : Tb) (now th pr mo : Int32) (F Lx : Row) (p0 : Int32) : Int32 := if (t_X8_in_0 p0 (1 : Int32) (999 : Int32)) = 0 then (1 : Int32) else (0 : Int32)
def pr_X8_price (N : Nat → Nat) (U : Tb) (now th pr mo : Int32) (F Lx : Row) (p0 : Int32) : Int32 := if (t_X8_in_0 p0 (1 : Int32) (999 : Int32)) = 0 then pr else p0
set_option maxHeartbeats 4000000 in
set_option maxRecDepth 100000 in
theorem c_X8_price (l : Launch) (G : GG) (M : HM) (tx ma h0 fa lb t t2 : Nat) (Z : LZ) (N : Nat → Nat) (U : Tb) (now th pr mo : Int32) (F Lx : Row) (p0 : Int32) (hO : XdR G M tx ma h0 fa lb th pr mo F Lx) (hL : MdR G M t h0 Z N U now) (d1 : tx ≠ t) (d2 : tx ≠ t2) (d3 : t ≠ t2)   : Mi l yX8_price (.code yX8_price cX8_price 3 (some .int) :: AL) 1 22 0 0 [.ref ma, .int p0] G M (fun r M' => r = (q_X8_price N U now th pr mo F Lx p0) ∧ XP G M M' tx ma h0 fa lb t t2 N U now (th_X8_price N U now th pr mo F Lx p0) (pr_X8_price N U now th pr mo F Lx p0) mo F Lx) := by
  refine Mi.go (by decide) (Nat.le_of_ble_eq_true rfl) ?_
  intro p e s m below meth c ls hx hb hr hml hown hlocks hname hts hK hM hl
  have hown : s.vm.findClass RX8 = some m.cls := hown
  have hl : lv_has ls 3 [(0, .ref ma), (1, .int p0)] := hl
  have hn0 := hL.cnt (k := 0) (by decide)
  have hn09 : N 0 ≤ 8 := by have : N 0 ≤ 8 := hn0; omega
  have hn1 := hL.cnt (k := 1) (by decide)
  have hn19 : N 1 ≤ 8 := by have : N 1 ≤ 4 := hn1; omega
  have hn2 := hL.cnt (k := 2) (by decide)
  have hn29 : N 2 ≤ 8 := by have : N 2 ≤ 4 := hn2; omega
  have hn3 := hL.cnt (k := 3) (by decide)
  have hn39 : N 3 ≤ 8 := by have : N 3 ≤ 3 := hn3; omega
  refine lv_aload_n hx hb dX8_price_0 rfl (lv_at hl 0 rfl) ?_
  refine lv_iconst (v := (0 : Int32)) hx hb dX8_price_1 (by decide) ?_
  refine fp_X8_30 hx hb hts hown hK hM hO.1 dX8_price_2 (fun H locs hM => ?_)
  obtain ⟨M1, eM1⟩ : ∃ z, z = hu M ma tx (.inr (9, [.int (0 : Int32), .ref h0, .ref fa, .ref lb, .int pr, .int mo])) := ⟨_, rfl⟩
  replace hM : Wd G M1 s H locs := hM.eq eM1.symm
  have hO1 : XdR G M1 tx ma h0 fa lb (0 : Int32) pr mo F Lx := by rw [eM1]; exact hO.setO (0 : Int32) pr mo
  have hL1 : MdR G M1 t h0 Z N U now := by rw [eM1]; exact hL.frame (Ne.symm d1) (Fr.up hO.1)
  have hF1 : F3 tx t t2 M M1 := by rw [eM1]; exact F3.tr (F3.rf) (F3.up hO.1 (Or.inr (Or.inl rfl)))
  refine lv_iload_n hx hb dX8_price_5 rfl (lv_at hl 1 rfl) ?_
  refine lv_iconst (v := (1 : Int32)) hx hb dX8_price_6 (by decide) ?_
  refine lv_sipush (v := (999 : Int32)) hx hb dX8_price_7 (by decide) ?_
  refine g_callSi (n9 := 3) (As := [.int p0, .int (1 : Int32), .int (999 : Int32)]) (rest := []) hx hb hml hl.1 hown hts hK hM (c_X8_in l G _ p0 (1 : Int32) (999 : Int32) ) wm_X8_36 wt_X8_in wn_X8 wc_X8_in (by decide +kernel) ⟨Nat.le_of_ble_eq_true rfl, Nat.le_of_ble_eq_true rfl⟩ ⟨Nat.le_of_ble_eq_true rfl, Nat.le_of_ble_eq_true rfl⟩ rfl (Nat.le_of_ble_eq_true rfl) rfl dX8_price_10 (fun r_10 M1 H locs hq hM => ?_)
  have hq1 := hq.1.symm
  have hq2 := hq.2.symm
  subst hq1 hq2
  refine lv_if_ne (tgt := 22) hx hb dX8_price_13 (by decide) (fun c1 => ?_) (fun c1 => ?_)
  · refine lv_aload_n hx hb dX8_price_22 rfl (lv_at hl 0 rfl) ?_
    refine fg_X8_23 hx hb hts hown hK hM hO1.1 dX8_price_23 ?_
    refine lv_istore_n (lv' := [(2, .int pr), (0, .ref ma), (1, .int p0)]) hx hb dX8_price_26 rfl hl (by decide) rfl (fun ls hl => ?_)
    refine lv_aload_n hx hb dX8_price_27 rfl (lv_at hl 1 rfl) ?_
    refine lv_iload_n hx hb dX8_price_28 rfl (lv_at hl 2 rfl) ?_
    refine fp_X8_23 hx hb hts hown hK hM hO1.1 dX8_price_29 (fun H locs hM => ?_)
    obtain ⟨M2, eM2⟩ : ∃ z, z = hu M1 ma tx (.inr (9, [.int (0 : Int32), .ref h0, .ref fa, .ref lb, .int p0, .int mo])) := ⟨_, rfl⟩
    replace hM : Wd G M2 s H locs := hM.eq eM2.symm
    have hO2 : XdR G M2 tx ma h0 fa lb (0 : Int32) p0 mo F Lx := by rw [eM2]; exact hO1.setO (0 : Int32) p0 mo
    have hL2 : MdR G M2 t h0 Z N U now := by rw [eM2]; exact hL1.frame (Ne.symm d1) (Fr.up hO1.1)
    have hF2 : F3 tx t t2 M M2 := by rw [eM2]; exact F3.tr hF1 (F3.up hO1.1 (Or.inr (Or.inl rfl)))
    refine lv_iload_n hx hb dX8_price_32 rfl (lv_at hl 0 rfl) ?_
    exact g_iret hx hb hr hlocks hM (Nat.le_of_ble_eq_true rfl) (Nat.le_of_ble_eq_true rfl) ⟨(by unfold q_X8_price; rw [if_neg c1]), (by rw [show th_X8_price N U now th pr mo F Lx p0 = (0 : Int32) from by unfold th_X8_price; rw [if_neg c1]]; rw [show pr_X8_price N U now th pr mo F Lx p0 = p0 from by unfold pr_X8_price; rw [if_neg c1]]; exact ⟨hO2, ⟨Z, hL2⟩, hF2⟩)⟩ dX8_price_33
  · refine lv_aload_n hx hb dX8_price_16 rfl (lv_at hl 0 rfl) ?_
    refine lv_iconst (v := (1 : Int32)) hx hb dX8_price_17 (by decide) ?_
    refine g_callVi (n9 := 1) (As := [.int (1 : Int32)]) (rest := []) hx hb hml hl.1 hown hts hK hM (c_X8_no l G _ ma tx (0 : Int32) pr mo h0 fa lb (1 : Int32) hO1.1) wm_X8_49 wi_X8_no wl_X8_no wn_X8 wc_X8_no (by decide +kernel) (hM.recv hK (ci := 9) rfl hO1.1) ⟨Nat.le_of_ble_eq_true rfl, Nat.le_of_ble_eq_true rfl⟩ ⟨Nat.le_of_ble_eq_true rfl, Nat.le_of_ble_eq_true rfl⟩ rfl (Nat.le_of_ble_eq_true rfl) rfl dX8_price_18 (fun r_18 M9 H locs hq hM => ?_)
    obtain ⟨er, eM9⟩ := hq
    subst er
    replace hM := hM.eq eM9
    obtain ⟨M2, eM2⟩ : ∃ z, z = hu M1 ma tx (.inr (9, [.int (1 : Int32), .ref h0, .ref fa, .ref lb, .int pr, .int mo])) := ⟨_, rfl⟩
    replace hM : Wd G M2 s H locs := hM.eq eM2.symm
    have hO2 : XdR G M2 tx ma h0 fa lb (1 : Int32) pr mo F Lx := by rw [eM2]; exact hO1.setO (1 : Int32) pr mo
    have hL2 : MdR G M2 t h0 Z N U now := by rw [eM2]; exact hL1.frame (Ne.symm d1) (Fr.up hO1.1)
    have hF2 : F3 tx t t2 M M2 := by rw [eM2]; exact F3.tr hF1 (F3.up hO1.1 (Or.inr (Or.inl rfl)))
    exact g_iret hx hb hr hlocks hM (Nat.le_of_ble_eq_true rfl) (Nat.le_of_ble_eq_true rfl) ⟨(by unfold q_X8_price; rw [if_pos c1]), (by rw [show th_X8_price N U now th pr mo F Lx p0 = (1 : Int32) from by unfold th_X8_price; rw [if_pos c1]]; rw [show pr_X8_price N U now th pr mo F Lx p0 = pr from by unfold pr_X8_price; rw [if_pos c1]]; exact ⟨hO2, ⟨Z, hL2⟩, hF2⟩)⟩ dX8_price_21
def q_X8_cut (N : Nat → Nat) (U : Tb) (now th pr mo : Int32) (F Lx : Row) (p0 p1 : Int32) : Int32 := if (t_X8_in_0 p0 (0 : Int32) ((nI (N 1)) - (1 : Int32))) = 0 then t_X8_no_0 else (if p1 = (-1 : Int32) then (0 : Int32) else (if (t_X8_in_0 p1 (0 : Int32) ((nI (N 0)) - (1 : Int32))) = 0 then t_X8_no_0 else (q_X7_sentTo N (tu U 1 (ix p0) (rw11 (U 1 (ix p0) 0) (U 1 (ix p0) 1) (U 1 (ix p0) 2) (U 1 (ix p0) 3) (U 1 (ix p0) 4) (U 1 (ix p0) 5) (U 1 (ix p0) 6) p1 (U 1 (ix p0) 8) (U 1 (ix p0) 9) (U 1 (ix p0) 10))) now p1)))
def th_X8_cut (N : Nat → Nat) (U : Tb) (now th pr mo : Int32) (F Lx : Row) (p0 p1 : Int32) : Int32 := if (t_X8_in_0 p0 (0 : Int32) ((nI (N 1)) - (1 : Int32))) = 0 then (1 : Int32) else (if p1 = (-1 : Int32) then (0 : Int32) else (if (t_X8_in_0 p1 (0 : Int32) ((nI (N 0)) - (1 : Int32))) = 0 then (1 : Int32) else (0 : Int32)))
def u_X8_cut (N : Nat → Nat) (U : Tb) (now th pr mo : Int32) (F Lx : Row) (p0 p1 : Int32) : Tb := if (t_X8_in_0 p0 (0 : Int32) ((nI (N 1)) - (1 : Int32))) = 0 then U else (if p1 = (-1 : Int32) then (tu U 1 (ix p0) (rw11 (U 1 (ix p0) 0) (U 1 (ix p0) 1) (U 1 (ix p0) 2) (U 1 (ix p0) 3) (U 1 (ix p0) 4) (U 1 (ix p0) 5) (U 1 (ix p0) 6) p1 (U 1 (ix p0) 8) (U 1 (ix p0) 9) (U 1 (ix p0) 10))) else (if (t_X8_in_0 p1 (0 : Int32) ((nI (N 0)) - (1 : Int32))) = 0 then U else (tu U 1 (ix p0) (rw11 (U 1 (ix p0) 0) (U 1 (ix p0) 1) (U 1 (ix p0) 2) (U 1 (ix p0) 3) (U 1 (ix p0) 4) (U 1 (ix p0) 5) (U 1 (ix p0) 6) p1 (U 1 (ix p0) 8) (U 1 (ix p0) 9) (U 1 (ix p0) 10)))))
set_option maxHeartbeats 4000000 in
set_option maxRecDepth 100000 in
theorem c_X8_cut (l : Launch) (G : GG) (M : HM) (tx ma h0 fa lb t t2 : Nat) (Z : LZ) (N : Nat → Nat) (U : Tb) (now th pr mo : Int32) (F Lx : Row) (p0 p1 : Int32) (hO : XdR G M tx ma h0 fa lb th pr mo F Lx) (hL : MdR G M t h0 Z N U now) (d1 : tx ≠ t) (d2 : tx ≠ t2) (d3 : t ≠ t2)   : Mi l yX8_cut (.code yX8_cut cX8_cut 3 (some .int) :: AL) 2 43 0 0 [.ref ma, .int p0, .int p1] G M (fun r M' => r = (q_X8_cut N U now th pr mo F Lx p0 p1) ∧ XP G M M' tx ma h0 fa lb t t2 N (u_X8_cut N U now th pr mo F Lx p0 p1) now (th_X8_cut N U now th pr mo F Lx p0 p1) pr mo F Lx) := by
  refine Mi.go (by decide) (Nat.le_of_ble_eq_true rfl) ?_
  intro p e s m below meth c ls hx hb hr hml hown hlocks hname hts hK hM hl
  have hown : s.vm.findClass RX8 = some m.cls := hown
  have hl : lv_has ls 3 [(0, .ref ma), (1, .int p0), (2, .int p1)] := hl
  have hn0 := hL.cnt (k := 0) (by decide)
  have hn09 : N 0 ≤ 8 := by have : N 0 ≤ 8 := hn0; omega
  have hn1 := hL.cnt (k := 1) (by decide)
  have hn19 : N 1 ≤ 8 := by have : N 1 ≤ 4 := hn1; omega
  have hn2 := hL.cnt (k := 2) (by decide)
  have hn29 : N 2 ≤ 8 := by have : N 2 ≤ 4 := hn2; omega
  have hn3 := hL.cnt (k := 3) (by decide)
  have hn39 : N 3 ≤ 8 := by have : N 3 ≤ 3 := hn3; omega
  refine lv_aload_n hx hb dX8_cut_0 rfl (lv_at hl 0 rfl) ?_
  refine lv_iconst (v := (0 : Int32)) hx hb dX8_cut_1 (by decide) ?_
  refine fp_X8_30 hx hb hts hown hK hM hO.1 dX8_cut_2 (fun H locs hM => ?_)
  obtain ⟨M1, eM1⟩ : ∃ z, z = hu M ma tx (.inr (9, [.int (0 : Int32), .ref h0, .ref fa, .ref lb, .int pr, .int mo])) := ⟨_, rfl⟩
  replace hM : Wd G M1 s H locs := hM.eq eM1.symm
  have hO1 : XdR G M1 tx ma h0 fa lb (0 : Int32) pr mo F Lx := by rw [eM1]; exact hO.setO (0 : Int32) pr mo
  have hL1 : MdR G M1 t h0 Z N U now := by rw [eM1]; exact hL.frame (Ne.symm d1) (Fr.up hO.1)
  have hF1 : F3 tx t t2 M M1 := by rw [eM1]; exact F3.tr (F3.rf) (F3.up hO.1 (Or.inr (Or.inl rfl)))
  refine lv_aload_n hx hb dX8_cut_5 rfl (lv_at hl 0 rfl) ?_
  refine lv_iload_n hx hb dX8_cut_6 rfl (lv_at hl 1 rfl) ?_
  refine g_callVi (n9 := 1) (As := [.int p0]) (rest := []) hx hb hml hl.1 hown hts hK hM (c_X8_isCombine l G _ tx ma h0 fa lb t t2 Z N U now (0 : Int32) pr mo F Lx p0 hO1 hL1) wm_X8_79 wi_X8_isCombine wl_X8_isCombine wn_X8 wc_X8_isCombine (by decide +kernel) (hM.recv hK (ci := 9) rfl hO1.1) ⟨Nat.le_of_ble_eq_true rfl, Nat.le_of_ble_eq_true rfl⟩ ⟨Nat.le_of_ble_eq_true rfl, Nat.le_of_ble_eq_true rfl⟩ rfl (Nat.le_of_ble_eq_true rfl) rfl dX8_cut_7 (fun r_7 Mz H locs hq hM => ?_)
  have hq1 := hq.1.symm
  have hq2 := hq.2.symm
  subst hq1 hq2
  refine lv_if_eq (tgt := 26) hx hb dX8_cut_10 (by decide) (fun c1 => ?_) (fun c1 => ?_)
  · refine lv_aload_n hx hb dX8_cut_26 rfl (lv_at hl 0 rfl) ?_
    refine lv_iconst (v := (1 : Int32)) hx hb dX8_cut_27 (by decide) ?_
    refine g_callVi (n9 := 1) (As := [.int (1 : Int32)]) (rest := []) hx hb hml hl.1 hown hts hK hM (c_X8_no l G _ ma tx (0 : Int32) pr mo h0 fa lb (1 : Int32) hO1.1) wm_X8_49 wi_X8_no wl_X8_no wn_X8 wc_X8_no (by decide +kernel) (hM.recv hK (ci := 9) rfl hO1.1) ⟨Nat.le_of_ble_eq_true rfl, Nat.le_of_ble_eq_true rfl⟩ ⟨Nat.le_of_ble_eq_true rfl, Nat.le_of_ble_eq_true rfl⟩ rfl (Nat.le_of_ble_eq_true rfl) rfl dX8_cut_28 (fun r_28 M9 H locs hq hM => ?_)
    obtain ⟨er, eM9⟩ := hq
    subst er
    replace hM := hM.eq eM9
    obtain ⟨M2, eM2⟩ : ∃ z, z = hu M1 ma tx (.inr (9, [.int (1 : Int32), .ref h0, .ref fa, .ref lb, .int pr, .int mo])) := ⟨_, rfl⟩
    replace hM : Wd G M2 s H locs := hM.eq eM2.symm
    have hO2 : XdR G M2 tx ma h0 fa lb (1 : Int32) pr mo F Lx := by rw [eM2]; exact hO1.setO (1 : Int32) pr mo
    have hL2 : MdR G M2 t h0 Z N U now := by rw [eM2]; exact hL1.frame (Ne.symm d1) (Fr.up hO1.1)
    have hF2 : F3 tx t t2 M M2 := by rw [eM2]; exact F3.tr hF1 (F3.up hO1.1 (Or.inr (Or.inl rfl)))
    exact g_iret hx hb hr hlocks hM (Nat.le_of_ble_eq_true rfl) (Nat.le_of_ble_eq_true rfl) ⟨(by unfold q_X8_cut; rw [if_pos c1]), (by rw [show th_X8_cut N U now th pr mo F Lx p0 p1 = (1 : Int32) from by unfold th_X8_cut; rw [if_pos c1]]; rw [show u_X8_cut N U now th pr mo F Lx p0 p1 = U from by unfold u_X8_cut; rw [if_pos c1]]; exact ⟨hO2, ⟨Z, hL2⟩, hF2⟩)⟩ dX8_cut_31
  · refine lv_iload_n hx hb dX8_cut_13 rfl (lv_at hl 2 rfl) ?_
    refine lv_iconst (v := (-1 : Int32)) hx hb dX8_cut_14 (by decide) ?_
    refine lv_icmp_eq (tgt := 32) hx hb dX8_cut_15 (by decide) (fun c2 => ?_) (fun c2 => ?_)
    · refine lv_aload_n hx hb dX8_cut_32 rfl (lv_at hl 0 rfl) ?_
      refine fg_X8_10 hx hb hts hown hK hM hO1.1 dX8_cut_33 ?_
      refine fg_X8_70 hx hb hts hown hK hM hL1.1 dX8_cut_36 ?_
      refine lv_iload_n hx hb dX8_cut_39 rfl (lv_at hl 1 rfl) ?_
      have hg3 := inN9 c1 hn19
      refine g_aaldR hx hb hK hM (hL1.outer (k := 1) (by decide)) hg3.1 (Nat.lt_of_lt_of_le hg3.2 hn1) dX8_cut_40 ?_
      refine lv_bipush (v := (7 : Int32)) hx hb dX8_cut_41 (by decide) ?_
      refine lv_iload_n hx hb dX8_cut_43 rfl (lv_at hl 2 rfl) ?_
      refine is11_7 hx hb hK hM (hL1.row (k := 1) (by decide) (Nat.lt_of_lt_of_le hg3.2 hn1)) dX8_cut_44 (fun H locs hM => ?_)
      refine lv_iload_n hx hb dX8_cut_45 rfl (lv_at hl 2 rfl) ?_
      refine lv_iconst (v := (-1 : Int32)) hx hb dX8_cut_46 (by decide) ?_
      refine lv_icmp_ne (tgt := 54) hx hb dX8_cut_47 (by decide) (fun c4 => ?_) (fun c4 => ?_)
      · exact absurd c2 c4
      · refine lv_iconst (v := (0 : Int32)) hx hb dX8_cut_50 (by decide) ?_
        refine lv_goto (tgt := 62) hx hb dX8_cut_51 (by decide) ?_
        obtain ⟨M2, eM2⟩ : ∃ z, z = hu M1 (Z.2.1 1 (ix p0)) t (.inl (G.2.1 0, 11, .inl (rw11 (U 1 (ix p0) 0) (U 1 (ix p0) 1) (U 1 (ix p0) 2) (U 1 (ix p0) 3) (U 1 (ix p0) 4) (U 1 (ix p0) 5) (U 1 (ix p0) 6) p1 (U 1 (ix p0) 8) (U 1 (ix p0) 9) (U 1 (ix p0) 10)))) := ⟨_, rfl⟩
        rw [← eM2] at hM
        have hO2 : XdR G M2 tx ma h0 fa lb (0 : Int32) pr mo F Lx := by rw [eM2]; exact hO1.frame d1 (Fr.up (hL1.row (k := 1) (by decide) (Nat.lt_of_lt_of_le hg3.2 hn1)))
        have hL2 : MdR G M2 t h0 Z N (tu U 1 (ix p0) (rw11 (U 1 (ix p0) 0) (U 1 (ix p0) 1) (U 1 (ix p0) 2) (U 1 (ix p0) 3) (U 1 (ix p0) 4) (U 1 (ix p0) 5) (U 1 (ix p0) 6) p1 (U 1 (ix p0) 8) (U 1 (ix p0) 9) (U 1 (ix p0) 10))) now := by rw [eM2]; exact hL1.setRow (k := 1) (by decide) (Nat.lt_of_lt_of_le hg3.2 hn1) (rw11 (U 1 (ix p0) 0) (U 1 (ix p0) 1) (U 1 (ix p0) 2) (U 1 (ix p0) 3) (U 1 (ix p0) 4) (U 1 (ix p0) 5) (U 1 (ix p0) 6) p1 (U 1 (ix p0) 8) (U 1 (ix p0) 9) (U 1 (ix p0) 10))
        have hF2 : F3 tx t t2 M M2 := by rw [eM2]; exact F3.tr hF1 (F3.up (hL1.row (k := 1) (by decide) (Nat.lt_of_lt_of_le hg3.2 hn1)) (Or.inl rfl))
        have hr2_0 : M2 (Z.2.1 1 (ix p0)) = some (t, (.inl (G.2.1 0, 11, .inl (rw11 (U 1 (ix p0) 0) (U 1 (ix p0) 1) (U 1 (ix p0) 2) (U 1 (ix p0) 3) (U 1 (ix p0) 4) (U 1 (ix p0) 5) (U 1 (ix p0) 6) p1 (U 1 (ix p0) 8) (U 1 (ix p0) 9) (U 1 (ix p0) 10))))) := by rw [eM2]; exact hu_s
        exact g_iret hx hb hr hlocks hM (Nat.le_of_ble_eq_true rfl) (Nat.le_of_ble_eq_true rfl) ⟨(by unfold q_X8_cut; rw [if_neg c1, if_pos c2]), (by rw [show th_X8_cut N U now th pr mo F Lx p0 p1 = (0 : Int32) from by unfold th_X8_cut; rw [if_neg c1, if_pos c2]]; rw [show u_X8_cut N U now th pr mo F Lx p0 p1 = (tu U 1 (ix p0) (rw11 (U 1 (ix p0) 0) (U 1 (ix p0) 1) (U 1 (ix p0) 2) (U 1 (ix p0) 3) (U 1 (ix p0) 4) (U 1 (ix p0) 5) (U 1 (ix p0) 6) p1 (U 1 (ix p0) 8) (U 1 (ix p0) 9) (U 1 (ix p0) 10))) from by unfold u_X8_cut; rw [if_neg c1, if_pos c2]]; exact ⟨hO2, ⟨Z, hL2⟩, hF2⟩)⟩ dX8_cut_62
    · refine lv_aload_n hx hb dX8_cut_18 rfl (lv_at hl 0 rfl) ?_
      refine lv_iload_n hx hb dX8_cut_19 rfl (lv_at hl 2 rfl) ?_
      refine g_callVi (n9 := 1) (As := [.int p1]) (rest := []) hx hb hml hl.1 hown hts hK hM (c_X8_isField l G _ tx ma h0 fa lb t t2 Z N U now (0 : Int32) pr mo F Lx p1 hO1 hL1) wm_X8_67 wi_X8_isField wl_X8_isField wn_X8 wc_X8_isField (by decide +kernel) (hM.recv hK (ci := 9) rfl hO1.1) ⟨Nat.le_of_ble_eq_true rfl, Nat.le_of_ble_eq_true rfl⟩ ⟨Nat.le_of_ble_eq_true rfl, Nat.le_of_ble_eq_true rfl⟩ rfl (Nat.le_of_ble_eq_true rfl) rfl dX8_cut_20 (fun r_20 Mz H locs hq hM => ?_)
      have hq1 := hq.1.symm
      have hq2 := hq.2.symm
      subst hq1 hq2
      refine lv_if_ne (tgt := 32) hx hb dX8_cut_23 (by decide) (fun c5 => ?_) (fun c5 => ?_)
      · refine lv_aload_n hx hb dX8_cut_32 rfl (lv_at hl 0 rfl) ?_
        refine fg_X8_10 hx hb hts hown hK hM hO1.1 dX8_cut_33 ?_
        refine fg_X8_70 hx hb hts hown hK hM hL1.1 dX8_cut_36 ?_
        refine lv_iload_n hx hb dX8_cut_39 rfl (lv_at hl 1 rfl) ?_
        have hg6 := inN9 c1 hn19
        refine g_aaldR hx hb hK hM (hL1.outer (k := 1) (by decide)) hg6.1 (Nat.lt_of_lt_of_le hg6.2 hn1) dX8_cut_40 ?_
        refine lv_bipush (v := (7 : Int32)) hx hb dX8_cut_41 (by decide) ?_
        refine lv_iload_n hx hb dX8_cut_43 rfl (lv_at hl 2 rfl) ?_
        refine is11_7 hx hb hK hM (hL1.row (k := 1) (by decide) (Nat.lt_of_lt_of_le hg6.2 hn1)) dX8_cut_44 (fun H locs hM => ?_)
        refine lv_iload_n hx hb dX8_cut_45 rfl (lv_at hl 2 rfl) ?_
        refine lv_iconst (v := (-1 : Int32)) hx hb dX8_cut_46 (by decide) ?_
        refine lv_icmp_ne (tgt := 54) hx hb dX8_cut_47 (by decide) (fun c7 => ?_) (fun c7 => ?_)
        · refine lv_aload_n hx hb dX8_cut_54 rfl (lv_at hl 0 rfl) ?_
          refine fg_X8_10 hx hb hts hown hK hM (hu_n (hu_ne hO1.1 (hL1.row (k := 1) (by decide) (Nat.lt_of_lt_of_le hg6.2 hn1)) (rg_ne d1)) hO1.1) dX8_cut_55 ?_
          refine lv_iload_n hx hb dX8_cut_58 rfl (lv_at hl 2 rfl) ?_
          obtain ⟨M2, eM2⟩ : ∃ z, z = hu M1 (Z.2.1 1 (ix p0)) t (.inl (G.2.1 0, 11, .inl (rw11 (U 1 (ix p0) 0) (U 1 (ix p0) 1) (U 1 (ix p0) 2) (U 1 (ix p0) 3) (U 1 (ix p0) 4) (U 1 (ix p0) 5) (U 1 (ix p0) 6) p1 (U 1 (ix p0) 8) (U 1 (ix p0) 9) (U 1 (ix p0) 10)))) := ⟨_, rfl⟩
          rw [← eM2] at hM
          have hO2 : XdR G M2 tx ma h0 fa lb (0 : Int32) pr mo F Lx := by rw [eM2]; exact hO1.frame d1 (Fr.up (hL1.row (k := 1) (by decide) (Nat.lt_of_lt_of_le hg6.2 hn1)))
          have hL2 : MdR G M2 t h0 Z N (tu U 1 (ix p0) (rw11 (U 1 (ix p0) 0) (U 1 (ix p0) 1) (U 1 (ix p0) 2) (U 1 (ix p0) 3) (U 1 (ix p0) 4) (U 1 (ix p0) 5) (U 1 (ix p0) 6) p1 (U 1 (ix p0) 8) (U 1 (ix p0) 9) (U 1 (ix p0) 10))) now := by rw [eM2]; exact hL1.setRow (k := 1) (by decide) (Nat.lt_of_lt_of_le hg6.2 hn1) (rw11 (U 1 (ix p0) 0) (U 1 (ix p0) 1) (U 1 (ix p0) 2) (U 1 (ix p0) 3) (U 1 (ix p0) 4) (U 1 (ix p0) 5) (U 1 (ix p0) 6) p1 (U 1 (ix p0) 8) (U 1 (ix p0) 9) (U 1 (ix p0) 10))
          have hF2 : F3 tx t t2 M M2 := by rw [eM2]; exact F3.tr hF1 (F3.up (hL1.row (k := 1) (by decide) (Nat.lt_of_lt_of_le hg6.2 hn1)) (Or.inl rfl))
          have hr2_0 : M2 (Z.2.1 1 (ix p0)) = some (t, (.inl (G.2.1 0, 11, .inl (rw11 (U 1 (ix p0) 0) (U 1 (ix p0) 1) (U 1 (ix p0) 2) (U 1 (ix p0) 3) (U 1 (ix p0) 4) (U 1 (ix p0) 5) (U 1 (ix p0) 6) p1 (U 1 (ix p0) 8) (U 1 (ix p0) 9) (U 1 (ix p0) 10))))) := by rw [eM2]; exact hu_s
          refine g_callVi (n9 := 1) (As := [.int p1]) (rest := []) hx hb hml hl.1 hown hts hK hM (c_X7_sentTo l G _ t h0 Z N (tu U 1 (ix p0) (rw11 (U 1 (ix p0) 0) (U 1 (ix p0) 1) (U 1 (ix p0) 2) (U 1 (ix p0) 3) (U 1 (ix p0) 4) (U 1 (ix p0) 5) (U 1 (ix p0) 6) p1 (U 1 (ix p0) 8) (U 1 (ix p0) 9) (U 1 (ix p0) 10))) now p1 hL2) wm_X8_82 wi_X7_sentTo wl_X7_sentTo wn_X7 wc_X7_sentTo (by decide +kernel) (hM.recv hK (ci := 8) rfl hL2.1) ⟨Nat.le_of_ble_eq_true rfl, Nat.le_of_ble_eq_true rfl⟩ ⟨Nat.le_of_ble_eq_true rfl, Nat.le_of_ble_eq_true rfl⟩ rfl (Nat.le_of_ble_eq_true rfl) rfl dX8_cut_59 (fun r_59 Mz H locs hq hM => ?_)
          have hq1 := hq.1.symm
          have hq2 := hq.2.symm
          subst hq1 hq2
          exact g_iret hx hb hr hlocks hM (Nat.le_of_ble_eq_true rfl) (Nat.le_of_ble_eq_true rfl) ⟨(by unfold q_X8_cut; rw [if_neg c1, if_neg c2, if_neg c5]), (by rw [show th_X8_cut N U now th pr mo F Lx p0 p1 = (0 : Int32) from by unfold th_X8_cut; rw [if_neg c1, if_neg c2, if_neg c5]]; rw [show u_X8_cut N U now th pr mo F Lx p0 p1 = (tu U 1 (ix p0) (rw11 (U 1 (ix p0) 0) (U 1 (ix p0) 1) (U 1 (ix p0) 2) (U 1 (ix p0) 3) (U 1 (ix p0) 4) (U 1 (ix p0) 5) (U 1 (ix p0) 6) p1 (U 1 (ix p0) 8) (U 1 (ix p0) 9) (U 1 (ix p0) 10))) from by unfold u_X8_cut; rw [if_neg c1, if_neg c2, if_neg c5]]; exact ⟨hO2, ⟨Z, hL2⟩, hF2⟩)⟩ dX8_cut_62
        · exact absurd c7 c2
      · refine lv_aload_n hx hb dX8_cut_26 rfl (lv_at hl 0 rfl) ?_
        refine lv_iconst (v := (1 : Int32)) hx hb dX8_cut_27 (by decide) ?_
        refine g_callVi (n9 := 1) (As := [.int (1 : Int32)]) (rest := []) hx hb hml hl.1 hown hts hK hM (c_X8_no l G _ ma tx (0 : Int32) pr mo h0 fa lb (1 : Int32) hO1.1) wm_X8_49 wi_X8_no wl_X8_no wn_X8 wc_X8_no (by decide +kernel) (hM.recv hK (ci := 9) rfl hO1.1) ⟨Nat.le_of_ble_eq_true rfl, Nat.le_of_ble_eq_true rfl⟩ ⟨Nat.le_of_ble_eq_true rfl, Nat.le_of_ble_eq_true rfl⟩ rfl (Nat.le_of_ble_eq_true rfl) rfl dX8_cut_28 (fun r_28 M9 H locs hq hM => ?_)
        obtain ⟨er, eM9⟩ := hq
        subst er
        replace hM := hM.eq eM9
        obtain ⟨M2, eM2⟩ : ∃ z, z = hu M1 ma tx (.inr (9, [.int (1 : Int32), .ref h0, .ref fa, .ref lb, .int pr, .int mo])) := ⟨_, rfl⟩
        replace hM : Wd G M2 s H locs := hM.eq eM2.symm
        have hO2 : XdR G M2 tx ma h0 fa lb (1 : Int32) pr mo F Lx := by rw [eM2]; exact hO1.setO (1 : Int32) pr mo
        have hL2 : MdR G M2 t h0 Z N U now := by rw [eM2]; exact hL1.frame (Ne.symm d1) (Fr.up hO1.1)
        have hF2 : F3 tx t t2 M M2 := by rw [eM2]; exact F3.tr hF1 (F3.up hO1.1 (Or.inr (Or.inl rfl)))
        exact g_iret hx hb hr hlocks hM (Nat.le_of_ble_eq_true rfl) (Nat.le_of_ble_eq_true rfl) ⟨(by unfold q_X8_cut; rw [if_neg c1, if_neg c2, if_pos c5]), (by rw [show th_X8_cut N U now th pr mo F Lx p0 p1 = (1 : Int32) from by unfold th_X8_cut; rw [if_neg c1, if_neg c2, if_pos c5]]; rw [show u_X8_cut N U now th pr mo F Lx p0 p1 = U from by unfold u_X8_cut; rw [if_neg c1, if_neg c2, if_pos c5]]; exact ⟨hO2, ⟨Z, hL2⟩, hF2⟩)⟩ dX8_cut_31
def q_X8_fetch (N : Nat → Nat) (U : Tb) (now th pr mo : Int32) (F Lx : Row) (p0 p1 : Int32) : Int32 := if (t_X8_in_0 p0 (0 : Int32) ((nI (N 2)) - (1 : Int32))) = 0 then t_X8_no_0 else (if (t_X8_in_0 p1 (0 : Int32) ((nI (N 1)) - (1 : Int32))) = 0 then t_X8_no_0 else (q_X8_send N U now (0 : Int32) pr mo F Lx p0 (1 : Int32) p1 (U 1 (ix p1) 1)))
def th_X8_fetch (N : Nat → Nat) (U : Tb) (now th pr mo : Int32) (F Lx : Row) (p0 p1 : Int32) : Int32 := if (t_X8_in_0 p0 (0 : Int32) ((nI (N 2)) - (1 : Int32))) = 0 then (1 : Int32) else (if (t_X8_in_0 p1 (0 : Int32) ((nI (N 1)) - (1 : Int32))) = 0 then (1 : Int32) else (0 : Int32))
def u_X8_fetch (N : Nat → Nat) (U : Tb) (now th pr mo : Int32) (F Lx : Row) (p0 p1 : Int32) : Tb := if (t_X8_in_0 p0 (0 : Int32) ((nI (N 2)) - (1 : Int32))) = 0 then U else (if (t_X8_in_0 p1 (0 : Int32) ((nI (N 1)) - (1 : Int32))) = 0 then U else (tu U 2 (ix p0) (rw10 (1 : Int32) (U 2 (ix p0) 1) (U 2 (ix p0) 2) (U 2 (ix p0) 3) (U 2 (ix p0) 4) (U 2 (ix p0) 5) (U 2 (ix p0) 6) p1 (U 2 (ix p0) 8) (U 2 (ix p0) 9))))
set_option maxHeartbeats 4000000 in
set_option maxRecDepth 100000 in
theorem c_X8_fetch (l : Launch) (G : GG) (M : HM) (tx ma h0 fa lb t t2 : Nat) (Z : LZ) (N : Nat → Nat) (U : Tb) (now th pr mo : Int32) (F Lx : Row) (p0 p1 : Int32) (hO : XdR G M tx ma h0 fa lb th pr mo F Lx) (hL : MdR G M t h0 Z N U now) (d1 : tx ≠ t) (d2 : tx ≠ t2) (d3 : t ≠ t2)   : Mi l yX8_fetch (.code yX8_fetch cX8_fetch 3 (some .int) :: AL) 2 46 0 0 [.ref ma, .int p0, .int p1] G M (fun r M' => r = (q_X8_fetch N U now th pr mo F Lx p0 p1) ∧ XP G M M' tx ma h0 fa lb t t2 N (u_X8_fetch N U now th pr mo F Lx p0 p1) now (th_X8_fetch N U now th pr mo F Lx p0 p1) pr mo F Lx) := by
  refine Mi.go (by decide) (Nat.le_of_ble_eq_true rfl) ?_
  intro p e s m below meth c ls hx hb hr hml hown hlocks hname hts hK hM hl
  have hown : s.vm.findClass RX8 = some m.cls := hown
  have hl : lv_has ls 3 [(0, .ref ma), (1, .int p0), (2, .int p1)] := hl
  have hn0 := hL.cnt (k := 0) (by decide)
  have hn09 : N 0 ≤ 8 := by have : N 0 ≤ 8 := hn0; omega
  have hn1 := hL.cnt (k := 1) (by decide)
  have hn19 : N 1 ≤ 8 := by have : N 1 ≤ 4 := hn1; omega
  have hn2 := hL.cnt (k := 2) (by decide)
  have hn29 : N 2 ≤ 8 := by have : N 2 ≤ 4 := hn2; omega
  have hn3 := hL.cnt (k := 3) (by decide)
  have hn39 : N 3 ≤ 8 := by have : N 3 ≤ 3 := hn3; omega
  refine lv_aload_n hx hb dX8_fetch_0 rfl (lv_at hl 0 rfl) ?_
  refine lv_iconst (v := (0 : Int32)) hx hb dX8_fetch_1 (by decide) ?_
  refine fp_X8_30 hx hb hts hown hK hM hO.1 dX8_fetch_2 (fun H locs hM => ?_)
  obtain ⟨M1, eM1⟩ : ∃ z, z = hu M ma tx (.inr (9, [.int (0 : Int32), .ref h0, .ref fa, .ref lb, .int pr, .int mo])) := ⟨_, rfl⟩
  replace hM : Wd G M1 s H locs := hM.eq eM1.symm
  have hO1 : XdR G M1 tx ma h0 fa lb (0 : Int32) pr mo F Lx := by rw [eM1]; exact hO.setO (0 : Int32) pr mo
  have hL1 : MdR G M1 t h0 Z N U now := by rw [eM1]; exact hL.frame (Ne.symm d1) (Fr.up hO.1)
  have hF1 : F3 tx t t2 M M1 := by rw [eM1]; exact F3.tr (F3.rf) (F3.up hO.1 (Or.inr (Or.inl rfl)))
  refine lv_aload_n hx hb dX8_fetch_5 rfl (lv_at hl 0 rfl) ?_
  refine lv_iload_n hx hb dX8_fetch_6 rfl (lv_at hl 1 rfl) ?_
  refine g_callVi (n9 := 1) (As := [.int p0]) (rest := []) hx hb hml hl.1 hown hts hK hM (c_X8_isTruck l G _ tx ma h0 fa lb t t2 Z N U now (0 : Int32) pr mo F Lx p0 hO1 hL1) wm_X8_90 wi_X8_isTruck wl_X8_isTruck wn_X8 wc_X8_isTruck (by decide +kernel) (hM.recv hK (ci := 9) rfl hO1.1) ⟨Nat.le_of_ble_eq_true rfl, Nat.le_of_ble_eq_true rfl⟩ ⟨Nat.le_of_ble_eq_true rfl, Nat.le_of_ble_eq_true rfl⟩ rfl (Nat.le_of_ble_eq_true rfl) rfl dX8_fetch_7 (fun r_7 Mz H locs hq hM => ?_)
  have hq1 := hq.1.symm
  have hq2 := hq.2.symm
  subst hq1 hq2
  refine lv_if_eq (tgt := 21) hx hb dX8_fetch_10 (by decide) (fun c1 => ?_) (fun c1 => ?_)
  · refine lv_aload_n hx hb dX8_fetch_21 rfl (lv_at hl 0 rfl) ?_
    refine lv_iconst (v := (1 : Int32)) hx hb dX8_fetch_22 (by decide) ?_
    refine g_callVi (n9 := 1) (As := [.int (1 : Int32)]) (rest := []) hx hb hml hl.1 hown hts hK hM (c_X8_no l G _ ma tx (0 : Int32) pr mo h0 fa lb (1 : Int32) hO1.1) wm_X8_49 wi_X8_no wl_X8_no wn_X8 wc_X8_no (by decide +kernel) (hM.recv hK (ci := 9) rfl hO1.1) ⟨Nat.le_of_ble_eq_true rfl, Nat.le_of_ble_eq_true rfl⟩ ⟨Nat.le_of_ble_eq_true rfl, Nat.le_of_ble_eq_true rfl⟩ rfl (Nat.le_of_ble_eq_true rfl) rfl dX8_fetch_23 (fun r_23 M9 H locs hq hM => ?_)
    obtain ⟨er, eM9⟩ := hq
    subst er
    replace hM := hM.eq eM9
    obtain ⟨M2, eM2⟩ : ∃ z, z = hu M1 ma tx (.inr (9, [.int (1 : Int32), .ref h0, .ref fa, .ref lb, .int pr, .int mo])) := ⟨_, rfl⟩
    replace hM : Wd G M2 s H locs := hM.eq eM2.symm
    have hO2 : XdR G M2 tx ma h0 fa lb (1 : Int32) pr mo F Lx := by rw [eM2]; exact hO1.setO (1 : Int32) pr mo
    have hL2 : MdR G M2 t h0 Z N U now := by rw [eM2]; exact hL1.frame (Ne.symm d1) (Fr.up hO1.1)
    have hF2 : F3 tx t t2 M M2 := by rw [eM2]; exact F3.tr hF1 (F3.up hO1.1 (Or.inr (Or.inl rfl)))
    exact g_iret hx hb hr hlocks hM (Nat.le_of_ble_eq_true rfl) (Nat.le_of_ble_eq_true rfl) ⟨(by unfold q_X8_fetch; rw [if_pos c1]), (by rw [show th_X8_fetch N U now th pr mo F Lx p0 p1 = (1 : Int32) from by unfold th_X8_fetch; rw [if_pos c1]]; rw [show u_X8_fetch N U now th pr mo F Lx p0 p1 = U from by unfold u_X8_fetch; rw [if_pos c1]]; exact ⟨hO2, ⟨Z, hL2⟩, hF2⟩)⟩ dX8_fetch_26
  · refine lv_aload_n hx hb dX8_fetch_13 rfl (lv_at hl 0 rfl) ?_
    refine lv_iload_n hx hb dX8_fetch_14 rfl (lv_at hl 2 rfl) ?_
    refine g_callVi (n9 := 1) (As := [.int p1]) (rest := []) hx hb hml hl.1 hown hts hK hM (c_X8_isCombine l G _ tx ma h0 fa lb t t2 Z N U now (0 : Int32) pr mo F Lx p1 hO1 hL1) wm_X8_79 wi_X8_isCombine wl_X8_isCombine wn_X8 wc_X8_isCombine (by decide +kernel) (hM.recv hK (ci := 9) rfl hO1.1) ⟨Nat.le_of_ble_eq_true rfl, Nat.le_of_ble_eq_true rfl⟩ ⟨Nat.le_of_ble_eq_true rfl, Nat.le_of_ble_eq_true rfl⟩ rfl (Nat.le_of_ble_eq_true rfl) rfl dX8_fetch_15 (fun r_15 Mz H locs hq hM => ?_)
    have hq1 := hq.1.symm
    have hq2 := hq.2.symm
    subst hq1 hq2
    refine lv_if_ne (tgt := 27) hx hb dX8_fetch_18 (by decide) (fun c2 => ?_) (fun c2 => ?_)
    · refine lv_aload_n hx hb dX8_fetch_27 rfl (lv_at hl 0 rfl) ?_
      refine lv_iload_n hx hb dX8_fetch_28 rfl (lv_at hl 1 rfl) ?_
      refine lv_iconst (v := (1 : Int32)) hx hb dX8_fetch_29 (by decide) ?_
      refine lv_iload_n hx hb dX8_fetch_30 rfl (lv_at hl 2 rfl) ?_
      refine lv_aload_n hx hb dX8_fetch_31 rfl (lv_at hl 0 rfl) ?_
      refine fg_X8_10 hx hb hts hown hK hM hO1.1 dX8_fetch_32 ?_
      refine fg_X8_70 hx hb hts hown hK hM hL1.1 dX8_fetch_35 ?_
      refine lv_iload_n hx hb dX8_fetch_38 rfl (lv_at hl 2 rfl) ?_
      have hg3 := inN9 c2 hn19
      refine g_aaldR hx hb hK hM (hL1.outer (k := 1) (by decide)) hg3.1 (Nat.lt_of_lt_of_le hg3.2 hn1) dX8_fetch_39 ?_
      refine lv_iconst (v := (1 : Int32)) hx hb dX8_fetch_40 (by decide) ?_
      refine ia11_1 hx hb hK hM (hL1.row (k := 1) (by decide) (Nat.lt_of_lt_of_le hg3.2 hn1)) dX8_fetch_41 ?_
      refine g_callVi (n9 := 4) (As := [.int p0, .int (1 : Int32), .int p1, .int (U 1 (ix p1) 1)]) (rest := []) hx hb hml hl.1 hown hts hK hM (c_X8_send l G _ tx ma h0 fa lb t t2 Z N U now (0 : Int32) pr mo F Lx p0 (1 : Int32) p1 (U 1 (ix p1) 1) hO1 hL1 d1 d2 d3 (inN9 c1 hn29)) wm_X8_93 wi_X8_send wl_X8_send wn_X8 wc_X8_send (by decide +kernel) (hM.recv hK (ci := 9) rfl hO1.1) ⟨Nat.le_of_ble_eq_true rfl, Nat.le_of_ble_eq_true rfl⟩ ⟨Nat.le_of_ble_eq_true rfl, Nat.le_of_ble_eq_true rfl⟩ rfl (Nat.le_of_ble_eq_true rfl) rfl dX8_fetch_42 (fun r_42 M7 H locs hq hM => ?_)
      obtain ⟨er, hO7, ⟨Z7, hL7⟩, hF7⟩ := hq
      subst er
      have hF8 := F3.tr hF1 hF7
      exact g_iret hx hb hr hlocks hM (Nat.le_of_ble_eq_true rfl) (Nat.le_of_ble_eq_true rfl) ⟨(by unfold q_X8_fetch; rw [if_neg c1, if_neg c2]), (by rw [show th_X8_fetch N U now th pr mo F Lx p0 p1 = (0 : Int32) from by unfold th_X8_fetch; rw [if_neg c1, if_neg c2]]; rw [show u_X8_fetch N U now th pr mo F Lx p0 p1 = (tu U 2 (ix p0) (rw10 (1 : Int32) (U 2 (ix p0) 1) (U 2 (ix p0) 2) (U 2 (ix p0) 3) (U 2 (ix p0) 4) (U 2 (ix p0) 5) (U 2 (ix p0) 6) p1 (U 2 (ix p0) 8) (U 2 (ix p0) 9))) from by unfold u_X8_fetch; rw [if_neg c1, if_neg c2]]; exact ⟨hO7, ⟨Z7, hL7⟩, hF8⟩)⟩ dX8_fetch_45
    · refine lv_aload_n hx hb dX8_fetch_21 rfl (lv_at hl 0 rfl) ?_
      refine lv_iconst (v := (1 : Int32)) hx hb dX8_fetch_22 (by decide) ?_
      refine g_callVi (n9 := 1) (As := [.int (1 : Int32)]) (rest := []) hx hb hml hl.1 hown hts hK hM (c_X8_no l G _ ma tx (0 : Int32) pr mo h0 fa lb (1 : Int32) hO1.1) wm_X8_49 wi_X8_no wl_X8_no wn_X8 wc_X8_no (by decide +kernel) (hM.recv hK (ci := 9) rfl hO1.1) ⟨Nat.le_of_ble_eq_true rfl, Nat.le_of_ble_eq_true rfl⟩ ⟨Nat.le_of_ble_eq_true rfl, Nat.le_of_ble_eq_true rfl⟩ rfl (Nat.le_of_ble_eq_true rfl) rfl dX8_fetch_23 (fun r_23 M9 H locs hq hM => ?_)
      obtain ⟨er, eM9⟩ := hq
      subst er
      replace hM := hM.eq eM9
      obtain ⟨M2, eM2⟩ : ∃ z, z = hu M1 ma tx (.inr (9, [.int (1 : Int32), .ref h0, .ref fa, .ref lb, .int pr, .int mo])) := ⟨_, rfl⟩
      replace hM : Wd G M2 s H locs := hM.eq eM2.symm
      have hO2 : XdR G M2 tx ma h0 fa lb (1 : Int32) pr mo F Lx := by rw [eM2]; exact hO1.setO (1 : Int32) pr mo
      have hL2 : MdR G M2 t h0 Z N U now := by rw [eM2]; exact hL1.frame (Ne.symm d1) (Fr.up hO1.1)
      have hF2 : F3 tx t t2 M M2 := by rw [eM2]; exact F3.tr hF1 (F3.up hO1.1 (Or.inr (Or.inl rfl)))
      exact g_iret hx hb hr hlocks hM (Nat.le_of_ble_eq_true rfl) (Nat.le_of_ble_eq_true rfl) ⟨(by unfold q_X8_fetch; rw [if_neg c1, if_pos c2]), (by rw [show th_X8_fetch N U now th pr mo F Lx p0 p1 = (1 : Int32) from by unfold th_X8_fetch; rw [if_neg c1, if_pos c2]]; rw [show u_X8_fetch N U now th pr mo F Lx p0 p1 = U from by unfold u_X8_fetch; rw [if_neg c1, if_pos c2]]; exact ⟨hO2, ⟨Z, hL2⟩, hF2⟩)⟩ dX8_fetch_26
def q_X8_haul (N : Nat → Nat) (U : Tb) (now th pr mo : Int32) (F Lx : Row) (p0 p1 : Int32) : Int32 := if (t_X8_in_0 p0 (0 : Int32) ((nI (N 2)) - (1 : Int32))) = 0 then t_X8_no_0 else (if (t_X8_in_0 p1 (0 : Int32) ((nI (N 3)) - (1 : Int32))) = 0 then t_X8_no_0 else (q_X8_send N U now (0 : Int32) pr mo F Lx p0 (2 : Int32) p1 (U 3 (ix p1) 1)))
def th_X8_haul (N : Nat → Nat) (U : Tb) (now th pr mo : Int32) (F Lx : Row) (p0 p1 : Int32) : Int32 := if (t_X8_in_0 p0 (0 : Int32) ((nI (N 2)) - (1 : Int32))) = 0 then (1 : Int32) else (if (t_X8_in_0 p1 (0 : Int32) ((nI (N 3)) - (1 : Int32))) = 0 then (1 : Int32) else (0 : Int32))
def u_X8_haul (N : Nat → Nat) (U : Tb) (now th pr mo : Int32) (F Lx : Row) (p0 p1 : Int32) : Tb := if (t_X8_in_0 p0 (0 : Int32) ((nI (N 2)) - (1 : Int32))) = 0 then U else (if (t_X8_in_0 p1 (0 : Int32) ((nI (N 3)) - (1 : Int32))) = 0 then U else (tu U 2 (ix p0) (rw10 (2 : Int32) (U 2 (ix p0) 1) (U 2 (ix p0) 2) (U 2 (ix p0) 3) (U 2 (ix p0) 4) (U 2 (ix p0) 5) (U 2 (ix p0) 6) p1 (U 2 (ix p0) 8) (U 2 (ix p0) 9))))
set_option maxHeartbeats 4000000 in
set_option maxRecDepth 100000 in
theorem c_X8_haul (l : Launch) (G : GG) (M : HM) (tx ma h0 fa lb t t2 : Nat) (Z : LZ) (N : Nat → Nat) (U : Tb) (now th pr mo : Int32) (F Lx : Row) (p0 p1 : Int32) (hO : XdR G M tx ma h0 fa lb th pr mo F Lx) (hL : MdR G M t h0 Z N U now) (d1 : tx ≠ t) (d2 : tx ≠ t2) (d3 : t ≠ t2)   : Mi l yX8_haul (.code yX8_haul cX8_haul 3 (some .int) :: AL) 2 46 0 0 [.ref ma, .int p0, .int p1] G M (fun r M' => r = (q_X8_haul N U now th pr mo F Lx p0 p1) ∧ XP G M M' tx ma h0 fa lb t t2 N (u_X8_haul N U now th pr mo F Lx p0 p1) now (th_X8_haul N U now th pr mo F Lx p0 p1) pr mo F Lx) := by
  refine Mi.go (by decide) (Nat.le_of_ble_eq_true rfl) ?_
  intro p e s m below meth c ls hx hb hr hml hown hlocks hname hts hK hM hl
  have hown : s.vm.findClass RX8 = some m.cls := hown
  have hl : lv_has ls 3 [(0, .ref ma), (1, .int p0), (2, .int p1)] := hl
  have hn0 := hL.cnt (k := 0) (by decide)
  have hn09 : N 0 ≤ 8 := by have : N 0 ≤ 8 := hn0; omega
  have hn1 := hL.cnt (k := 1) (by decide)
  have hn19 : N 1 ≤ 8 := by have : N 1 ≤ 4 := hn1; omega
  have hn2 := hL.cnt (k := 2) (by decide)
  have hn29 : N 2 ≤ 8 := by have : N 2 ≤ 4 := hn2; omega
  have hn3 := hL.cnt (k := 3) (by decide)
  have hn39 : N 3 ≤ 8 := by have : N 3 ≤ 3 := hn3; omega
  refine lv_aload_n hx hb dX8_haul_0 rfl (lv_at hl 0 rfl) ?_
  refine lv_iconst (v := (0 : Int32)) hx hb dX8_haul_1 (by decide) ?_
  refine fp_X8_30 hx hb hts hown hK hM hO.1 dX8_haul_2 (fun H locs hM => ?_)
  obtain ⟨M1, eM1⟩ : ∃ z, z = hu M ma tx (.inr (9, [.int (0 : Int32), .ref h0, .ref fa, .ref lb, .int pr, .int mo])) := ⟨_, rfl⟩
  replace hM : Wd G M1 s H locs := hM.eq eM1.symm
  have hO1 : XdR G M1 tx ma h0 fa lb (0 : Int32) pr mo F Lx := by rw [eM1]; exact hO.setO (0 : Int32) pr mo
  have hL1 : MdR G M1 t h0 Z N U now := by rw [eM1]; exact hL.frame (Ne.symm d1) (Fr.up hO.1)
  have hF1 : F3 tx t t2 M M1 := by rw [eM1]; exact F3.tr (F3.rf) (F3.up hO.1 (Or.inr (Or.inl rfl)))
  refine lv_aload_n hx hb dX8_haul_5 rfl (lv_at hl 0 rfl) ?_
  refine lv_iload_n hx hb dX8_haul_6 rfl (lv_at hl 1 rfl) ?_
  refine g_callVi (n9 := 1) (As := [.int p0]) (rest := []) hx hb hml hl.1 hown hts hK hM (c_X8_isTruck l G _ tx ma h0 fa lb t t2 Z N U now (0 : Int32) pr mo F Lx p0 hO1 hL1) wm_X8_90 wi_X8_isTruck wl_X8_isTruck wn_X8 wc_X8_isTruck (by decide +kernel) (hM.recv hK (ci := 9) rfl hO1.1) ⟨Nat.le_of_ble_eq_true rfl, Nat.le_of_ble_eq_true rfl⟩ ⟨Nat.le_of_ble_eq_true rfl, Nat.le_of_ble_eq_true rfl⟩ rfl (Nat.le_of_ble_eq_true rfl) rfl dX8_haul_7 (fun r_7 Mz H locs hq hM => ?_)
  have hq1 := hq.1.symm
  have hq2 := hq.2.symm
  subst hq1 hq2
  refine lv_if_eq (tgt := 21) hx hb dX8_haul_10 (by decide) (fun c1 => ?_) (fun c1 => ?_)
  · refine lv_aload_n hx hb dX8_haul_21 rfl (lv_at hl 0 rfl) ?_
    refine lv_iconst (v := (1 : Int32)) hx hb dX8_haul_22 (by decide) ?_
    refine g_callVi (n9 := 1) (As := [.int (1 : Int32)]) (rest := []) hx hb hml hl.1 hown hts hK hM (c_X8_no l G _ ma tx (0 : Int32) pr mo h0 fa lb (1 : Int32) hO1.1) wm_X8_49 wi_X8_no wl_X8_no wn_X8 wc_X8_no (by decide +kernel) (hM.recv hK (ci := 9) rfl hO1.1) ⟨Nat.le_of_ble_eq_true rfl, Nat.le_of_ble_eq_true rfl⟩ ⟨Nat.le_of_ble_eq_true rfl, Nat.le_of_ble_eq_true rfl⟩ rfl (Nat.le_of_ble_eq_true rfl) rfl dX8_haul_23 (fun r_23 M9 H locs hq hM => ?_)
    obtain ⟨er, eM9⟩ := hq
    subst er
    replace hM := hM.eq eM9
    obtain ⟨M2, eM2⟩ : ∃ z, z = hu M1 ma tx (.inr (9, [.int (1 : Int32), .ref h0, .ref fa, .ref lb, .int pr, .int mo])) := ⟨_, rfl⟩
    replace hM : Wd G M2 s H locs := hM.eq eM2.symm
    have hO2 : XdR G M2 tx ma h0 fa lb (1 : Int32) pr mo F Lx := by rw [eM2]; exact hO1.setO (1 : Int32) pr mo
    have hL2 : MdR G M2 t h0 Z N U now := by rw [eM2]; exact hL1.frame (Ne.symm d1) (Fr.up hO1.1)
    have hF2 : F3 tx t t2 M M2 := by rw [eM2]; exact F3.tr hF1 (F3.up hO1.1 (Or.inr (Or.inl rfl)))
    exact g_iret hx hb hr hlocks hM (Nat.le_of_ble_eq_true rfl) (Nat.le_of_ble_eq_true rfl) ⟨(by unfold q_X8_haul; rw [if_pos c1]), (by rw [show th_X8_haul N U now th pr mo F Lx p0 p1 = (1 : Int32) from by unfold th_X8_haul; rw [if_pos c1]]; rw [show u_X8_haul N U now th pr mo F Lx p0 p1 = U from by unfold u_X8_haul; rw [if_pos c1]]; exact ⟨hO2, ⟨Z, hL2⟩, hF2⟩)⟩ dX8_haul_26
  · refine lv_aload_n hx hb dX8_haul_13 rfl (lv_at hl 0 rfl) ?_
    refine lv_iload_n hx hb dX8_haul_14 rfl (lv_at hl 2 rfl) ?_
    refine g_callVi (n9 := 1) (As := [.int p1]) (rest := []) hx hb hml hl.1 hown hts hK hM (c_X8_isElevator l G _ tx ma h0 fa lb t t2 Z N U now (0 : Int32) pr mo F Lx p1 hO1 hL1) wm_X8_97 wi_X8_isElevator wl_X8_isElevator wn_X8 wc_X8_isElevator (by decide +kernel) (hM.recv hK (ci := 9) rfl hO1.1) ⟨Nat.le_of_ble_eq_true rfl, Nat.le_of_ble_eq_true rfl⟩ ⟨Nat.le_of_ble_eq_true rfl, Nat.le_of_ble_eq_true rfl⟩ rfl (Nat.le_of_ble_eq_true rfl) rfl dX8_haul_15 (fun r_15 Mz H locs hq hM => ?_)
    have hq1 := hq.1.symm
    have hq2 := hq.2.symm
    subst hq1 hq2
    refine lv_if_ne (tgt := 27) hx hb dX8_haul_18 (by decide) (fun c2 => ?_) (fun c2 => ?_)
    · refine lv_aload_n hx hb dX8_haul_27 rfl (lv_at hl 0 rfl) ?_
      refine lv_iload_n hx hb dX8_haul_28 rfl (lv_at hl 1 rfl) ?_
      refine lv_iconst (v := (2 : Int32)) hx hb dX8_haul_29 (by decide) ?_
      refine lv_iload_n hx hb dX8_haul_30 rfl (lv_at hl 2 rfl) ?_
      refine lv_aload_n hx hb dX8_haul_31 rfl (lv_at hl 0 rfl) ?_
      refine fg_X8_10 hx hb hts hown hK hM hO1.1 dX8_haul_32 ?_
      refine fg_X8_76 hx hb hts hown hK hM hL1.1 dX8_haul_35 ?_
      refine lv_iload_n hx hb dX8_haul_38 rfl (lv_at hl 2 rfl) ?_
      have hg3 := inN9 c2 hn39
      refine g_aaldR hx hb hK hM (hL1.outer (k := 3) (by decide)) hg3.1 (Nat.lt_of_lt_of_le hg3.2 hn3) dX8_haul_39 ?_
      refine lv_iconst (v := (1 : Int32)) hx hb dX8_haul_40 (by decide) ?_
      refine ia6_1 hx hb hK hM (hL1.row (k := 3) (by decide) (Nat.lt_of_lt_of_le hg3.2 hn3)) dX8_haul_41 ?_
      refine g_callVi (n9 := 4) (As := [.int p0, .int (2 : Int32), .int p1, .int (U 3 (ix p1) 1)]) (rest := []) hx hb hml hl.1 hown hts hK hM (c_X8_send l G _ tx ma h0 fa lb t t2 Z N U now (0 : Int32) pr mo F Lx p0 (2 : Int32) p1 (U 3 (ix p1) 1) hO1 hL1 d1 d2 d3 (inN9 c1 hn29)) wm_X8_93 wi_X8_send wl_X8_send wn_X8 wc_X8_send (by decide +kernel) (hM.recv hK (ci := 9) rfl hO1.1) ⟨Nat.le_of_ble_eq_true rfl, Nat.le_of_ble_eq_true rfl⟩ ⟨Nat.le_of_ble_eq_true rfl, Nat.le_of_ble_eq_true rfl⟩ rfl (Nat.le_of_ble_eq_true rfl) rfl dX8_haul_42 (fun r_42 M7 H locs hq hM => ?_)
      obtain ⟨er, hO7, ⟨Z7, hL7⟩, hF7⟩ := hq
      subst er
      have hF8 := F3.tr hF1 hF7
      exact g_iret hx hb hr hlocks hM (Nat.le_of_ble_eq_true rfl) (Nat.le_of_ble_eq_true rfl) ⟨(by unfold q_X8_haul; rw [if_neg c1, if_neg c2]), (by rw [show th_X8_haul N U now th pr mo F Lx p0 p1 = (0 : Int32) from by unfold th_X8_haul; rw [if_neg c1, if_neg c2]]; rw [show u_X8_haul N U now th pr mo F Lx p0 p1 = (tu U 2 (ix p0) (rw10 (2 : Int32) (U 2 (ix p0) 1) (U 2 (ix p0) 2) (U 2 (ix p0) 3) (U 2 (ix p0) 4) (U 2 (ix p0) 5) (U 2 (ix p0) 6) p1 (U 2 (ix p0) 8) (U 2 (ix p0) 9))) from by unfold u_X8_haul; rw [if_neg c1, if_neg c2]]; exact ⟨hO7, ⟨Z7, hL7⟩, hF8⟩)⟩ dX8_haul_45
    · refine lv_aload_n hx hb dX8_haul_21 rfl (lv_at hl 0 rfl) ?_
      refine lv_iconst (v := (1 : Int32)) hx hb dX8_haul_22 (by decide) ?_
      refine g_callVi (n9 := 1) (As := [.int (1 : Int32)]) (rest := []) hx hb hml hl.1 hown hts hK hM (c_X8_no l G _ ma tx (0 : Int32) pr mo h0 fa lb (1 : Int32) hO1.1) wm_X8_49 wi_X8_no wl_X8_no wn_X8 wc_X8_no (by decide +kernel) (hM.recv hK (ci := 9) rfl hO1.1) ⟨Nat.le_of_ble_eq_true rfl, Nat.le_of_ble_eq_true rfl⟩ ⟨Nat.le_of_ble_eq_true rfl, Nat.le_of_ble_eq_true rfl⟩ rfl (Nat.le_of_ble_eq_true rfl) rfl dX8_haul_23 (fun r_23 M9 H locs hq hM => ?_)
      obtain ⟨er, eM9⟩ := hq
      subst er
      replace hM := hM.eq eM9
      obtain ⟨M2, eM2⟩ : ∃ z, z = hu M1 ma tx (.inr (9, [.int (1 : Int32), .ref h0, .ref fa, .ref lb, .int pr, .int mo])) := ⟨_, rfl⟩
      replace hM : Wd G M2 s H locs := hM.eq eM2.symm
      have hO2 : XdR G M2 tx ma h0 fa lb (1 : Int32) pr mo F Lx := by rw [eM2]; exact hO1.setO (1 : Int32) pr mo
      have hL2 : MdR G M2 t h0 Z N U now := by rw [eM2]; exact hL1.frame (Ne.symm d1) (Fr.up hO1.1)
      have hF2 : F3 tx t t2 M M2 := by rw [eM2]; exact F3.tr hF1 (F3.up hO1.1 (Or.inr (Or.inl rfl)))
      exact g_iret hx hb hr hlocks hM (Nat.le_of_ble_eq_true rfl) (Nat.le_of_ble_eq_true rfl) ⟨(by unfold q_X8_haul; rw [if_neg c1, if_pos c2]), (by rw [show th_X8_haul N U now th pr mo F Lx p0 p1 = (1 : Int32) from by unfold th_X8_haul; rw [if_neg c1, if_pos c2]]; rw [show u_X8_haul N U now th pr mo F Lx p0 p1 = U from by unfold u_X8_haul; rw [if_neg c1, if_pos c2]]; exact ⟨hO2, ⟨Z, hL2⟩, hF2⟩)⟩ dX8_haul_26
def q_X8_stop (N : Nat → Nat) (U : Tb) (now th pr mo : Int32) (F Lx : Row) (p0 : Int32) : Int32 := if (t_X8_in_0 p0 (0 : Int32) ((nI (N 2)) - (1 : Int32))) = 0 then t_X8_no_0 else (U 2 (ix p0) 5)
def th_X8_stop (N : Nat → Nat) (U : Tb) (now th pr mo : Int32) (F Lx : Row) (p0 : Int32) : Int32 := if (t_X8_in_0 p0 (0 : Int32) ((nI (N 2)) - (1 : Int32))) = 0 then (1 : Int32) else (0 : Int32)
def u_X8_stop (N : Nat → Nat) (U : Tb) (now th pr mo : Int32) (F Lx : Row) (p0 : Int32) : Tb := if (t_X8_in_0 p0 (0 : Int32) ((nI (N 2)) - (1 : Int32))) = 0 then U else (tu U 2 (ix p0) (rw10 (0 : Int32) (U 2 (ix p0) 1) (U 2 (ix p0) 2) (U 2 (ix p0) 3) (U 2 (ix p0) 4) (U 2 (ix p0) 5) (U 2 (ix p0) 6) (U 2 (ix p0) 7) (U 2 (ix p0) 8) (U 2 (ix p0) 9)))
set_option maxHeartbeats 4000000 in
set_option maxRecDepth 100000 in
theorem c_X8_stop (l : Launch) (G : GG) (M : HM) (tx ma h0 fa lb t t2 : Nat) (Z : LZ) (N : Nat → Nat) (U : Tb) (now th pr mo : Int32) (F Lx : Row) (p0 : Int32) (hO : XdR G M tx ma h0 fa lb th pr mo F Lx) (hL : MdR G M t h0 Z N U now) (d1 : tx ≠ t) (d2 : tx ≠ t2) (d3 : t ≠ t2)   : Mi l yX8_stop (.code yX8_stop cX8_stop 2 (some .int) :: AL) 2 43 0 0 [.ref ma, .int p0] G M (fun r M' => r = (q_X8_stop N U now th pr mo F Lx p0) ∧ XP G M M' tx ma h0 fa lb t t2 N (u_X8_stop N U now th pr mo F Lx p0) now (th_X8_stop N U now th pr mo F Lx p0) pr mo F Lx) := by
  refine Mi.go (by decide) (Nat.le_of_ble_eq_true rfl) ?_
  intro p e s m below meth c ls hx hb hr hml hown hlocks hname hts hK hM hl
  have hown : s.vm.findClass RX8 = some m.cls := hown
  have hl : lv_has ls 2 [(0, .ref ma), (1, .int p0)] := hl
  have hn0 := hL.cnt (k := 0) (by decide)
  have hn09 : N 0 ≤ 8 := by have : N 0 ≤ 8 := hn0; omega
  have hn1 := hL.cnt (k := 1) (by decide)
  have hn19 : N 1 ≤ 8 := by have : N 1 ≤ 4 := hn1; omega
  have hn2 := hL.cnt (k := 2) (by decide)
  have hn29 : N 2 ≤ 8 := by have : N 2 ≤ 4 := hn2; omega
  have hn3 := hL.cnt (k := 3) (by decide)
  have hn39 : N 3 ≤ 8 := by have : N 3 ≤ 3 := hn3; omega
  refine lv_aload_n hx hb dX8_stop_0 rfl (lv_at hl 0 rfl) ?_
  refine lv_iconst (v := (0 : Int32)) hx hb dX8_stop_1 (by decide) ?_
  refine fp_X8_30 hx hb hts hown hK hM hO.1 dX8_stop_2 (fun H locs hM => ?_)
  obtain ⟨M1, eM1⟩ : ∃ z, z = hu M ma tx (.inr (9, [.int (0 : Int32), .ref h0, .ref fa, .ref lb, .int pr, .int mo])) := ⟨_, rfl⟩
  replace hM : Wd G M1 s H locs := hM.eq eM1.symm
  have hO1 : XdR G M1 tx ma h0 fa lb (0 : Int32) pr mo F Lx := by rw [eM1]; exact hO.setO (0 : Int32) pr mo
  have hL1 : MdR G M1 t h0 Z N U now := by rw [eM1]; exact hL.frame (Ne.symm d1) (Fr.up hO.1)
  have hF1 : F3 tx t t2 M M1 := by rw [eM1]; exact F3.tr (F3.rf) (F3.up hO.1 (Or.inr (Or.inl rfl)))
  refine lv_aload_n hx hb dX8_stop_5 rfl (lv_at hl 0 rfl) ?_
  refine lv_iload_n hx hb dX8_stop_6 rfl (lv_at hl 1 rfl) ?_
  refine g_callVi (n9 := 1) (As := [.int p0]) (rest := []) hx hb hml hl.1 hown hts hK hM (c_X8_isTruck l G _ tx ma h0 fa lb t t2 Z N U now (0 : Int32) pr mo F Lx p0 hO1 hL1) wm_X8_90 wi_X8_isTruck wl_X8_isTruck wn_X8 wc_X8_isTruck (by decide +kernel) (hM.recv hK (ci := 9) rfl hO1.1) ⟨Nat.le_of_ble_eq_true rfl, Nat.le_of_ble_eq_true rfl⟩ ⟨Nat.le_of_ble_eq_true rfl, Nat.le_of_ble_eq_true rfl⟩ rfl (Nat.le_of_ble_eq_true rfl) rfl dX8_stop_7 (fun r_7 Mz H locs hq hM => ?_)
  have hq1 := hq.1.symm
  have hq2 := hq.2.symm
  subst hq1 hq2
  refine lv_if_ne (tgt := 19) hx hb dX8_stop_10 (by decide) (fun c1 => ?_) (fun c1 => ?_)
  · refine lv_aload_n hx hb dX8_stop_19 rfl (lv_at hl 0 rfl) ?_
    refine fg_X8_10 hx hb hts hown hK hM hO1.1 dX8_stop_20 ?_
    refine fg_X8_73 hx hb hts hown hK hM hL1.1 dX8_stop_23 ?_
    refine lv_iload_n hx hb dX8_stop_26 rfl (lv_at hl 1 rfl) ?_
    have hg2 := inN9 c1 hn29
    refine g_aaldR hx hb hK hM (hL1.outer (k := 2) (by decide)) hg2.1 (Nat.lt_of_lt_of_le hg2.2 hn2) dX8_stop_27 ?_
    refine lv_iconst (v := (0 : Int32)) hx hb dX8_stop_28 (by decide) ?_
    refine lv_iconst (v := (0 : Int32)) hx hb dX8_stop_29 (by decide) ?_
    refine is10_0 hx hb hK hM (hL1.row (k := 2) (by decide) (Nat.lt_of_lt_of_le hg2.2 hn2)) dX8_stop_30 (fun H locs hM => ?_)
    refine lv_aload_n hx hb dX8_stop_31 rfl (lv_at hl 0 rfl) ?_
    refine fg_X8_10 hx hb hts hown hK hM (hu_n (hu_ne hO1.1 (hL1.row (k := 2) (by decide) (Nat.lt_of_lt_of_le hg2.2 hn2)) (rg_ne d1)) hO1.1) dX8_stop_32 ?_
    refine fg_X8_73 hx hb hts hown hK hM (hu_n (hu_ne hL1.1 (hL1.row (k := 2) (by decide) (Nat.lt_of_lt_of_le hg2.2 hn2)) eR_ne) hL1.1) dX8_stop_35 ?_
    refine lv_iload_n hx hb dX8_stop_38 rfl (lv_at hl 1 rfl) ?_
    refine g_aaldR hx hb hK hM (hu_n (hu_ne (hL1.outer (k := 2) (by decide)) (hL1.row (k := 2) (by decide) (Nat.lt_of_lt_of_le hg2.2 hn2)) eR_neO) (hL1.outer (k := 2) (by decide))) hg2.1 (Nat.lt_of_lt_of_le hg2.2 hn2) dX8_stop_39 ?_
    refine lv_iconst (v := (5 : Int32)) hx hb dX8_stop_40 (by decide) ?_
    refine ia10_5 hx hb hK hM hu_s dX8_stop_41 ?_
    obtain ⟨M2, eM2⟩ : ∃ z, z = hu M1 (Z.2.1 2 (ix p0)) t (.inl (G.2.1 0, 10, .inl (rw10 (0 : Int32) (U 2 (ix p0) 1) (U 2 (ix p0) 2) (U 2 (ix p0) 3) (U 2 (ix p0) 4) (U 2 (ix p0) 5) (U 2 (ix p0) 6) (U 2 (ix p0) 7) (U 2 (ix p0) 8) (U 2 (ix p0) 9)))) := ⟨_, rfl⟩
    rw [← eM2] at hM
    have hO2 : XdR G M2 tx ma h0 fa lb (0 : Int32) pr mo F Lx := by rw [eM2]; exact hO1.frame d1 (Fr.up (hL1.row (k := 2) (by decide) (Nat.lt_of_lt_of_le hg2.2 hn2)))
    have hL2 : MdR G M2 t h0 Z N (tu U 2 (ix p0) (rw10 (0 : Int32) (U 2 (ix p0) 1) (U 2 (ix p0) 2) (U 2 (ix p0) 3) (U 2 (ix p0) 4) (U 2 (ix p0) 5) (U 2 (ix p0) 6) (U 2 (ix p0) 7) (U 2 (ix p0) 8) (U 2 (ix p0) 9))) now := by rw [eM2]; exact hL1.setRow (k := 2) (by decide) (Nat.lt_of_lt_of_le hg2.2 hn2) (rw10 (0 : Int32) (U 2 (ix p0) 1) (U 2 (ix p0) 2) (U 2 (ix p0) 3) (U 2 (ix p0) 4) (U 2 (ix p0) 5) (U 2 (ix p0) 6) (U 2 (ix p0) 7) (U 2 (ix p0) 8) (U 2 (ix p0) 9))
    have hF2 : F3 tx t t2 M M2 := by rw [eM2]; exact F3.tr hF1 (F3.up (hL1.row (k := 2) (by decide) (Nat.lt_of_lt_of_le hg2.2 hn2)) (Or.inl rfl))
    have hr2_0 : M2 (Z.2.1 2 (ix p0)) = some (t, (.inl (G.2.1 0, 10, .inl (rw10 (0 : Int32) (U 2 (ix p0) 1) (U 2 (ix p0) 2) (U 2 (ix p0) 3) (U 2 (ix p0) 4) (U 2 (ix p0) 5) (U 2 (ix p0) 6) (U 2 (ix p0) 7) (U 2 (ix p0) 8) (U 2 (ix p0) 9))))) := by rw [eM2]; exact hu_s
    exact g_iret hx hb hr hlocks hM (Nat.le_of_ble_eq_true rfl) (Nat.le_of_ble_eq_true rfl) ⟨(by unfold q_X8_stop; rw [if_neg c1]), (by rw [show th_X8_stop N U now th pr mo F Lx p0 = (0 : Int32) from by unfold th_X8_stop; rw [if_neg c1]]; rw [show u_X8_stop N U now th pr mo F Lx p0 = (tu U 2 (ix p0) (rw10 (0 : Int32) (U 2 (ix p0) 1) (U 2 (ix p0) 2) (U 2 (ix p0) 3) (U 2 (ix p0) 4) (U 2 (ix p0) 5) (U 2 (ix p0) 6) (U 2 (ix p0) 7) (U 2 (ix p0) 8) (U 2 (ix p0) 9))) from by unfold u_X8_stop; rw [if_neg c1]]; exact ⟨hO2, ⟨Z, hL2⟩, hF2⟩)⟩ dX8_stop_42
  · refine lv_aload_n hx hb dX8_stop_13 rfl (lv_at hl 0 rfl) ?_
    refine lv_iconst (v := (1 : Int32)) hx hb dX8_stop_14 (by decide) ?_
    refine g_callVi (n9 := 1) (As := [.int (1 : Int32)]) (rest := []) hx hb hml hl.1 hown hts hK hM (c_X8_no l G _ ma tx (0 : Int32) pr mo h0 fa lb (1 : Int32) hO1.1) wm_X8_49 wi_X8_no wl_X8_no wn_X8 wc_X8_no (by decide +kernel) (hM.recv hK (ci := 9) rfl hO1.1) ⟨Nat.le_of_ble_eq_true rfl, Nat.le_of_ble_eq_true rfl⟩ ⟨Nat.le_of_ble_eq_true rfl, Nat.le_of_ble_eq_true rfl⟩ rfl (Nat.le_of_ble_eq_true rfl) rfl dX8_stop_15 (fun r_15 M9 H locs hq hM => ?_)
    obtain ⟨er, eM9⟩ := hq
    subst er
    replace hM := hM.eq eM9
    obtain ⟨M2, eM2⟩ : ∃ z, z = hu M1 ma tx (.inr (9, [.int (1 : Int32), .ref h0, .ref fa, .ref lb, .int pr, .int mo])) := ⟨_, rfl⟩
    replace hM : Wd G M2 s H locs := hM.eq eM2.symm
    have hO2 : XdR G M2 tx ma h0 fa lb (1 : Int32) pr mo F Lx := by rw [eM2]; exact hO1.setO (1 : Int32) pr mo
    have hL2 : MdR G M2 t h0 Z N U now := by rw [eM2]; exact hL1.frame (Ne.symm d1) (Fr.up hO1.1)
    have hF2 : F3 tx t t2 M M2 := by rw [eM2]; exact F3.tr hF1 (F3.up hO1.1 (Or.inr (Or.inl rfl)))
    exact g_iret hx hb hr hlocks hM (Nat.le_of_ble_eq_true rfl) (Nat.le_of_ble_eq_true rfl) ⟨(by unfold q_X8_stop; rw [if_pos c1]), (by rw [show th_X8_stop N U now th pr mo F Lx p0 = (1 : Int32) from by unfold th_X8_stop; rw [if_pos c1]]; rw [show u_X8_stop N U now th pr mo F Lx p0 = U from by unfold u_X8_stop; rw [if_pos c1]]; exact ⟨hO2, ⟨Z, hL2⟩, hF2⟩)⟩ dX8_stop_18
def q_X8_mend (N : Nat → Nat) (U : Tb) (now th pr mo : Int32) (F Lx : Row) (p0 : Int32) : Int32 := if (t_X8_in_0 p0 (0 : Int32) ((nI (N 1)) - (1 : Int32))) = 0 then t_X8_no_0 else (if ((3 : Int32) * (U 1 (ix p0) 5)) ≤ mo then ((3 : Int32) * (U 1 (ix p0) 5)) else t_X8_no_0)
def th_X8_mend (N : Nat → Nat) (U : Tb) (now th pr mo : Int32) (F Lx : Row) (p0 : Int32) : Int32 := if (t_X8_in_0 p0 (0 : Int32) ((nI (N 1)) - (1 : Int32))) = 0 then (1 : Int32) else (if ((3 : Int32) * (U 1 (ix p0) 5)) ≤ mo then (0 : Int32) else (2 : Int32))
def mo_X8_mend (N : Nat → Nat) (U : Tb) (now th pr mo : Int32) (F Lx : Row) (p0 : Int32) : Int32 := if (t_X8_in_0 p0 (0 : Int32) ((nI (N 1)) - (1 : Int32))) = 0 then mo else (if ((3 : Int32) * (U 1 (ix p0) 5)) ≤ mo then (mo - ((3 : Int32) * (U 1 (ix p0) 5))) else mo)
def u_X8_mend (N : Nat → Nat) (U : Tb) (now th pr mo : Int32) (F Lx : Row) (p0 : Int32) : Tb := if (t_X8_in_0 p0 (0 : Int32) ((nI (N 1)) - (1 : Int32))) = 0 then U else (if ((3 : Int32) * (U 1 (ix p0) 5)) ≤ mo then (tu U 1 (ix p0) (rw11 (U 1 (ix p0) 0) (U 1 (ix p0) 1) (U 1 (ix p0) 2) (U 1 (ix p0) 3) (U 1 (ix p0) 4) (0 : Int32) (0 : Int32) (U 1 (ix p0) 7) (U 1 (ix p0) 8) (U 1 (ix p0) 9) (U 1 (ix p0) 10))) else U)
set_option maxHeartbeats 4000000 in
set_option maxRecDepth 100000 in
theorem c_X8_mend (l : Launch) (G : GG) (M : HM) (tx ma h0 fa lb t t2 : Nat) (Z : LZ) (N : Nat → Nat) (U : Tb) (now th pr mo : Int32) (F Lx : Row) (p0 : Int32) (hO : XdR G M tx ma h0 fa lb th pr mo F Lx) (hL : MdR G M t h0 Z N U now) (d1 : tx ≠ t) (d2 : tx ≠ t2) (d3 : t ≠ t2)   : Mi l yX8_mend (.code yX8_mend cX8_mend 4 (some .int) :: AL) 2 43 0 0 [.ref ma, .int p0] G M (fun r M' => r = (q_X8_mend N U now th pr mo F Lx p0) ∧ XP G M M' tx ma h0 fa lb t t2 N (u_X8_mend N U now th pr mo F Lx p0) now (th_X8_mend N U now th pr mo F Lx p0) pr (mo_X8_mend N U now th pr mo F Lx p0) F Lx) := by
  refine Mi.go (by decide) (Nat.le_of_ble_eq_true rfl) ?_
  intro p e s m below meth c ls hx hb hr hml hown hlocks hname hts hK hM hl
  have hown : s.vm.findClass RX8 = some m.cls := hown
  have hl : lv_has ls 4 [(0, .ref ma), (1, .int p0)] := hl
  have hn0 := hL.cnt (k := 0) (by decide)
  have hn09 : N 0 ≤ 8 := by have : N 0 ≤ 8 := hn0; omega
  have hn1 := hL.cnt (k := 1) (by decide)
  have hn19 : N 1 ≤ 8 := by have : N 1 ≤ 4 := hn1; omega
  have hn2 := hL.cnt (k := 2) (by decide)
  have hn29 : N 2 ≤ 8 := by have : N 2 ≤ 4 := hn2; omega
  have hn3 := hL.cnt (k := 3) (by decide)
  have hn39 : N 3 ≤ 8 := by have : N 3 ≤ 3 := hn3; omega
  refine lv_aload_n hx hb dX8_mend_0 rfl (lv_at hl 0 rfl) ?_
  refine lv_iconst (v := (0 : Int32)) hx hb dX8_mend_1 (by decide) ?_
  refine fp_X8_30 hx hb hts hown hK hM hO.1 dX8_mend_2 (fun H locs hM => ?_)
  obtain ⟨M1, eM1⟩ : ∃ z, z = hu M ma tx (.inr (9, [.int (0 : Int32), .ref h0, .ref fa, .ref lb, .int pr, .int mo])) := ⟨_, rfl⟩
  replace hM : Wd G M1 s H locs := hM.eq eM1.symm
  have hO1 : XdR G M1 tx ma h0 fa lb (0 : Int32) pr mo F Lx := by rw [eM1]; exact hO.setO (0 : Int32) pr mo
  have hL1 : MdR G M1 t h0 Z N U now := by rw [eM1]; exact hL.frame (Ne.symm d1) (Fr.up hO.1)
  have hF1 : F3 tx t t2 M M1 := by rw [eM1]; exact F3.tr (F3.rf) (F3.up hO.1 (Or.inr (Or.inl rfl)))
  refine lv_aload_n hx hb dX8_mend_5 rfl (lv_at hl 0 rfl) ?_
  refine lv_iload_n hx hb dX8_mend_6 rfl (lv_at hl 1 rfl) ?_
  refine g_callVi (n9 := 1) (As := [.int p0]) (rest := []) hx hb hml hl.1 hown hts hK hM (c_X8_isCombine l G _ tx ma h0 fa lb t t2 Z N U now (0 : Int32) pr mo F Lx p0 hO1 hL1) wm_X8_79 wi_X8_isCombine wl_X8_isCombine wn_X8 wc_X8_isCombine (by decide +kernel) (hM.recv hK (ci := 9) rfl hO1.1) ⟨Nat.le_of_ble_eq_true rfl, Nat.le_of_ble_eq_true rfl⟩ ⟨Nat.le_of_ble_eq_true rfl, Nat.le_of_ble_eq_true rfl⟩ rfl (Nat.le_of_ble_eq_true rfl) rfl dX8_mend_7 (fun r_7 Mz H locs hq hM => ?_)
  have hq1 := hq.1.symm
  have hq2 := hq.2.symm
  subst hq1 hq2
  refine lv_if_ne (tgt := 19) hx hb dX8_mend_10 (by decide) (fun c1 => ?_) (fun c1 => ?_)
  · refine lv_aload_n hx hb dX8_mend_19 rfl (lv_at hl 0 rfl) ?_
    refine fg_X8_10 hx hb hts hown hK hM hO1.1 dX8_mend_20 ?_
    refine fg_X8_70 hx hb hts hown hK hM hL1.1 dX8_mend_23 ?_
    refine lv_iload_n hx hb dX8_mend_26 rfl (lv_at hl 1 rfl) ?_
    have hg2 := inN9 c1 hn19
    refine g_aaldR hx hb hK hM (hL1.outer (k := 1) (by decide)) hg2.1 (Nat.lt_of_lt_of_le hg2.2 hn1) dX8_mend_27 ?_
    refine lv_astore_n (lv' := [(2, .ref (Z.2.1 1 (ix p0))), (0, .ref ma), (1, .int p0)]) hx hb dX8_mend_28 rfl hl (by decide) rfl (fun ls hl => ?_)
    refine lv_iconst (v := (3 : Int32)) hx hb dX8_mend_29 (by decide) ?_
    refine lv_aload_n hx hb dX8_mend_30 rfl (lv_at hl 0 rfl) ?_
    refine lv_iconst (v := (5 : Int32)) hx hb dX8_mend_31 (by decide) ?_
    refine ia11_5 hx hb hK hM (hL1.row (k := 1) (by decide) (Nat.lt_of_lt_of_le hg2.2 hn1)) dX8_mend_32 ?_
    refine lv_imul hx hb dX8_mend_33 ?_
    refine lv_istore_n (lv' := [(3, .int ((3 : Int32) * (U 1 (ix p0) 5))), (2, .ref (Z.2.1 1 (ix p0))), (0, .ref ma), (1, .int p0)]) hx hb dX8_mend_34 rfl hl (by decide) rfl (fun ls hl => ?_)
    refine lv_aload_n hx hb dX8_mend_35 rfl (lv_at hl 2 rfl) ?_
    refine fg_X8_27 hx hb hts hown hK hM hO1.1 dX8_mend_36 ?_
    refine lv_iload_n hx hb dX8_mend_39 rfl (lv_at hl 0 rfl) ?_
    refine lv_icmp_ge (tgt := 49) hx hb dX8_mend_40 (by decide) (fun c3 => ?_) (fun c3 => ?_)
    · refine lv_aload_n hx hb dX8_mend_49 rfl (lv_at hl 2 rfl) ?_
      refine lv_dup hx hb dX8_mend_50 rfl ?_
      refine fg_X8_27 hx hb hts hown hK hM hO1.1 dX8_mend_51 ?_
      refine lv_iload_n hx hb dX8_mend_54 rfl (lv_at hl 0 rfl) ?_
      refine lv_isub hx hb dX8_mend_55 ?_
      refine fp_X8_27 hx hb hts hown hK hM hO1.1 dX8_mend_56 (fun H locs hM => ?_)
      obtain ⟨M2, eM2⟩ : ∃ z, z = hu M1 ma tx (.inr (9, [.int (0 : Int32), .ref h0, .ref fa, .ref lb, .int pr, .int (mo - ((3 : Int32) * (U 1 (ix p0) 5)))])) := ⟨_, rfl⟩
      replace hM : Wd G M2 s H locs := hM.eq eM2.symm
      have hO2 : XdR G M2 tx ma h0 fa lb (0 : Int32) pr (mo - ((3 : Int32) * (U 1 (ix p0) 5))) F Lx := by rw [eM2]; exact hO1.setO (0 : Int32) pr (mo - ((3 : Int32) * (U 1 (ix p0) 5)))
      have hL2 : MdR G M2 t h0 Z N U now := by rw [eM2]; exact hL1.frame (Ne.symm d1) (Fr.up hO1.1)
      have hF2 : F3 tx t t2 M M2 := by rw [eM2]; exact F3.tr hF1 (F3.up hO1.1 (Or.inr (Or.inl rfl)))
      have hr2_0 : M2 (Z.2.1 1 (ix p0)) = some (t, (.inl (G.2.1 0, 11, .inl (rw11 (U 1 (ix p0) 0) (U 1 (ix p0) 1) (U 1 (ix p0) 2) (U 1 (ix p0) 3) (U 1 (ix p0) 4) (U 1 (ix p0) 5) (U 1 (ix p0) 6) (U 1 (ix p0) 7) (U 1 (ix p0) 8) (U 1 (ix p0) 9) (U 1 (ix p0) 10))))) := by rw [eM2]; exact hu_n (hu_ne (hL1.row (k := 1) (by decide) (Nat.lt_of_lt_of_le hg2.2 hn1)) hO1.1 (rg_ne (Ne.symm d1))) (hL1.row (k := 1) (by decide) (Nat.lt_of_lt_of_le hg2.2 hn1))
      refine lv_aload_n hx hb dX8_mend_59 rfl (lv_at hl 1 rfl) ?_
      refine lv_iconst (v := (5 : Int32)) hx hb dX8_mend_60 (by decide) ?_
      refine lv_iconst (v := (0 : Int32)) hx hb dX8_mend_61 (by decide) ?_
      refine is11_5 hx hb hK hM hr2_0 dX8_mend_62 (fun H locs hM => ?_)
      refine lv_aload_n hx hb dX8_mend_63 rfl (lv_at hl 1 rfl) ?_
      refine lv_bipush (v := (6 : Int32)) hx hb dX8_mend_64 (by decide) ?_
      refine lv_iconst (v := (0 : Int32)) hx hb dX8_mend_66 (by decide) ?_
      refine is11_6 hx hb hK hM hu_s dX8_mend_67 (fun H locs hM => ?_)
      replace hM := hM.eq (hu_u _ _ _ _ _ _)
      refine lv_iload_n hx hb dX8_mend_68 rfl (lv_at hl 0 rfl) ?_
      obtain ⟨M3, eM3⟩ : ∃ z, z = hu M2 (Z.2.1 1 (ix p0)) t (.inl (G.2.1 0, 11, .inl (rw11 (U 1 (ix p0) 0) (U 1 (ix p0) 1) (U 1 (ix p0) 2) (U 1 (ix p0) 3) (U 1 (ix p0) 4) (0 : Int32) (0 : Int32) (U 1 (ix p0) 7) (U 1 (ix p0) 8) (U 1 (ix p0) 9) (U 1 (ix p0) 10)))) := ⟨_, rfl⟩
      rw [← eM3] at hM
      have hO3 : XdR G M3 tx ma h0 fa lb (0 : Int32) pr (mo - ((3 : Int32) * (U 1 (ix p0) 5))) F Lx := by rw [eM3]; exact hO2.frame d1 (Fr.up hr2_0)
      have hL3 : MdR G M3 t h0 Z N (tu U 1 (ix p0) (rw11 (U 1 (ix p0) 0) (U 1 (ix p0) 1) (U 1 (ix p0) 2) (U 1 (ix p0) 3) (U 1 (ix p0) 4) (0 : Int32) (0 : Int32) (U 1 (ix p0) 7) (U 1 (ix p0) 8) (U 1 (ix p0) 9) (U 1 (ix p0) 10))) now := by rw [eM3]; exact hL2.setRow (k := 1) (by decide) (Nat.lt_of_lt_of_le hg2.2 hn1) (rw11 (U 1 (ix p0) 0) (U 1 (ix p0) 1) (U 1 (ix p0) 2) (U 1 (ix p0) 3) (U 1 (ix p0) 4) (0 : Int32) (0 : Int32) (U 1 (ix p0) 7) (U 1 (ix p0) 8) (U 1 (ix p0) 9) (U 1 (ix p0) 10))
      have hF3 : F3 tx t t2 M M3 := by rw [eM3]; exact F3.tr hF2 (F3.up hr2_0 (Or.inl rfl))
      have hr3_0 : M3 (Z.2.1 1 (ix p0)) = some (t, (.inl (G.2.1 0, 11, .inl (rw11 (U 1 (ix p0) 0) (U 1 (ix p0) 1) (U 1 (ix p0) 2) (U 1 (ix p0) 3) (U 1 (ix p0) 4) (0 : Int32) (0 : Int32) (U 1 (ix p0) 7) (U 1 (ix p0) 8) (U 1 (ix p0) 9) (U 1 (ix p0) 10))))) := by rw [eM3]; exact hu_s
      exact g_iret hx hb hr hlocks hM (Nat.le_of_ble_eq_true rfl) (Nat.le_of_ble_eq_true rfl) ⟨(by unfold q_X8_mend; rw [if_neg c1, if_pos c3]), (by rw [show th_X8_mend N U now th pr mo F Lx p0 = (0 : Int32) from by unfold th_X8_mend; rw [if_neg c1, if_pos c3]]; rw [show mo_X8_mend N U now th pr mo F Lx p0 = (mo - ((3 : Int32) * (U 1 (ix p0) 5))) from by unfold mo_X8_mend; rw [if_neg c1, if_pos c3]]; rw [show u_X8_mend N U now th pr mo F Lx p0 = (tu U 1 (ix p0) (rw11 (U 1 (ix p0) 0) (U 1 (ix p0) 1) (U 1 (ix p0) 2) (U 1 (ix p0) 3) (U 1 (ix p0) 4) (0 : Int32) (0 : Int32) (U 1 (ix p0) 7) (U 1 (ix p0) 8) (U 1 (ix p0) 9) (U 1 (ix p0) 10))) from by unfold u_X8_mend; rw [if_neg c1, if_pos c3]]; exact ⟨hO3, ⟨Z, hL3⟩, hF3⟩)⟩ dX8_mend_69
    · refine lv_aload_n hx hb dX8_mend_43 rfl (lv_at hl 2 rfl) ?_
      refine lv_iconst (v := (2 : Int32)) hx hb dX8_mend_44 (by decide) ?_
      refine g_callVi (n9 := 1) (As := [.int (2 : Int32)]) (rest := []) hx hb hml hl.1 hown hts hK hM (c_X8_no l G _ ma tx (0 : Int32) pr mo h0 fa lb (2 : Int32) hO1.1) wm_X8_49 wi_X8_no wl_X8_no wn_X8 wc_X8_no (by decide +kernel) (hM.recv hK (ci := 9) rfl hO1.1) ⟨Nat.le_of_ble_eq_true rfl, Nat.le_of_ble_eq_true rfl⟩ ⟨Nat.le_of_ble_eq_true rfl, Nat.le_of_ble_eq_true rfl⟩ rfl (Nat.le_of_ble_eq_true rfl) rfl dX8_mend_45 (fun r_45 M9 H locs hq hM => ?_)
      obtain ⟨er, eM9⟩ := hq
      subst er
      replace hM := hM.eq eM9
      obtain ⟨M2, eM2⟩ : ∃ z, z = hu M1 ma tx (.inr (9, [.int (2 : Int32), .ref h0, .ref fa, .ref lb, .int pr, .int mo])) := ⟨_, rfl⟩
      replace hM : Wd G M2 s H locs := hM.eq eM2.symm
      have hO2 : XdR G M2 tx ma h0 fa lb (2 : Int32) pr mo F Lx := by rw [eM2]; exact hO1.setO (2 : Int32) pr mo
      have hL2 : MdR G M2 t h0 Z N U now := by rw [eM2]; exact hL1.frame (Ne.symm d1) (Fr.up hO1.1)
      have hF2 : F3 tx t t2 M M2 := by rw [eM2]; exact F3.tr hF1 (F3.up hO1.1 (Or.inr (Or.inl rfl)))
      have hr2_0 : M2 (Z.2.1 1 (ix p0)) = some (t, (.inl (G.2.1 0, 11, .inl (rw11 (U 1 (ix p0) 0) (U 1 (ix p0) 1) (U 1 (ix p0) 2) (U 1 (ix p0) 3) (U 1 (ix p0) 4) (U 1 (ix p0) 5) (U 1 (ix p0) 6) (U 1 (ix p0) 7) (U 1 (ix p0) 8) (U 1 (ix p0) 9) (U 1 (ix p0) 10))))) := by rw [eM2]; exact hu_n (hu_ne (hL1.row (k := 1) (by decide) (Nat.lt_of_lt_of_le hg2.2 hn1)) hO1.1 (rg_ne (Ne.symm d1))) (hL1.row (k := 1) (by decide) (Nat.lt_of_lt_of_le hg2.2 hn1))
      exact g_iret hx hb hr hlocks hM (Nat.le_of_ble_eq_true rfl) (Nat.le_of_ble_eq_true rfl) ⟨(by unfold q_X8_mend; rw [if_neg c1, if_neg c3]), (by rw [show th_X8_mend N U now th pr mo F Lx p0 = (2 : Int32) from by unfold th_X8_mend; rw [if_neg c1, if_neg c3]]; rw [show mo_X8_mend N U now th pr mo F Lx p0 = mo from by unfold mo_X8_mend; rw [if_neg c1, if_neg c3]]; rw [show u_X8_mend N U now th pr mo F Lx p0 = U from by unfold u_X8_mend; rw [if_neg c1, if_neg c3]]; exact ⟨hO2, ⟨Z, hL2⟩, hF2⟩)⟩ dX8_mend_48
  · refine lv_aload_n hx hb dX8_mend_13 rfl (lv_at hl 0 rfl) ?_
    refine lv_iconst (v := (1 : Int32)) hx hb dX8_mend_14 (by decide) ?_
    refine g_callVi (n9 := 1) (As := [.int (1 : Int32)]) (rest := []) hx hb hml hl.1 hown hts hK hM (c_X8_no l G _ ma tx (0 : Int32) pr mo h0 fa lb (1 : Int32) hO1.1) wm_X8_49 wi_X8_no wl_X8_no wn_X8 wc_X8_no (by decide +kernel) (hM.recv hK (ci := 9) rfl hO1.1) ⟨Nat.le_of_ble_eq_true rfl, Nat.le_of_ble_eq_true rfl⟩ ⟨Nat.le_of_ble_eq_true rfl, Nat.le_of_ble_eq_true rfl⟩ rfl (Nat.le_of_ble_eq_true rfl) rfl dX8_mend_15 (fun r_15 M9 H locs hq hM => ?_)
    obtain ⟨er, eM9⟩ := hq
    subst er
    replace hM := hM.eq eM9
    obtain ⟨M2, eM2⟩ : ∃ z, z = hu M1 ma tx (.inr (9, [.int (1 : Int32), .ref h0, .ref fa, .ref lb, .int pr, .int mo])) := ⟨_, rfl⟩
    replace hM : Wd G M2 s H locs := hM.eq eM2.symm
    have hO2 : XdR G M2 tx ma h0 fa lb (1 : Int32) pr mo F Lx := by rw [eM2]; exact hO1.setO (1 : Int32) pr mo
    have hL2 : MdR G M2 t h0 Z N U now := by rw [eM2]; exact hL1.frame (Ne.symm d1) (Fr.up hO1.1)
    have hF2 : F3 tx t t2 M M2 := by rw [eM2]; exact F3.tr hF1 (F3.up hO1.1 (Or.inr (Or.inl rfl)))
    exact g_iret hx hb hr hlocks hM (Nat.le_of_ble_eq_true rfl) (Nat.le_of_ble_eq_true rfl) ⟨(by unfold q_X8_mend; rw [if_pos c1]), (by rw [show th_X8_mend N U now th pr mo F Lx p0 = (1 : Int32) from by unfold th_X8_mend; rw [if_pos c1]]; rw [show mo_X8_mend N U now th pr mo F Lx p0 = mo from by unfold mo_X8_mend; rw [if_pos c1]]; rw [show u_X8_mend N U now th pr mo F Lx p0 = U from by unfold u_X8_mend; rw [if_pos c1]]; exact ⟨hO2, ⟨Z, hL2⟩, hF2⟩)⟩ dX8_mend_18
def q_X8_train (N : Nat → Nat) (U : Tb) (now th pr mo : Int32) (F Lx : Row) (p0 p1 : Int32) : Int32 := if (t_X8_in_0 p0 (0 : Int32) ((nI (N 3)) - (1 : Int32))) = 0 then t_X8_no_0 else (if (t_X8_in_0 p1 (1 : Int32) (9999 : Int32)) = 0 then t_X8_no_0 else (mn (9999 : Int32) ((U 3 (ix p0) 3) + p1)))
def th_X8_train (N : Nat → Nat) (U : Tb) (now th pr mo : Int32) (F Lx : Row) (p0 p1 : Int32) : Int32 := if (t_X8_in_0 p0 (0 : Int32) ((nI (N 3)) - (1 : Int32))) = 0 then (1 : Int32) else (if (t_X8_in_0 p1 (1 : Int32) (9999 : Int32)) = 0 then (2 : Int32) else (0 : Int32))
def u_X8_train (N : Nat → Nat) (U : Tb) (now th pr mo : Int32) (F Lx : Row) (p0 p1 : Int32) : Tb := if (t_X8_in_0 p0 (0 : Int32) ((nI (N 3)) - (1 : Int32))) = 0 then U else (if (t_X8_in_0 p1 (1 : Int32) (9999 : Int32)) = 0 then U else (tu U 3 (ix p0) (rw6 (U 3 (ix p0) 0) (U 3 (ix p0) 1) (U 3 (ix p0) 2) (mn (9999 : Int32) ((U 3 (ix p0) 3) + p1)) (U 3 (ix p0) 4) (U 3 (ix p0) 5))))
set_option maxHeartbeats 4000000 in
set_option maxRecDepth 100000 in
theorem c_X8_train (l : Launch) (G : GG) (M : HM) (tx ma h0 fa lb t t2 : Nat) (Z : LZ) (N : Nat → Nat) (U : Tb) (now th pr mo : Int32) (F Lx : Row) (p0 p1 : Int32) (hO : XdR G M tx ma h0 fa lb th pr mo F Lx) (hL : MdR G M t h0 Z N U now) (d1 : tx ≠ t) (d2 : tx ≠ t2) (d3 : t ≠ t2)   : Mi l yX8_train (.code yX8_train cX8_train 4 (some .int) :: AL) 2 43 0 0 [.ref ma, .int p0, .int p1] G M (fun r M' => r = (q_X8_train N U now th pr mo F Lx p0 p1) ∧ XP G M M' tx ma h0 fa lb t t2 N (u_X8_train N U now th pr mo F Lx p0 p1) now (th_X8_train N U now th pr mo F Lx p0 p1) pr mo F Lx) := by
  refine Mi.go (by decide) (Nat.le_of_ble_eq_true rfl) ?_
  intro p e s m below meth c ls hx hb hr hml hown hlocks hname hts hK hM hl
  have hown : s.vm.findClass RX8 = some m.cls := hown
  have hl : lv_has ls 4 [(0, .ref ma), (1, .int p0), (2, .int p1)] := hl
  have hn0 := hL.cnt (k := 0) (by decide)
  have hn09 : N 0 ≤ 8 := by have : N 0 ≤ 8 := hn0; omega
  have hn1 := hL.cnt (k := 1) (by decide)
  have hn19 : N 1 ≤ 8 := by have : N 1 ≤ 4 := hn1; omega
  have hn2 := hL.cnt (k := 2) (by decide)
  have hn29 : N 2 ≤ 8 := by have : N 2 ≤ 4 := hn2; omega
  have hn3 := hL.cnt (k := 3) (by decide)
  have hn39 : N 3 ≤ 8 := by have : N 3 ≤ 3 := hn3; omega
  refine lv_aload_n hx hb dX8_train_0 rfl (lv_at hl 0 rfl) ?_
  refine lv_iconst (v := (0 : Int32)) hx hb dX8_train_1 (by decide) ?_
  refine fp_X8_30 hx hb hts hown hK hM hO.1 dX8_train_2 (fun H locs hM => ?_)
  obtain ⟨M1, eM1⟩ : ∃ z, z = hu M ma tx (.inr (9, [.int (0 : Int32), .ref h0, .ref fa, .ref lb, .int pr, .int mo])) := ⟨_, rfl⟩
  replace hM : Wd G M1 s H locs := hM.eq eM1.symm
  have hO1 : XdR G M1 tx ma h0 fa lb (0 : Int32) pr mo F Lx := by rw [eM1]; exact hO.setO (0 : Int32) pr mo
  have hL1 : MdR G M1 t h0 Z N U now := by rw [eM1]; exact hL.frame (Ne.symm d1) (Fr.up hO.1)
  have hF1 : F3 tx t t2 M M1 := by rw [eM1]; exact F3.tr (F3.rf) (F3.up hO.1 (Or.inr (Or.inl rfl)))
  refine lv_aload_n hx hb dX8_train_5 rfl (lv_at hl 0 rfl) ?_
  refine lv_iload_n hx hb dX8_train_6 rfl (lv_at hl 1 rfl) ?_
  refine g_callVi (n9 := 1) (As := [.int p0]) (rest := []) hx hb hml hl.1 hown hts hK hM (c_X8_isElevator l G _ tx ma h0 fa lb t t2 Z N U now (0 : Int32) pr mo F Lx p0 hO1 hL1) wm_X8_97 wi_X8_isElevator wl_X8_isElevator wn_X8 wc_X8_isElevator (by decide +kernel) (hM.recv hK (ci := 9) rfl hO1.1) ⟨Nat.le_of_ble_eq_true rfl, Nat.le_of_ble_eq_true rfl⟩ ⟨Nat.le_of_ble_eq_true rfl, Nat.le_of_ble_eq_true rfl⟩ rfl (Nat.le_of_ble_eq_true rfl) rfl dX8_train_7 (fun r_7 Mz H locs hq hM => ?_)
  have hq1 := hq.1.symm
  have hq2 := hq.2.symm
  subst hq1 hq2
  refine lv_if_ne (tgt := 19) hx hb dX8_train_10 (by decide) (fun c1 => ?_) (fun c1 => ?_)
  · refine lv_iload_n hx hb dX8_train_19 rfl (lv_at hl 2 rfl) ?_
    refine lv_iconst (v := (1 : Int32)) hx hb dX8_train_20 (by decide) ?_
    refine lv_sipush (v := (9999 : Int32)) hx hb dX8_train_21 (by decide) ?_
    refine g_callSi (n9 := 3) (As := [.int p1, .int (1 : Int32), .int (9999 : Int32)]) (rest := []) hx hb hml hl.1 hown hts hK hM (c_X8_in l G _ p1 (1 : Int32) (9999 : Int32) ) wm_X8_36 wt_X8_in wn_X8 wc_X8_in (by decide +kernel) ⟨Nat.le_of_ble_eq_true rfl, Nat.le_of_ble_eq_true rfl⟩ ⟨Nat.le_of_ble_eq_true rfl, Nat.le_of_ble_eq_true rfl⟩ rfl (Nat.le_of_ble_eq_true rfl) rfl dX8_train_24 (fun r_24 M1 H locs hq hM => ?_)
    have hq1 := hq.1.symm
    have hq2 := hq.2.symm
    subst hq1 hq2
    refine lv_if_ne (tgt := 36) hx hb dX8_train_27 (by decide) (fun c2 => ?_) (fun c2 => ?_)
    · refine lv_aload_n hx hb dX8_train_36 rfl (lv_at hl 0 rfl) ?_
      refine fg_X8_10 hx hb hts hown hK hM hO1.1 dX8_train_37 ?_
      refine fg_X8_76 hx hb hts hown hK hM hL1.1 dX8_train_40 ?_
      refine lv_iload_n hx hb dX8_train_43 rfl (lv_at hl 1 rfl) ?_
      have hg3 := inN9 c1 hn39
      refine g_aaldR hx hb hK hM (hL1.outer (k := 3) (by decide)) hg3.1 (Nat.lt_of_lt_of_le hg3.2 hn3) dX8_train_44 ?_
      refine lv_astore_n (lv' := [(3, .ref (Z.2.1 3 (ix p0))), (0, .ref ma), (1, .int p0), (2, .int p1)]) hx hb dX8_train_45 rfl hl (by decide) rfl (fun ls hl => ?_)
      refine lv_aload_n hx hb dX8_train_46 rfl (lv_at hl 0 rfl) ?_
      refine lv_iconst (v := (3 : Int32)) hx hb dX8_train_47 (by decide) ?_
      refine lv_sipush (v := (9999 : Int32)) hx hb dX8_train_48 (by decide) ?_
      refine lv_aload_n hx hb dX8_train_51 rfl (lv_at hl 0 rfl) ?_
      refine lv_iconst (v := (3 : Int32)) hx hb dX8_train_52 (by decide) ?_
      refine ia6_3 hx hb hK hM (hL1.row (k := 3) (by decide) (Nat.lt_of_lt_of_le hg3.2 hn3)) dX8_train_53 ?_
      refine lv_iload_n hx hb dX8_train_54 rfl (lv_at hl 3 rfl) ?_
      refine lv_iadd hx hb dX8_train_55 ?_
      refine va_mmin hx hb (hml.trans hl.1.symm) hown (hts _ wm_X8_100) (hts _ wt_mmin) (hts _ wn_java_lang_Math) (hts _ wc_mmin) (Nat.le_of_ble_eq_true rfl) (Nat.le_of_ble_eq_true rfl) (Nat.le_of_ble_eq_true rfl) (Nat.le_of_ble_eq_true rfl) dX8_train_56 ?_
      refine is6_3 hx hb hK hM (hL1.row (k := 3) (by decide) (Nat.lt_of_lt_of_le hg3.2 hn3)) dX8_train_59 (fun H locs hM => ?_)
      refine lv_aload_n hx hb dX8_train_60 rfl (lv_at hl 0 rfl) ?_
      refine lv_iconst (v := (3 : Int32)) hx hb dX8_train_61 (by decide) ?_
      refine ia6_3 hx hb hK hM hu_s dX8_train_62 ?_
      obtain ⟨M2, eM2⟩ : ∃ z, z = hu M1 (Z.2.1 3 (ix p0)) t (.inl (G.2.1 0, 6, .inl (rw6 (U 3 (ix p0) 0) (U 3 (ix p0) 1) (U 3 (ix p0) 2) (mn (9999 : Int32) ((U 3 (ix p0) 3) + p1)) (U 3 (ix p0) 4) (U 3 (ix p0) 5)))) := ⟨_, rfl⟩
      rw [← eM2] at hM
      have hO2 : XdR G M2 tx ma h0 fa lb (0 : Int32) pr mo F Lx := by rw [eM2]; exact hO1.frame d1 (Fr.up (hL1.row (k := 3) (by decide) (Nat.lt_of_lt_of_le hg3.2 hn3)))
      have hL2 : MdR G M2 t h0 Z N (tu U 3 (ix p0) (rw6 (U 3 (ix p0) 0) (U 3 (ix p0) 1) (U 3 (ix p0) 2) (mn (9999 : Int32) ((U 3 (ix p0) 3) + p1)) (U 3 (ix p0) 4) (U 3 (ix p0) 5))) now := by rw [eM2]; exact hL1.setRow (k := 3) (by decide) (Nat.lt_of_lt_of_le hg3.2 hn3) (rw6 (U 3 (ix p0) 0) (U 3 (ix p0) 1) (U 3 (ix p0) 2) (mn (9999 : Int32) ((U 3 (ix p0) 3) + p1)) (U 3 (ix p0) 4) (U 3 (ix p0) 5))
      have hF2 : F3 tx t t2 M M2 := by rw [eM2]; exact F3.tr hF1 (F3.up (hL1.row (k := 3) (by decide) (Nat.lt_of_lt_of_le hg3.2 hn3)) (Or.inl rfl))
      have hr2_0 : M2 (Z.2.1 3 (ix p0)) = some (t, (.inl (G.2.1 0, 6, .inl (rw6 (U 3 (ix p0) 0) (U 3 (ix p0) 1) (U 3 (ix p0) 2) (mn (9999 : Int32) ((U 3 (ix p0) 3) + p1)) (U 3 (ix p0) 4) (U 3 (ix p0) 5))))) := by rw [eM2]; exact hu_s
      exact g_iret hx hb hr hlocks hM (Nat.le_of_ble_eq_true rfl) (Nat.le_of_ble_eq_true rfl) ⟨(by unfold q_X8_train; rw [if_neg c1, if_neg c2]), (by rw [show th_X8_train N U now th pr mo F Lx p0 p1 = (0 : Int32) from by unfold th_X8_train; rw [if_neg c1, if_neg c2]]; rw [show u_X8_train N U now th pr mo F Lx p0 p1 = (tu U 3 (ix p0) (rw6 (U 3 (ix p0) 0) (U 3 (ix p0) 1) (U 3 (ix p0) 2) (mn (9999 : Int32) ((U 3 (ix p0) 3) + p1)) (U 3 (ix p0) 4) (U 3 (ix p0) 5))) from by unfold u_X8_train; rw [if_neg c1, if_neg c2]]; exact ⟨hO2, ⟨Z, hL2⟩, hF2⟩)⟩ dX8_train_63
    · refine lv_aload_n hx hb dX8_train_30 rfl (lv_at hl 0 rfl) ?_
      refine lv_iconst (v := (2 : Int32)) hx hb dX8_train_31 (by decide) ?_
      refine g_callVi (n9 := 1) (As := [.int (2 : Int32)]) (rest := []) hx hb hml hl.1 hown hts hK hM (c_X8_no l G _ ma tx (0 : Int32) pr mo h0 fa lb (2 : Int32) hO1.1) wm_X8_49 wi_X8_no wl_X8_no wn_X8 wc_X8_no (by decide +kernel) (hM.recv hK (ci := 9) rfl hO1.1) ⟨Nat.le_of_ble_eq_true rfl, Nat.le_of_ble_eq_true rfl⟩ ⟨Nat.le_of_ble_eq_true rfl, Nat.le_of_ble_eq_true rfl⟩ rfl (Nat.le_of_ble_eq_true rfl) rfl dX8_train_32 (fun r_32 M9 H locs hq hM => ?_)
      obtain ⟨er, eM9⟩ := hq
      subst er
      replace hM := hM.eq eM9
      obtain ⟨M2, eM2⟩ : ∃ z, z = hu M1 ma tx (.inr (9, [.int (2 : Int32), .ref h0, .ref fa, .ref lb, .int pr, .int mo])) := ⟨_, rfl⟩
      replace hM : Wd G M2 s H locs := hM.eq eM2.symm
      have hO2 : XdR G M2 tx ma h0 fa lb (2 : Int32) pr mo F Lx := by rw [eM2]; exact hO1.setO (2 : Int32) pr mo
      have hL2 : MdR G M2 t h0 Z N U now := by rw [eM2]; exact hL1.frame (Ne.symm d1) (Fr.up hO1.1)
      have hF2 : F3 tx t t2 M M2 := by rw [eM2]; exact F3.tr hF1 (F3.up hO1.1 (Or.inr (Or.inl rfl)))
      exact g_iret hx hb hr hlocks hM (Nat.le_of_ble_eq_true rfl) (Nat.le_of_ble_eq_true rfl) ⟨(by unfold q_X8_train; rw [if_neg c1, if_pos c2]), (by rw [show th_X8_train N U now th pr mo F Lx p0 p1 = (2 : Int32) from by unfold th_X8_train; rw [if_neg c1, if_pos c2]]; rw [show u_X8_train N U now th pr mo F Lx p0 p1 = U from by unfold u_X8_train; rw [if_neg c1, if_pos c2]]; exact ⟨hO2, ⟨Z, hL2⟩, hF2⟩)⟩ dX8_train_35
  · refine lv_aload_n hx hb dX8_train_13 rfl (lv_at hl 0 rfl) ?_
    refine lv_iconst (v := (1 : Int32)) hx hb dX8_train_14 (by decide) ?_
    refine g_callVi (n9 := 1) (As := [.int (1 : Int32)]) (rest := []) hx hb hml hl.1 hown hts hK hM (c_X8_no l G _ ma tx (0 : Int32) pr mo h0 fa lb (1 : Int32) hO1.1) wm_X8_49 wi_X8_no wl_X8_no wn_X8 wc_X8_no (by decide +kernel) (hM.recv hK (ci := 9) rfl hO1.1) ⟨Nat.le_of_ble_eq_true rfl, Nat.le_of_ble_eq_true rfl⟩ ⟨Nat.le_of_ble_eq_true rfl, Nat.le_of_ble_eq_true rfl⟩ rfl (Nat.le_of_ble_eq_true rfl) rfl dX8_train_15 (fun r_15 M9 H locs hq hM => ?_)
    obtain ⟨er, eM9⟩ := hq
    subst er
    replace hM := hM.eq eM9
    obtain ⟨M2, eM2⟩ : ∃ z, z = hu M1 ma tx (.inr (9, [.int (1 : Int32), .ref h0, .ref fa, .ref lb, .int pr, .int mo])) := ⟨_, rfl⟩
    replace hM : Wd G M2 s H locs := hM.eq eM2.symm
    have hO2 : XdR G M2 tx ma h0 fa lb (1 : Int32) pr mo F Lx := by rw [eM2]; exact hO1.setO (1 : Int32) pr mo
    have hL2 : MdR G M2 t h0 Z N U now := by rw [eM2]; exact hL1.frame (Ne.symm d1) (Fr.up hO1.1)
    have hF2 : F3 tx t t2 M M2 := by rw [eM2]; exact F3.tr hF1 (F3.up hO1.1 (Or.inr (Or.inl rfl)))
    exact g_iret hx hb hr hlocks hM (Nat.le_of_ble_eq_true rfl) (Nat.le_of_ble_eq_true rfl) ⟨(by unfold q_X8_train; rw [if_pos c1]), (by rw [show th_X8_train N U now th pr mo F Lx p0 p1 = (1 : Int32) from by unfold th_X8_train; rw [if_pos c1]]; rw [show u_X8_train N U now th pr mo F Lx p0 p1 = U from by unfold u_X8_train; rw [if_pos c1]]; exact ⟨hO2, ⟨Z, hL2⟩, hF2⟩)⟩ dX8_train_18

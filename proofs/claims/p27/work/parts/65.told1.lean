/-! the teller of the law: what a cell of the script says, what is drawn, rows that are told beside the land -/
def cellP (L : Nat) (xs : Nat → Int32) (k : Nat) : Int32 := if k < L then xs k else (790386105 : Int32) * (nI k + 3)
def drV (L : Nat) (xs : Nat → Int32) (d : Nat) : Int32 := (cellP L xs (d % 24) >>> (nI (d / 24 % 8) &&& 31)) + nI 337 * nI d
def drN (L : Nat) (xs : Nat → Int32) (d n : Nat) : Nat := ((drV L xs d).toBitVec.toNat % 2 ^ 31) % n
theorem drN_lt {L : Nat} {xs : Nat → Int32} {d n : Nat} (h : 0 < n) : drN L xs d n < n := Nat.mod_lt _ h
theorem c_L_cell (l : Launch) (G : GG) (b L : Nat) (xs : Nat → Int32) (M : HM) (k : Nat) (hL : L ≤ 260) (hk : k < 1000) : Si l yL_cell (.code yL_cell cL_cell 2 (some .int) :: AL) 0 0 0 0 [.ref b, .int (nI k)] G b L xs M (fun r M' => r = cellP L xs k ∧ M' = M) := by
  refine Si.go (by decide) (Nat.le_of_ble_eq_true rfl) ?_
  intro p e s m below meth c ls hx hb hr hml hown hlocks hnm hts hS hK hX hM hl
  have hown : s.vm.findClass RL = some m.cls := hown
  have hl : lv_has ls 2 [(0, .ref b), (1, .int (nI k))] := hl
  refine lv_iload_n hx hb dL_cell_0 rfl (lv_at hl 1 rfl) ?_
  refine lv_aload_n hx hb dL_cell_1 rfl (lv_at hl 0 rfl) ?_
  refine va_tlen hx hb hS hM.2.1 (v := nI L) rfl dL_cell_2 ?_
  refine lv_icmp_ge (tgt := 12) hx hb dL_cell_3 (by decide) (fun c1 => ?_) (fun c1 => ?_)
  · have h1 : ¬ k < L := Nat.not_lt.mpr ((nI_leI (by omega) (by omega)).mp c1)
    refine lv_ldc (v := (790386105 : Int32)) hx hb hown (hts _ wq_L_8) dL_cell_12 ?_
    refine lv_iload_n hx hb dL_cell_14 rfl (lv_at hl 1 rfl) ?_
    refine lv_iconst (v := (3 : Int32)) hx hb dL_cell_15 (by decide) ?_
    refine lv_iadd hx hb dL_cell_16 ?_
    refine lv_imul hx hb dL_cell_17 ?_
    exact g_iret hx hb hr hlocks hM (Nat.zero_le _) (Nat.zero_le _) ⟨by unfold cellP; rw [if_neg h1], rfl⟩ dL_cell_18
  · have h1 : k < L := by
      rcases Nat.lt_or_ge k L with z | z
      · exact z
      · exact absurd ((nI_leI (by omega) (by omega)).mpr z) c1
    refine lv_aload_n hx hb dL_cell_6 rfl (lv_at hl 0 rfl) ?_
    refine lv_iload_n hx hb dL_cell_7 rfl (lv_at hl 1 rfl) ?_
    refine va_ti hx hb hS hM.2.1 (vp_in_nI h1 (by omega)) (v := .int (xs k)) (by rw [nI_clamp (by omega)]) dL_cell_8 ?_
    refine lv_goto (tgt := 18) hx hb dL_cell_9 (by decide) ?_
    exact g_iret hx hb hr hlocks hM (Nat.zero_le _) (Nat.zero_le _) ⟨by unfold cellP; rw [if_pos h1], rfl⟩ dL_cell_18
theorem c_L_below (l : Launch) (G : GG) (M : HM) (v : Int32) (n : Nat) (h0 : 0 < n) (hn : n < 10000) : Mi l yL_below (.code yL_below cL_below 2 (some .int) :: AL) 0 0 0 0 [.int v, .int (nI n)] G M (fun r M' => r = nI ((v.toBitVec.toNat % 2 ^ 31) % n) ∧ M' = M) := by
  refine Mi.go (by decide) (Nat.le_of_ble_eq_true rfl) ?_
  intro p e s m below meth c ls hx hb hr hml hown hlocks hnm hts hK hM hl
  have hown : s.vm.findClass RL = some m.cls := hown
  have hl : lv_has ls 2 [(0, .int v), (1, .int (nI n))] := hl
  refine lv_iload_n hx hb dL_below_0 rfl (lv_at hl 0 rfl) ?_
  refine lv_ldc (v := (2147483647 : Int32)) hx hb hown (hts _ wq_L_7) dL_below_1 ?_
  refine lv_iand hx hb dL_below_3 ?_
  rw [pk_and v 31 (by decide)]
  refine lv_iload_n hx hb dL_below_4 rfl (lv_at hl 1 rfl) ?_
  refine lv_irem hx hb dL_below_5 (nI_ne0 h0 (by omega)) ?_
  rw [pk_rem (Nat.mod_lt _ (by decide)) h0 (by omega)]
  exact g_iret hx hb hr hlocks hM (Nat.zero_le _) (Nat.zero_le _) ⟨rfl, rfl⟩ dL_below_6
/-- the teller's object -/
abbrev toldE (xa b d fa ca ta ea ka oa : Nat) : va_E := .inr (8, [.ref xa, .ref b, .int (nI d), .ref fa, .ref ca, .ref ta, .ref ea, .ref ka, .ref oa, .int 0, .int 400, .int 1000])
/-- rows of 11, told of fields: what they bring stands at 9, the last one's ripeness at 4 -/
def FA (G : GG) (M : HM) (ρ fa n : Nat) (B : Nat → Int32) (z : Int32) : Prop := ∃ g, M fa = some (ρ, qE G n g) ∧ ∀ i, i < n → ∃ y f, g i = some y ∧ M y = some (ρ, iE G 11 f) ∧ f 9 = B i ∧ (i + 1 = n → f 4 = z)
def AA (G : GG) (M : HM) (ρ a n : Nat) : Prop := ∃ g, M a = some (ρ, qE G n g) ∧ ∀ i, i < n → ∃ y w f, g i = some y ∧ M y = some (ρ, iE G w f)
/-- the arrays of a region stay -/
def Ka (ρ : Nat) (M M' : HM) : Prop := ∀ q x, M q = some (ρ, .inl x) → M' q = some (ρ, .inl x)
theorem Ka.rf {ρ : Nat} {M : HM} : Ka ρ M M := fun _ _ h => h
theorem Ka.tr {ρ : Nat} {M M1 M2 : HM} (h1 : Ka ρ M M1) (h2 : Ka ρ M1 M2) : Ka ρ M M2 := fun q x h => h2 q x (h1 q x h)
theorem Ka.obj {ρ a r : Nat} {M : HM} {ci : Nat} {fs : List Value} {e : va_E} (ha : M a = some (r, .inr (ci, fs))) : Ka ρ M (hu M a r e) := fun q x h => hu_n (hu_ne h ha (by intro z; injection z with z; injection z with z1 z2; cases z2)) h
theorem Ka.new {ρ a r : Nat} {M : HM} {e : va_E} (ha : M a = none) : Ka ρ M (hu M a r e) := fun q x h => hu_n (hu_ne h ha (by simp)) h
theorem Ka.sx {ρ ρ' : Nat} {M M' : HM} (h : Sx ρ' M M') (hd : ρ < ρ' + 2 ∨ ρ' + 4 < ρ) : Ka ρ M M' := fun q x hq => h q ρ _ hd hq
theorem FA.keep {G : GG} {M M' : HM} {ρ fa n : Nat} {B : Nat → Int32} {z : Int32} (h : FA G M ρ fa n B z) (hk : Ka ρ M M') : FA G M' ρ fa n B z := by
  obtain ⟨g, h1, h2⟩ := h
  refine ⟨g, hk _ _ h1, fun i hi => ?_⟩
  obtain ⟨y, f, a1, a2, a3⟩ := h2 i hi
  exact ⟨y, f, a1, hk _ _ a2, a3⟩
theorem AA.keep {G : GG} {M M' : HM} {ρ a n : Nat} (h : AA G M ρ a n) (hk : Ka ρ M M') : AA G M' ρ a n := by
  obtain ⟨g, h1, h2⟩ := h
  refine ⟨g, hk _ _ h1, fun i hi => ?_⟩
  obtain ⟨y, w, f, a1, a2⟩ := h2 i hi
  exact ⟨y, w, f, a1, hk _ _ a2⟩
theorem FA.aa {G : GG} {M : HM} {ρ fa n : Nat} {B : Nat → Int32} {z : Int32} (h : FA G M ρ fa n B z) : AA G M ρ fa n := by
  obtain ⟨g, h1, h2⟩ := h
  refine ⟨g, h1, fun i hi => ?_⟩
  obtain ⟨y, f, a1, a2, a3⟩ := h2 i hi
  exact ⟨y, 11, f, a1, a2⟩
/-- what isn't of the regions ρ to ρ + 4 stays -/
def Sb (ρ : Nat) (M M' : HM) : Prop := ∀ q r e, (r < ρ ∨ ρ + 4 < r) → M q = some (r, e) → M' q = some (r, e)
theorem Sb.rf {ρ : Nat} {M : HM} : Sb ρ M M := fun _ _ _ _ h => h
theorem Sb.tr {ρ : Nat} {M M1 M2 : HM} (h1 : Sb ρ M M1) (h2 : Sb ρ M1 M2) : Sb ρ M M2 := fun q r e hr hq => h2 q r e hr (h1 q r e hr hq)
theorem Sb.up {ρ a : Nat} {M : HM} {e0 e : va_E} (h : M a = some (ρ, e0)) : Sb ρ M (hu M a ρ e) := fun q r e' hr hq => hu_n (hu_ne hq h (rgne (by omega))) hq
theorem Sb.nw {ρ a r0 : Nat} {M : HM} {e : va_E} (h : M a = none) : Sb ρ M (hu M a r0 e) := fun q r e' hr hq => hu_n (hu_ne hq h (by simp)) hq
theorem Sb.sx {ρ : Nat} {M M' : HM} (h : Sx ρ M M') : Sb ρ M M' := fun q r e hr hq => h q r e (by omega) hq
/-- the teller at tt, in the region ρ, and its land -/
def TO (G : GG) (M : HM) (ρ tt xa b d nf nc nt ne : Nat) (B : Nat → Int32) (z : Int32) (N : Nat → Nat) (T : Tb) (now money : Int32) : Prop := ∃ fa ca ta ea ka oa, M tt = some (ρ, toldE xa b d fa ca ta ea ka oa) ∧ FA G M ρ fa nf B z ∧ AA G M ρ ca nc ∧ AA G M ρ ta nt ∧ AA G M ρ ea ne ∧ WR G M ρ xa N T now money
section TD
variable {G : GG} {M M' : HM} {ρ tt xa b d nf nc nt ne : Nat} {B : Nat → Int32} {z : Int32} {N : Nat → Nat} {T : Tb} {now money : Int32}
theorem TO.sb {ρ' : Nat} (h : TO G M ρ tt xa b d nf nc nt ne B z N T now money) (hs : Sb ρ' M M') (hd : ρ + 4 < ρ' ∨ ρ' + 4 < ρ) : TO G M' ρ tt xa b d nf nc nt ne B z N T now money := by
  obtain ⟨fa, ca, ta, ea, ka, oa, h1, h2, h3, h4, h5, h6⟩ := h
  have hk : Ka ρ M M' := fun q x hq => hs q ρ _ (by omega) hq
  exact ⟨fa, ca, ta, ea, ka, oa, hs _ _ _ (by omega) h1, h2.keep hk, h3.keep hk, h4.keep hk, h5.keep hk, h6.sv (fun q r e r1 r2 hq => hs q r e (by omega) hq)⟩
theorem TO.cell (h : TO G M ρ tt xa b d nf nc nt ne B z N T now money) : ∃ fa ca ta ea ka oa, M tt = some (ρ, toldE xa b d fa ca ta ea ka oa) := by
  obtain ⟨fa, ca, ta, ea, ka, oa, h1, -⟩ := h
  exact ⟨fa, ca, ta, ea, ka, oa, h1⟩
theorem TO.wr (h : TO G M ρ tt xa b d nf nc nt ne B z N T now money) : WR G M ρ xa N T now money := by
  obtain ⟨fa, ca, ta, ea, ka, oa, h1, h2, h3, h4, h5, h6⟩ := h
  exact h6
/-- a call of the face behind it -/
theorem TO.face {N' : Nat → Nat} {T' : Tb} {now' money' : Int32} (h : TO G M ρ tt xa b d nf nc nt ne B z N T now money) (hw : WR G M' ρ xa N' T' now' money') (hs : Sx ρ M M') : TO G M' ρ tt xa b d nf nc nt ne B z N' T' now' money' := by
  obtain ⟨fa, ca, ta, ea, ka, oa, h1, h2, h3, h4, h5, h6⟩ := h
  have hk : Ka ρ M M' := Ka.sx hs (by omega)
  exact ⟨fa, ca, ta, ea, ka, oa, hs _ _ _ (by omega) h1, h2.keep hk, h3.keep hk, h4.keep hk, h5.keep hk, hw⟩
end TD
set_option maxHeartbeats 4000000 in
set_option maxRecDepth 100000 in
theorem c_X7_draw (l : Launch) (G : GG) (M : HM) (b L : Nat) (xs : Nat → Int32) (ρ tt xa d nf nc nt ne n : Nat) (B : Nat → Int32) (z : Int32) (N : Nat → Nat) (T : Tb) (now money : Int32) (hT : TO G M ρ tt xa b d nf nc nt ne B z N T now money) (hL : L ≤ 260) (hd : d < 10000) (h0 : 0 < n) (hn : n < 10000) : Si l yX7_draw (.code yX7_draw cX7_draw 3 (some .int) :: AL) 1 30 0 0 [.ref tt, .int (nI n)] G b L xs M (fun r M' => r = nI (drN L xs d n) ∧ TO G M' ρ tt xa b (d + 1) nf nc nt ne B z N T now money ∧ Sb ρ M M') := by
  refine Si.go (by decide) (Nat.le_of_ble_eq_true rfl) ?_
  intro p e s m below meth c ls hx hb hr hml hown hlocks hnm hts hS hK hX hM hl
  have hown : s.vm.findClass RX7 = some m.cls := hown
  have hl : lv_has ls 3 [(0, .ref tt), (1, .int (nI n))] := hl
  obtain ⟨fa, ca, ta, ea, ka, oa, h1, h2, h3, h4, h5, h6⟩ := hT
  refine lv_aload_n hx hb dX7_draw_0 rfl (lv_at hl 0 rfl) ?_
  refine fg_X7_44 hx hb hts hown hK hM h1 dX7_draw_1 ?_
  refine lv_aload_n hx hb dX7_draw_4 rfl (lv_at hl 0 rfl) ?_
  refine fg_X7_47 hx hb hts hown hK hM h1 dX7_draw_5 ?_
  refine lv_bipush (v := nI 24) hx hb dX7_draw_8 (by decide) ?_
  refine lv_irem hx hb dX7_draw_10 (nI_ne0 (by decide) (by decide)) ?_
  rw [pk_rem (by omega) (by decide) (by decide)]
  refine g_sNi (n9 := 2) (As := [.ref b, .int (nI (d % 24))]) (rest := []) hx hb hml hl.1 hown hts hS hK hX hM (c_L_cell l G b L xs M (d % 24) hL (by omega)) hK.2.1.2.2.1 wt_L_cell wn_L wc_L_cell (by decide +kernel) ⟨Nat.le_of_ble_eq_true rfl, Nat.le_of_ble_eq_true rfl⟩ ⟨Nat.le_of_ble_eq_true rfl, Nat.le_of_ble_eq_true rfl⟩ rfl (Nat.le_of_ble_eq_true rfl) rfl dX7_draw_11 (fun r M1 H locs hq hM => ?_)
  obtain ⟨er, eM⟩ := hq
  replace hM := hM.eq eM
  rw [er]
  refine lv_aload_n hx hb dX7_draw_14 rfl (lv_at hl 0 rfl) ?_
  refine fg_X7_47 hx hb hts hown hK hM h1 dX7_draw_15 ?_
  refine lv_bipush (v := nI 24) hx hb dX7_draw_18 (by decide) ?_
  refine lv_idiv hx hb dX7_draw_20 (nI_ne0 (by decide) (by decide)) ?_
  rw [pk_div (by omega) (by decide) (by decide)]
  refine lv_bipush (v := nI 8) hx hb dX7_draw_21 (by decide) ?_
  refine lv_irem hx hb dX7_draw_23 (nI_ne0 (by decide) (by decide)) ?_
  rw [pk_rem (by omega) (by decide) (by decide)]
  refine lv_ishr hx hb dX7_draw_24 ?_
  refine lv_sipush (v := nI 337) hx hb dX7_draw_25 (by decide) ?_
  refine lv_aload_n hx hb dX7_draw_28 rfl (lv_at hl 0 rfl) ?_
  refine fg_X7_47 hx hb hts hown hK hM h1 dX7_draw_29 ?_
  refine lv_imul hx hb dX7_draw_32 ?_
  refine lv_iadd hx hb dX7_draw_33 ?_
  refine lv_iload_n hx hb dX7_draw_34 rfl (lv_at hl 1 rfl) ?_
  refine g_callSNi (n9 := 2) (As := [.int (drV L xs d), .int (nI n)]) (rest := []) hx hb hml hl.1 hown hts hK hM (c_L_below l G M (drV L xs d) n h0 hn) hK.2.1.2.2.2 wt_L_below wn_L wc_L_below (by decide +kernel) ⟨Nat.le_of_ble_eq_true rfl, Nat.le_of_ble_eq_true rfl⟩ ⟨Nat.le_of_ble_eq_true rfl, Nat.le_of_ble_eq_true rfl⟩ rfl (Nat.le_of_ble_eq_true rfl) rfl dX7_draw_35 (fun r M1 H locs hq hM => ?_)
  obtain ⟨er, eM⟩ := hq
  replace hM := hM.eq eM
  rw [er]
  refine lv_istore_n (lv' := [(2, .int (nI (drN L xs d n))), (0, .ref tt), (1, .int (nI n))]) hx hb dX7_draw_38 rfl hl (by decide) rfl (fun ls hl => ?_)
  refine lv_aload_n hx hb dX7_draw_39 rfl (lv_at hl 1 rfl) ?_
  refine lv_dup hx hb dX7_draw_40 rfl ?_
  refine fg_X7_47 hx hb hts hown hK hM h1 dX7_draw_41 ?_
  refine lv_iconst (v := (1 : Int32)) hx hb dX7_draw_44 (by decide) ?_
  refine lv_iadd hx hb dX7_draw_45 ?_
  rw [nI_1]
  refine fp_X7_47 hx hb hts hown hK hM h1 dX7_draw_46 (fun H locs hM => ?_)
  refine lv_iload_n hx hb dX7_draw_49 rfl (lv_at hl 0 rfl) ?_
  have hk : Ka ρ M (hu M tt ρ (toldE xa b (d + 1) fa ca ta ea ka oa)) := Ka.obj h1
  exact g_iret hx hb hr hlocks hM (Nat.zero_le _) (Nat.zero_le _) ⟨rfl, ⟨fa, ca, ta, ea, ka, oa, hu_s, h2.keep hk, h3.keep hk, h4.keep hk, h5.keep hk, h6.up h1 (by omega)⟩, Sb.up h1⟩ dX7_draw_50
set_option maxHeartbeats 4000000 in
set_option maxRecDepth 100000 in
theorem c_X7_plus (l : Launch) (G : GG) (M : HM) (a0 r0 n y ry w rq : Nat) (g : Nat → Option Nat) (f : Nat → Int32) (ha : M a0 = some (r0, qE G n g)) (hy : M y = some (ry, iE G w f)) (hel : ∀ i, i < n → ∀ v, g i = some v → ∃ rv w' f', M v = some (rv, iE G w' f')) (hn : n < 1000) : Mq l yX7_plus (.code yX7_plus cX7_plus 3 (some (.array (.array .int))) :: AL) 1 60 1 (n + 1) [.ref a0, .ref y] G M (fun r M' => ∃ q g', r = some q ∧ M q = none ∧ M' = hu M q rq (qE G (n + 1) g') ∧ (∀ i, i < n → g' i = g i) ∧ g' n = some y) := by
  refine Mq.go (by decide) (Nat.le_of_ble_eq_true rfl) ?_
  intro p e s m below meth c ls hx hb hr hml hown hlocks hnm hts hK hM hl
  have hown : s.vm.findClass RX7 = some m.cls := hown
  have hl : lv_has ls 3 [(0, .ref a0), (1, .ref y)] := hl
  refine lv_aload_n hx hb dX7_plus_0 rfl (lv_at hl 0 rfl) ?_
  refine g_alen hx hb hK hM ha (j := 1) rfl (v := nI n) rfl dX7_plus_1 ?_
  refine lv_iconst (v := (1 : Int32)) hx hb dX7_plus_2 (by decide) ?_
  refine lv_iadd hx hb dX7_plus_3 ?_
  rw [nI_1]
  refine g_newA hx hb hts hown hK hM wk_X7_16 (N' := n + 1) (nI_pos (by omega)) (nI_clamp (by omega)) (by omega) rq (Nat.le_of_ble_eq_true rfl) (by show 0 + (n + 1) ≤ n + 1; omega) dX7_plus_4 (fun q H hqn hM => ?_)
  refine lv_astore_n (lv' := [(2, .ref q), (0, .ref a0), (1, .ref y)]) hx hb dX7_plus_7 rfl hl (by decide) rfl (fun ls hl => ?_)
  have old : ∀ {x : Nat} {o : Nat × va_E} (e : va_E), M x = some o → hu M q rq e x = some o := fun e hx => hu_n (hu_ne hx hqn (by simp)) hx
  refine lv_aload_n hx hb dX7_plus_8 rfl (lv_at hl 1 rfl) ?_
  refine lv_iconst (v := (0 : Int32)) hx hb dX7_plus_9 (by decide) ?_
  refine lv_aload_n hx hb dX7_plus_10 rfl (lv_at hl 0 rfl) ?_
  refine lv_iconst (v := (0 : Int32)) hx hb dX7_plus_11 (by decide) ?_
  refine lv_aload_n hx hb dX7_plus_12 rfl (lv_at hl 1 rfl) ?_
  refine g_alen hx hb hK hM (old _ ha) (j := 1) rfl (v := nI n) rfl dX7_plus_13 ?_
  have ec : (0 : Int32).toNatClampNeg = 0 := by decide
  have en : (nI n).toNatClampNeg = n := nI_clamp (by omega)
  refine g_copyA hx hb (hml.trans hl.1.symm) hts hown hK hM wm_X7_60 (f := g) (g := fun _ => none) (old _ ha) hu_s (by decide) (by decide) (nI_pos (by omega)) (by rw [ec, en]; omega) (by rw [ec, en]; omega) (fun i hi v hv => ?_) (Nat.le_of_ble_eq_true rfl) (Nat.le_of_ble_eq_true rfl) dX7_plus_14 (fun H locs hM => ?_)
  · rw [ec, Nat.zero_add] at hv
    rw [en] at hi
    obtain ⟨rv, w', f', hz⟩ := hel i hi v hv
    exact ⟨rv, w', f', old _ hz⟩
  replace hM := hM.eq (hu_u _ _ _ _ _ _)
  refine lv_aload_n hx hb dX7_plus_17 rfl (lv_at hl 0 rfl) ?_
  refine lv_aload_n hx hb dX7_plus_18 rfl (lv_at hl 1 rfl) ?_
  refine g_alen hx hb hK hM (old _ ha) (j := 1) rfl (v := nI n) rfl dX7_plus_19 ?_
  refine lv_aload_n hx hb dX7_plus_20 rfl (lv_at hl 2 rfl) ?_
  refine g_aastA hx hb hK hM hu_s (old _ hy) (vp_in_nI (show n < n + 1 by omega) (by omega)) dX7_plus_21 (fun H locs hM => ?_)
  replace hM := hM.eq (hu_u _ _ _ _ _ _)
  refine lv_aload_n hx hb dX7_plus_22 rfl (lv_at hl 0 rfl) ?_
  refine g_qret (v := some q) hx hb hr (Or.inr ⟨_, rfl⟩) hlocks hM (Nat.le_of_ble_eq_true rfl) (by show 0 + (n + 1) ≤ n + 1; omega) ⟨q, _, rfl, hqn, rfl, fun i hi => ?_, ?_⟩ dX7_plus_23
  · rw [en, ec]
    show (if i = n then some y else (if 0 ≤ i ∧ i < 0 + n then g (0 + (i - 0)) else none)) = g i
    rw [if_neg (by omega), if_pos ⟨Nat.zero_le _, by omega⟩, Nat.zero_add, Nat.sub_zero]
  · rw [en]
    exact if_pos rfl

section TRT
variable {n0 n1 n2 n3 : Nat} {tr now price w a r : Int32} {i v : Nat} {S : TS}
theorem ulP_tr (h : ¬ tr = 0) : (ulP n0 tr now price i v S).2 = S.2 := by
  unfold ulP
  split
  · rfl
  · first | rfl | rw [if_neg h]
theorem trP_tr (h : ¬ tr = 0) : (trP n0 n1 n3 tr now price i S).2 = S.2 := by
  unfold trP
  split
  · split
    · split <;> rfl
    · split
      · split
        · split
          · rfl
          · exact ulP_tr h
        · rfl
      · rfl
  · rfl
theorem trsP_tr (h : ¬ tr = 0) : ∀ i, (trsP n0 n1 n3 tr now price i S).2 = S.2
  | 0 => rfl
  | i + 1 => (trP_tr h).trans (trsP_tr h i)
theorem hrP_tr (h : ¬ tr = 0) : (hrP n0 n1 n2 n3 tr now price w a r S).2 = S.2 := trsP_tr h n2
theorem hrsP_tr (h : ¬ tr = 0) : ∀ k, (hrsP n0 n1 n2 n3 tr now price w a r k S).2 = S.2
  | 0 => rfl
  | k + 1 => (hrP_tr h).trans (hrsP_tr h k)
end TRT
/-- what a combine would cut, if it were sent: its own bushels behind the hours, less those ahead -/
def bsP (N : Nat → Nat) (T : Tb) (tr now price money c f h w a : Int32) : Int32 :=
  if ixR (N 1) c = none then 0 else (hrsP (N 0) (N 1) (N 2) (N 3) tr now price w a 0 (ix h) (tu T 1 (ix c) (upd (T 1 (ix c)) 9 f), 0, money)).1 1 (ix c) 11 - T 1 (ix c) 11
set_option maxHeartbeats 4000000 in
set_option maxRecDepth 100000 in
theorem c_X6_bushelsIfSent (l : Launch) (G : GG) (M : HM) (xa rx h2 h3 t h0 : Nat) (Y : LY) (N : Nat → Nat) (T : Tb) (tr now price money : Int32) (t1 : Nat) (Yo : LY) (No : Nat → Nat) (To : Tb) (tr1 now1 price1 money1 p0 p1 p2 p3 p4 : Int32) (ho : M xa = some (rx, .inr (7, [.ref h2, .ref h0, .ref h3]))) (hrx : rx ≠ t) (hL : LdR G M t h0 Y N T tr now price money) (hLo : LdR G M t1 h2 Yo No To tr1 now1 price1 money1) (hne : t1 ≠ t) (k0 : N 0 ≤ No 0 ∧ No 0 ≤ 8) (k1 : N 1 ≤ No 1 ∧ No 1 ≤ 8) (k2 : N 2 ≤ No 2 ∧ No 2 ≤ 8) (k3 : N 3 ≤ No 3 ∧ No 3 ≤ 8) (h4 : N 4 = 0) (hB : ∀ i, i < No 1 → To 1 i 7 = 0 ∨ To 1 i 7 = 1) (htr : ¬ tr = 0) (hp2 : ¬ p2 < 0) : Mi l yX6_bushelsIfSent (.code yX6_bushelsIfSent cX6_bushelsIfSent 9 (some .int) :: AL) 11 265 (2 * (No 0 + No 1 + No 2 + No 3 - (N 0 + N 1 + N 2 + N 3))) (40 * (No 0 + No 1 + No 2 + No 3 - (N 0 + N 1 + N 2 + N 3))) [.ref xa, .int p0, .int p1, .int p2, .int p3, .int p4] G M (fun r M' => r = bsP No To tr now1 price1 money1 p0 p1 p2 p3 p4 ∧ ∃ Y' T' now', LdR G M' t h0 Y' (nu No 4 0) T' tr now' price1 money1 ∧ Fr t M M') := by
  refine Mi.go (by decide) (Nat.le_of_ble_eq_true rfl) ?_
  intro p e s m below meth c ls hx hb hr hml hown hlocks hname hts hK hM hl
  have hown : s.vm.findClass RX6 = some m.cls := hown
  have hl : lv_has ls 9 [(0, .ref xa), (1, .int p0), (2, .int p1), (3, .int p2), (4, .int p3), (5, .int p4)] := hl
  obtain ⟨mc, emc⟩ : ∃ z, z = (2 * (No 0 + No 1 + No 2 + No 3 - (N 0 + N 1 + N 2 + N 3))) := ⟨_, rfl⟩
  obtain ⟨ms, ems⟩ : ∃ z, z = (40 * (No 0 + No 1 + No 2 + No 3 - (N 0 + N 1 + N 2 + N 3))) := ⟨_, rfl⟩
  rw [← emc, ← ems]
  refine lv_aload_n hx hb dX6_bushelsIfSent_0 rfl (lv_at hl 0 rfl) ?_
  refine fg_X6_18 hx hb hts hown hK hM ho dX6_bushelsIfSent_1 ?_
  refine lv_aload_n hx hb dX6_bushelsIfSent_4 rfl (lv_at hl 0 rfl) ?_
  refine fg_X6_12 hx hb hts hown hK hM ho dX6_bushelsIfSent_5 ?_
  refine g_callVv (n9 := 1) (As := [.ref h2]) (rest := []) hx hb hml hl.1 hown hts hK hM (c_X3_copyFrom l G _ t h0 Y N T tr now price money t1 h2 Yo No To tr1 now1 price1 money1 hL hLo hne k0 k1 k2 k3 h4 hB) wm_X6_383 wi_X3_copyFrom wl_X3_copyFrom wn_X3 wc_X3_copyFrom (by decide +kernel) (hM.recv hK (ci := 4) rfl hL.1) ⟨Nat.le_of_ble_eq_true rfl, Nat.le_of_ble_eq_true rfl⟩ ⟨by show 0 + _ ≤ mc; omega, by show 0 + _ ≤ ms; omega⟩ rfl (Nat.le_of_ble_eq_true rfl) rfl dX6_bushelsIfSent_8 (fun M1 H locs hq hM => ?_)
  obtain ⟨Y1, hL1, hF1⟩ := hq
  refine W.cst (cells' := mc) (slots' := ms) (by omega) (by omega) ?_
  refine lv_aload_n hx hb dX6_bushelsIfSent_11 rfl (lv_at hl 0 rfl) ?_
  refine fg_X6_18 hx hb hts hown hK hM (hF1 _ _ _ hrx ho) dX6_bushelsIfSent_12 ?_
  refine lv_iload_n hx hb dX6_bushelsIfSent_15 rfl (lv_at hl 1 rfl) ?_
  rcases x1 : ixR (No 1) p0 with _ | j1
  · refine g_callVq (n9 := 1) (As := [.int p0]) (rest := []) hx hb hml hl.1 hown hts hK hM (c_X3_combineAt l G _ t h0 Y1 (nu No 4 0) _ tr now1 price1 money1 p0 hL1) wm_X6_125 wi_X3_combineAt wl_X3_combineAt wn_X3 wc_X3_combineAt (by decide +kernel) (hM.recv hK (ci := 4) rfl hL1.1) ⟨Nat.le_of_ble_eq_true rfl, Nat.le_of_ble_eq_true rfl⟩ ⟨by show _ ≤ mc; omega, by show _ ≤ ms; omega⟩ rfl (Nat.le_of_ble_eq_true rfl) rfl dX6_bushelsIfSent_16 (fun r_16 Mz H locs hq hM => ?_)
    have hq1 := (hq.1.trans (atR_n (N := (nu No 4 0)) (k := 1) x1)).symm
    have hq2 := hq.2.symm
    subst hq1 hq2
    refine lv_astoreN (lv' := [(6, .null), (0, .ref xa), (1, .int p0), (2, .int p1), (3, .int p2), (4, .int p3), (5, .int p4)]) hx hb dX6_bushelsIfSent_19 hl (by decide) rfl (fun ls hl => ?_)
    refine lv_aloadN hx hb dX6_bushelsIfSent_21 (lv_at hl 0 rfl) ?_
    refine lv_ifnonnullN hx hb dX6_bushelsIfSent_23 ?_
    refine lv_iconst (v := (0 : Int32)) hx hb dX6_bushelsIfSent_26 (by decide) ?_
    exact g_iret hx hb hr hlocks hM (Nat.le_refl _) (Nat.le_refl _) ⟨(if_pos x1).symm, Y1, _, _, hL1, hF1⟩ dX6_bushelsIfSent_27
  · obtain rfl : j1 = (ix p0) := ixR_ix x1
    have lx1 : (ix p0) < (nu No 4 0) 1 := (ixR_lt (hL1.2.2.2.2.2.2.1 1) x1).1
    have nx1 : ¬ ixR (No 1) p0 = none := by rw [x1]; exact fun z => nomatch z
    refine g_callVq (n9 := 1) (As := [.int p0]) (rest := []) hx hb hml hl.1 hown hts hK hM (c_X3_combineAt l G _ t h0 Y1 (nu No 4 0) _ tr now1 price1 money1 p0 hL1) wm_X6_125 wi_X3_combineAt wl_X3_combineAt wn_X3 wc_X3_combineAt (by decide +kernel) (hM.recv hK (ci := 4) rfl hL1.1) ⟨Nat.le_of_ble_eq_true rfl, Nat.le_of_ble_eq_true rfl⟩ ⟨by show _ ≤ mc; omega, by show _ ≤ ms; omega⟩ rfl (Nat.le_of_ble_eq_true rfl) rfl dX6_bushelsIfSent_16 (fun r_16 Mz H locs hq hM => ?_)
    have hq1 := (hq.1.trans (atR_s (N := (nu No 4 0)) (k := 1) x1)).symm
    have hq2 := hq.2.symm
    subst hq1 hq2
    refine lv_astore (lv' := [(6, .ref (Y1.2.2.2.2.2 1 (ix p0))), (0, .ref xa), (1, .int p0), (2, .int p1), (3, .int p2), (4, .int p3), (5, .int p4)]) hx hb dX6_bushelsIfSent_19 hl (by decide) rfl (fun ls hl => ?_)
    refine lv_aload hx hb dX6_bushelsIfSent_21 (lv_at hl 0 rfl) ?_
    refine lv_ifnonnull (tgt := 28) hx hb dX6_bushelsIfSent_23 (by decide) ?_
    refine lv_aload hx hb dX6_bushelsIfSent_28 (lv_at hl 0 rfl) ?_
    refine fg_X6_386 hx hb hts hown hK hM (hL1.row (k := 1) (i := (ix p0)) (by decide) lx1) dX6_bushelsIfSent_30 ?_
    refine lv_istore (lv' := [(7, .int ((To 1 (ix p0)) 11)), (6, .ref (Y1.2.2.2.2.2 1 (ix p0))), (0, .ref xa), (1, .int p0), (2, .int p1), (3, .int p2), (4, .int p3), (5, .int p4)]) hx hb dX6_bushelsIfSent_33 hl (by decide) rfl (fun ls hl => ?_)
    refine lv_aload hx hb dX6_bushelsIfSent_35 (lv_at hl 1 rfl) ?_
    refine lv_iload_n hx hb dX6_bushelsIfSent_37 rfl (lv_at hl 4 rfl) ?_
    refine fp_X6_131 hx hb hts hown hK hM (hL1.row (k := 1) (i := (ix p0)) (by decide) lx1) dX6_bushelsIfSent_38 (fun H locs hM => ?_)
    obtain ⟨M2, eM2⟩ : ∃ z, z = hu M1 (Y1.2.2.2.2.2 1 (ix p0)) t (eC 1 (upd (To 1 (ix p0)) 9 p1)) := ⟨_, rfl⟩
    replace hM := hM.eq eM2.symm
    have hL2 : LdR G M2 t h0 Y1 (nu No 4 0) (tu To 1 (ix p0) (upd (To 1 (ix p0)) 9 p1)) tr now1 price1 money1 := by rw [eM2]; exact hL1.setRow (k := 1) (by decide) lx1 (upd (To 1 (ix p0)) 9 p1)
    have hF2 : Fr t M M2 := by rw [eM2]; exact Fr.tr hF1 (Fr.up (hL1.row (k := 1) (i := (ix p0)) (by decide) lx1))
    have hr2_1 : M2 (Y1.2.2.2.2.2 1 (ix p0)) = some (t, eC 1 (upd (To 1 (ix p0)) 9 p1)) := by rw [eM2]; exact hu_s
    refine lv_iconst (v := (0 : Int32)) hx hb dX6_bushelsIfSent_41 (by decide) ?_
    refine lv_istore (lv' := [(8, .int (0 : Int32)), (7, .int ((To 1 (ix p0)) 11)), (6, .ref (Y1.2.2.2.2.2 1 (ix p0))), (0, .ref xa), (1, .int p0), (2, .int p1), (3, .int p2), (4, .int p3), (5, .int p4)]) hx hb dX6_bushelsIfSent_42 hl (by decide) rfl (fun ls hl => ?_)
    obtain ⟨hh, hh31⟩ := ix_nI hp2
    obtain ⟨n9, en9⟩ : ∃ z, z = ix p2 := ⟨_, rfl⟩
    rw [← en9] at hh hh31
    have L44 : ∀ (n i : Nat), i ≤ n9 → n9 - i < n → ∀ (M5 : HM) (H : Heap) (locs : List Loc) (ls : Array Slot) (Y5 : LY) (S5 : TS), S5 = (hrsP (No 0) (No 1) (No 2) (No 3) tr now1 price1 p3 p4 0 i ((tu To 1 (ix p0) (upd (To 1 (ix p0)) 9 p1)), 0, money1)) → S5.2 = (0, money1) → LdR G M5 t h0 Y5 (nu No 4 0) S5.1 tr (now1 + nI i) price1 money1 → Fr t M M5 → (∀ k j, k ≠ 4 → Y5.2.2.2.2.2 k j = Y1.2.2.2.2.2 k j) → Wd G M5 s H locs → lv_has ls 9 [(8, .int (nI i)), (7, .int (To 1 (ix p0) 11)), (6, .ref (Y1.2.2.2.2.2 1 (ix p0))), (0, .ref xa), (1, .int p0), (2, .int p1), (3, .int p2), (4, .int p3), (5, .int p4)] → W p l e ({ frames := 11, cells := mc, slots := ms, locals := 265 } : Room) s m [.ref xa, .int p0, .int p1, .int p2, .int p3, .int p4].toArray below meth c H locs mc ms (MQ below (va_Qi (fun r M' => r = bsP No To tr now1 price1 money1 p0 p1 p2 p3 p4 ∧ ∃ Y' T' now', LdR G M' t h0 Y' (nu No 4 0) T' tr now' price1 money1 ∧ Fr t M M') (gB G) (gA G)) [.ref xa, .int p0, .int p1, .int p2, .int p3, .int p4].toArray s mc ms (gA G)) (F0 m 44 ls []) := by
      intro n
      induction n with
      | zero => intro i h1 h2; omega
      | succ n ih =>
        intro i h1 h2 M5 H locs ls Y5 S5 eS eS2 hL5 hF5 hY5 hM hl
        refine lv_iload hx hb dX6_bushelsIfSent_44 (lv_at hl 0 rfl) ?_
        refine lv_iload_n hx hb dX6_bushelsIfSent_46 rfl (lv_at hl 6 rfl) ?_
        refine lv_icmp_ge (tgt := 68) hx hb dX6_bushelsIfSent_47 (by decide) (fun c2 => ?_) (fun c2 => ?_)
        · rw [hh] at c2
          have hi : i = n9 := by
            have := (nI_leI (a := n9) (b := i) (by omega) (by omega)).mp c2
            omega
          have hrw : M5 (Y1.2.2.2.2.2 1 (ix p0)) = some (t, eC 1 (S5.1 1 (ix p0))) := by
            have z := hL5.row (k := 1) (i := (ix p0)) (by decide) lx1
            rw [hY5 1 (ix p0) (by decide)] at z
            exact z
          refine lv_aload hx hb dX6_bushelsIfSent_68 (lv_at hl 2 rfl) ?_
          refine fg_X6_386 hx hb hts hown hK hM hrw dX6_bushelsIfSent_70 ?_
          refine lv_iload hx hb dX6_bushelsIfSent_73 (lv_at hl 1 rfl) ?_
          refine lv_isub hx hb dX6_bushelsIfSent_75 ?_
          refine g_iret hx hb hr hlocks hM (Nat.le_refl _) (Nat.le_refl _) ⟨?_, Y5, _, _, hL5, hF5⟩ dX6_bushelsIfSent_76
          have hnx : ¬ ixR (No 1) p0 = none := nx1
          unfold bsP
          rw [if_neg hnx, ← en9, ← hi, ← eS]
        · rw [hh] at c2
          have hi : i < n9 := by
            rcases Nat.lt_or_ge i n9 with z | z
            · exact z
            · exact absurd (nI_le z (by omega)) c2
          refine lv_aload_n hx hb dX6_bushelsIfSent_50 rfl (lv_at hl 3 rfl) ?_
          refine fg_X6_18 hx hb hts hown hK hM (hF5 _ _ _ hrx ho) dX6_bushelsIfSent_51 ?_
          refine lv_iload hx hb dX6_bushelsIfSent_54 (lv_at hl 7 rfl) ?_
          refine lv_iload hx hb dX6_bushelsIfSent_56 (lv_at hl 8 rfl) ?_
          refine lv_iconst (v := (0 : Int32)) hx hb dX6_bushelsIfSent_58 (by decide) ?_
          have eSS : S5 = (S5.1, 0, money1) := by rw [← eS2]
          have en : (hrP (No 0) (No 1) (No 2) (No 3) tr (now1 + nI i) price1 p3 p4 0 S5) = hrsP (No 0) (No 1) (No 2) (No 3) tr now1 price1 p3 p4 0 (i + 1) ((tu To 1 (ix p0) (upd (To 1 (ix p0)) 9 p1)), 0, money1) := by rw [eS]; rfl
          have en2 : (hrP (No 0) (No 1) (No 2) (No 3) tr (now1 + nI i) price1 p3 p4 0 S5).2 = (0, money1) := (hrP_tr htr).trans eS2
          have ez : (hrP (No 0) (No 1) (No 2) (No 3) tr (now1 + nI i) price1 p3 p4 0 S5).2.1 = 0 := congrArg Prod.fst en2
          have ew : hrP (No 0) (No 1) (No 2) (No 3) tr (now1 + nI i) price1 p3 p4 0 (S5.1, 0, money1) = (hrP (No 0) (No 1) (No 2) (No 3) tr (now1 + nI i) price1 p3 p4 0 S5) := by rw [← eSS]
          have ev : (hrP (No 0) (No 1) (No 2) (No 3) tr (now1 + nI i) price1 p3 p4 0 (S5.1, 0, money1)).2.1 = 0 := by rw [ew]; exact ez
          refine g_callVv (n9 := 3) (As := [.int p3, .int p4, .int (0 : Int32)]) (rest := []) hx hb hml hl.1 hown hts hK hM (c_X3_passHour l G _ t h0 Y5 (nu No 4 0) S5.1 tr (now1 + nI i) price1 money1 p3 p4 0 hL5 (by show (hrP (No 0) (No 1) (No 2) (No 3) tr (now1 + nI i) price1 p3 p4 0 (S5.1, 0, money1)).2.1 < 600; rw [ev]; decide)) wm_X6_204 wi_X3_passHour wl_X3_passHour wn_X3 wc_X3_passHour (by decide +kernel) (hM.recv hK (ci := 4) rfl hL5.1) ⟨Nat.le_of_ble_eq_true rfl, Nat.le_of_ble_eq_true rfl⟩ ⟨by show mc + 2 * ((hrP (No 0) (No 1) (No 2) (No 3) tr (now1 + nI i) price1 p3 p4 0 (S5.1, 0, money1)).2.1 - 0) ≤ mc; rw [ev]; omega, by show ms + 1000 * ((hrP (No 0) (No 1) (No 2) (No 3) tr (now1 + nI i) price1 p3 p4 0 (S5.1, 0, money1)).2.1 - 0) ≤ ms; rw [ev]; omega⟩ rfl (Nat.le_of_ble_eq_true rfl) rfl dX6_bushelsIfSent_59 (fun M9 H locs hq hM => ?_)
          obtain ⟨Y9, g1, g2, g3, g4⟩ := hq
          replace g1 : LdR G M9 t h0 Y9 (nu (nu No 4 0) 4 (hrP (No 0) (No 1) (No 2) (No 3) tr (now1 + nI i) price1 p3 p4 0 (S5.1, 0, money1)).2.1) (hrP (No 0) (No 1) (No 2) (No 3) tr (now1 + nI i) price1 p3 p4 0 (S5.1, 0, money1)).1 tr (now1 + nI i + 1) price1 (hrP (No 0) (No 1) (No 2) (No 3) tr (now1 + nI i) price1 p3 p4 0 (S5.1, 0, money1)).2.2 := g1
          rw [nu_nu, now_s, ew, en2] at g1
          refine W.cst (cells' := mc) (slots' := ms) (by show mc + 2 * ((hrP (No 0) (No 1) (No 2) (No 3) tr (now1 + nI i) price1 p3 p4 0 (S5.1, 0, money1)).2.1 - 0) = _; rw [ev]; omega) (by show ms + 1000 * ((hrP (No 0) (No 1) (No 2) (No 3) tr (now1 + nI i) price1 p3 p4 0 (S5.1, 0, money1)).2.1 - 0) = _; rw [ev]; omega) ?_
          refine lv_iinc (v := (nI (i + 1))) (lv' := [(8, .int (nI (i + 1))), (7, .int (To 1 (ix p0) 11)), (6, .ref (Y1.2.2.2.2.2 1 (ix p0))), (0, .ref xa), (1, .int p0), (2, .int p1), (3, .int p2), (4, .int p3), (5, .int p4)]) hx hb dX6_bushelsIfSent_62 hl (k := 0) rfl (nI_1 i) (by decide) rfl (fun ls hl => ?_)
          refine lv_goto (tgt := 44) hx hb dX6_bushelsIfSent_65 (by decide) ?_
          exact ih (i + 1) (by omega) (by omega) M9 _ _ _ Y9 _ en en2 g1 (Fr.tr hF5 g2) (fun k j hk => (g3 k j hk).trans (hY5 k j hk)) hM (lv_sub hl [0, 1, 2, 3, 4, 5, 6, 7, 8] rfl)
    exact L44 (n9 + 1) 0 (Nat.zero_le _) (by omega) _ _ _ _ Y1 ((tu To 1 (ix p0) (upd (To 1 (ix p0)) 9 p1)), 0, money1) rfl rfl (by show LdR G _ t h0 Y1 (nu No 4 0) (tu To 1 (ix p0) (upd (To 1 (ix p0)) 9 p1)) tr (now1 + 0) price1 money1; rw [Int32.add_zero]; exact hL2) hF2 (fun _ _ _ => rfl) hM (lv_sub hl [0, 1, 2, 3, 4, 5, 6, 7, 8] rfl)
/-- which field is the best so far, and what it would bring -/
def nfV (s i g b m : Int32) : Int32 × Int32 := if m < s then (i, s) else if s = m then (if s ≤ 0 then (b, m) else if i = g then (i, s) else (b, m)) else (b, m)
def nfP (N : Nat → Nat) (T : Tb) (tr now price money c h w a : Int32) : Nat → Int32 × Int32
  | 0 => (-1, 0)
  | i + 1 => if t_X2_uncut_0 (T 0 i 2) (T 0 i 5) ≤ 0 then nfP N T tr now price money c h w a i else nfV (bsP N T tr now price money c (nI i) h w a) (nI i) (T 1 (ix c) 9) (nfP N T tr now price money c h w a i).1 (nfP N T tr now price money c h w a i).2
/-- the trial's rows behind so many fields -/
def ntP (N Nt : Nat → Nat) (T : Tb) : Nat → Nat → Nat
  | 0 => Nt
  | i + 1 => if t_X2_uncut_0 (T 0 i 2) (T 0 i 5) ≤ 0 then ntP N Nt T i else nu N 4 0
theorem ntP_b {N Nt : Nat → Nat} {T : Tb} {k : Nat} (hk : k ≠ 4) (h : Nt k ≤ N k) : ∀ i, Nt k ≤ ntP N Nt T i k ∧ ntP N Nt T i k ≤ N k
  | 0 => ⟨Nat.le_refl _, h⟩
  | i + 1 => by
    unfold ntP
    split
    · exact ntP_b hk h i
    · rw [nu_n hk]
      exact ⟨h, Nat.le_refl _⟩
theorem ntP_4 {N Nt : Nat → Nat} {T : Tb} (h : Nt 4 = 0) : ∀ i, ntP N Nt T i 4 = 0
  | 0 => h
  | i + 1 => by
    unfold ntP
    split
    · exact ntP_4 h i
    · exact nu_s
theorem ntP_m {N Nt : Nat → Nat} {T : Tb} {k i j : Nat} (hk : k ≠ 4) (h : Nt k ≤ N k) (hij : i ≤ j) : ntP N Nt T i k ≤ ntP N Nt T j k := by
  induction hij with
  | refl => exact Nat.le_refl _
  | @step j _ ih =>
    refine Nat.le_trans ih ?_
    show ntP N Nt T j k ≤ (if t_X2_uncut_0 (T 0 j 2) (T 0 j 5) ≤ 0 then ntP N Nt T j else nu N 4 0) k
    split
    · exact Nat.le_refl _
    · rw [nu_n hk]
      exact (ntP_b hk h j).2
def kc_X6_nextField (N : Nat → Nat) (T : Tb) (tr now price money : Int32) (p0 p1 p2 p3 : Int32) : Nat := if ixR (N 1) p0 = none then 1 else (if (t_X6_isNoForecast_0 p1 p2 p3 (0 : Int32)) = 0 then 0 else 2)
set_option maxHeartbeats 4000000 in
set_option maxRecDepth 100000 in
theorem c_X6_nextField (l : Launch) (hst : l.stackTraces = false) (G : GG) (M : HM) (xa rx h2 h3 : Nat) (t h0 : Nat) (Y : LY) (N : Nat → Nat) (T : Tb) (tr now price money : Int32) (p0 p1 p2 p3 : Int32) (ho : M xa = some (rx, .inr (7, [.ref h0, .ref h2, .ref h3]))) (hrx : rx ≠ t) (hL : LdR G M t h0 Y N T tr now price money) (t2 : Nat) (Yt : LY) (Nt : Nat → Nat) (Tt : Tb) (tr2 nowt pricet moneyt : Int32) (hrx2 : rx ≠ t2) (hLt : LdR G M t2 h2 Yt Nt Tt tr2 nowt pricet moneyt) (hne : t ≠ t2) (k0 : Nt 0 ≤ N 0 ∧ N 0 ≤ 8) (k1 : Nt 1 ≤ N 1 ∧ N 1 ≤ 8) (k2 : Nt 2 ≤ N 2 ∧ N 2 ≤ 8) (k3 : Nt 3 ≤ N 3 ∧ N 3 ≤ 8) (h4 : Nt 4 = 0) (hB : ∀ i, i < N 1 → T 1 i 7 = 0 ∨ T 1 i 7 = 1) (htr : ¬ tr2 = 0): Xi l yX6_nextField (.code yX6_nextField cX6_nextField 11 (some .int) :: AL) 12 293 (2 * ((ntP N Nt T (N 0) 0 + ntP N Nt T (N 0) 1 + ntP N Nt T (N 0) 2 + ntP N Nt T (N 0) 3) - (Nt 0 + Nt 1 + Nt 2 + Nt 3)) + 1) (40 * ((ntP N Nt T (N 0) 0 + ntP N Nt T (N 0) 1 + ntP N Nt T (N 0) 2 + ntP N Nt T (N 0) 3) - (Nt 0 + Nt 1 + Nt 2 + Nt 3)) + 6) [.ref xa, .int p0, .int p1, .int p2, .int p3] G M (fun r M' => kc_X6_nextField N T tr now price money p0 p1 p2 p3 = 0 ∧ r = (nfP N T tr2 now price money p0 p1 p2 p3 (N 0)).1 ∧ ∃ Y' T' now' price' money', LdR G M' t2 h2 Y' (ntP N Nt T (N 0)) T' tr2 now' price' money' ∧ Fr t2 M M') (EX (kc_X6_nextField N T tr now price money p0 p1 p2 p3)) := by
  refine Xi.go (by decide) (Nat.le_of_ble_eq_true rfl) ?_
  intro p e s m below meth c ls hx hb hr hml hown hlocks ht hts hK hX hM hl
  have hown : s.vm.findClass RX6 = some m.cls := hown
  have hl : lv_has ls 11 [(0, .ref xa), (1, .int p0), (2, .int p1), (3, .int p2), (4, .int p3)] := hl
  obtain ⟨mc, emc⟩ : ∃ z, z = (2 * ((ntP N Nt T (N 0) 0 + ntP N Nt T (N 0) 1 + ntP N Nt T (N 0) 2 + ntP N Nt T (N 0) 3) - (Nt 0 + Nt 1 + Nt 2 + Nt 3)) + 1) := ⟨_, rfl⟩
  obtain ⟨ms, ems⟩ : ∃ z, z = (40 * ((ntP N Nt T (N 0) 0 + ntP N Nt T (N 0) 1 + ntP N Nt T (N 0) 2 + ntP N Nt T (N 0) 3) - (Nt 0 + Nt 1 + Nt 2 + Nt 3)) + 6) := ⟨_, rfl⟩
  rw [← emc, ← ems]
  have hN8 := hL.2.2.2.2.2.2.1
  have hn0 := hN8 0
  refine lv_aload_n hx hb dX6_nextField_0 rfl (lv_at hl 0 rfl) ?_
  refine fg_X6_12 hx hb hts hown hK hM ho dX6_nextField_1 ?_
  refine lv_iload_n hx hb dX6_nextField_4 rfl (lv_at hl 1 rfl) ?_
  rcases x1 : ixR (N 1) p0 with _ | j1
  · refine g_callVq (n9 := 1) (As := [.int p0]) (rest := []) hx hb hml hl.1 hown hts hK hM (c_X3_combineAt l G _ t h0 Y N _ tr now price money p0 hL) wm_X6_125 wi_X3_combineAt wl_X3_combineAt wn_X3 wc_X3_combineAt (by decide +kernel) (hM.recv hK (ci := 4) rfl hL.1) ⟨Nat.le_of_ble_eq_true rfl, Nat.le_of_ble_eq_true rfl⟩ ⟨by show _ ≤ mc; omega, by show _ ≤ ms; omega⟩ rfl (Nat.le_of_ble_eq_true rfl) rfl dX6_nextField_5 (fun r_5 Mz H locs hq hM => ?_)
    have hq1 := (hq.1.trans (atR_n (N := N) (k := 1) x1)).symm
    have hq2 := hq.2.symm
    subst hq1 hq2
    refine lv_astoreN (lv' := [(5, .null), (0, .ref xa), (1, .int p0), (2, .int p1), (3, .int p2), (4, .int p3)]) hx hb dX6_nextField_8 hl (by decide) rfl (fun ls hl => ?_)
    refine lv_aloadN hx hb dX6_nextField_10 (lv_at hl 0 rfl) ?_
    refine lv_ifnonnullN hx hb dX6_nextField_12 ?_
    exact g_thrI hx hb hst hts hown hX hM hml hl.1 hlocks ht (Or.inl ⟨(by unfold kc_X6_nextField; rw [if_pos x1]), rfl⟩) tx_129 dX6_nextField_15 dX6_nextField_18 dX6_nextField_19 dX6_nextField_21 dX6_nextField_24 ⟨Nat.le_of_ble_eq_true rfl, Nat.le_of_ble_eq_true rfl⟩ (Nat.le_of_ble_eq_true rfl) ⟨by show _ ≤ mc; omega, by show _ ≤ ms; omega⟩ ⟨by omega, by omega⟩
  · obtain rfl : j1 = (ix p0) := ixR_ix x1
    have lx1 : (ix p0) < N 1 := (ixR_lt (hL.2.2.2.2.2.2.1 1) x1).1
    have nx1 : ¬ ixR (N 1) p0 = none := by rw [x1]; exact fun z => nomatch z
    refine g_callVq (n9 := 1) (As := [.int p0]) (rest := []) hx hb hml hl.1 hown hts hK hM (c_X3_combineAt l G _ t h0 Y N _ tr now price money p0 hL) wm_X6_125 wi_X3_combineAt wl_X3_combineAt wn_X3 wc_X3_combineAt (by decide +kernel) (hM.recv hK (ci := 4) rfl hL.1) ⟨Nat.le_of_ble_eq_true rfl, Nat.le_of_ble_eq_true rfl⟩ ⟨by show _ ≤ mc; omega, by show _ ≤ ms; omega⟩ rfl (Nat.le_of_ble_eq_true rfl) rfl dX6_nextField_5 (fun r_5 Mz H locs hq hM => ?_)
    have hq1 := (hq.1.trans (atR_s (N := N) (k := 1) x1)).symm
    have hq2 := hq.2.symm
    subst hq1 hq2
    refine lv_astore (lv' := [(5, .ref (Y.2.2.2.2.2 1 (ix p0))), (0, .ref xa), (1, .int p0), (2, .int p1), (3, .int p2), (4, .int p3)]) hx hb dX6_nextField_8 hl (by decide) rfl (fun ls hl => ?_)
    refine lv_aload hx hb dX6_nextField_10 (lv_at hl 0 rfl) ?_
    refine lv_ifnonnull (tgt := 25) hx hb dX6_nextField_12 (by decide) ?_
    refine lv_iload_n hx hb dX6_nextField_25 rfl (lv_at hl 3 rfl) ?_
    refine lv_iload_n hx hb dX6_nextField_26 rfl (lv_at hl 4 rfl) ?_
    refine lv_iload hx hb dX6_nextField_27 (lv_at hl 5 rfl) ?_
    refine lv_iconst (v := (0 : Int32)) hx hb dX6_nextField_29 (by decide) ?_
    refine g_callSi (n9 := 4) (As := [.int p1, .int p2, .int p3, .int (0 : Int32)]) (rest := []) hx hb hml hl.1 hown hts hK hM (c_X6_isNoForecast l G _ p1 p2 p3 (0 : Int32) ) wm_X6_190 wt_X6_isNoForecast wn_X6 wc_X6_isNoForecast (by decide +kernel) ⟨Nat.le_of_ble_eq_true rfl, Nat.le_of_ble_eq_true rfl⟩ ⟨Nat.le_of_ble_eq_true rfl, Nat.le_of_ble_eq_true rfl⟩ rfl (Nat.le_of_ble_eq_true rfl) rfl dX6_nextField_30 (fun r_30 M1 H locs hq hM => ?_)
    have hq1 := hq.1.symm
    have hq2 := hq.2.symm
    subst hq1 hq2
    refine lv_if_eq (tgt := 47) hx hb dX6_nextField_33 (by decide) (fun c2 => ?_) (fun c2 => ?_)
    · refine lv_iconst (v := (-1 : Int32)) hx hb dX6_nextField_47 (by decide) ?_
      refine lv_istore (lv' := [(6, .int (-1 : Int32)), (5, .ref (Y.2.2.2.2.2 1 (ix p0))), (0, .ref xa), (1, .int p0), (2, .int p1), (3, .int p2), (4, .int p3)]) hx hb dX6_nextField_48 hl (by decide) rfl (fun ls hl => ?_)
      refine lv_iconst (v := (0 : Int32)) hx hb dX6_nextField_50 (by decide) ?_
      refine lv_istore (lv' := [(7, .int (0 : Int32)), (6, .int (-1 : Int32)), (5, .ref (Y.2.2.2.2.2 1 (ix p0))), (0, .ref xa), (1, .int p0), (2, .int p1), (3, .int p2), (4, .int p3)]) hx hb dX6_nextField_51 hl (by decide) rfl (fun ls hl => ?_)
      refine lv_iconst (v := (0 : Int32)) hx hb dX6_nextField_53 (by decide) ?_
      refine lv_istore (lv' := [(8, .int (0 : Int32)), (7, .int (0 : Int32)), (6, .int (-1 : Int32)), (5, .ref (Y.2.2.2.2.2 1 (ix p0))), (0, .ref xa), (1, .int p0), (2, .int p1), (3, .int p2), (4, .int p3)]) hx hb dX6_nextField_54 hl (by decide) rfl (fun ls hl => ?_)
      have hp := fore_nn c2
      have hk9 : kc_X6_nextField N T tr now price money p0 p1 p2 p3 = 0 := (by unfold kc_X6_nextField; rw [if_neg nx1, if_pos c2])
      have L56 : ∀ (n i : Nat), i ≤ N 0 → N 0 - i < n → ∀ (M5 : HM) (H : Heap) (locs : List Loc) (ls : Array Slot) (Y5 : LY) (T5 : Tb) (now5 price5 money5 bb bm : Int32), nfP N T tr2 now price money p0 p1 p2 p3 i = (bb, bm) → LdR G M5 t2 h2 Y5 (ntP N Nt T i) T5 tr2 now5 price5 money5 → Fr t2 M M5 → Wd G M5 s H locs → lv_has ls 11 [(8, .int (nI i)), (7, .int bm), (6, .int bb), (5, .ref (Y.2.2.2.2.2 1 (ix p0))), (0, .ref xa), (1, .int p0), (2, .int p1), (3, .int p2), (4, .int p3)] → W p l e ({ frames := 12, cells := mc, slots := ms, locals := 293 } : Room) s m [.ref xa, .int p0, .int p1, .int p2, .int p3].toArray below meth c H locs (2 * ((ntP N Nt T i 0 + ntP N Nt T i 1 + ntP N Nt T i 2 + ntP N Nt T i 3) - (Nt 0 + Nt 1 + Nt 2 + Nt 3))) (40 * ((ntP N Nt T i 0 + ntP N Nt T i 1 + ntP N Nt T i 2 + ntP N Nt T i 3) - (Nt 0 + Nt 1 + Nt 2 + Nt 3))) (vx_MQ below (va_Qi (fun r M' => kc_X6_nextField N T tr now price money p0 p1 p2 p3 = 0 ∧ r = (nfP N T tr2 now price money p0 p1 p2 p3 (N 0)).1 ∧ ∃ Y' T' now' price' money', LdR G M' t2 h2 Y' (ntP N Nt T (N 0)) T' tr2 now' price' money' ∧ Fr t2 M M') (gB G) (gA G)) (gX G M (EX (kc_X6_nextField N T tr now price money p0 p1 p2 p3))) [.ref xa, .int p0, .int p1, .int p2, .int p3].toArray s mc ms (gA G)) (F0 m 56 ls []) := by
        intro n
        induction n with
        | zero => intro i h1 h2; omega
        | succ n ih =>
          intro i h1 h9 M5 H locs ls Y5 T5 now5 price5 money5 bb bm enf hT5 hF5 hM hl
          have u0 := ntP_b (T := T) (k := 0) (by decide) k0.1 i
          have v0 := ntP_m (T := T) (k := 0) (i := i) (j := N 0) (by decide) k0.1 h1
          have u1 := ntP_b (T := T) (k := 1) (by decide) k1.1 i
          have v1 := ntP_m (T := T) (k := 1) (i := i) (j := N 0) (by decide) k1.1 h1
          have u2 := ntP_b (T := T) (k := 2) (by decide) k2.1 i
          have v2 := ntP_m (T := T) (k := 2) (i := i) (j := N 0) (by decide) k2.1 h1
          have u3 := ntP_b (T := T) (k := 3) (by decide) k3.1 i
          have v3 := ntP_m (T := T) (k := 3) (i := i) (j := N 0) (by decide) k3.1 h1
          have hL5 := hL.frame hne hF5
          have ho5 := hF5 _ _ _ hrx2 ho
          refine lv_iload hx hb dX6_nextField_56 (lv_at hl 0 rfl) ?_
          refine lv_aload_n hx hb dX6_nextField_58 rfl (lv_at hl 4 rfl) ?_
          refine fg_X6_12 hx hb hts hown hK hM ho5 dX6_nextField_59 ?_
          refine fg_X6_46 hx hb hts hown hK hM hL5.1 dX6_nextField_62 ?_
          refine g_callVi (n9 := 0) (As := []) (rest := [.int (nI i)]) hx hb hml hl.1 hown hts hK hM (c_Jx4a65c_size_8abf5 l G _ (Y.1 0) t _ _ _ ((hL5.2.1 0 (by decide)).1)) wm_X6_50 wi_Jx4a65c_size_8abf5 wl_Jx4a65c_size_8abf5 wn_Jx4a65c wc_Jx4a65c_size_8abf5 (by decide +kernel) (hM.recv hK (ci := 0) rfl ((hL5.2.1 0 (by decide)).1)) ⟨Nat.le_of_ble_eq_true rfl, Nat.le_of_ble_eq_true rfl⟩ ⟨by show _ ≤ mc; omega, by show _ ≤ ms; omega⟩ rfl (Nat.le_of_ble_eq_true rfl) rfl dX6_nextField_65 (fun r_65 Mz H locs hq hM => ?_)
          have hq1 := hq.1.symm
          have hq2 := hq.2.symm
          subst hq1 hq2
          refine lv_icmp_ge (tgt := 160) hx hb dX6_nextField_68 (by decide) (fun c3 => ?_) (fun c3 => ?_)
          · have hi : i = N 0 := by
              have := (nI_leI (a := N 0) (b := i) (by omega) (by omega)).mp c3
              omega
            refine lv_iload hx hb dX6_nextField_160 (lv_at hl 2 rfl) ?_
            refine vx_ret ?_
            refine g_iret hx hb hr hlocks hM (by omega) (by omega) ⟨hk9, ?_, Y5, T5, now5, price5, money5, ?_, hF5⟩ dX6_nextField_162
            · rw [← hi, enf]
            · rw [← hi]; exact hT5
          · have hi : i < N 0 := by
              rcases Nat.lt_or_ge i (N 0) with z | z
              · exact z
              · exact absurd (nI_le z (by omega)) c3
            refine lv_aload_n hx hb dX6_nextField_71 rfl (lv_at hl 4 rfl) ?_
            refine fg_X6_12 hx hb hts hown hK hM ho5 dX6_nextField_72 ?_
            refine fg_X6_46 hx hb hts hown hK hM hL5.1 dX6_nextField_75 ?_
            refine lv_iload hx hb dX6_nextField_78 (lv_at hl 0 rfl) ?_
            refine g_callVq (n9 := 1) (As := [.int (nI i)]) (rest := []) hx hb hml hl.1 hown hts hK hM (c_getL l G _ t (Y.1 0) (N 0) _ _ i _ _ (hL5.2.1 0 (by decide)) hi) wm_X6_287 wi_Jx4a65c_get_915e3 wl_Jx4a65c_get_915e3 wn_Jx4a65c wc_Jx4a65c_get_915e3 (by decide +kernel) (hM.recv hK (ci := 0) rfl ((hL5.2.1 0 (by decide)).1)) ⟨Nat.le_of_ble_eq_true rfl, Nat.le_of_ble_eq_true rfl⟩ ⟨by show _ ≤ mc; omega, by show _ ≤ ms; omega⟩ rfl (Nat.le_of_ble_eq_true rfl) rfl dX6_nextField_80 (fun r_80 Mz H locs hq hM => ?_)
            have hq1 := (hq.1.trans (hL5.at_g (k := 0) (i := i) (by decide) hi)).symm
            have hq2 := hq.2.symm
            subst hq1 hq2
            refine va_castS (nm := RX2) hx hb hown (hts _ wk_X6_21) (hK.1.1 3 _ rfl).2 (hM.recv hK (ci := 3) rfl (hL5.row (k := 0) (i := i) (by decide) hi)) dX6_nextField_83 ?_
            refine g_callVi (n9 := 0) (As := []) (rest := []) hx hb hml hl.1 hown hts hK hM (cr_X2_uncut l G _ (Y.2.2.2.2.2 0 i) t (T 0 i)  (hL5.row (k := 0) (i := i) (by decide) hi) ) wm_X6_315 wi_X2_uncut wl_X2_uncut wn_X2 wc_X2_uncut (by decide +kernel) (hM.recv hK (ci := 3) rfl (hL5.row (k := 0) (i := i) (by decide) hi)) ⟨Nat.le_of_ble_eq_true rfl, Nat.le_of_ble_eq_true rfl⟩ ⟨by show _ ≤ mc; omega, by show _ ≤ ms; omega⟩ rfl (Nat.le_of_ble_eq_true rfl) rfl dX6_nextField_86 (fun r_86 Mz H locs hq hM => ?_)
            have hq1 := hq.1.symm
            have hq2 := hq.2.symm
            subst hq1 hq2
            refine lv_if_le (tgt := 154) hx hb dX6_nextField_89 (by decide) (fun c4 => ?_) (fun c4 => ?_)
            · refine lv_iinc (v := (nI (i + 1))) (lv' := [(8, .int (nI (i + 1))), (7, .int bm), (6, .int bb), (5, .ref (Y.2.2.2.2.2 1 (ix p0))), (0, .ref xa), (1, .int p0), (2, .int p1), (3, .int p2), (4, .int p3)]) hx hb dX6_nextField_154 hl (k := 0) rfl (nI_1 i) (by decide) rfl (fun ls hl => ?_)
              refine lv_goto (tgt := 56) hx hb dX6_nextField_157 (by decide) ?_
              have en5 : nfP N T tr2 now price money p0 p1 p2 p3 (i + 1) = (bb, bm) := (if_pos c4).trans enf
              have et5 : ntP N Nt T (i + 1) = ntP N Nt T i := if_pos c4
              refine W.cst (cells' := 2 * ((ntP N Nt T (i + 1) 0 + ntP N Nt T (i + 1) 1 + ntP N Nt T (i + 1) 2 + ntP N Nt T (i + 1) 3) - (Nt 0 + Nt 1 + Nt 2 + Nt 3))) (slots' := 40 * ((ntP N Nt T (i + 1) 0 + ntP N Nt T (i + 1) 1 + ntP N Nt T (i + 1) 2 + ntP N Nt T (i + 1) 3) - (Nt 0 + Nt 1 + Nt 2 + Nt 3))) (by rw [et5]; first | done | rfl) (by rw [et5]; first | done | rfl) ?_
              exact ih (i + 1) (by omega) (by omega) _ _ _ _ _ _ _ _ _ _ _ en5 (by rw [et5]; exact hT5) hF5 hM (lv_sub hl [0, 1, 2, 3, 4, 5, 6, 7, 8] rfl)
            · refine lv_aload_n hx hb dX6_nextField_92 rfl (lv_at hl 4 rfl) ?_
              refine lv_iload_n hx hb dX6_nextField_93 rfl (lv_at hl 5 rfl) ?_
              refine lv_iload hx hb dX6_nextField_94 (lv_at hl 0 rfl) ?_
              refine lv_iload_n hx hb dX6_nextField_96 rfl (lv_at hl 6 rfl) ?_
              refine lv_iload_n hx hb dX6_nextField_97 rfl (lv_at hl 7 rfl) ?_
              refine lv_iload hx hb dX6_nextField_98 (lv_at hl 8 rfl) ?_
              have v5 := ntP_m (T := T) (k := 0) (i := i + 1) (j := N 0) (by decide) k0.1 hi
              have v51 := ntP_m (T := T) (k := 1) (i := i + 1) (j := N 0) (by decide) k1.1 hi
              have v52 := ntP_m (T := T) (k := 2) (i := i + 1) (j := N 0) (by decide) k2.1 hi
              have v53 := ntP_m (T := T) (k := 3) (i := i + 1) (j := N 0) (by decide) k3.1 hi
              have et5 : ntP N Nt T (i + 1) = nu N 4 0 := if_neg c4
              have es5 : (ntP N Nt T (i + 1) 0 + ntP N Nt T (i + 1) 1 + ntP N Nt T (i + 1) 2 + ntP N Nt T (i + 1) 3) = N 0 + N 1 + N 2 + N 3 := by rw [et5]; rfl
              refine g_callVi (n9 := 5) (As := [.int p0, .int (nI i), .int p1, .int p2, .int p3]) (rest := []) hx hb hml hl.1 hown hts hK hM (c_X6_bushelsIfSent l G _ xa rx h0 h3 t2 h2 Y5 (ntP N Nt T i) T5 tr2 now5 price5 money5 t Y N T tr now price money p0 (nI i) p1 p2 p3 ho5 hrx2 hT5 hL5 hne ⟨u0.2, k0.2⟩ ⟨u1.2, k1.2⟩ ⟨u2.2, k2.2⟩ ⟨u3.2, k3.2⟩ (ntP_4 h4 i) hB htr hp) wm_X6_339 wi_X6_bushelsIfSent wl_X6_bushelsIfSent wn_X6 wc_X6_bushelsIfSent (by decide +kernel) (hM.recv hK (ci := 7) rfl ho5) ⟨Nat.le_of_ble_eq_true rfl, Nat.le_of_ble_eq_true rfl⟩ ⟨by show _ + 2 * (N 0 + N 1 + N 2 + N 3 - (ntP N Nt T i 0 + ntP N Nt T i 1 + ntP N Nt T i 2 + ntP N Nt T i 3)) ≤ mc; omega, by show _ + 40 * (N 0 + N 1 + N 2 + N 3 - (ntP N Nt T i 0 + ntP N Nt T i 1 + ntP N Nt T i 2 + ntP N Nt T i 3)) ≤ ms; omega⟩ rfl (Nat.le_of_ble_eq_true rfl) rfl dX6_nextField_100 (fun r_100 M6 H locs hq hM => ?_)
              obtain ⟨er, Y6, T6, now6, hT6, hF6⟩ := hq
              refine W.cst (cells' := 2 * ((ntP N Nt T (i + 1) 0 + ntP N Nt T (i + 1) 1 + ntP N Nt T (i + 1) 2 + ntP N Nt T (i + 1) 3) - (Nt 0 + Nt 1 + Nt 2 + Nt 3))) (slots' := 40 * ((ntP N Nt T (i + 1) 0 + ntP N Nt T (i + 1) 1 + ntP N Nt T (i + 1) 2 + ntP N Nt T (i + 1) 3) - (Nt 0 + Nt 1 + Nt 2 + Nt 3))) (by show 2 * ((ntP N Nt T i 0 + ntP N Nt T i 1 + ntP N Nt T i 2 + ntP N Nt T i 3) - (Nt 0 + Nt 1 + Nt 2 + Nt 3)) + 2 * (N 0 + N 1 + N 2 + N 3 - (ntP N Nt T i 0 + ntP N Nt T i 1 + ntP N Nt T i 2 + ntP N Nt T i 3)) = _; omega) (by show 40 * ((ntP N Nt T i 0 + ntP N Nt T i 1 + ntP N Nt T i 2 + ntP N Nt T i 3) - (Nt 0 + Nt 1 + Nt 2 + Nt 3)) + 40 * (N 0 + N 1 + N 2 + N 3 - (ntP N Nt T i 0 + ntP N Nt T i 1 + ntP N Nt T i 2 + ntP N Nt T i 3)) = _; omega) ?_
              have hF7 : Fr t2 M M6 := Fr.tr hF5 hF6
              have hL6 := hL.frame hne hF7
              have ho6 := hF7 _ _ _ hrx2 ho
              refine lv_istore (lv' := [(9, .int r_100), (8, .int (nI i)), (7, .int bm), (6, .int bb), (5, .ref (Y.2.2.2.2.2 1 (ix p0))), (0, .ref xa), (1, .int p0), (2, .int p1), (3, .int p2), (4, .int p3)]) hx hb dX6_nextField_103 hl (by decide) rfl (fun ls hl => ?_)
              refine lv_iload hx hb dX6_nextField_105 (lv_at hl 0 rfl) ?_
              refine lv_iload hx hb dX6_nextField_107 (lv_at hl 2 rfl) ?_
              refine lv_icmp_ne (tgt := 131) hx hb dX6_nextField_109 (by decide) (fun c5 => ?_) (fun c5 => ?_)
              · refine lv_iconst (v := (0 : Int32)) hx hb dX6_nextField_131 (by decide) ?_
                refine lv_istore (lv' := [(10, .int (0 : Int32)), (9, .int r_100), (8, .int (nI i)), (7, .int bm), (6, .int bb), (5, .ref (Y.2.2.2.2.2 1 (ix p0))), (0, .ref xa), (1, .int p0), (2, .int p1), (3, .int p2), (4, .int p3)]) hx hb dX6_nextField_132 hl (by decide) rfl (fun ls hl => ?_)
                refine lv_iload hx hb dX6_nextField_134 (lv_at hl 1 rfl) ?_
                refine lv_iload hx hb dX6_nextField_136 (lv_at hl 3 rfl) ?_
                refine lv_icmp_gt (tgt := 146) hx hb dX6_nextField_138 (by decide) (fun c6 => ?_) (fun c6 => ?_)
                · refine lv_iload hx hb dX6_nextField_146 (lv_at hl 2 rfl) ?_
                  refine lv_istore (lv' := [(6, .int (nI i)), (10, .int (0 : Int32)), (9, .int r_100), (8, .int (nI i)), (7, .int bm), (5, .ref (Y.2.2.2.2.2 1 (ix p0))), (0, .ref xa), (1, .int p0), (2, .int p1), (3, .int p2), (4, .int p3)]) hx hb dX6_nextField_148 hl (by decide) rfl (fun ls hl => ?_)
                  refine lv_iload hx hb dX6_nextField_150 (lv_at hl 2 rfl) ?_
                  refine lv_istore (lv' := [(7, .int r_100), (6, .int (nI i)), (10, .int (0 : Int32)), (9, .int r_100), (8, .int (nI i)), (5, .ref (Y.2.2.2.2.2 1 (ix p0))), (0, .ref xa), (1, .int p0), (2, .int p1), (3, .int p2), (4, .int p3)]) hx hb dX6_nextField_152 hl (by decide) rfl (fun ls hl => ?_)
                  refine lv_iinc (v := (nI (i + 1))) (lv' := [(8, .int (nI (i + 1))), (7, .int r_100), (6, .int (nI i)), (10, .int (0 : Int32)), (9, .int r_100), (5, .ref (Y.2.2.2.2.2 1 (ix p0))), (0, .ref xa), (1, .int p0), (2, .int p1), (3, .int p2), (4, .int p3)]) hx hb dX6_nextField_154 hl (k := 4) rfl (nI_1 i) (by decide) rfl (fun ls hl => ?_)
                  refine lv_goto (tgt := 56) hx hb dX6_nextField_157 (by decide) ?_
                  have en5 : nfP N T tr2 now price money p0 p1 p2 p3 (i + 1) = ((nI i), r_100) := (if_neg c4).trans (by rw [enf]; show nfV (bsP N T tr2 now price money p0 (nI i) p1 p2 p3) (nI i) (T 1 (ix p0) 9) bb bm = _; rw [← er]; unfold nfV; rw [if_pos c6])
                  exact ih (i + 1) (by omega) (by omega) _ _ _ _ _ _ _ _ _ _ _ en5 (by rw [et5]; exact hT6) hF7 hM (lv_sub hl [0, 1, 2, 5, 6, 7, 8, 9, 10] rfl)
                · refine lv_iload hx hb dX6_nextField_141 (lv_at hl 0 rfl) ?_
                  refine lv_if_eq (tgt := 154) hx hb dX6_nextField_143 (by decide) (fun c7 => ?_) (fun c7 => ?_)
                  · refine lv_iinc (v := (nI (i + 1))) (lv' := [(8, .int (nI (i + 1))), (10, .int (0 : Int32)), (9, .int r_100), (7, .int bm), (6, .int bb), (5, .ref (Y.2.2.2.2.2 1 (ix p0))), (0, .ref xa), (1, .int p0), (2, .int p1), (3, .int p2), (4, .int p3)]) hx hb dX6_nextField_154 hl (k := 2) rfl (nI_1 i) (by decide) rfl (fun ls hl => ?_)
                    refine lv_goto (tgt := 56) hx hb dX6_nextField_157 (by decide) ?_
                    have en5 : nfP N T tr2 now price money p0 p1 p2 p3 (i + 1) = (bb, bm) := (if_neg c4).trans (by rw [enf]; show nfV (bsP N T tr2 now price money p0 (nI i) p1 p2 p3) (nI i) (T 1 (ix p0) 9) bb bm = _; rw [← er]; unfold nfV; rw [if_neg c6, if_neg c5])
                    exact ih (i + 1) (by omega) (by omega) _ _ _ _ _ _ _ _ _ _ _ en5 (by rw [et5]; exact hT6) hF7 hM (lv_sub hl [0, 3, 4, 5, 6, 7, 8, 9, 10] rfl)
                  · exact absurd rfl c7
              · refine lv_iload hx hb dX6_nextField_112 (lv_at hl 0 rfl) ?_
                refine lv_if_le (tgt := 131) hx hb dX6_nextField_114 (by decide) (fun c8 => ?_) (fun c8 => ?_)
                · refine lv_iconst (v := (0 : Int32)) hx hb dX6_nextField_131 (by decide) ?_
                  refine lv_istore (lv' := [(10, .int (0 : Int32)), (9, .int r_100), (8, .int (nI i)), (7, .int bm), (6, .int bb), (5, .ref (Y.2.2.2.2.2 1 (ix p0))), (0, .ref xa), (1, .int p0), (2, .int p1), (3, .int p2), (4, .int p3)]) hx hb dX6_nextField_132 hl (by decide) rfl (fun ls hl => ?_)
                  refine lv_iload hx hb dX6_nextField_134 (lv_at hl 1 rfl) ?_
                  refine lv_iload hx hb dX6_nextField_136 (lv_at hl 3 rfl) ?_
                  refine lv_icmp_gt (tgt := 146) hx hb dX6_nextField_138 (by decide) (fun c9 => ?_) (fun c9 => ?_)
                  · refine lv_iload hx hb dX6_nextField_146 (lv_at hl 2 rfl) ?_
                    refine lv_istore (lv' := [(6, .int (nI i)), (10, .int (0 : Int32)), (9, .int r_100), (8, .int (nI i)), (7, .int bm), (5, .ref (Y.2.2.2.2.2 1 (ix p0))), (0, .ref xa), (1, .int p0), (2, .int p1), (3, .int p2), (4, .int p3)]) hx hb dX6_nextField_148 hl (by decide) rfl (fun ls hl => ?_)
                    refine lv_iload hx hb dX6_nextField_150 (lv_at hl 2 rfl) ?_
                    refine lv_istore (lv' := [(7, .int r_100), (6, .int (nI i)), (10, .int (0 : Int32)), (9, .int r_100), (8, .int (nI i)), (5, .ref (Y.2.2.2.2.2 1 (ix p0))), (0, .ref xa), (1, .int p0), (2, .int p1), (3, .int p2), (4, .int p3)]) hx hb dX6_nextField_152 hl (by decide) rfl (fun ls hl => ?_)
                    refine lv_iinc (v := (nI (i + 1))) (lv' := [(8, .int (nI (i + 1))), (7, .int r_100), (6, .int (nI i)), (10, .int (0 : Int32)), (9, .int r_100), (5, .ref (Y.2.2.2.2.2 1 (ix p0))), (0, .ref xa), (1, .int p0), (2, .int p1), (3, .int p2), (4, .int p3)]) hx hb dX6_nextField_154 hl (k := 4) rfl (nI_1 i) (by decide) rfl (fun ls hl => ?_)
                    refine lv_goto (tgt := 56) hx hb dX6_nextField_157 (by decide) ?_
                    have en5 : nfP N T tr2 now price money p0 p1 p2 p3 (i + 1) = ((nI i), r_100) := (if_neg c4).trans (by rw [enf]; show nfV (bsP N T tr2 now price money p0 (nI i) p1 p2 p3) (nI i) (T 1 (ix p0) 9) bb bm = _; rw [← er]; unfold nfV; rw [if_pos c9])
                    exact ih (i + 1) (by omega) (by omega) _ _ _ _ _ _ _ _ _ _ _ en5 (by rw [et5]; exact hT6) hF7 hM (lv_sub hl [0, 1, 2, 5, 6, 7, 8, 9, 10] rfl)
                  · refine lv_iload hx hb dX6_nextField_141 (lv_at hl 0 rfl) ?_
                    refine lv_if_eq (tgt := 154) hx hb dX6_nextField_143 (by decide) (fun c10 => ?_) (fun c10 => ?_)
                    · refine lv_iinc (v := (nI (i + 1))) (lv' := [(8, .int (nI (i + 1))), (10, .int (0 : Int32)), (9, .int r_100), (7, .int bm), (6, .int bb), (5, .ref (Y.2.2.2.2.2 1 (ix p0))), (0, .ref xa), (1, .int p0), (2, .int p1), (3, .int p2), (4, .int p3)]) hx hb dX6_nextField_154 hl (k := 2) rfl (nI_1 i) (by decide) rfl (fun ls hl => ?_)
                      refine lv_goto (tgt := 56) hx hb dX6_nextField_157 (by decide) ?_
                      have en5 : nfP N T tr2 now price money p0 p1 p2 p3 (i + 1) = (bb, bm) := (if_neg c4).trans (by rw [enf]; show nfV (bsP N T tr2 now price money p0 (nI i) p1 p2 p3) (nI i) (T 1 (ix p0) 9) bb bm = _; rw [← er]; unfold nfV; rw [if_neg c9, if_pos c5, if_pos c8])
                      exact ih (i + 1) (by omega) (by omega) _ _ _ _ _ _ _ _ _ _ _ en5 (by rw [et5]; exact hT6) hF7 hM (lv_sub hl [0, 3, 4, 5, 6, 7, 8, 9, 10] rfl)
                    · exact absurd rfl c10
                · refine lv_iload hx hb dX6_nextField_117 (lv_at hl 1 rfl) ?_
                  refine lv_aload hx hb dX6_nextField_119 (lv_at hl 4 rfl) ?_
                  refine fg_X6_131 hx hb hts hown hK hM (hL6.row (k := 1) (i := (ix p0)) (by decide) lx1) dX6_nextField_121 ?_
                  refine lv_icmp_ne (tgt := 131) hx hb dX6_nextField_124 (by decide) (fun c11 => ?_) (fun c11 => ?_)
                  · refine lv_iconst (v := (0 : Int32)) hx hb dX6_nextField_131 (by decide) ?_
                    refine lv_istore (lv' := [(10, .int (0 : Int32)), (9, .int r_100), (8, .int (nI i)), (7, .int bm), (6, .int bb), (5, .ref (Y.2.2.2.2.2 1 (ix p0))), (0, .ref xa), (1, .int p0), (2, .int p1), (3, .int p2), (4, .int p3)]) hx hb dX6_nextField_132 hl (by decide) rfl (fun ls hl => ?_)
                    refine lv_iload hx hb dX6_nextField_134 (lv_at hl 1 rfl) ?_
                    refine lv_iload hx hb dX6_nextField_136 (lv_at hl 3 rfl) ?_
                    refine lv_icmp_gt (tgt := 146) hx hb dX6_nextField_138 (by decide) (fun c12 => ?_) (fun c12 => ?_)
                    · refine lv_iload hx hb dX6_nextField_146 (lv_at hl 2 rfl) ?_
                      refine lv_istore (lv' := [(6, .int (nI i)), (10, .int (0 : Int32)), (9, .int r_100), (8, .int (nI i)), (7, .int bm), (5, .ref (Y.2.2.2.2.2 1 (ix p0))), (0, .ref xa), (1, .int p0), (2, .int p1), (3, .int p2), (4, .int p3)]) hx hb dX6_nextField_148 hl (by decide) rfl (fun ls hl => ?_)
                      refine lv_iload hx hb dX6_nextField_150 (lv_at hl 2 rfl) ?_
                      refine lv_istore (lv' := [(7, .int r_100), (6, .int (nI i)), (10, .int (0 : Int32)), (9, .int r_100), (8, .int (nI i)), (5, .ref (Y.2.2.2.2.2 1 (ix p0))), (0, .ref xa), (1, .int p0), (2, .int p1), (3, .int p2), (4, .int p3)]) hx hb dX6_nextField_152 hl (by decide) rfl (fun ls hl => ?_)
                      refine lv_iinc (v := (nI (i + 1))) (lv' := [(8, .int (nI (i + 1))), (7, .int r_100), (6, .int (nI i)), (10, .int (0 : Int32)), (9, .int r_100), (5, .ref (Y.2.2.2.2.2 1 (ix p0))), (0, .ref xa), (1, .int p0), (2, .int p1), (3, .int p2), (4, .int p3)]) hx hb dX6_nextField_154 hl (k := 4) rfl (nI_1 i) (by decide) rfl (fun ls hl => ?_)
                      refine lv_goto (tgt := 56) hx hb dX6_nextField_157 (by decide) ?_
                      have en5 : nfP N T tr2 now price money p0 p1 p2 p3 (i + 1) = ((nI i), r_100) := (if_neg c4).trans (by rw [enf]; show nfV (bsP N T tr2 now price money p0 (nI i) p1 p2 p3) (nI i) (T 1 (ix p0) 9) bb bm = _; rw [← er]; unfold nfV; rw [if_pos c12])
                      exact ih (i + 1) (by omega) (by omega) _ _ _ _ _ _ _ _ _ _ _ en5 (by rw [et5]; exact hT6) hF7 hM (lv_sub hl [0, 1, 2, 5, 6, 7, 8, 9, 10] rfl)
                    · refine lv_iload hx hb dX6_nextField_141 (lv_at hl 0 rfl) ?_
                      refine lv_if_eq (tgt := 154) hx hb dX6_nextField_143 (by decide) (fun c13 => ?_) (fun c13 => ?_)
                      · refine lv_iinc (v := (nI (i + 1))) (lv' := [(8, .int (nI (i + 1))), (10, .int (0 : Int32)), (9, .int r_100), (7, .int bm), (6, .int bb), (5, .ref (Y.2.2.2.2.2 1 (ix p0))), (0, .ref xa), (1, .int p0), (2, .int p1), (3, .int p2), (4, .int p3)]) hx hb dX6_nextField_154 hl (k := 2) rfl (nI_1 i) (by decide) rfl (fun ls hl => ?_)
                        refine lv_goto (tgt := 56) hx hb dX6_nextField_157 (by decide) ?_
                        have en5 : nfP N T tr2 now price money p0 p1 p2 p3 (i + 1) = (bb, bm) := (if_neg c4).trans (by rw [enf]; show nfV (bsP N T tr2 now price money p0 (nI i) p1 p2 p3) (nI i) (T 1 (ix p0) 9) bb bm = _; rw [← er]; unfold nfV; rw [if_neg c12, if_pos c5, if_neg c8, if_neg c11])
                        exact ih (i + 1) (by omega) (by omega) _ _ _ _ _ _ _ _ _ _ _ en5 (by rw [et5]; exact hT6) hF7 hM (lv_sub hl [0, 3, 4, 5, 6, 7, 8, 9, 10] rfl)
                      · exact absurd rfl c13
                  · refine lv_iconst (v := (1 : Int32)) hx hb dX6_nextField_127 (by decide) ?_
                    refine lv_goto (tgt := 132) hx hb dX6_nextField_128 (by decide) ?_
                    refine lv_istore (lv' := [(10, .int (1 : Int32)), (9, .int r_100), (8, .int (nI i)), (7, .int bm), (6, .int bb), (5, .ref (Y.2.2.2.2.2 1 (ix p0))), (0, .ref xa), (1, .int p0), (2, .int p1), (3, .int p2), (4, .int p3)]) hx hb dX6_nextField_132 hl (by decide) rfl (fun ls hl => ?_)
                    refine lv_iload hx hb dX6_nextField_134 (lv_at hl 1 rfl) ?_
                    refine lv_iload hx hb dX6_nextField_136 (lv_at hl 3 rfl) ?_
                    refine lv_icmp_gt (tgt := 146) hx hb dX6_nextField_138 (by decide) (fun c14 => ?_) (fun c14 => ?_)
                    · refine lv_iload hx hb dX6_nextField_146 (lv_at hl 2 rfl) ?_
                      refine lv_istore (lv' := [(6, .int (nI i)), (10, .int (1 : Int32)), (9, .int r_100), (8, .int (nI i)), (7, .int bm), (5, .ref (Y.2.2.2.2.2 1 (ix p0))), (0, .ref xa), (1, .int p0), (2, .int p1), (3, .int p2), (4, .int p3)]) hx hb dX6_nextField_148 hl (by decide) rfl (fun ls hl => ?_)
                      refine lv_iload hx hb dX6_nextField_150 (lv_at hl 2 rfl) ?_
                      refine lv_istore (lv' := [(7, .int r_100), (6, .int (nI i)), (10, .int (1 : Int32)), (9, .int r_100), (8, .int (nI i)), (5, .ref (Y.2.2.2.2.2 1 (ix p0))), (0, .ref xa), (1, .int p0), (2, .int p1), (3, .int p2), (4, .int p3)]) hx hb dX6_nextField_152 hl (by decide) rfl (fun ls hl => ?_)
                      refine lv_iinc (v := (nI (i + 1))) (lv' := [(8, .int (nI (i + 1))), (7, .int r_100), (6, .int (nI i)), (10, .int (1 : Int32)), (9, .int r_100), (5, .ref (Y.2.2.2.2.2 1 (ix p0))), (0, .ref xa), (1, .int p0), (2, .int p1), (3, .int p2), (4, .int p3)]) hx hb dX6_nextField_154 hl (k := 4) rfl (nI_1 i) (by decide) rfl (fun ls hl => ?_)
                      refine lv_goto (tgt := 56) hx hb dX6_nextField_157 (by decide) ?_
                      have en5 : nfP N T tr2 now price money p0 p1 p2 p3 (i + 1) = ((nI i), r_100) := (if_neg c4).trans (by rw [enf]; show nfV (bsP N T tr2 now price money p0 (nI i) p1 p2 p3) (nI i) (T 1 (ix p0) 9) bb bm = _; rw [← er]; unfold nfV; rw [if_pos c14])
                      exact ih (i + 1) (by omega) (by omega) _ _ _ _ _ _ _ _ _ _ _ en5 (by rw [et5]; exact hT6) hF7 hM (lv_sub hl [0, 1, 2, 5, 6, 7, 8, 9, 10] rfl)
                    · refine lv_iload hx hb dX6_nextField_141 (lv_at hl 0 rfl) ?_
                      refine lv_if_eq (tgt := 154) hx hb dX6_nextField_143 (by decide) (fun c15 => ?_) (fun c15 => ?_)
                      · exact absurd c15 (by decide)
                      · refine lv_iload hx hb dX6_nextField_146 (lv_at hl 2 rfl) ?_
                        refine lv_istore (lv' := [(6, .int (nI i)), (10, .int (1 : Int32)), (9, .int r_100), (8, .int (nI i)), (7, .int bm), (5, .ref (Y.2.2.2.2.2 1 (ix p0))), (0, .ref xa), (1, .int p0), (2, .int p1), (3, .int p2), (4, .int p3)]) hx hb dX6_nextField_148 hl (by decide) rfl (fun ls hl => ?_)
                        refine lv_iload hx hb dX6_nextField_150 (lv_at hl 2 rfl) ?_
                        refine lv_istore (lv' := [(7, .int r_100), (6, .int (nI i)), (10, .int (1 : Int32)), (9, .int r_100), (8, .int (nI i)), (5, .ref (Y.2.2.2.2.2 1 (ix p0))), (0, .ref xa), (1, .int p0), (2, .int p1), (3, .int p2), (4, .int p3)]) hx hb dX6_nextField_152 hl (by decide) rfl (fun ls hl => ?_)
                        refine lv_iinc (v := (nI (i + 1))) (lv' := [(8, .int (nI (i + 1))), (7, .int r_100), (6, .int (nI i)), (10, .int (1 : Int32)), (9, .int r_100), (5, .ref (Y.2.2.2.2.2 1 (ix p0))), (0, .ref xa), (1, .int p0), (2, .int p1), (3, .int p2), (4, .int p3)]) hx hb dX6_nextField_154 hl (k := 4) rfl (nI_1 i) (by decide) rfl (fun ls hl => ?_)
                        refine lv_goto (tgt := 56) hx hb dX6_nextField_157 (by decide) ?_
                        have en5 : nfP N T tr2 now price money p0 p1 p2 p3 (i + 1) = ((nI i), r_100) := (if_neg c4).trans (by rw [enf]; show nfV (bsP N T tr2 now price money p0 (nI i) p1 p2 p3) (nI i) (T 1 (ix p0) 9) bb bm = _; rw [← er]; unfold nfV; rw [if_neg c14, if_pos c5, if_neg c8, if_pos c11])
                        exact ih (i + 1) (by omega) (by omega) _ _ _ _ _ _ _ _ _ _ _ en5 (by rw [et5]; exact hT6) hF7 hM (lv_sub hl [0, 1, 2, 5, 6, 7, 8, 9, 10] rfl)
      refine W.cst (cells' := 2 * ((Nt 0 + Nt 1 + Nt 2 + Nt 3) - (Nt 0 + Nt 1 + Nt 2 + Nt 3))) (slots' := 40 * ((Nt 0 + Nt 1 + Nt 2 + Nt 3) - (Nt 0 + Nt 1 + Nt 2 + Nt 3))) (by omega) (by omega) ?_
      exact L56 (N 0 + 1) 0 (Nat.zero_le _) (by omega) M _ _ _ Yt Tt nowt pricet moneyt _ _ rfl hLt Fr.rf hM (lv_sub hl [0, 1, 2, 3, 4, 5, 6, 7, 8] rfl)
    · exact g_thrAW hx hb hst hts hown hX hM hml hl.1 hlocks ht (Or.inr (Or.inl ⟨(by unfold kc_X6_nextField; rw [if_neg nx1, if_neg c2]), rfl⟩)) tx_337 dX6_nextField_36 dX6_nextField_39 dX6_nextField_40 dX6_nextField_43 dX6_nextField_46 ⟨Nat.le_of_ble_eq_true rfl, Nat.le_of_ble_eq_true rfl⟩ (Nat.le_of_ble_eq_true rfl) ⟨by show _ ≤ mc; omega, by show _ ≤ ms; omega⟩ ⟨by omega, by omega⟩

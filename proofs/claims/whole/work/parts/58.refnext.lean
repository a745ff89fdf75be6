theorem wksR_nu {N : Nat → Nat} {n : Nat} {now r : Int32} {U : Tb} : ∀ i, wksR (nu N 4 n) now r i U = wksR N now r i U
  | 0 => rfl
  | i + 1 => by
    show u_X7_work (nu N 4 n) (wksR (nu N 4 n) now r i U) now (nI i) r i = u_X7_work N (wksR N now r i U) now (nI i) r i
    rw [wksR_nu i]
    rfl
theorem drsR_nu {N : Nat → Nat} {n : Nat} {now : Int32} {S : Tb × Nat} : ∀ i, drsR (nu N 4 n) now i S = drsR N now i S
  | 0 => rfl
  | i + 1 => by
    show (u_X7_drive (nu (nu N 4 n) 4 (drsR (nu N 4 n) now i S).2) (drsR (nu N 4 n) now i S).1 now i, n_X7_drive (nu (nu N 4 n) 4 (drsR (nu N 4 n) now i S).2) (drsR (nu N 4 n) now i S).1 now i) = (u_X7_drive (nu N 4 (drsR N now i S).2) (drsR N now i S).1 now i, n_X7_drive (nu N 4 (drsR N now i S).2) (drsR N now i S).1 now i)
    rw [drsR_nu i, nu_nu]
theorem wkS_nu {N : Nat → Nat} {n : Nat} {now w a r : Int32} {U : Tb} : wkS (nu N 4 n) now w a r U = wkS N now w a r U := by
  show wksR (nu N 4 n) (now + 1) r (N 1) (ripR (clk (now + 1)) w a r (N 0) U) = wksR N (now + 1) r (N 1) (ripR (clk (now + 1)) w a r (N 0) U)
  rw [wksR_nu]
theorem goR_nu {N : Nat → Nat} {n : Nat} {now w a r : Int32} {S : Tb × Nat} : goR (nu N 4 n) now w a r S = goR N now w a r S := by
  show drsR (nu N 4 n) (now + 1) (N 2) (wkS (nu N 4 n) now w a r S.1, S.2) = drsR N (now + 1) (N 2) (wkS N now w a r S.1, S.2)
  rw [drsR_nu, wkS_nu]
theorem HrOK_nu {N : Nat → Nat} {n : Nat} {now w a r : Int32} {S : Tb × Nat} (h : HrOK N now w a r S) : HrOK (nu N 4 n) now w a r S := by
  obtain ⟨h1, h2⟩ := h
  refine ⟨fun i hi => ?_, fun i hi => ?_⟩
  · have z := h1 i hi
    rw [← wksR_nu (n := n)] at z
    exact z
  · have z := h2 i hi
    rw [← drsR_nu (n := n), ← wkS_nu (n := n)] at z
    exact z
/-- so many hours without rain -/
def ngR (N : Nat → Nat) (now w a : Int32) : Nat → Tb × Nat → Tb × Nat
  | 0, S => S
  | h + 1, S => goR N (now + nI h) w a 0 (ngR N now w a h S)
theorem ngR_mono {N : Nat → Nat} {now w a : Int32} {S : Tb × Nat} {i j : Nat} (h : i ≤ j) : (ngR N now w a i S).2 ≤ (ngR N now w a j S).2 := by
  induction h with
  | refl => exact Nat.le_refl _
  | step _ ih => exact Nat.le_trans ih goR_ge
/-- the copy, in which the combine c is sent to f -/
def trR (N : Nat → Nat) (U : Tb) (c : Nat) (f : Int32) : Tb := tu (cpR N U) 1 c (rw11 (cpR N U 1 c 0) (cpR N U 1 c 1) (cpR N U 1 c 2) (cpR N U 1 c 3) (cpR N U 1 c 4) (cpR N U 1 c 5) (cpR N U 1 c 6) f (cpR N U 1 c 8) (cpR N U 1 c 9) (cpR N U 1 c 10))
def bsR (N : Nat → Nat) (U : Tb) (now : Int32) (c : Nat) (f : Int32) (h : Nat) (w a : Int32) : Int32 := (ngR N now w a h (trR N U c f, 0)).1 1 c 10 - U 1 c 10
def nxV (b i g best most : Int32) : Int32 × Int32 := if b < most then (best, most) else if b = 0 then (best, most) else if b = most then (if i = g then (i, b) else (best, most)) else (i, b)
def nxR (N : Nat → Nat) (U : Tb) (now : Int32) (c h : Nat) (w a : Int32) : Nat → Int32 × Int32
  | 0 => (-1, 0)
  | i + 1 => if U 0 i 2 = U 0 i 3 then nxR N U now c h w a i else nxV (bsR N U now c (nI i) h w a) (nI i) (U 1 c 7) (nxR N U now c h w a i).1 (nxR N U now c h w a i).2
/-- what a trial needs -/
def TrOK (N : Nat → Nat) (U : Tb) (now : Int32) (c h : Nat) (w a : Int32) : Prop := ∀ i, i < N 0 → ¬ U 0 i 2 = U 0 i 3 → (∀ j, j < h → HrOK N (now + nI j) w a 0 (ngR N now w a j (trR N U c (nI i), 0))) ∧ (ngR N now w a h (trR N U c (nI i), 0)).2 ≤ 4
def q_X8_nextNow (N : Nat → Nat) (U : Tb) (now th pr mo : Int32) (F Lx : Row) (p0 p1 p2 p3 : Int32) : Int32 := (nxR N U now (ix p0) (ix p1) p2 p3 (N 0)).1
set_option maxHeartbeats 4000000 in
set_option maxRecDepth 100000 in
theorem c_X8_nextNow (l : Launch) (G : GG) (M : HM) (tx ma h0 fa lb t t2 : Nat) (Z : LZ) (N : Nat → Nat) (U : Tb) (now th pr mo : Int32) (F Lx : Row) (p0 p1 p2 p3 : Int32) (hO : XdR G M tx ma h0 fa lb th pr mo F Lx) (hL : MdR G M t h0 Z N U now) (d1 : tx ≠ t) (d2 : tx ≠ t2) (d3 : t ≠ t2)  (hf : ¬ p0 < 0 ∧ ix p0 < N 1) (hp1 : ¬ p1 < 0) (hp48 : ix p1 ≤ 48) (hOK : TrOK N U now (ix p0) (ix p1) p2 p3) : Mi l yX8_nextNow (.code yX8_nextNow cX8_nextNow 11 (some .int) :: AL) 10 242 (33 * N 0) (322 * N 0) [.ref ma, .int p0, .int p1, .int p2, .int p3] G M (fun r M' => r = (q_X8_nextNow N U now th pr mo F Lx p0 p1 p2 p3) ∧ Fr t2 M M') := by
  refine Mi.go (by decide) (Nat.le_of_ble_eq_true rfl) ?_
  intro p e s m below meth c ls hx hb hr hml hown hlocks hname hts hK hM hl
  have hown : s.vm.findClass RX8 = some m.cls := hown
  have hl : lv_has ls 11 [(0, .ref ma), (1, .int p0), (2, .int p1), (3, .int p2), (4, .int p3)] := hl
  have hn0 := hL.cnt (k := 0) (by decide)
  have hn09 : N 0 ≤ 8 := by have : N 0 ≤ 8 := hn0; omega
  have hn1 := hL.cnt (k := 1) (by decide)
  have hn19 : N 1 ≤ 8 := by have : N 1 ≤ 4 := hn1; omega
  have hn2 := hL.cnt (k := 2) (by decide)
  have hn29 : N 2 ≤ 8 := by have : N 2 ≤ 4 := hn2; omega
  have hn3 := hL.cnt (k := 3) (by decide)
  have hn39 : N 3 ≤ 8 := by have : N 3 ≤ 3 := hn3; omega
  obtain ⟨mc, emc⟩ : ∃ z, z = 33 * N 0 := ⟨_, rfl⟩
  obtain ⟨ms, ems⟩ : ∃ z, z = 322 * N 0 := ⟨_, rfl⟩
  rw [← emc, ← ems]
  refine lv_aload_n hx hb dX8_nextNow_0 rfl (lv_at hl 0 rfl) ?_
  refine fg_X8_10 hx hb hts hown hK hM hO.1 dX8_nextNow_1 ?_
  refine fg_X8_70 hx hb hts hown hK hM hL.1 dX8_nextNow_4 ?_
  refine lv_iload_n hx hb dX8_nextNow_7 rfl (lv_at hl 1 rfl) ?_
  refine g_aaldR hx hb hK hM (hL.outer (k := 1) (by decide)) hf.1 (Nat.lt_of_lt_of_le hf.2 hn1) dX8_nextNow_8 ?_
  refine lv_bipush (v := (7 : Int32)) hx hb dX8_nextNow_9 (by decide) ?_
  refine ia11_7 hx hb hK hM (hL.row (k := 1) (by decide) (Nat.lt_of_lt_of_le hf.2 hn1)) dX8_nextNow_11 ?_
  refine lv_istore (lv' := [(5, .int (U 1 (ix p0) 7)), (0, .ref ma), (1, .int p0), (2, .int p1), (3, .int p2), (4, .int p3)]) hx hb dX8_nextNow_12 hl (by decide) rfl (fun ls hl => ?_)
  refine lv_iconst (v := (-1 : Int32)) hx hb dX8_nextNow_14 (by decide) ?_
  refine lv_istore (lv' := [(6, .int (-1 : Int32)), (5, .int (U 1 (ix p0) 7)), (0, .ref ma), (1, .int p0), (2, .int p1), (3, .int p2), (4, .int p3)]) hx hb dX8_nextNow_15 hl (by decide) rfl (fun ls hl => ?_)
  refine lv_iconst (v := (0 : Int32)) hx hb dX8_nextNow_17 (by decide) ?_
  refine lv_istore (lv' := [(7, .int (0 : Int32)), (6, .int (-1 : Int32)), (5, .int (U 1 (ix p0) 7)), (0, .ref ma), (1, .int p0), (2, .int p1), (3, .int p2), (4, .int p3)]) hx hb dX8_nextNow_18 hl (by decide) rfl (fun ls hl => ?_)
  refine lv_iconst (v := (0 : Int32)) hx hb dX8_nextNow_20 (by decide) ?_
  refine lv_istore (lv' := [(8, .int (0 : Int32)), (7, .int (0 : Int32)), (6, .int (-1 : Int32)), (5, .int (U 1 (ix p0) 7)), (0, .ref ma), (1, .int p0), (2, .int p1), (3, .int p2), (4, .int p3)]) hx hb dX8_nextNow_21 hl (by decide) rfl (fun ls hl => ?_)
  have L23 : ∀ (n i : Nat), i ≤ N 0 → N 0 - i < n → ∀ (M5 : HM) (H : Heap) (locs : List Loc) (ls : Array Slot) (bb bm : Int32) (cl sl : Nat), nxR N U now (ix p0) (ix p1) p2 p3 i = (bb, bm) → cl ≤ 33 * i → sl ≤ 322 * i → Fr t2 M M5 → Wd G M5 s H locs → lv_has ls 11 [(8, .int (nI i)), (7, .int bm), (6, .int bb), (5, .int (U 1 (ix p0) 7)), (0, .ref ma), (1, .int p0), (2, .int p1), (3, .int p2), (4, .int p3)] → W p l e ({ frames := 10, cells := mc, slots := ms, locals := 242 } : Room) s m [.ref ma, .int p0, .int p1, .int p2, .int p3].toArray below meth c H locs cl sl (MQ below (va_Qi (fun r M' => r = (q_X8_nextNow N U now th pr mo F Lx p0 p1 p2 p3) ∧ Fr t2 M M') (gB G) (gA G)) [.ref ma, .int p0, .int p1, .int p2, .int p3].toArray s mc ms (gA G)) (F0 m 23 ls []) := by
    intro n
    induction n with
    | zero => intro i h1 h2; omega
    | succ n ih =>
      intro i h1 h9 M5 H locs ls bb bm cl sl enx hcl hsl hF5 hM hl
      have hO5 := hO.frame d2 hF5
      have hL5 := hL.frame d3 hF5
      refine lv_iload hx hb dX8_nextNow_23 (lv_at hl 0 rfl) ?_
      refine lv_aload_n hx hb dX8_nextNow_25 rfl (lv_at hl 4 rfl) ?_
      refine fg_X8_10 hx hb hts hown hK hM hO5.1 dX8_nextNow_26 ?_
      refine fg_X8_33 hx hb hts hown hK hM hL5.1 dX8_nextNow_29 ?_
      refine lv_icmp_ge (tgt := 179) hx hb dX8_nextNow_32 (by decide) (fun c1 => ?_) (fun c1 => ?_)
      · have hi : i = N 0 := by
          have := (nI_leI (by omega) (by omega)).mp c1
          omega
        refine lv_iload hx hb dX8_nextNow_179 (lv_at hl 2 rfl) ?_
        exact g_iret hx hb hr hlocks hM (by omega) (by omega) ⟨by show bb = (nxR N U now (ix p0) (ix p1) p2 p3 (N 0)).1; rw [← hi, enx], hF5⟩ dX8_nextNow_181
      · have hi : i < N 0 := by
          rcases Nat.lt_or_ge i (N 0) with z | z
          · exact z
          · exact absurd (nI_le z (by omega)) c1
        have step : nxR N U now (ix p0) (ix p1) p2 p3 (i + 1) = if U 0 i 2 = U 0 i 3 then nxR N U now (ix p0) (ix p1) p2 p3 i else nxV (bsR N U now (ix p0) (nI i) (ix p1) p2 p3) (nI i) (U 1 (ix p0) 7) bb bm := by show (if U 0 i 2 = U 0 i 3 then nxR N U now (ix p0) (ix p1) p2 p3 i else nxV (bsR N U now (ix p0) (nI i) (ix p1) p2 p3) (nI i) (U 1 (ix p0) 7) (nxR N U now (ix p0) (ix p1) p2 p3 i).1 (nxR N U now (ix p0) (ix p1) p2 p3 i).2) = _; rw [enx]
        refine lv_aload_n hx hb dX8_nextNow_35 rfl (lv_at hl 4 rfl) ?_
        refine fg_X8_10 hx hb hts hown hK hM hO5.1 dX8_nextNow_36 ?_
        refine fg_X8_57 hx hb hts hown hK hM hL5.1 dX8_nextNow_39 ?_
        refine lv_iload hx hb dX8_nextNow_42 (lv_at hl 0 rfl) ?_
        refine g_aaldN hx hb hK hM (hL5.outer (k := 0) (by decide)) (Nat.lt_of_lt_of_le hi hn0) (by show 8 < 1000; decide) dX8_nextNow_44 ?_
        refine lv_iconst (v := (2 : Int32)) hx hb dX8_nextNow_45 (by decide) ?_
        refine ia11_2 hx hb hK hM (hL5.row (k := 0) (by decide) (Nat.lt_of_lt_of_le hi hn0)) dX8_nextNow_46 ?_
        refine lv_aload_n hx hb dX8_nextNow_47 rfl (lv_at hl 4 rfl) ?_
        refine fg_X8_10 hx hb hts hown hK hM hO5.1 dX8_nextNow_48 ?_
        refine fg_X8_57 hx hb hts hown hK hM hL5.1 dX8_nextNow_51 ?_
        refine lv_iload hx hb dX8_nextNow_54 (lv_at hl 0 rfl) ?_
        refine g_aaldN hx hb hK hM (hL5.outer (k := 0) (by decide)) (Nat.lt_of_lt_of_le hi hn0) (by show 8 < 1000; decide) dX8_nextNow_56 ?_
        refine lv_iconst (v := (3 : Int32)) hx hb dX8_nextNow_57 (by decide) ?_
        refine ia11_3 hx hb hK hM (hL5.row (k := 0) (by decide) (Nat.lt_of_lt_of_le hi hn0)) dX8_nextNow_58 ?_
        refine lv_icmp_ne (tgt := 65) hx hb dX8_nextNow_59 (by decide) (fun c2 => ?_) (fun c2 => ?_)
        · rw [if_neg c2] at step
          obtain ⟨hok, hb4⟩ := hOK i hi c2
          refine lv_aload_n hx hb dX8_nextNow_65 rfl (lv_at hl 4 rfl) ?_
          refine fg_X8_10 hx hb hts hown hK hM hO5.1 dX8_nextNow_66 ?_
          refine g_callVq (n9 := 0) (As := []) (rest := []) hx hb hml hl.1 hown hts hK hM (c_X7_copy l G _ t h0 Z N U now t2 hL5 d3) wm_X8_155 wi_X7_copy wl_X7_copy wn_X7 wc_X7_copy (by decide +kernel) (hM.recv hK (ci := 8) rfl hL5.1) ⟨Nat.le_of_ble_eq_true rfl, Nat.le_of_ble_eq_true rfl⟩ ⟨by show cl + 25 ≤ mc; omega, by show sl + 222 ≤ ms; omega⟩ rfl (Nat.le_of_ble_eq_true rfl) rfl dX8_nextNow_69 (fun r_69 M6 H locs hq hM => ?_)
          obtain ⟨q9, Z6, er, hV6, hF6⟩ := hq
          subst er
          have hG6 := Fr.tr hF5 hF6
          refine lv_astore (lv' := [(9, .ref q9), (8, .int (nI i)), (7, .int bm), (6, .int bb), (5, .int (U 1 (ix p0) 7)), (0, .ref ma), (1, .int p0), (2, .int p1), (3, .int p2), (4, .int p3)]) hx hb dX8_nextNow_72 hl (by decide) rfl (fun ls hl => ?_)
          refine lv_aload hx hb dX8_nextNow_74 (lv_at hl 0 rfl) ?_
          refine fg_X8_70 hx hb hts hown hK hM hV6.1 dX8_nextNow_76 ?_
          refine lv_iload_n hx hb dX8_nextNow_79 rfl (lv_at hl 6 rfl) ?_
          refine g_aaldR hx hb hK hM (hV6.outer (k := 1) (by decide)) hf.1 (Nat.lt_of_lt_of_le hf.2 hn1) dX8_nextNow_80 ?_
          refine lv_bipush (v := (7 : Int32)) hx hb dX8_nextNow_81 (by decide) ?_
          refine lv_iload hx hb dX8_nextNow_83 (lv_at hl 1 rfl) ?_
          have hrow6 := hV6.row (k := 1) (i := ix p0) (by decide) (Nat.lt_of_lt_of_le hf.2 hn1)
          refine is11_7 hx hb hK hM hrow6 dX8_nextNow_85 (fun H locs hM => ?_)
          obtain ⟨T6, eT6⟩ : ∃ z, z = trR N U (ix p0) (nI i) := ⟨_, rfl⟩
          obtain ⟨M7, eM7⟩ : ∃ z, z = hu M6 (Z6.2.1 1 (ix p0)) t2 (eR G 1 (T6 1 (ix p0))) := ⟨_, rfl⟩
          replace hM : Wd G M7 s H locs := hM.eq (by rw [eM7, eT6]; unfold trR; rw [tu_s]; rfl)
          have hV7 : MdR G M7 t2 q9 Z6 (nu N 4 0) T6 now := by rw [eM7, eT6]; unfold trR; rw [tu_s]; exact hV6.setRow (k := 1) (by decide) (Nat.lt_of_lt_of_le hf.2 hn1) _
          have hG7 : Fr t2 M M7 := by rw [eM7]; exact Fr.tr hG6 (Fr.up hrow6)
          rw [← eT6] at hb4
          refine lv_iconst (v := (0 : Int32)) hx hb dX8_nextNow_86 (by decide) ?_
          refine lv_istore (lv' := [(10, .int (0 : Int32)), (9, .ref q9), (8, .int (nI i)), (7, .int bm), (6, .int bb), (5, .int (U 1 (ix p0) 7)), (0, .ref ma), (1, .int p0), (2, .int p1), (3, .int p2), (4, .int p3)]) hx hb dX8_nextNow_87 hl (by decide) rfl (fun ls hl => ?_)
          have ep : p1 = nI (ix p1) := (ix_nI hp1).1
          have L89 : ∀ (n2 j : Nat), j ≤ ix p1 → ix p1 - j < n2 → ∀ (M8 : HM) (H : Heap) (locs : List Loc) (ls : Array Slot) (Z8 : LZ) (S8 : Tb × Nat), S8 = ngR N now p2 p3 j (T6, 0) → MdR G M8 t2 q9 Z8 (nu N 4 S8.2) S8.1 (now + nI j) → Fr t2 M M8 → Wd G M8 s H locs → lv_has ls 11 [(10, .int (nI j)), (9, .ref q9), (8, .int (nI i)), (7, .int bm), (6, .int bb), (5, .int (U 1 (ix p0) 7)), (0, .ref ma), (1, .int p0), (2, .int p1), (3, .int p2), (4, .int p3)] → W p l e ({ frames := 10, cells := mc, slots := ms, locals := 242 } : Room) s m [.ref ma, .int p0, .int p1, .int p2, .int p3].toArray below meth c H locs (cl + 25 + 2 * S8.2) (sl + 222 + 25 * S8.2) (MQ below (va_Qi (fun r M' => r = (q_X8_nextNow N U now th pr mo F Lx p0 p1 p2 p3) ∧ Fr t2 M M') (gB G) (gA G)) [.ref ma, .int p0, .int p1, .int p2, .int p3].toArray s mc ms (gA G)) (F0 m 89 ls []) := by
            intro n2
            induction n2 with
            | zero => intro j g1 g2; omega
            | succ n2 ih2 =>
              intro j g1 g9 M8 H locs ls Z8 S8 eS hV8 hF8 hM hl
              have m8 : S8.2 ≤ 4 := by rw [eS]; exact Nat.le_trans (ngR_mono g1) hb4
              refine lv_iload hx hb dX8_nextNow_89 (lv_at hl 0 rfl) ?_
              refine lv_iload_n hx hb dX8_nextNow_91 rfl (lv_at hl 8 rfl) ?_
              refine lv_icmp_ge (tgt := 111) hx hb dX8_nextNow_92 (by decide) (fun g => ?_) (fun g => ?_)
              · have hj : j = ix p1 := by
                  rw [ep] at g
                  have := (nI_leI (by omega) (by omega)).mp g
                  omega
                subst hj
                have hL8 := hL.frame d3 hF8
                have hO8 := hO.frame d2 hF8
                refine lv_aload hx hb dX8_nextNow_111 (lv_at hl 1 rfl) ?_
                refine fg_X8_70 hx hb hts hown hK hM hV8.1 dX8_nextNow_113 ?_
                refine lv_iload_n hx hb dX8_nextNow_116 rfl (lv_at hl 7 rfl) ?_
                refine g_aaldR hx hb hK hM (hV8.outer (k := 1) (by decide)) hf.1 (Nat.lt_of_lt_of_le hf.2 hn1) dX8_nextNow_117 ?_
                refine lv_bipush (v := (10 : Int32)) hx hb dX8_nextNow_118 (by decide) ?_
                refine ia11_10 hx hb hK hM (hV8.row (k := 1) (i := ix p0) (by decide) (Nat.lt_of_lt_of_le hf.2 hn1)) dX8_nextNow_120 ?_
                have eB : bsR N U now (ix p0) (nI i) (ix p1) p2 p3 = ((S8.1 1 (ix p0) 10) - (U 1 (ix p0) 10)) := by unfold bsR; rw [← eT6, ← eS]
                rw [eB] at step
                refine lv_aload_n hx hb dX8_nextNow_121 rfl (lv_at hl 6 rfl) ?_
                refine fg_X8_10 hx hb hts hown hK hM hO8.1 dX8_nextNow_122 ?_
                refine fg_X8_70 hx hb hts hown hK hM hL8.1 dX8_nextNow_125 ?_
                refine lv_iload_n hx hb dX8_nextNow_128 rfl (lv_at hl 7 rfl) ?_
                refine g_aaldR hx hb hK hM (hL8.outer (k := 1) (by decide)) hf.1 (Nat.lt_of_lt_of_le hf.2 hn1) dX8_nextNow_129 ?_
                refine lv_bipush (v := (10 : Int32)) hx hb dX8_nextNow_130 (by decide) ?_
                refine ia11_10 hx hb hK hM (hL8.row (k := 1) (by decide) (Nat.lt_of_lt_of_le hf.2 hn1)) dX8_nextNow_132 ?_
                refine lv_isub hx hb dX8_nextNow_133 ?_
                refine lv_istore (lv' := [(10, .int ((S8.1 1 (ix p0) 10) - (U 1 (ix p0) 10))), (9, .ref q9), (8, .int (nI i)), (7, .int bm), (6, .int bb), (5, .int (U 1 (ix p0) 7)), (0, .ref ma), (1, .int p0), (2, .int p1), (3, .int p2), (4, .int p3)]) hx hb dX8_nextNow_134 hl (by decide) rfl (fun ls hl => ?_)
                refine lv_iload hx hb dX8_nextNow_136 (lv_at hl 0 rfl) ?_
                refine lv_iload hx hb dX8_nextNow_138 (lv_at hl 3 rfl) ?_
                refine lv_icmp_lt (tgt := 173) hx hb dX8_nextNow_140 (by decide) (fun c3 => ?_) (fun c3 => ?_)
                · refine lv_iinc (v := (nI (i + 1))) (lv' := [(8, .int (nI (i + 1))), (10, .int ((S8.1 1 (ix p0) 10) - (U 1 (ix p0) 10))), (9, .ref q9), (7, .int bm), (6, .int bb), (5, .int (U 1 (ix p0) 7)), (0, .ref ma), (1, .int p0), (2, .int p1), (3, .int p2), (4, .int p3)]) hx hb dX8_nextNow_173 hl (k := 2) rfl (nI_1 i) (by decide) rfl (fun ls hl => ?_)
                  refine lv_goto (tgt := 23) hx hb dX8_nextNow_176 (by decide) ?_
                  exact ih (i + 1) (by omega) (by omega) M8 _ _ _ bb bm _ _ (by rw [step]; unfold nxV; rw [if_pos c3]) (by omega) (by omega) hF8 hM (lv_sub hl [0, 3, 4, 5, 6, 7, 8, 9, 10] rfl)
                · refine lv_iload hx hb dX8_nextNow_143 (lv_at hl 0 rfl) ?_
                  refine lv_if_eq (tgt := 173) hx hb dX8_nextNow_145 (by decide) (fun c4 => ?_) (fun c4 => ?_)
                  · refine lv_iinc (v := (nI (i + 1))) (lv' := [(8, .int (nI (i + 1))), (10, .int ((S8.1 1 (ix p0) 10) - (U 1 (ix p0) 10))), (9, .ref q9), (7, .int bm), (6, .int bb), (5, .int (U 1 (ix p0) 7)), (0, .ref ma), (1, .int p0), (2, .int p1), (3, .int p2), (4, .int p3)]) hx hb dX8_nextNow_173 hl (k := 2) rfl (nI_1 i) (by decide) rfl (fun ls hl => ?_)
                    refine lv_goto (tgt := 23) hx hb dX8_nextNow_176 (by decide) ?_
                    exact ih (i + 1) (by omega) (by omega) M8 _ _ _ bb bm _ _ (by rw [step]; unfold nxV; rw [if_neg c3, if_pos c4]) (by omega) (by omega) hF8 hM (lv_sub hl [0, 3, 4, 5, 6, 7, 8, 9, 10] rfl)
                  · refine lv_iload hx hb dX8_nextNow_148 (lv_at hl 0 rfl) ?_
                    refine lv_iload hx hb dX8_nextNow_150 (lv_at hl 3 rfl) ?_
                    refine lv_icmp_ne (tgt := 165) hx hb dX8_nextNow_152 (by decide) (fun c5 => ?_) (fun c5 => ?_)
                    · refine lv_iload hx hb dX8_nextNow_165 (lv_at hl 2 rfl) ?_
                      refine lv_istore (lv' := [(6, .int (nI i)), (10, .int ((S8.1 1 (ix p0) 10) - (U 1 (ix p0) 10))), (9, .ref q9), (8, .int (nI i)), (7, .int bm), (5, .int (U 1 (ix p0) 7)), (0, .ref ma), (1, .int p0), (2, .int p1), (3, .int p2), (4, .int p3)]) hx hb dX8_nextNow_167 hl (by decide) rfl (fun ls hl => ?_)
                      refine lv_iload hx hb dX8_nextNow_169 (lv_at hl 1 rfl) ?_
                      refine lv_istore (lv' := [(7, .int ((S8.1 1 (ix p0) 10) - (U 1 (ix p0) 10))), (6, .int (nI i)), (10, .int ((S8.1 1 (ix p0) 10) - (U 1 (ix p0) 10))), (9, .ref q9), (8, .int (nI i)), (5, .int (U 1 (ix p0) 7)), (0, .ref ma), (1, .int p0), (2, .int p1), (3, .int p2), (4, .int p3)]) hx hb dX8_nextNow_171 hl (by decide) rfl (fun ls hl => ?_)
                      refine lv_iinc (v := (nI (i + 1))) (lv' := [(8, .int (nI (i + 1))), (7, .int ((S8.1 1 (ix p0) 10) - (U 1 (ix p0) 10))), (6, .int (nI i)), (10, .int ((S8.1 1 (ix p0) 10) - (U 1 (ix p0) 10))), (9, .ref q9), (5, .int (U 1 (ix p0) 7)), (0, .ref ma), (1, .int p0), (2, .int p1), (3, .int p2), (4, .int p3)]) hx hb dX8_nextNow_173 hl (k := 4) rfl (nI_1 i) (by decide) rfl (fun ls hl => ?_)
                      refine lv_goto (tgt := 23) hx hb dX8_nextNow_176 (by decide) ?_
                      exact ih (i + 1) (by omega) (by omega) M8 _ _ _ (nI i) ((S8.1 1 (ix p0) 10) - (U 1 (ix p0) 10)) _ _ (by rw [step]; unfold nxV; rw [if_neg c3, if_neg c4, if_neg c5]) (by omega) (by omega) hF8 hM (lv_sub hl [0, 1, 2, 5, 6, 7, 8, 9, 10] rfl)
                    · refine lv_iload hx hb dX8_nextNow_155 (lv_at hl 2 rfl) ?_
                      refine lv_iload hx hb dX8_nextNow_157 (lv_at hl 5 rfl) ?_
                      refine lv_icmp_eq (tgt := 165) hx hb dX8_nextNow_159 (by decide) (fun c6 => ?_) (fun c6 => ?_)
                      · refine lv_iload hx hb dX8_nextNow_165 (lv_at hl 2 rfl) ?_
                        refine lv_istore (lv' := [(6, .int (nI i)), (10, .int ((S8.1 1 (ix p0) 10) - (U 1 (ix p0) 10))), (9, .ref q9), (8, .int (nI i)), (7, .int bm), (5, .int (U 1 (ix p0) 7)), (0, .ref ma), (1, .int p0), (2, .int p1), (3, .int p2), (4, .int p3)]) hx hb dX8_nextNow_167 hl (by decide) rfl (fun ls hl => ?_)
                        refine lv_iload hx hb dX8_nextNow_169 (lv_at hl 1 rfl) ?_
                        refine lv_istore (lv' := [(7, .int ((S8.1 1 (ix p0) 10) - (U 1 (ix p0) 10))), (6, .int (nI i)), (10, .int ((S8.1 1 (ix p0) 10) - (U 1 (ix p0) 10))), (9, .ref q9), (8, .int (nI i)), (5, .int (U 1 (ix p0) 7)), (0, .ref ma), (1, .int p0), (2, .int p1), (3, .int p2), (4, .int p3)]) hx hb dX8_nextNow_171 hl (by decide) rfl (fun ls hl => ?_)
                        refine lv_iinc (v := (nI (i + 1))) (lv' := [(8, .int (nI (i + 1))), (7, .int ((S8.1 1 (ix p0) 10) - (U 1 (ix p0) 10))), (6, .int (nI i)), (10, .int ((S8.1 1 (ix p0) 10) - (U 1 (ix p0) 10))), (9, .ref q9), (5, .int (U 1 (ix p0) 7)), (0, .ref ma), (1, .int p0), (2, .int p1), (3, .int p2), (4, .int p3)]) hx hb dX8_nextNow_173 hl (k := 4) rfl (nI_1 i) (by decide) rfl (fun ls hl => ?_)
                        refine lv_goto (tgt := 23) hx hb dX8_nextNow_176 (by decide) ?_
                        exact ih (i + 1) (by omega) (by omega) M8 _ _ _ (nI i) ((S8.1 1 (ix p0) 10) - (U 1 (ix p0) 10)) _ _ (by rw [step]; unfold nxV; rw [if_neg c3, if_neg c4, if_pos c5, if_pos c6]) (by omega) (by omega) hF8 hM (lv_sub hl [0, 1, 2, 5, 6, 7, 8, 9, 10] rfl)
                      · refine lv_goto (tgt := 173) hx hb dX8_nextNow_162 (by decide) ?_
                        refine lv_iinc (v := (nI (i + 1))) (lv' := [(8, .int (nI (i + 1))), (10, .int ((S8.1 1 (ix p0) 10) - (U 1 (ix p0) 10))), (9, .ref q9), (7, .int bm), (6, .int bb), (5, .int (U 1 (ix p0) 7)), (0, .ref ma), (1, .int p0), (2, .int p1), (3, .int p2), (4, .int p3)]) hx hb dX8_nextNow_173 hl (k := 2) rfl (nI_1 i) (by decide) rfl (fun ls hl => ?_)
                        refine lv_goto (tgt := 23) hx hb dX8_nextNow_176 (by decide) ?_
                        exact ih (i + 1) (by omega) (by omega) M8 _ _ _ bb bm _ _ (by rw [step]; unfold nxV; rw [if_neg c3, if_neg c4, if_pos c5, if_neg c6]) (by omega) (by omega) hF8 hM (lv_sub hl [0, 3, 4, 5, 6, 7, 8, 9, 10] rfl)
              · have hj : j < ix p1 := by
                  rcases Nat.lt_or_ge j (ix p1) with z | z
                  · exact z
                  · exact absurd (by rw [ep]; exact nI_le z (by omega)) g
                have hj9 := hok j hj
                rw [← eT6, ← eS] at hj9
                obtain ⟨S9, e9⟩ : ∃ z, z = ngR N now p2 p3 (j + 1) (T6, 0) := ⟨_, rfl⟩
                have m9 : S9.2 ≤ 4 := by rw [e9]; exact Nat.le_trans (ngR_mono (by omega)) hb4
                have e8 : goR (nu N 4 S8.2) (now + nI j) p2 p3 (0 : Int32) (S8.1, (nu N 4 S8.2) 4) = S9 := by rw [goR_nu, nu_s, e9, eS]; rfl
                have m89 : S8.2 ≤ S9.2 := by rw [e9, eS]; exact ngR_mono (by omega)
                refine lv_aload hx hb dX8_nextNow_95 (lv_at hl 1 rfl) ?_
                refine lv_iload_n hx hb dX8_nextNow_97 rfl (lv_at hl 9 rfl) ?_
                refine lv_iload hx hb dX8_nextNow_98 (lv_at hl 10 rfl) ?_
                refine lv_iconst (v := (0 : Int32)) hx hb dX8_nextNow_100 (by decide) ?_
                refine g_callVi (n9 := 3) (As := [.int p2, .int p3, .int (0 : Int32)]) (rest := []) hx hb hml hl.1 hown hts hK hM (c_X7_go l G _ t2 q9 Z8 (nu N 4 S8.2) S8.1 (now + nI j) p2 p3 (0 : Int32) hV8 (HrOK_nu hj9) 4 (by rw [e8]; exact m9) (by decide)) wm_X8_120 wi_X7_go wl_X7_go wn_X7 wc_X7_go (by decide +kernel) (hM.recv hK (ci := 8) rfl hV8.1) ⟨Nat.le_of_ble_eq_true rfl, Nat.le_of_ble_eq_true rfl⟩ ⟨by rw [e8]; show cl + 25 + 2 * S8.2 + 2 * (S9.2 - S8.2) ≤ mc; omega, by rw [e8]; show sl + 222 + 25 * S8.2 + 25 * (S9.2 - S8.2) ≤ ms; omega⟩ rfl (Nat.le_of_ble_eq_true rfl) rfl dX8_nextNow_101 (fun r_101 M9 H locs hq hM => ?_)
                obtain ⟨-, Z9, hV9, hF9⟩ := hq
                rw [e8, nu_nu, now_s] at hV9
                refine W.cst (cells' := cl + 25 + 2 * S9.2) (slots' := sl + 222 + 25 * S9.2) (by rw [e8]; show cl + 25 + 2 * S8.2 + 2 * (S9.2 - S8.2) = _; omega) (by rw [e8]; show sl + 222 + 25 * S8.2 + 25 * (S9.2 - S8.2) = _; omega) ?_
                refine lv_pop hx hb dX8_nextNow_104 rfl ?_
                refine lv_iinc (v := (nI (j + 1))) (lv' := [(10, .int (nI (j + 1))), (9, .ref q9), (8, .int (nI i)), (7, .int bm), (6, .int bb), (5, .int (U 1 (ix p0) 7)), (0, .ref ma), (1, .int p0), (2, .int p1), (3, .int p2), (4, .int p3)]) hx hb dX8_nextNow_105 hl (k := 0) rfl (nI_1 j) (by decide) rfl (fun ls hl => ?_)
                refine lv_goto (tgt := 89) hx hb dX8_nextNow_108 (by decide) ?_
                exact ih2 (j + 1) (by omega) (by omega) M9 _ _ _ Z9 S9 e9 hV9 (Fr.tr hF8 hF9) hM hl
          exact L89 (ix p1 + 1) 0 (Nat.zero_le _) (by omega) M7 _ _ _ Z6 (T6, 0) rfl (by show MdR G M7 t2 q9 Z6 (nu N 4 0) T6 (now + nI 0); rw [show now + nI 0 = now from Int32.add_zero _]; exact hV7) hG7 hM hl
        · refine lv_goto (tgt := 173) hx hb dX8_nextNow_62 (by decide) ?_
          refine lv_iinc (v := (nI (i + 1))) (lv' := [(8, .int (nI (i + 1))), (7, .int bm), (6, .int bb), (5, .int (U 1 (ix p0) 7)), (0, .ref ma), (1, .int p0), (2, .int p1), (3, .int p2), (4, .int p3)]) hx hb dX8_nextNow_173 hl (k := 0) rfl (nI_1 i) (by decide) rfl (fun ls hl => ?_)
          refine lv_goto (tgt := 23) hx hb dX8_nextNow_176 (by decide) ?_
          exact ih (i + 1) (by omega) (by omega) M5 _ _ _ bb bm cl sl (by rw [step, if_pos c2]; exact enx) (by omega) (by omega) hF5 hM (lv_sub hl [0, 1, 2, 3, 4, 5, 6, 7, 8] rfl)
  exact L23 (N 0 + 1) 0 (Nat.zero_le _) (by omega) M _ _ _ (-1) 0 0 0 rfl (Nat.zero_le _) (Nat.zero_le _) Fr.rf hM (lv_sub hl [0, 1, 2, 3, 4, 5, 6, 7, 8] rfl)
def q_X8_nextField (N : Nat → Nat) (U : Tb) (now th pr mo : Int32) (F Lx : Row) (p0 p1 p2 p3 : Int32) : Int32 := if (t_X8_in_0 p0 (0 : Int32) ((nI (N 1)) - (1 : Int32))) = 0 then t_X8_no_0 else (if (t_X8_in_0 p1 (1 : Int32) (48 : Int32)) = 0 then t_X8_no_0 else (if (t_X8_isWeather_0 p2 p3 (0 : Int32)) = 0 then t_X8_no_0 else (q_X8_nextNow N U now (0 : Int32) pr mo F Lx p0 p1 p2 p3)))
def th_X8_nextField (N : Nat → Nat) (U : Tb) (now th pr mo : Int32) (F Lx : Row) (p0 p1 p2 p3 : Int32) : Int32 := if (t_X8_in_0 p0 (0 : Int32) ((nI (N 1)) - (1 : Int32))) = 0 then (1 : Int32) else (if (t_X8_in_0 p1 (1 : Int32) (48 : Int32)) = 0 then (2 : Int32) else (if (t_X8_isWeather_0 p2 p3 (0 : Int32)) = 0 then (2 : Int32) else (0 : Int32)))
set_option maxHeartbeats 4000000 in
set_option maxRecDepth 100000 in
theorem c_X8_nextField (l : Launch) (G : GG) (M : HM) (tx ma h0 fa lb t t2 : Nat) (Z : LZ) (N : Nat → Nat) (U : Tb) (now th pr mo : Int32) (F Lx : Row) (p0 p1 p2 p3 : Int32) (hO : XdR G M tx ma h0 fa lb th pr mo F Lx) (hL : MdR G M t h0 Z N U now) (d1 : tx ≠ t) (d2 : tx ≠ t2) (d3 : t ≠ t2)  (hOK : ¬ t_X8_in_0 p0 (0 : Int32) (nI (N 1) - 1) = 0 → ¬ t_X8_in_0 p1 (1 : Int32) (48 : Int32) = 0 → TrOK N U now (ix p0) (ix p1) p2 p3) : Mi l yX8_nextField (.code yX8_nextField cX8_nextField 5 (some .int) :: AL) 11 272 (33 * N 0) (322 * N 0) [.ref ma, .int p0, .int p1, .int p2, .int p3] G M (fun r M' => r = (q_X8_nextField N U now th pr mo F Lx p0 p1 p2 p3) ∧ XP G M M' tx ma h0 fa lb t t2 N U now (th_X8_nextField N U now th pr mo F Lx p0 p1 p2 p3) pr mo F Lx) := by
  refine Mi.go (by decide) (Nat.le_of_ble_eq_true rfl) ?_
  intro p e s m below meth c ls hx hb hr hml hown hlocks hname hts hK hM hl
  have hown : s.vm.findClass RX8 = some m.cls := hown
  have hl : lv_has ls 5 [(0, .ref ma), (1, .int p0), (2, .int p1), (3, .int p2), (4, .int p3)] := hl
  have hn0 := hL.cnt (k := 0) (by decide)
  have hn09 : N 0 ≤ 8 := by have : N 0 ≤ 8 := hn0; omega
  have hn1 := hL.cnt (k := 1) (by decide)
  have hn19 : N 1 ≤ 8 := by have : N 1 ≤ 4 := hn1; omega
  have hn2 := hL.cnt (k := 2) (by decide)
  have hn29 : N 2 ≤ 8 := by have : N 2 ≤ 4 := hn2; omega
  have hn3 := hL.cnt (k := 3) (by decide)
  have hn39 : N 3 ≤ 8 := by have : N 3 ≤ 3 := hn3; omega
  refine lv_aload_n hx hb dX8_nextField_0 rfl (lv_at hl 0 rfl) ?_
  refine lv_iconst (v := (0 : Int32)) hx hb dX8_nextField_1 (by decide) ?_
  refine fp_X8_30 hx hb hts hown hK hM hO.1 dX8_nextField_2 (fun H locs hM => ?_)
  obtain ⟨M1, eM1⟩ : ∃ z, z = hu M ma tx (.inr (9, [.int (0 : Int32), .ref h0, .ref fa, .ref lb, .int pr, .int mo])) := ⟨_, rfl⟩
  replace hM : Wd G M1 s H locs := hM.eq eM1.symm
  have hO1 : XdR G M1 tx ma h0 fa lb (0 : Int32) pr mo F Lx := by rw [eM1]; exact hO.setO (0 : Int32) pr mo
  have hL1 : MdR G M1 t h0 Z N U now := by rw [eM1]; exact hL.frame (Ne.symm d1) (Fr.up hO.1)
  have hF1 : F3 tx t t2 M M1 := by rw [eM1]; exact F3.tr (F3.rf) (F3.up hO.1 (Or.inr (Or.inl rfl)))
  refine lv_aload_n hx hb dX8_nextField_5 rfl (lv_at hl 0 rfl) ?_
  refine lv_iload_n hx hb dX8_nextField_6 rfl (lv_at hl 1 rfl) ?_
  refine g_callVi (n9 := 1) (As := [.int p0]) (rest := []) hx hb hml hl.1 hown hts hK hM (c_X8_isCombine l G _ tx ma h0 fa lb t t2 Z N U now (0 : Int32) pr mo F Lx p0 hO1 hL1) wm_X8_79 wi_X8_isCombine wl_X8_isCombine wn_X8 wc_X8_isCombine (by decide +kernel) (hM.recv hK (ci := 9) rfl hO1.1) ⟨Nat.le_of_ble_eq_true rfl, Nat.le_of_ble_eq_true rfl⟩ ⟨Nat.zero_le _, Nat.zero_le _⟩ rfl (Nat.le_of_ble_eq_true rfl) rfl dX8_nextField_7 (fun r_7 Mz H locs hq hM => ?_)
  have hq1 := hq.1.symm
  have hq2 := hq.2.symm
  subst hq1 hq2
  refine lv_if_ne (tgt := 19) hx hb dX8_nextField_10 (by decide) (fun c1 => ?_) (fun c1 => ?_)
  · refine lv_iload_n hx hb dX8_nextField_19 rfl (lv_at hl 2 rfl) ?_
    refine lv_iconst (v := (1 : Int32)) hx hb dX8_nextField_20 (by decide) ?_
    refine lv_bipush (v := (48 : Int32)) hx hb dX8_nextField_21 (by decide) ?_
    refine g_callSi (n9 := 3) (As := [.int p1, .int (1 : Int32), .int (48 : Int32)]) (rest := []) hx hb hml hl.1 hown hts hK hM (c_X8_in l G _ p1 (1 : Int32) (48 : Int32) ) wm_X8_36 wt_X8_in wn_X8 wc_X8_in (by decide +kernel) ⟨Nat.le_of_ble_eq_true rfl, Nat.le_of_ble_eq_true rfl⟩ ⟨Nat.le_of_ble_eq_true rfl, Nat.le_of_ble_eq_true rfl⟩ rfl (Nat.le_of_ble_eq_true rfl) rfl dX8_nextField_23 (fun r_23 M1 H locs hq hM => ?_)
    have hq1 := hq.1.symm
    have hq2 := hq.2.symm
    subst hq1 hq2
    refine lv_if_eq (tgt := 39) hx hb dX8_nextField_26 (by decide) (fun c2 => ?_) (fun c2 => ?_)
    · refine lv_aload_n hx hb dX8_nextField_39 rfl (lv_at hl 0 rfl) ?_
      refine lv_iconst (v := (2 : Int32)) hx hb dX8_nextField_40 (by decide) ?_
      refine g_callVi (n9 := 1) (As := [.int (2 : Int32)]) (rest := []) hx hb hml hl.1 hown hts hK hM (c_X8_no l G _ ma tx (0 : Int32) pr mo h0 fa lb (2 : Int32) hO1.1) wm_X8_49 wi_X8_no wl_X8_no wn_X8 wc_X8_no (by decide +kernel) (hM.recv hK (ci := 9) rfl hO1.1) ⟨Nat.le_of_ble_eq_true rfl, Nat.le_of_ble_eq_true rfl⟩ ⟨Nat.zero_le _, Nat.zero_le _⟩ rfl (Nat.le_of_ble_eq_true rfl) rfl dX8_nextField_41 (fun r_41 M9 H locs hq hM => ?_)
      obtain ⟨er, eM9⟩ := hq
      subst er
      replace hM := hM.eq eM9
      obtain ⟨M2, eM2⟩ : ∃ z, z = hu M1 ma tx (.inr (9, [.int (2 : Int32), .ref h0, .ref fa, .ref lb, .int pr, .int mo])) := ⟨_, rfl⟩
      replace hM : Wd G M2 s H locs := hM.eq eM2.symm
      have hO2 : XdR G M2 tx ma h0 fa lb (2 : Int32) pr mo F Lx := by rw [eM2]; exact hO1.setO (2 : Int32) pr mo
      have hL2 : MdR G M2 t h0 Z N U now := by rw [eM2]; exact hL1.frame (Ne.symm d1) (Fr.up hO1.1)
      have hF2 : F3 tx t t2 M M2 := by rw [eM2]; exact F3.tr hF1 (F3.up hO1.1 (Or.inr (Or.inl rfl)))
      exact g_iret hx hb hr hlocks hM (Nat.zero_le _) (Nat.zero_le _) ⟨(by unfold q_X8_nextField; rw [if_neg c1, if_pos c2]), (by rw [show th_X8_nextField N U now th pr mo F Lx p0 p1 p2 p3 = (2 : Int32) from by unfold th_X8_nextField; rw [if_neg c1, if_pos c2]]; exact ⟨hO2, ⟨Z, hL2⟩, hF2⟩)⟩ dX8_nextField_44
    · refine lv_iload_n hx hb dX8_nextField_29 rfl (lv_at hl 3 rfl) ?_
      refine lv_iload hx hb dX8_nextField_30 (lv_at hl 4 rfl) ?_
      refine lv_iconst (v := (0 : Int32)) hx hb dX8_nextField_32 (by decide) ?_
      refine g_callSi (n9 := 3) (As := [.int p2, .int p3, .int (0 : Int32)]) (rest := []) hx hb hml hl.1 hown hts hK hM (c_X8_isWeather l G _ p2 p3 (0 : Int32) ) wm_X8_104 wt_X8_isWeather wn_X8 wc_X8_isWeather (by decide +kernel) ⟨Nat.le_of_ble_eq_true rfl, Nat.le_of_ble_eq_true rfl⟩ ⟨Nat.le_of_ble_eq_true rfl, Nat.le_of_ble_eq_true rfl⟩ rfl (Nat.le_of_ble_eq_true rfl) rfl dX8_nextField_33 (fun r_33 M1 H locs hq hM => ?_)
      have hq1 := hq.1.symm
      have hq2 := hq.2.symm
      subst hq1 hq2
      refine lv_if_ne (tgt := 45) hx hb dX8_nextField_36 (by decide) (fun c3 => ?_) (fun c3 => ?_)
      · refine lv_aload_n hx hb dX8_nextField_45 rfl (lv_at hl 0 rfl) ?_
        refine lv_iload_n hx hb dX8_nextField_46 rfl (lv_at hl 1 rfl) ?_
        refine lv_iload_n hx hb dX8_nextField_47 rfl (lv_at hl 2 rfl) ?_
        refine lv_iload_n hx hb dX8_nextField_48 rfl (lv_at hl 3 rfl) ?_
        refine lv_iload hx hb dX8_nextField_49 (lv_at hl 4 rfl) ?_
        have hp8 := in_48 c2
        refine g_callVi (n9 := 4) (As := [.int p0, .int p1, .int p2, .int p3]) (rest := []) hx hb hml hl.1 hown hts hK hM (c_X8_nextNow l G _ tx ma h0 fa lb t t2 Z N U now (0 : Int32) pr mo F Lx p0 p1 p2 p3 hO1 hL1 d1 d2 d3 (inN9 c1 hn19) hp8.1 hp8.2 (hOK c1 c2)) wm_X8_159 wi_X8_nextNow wl_X8_nextNow wn_X8 wc_X8_nextNow (by decide +kernel) (hM.recv hK (ci := 9) rfl hO1.1) ⟨Nat.le_of_ble_eq_true rfl, Nat.le_of_ble_eq_true rfl⟩ ⟨by show 0 + 33 * N 0 ≤ 33 * N 0; omega, by show 0 + 322 * N 0 ≤ 322 * N 0; omega⟩ rfl (Nat.le_of_ble_eq_true rfl) rfl dX8_nextField_51 (fun r_51 M7 H locs hq hM => ?_)
        obtain ⟨er, hF7⟩ := hq
        subst er
        have hO7 := hO1.frame d2 hF7
        have hL7 := hL1.frame d3 hF7
        have hF8 := F3.tr hF1 (F3.fr2 hF7)
        exact g_iret hx hb hr hlocks hM (by show 0 + 33 * N 0 ≤ 33 * N 0; omega) (by show 0 + 322 * N 0 ≤ 322 * N 0; omega) ⟨(by unfold q_X8_nextField; rw [if_neg c1, if_neg c2, if_neg c3]), (by rw [show th_X8_nextField N U now th pr mo F Lx p0 p1 p2 p3 = (0 : Int32) from by unfold th_X8_nextField; rw [if_neg c1, if_neg c2, if_neg c3]]; exact ⟨hO7, ⟨Z, hL7⟩, hF8⟩)⟩ dX8_nextField_54
      · refine lv_aload_n hx hb dX8_nextField_39 rfl (lv_at hl 0 rfl) ?_
        refine lv_iconst (v := (2 : Int32)) hx hb dX8_nextField_40 (by decide) ?_
        refine g_callVi (n9 := 1) (As := [.int (2 : Int32)]) (rest := []) hx hb hml hl.1 hown hts hK hM (c_X8_no l G _ ma tx (0 : Int32) pr mo h0 fa lb (2 : Int32) hO1.1) wm_X8_49 wi_X8_no wl_X8_no wn_X8 wc_X8_no (by decide +kernel) (hM.recv hK (ci := 9) rfl hO1.1) ⟨Nat.le_of_ble_eq_true rfl, Nat.le_of_ble_eq_true rfl⟩ ⟨Nat.zero_le _, Nat.zero_le _⟩ rfl (Nat.le_of_ble_eq_true rfl) rfl dX8_nextField_41 (fun r_41 M9 H locs hq hM => ?_)
        obtain ⟨er, eM9⟩ := hq
        subst er
        replace hM := hM.eq eM9
        obtain ⟨M2, eM2⟩ : ∃ z, z = hu M1 ma tx (.inr (9, [.int (2 : Int32), .ref h0, .ref fa, .ref lb, .int pr, .int mo])) := ⟨_, rfl⟩
        replace hM : Wd G M2 s H locs := hM.eq eM2.symm
        have hO2 : XdR G M2 tx ma h0 fa lb (2 : Int32) pr mo F Lx := by rw [eM2]; exact hO1.setO (2 : Int32) pr mo
        have hL2 : MdR G M2 t h0 Z N U now := by rw [eM2]; exact hL1.frame (Ne.symm d1) (Fr.up hO1.1)
        have hF2 : F3 tx t t2 M M2 := by rw [eM2]; exact F3.tr hF1 (F3.up hO1.1 (Or.inr (Or.inl rfl)))
        exact g_iret hx hb hr hlocks hM (Nat.zero_le _) (Nat.zero_le _) ⟨(by unfold q_X8_nextField; rw [if_neg c1, if_neg c2, if_pos c3]), (by rw [show th_X8_nextField N U now th pr mo F Lx p0 p1 p2 p3 = (2 : Int32) from by unfold th_X8_nextField; rw [if_neg c1, if_neg c2, if_pos c3]]; exact ⟨hO2, ⟨Z, hL2⟩, hF2⟩)⟩ dX8_nextField_44
  · refine lv_aload_n hx hb dX8_nextField_13 rfl (lv_at hl 0 rfl) ?_
    refine lv_iconst (v := (1 : Int32)) hx hb dX8_nextField_14 (by decide) ?_
    refine g_callVi (n9 := 1) (As := [.int (1 : Int32)]) (rest := []) hx hb hml hl.1 hown hts hK hM (c_X8_no l G _ ma tx (0 : Int32) pr mo h0 fa lb (1 : Int32) hO1.1) wm_X8_49 wi_X8_no wl_X8_no wn_X8 wc_X8_no (by decide +kernel) (hM.recv hK (ci := 9) rfl hO1.1) ⟨Nat.le_of_ble_eq_true rfl, Nat.le_of_ble_eq_true rfl⟩ ⟨Nat.zero_le _, Nat.zero_le _⟩ rfl (Nat.le_of_ble_eq_true rfl) rfl dX8_nextField_15 (fun r_15 M9 H locs hq hM => ?_)
    obtain ⟨er, eM9⟩ := hq
    subst er
    replace hM := hM.eq eM9
    obtain ⟨M2, eM2⟩ : ∃ z, z = hu M1 ma tx (.inr (9, [.int (1 : Int32), .ref h0, .ref fa, .ref lb, .int pr, .int mo])) := ⟨_, rfl⟩
    replace hM : Wd G M2 s H locs := hM.eq eM2.symm
    have hO2 : XdR G M2 tx ma h0 fa lb (1 : Int32) pr mo F Lx := by rw [eM2]; exact hO1.setO (1 : Int32) pr mo
    have hL2 : MdR G M2 t h0 Z N U now := by rw [eM2]; exact hL1.frame (Ne.symm d1) (Fr.up hO1.1)
    have hF2 : F3 tx t t2 M M2 := by rw [eM2]; exact F3.tr hF1 (F3.up hO1.1 (Or.inr (Or.inl rfl)))
    exact g_iret hx hb hr hlocks hM (Nat.zero_le _) (Nat.zero_le _) ⟨(by unfold q_X8_nextField; rw [if_pos c1]), (by rw [show th_X8_nextField N U now th pr mo F Lx p0 p1 p2 p3 = (1 : Int32) from by unfold th_X8_nextField; rw [if_pos c1]]; exact ⟨hO2, ⟨Z, hL2⟩, hF2⟩)⟩ dX8_nextField_18

/-- a row of a field behind so many hours from now on -/
def rhR (now w a r : Int32) : Nat → Row → Row
  | 0, f => f
  | h + 1, f => rpR (clk (now + nI (h + 1))) w a r (rhR now w a r h f)
def ftR (f : Row) (cl : Int32) : Prop := ¬ f 4 < (80 : Int32) ∧ ¬ (20 : Int32) ≤ f 5 ∧ ¬ cl < (8 : Int32)
/-- behind how many hours it is ready: so many to look at, from the hour h -/
def rnR (now w a : Int32) (f : Row) : Nat → Nat → Int32
  | 0, _ => -1
  | n + 1, h => if (rhR now w a 0 h f) 4 < (80 : Int32) then rnR now w a f n (h + 1) else if (20 : Int32) ≤ (rhR now w a 0 h f) 5 then rnR now w a f n (h + 1) else if clk (now + nI h) < (8 : Int32) then rnR now w a f n (h + 1) else nI h
theorem rpR_h {now w a r : Int32} {f : Row} {h : Nat} (hp : 0 < h) : rpR (clk (now + nI h)) w a r (rhR now w a r (h - 1) f) = rhR now w a r h f := by
  obtain ⟨k, rfl⟩ := Nat.exists_eq_add_of_le hp
  rw [Nat.add_comm 1 k, Nat.add_sub_cancel]
  rfl
def q_X8_readyNow (N : Nat → Nat) (U : Tb) (now th pr mo : Int32) (F Lx : Row) (p0 p1 p2 : Int32) : Int32 := (rnR now p1 p2 (U 0 (ix p0)) 97 0)
set_option maxHeartbeats 4000000 in
set_option maxRecDepth 100000 in
theorem c_X8_readyNow (l : Launch) (G : GG) (M : HM) (tx ma h0 fa lb t t2 : Nat) (Z : LZ) (N : Nat → Nat) (U : Tb) (now th pr mo : Int32) (F Lx : Row) (p0 p1 p2 : Int32) (hO : XdR G M tx ma h0 fa lb th pr mo F Lx) (hL : MdR G M t h0 Z N U now) (d1 : tx ≠ t) (d2 : tx ≠ t2) (d3 : t ≠ t2)  (hf : ¬ p0 < 0 ∧ ix p0 < N 0) : Mi l yX8_readyNow (.code yX8_readyNow cX8_readyNow 7 (some .int) :: AL) 2 68 1 11 [.ref ma, .int p0, .int p1, .int p2] G M (fun r M' => r = (q_X8_readyNow N U now th pr mo F Lx p0 p1 p2) ∧ Fr t2 M M') := by
  refine Mi.go (by decide) (Nat.le_of_ble_eq_true rfl) ?_
  intro p e s m below meth c ls hx hb hr hml hown hlocks hname hts hK hM hl
  have hown : s.vm.findClass RX8 = some m.cls := hown
  have hl : lv_has ls 7 [(0, .ref ma), (1, .int p0), (2, .int p1), (3, .int p2)] := hl
  have hn0 := hL.cnt (k := 0) (by decide)
  have hn09 : N 0 ≤ 8 := by have : N 0 ≤ 8 := hn0; omega
  have hn1 := hL.cnt (k := 1) (by decide)
  have hn19 : N 1 ≤ 8 := by have : N 1 ≤ 4 := hn1; omega
  have hn2 := hL.cnt (k := 2) (by decide)
  have hn29 : N 2 ≤ 8 := by have : N 2 ≤ 4 := hn2; omega
  have hn3 := hL.cnt (k := 3) (by decide)
  have hn39 : N 3 ≤ 8 := by have : N 3 ≤ 3 := hn3; omega
  refine lv_bipush (v := (11 : Int32)) hx hb dX8_readyNow_0 (by decide) ?_
  refine g_newI hx hb hK hM hts 11 (by decide) (by decide) (by decide) t2 (Nat.le_of_ble_eq_true rfl) (Nat.le_of_ble_eq_true rfl) dX8_readyNow_2 (fun q0 H hq0 hM => ?_)
  rw [rw11_0] at hM
  refine lv_astore (lv' := [(4, .ref q0), (0, .ref ma), (1, .int p0), (2, .int p1), (3, .int p2)]) hx hb dX8_readyNow_4 hl (by decide) rfl (fun ls hl => ?_)
  refine lv_aload_n hx hb dX8_readyNow_6 rfl (lv_at hl 1 rfl) ?_
  refine fg_X8_10 hx hb hts hown hK hM (hu_n (hu_ne hO.1 hq0 (by simp)) hO.1) dX8_readyNow_7 ?_
  refine fg_X8_57 hx hb hts hown hK hM (hu_n (hu_ne hL.1 hq0 (by simp)) hL.1) dX8_readyNow_10 ?_
  refine lv_iload_n hx hb dX8_readyNow_13 rfl (lv_at hl 2 rfl) ?_
  refine g_aaldR hx hb hK hM (hu_n (hu_ne (hL.outer (k := 0) (by decide)) hq0 (by simp)) (hL.outer (k := 0) (by decide))) hf.1 (Nat.lt_of_lt_of_le hf.2 hn0) dX8_readyNow_14 ?_
  refine lv_iconst (v := (0 : Int32)) hx hb dX8_readyNow_15 (by decide) ?_
  refine lv_aload hx hb dX8_readyNow_16 (lv_at hl 0 rfl) ?_
  refine lv_iconst (v := (0 : Int32)) hx hb dX8_readyNow_18 (by decide) ?_
  refine lv_bipush (v := (11 : Int32)) hx hb dX8_readyNow_19 (by decide) ?_
  refine g_copyR hx hb (hml.trans hl.1.symm) hts hown hK hM wm_X8_61 0 (by decide) (f := U 0 (ix p0)) (g := rw11 0 0 0 0 0 0 0 0 0 0 0) (hu_n (hu_ne (hL.row (k := 0) (by decide) (Nat.lt_of_lt_of_le hf.2 hn0)) hq0 (by simp)) (hL.row (k := 0) (by decide) (Nat.lt_of_lt_of_le hf.2 hn0))) hu_s (by decide) (by decide) (Nat.le_of_ble_eq_true rfl) (Nat.le_of_ble_eq_true rfl) dX8_readyNow_21 (fun H locs hM => ?_)
  replace hM := hM.eq (hu_u _ _ _ _ _ _)
  obtain ⟨M1, eM1⟩ : ∃ z, z = hu M q0 t2 (eR G 0 (U 0 (ix p0))) := ⟨_, rfl⟩
  rw [← eM1] at hM
  have hF1 : Fr t2 M M1 := by rw [eM1]; exact Fr.new hq0
  have hq1 : M1 q0 = some (t2, eR G 0 (U 0 (ix p0))) := by rw [eM1]; exact hu_s
  refine lv_iconst (v := (0 : Int32)) hx hb dX8_readyNow_24 (by decide) ?_
  refine lv_istore (lv' := [(5, .int (0 : Int32)), (4, .ref q0), (0, .ref ma), (1, .int p0), (2, .int p1), (3, .int p2)]) hx hb dX8_readyNow_25 hl (by decide) rfl (fun ls hl => ?_)
  have L27 : ∀ (n h : Nat), h + n = 97 → rnR now p1 p2 (U 0 (ix p0)) n h = (rnR now p1 p2 (U 0 (ix p0)) 97 0) → ∀ (M5 : HM) (f5 : Row) (H : Heap) (locs : List Loc) (ls : Array Slot), f5 = rhR now p1 p2 0 (h - 1) (U 0 (ix p0)) → M5 q0 = some (t2, eR G 0 f5) → Fr t2 M M5 → Wd G M5 s H locs → lv_has ls 7 [(5, .int (nI h)), (4, .ref q0), (0, .ref ma), (1, .int p0), (2, .int p1), (3, .int p2)] → W p l e ({ frames := 2, cells := 1, slots := 11, locals := 68 } : Room) s m [.ref ma, .int p0, .int p1, .int p2].toArray below meth c H locs 1 11 (MQ below (va_Qi (fun r M' => r = (q_X8_readyNow N U now th pr mo F Lx p0 p1 p2) ∧ Fr t2 M M') (gB G) (gA G)) [.ref ma, .int p0, .int p1, .int p2].toArray s 1 11 (gA G)) (F0 m 27 ls []) := by
    intro n
    induction n with
    | zero =>
      intro h h1 h9 M5 f5 H locs ls ef hq5 hF5 hM hl
      refine lv_iload hx hb dX8_readyNow_27 (lv_at hl 0 rfl) ?_
      refine lv_bipush (v := (96 : Int32)) hx hb dX8_readyNow_29 (by decide) ?_
      refine lv_icmp_gt (tgt := 98) hx hb dX8_readyNow_31 (by decide) (fun c1 => ?_) (fun c1 => ?_)
      · refine lv_iconst (v := (-1 : Int32)) hx hb dX8_readyNow_98 (by decide) ?_
        exact g_iret hx hb hr hlocks hM (Nat.le_of_ble_eq_true rfl) (Nat.le_of_ble_eq_true rfl) ⟨by show -1 = (rnR now p1 p2 (U 0 (ix p0)) 97 0); rw [← h9]; rfl, hF5⟩ dX8_readyNow_99
      · exact absurd (show (96 : Int32) < nI h from (nI_ltI (a := 96) (b := h) (by decide) (by omega)).mpr (by omega)) c1
    | succ n ih =>
      intro h h1 h9 M5 f5 H locs ls ef hq5 hF5 hM hl
      refine lv_iload hx hb dX8_readyNow_27 (lv_at hl 0 rfl) ?_
      refine lv_bipush (v := (96 : Int32)) hx hb dX8_readyNow_29 (by decide) ?_
      refine lv_icmp_gt (tgt := 98) hx hb dX8_readyNow_31 (by decide) (fun c2 => ?_) (fun c2 => ?_)
      · exact absurd c2 (fun z => by have := (nI_ltI (a := 96) (b := h) (by decide) (by omega)).mp z; omega)
      · refine lv_aload_n hx hb dX8_readyNow_34 rfl (lv_at hl 2 rfl) ?_
        refine fg_X8_10 hx hb hts hown hK hM (hO.frame d2 hF5).1 dX8_readyNow_35 ?_
        refine fg_X8_107 hx hb hts hown hK hM (hL.frame d3 hF5).1 dX8_readyNow_38 ?_
        refine lv_iload hx hb dX8_readyNow_41 (lv_at hl 0 rfl) ?_
        refine lv_iadd hx hb dX8_readyNow_43 ?_
        refine lv_bipush (v := (24 : Int32)) hx hb dX8_readyNow_44 (by decide) ?_
        refine lv_irem hx hb dX8_readyNow_46 (by decide) ?_
        refine lv_istore (lv' := [(6, .int ((now + (nI h)) - (now + (nI h)) / (24 : Int32) * (24 : Int32))), (5, .int (nI h)), (4, .ref q0), (0, .ref ma), (1, .int p0), (2, .int p1), (3, .int p2)]) hx hb dX8_readyNow_47 hl (by decide) rfl (fun ls hl => ?_)
        refine lv_iload hx hb dX8_readyNow_49 (lv_at hl 1 rfl) ?_
        have J64 : ∀ (M6 : HM) (H : Heap) (locs : List Loc) (ls : Array Slot), M6 q0 = some (t2, eR G 0 (rhR now p1 p2 0 h (U 0 (ix p0)))) → Fr t2 M M6 → Wd G M6 s H locs → lv_has ls 7 [(6, .int (clk (now + nI h))), (5, .int (nI h)), (4, .ref q0), (0, .ref ma), (1, .int p0), (2, .int p1), (3, .int p2)] → W p l e ({ frames := 2, cells := 1, slots := 11, locals := 68 } : Room) s m [.ref ma, .int p0, .int p1, .int p2].toArray below meth c H locs 1 11 (MQ below (va_Qi (fun r M' => r = (q_X8_readyNow N U now th pr mo F Lx p0 p1 p2) ∧ Fr t2 M M') (gB G) (gA G)) [.ref ma, .int p0, .int p1, .int p2].toArray s 1 11 (gA G)) (F0 m 64 ls []) := by
          intro M6 H locs ls hq6 hF6 hM hl
          obtain ⟨f6, ef6⟩ : ∃ z, z = rhR now p1 p2 0 h (U 0 (ix p0)) := ⟨_, rfl⟩
          rw [← ef6] at hq6
          have h8 : (if f6 4 < (80 : Int32) then rnR now p1 p2 (U 0 (ix p0)) n (h + 1) else if (20 : Int32) ≤ f6 5 then rnR now p1 p2 (U 0 (ix p0)) n (h + 1) else if clk (now + nI h) < (8 : Int32) then rnR now p1 p2 (U 0 (ix p0)) n (h + 1) else nI h) = (rnR now p1 p2 (U 0 (ix p0)) 97 0) := by rw [ef6]; exact h9
          refine lv_aload hx hb dX8_readyNow_64 (lv_at hl 2 rfl) ?_
          refine lv_iconst (v := (4 : Int32)) hx hb dX8_readyNow_66 (by decide) ?_
          refine ia11_4 hx hb hK hM hq6 dX8_readyNow_67 ?_
          refine lv_bipush (v := (80 : Int32)) hx hb dX8_readyNow_68 (by decide) ?_
          refine lv_icmp_lt (tgt := 92) hx hb dX8_readyNow_70 (by decide) (fun c3 => ?_) (fun c3 => ?_)
          · refine lv_iinc (v := (nI (h + 1))) (lv' := [(5, .int (nI (h + 1))), (6, .int (clk (now + nI h))), (4, .ref q0), (0, .ref ma), (1, .int p0), (2, .int p1), (3, .int p2)]) hx hb dX8_readyNow_92 hl (k := 1) rfl (nI_1 h) (by decide) rfl (fun ls hl => ?_)
            refine lv_goto (tgt := 27) hx hb dX8_readyNow_95 (by decide) ?_
            rw [if_pos c3] at h8
            exact ih (h + 1) (by omega) h8 M6 f6 _ _ _ (by rw [ef6]; rfl) hq6 hF6 hM (lv_sub hl [0, 2, 3, 4, 5, 6] rfl)
          · refine lv_aload hx hb dX8_readyNow_73 (lv_at hl 2 rfl) ?_
            refine lv_iconst (v := (5 : Int32)) hx hb dX8_readyNow_75 (by decide) ?_
            refine ia11_5 hx hb hK hM hq6 dX8_readyNow_76 ?_
            refine lv_bipush (v := (20 : Int32)) hx hb dX8_readyNow_77 (by decide) ?_
            refine lv_icmp_ge (tgt := 92) hx hb dX8_readyNow_79 (by decide) (fun c4 => ?_) (fun c4 => ?_)
            · refine lv_iinc (v := (nI (h + 1))) (lv' := [(5, .int (nI (h + 1))), (6, .int (clk (now + nI h))), (4, .ref q0), (0, .ref ma), (1, .int p0), (2, .int p1), (3, .int p2)]) hx hb dX8_readyNow_92 hl (k := 1) rfl (nI_1 h) (by decide) rfl (fun ls hl => ?_)
              refine lv_goto (tgt := 27) hx hb dX8_readyNow_95 (by decide) ?_
              rw [if_neg c3, if_pos c4] at h8
              exact ih (h + 1) (by omega) h8 M6 f6 _ _ _ (by rw [ef6]; rfl) hq6 hF6 hM (lv_sub hl [0, 2, 3, 4, 5, 6] rfl)
            · refine lv_iload hx hb dX8_readyNow_82 (lv_at hl 0 rfl) ?_
              refine lv_bipush (v := (8 : Int32)) hx hb dX8_readyNow_84 (by decide) ?_
              refine lv_icmp_lt (tgt := 92) hx hb dX8_readyNow_86 (by decide) (fun c5 => ?_) (fun c5 => ?_)
              · refine lv_iinc (v := (nI (h + 1))) (lv' := [(5, .int (nI (h + 1))), (6, .int (clk (now + nI h))), (4, .ref q0), (0, .ref ma), (1, .int p0), (2, .int p1), (3, .int p2)]) hx hb dX8_readyNow_92 hl (k := 1) rfl (nI_1 h) (by decide) rfl (fun ls hl => ?_)
                refine lv_goto (tgt := 27) hx hb dX8_readyNow_95 (by decide) ?_
                rw [if_neg c3, if_neg c4, if_pos c5] at h8
                exact ih (h + 1) (by omega) h8 M6 f6 _ _ _ (by rw [ef6]; rfl) hq6 hF6 hM (lv_sub hl [0, 2, 3, 4, 5, 6] rfl)
              · refine lv_iload hx hb dX8_readyNow_89 (lv_at hl 1 rfl) ?_
                rw [if_neg c3, if_neg c4, if_neg c5] at h8
                exact g_iret hx hb hr hlocks hM (Nat.le_of_ble_eq_true rfl) (Nat.le_of_ble_eq_true rfl) ⟨h8, hF6⟩ dX8_readyNow_91
        refine lv_if_le (tgt := 64) hx hb dX8_readyNow_51 (by decide) (fun c6 => ?_) (fun c6 => ?_)
        · have hz : h = 0 := by rcases Nat.eq_zero_or_pos h with z | z; (· exact z); (· exact absurd (show (0 : Int32) < nI h from (nI_ltI (a := 0) (b := h) (by decide) (by omega)).mpr z) (Int32.not_lt.mpr c6))
          exact J64 M5 _ _ _ (by rw [hq5, ef, hz]) hF5 hM (lv_sub hl [0, 1, 2, 3, 4, 5, 6] rfl)
        · have hp : 0 < h := by rcases Nat.eq_zero_or_pos h with z | z; (· subst z; exact absurd c6 (by decide)); (· exact z)
          refine lv_aload hx hb dX8_readyNow_54 (lv_at hl 2 rfl) ?_
          refine lv_iload hx hb dX8_readyNow_56 (lv_at hl 0 rfl) ?_
          refine lv_iload_n hx hb dX8_readyNow_58 rfl (lv_at hl 5 rfl) ?_
          refine lv_iload_n hx hb dX8_readyNow_59 rfl (lv_at hl 6 rfl) ?_
          refine lv_iconst (v := (0 : Int32)) hx hb dX8_readyNow_60 (by decide) ?_
          refine g_callSv (n9 := 5) (As := [.ref q0, .int ((now + (nI h)) - (now + (nI h)) / (24 : Int32) * (24 : Int32)), .int p1, .int p2, .int (0 : Int32)]) (rest := []) hx hb hml hl.1 hown hts hK hM (c_X7_ripen l G _ q0 t2 (f5 0) (f5 1) (f5 2) (f5 3) (f5 4) (f5 5) (f5 6) (f5 7) (f5 8) (f5 9) (f5 10) ((now + (nI h)) - (now + (nI h)) / (24 : Int32) * (24 : Int32)) p1 p2 (0 : Int32) hq5) wm_X8_148 wt_X7_ripen wn_X7 wc_X7_ripen (by decide +kernel) ⟨Nat.le_of_ble_eq_true rfl, Nat.le_of_ble_eq_true rfl⟩ ⟨Nat.le_of_ble_eq_true rfl, Nat.le_of_ble_eq_true rfl⟩ rfl (Nat.le_of_ble_eq_true rfl) rfl dX8_readyNow_61 (fun M1 H locs hq hM => ?_)
          replace hq := hq.symm
          subst hq
          refine J64 _ _ _ _ (hu_s.trans ?_) (Fr.tr hF5 (Fr.up hq5)) hM (lv_sub hl [0, 1, 2, 3, 4, 5, 6] rfl)
          rw [← rpR_h hp, ← ef]; rfl
  exact L27 97 0 rfl rfl M1 (U 0 (ix p0)) _ _ _ rfl hq1 hF1 hM (lv_sub hl [0, 1, 2, 3, 4, 5] rfl)
def q_X8_waitingNow (N : Nat → Nat) (U : Tb) (now th pr mo : Int32) (F Lx : Row) (p0 p1 p2 p3 p4 : Int32) : Int32 := (((rhR now p2 p3 p4 (ix p1) (U 0 (ix p0))) 2 - (rhR now p2 p3 p4 (ix p1) (U 0 (ix p0))) 3) * ((t_X7_brings_0 ((U 0 (ix p0)) 6) ((U 0 (ix p0)) 9)) - (t_X7_brings_0 ((rhR now p2 p3 p4 (ix p1) (U 0 (ix p0))) 6) ((rhR now p2 p3 p4 (ix p1) (U 0 (ix p0))) 9))))
set_option maxHeartbeats 4000000 in
set_option maxRecDepth 100000 in
theorem c_X8_waitingNow (l : Launch) (G : GG) (M : HM) (tx ma h0 fa lb t t2 : Nat) (Z : LZ) (N : Nat → Nat) (U : Tb) (now th pr mo : Int32) (F Lx : Row) (p0 p1 p2 p3 p4 : Int32) (hO : XdR G M tx ma h0 fa lb th pr mo F Lx) (hL : MdR G M t h0 Z N U now) (d1 : tx ≠ t) (d2 : tx ≠ t2) (d3 : t ≠ t2)  (hf : ¬ p0 < 0 ∧ ix p0 < N 0) (hp1 : ¬ p1 < 0) (hp48 : ix p1 ≤ 48) : Mi l yX8_waitingNow (.code yX8_waitingNow cX8_waitingNow 9 (some .int) :: AL) 2 68 1 11 [.ref ma, .int p0, .int p1, .int p2, .int p3, .int p4] G M (fun r M' => r = (q_X8_waitingNow N U now th pr mo F Lx p0 p1 p2 p3 p4) ∧ Fr t2 M M') := by
  refine Mi.go (by decide) (Nat.le_of_ble_eq_true rfl) ?_
  intro p e s m below meth c ls hx hb hr hml hown hlocks hname hts hK hM hl
  have hown : s.vm.findClass RX8 = some m.cls := hown
  have hl : lv_has ls 9 [(0, .ref ma), (1, .int p0), (2, .int p1), (3, .int p2), (4, .int p3), (5, .int p4)] := hl
  have hn0 := hL.cnt (k := 0) (by decide)
  have hn09 : N 0 ≤ 8 := by have : N 0 ≤ 8 := hn0; omega
  have hn1 := hL.cnt (k := 1) (by decide)
  have hn19 : N 1 ≤ 8 := by have : N 1 ≤ 4 := hn1; omega
  have hn2 := hL.cnt (k := 2) (by decide)
  have hn29 : N 2 ≤ 8 := by have : N 2 ≤ 4 := hn2; omega
  have hn3 := hL.cnt (k := 3) (by decide)
  have hn39 : N 3 ≤ 8 := by have : N 3 ≤ 3 := hn3; omega
  refine lv_bipush (v := (11 : Int32)) hx hb dX8_waitingNow_0 (by decide) ?_
  refine g_newI hx hb hK hM hts 11 (by decide) (by decide) (by decide) t2 (Nat.le_of_ble_eq_true rfl) (Nat.le_of_ble_eq_true rfl) dX8_waitingNow_2 (fun q0 H hq0 hM => ?_)
  rw [rw11_0] at hM
  refine lv_astore (lv' := [(6, .ref q0), (0, .ref ma), (1, .int p0), (2, .int p1), (3, .int p2), (4, .int p3), (5, .int p4)]) hx hb dX8_waitingNow_4 hl (by decide) rfl (fun ls hl => ?_)
  refine lv_aload_n hx hb dX8_waitingNow_6 rfl (lv_at hl 1 rfl) ?_
  refine fg_X8_10 hx hb hts hown hK hM (hu_n (hu_ne hO.1 hq0 (by simp)) hO.1) dX8_waitingNow_7 ?_
  refine fg_X8_57 hx hb hts hown hK hM (hu_n (hu_ne hL.1 hq0 (by simp)) hL.1) dX8_waitingNow_10 ?_
  refine lv_iload_n hx hb dX8_waitingNow_13 rfl (lv_at hl 2 rfl) ?_
  refine g_aaldR hx hb hK hM (hu_n (hu_ne (hL.outer (k := 0) (by decide)) hq0 (by simp)) (hL.outer (k := 0) (by decide))) hf.1 (Nat.lt_of_lt_of_le hf.2 hn0) dX8_waitingNow_14 ?_
  refine lv_iconst (v := (0 : Int32)) hx hb dX8_waitingNow_15 (by decide) ?_
  refine lv_aload hx hb dX8_waitingNow_16 (lv_at hl 0 rfl) ?_
  refine lv_iconst (v := (0 : Int32)) hx hb dX8_waitingNow_18 (by decide) ?_
  refine lv_bipush (v := (11 : Int32)) hx hb dX8_waitingNow_19 (by decide) ?_
  refine g_copyR hx hb (hml.trans hl.1.symm) hts hown hK hM wm_X8_61 0 (by decide) (f := U 0 (ix p0)) (g := rw11 0 0 0 0 0 0 0 0 0 0 0) (hu_n (hu_ne (hL.row (k := 0) (by decide) (Nat.lt_of_lt_of_le hf.2 hn0)) hq0 (by simp)) (hL.row (k := 0) (by decide) (Nat.lt_of_lt_of_le hf.2 hn0))) hu_s (by decide) (by decide) (Nat.le_of_ble_eq_true rfl) (Nat.le_of_ble_eq_true rfl) dX8_waitingNow_21 (fun H locs hM => ?_)
  replace hM := hM.eq (hu_u _ _ _ _ _ _)
  obtain ⟨M1, eM1⟩ : ∃ z, z = hu M q0 t2 (eR G 0 (U 0 (ix p0))) := ⟨_, rfl⟩
  rw [← eM1] at hM
  have hF1 : Fr t2 M M1 := by rw [eM1]; exact Fr.new hq0
  have hq1 : M1 q0 = some (t2, eR G 0 (U 0 (ix p0))) := by rw [eM1]; exact hu_s
  refine lv_aload hx hb dX8_waitingNow_24 (lv_at hl 0 rfl) ?_
  refine g_callSi (n9 := 1) (As := [.ref q0]) (rest := []) hx hb hml hl.1 hown hts hK hM (c_X7_brings l G _ q0 t2 ((U 0 (ix p0)) 0) ((U 0 (ix p0)) 1) ((U 0 (ix p0)) 2) ((U 0 (ix p0)) 3) ((U 0 (ix p0)) 4) ((U 0 (ix p0)) 5) ((U 0 (ix p0)) 6) ((U 0 (ix p0)) 7) ((U 0 (ix p0)) 8) ((U 0 (ix p0)) 9) ((U 0 (ix p0)) 10) hq1) wm_X8_162 wt_X7_brings wn_X7 wc_X7_brings (by decide +kernel) ⟨Nat.le_of_ble_eq_true rfl, Nat.le_of_ble_eq_true rfl⟩ ⟨Nat.le_of_ble_eq_true rfl, Nat.le_of_ble_eq_true rfl⟩ rfl (Nat.le_of_ble_eq_true rfl) rfl dX8_waitingNow_26 (fun r_26 M1 H locs hq hM => ?_)
  have hq1 := hq.1.symm
  have hq2 := hq.2.symm
  subst hq1 hq2
  refine lv_istore (lv' := [(7, .int (t_X7_brings_0 ((U 0 (ix p0)) 6) ((U 0 (ix p0)) 9))), (6, .ref q0), (0, .ref ma), (1, .int p0), (2, .int p1), (3, .int p2), (4, .int p3), (5, .int p4)]) hx hb dX8_waitingNow_29 hl (by decide) rfl (fun ls hl => ?_)
  refine lv_iconst (v := (1 : Int32)) hx hb dX8_waitingNow_31 (by decide) ?_
  refine lv_istore (lv' := [(8, .int (1 : Int32)), (7, .int (t_X7_brings_0 ((U 0 (ix p0)) 6) ((U 0 (ix p0)) 9))), (6, .ref q0), (0, .ref ma), (1, .int p0), (2, .int p1), (3, .int p2), (4, .int p3), (5, .int p4)]) hx hb dX8_waitingNow_32 hl (by decide) rfl (fun ls hl => ?_)
  have L34 : ∀ (n h : Nat), 1 ≤ h → h ≤ ix p1 + 1 → ix p1 + 1 - h < n → ∀ (M5 : HM) (f5 : Row) (H : Heap) (locs : List Loc) (ls : Array Slot), f5 = rhR now p2 p3 p4 (h - 1) (U 0 (ix p0)) → M5 q0 = some (t2, eR G 0 f5) → Fr t2 M M5 → Wd G M5 s H locs → lv_has ls 9 [(8, .int (nI h)), (7, .int (t_X7_brings_0 ((U 0 (ix p0)) 6) ((U 0 (ix p0)) 9))), (6, .ref q0), (0, .ref ma), (1, .int p0), (2, .int p1), (3, .int p2), (4, .int p3), (5, .int p4)] → W p l e ({ frames := 2, cells := 1, slots := 11, locals := 68 } : Room) s m [.ref ma, .int p0, .int p1, .int p2, .int p3, .int p4].toArray below meth c H locs 1 11 (MQ below (va_Qi (fun r M' => r = (q_X8_waitingNow N U now th pr mo F Lx p0 p1 p2 p3 p4) ∧ Fr t2 M M') (gB G) (gA G)) [.ref ma, .int p0, .int p1, .int p2, .int p3, .int p4].toArray s 1 11 (gA G)) (F0 m 34 ls []) := by
    intro n
    induction n with
    | zero => intro h h0 h1 h9; omega
    | succ n ih =>
      intro h h0 h1 h9 M5 f5 H locs ls ef hq5 hF5 hM hl
      have ep : p1 = nI (ix p1) := (ix_nI hp1).1
      refine lv_iload hx hb dX8_waitingNow_34 (lv_at hl 0 rfl) ?_
      refine lv_iload_n hx hb dX8_waitingNow_36 rfl (lv_at hl 5 rfl) ?_
      refine lv_icmp_gt (tgt := 69) hx hb dX8_waitingNow_37 (by decide) (fun c1 => ?_) (fun c1 => ?_)
      · have hi : h = ix p1 + 1 := by
          have z := c1
          rw [ep] at z
          have := (nI_ltI (by omega) (by omega)).mp z
          omega
        have e9 : f5 = (rhR now p2 p3 p4 (ix p1) (U 0 (ix p0))) := by rw [ef, hi]; rfl
        refine lv_aload hx hb dX8_waitingNow_69 (lv_at hl 2 rfl) ?_
        refine lv_iconst (v := (2 : Int32)) hx hb dX8_waitingNow_71 (by decide) ?_
        refine ia11_2 hx hb hK hM hq5 dX8_waitingNow_72 ?_
        refine lv_aload hx hb dX8_waitingNow_73 (lv_at hl 2 rfl) ?_
        refine lv_iconst (v := (3 : Int32)) hx hb dX8_waitingNow_75 (by decide) ?_
        refine ia11_3 hx hb hK hM hq5 dX8_waitingNow_76 ?_
        refine lv_isub hx hb dX8_waitingNow_77 ?_
        refine lv_iload hx hb dX8_waitingNow_78 (lv_at hl 1 rfl) ?_
        refine lv_aload hx hb dX8_waitingNow_80 (lv_at hl 2 rfl) ?_
        refine g_callSi (n9 := 1) (As := [.ref q0]) (rest := [.int (t_X7_brings_0 ((U 0 (ix p0)) 6) ((U 0 (ix p0)) 9)), .int ((f5 2) - (f5 3))]) hx hb hml hl.1 hown hts hK hM (c_X7_brings l G _ q0 t2 (f5 0) (f5 1) (f5 2) (f5 3) (f5 4) (f5 5) (f5 6) (f5 7) (f5 8) (f5 9) (f5 10) hq5) wm_X8_162 wt_X7_brings wn_X7 wc_X7_brings (by decide +kernel) ⟨Nat.le_of_ble_eq_true rfl, Nat.le_of_ble_eq_true rfl⟩ ⟨Nat.le_of_ble_eq_true rfl, Nat.le_of_ble_eq_true rfl⟩ rfl (Nat.le_of_ble_eq_true rfl) rfl dX8_waitingNow_82 (fun r_82 M1 H locs hq hM => ?_)
        have hq1 := hq.1.symm
        have hq2 := hq.2.symm
        subst hq1 hq2
        refine lv_isub hx hb dX8_waitingNow_85 ?_
        refine lv_imul hx hb dX8_waitingNow_86 ?_
        exact g_iret hx hb hr hlocks hM (Nat.le_of_ble_eq_true rfl) (Nat.le_of_ble_eq_true rfl) ⟨by rw [e9]; rfl, hF5⟩ dX8_waitingNow_87
      · have hi : h ≤ ix p1 := by
          rcases Nat.lt_or_ge (ix p1) h with z | z
          · exact absurd (by rw [ep]; exact (nI_ltI (by omega) (by omega)).mpr z) c1
          · exact z
        refine lv_aload hx hb dX8_waitingNow_40 (lv_at hl 2 rfl) ?_
        refine lv_aload_n hx hb dX8_waitingNow_42 rfl (lv_at hl 3 rfl) ?_
        refine fg_X8_10 hx hb hts hown hK hM (hO.frame d2 hF5).1 dX8_waitingNow_43 ?_
        refine fg_X8_107 hx hb hts hown hK hM (hL.frame d3 hF5).1 dX8_waitingNow_46 ?_
        refine lv_iload hx hb dX8_waitingNow_49 (lv_at hl 0 rfl) ?_
        refine lv_iadd hx hb dX8_waitingNow_51 ?_
        refine lv_bipush (v := (24 : Int32)) hx hb dX8_waitingNow_52 (by decide) ?_
        refine lv_irem hx hb dX8_waitingNow_54 (by decide) ?_
        refine lv_iload_n hx hb dX8_waitingNow_55 rfl (lv_at hl 6 rfl) ?_
        refine lv_iload hx hb dX8_waitingNow_56 (lv_at hl 7 rfl) ?_
        refine lv_iload hx hb dX8_waitingNow_58 (lv_at hl 8 rfl) ?_
        refine g_callSv (n9 := 5) (As := [.ref q0, .int ((now + (nI h)) - (now + (nI h)) / (24 : Int32) * (24 : Int32)), .int p2, .int p3, .int p4]) (rest := []) hx hb hml hl.1 hown hts hK hM (c_X7_ripen l G _ q0 t2 (f5 0) (f5 1) (f5 2) (f5 3) (f5 4) (f5 5) (f5 6) (f5 7) (f5 8) (f5 9) (f5 10) ((now + (nI h)) - (now + (nI h)) / (24 : Int32) * (24 : Int32)) p2 p3 p4 hq5) wm_X8_148 wt_X7_ripen wn_X7 wc_X7_ripen (by decide +kernel) ⟨Nat.le_of_ble_eq_true rfl, Nat.le_of_ble_eq_true rfl⟩ ⟨Nat.le_of_ble_eq_true rfl, Nat.le_of_ble_eq_true rfl⟩ rfl (Nat.le_of_ble_eq_true rfl) rfl dX8_waitingNow_60 (fun M1 H locs hq hM => ?_)
        replace hq := hq.symm
        subst hq
        refine lv_iinc (v := (nI (h + 1))) (lv' := [(8, .int (nI (h + 1))), (7, .int (t_X7_brings_0 ((U 0 (ix p0)) 6) ((U 0 (ix p0)) 9))), (6, .ref q0), (0, .ref ma), (1, .int p0), (2, .int p1), (3, .int p2), (4, .int p3), (5, .int p4)]) hx hb dX8_waitingNow_63 hl (k := 0) rfl (nI_1 h) (by decide) rfl (fun ls hl => ?_)
        refine lv_goto (tgt := 34) hx hb dX8_waitingNow_66 (by decide) ?_
        exact ih (h + 1) (by omega) (by omega) (by omega) _ (rhR now p2 p3 p4 h (U 0 (ix p0))) _ _ _ rfl (hu_s.trans (by rw [← rpR_h h0, ← ef]; rfl)) (Fr.tr hF5 (Fr.up hq5)) hM (lv_sub hl [0, 1, 2, 3, 4, 5, 6, 7, 8] rfl)
  exact L34 (ix p1 + 1) 1 (Nat.le_refl _) (by omega) (by omega) M1 (U 0 (ix p0)) _ _ _ rfl hq1 hF1 hM (lv_sub hl [0, 1, 2, 3, 4, 5, 6, 7, 8] rfl)
theorem in_48 {p : Int32} (h : ¬ t_X8_in_0 p 1 48 = 0) : ¬ p < 0 ∧ ix p ≤ 48 := by
  unfold t_X8_in_0 at h
  by_cases h1 : p < 1
  · rw [if_pos h1] at h
    exact absurd rfl h
  · rw [if_neg h1] at h
    by_cases h2 : (48 : Int32) < p
    · rw [if_pos h2] at h
      exact absurd rfl h
    · have h0 : ¬ p < 0 := fun z => h1 (Int32.lt_trans z (by decide))
      obtain ⟨e1, e2⟩ := ix_nI h0
      refine ⟨h0, ?_⟩
      rcases Nat.lt_or_ge 48 (ix p) with z | z
      · refine absurd ?_ h2
        rw [e1]
        exact (nI_ltI (a := 48) (b := ix p) (by decide) (by omega)).mpr z
      · exact z
def q_X8_readyIn (N : Nat → Nat) (U : Tb) (now th pr mo : Int32) (F Lx : Row) (p0 p1 p2 : Int32) : Int32 := if (t_X8_in_0 p0 (0 : Int32) ((nI (N 0)) - (1 : Int32))) = 0 then t_X8_no_0 else (if (t_X8_isWeather_0 p1 p2 (0 : Int32)) = 0 then t_X8_no_0 else (q_X8_readyNow N U now (0 : Int32) pr mo F Lx p0 p1 p2))
def th_X8_readyIn (N : Nat → Nat) (U : Tb) (now th pr mo : Int32) (F Lx : Row) (p0 p1 p2 : Int32) : Int32 := if (t_X8_in_0 p0 (0 : Int32) ((nI (N 0)) - (1 : Int32))) = 0 then (1 : Int32) else (if (t_X8_isWeather_0 p1 p2 (0 : Int32)) = 0 then (2 : Int32) else (0 : Int32))
set_option maxHeartbeats 4000000 in
set_option maxRecDepth 100000 in
theorem c_X8_readyIn (l : Launch) (G : GG) (M : HM) (tx ma h0 fa lb t t2 : Nat) (Z : LZ) (N : Nat → Nat) (U : Tb) (now th pr mo : Int32) (F Lx : Row) (p0 p1 p2 : Int32) (hO : XdR G M tx ma h0 fa lb th pr mo F Lx) (hL : MdR G M t h0 Z N U now) (d1 : tx ≠ t) (d2 : tx ≠ t2) (d3 : t ≠ t2)   : Mi l yX8_readyIn (.code yX8_readyIn cX8_readyIn 4 (some .int) :: AL) 3 94 1 11 [.ref ma, .int p0, .int p1, .int p2] G M (fun r M' => r = (q_X8_readyIn N U now th pr mo F Lx p0 p1 p2) ∧ XP G M M' tx ma h0 fa lb t t2 N U now (th_X8_readyIn N U now th pr mo F Lx p0 p1 p2) pr mo F Lx) := by
  refine Mi.go (by decide) (Nat.le_of_ble_eq_true rfl) ?_
  intro p e s m below meth c ls hx hb hr hml hown hlocks hname hts hK hM hl
  have hown : s.vm.findClass RX8 = some m.cls := hown
  have hl : lv_has ls 4 [(0, .ref ma), (1, .int p0), (2, .int p1), (3, .int p2)] := hl
  have hn0 := hL.cnt (k := 0) (by decide)
  have hn09 : N 0 ≤ 8 := by have : N 0 ≤ 8 := hn0; omega
  have hn1 := hL.cnt (k := 1) (by decide)
  have hn19 : N 1 ≤ 8 := by have : N 1 ≤ 4 := hn1; omega
  have hn2 := hL.cnt (k := 2) (by decide)
  have hn29 : N 2 ≤ 8 := by have : N 2 ≤ 4 := hn2; omega
  have hn3 := hL.cnt (k := 3) (by decide)
  have hn39 : N 3 ≤ 8 := by have : N 3 ≤ 3 := hn3; omega
  refine lv_aload_n hx hb dX8_readyIn_0 rfl (lv_at hl 0 rfl) ?_
  refine lv_iconst (v := (0 : Int32)) hx hb dX8_readyIn_1 (by decide) ?_
  refine fp_X8_30 hx hb hts hown hK hM hO.1 dX8_readyIn_2 (fun H locs hM => ?_)
  obtain ⟨M1, eM1⟩ : ∃ z, z = hu M ma tx (.inr (9, [.int (0 : Int32), .ref h0, .ref fa, .ref lb, .int pr, .int mo])) := ⟨_, rfl⟩
  replace hM : Wd G M1 s H locs := hM.eq eM1.symm
  have hO1 : XdR G M1 tx ma h0 fa lb (0 : Int32) pr mo F Lx := by rw [eM1]; exact hO.setO (0 : Int32) pr mo
  have hL1 : MdR G M1 t h0 Z N U now := by rw [eM1]; exact hL.frame (Ne.symm d1) (Fr.up hO.1)
  have hF1 : F3 tx t t2 M M1 := by rw [eM1]; exact F3.tr (F3.rf) (F3.up hO.1 (Or.inr (Or.inl rfl)))
  refine lv_aload_n hx hb dX8_readyIn_5 rfl (lv_at hl 0 rfl) ?_
  refine lv_iload_n hx hb dX8_readyIn_6 rfl (lv_at hl 1 rfl) ?_
  refine g_callVi (n9 := 1) (As := [.int p0]) (rest := []) hx hb hml hl.1 hown hts hK hM (c_X8_isField l G _ tx ma h0 fa lb t t2 Z N U now (0 : Int32) pr mo F Lx p0 hO1 hL1) wm_X8_67 wi_X8_isField wl_X8_isField wn_X8 wc_X8_isField (by decide +kernel) (hM.recv hK (ci := 9) rfl hO1.1) ⟨Nat.le_of_ble_eq_true rfl, Nat.le_of_ble_eq_true rfl⟩ ⟨Nat.le_of_ble_eq_true rfl, Nat.le_of_ble_eq_true rfl⟩ rfl (Nat.le_of_ble_eq_true rfl) rfl dX8_readyIn_7 (fun r_7 Mz H locs hq hM => ?_)
  have hq1 := hq.1.symm
  have hq2 := hq.2.symm
  subst hq1 hq2
  refine lv_if_ne (tgt := 19) hx hb dX8_readyIn_10 (by decide) (fun c1 => ?_) (fun c1 => ?_)
  · refine lv_iload_n hx hb dX8_readyIn_19 rfl (lv_at hl 2 rfl) ?_
    refine lv_iload_n hx hb dX8_readyIn_20 rfl (lv_at hl 3 rfl) ?_
    refine lv_iconst (v := (0 : Int32)) hx hb dX8_readyIn_21 (by decide) ?_
    refine g_callSi (n9 := 3) (As := [.int p1, .int p2, .int (0 : Int32)]) (rest := []) hx hb hml hl.1 hown hts hK hM (c_X8_isWeather l G _ p1 p2 (0 : Int32) ) wm_X8_104 wt_X8_isWeather wn_X8 wc_X8_isWeather (by decide +kernel) ⟨Nat.le_of_ble_eq_true rfl, Nat.le_of_ble_eq_true rfl⟩ ⟨Nat.le_of_ble_eq_true rfl, Nat.le_of_ble_eq_true rfl⟩ rfl (Nat.le_of_ble_eq_true rfl) rfl dX8_readyIn_22 (fun r_22 M1 H locs hq hM => ?_)
    have hq1 := hq.1.symm
    have hq2 := hq.2.symm
    subst hq1 hq2
    refine lv_if_ne (tgt := 34) hx hb dX8_readyIn_25 (by decide) (fun c2 => ?_) (fun c2 => ?_)
    · refine lv_aload_n hx hb dX8_readyIn_34 rfl (lv_at hl 0 rfl) ?_
      refine lv_iload_n hx hb dX8_readyIn_35 rfl (lv_at hl 1 rfl) ?_
      refine lv_iload_n hx hb dX8_readyIn_36 rfl (lv_at hl 2 rfl) ?_
      refine lv_iload_n hx hb dX8_readyIn_37 rfl (lv_at hl 3 rfl) ?_
      refine g_callVi (n9 := 3) (As := [.int p0, .int p1, .int p2]) (rest := []) hx hb hml hl.1 hown hts hK hM (c_X8_readyNow l G _ tx ma h0 fa lb t t2 Z N U now (0 : Int32) pr mo F Lx p0 p1 p2 hO1 hL1 d1 d2 d3 (inN9 c1 hn09)) wm_X8_152 wi_X8_readyNow wl_X8_readyNow wn_X8 wc_X8_readyNow (by decide +kernel) (hM.recv hK (ci := 9) rfl hO1.1) ⟨Nat.le_of_ble_eq_true rfl, Nat.le_of_ble_eq_true rfl⟩ ⟨Nat.le_of_ble_eq_true rfl, Nat.le_of_ble_eq_true rfl⟩ rfl (Nat.le_of_ble_eq_true rfl) rfl dX8_readyIn_38 (fun r_38 M7 H locs hq hM => ?_)
      obtain ⟨er, hF7⟩ := hq
      subst er
      have hO7 := hO1.frame d2 hF7
      have hL7 := hL1.frame d3 hF7
      have hF8 := F3.tr hF1 (F3.fr2 hF7)
      exact g_iret hx hb hr hlocks hM (Nat.le_of_ble_eq_true rfl) (Nat.le_of_ble_eq_true rfl) ⟨(by unfold q_X8_readyIn; rw [if_neg c1, if_neg c2]), (by rw [show th_X8_readyIn N U now th pr mo F Lx p0 p1 p2 = (0 : Int32) from by unfold th_X8_readyIn; rw [if_neg c1, if_neg c2]]; exact ⟨hO7, ⟨Z, hL7⟩, hF8⟩)⟩ dX8_readyIn_41
    · refine lv_aload_n hx hb dX8_readyIn_28 rfl (lv_at hl 0 rfl) ?_
      refine lv_iconst (v := (2 : Int32)) hx hb dX8_readyIn_29 (by decide) ?_
      refine g_callVi (n9 := 1) (As := [.int (2 : Int32)]) (rest := []) hx hb hml hl.1 hown hts hK hM (c_X8_no l G _ ma tx (0 : Int32) pr mo h0 fa lb (2 : Int32) hO1.1) wm_X8_49 wi_X8_no wl_X8_no wn_X8 wc_X8_no (by decide +kernel) (hM.recv hK (ci := 9) rfl hO1.1) ⟨Nat.le_of_ble_eq_true rfl, Nat.le_of_ble_eq_true rfl⟩ ⟨Nat.le_of_ble_eq_true rfl, Nat.le_of_ble_eq_true rfl⟩ rfl (Nat.le_of_ble_eq_true rfl) rfl dX8_readyIn_30 (fun r_30 M9 H locs hq hM => ?_)
      obtain ⟨er, eM9⟩ := hq
      subst er
      replace hM := hM.eq eM9
      obtain ⟨M2, eM2⟩ : ∃ z, z = hu M1 ma tx (.inr (9, [.int (2 : Int32), .ref h0, .ref fa, .ref lb, .int pr, .int mo])) := ⟨_, rfl⟩
      replace hM : Wd G M2 s H locs := hM.eq eM2.symm
      have hO2 : XdR G M2 tx ma h0 fa lb (2 : Int32) pr mo F Lx := by rw [eM2]; exact hO1.setO (2 : Int32) pr mo
      have hL2 : MdR G M2 t h0 Z N U now := by rw [eM2]; exact hL1.frame (Ne.symm d1) (Fr.up hO1.1)
      have hF2 : F3 tx t t2 M M2 := by rw [eM2]; exact F3.tr hF1 (F3.up hO1.1 (Or.inr (Or.inl rfl)))
      exact g_iret hx hb hr hlocks hM (Nat.le_of_ble_eq_true rfl) (Nat.le_of_ble_eq_true rfl) ⟨(by unfold q_X8_readyIn; rw [if_neg c1, if_pos c2]), (by rw [show th_X8_readyIn N U now th pr mo F Lx p0 p1 p2 = (2 : Int32) from by unfold th_X8_readyIn; rw [if_neg c1, if_pos c2]]; exact ⟨hO2, ⟨Z, hL2⟩, hF2⟩)⟩ dX8_readyIn_33
  · refine lv_aload_n hx hb dX8_readyIn_13 rfl (lv_at hl 0 rfl) ?_
    refine lv_iconst (v := (1 : Int32)) hx hb dX8_readyIn_14 (by decide) ?_
    refine g_callVi (n9 := 1) (As := [.int (1 : Int32)]) (rest := []) hx hb hml hl.1 hown hts hK hM (c_X8_no l G _ ma tx (0 : Int32) pr mo h0 fa lb (1 : Int32) hO1.1) wm_X8_49 wi_X8_no wl_X8_no wn_X8 wc_X8_no (by decide +kernel) (hM.recv hK (ci := 9) rfl hO1.1) ⟨Nat.le_of_ble_eq_true rfl, Nat.le_of_ble_eq_true rfl⟩ ⟨Nat.le_of_ble_eq_true rfl, Nat.le_of_ble_eq_true rfl⟩ rfl (Nat.le_of_ble_eq_true rfl) rfl dX8_readyIn_15 (fun r_15 M9 H locs hq hM => ?_)
    obtain ⟨er, eM9⟩ := hq
    subst er
    replace hM := hM.eq eM9
    obtain ⟨M2, eM2⟩ : ∃ z, z = hu M1 ma tx (.inr (9, [.int (1 : Int32), .ref h0, .ref fa, .ref lb, .int pr, .int mo])) := ⟨_, rfl⟩
    replace hM : Wd G M2 s H locs := hM.eq eM2.symm
    have hO2 : XdR G M2 tx ma h0 fa lb (1 : Int32) pr mo F Lx := by rw [eM2]; exact hO1.setO (1 : Int32) pr mo
    have hL2 : MdR G M2 t h0 Z N U now := by rw [eM2]; exact hL1.frame (Ne.symm d1) (Fr.up hO1.1)
    have hF2 : F3 tx t t2 M M2 := by rw [eM2]; exact F3.tr hF1 (F3.up hO1.1 (Or.inr (Or.inl rfl)))
    exact g_iret hx hb hr hlocks hM (Nat.le_of_ble_eq_true rfl) (Nat.le_of_ble_eq_true rfl) ⟨(by unfold q_X8_readyIn; rw [if_pos c1]), (by rw [show th_X8_readyIn N U now th pr mo F Lx p0 p1 p2 = (1 : Int32) from by unfold th_X8_readyIn; rw [if_pos c1]]; exact ⟨hO2, ⟨Z, hL2⟩, hF2⟩)⟩ dX8_readyIn_18
def q_X8_waiting (N : Nat → Nat) (U : Tb) (now th pr mo : Int32) (F Lx : Row) (p0 p1 p2 p3 p4 : Int32) : Int32 := if (t_X8_in_0 p0 (0 : Int32) ((nI (N 0)) - (1 : Int32))) = 0 then t_X8_no_0 else (if (t_X8_in_0 p1 (1 : Int32) (48 : Int32)) = 0 then t_X8_no_0 else (if (t_X8_isWeather_0 p2 p3 p4) = 0 then t_X8_no_0 else (q_X8_waitingNow N U now (0 : Int32) pr mo F Lx p0 p1 p2 p3 p4)))
def th_X8_waiting (N : Nat → Nat) (U : Tb) (now th pr mo : Int32) (F Lx : Row) (p0 p1 p2 p3 p4 : Int32) : Int32 := if (t_X8_in_0 p0 (0 : Int32) ((nI (N 0)) - (1 : Int32))) = 0 then (1 : Int32) else (if (t_X8_in_0 p1 (1 : Int32) (48 : Int32)) = 0 then (2 : Int32) else (if (t_X8_isWeather_0 p2 p3 p4) = 0 then (2 : Int32) else (0 : Int32)))
set_option maxHeartbeats 4000000 in
set_option maxRecDepth 100000 in
theorem c_X8_waiting (l : Launch) (G : GG) (M : HM) (tx ma h0 fa lb t t2 : Nat) (Z : LZ) (N : Nat → Nat) (U : Tb) (now th pr mo : Int32) (F Lx : Row) (p0 p1 p2 p3 p4 : Int32) (hO : XdR G M tx ma h0 fa lb th pr mo F Lx) (hL : MdR G M t h0 Z N U now) (d1 : tx ≠ t) (d2 : tx ≠ t2) (d3 : t ≠ t2)   : Mi l yX8_waiting (.code yX8_waiting cX8_waiting 6 (some .int) :: AL) 3 96 1 11 [.ref ma, .int p0, .int p1, .int p2, .int p3, .int p4] G M (fun r M' => r = (q_X8_waiting N U now th pr mo F Lx p0 p1 p2 p3 p4) ∧ XP G M M' tx ma h0 fa lb t t2 N U now (th_X8_waiting N U now th pr mo F Lx p0 p1 p2 p3 p4) pr mo F Lx) := by
  refine Mi.go (by decide) (Nat.le_of_ble_eq_true rfl) ?_
  intro p e s m below meth c ls hx hb hr hml hown hlocks hname hts hK hM hl
  have hown : s.vm.findClass RX8 = some m.cls := hown
  have hl : lv_has ls 6 [(0, .ref ma), (1, .int p0), (2, .int p1), (3, .int p2), (4, .int p3), (5, .int p4)] := hl
  have hn0 := hL.cnt (k := 0) (by decide)
  have hn09 : N 0 ≤ 8 := by have : N 0 ≤ 8 := hn0; omega
  have hn1 := hL.cnt (k := 1) (by decide)
  have hn19 : N 1 ≤ 8 := by have : N 1 ≤ 4 := hn1; omega
  have hn2 := hL.cnt (k := 2) (by decide)
  have hn29 : N 2 ≤ 8 := by have : N 2 ≤ 4 := hn2; omega
  have hn3 := hL.cnt (k := 3) (by decide)
  have hn39 : N 3 ≤ 8 := by have : N 3 ≤ 3 := hn3; omega
  refine lv_aload_n hx hb dX8_waiting_0 rfl (lv_at hl 0 rfl) ?_
  refine lv_iconst (v := (0 : Int32)) hx hb dX8_waiting_1 (by decide) ?_
  refine fp_X8_30 hx hb hts hown hK hM hO.1 dX8_waiting_2 (fun H locs hM => ?_)
  obtain ⟨M1, eM1⟩ : ∃ z, z = hu M ma tx (.inr (9, [.int (0 : Int32), .ref h0, .ref fa, .ref lb, .int pr, .int mo])) := ⟨_, rfl⟩
  replace hM : Wd G M1 s H locs := hM.eq eM1.symm
  have hO1 : XdR G M1 tx ma h0 fa lb (0 : Int32) pr mo F Lx := by rw [eM1]; exact hO.setO (0 : Int32) pr mo
  have hL1 : MdR G M1 t h0 Z N U now := by rw [eM1]; exact hL.frame (Ne.symm d1) (Fr.up hO.1)
  have hF1 : F3 tx t t2 M M1 := by rw [eM1]; exact F3.tr (F3.rf) (F3.up hO.1 (Or.inr (Or.inl rfl)))
  refine lv_aload_n hx hb dX8_waiting_5 rfl (lv_at hl 0 rfl) ?_
  refine lv_iload_n hx hb dX8_waiting_6 rfl (lv_at hl 1 rfl) ?_
  refine g_callVi (n9 := 1) (As := [.int p0]) (rest := []) hx hb hml hl.1 hown hts hK hM (c_X8_isField l G _ tx ma h0 fa lb t t2 Z N U now (0 : Int32) pr mo F Lx p0 hO1 hL1) wm_X8_67 wi_X8_isField wl_X8_isField wn_X8 wc_X8_isField (by decide +kernel) (hM.recv hK (ci := 9) rfl hO1.1) ⟨Nat.le_of_ble_eq_true rfl, Nat.le_of_ble_eq_true rfl⟩ ⟨Nat.le_of_ble_eq_true rfl, Nat.le_of_ble_eq_true rfl⟩ rfl (Nat.le_of_ble_eq_true rfl) rfl dX8_waiting_7 (fun r_7 Mz H locs hq hM => ?_)
  have hq1 := hq.1.symm
  have hq2 := hq.2.symm
  subst hq1 hq2
  refine lv_if_ne (tgt := 19) hx hb dX8_waiting_10 (by decide) (fun c1 => ?_) (fun c1 => ?_)
  · refine lv_iload_n hx hb dX8_waiting_19 rfl (lv_at hl 2 rfl) ?_
    refine lv_iconst (v := (1 : Int32)) hx hb dX8_waiting_20 (by decide) ?_
    refine lv_bipush (v := (48 : Int32)) hx hb dX8_waiting_21 (by decide) ?_
    refine g_callSi (n9 := 3) (As := [.int p1, .int (1 : Int32), .int (48 : Int32)]) (rest := []) hx hb hml hl.1 hown hts hK hM (c_X8_in l G _ p1 (1 : Int32) (48 : Int32) ) wm_X8_36 wt_X8_in wn_X8 wc_X8_in (by decide +kernel) ⟨Nat.le_of_ble_eq_true rfl, Nat.le_of_ble_eq_true rfl⟩ ⟨Nat.le_of_ble_eq_true rfl, Nat.le_of_ble_eq_true rfl⟩ rfl (Nat.le_of_ble_eq_true rfl) rfl dX8_waiting_23 (fun r_23 M1 H locs hq hM => ?_)
    have hq1 := hq.1.symm
    have hq2 := hq.2.symm
    subst hq1 hq2
    refine lv_if_eq (tgt := 40) hx hb dX8_waiting_26 (by decide) (fun c2 => ?_) (fun c2 => ?_)
    · refine lv_aload_n hx hb dX8_waiting_40 rfl (lv_at hl 0 rfl) ?_
      refine lv_iconst (v := (2 : Int32)) hx hb dX8_waiting_41 (by decide) ?_
      refine g_callVi (n9 := 1) (As := [.int (2 : Int32)]) (rest := []) hx hb hml hl.1 hown hts hK hM (c_X8_no l G _ ma tx (0 : Int32) pr mo h0 fa lb (2 : Int32) hO1.1) wm_X8_49 wi_X8_no wl_X8_no wn_X8 wc_X8_no (by decide +kernel) (hM.recv hK (ci := 9) rfl hO1.1) ⟨Nat.le_of_ble_eq_true rfl, Nat.le_of_ble_eq_true rfl⟩ ⟨Nat.le_of_ble_eq_true rfl, Nat.le_of_ble_eq_true rfl⟩ rfl (Nat.le_of_ble_eq_true rfl) rfl dX8_waiting_42 (fun r_42 M9 H locs hq hM => ?_)
      obtain ⟨er, eM9⟩ := hq
      subst er
      replace hM := hM.eq eM9
      obtain ⟨M2, eM2⟩ : ∃ z, z = hu M1 ma tx (.inr (9, [.int (2 : Int32), .ref h0, .ref fa, .ref lb, .int pr, .int mo])) := ⟨_, rfl⟩
      replace hM : Wd G M2 s H locs := hM.eq eM2.symm
      have hO2 : XdR G M2 tx ma h0 fa lb (2 : Int32) pr mo F Lx := by rw [eM2]; exact hO1.setO (2 : Int32) pr mo
      have hL2 : MdR G M2 t h0 Z N U now := by rw [eM2]; exact hL1.frame (Ne.symm d1) (Fr.up hO1.1)
      have hF2 : F3 tx t t2 M M2 := by rw [eM2]; exact F3.tr hF1 (F3.up hO1.1 (Or.inr (Or.inl rfl)))
      exact g_iret hx hb hr hlocks hM (Nat.le_of_ble_eq_true rfl) (Nat.le_of_ble_eq_true rfl) ⟨(by unfold q_X8_waiting; rw [if_neg c1, if_pos c2]), (by rw [show th_X8_waiting N U now th pr mo F Lx p0 p1 p2 p3 p4 = (2 : Int32) from by unfold th_X8_waiting; rw [if_neg c1, if_pos c2]]; exact ⟨hO2, ⟨Z, hL2⟩, hF2⟩)⟩ dX8_waiting_45
    · refine lv_iload_n hx hb dX8_waiting_29 rfl (lv_at hl 3 rfl) ?_
      refine lv_iload hx hb dX8_waiting_30 (lv_at hl 4 rfl) ?_
      refine lv_iload hx hb dX8_waiting_32 (lv_at hl 5 rfl) ?_
      refine g_callSi (n9 := 3) (As := [.int p2, .int p3, .int p4]) (rest := []) hx hb hml hl.1 hown hts hK hM (c_X8_isWeather l G _ p2 p3 p4 ) wm_X8_104 wt_X8_isWeather wn_X8 wc_X8_isWeather (by decide +kernel) ⟨Nat.le_of_ble_eq_true rfl, Nat.le_of_ble_eq_true rfl⟩ ⟨Nat.le_of_ble_eq_true rfl, Nat.le_of_ble_eq_true rfl⟩ rfl (Nat.le_of_ble_eq_true rfl) rfl dX8_waiting_34 (fun r_34 M1 H locs hq hM => ?_)
      have hq1 := hq.1.symm
      have hq2 := hq.2.symm
      subst hq1 hq2
      refine lv_if_ne (tgt := 46) hx hb dX8_waiting_37 (by decide) (fun c3 => ?_) (fun c3 => ?_)
      · refine lv_aload_n hx hb dX8_waiting_46 rfl (lv_at hl 0 rfl) ?_
        refine lv_iload_n hx hb dX8_waiting_47 rfl (lv_at hl 1 rfl) ?_
        refine lv_iload_n hx hb dX8_waiting_48 rfl (lv_at hl 2 rfl) ?_
        refine lv_iload_n hx hb dX8_waiting_49 rfl (lv_at hl 3 rfl) ?_
        refine lv_iload hx hb dX8_waiting_50 (lv_at hl 4 rfl) ?_
        refine lv_iload hx hb dX8_waiting_52 (lv_at hl 5 rfl) ?_
        have hp8 := in_48 c2
        refine g_callVi (n9 := 5) (As := [.int p0, .int p1, .int p2, .int p3, .int p4]) (rest := []) hx hb hml hl.1 hown hts hK hM (c_X8_waitingNow l G _ tx ma h0 fa lb t t2 Z N U now (0 : Int32) pr mo F Lx p0 p1 p2 p3 p4 hO1 hL1 d1 d2 d3 (inN9 c1 hn09) hp8.1 hp8.2) wm_X8_166 wi_X8_waitingNow wl_X8_waitingNow wn_X8 wc_X8_waitingNow (by decide +kernel) (hM.recv hK (ci := 9) rfl hO1.1) ⟨Nat.le_of_ble_eq_true rfl, Nat.le_of_ble_eq_true rfl⟩ ⟨Nat.le_of_ble_eq_true rfl, Nat.le_of_ble_eq_true rfl⟩ rfl (Nat.le_of_ble_eq_true rfl) rfl dX8_waiting_54 (fun r_54 M7 H locs hq hM => ?_)
        obtain ⟨er, hF7⟩ := hq
        subst er
        have hO7 := hO1.frame d2 hF7
        have hL7 := hL1.frame d3 hF7
        have hF8 := F3.tr hF1 (F3.fr2 hF7)
        exact g_iret hx hb hr hlocks hM (Nat.le_of_ble_eq_true rfl) (Nat.le_of_ble_eq_true rfl) ⟨(by unfold q_X8_waiting; rw [if_neg c1, if_neg c2, if_neg c3]), (by rw [show th_X8_waiting N U now th pr mo F Lx p0 p1 p2 p3 p4 = (0 : Int32) from by unfold th_X8_waiting; rw [if_neg c1, if_neg c2, if_neg c3]]; exact ⟨hO7, ⟨Z, hL7⟩, hF8⟩)⟩ dX8_waiting_57
      · refine lv_aload_n hx hb dX8_waiting_40 rfl (lv_at hl 0 rfl) ?_
        refine lv_iconst (v := (2 : Int32)) hx hb dX8_waiting_41 (by decide) ?_
        refine g_callVi (n9 := 1) (As := [.int (2 : Int32)]) (rest := []) hx hb hml hl.1 hown hts hK hM (c_X8_no l G _ ma tx (0 : Int32) pr mo h0 fa lb (2 : Int32) hO1.1) wm_X8_49 wi_X8_no wl_X8_no wn_X8 wc_X8_no (by decide +kernel) (hM.recv hK (ci := 9) rfl hO1.1) ⟨Nat.le_of_ble_eq_true rfl, Nat.le_of_ble_eq_true rfl⟩ ⟨Nat.le_of_ble_eq_true rfl, Nat.le_of_ble_eq_true rfl⟩ rfl (Nat.le_of_ble_eq_true rfl) rfl dX8_waiting_42 (fun r_42 M9 H locs hq hM => ?_)
        obtain ⟨er, eM9⟩ := hq
        subst er
        replace hM := hM.eq eM9
        obtain ⟨M2, eM2⟩ : ∃ z, z = hu M1 ma tx (.inr (9, [.int (2 : Int32), .ref h0, .ref fa, .ref lb, .int pr, .int mo])) := ⟨_, rfl⟩
        replace hM : Wd G M2 s H locs := hM.eq eM2.symm
        have hO2 : XdR G M2 tx ma h0 fa lb (2 : Int32) pr mo F Lx := by rw [eM2]; exact hO1.setO (2 : Int32) pr mo
        have hL2 : MdR G M2 t h0 Z N U now := by rw [eM2]; exact hL1.frame (Ne.symm d1) (Fr.up hO1.1)
        have hF2 : F3 tx t t2 M M2 := by rw [eM2]; exact F3.tr hF1 (F3.up hO1.1 (Or.inr (Or.inl rfl)))
        exact g_iret hx hb hr hlocks hM (Nat.le_of_ble_eq_true rfl) (Nat.le_of_ble_eq_true rfl) ⟨(by unfold q_X8_waiting; rw [if_neg c1, if_neg c2, if_pos c3]), (by rw [show th_X8_waiting N U now th pr mo F Lx p0 p1 p2 p3 p4 = (2 : Int32) from by unfold th_X8_waiting; rw [if_neg c1, if_neg c2, if_pos c3]]; exact ⟨hO2, ⟨Z, hL2⟩, hF2⟩)⟩ dX8_waiting_45
  · refine lv_aload_n hx hb dX8_waiting_13 rfl (lv_at hl 0 rfl) ?_
    refine lv_iconst (v := (1 : Int32)) hx hb dX8_waiting_14 (by decide) ?_
    refine g_callVi (n9 := 1) (As := [.int (1 : Int32)]) (rest := []) hx hb hml hl.1 hown hts hK hM (c_X8_no l G _ ma tx (0 : Int32) pr mo h0 fa lb (1 : Int32) hO1.1) wm_X8_49 wi_X8_no wl_X8_no wn_X8 wc_X8_no (by decide +kernel) (hM.recv hK (ci := 9) rfl hO1.1) ⟨Nat.le_of_ble_eq_true rfl, Nat.le_of_ble_eq_true rfl⟩ ⟨Nat.le_of_ble_eq_true rfl, Nat.le_of_ble_eq_true rfl⟩ rfl (Nat.le_of_ble_eq_true rfl) rfl dX8_waiting_15 (fun r_15 M9 H locs hq hM => ?_)
    obtain ⟨er, eM9⟩ := hq
    subst er
    replace hM := hM.eq eM9
    obtain ⟨M2, eM2⟩ : ∃ z, z = hu M1 ma tx (.inr (9, [.int (1 : Int32), .ref h0, .ref fa, .ref lb, .int pr, .int mo])) := ⟨_, rfl⟩
    replace hM : Wd G M2 s H locs := hM.eq eM2.symm
    have hO2 : XdR G M2 tx ma h0 fa lb (1 : Int32) pr mo F Lx := by rw [eM2]; exact hO1.setO (1 : Int32) pr mo
    have hL2 : MdR G M2 t h0 Z N U now := by rw [eM2]; exact hL1.frame (Ne.symm d1) (Fr.up hO1.1)
    have hF2 : F3 tx t t2 M M2 := by rw [eM2]; exact F3.tr hF1 (F3.up hO1.1 (Or.inr (Or.inl rfl)))
    exact g_iret hx hb hr hlocks hM (Nat.le_of_ble_eq_true rfl) (Nat.le_of_ble_eq_true rfl) ⟨(by unfold q_X8_waiting; rw [if_pos c1]), (by rw [show th_X8_waiting N U now th pr mo F Lx p0 p1 p2 p3 p4 = (1 : Int32) from by unfold th_X8_waiting; rw [if_pos c1]]; exact ⟨hO2, ⟨Z, hL2⟩, hF2⟩)⟩ dX8_waiting_18

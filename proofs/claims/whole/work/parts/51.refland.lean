theorem eR_neX {G : GG} {r r' k : Nat} {f : Row} {j n : Nat} {g : Nat → Option Nat} : some (r, (.inl (G.2.1 j, n, .inr (.inr (.inr (.inr g)))) : va_E)) ≠ some (r', eR G k f) := eR_neO
theorem rw7_0 : (fun _ => 0 : Nat → Int32) = rw7 0 0 0 0 0 0 0 := funext fun j => by
  unfold rw7
  split <;> rfl
section NI
variable {p : Program} {l : Launch} {e : Env} {R : Room} {s : State} {m : MethodId} {args : Array Value} {below : List Frame} {meth : Method} {c : Code} {H : Heap} {locs : List Loc} {cells slots : Nat} {Q : State → Prop}
variable {cc : ByteArray} {pc : Nat} {ls : Array Slot} {rest : List Value} {a : Nat} {G : GG} {M : HM}
/-- a new int array -/
theorem g_newI (hx : p.tables.exec = Jvm.exec) (hb : c.code = cc) (hK : Kw G s) (hM : Wd G M s H locs) (hts : ∀ w ∈ AL, w.before args s = true) {n : Int32} (N' : Nat) (hn : ¬ n < 0) (hN : n.toNatClampNeg = N') (hbytes : N' ≤ 1000) (r : Nat) (hcells : cells + 1 ≤ R.cells) (hslots : slots + N' ≤ R.slots) (hdg : decode cc pc = .ok (.newarray .int, 2))
    (kk : ∀ (q : Nat) (H : Heap), M q = none → Wd G (hu M q r (.inl (G.2.1 0, N', .inl (fun _ => 0)))) s H locs → W p l e R s m args below meth c H locs (cells + 1) (slots + N') Q (F0 m (pc + 2) ls (.ref q :: rest))) : W p l e R s m args below meth c H locs cells slots Q (F0 m pc ls (.int n :: rest)) :=
  g_newa (atype := .int) (j := 0) (ty := .int) (a0 := (N', .inl (fun _ => 0))) hx hb hK hM hts wa_int rfl rfl (fun _ => rfl) hn hN (by show N' * 4 ≤ 536870912; omega) r hcells hslots hdg kk
end NI
set_option maxHeartbeats 4000000 in
set_option maxRecDepth 100000 in
theorem c_X7_clock (l : Launch) (G : GG) (M : HM) (t h0 : Nat) (Z : LZ) (N : Nat → Nat) (U : Tb) (now : Int32) (hL : MdR G M t h0 Z N U now) : Mi l yX7_clock (.code yX7_clock cX7_clock 1 (some .int) :: AL) 0 0 0 0 [.ref h0] G M (fun r M' => r = clk now ∧ M' = M) := by
  refine Mi.go (by decide) (Nat.le_of_ble_eq_true rfl) ?_
  intro p e s m below meth c ls hx hb hr hml hown hlocks hname hts hK hM hl
  have hown : s.vm.findClass RX7 = some m.cls := hown
  have hl : lv_has ls 1 [(0, .ref h0)] := hl
  refine lv_aload_n hx hb dX7_clock_0 rfl (lv_at hl 0 rfl) ?_
  refine fg_X7_52 hx hb hts hown hK hM hL.1 dX7_clock_1 ?_
  refine lv_bipush (v := (24 : Int32)) hx hb dX7_clock_4 (by decide) ?_
  refine lv_irem hx hb dX7_clock_6 (by decide) ?_
  exact g_iret hx hb hr hlocks hM (Nat.zero_le _) (Nat.zero_le _) ⟨rfl, rfl⟩ dX7_clock_7
def q_X7_isOpen (N : Nat → Nat) (U : Tb) (now : Int32) (v : Nat) : Int32 := if (U 3 v 2) ≤ (U 3 v 0) then (if (U 3 v 0) ≤ (clk now) then (1 : Int32) else (if (U 3 v 2) ≤ (clk now) then (0 : Int32) else (1 : Int32))) else (if (clk now) < (U 3 v 0) then (0 : Int32) else (if (U 3 v 2) ≤ (clk now) then (0 : Int32) else (1 : Int32)))
theorem q_X7_isOpen_01 {N : Nat → Nat} {U : Tb} {now : Int32} {v : Nat} : q_X7_isOpen N U now v = 0 ∨ q_X7_isOpen N U now v = 1 := by unfold q_X7_isOpen; (repeat' split) <;> first | exact Or.inl rfl | exact Or.inr rfl | assumption
set_option maxHeartbeats 4000000 in
set_option maxRecDepth 100000 in
theorem c_X7_isOpen (l : Launch) (G : GG) (M : HM) (t h0 : Nat) (Z : LZ) (N : Nat → Nat) (U : Tb) (now : Int32) (v : Nat) (hL : MdR G M t h0 Z N U now) (hv : v < lmR N 3)  : Mi l yX7_isOpen (.code yX7_isOpen cX7_isOpen 2 (some .boolean) :: AL) 1 20 0 0 [.ref h0, .ref (Z.2.1 3 v)] G M (fun r M' => r = q_X7_isOpen N U now v ∧ M' = M) := by
  refine Mi.go (by decide) (Nat.le_of_ble_eq_true rfl) ?_
  intro p e s m below meth c ls hx hb hr hml hown hlocks hname hts hK hM hl
  have hown : s.vm.findClass RX7 = some m.cls := hown
  have hl : lv_has ls 2 [(0, .ref h0), (1, .ref (Z.2.1 3 v))] := hl
  refine lv_aload_n hx hb dX7_isOpen_0 rfl (lv_at hl 1 rfl) ?_
  refine lv_iconst (v := (0 : Int32)) hx hb dX7_isOpen_1 (by decide) ?_
  refine ia6_0 hx hb hK hM (hL.row (k := 3) (by decide) hv) dX7_isOpen_2 ?_
  refine lv_aload_n hx hb dX7_isOpen_3 rfl (lv_at hl 1 rfl) ?_
  refine lv_iconst (v := (2 : Int32)) hx hb dX7_isOpen_4 (by decide) ?_
  refine ia6_2 hx hb hK hM (hL.row (k := 3) (by decide) hv) dX7_isOpen_5 ?_
  refine lv_icmp_ge (tgt := 37) hx hb dX7_isOpen_6 (by decide) (fun c1 => ?_) (fun c1 => ?_)
  · refine lv_aload_n hx hb dX7_isOpen_37 rfl (lv_at hl 0 rfl) ?_
    refine g_callVi (n9 := 0) (As := []) (rest := []) hx hb hml hl.1 hown hts hK hM (c_X7_clock l G _ t h0 Z N U now hL) wm_X7_64 wi_X7_clock wl_X7_clock wn_X7 wc_X7_clock (by decide +kernel) (hM.recv hK (ci := 8) rfl hL.1) ⟨Nat.le_of_ble_eq_true rfl, Nat.le_of_ble_eq_true rfl⟩ ⟨Nat.le_of_ble_eq_true rfl, Nat.le_of_ble_eq_true rfl⟩ rfl (Nat.le_of_ble_eq_true rfl) rfl dX7_isOpen_38 (fun r_38 Mz H locs hq hM => ?_)
    have hq1 := hq.1.symm
    have hq2 := hq.2.symm
    subst hq1 hq2
    refine lv_aload_n hx hb dX7_isOpen_41 rfl (lv_at hl 1 rfl) ?_
    refine lv_iconst (v := (0 : Int32)) hx hb dX7_isOpen_42 (by decide) ?_
    refine ia6_0 hx hb hK hM (hL.row (k := 3) (by decide) hv) dX7_isOpen_43 ?_
    refine lv_icmp_ge (tgt := 57) hx hb dX7_isOpen_44 (by decide) (fun c2 => ?_) (fun c2 => ?_)
    · refine lv_iconst (v := (1 : Int32)) hx hb dX7_isOpen_57 (by decide) ?_
      refine lv_goto (tgt := 62) hx hb dX7_isOpen_58 (by decide) ?_
      exact g_zret hx hb hr hlocks hM (Nat.zero_le _) (Nat.zero_le _) (nz01 (Or.inr rfl)) ⟨(by unfold q_X7_isOpen; rw [if_pos c1, if_pos c2]), rfl⟩ dX7_isOpen_62
    · refine lv_aload_n hx hb dX7_isOpen_47 rfl (lv_at hl 0 rfl) ?_
      refine g_callVi (n9 := 0) (As := []) (rest := []) hx hb hml hl.1 hown hts hK hM (c_X7_clock l G _ t h0 Z N U now hL) wm_X7_64 wi_X7_clock wl_X7_clock wn_X7 wc_X7_clock (by decide +kernel) (hM.recv hK (ci := 8) rfl hL.1) ⟨Nat.le_of_ble_eq_true rfl, Nat.le_of_ble_eq_true rfl⟩ ⟨Nat.le_of_ble_eq_true rfl, Nat.le_of_ble_eq_true rfl⟩ rfl (Nat.le_of_ble_eq_true rfl) rfl dX7_isOpen_48 (fun r_48 Mz H locs hq hM => ?_)
      have hq1 := hq.1.symm
      have hq2 := hq.2.symm
      subst hq1 hq2
      refine lv_aload_n hx hb dX7_isOpen_51 rfl (lv_at hl 1 rfl) ?_
      refine lv_iconst (v := (2 : Int32)) hx hb dX7_isOpen_52 (by decide) ?_
      refine ia6_2 hx hb hK hM (hL.row (k := 3) (by decide) hv) dX7_isOpen_53 ?_
      refine lv_icmp_ge (tgt := 61) hx hb dX7_isOpen_54 (by decide) (fun c3 => ?_) (fun c3 => ?_)
      · refine lv_iconst (v := (0 : Int32)) hx hb dX7_isOpen_61 (by decide) ?_
        exact g_zret hx hb hr hlocks hM (Nat.zero_le _) (Nat.zero_le _) (nz01 (Or.inl rfl)) ⟨(by unfold q_X7_isOpen; rw [if_pos c1, if_neg c2, if_pos c3]), rfl⟩ dX7_isOpen_62
      · refine lv_iconst (v := (1 : Int32)) hx hb dX7_isOpen_57 (by decide) ?_
        refine lv_goto (tgt := 62) hx hb dX7_isOpen_58 (by decide) ?_
        exact g_zret hx hb hr hlocks hM (Nat.zero_le _) (Nat.zero_le _) (nz01 (Or.inr rfl)) ⟨(by unfold q_X7_isOpen; rw [if_pos c1, if_neg c2, if_neg c3]), rfl⟩ dX7_isOpen_62
  · refine lv_aload_n hx hb dX7_isOpen_9 rfl (lv_at hl 0 rfl) ?_
    refine g_callVi (n9 := 0) (As := []) (rest := []) hx hb hml hl.1 hown hts hK hM (c_X7_clock l G _ t h0 Z N U now hL) wm_X7_64 wi_X7_clock wl_X7_clock wn_X7 wc_X7_clock (by decide +kernel) (hM.recv hK (ci := 8) rfl hL.1) ⟨Nat.le_of_ble_eq_true rfl, Nat.le_of_ble_eq_true rfl⟩ ⟨Nat.le_of_ble_eq_true rfl, Nat.le_of_ble_eq_true rfl⟩ rfl (Nat.le_of_ble_eq_true rfl) rfl dX7_isOpen_10 (fun r_10 Mz H locs hq hM => ?_)
    have hq1 := hq.1.symm
    have hq2 := hq.2.symm
    subst hq1 hq2
    refine lv_aload_n hx hb dX7_isOpen_13 rfl (lv_at hl 1 rfl) ?_
    refine lv_iconst (v := (0 : Int32)) hx hb dX7_isOpen_14 (by decide) ?_
    refine ia6_0 hx hb hK hM (hL.row (k := 3) (by decide) hv) dX7_isOpen_15 ?_
    refine lv_icmp_lt (tgt := 33) hx hb dX7_isOpen_16 (by decide) (fun c4 => ?_) (fun c4 => ?_)
    · refine lv_iconst (v := (0 : Int32)) hx hb dX7_isOpen_33 (by decide) ?_
      refine lv_goto (tgt := 62) hx hb dX7_isOpen_34 (by decide) ?_
      exact g_zret hx hb hr hlocks hM (Nat.zero_le _) (Nat.zero_le _) (nz01 (Or.inl rfl)) ⟨(by unfold q_X7_isOpen; rw [if_neg c1, if_pos c4]), rfl⟩ dX7_isOpen_62
    · refine lv_aload_n hx hb dX7_isOpen_19 rfl (lv_at hl 0 rfl) ?_
      refine g_callVi (n9 := 0) (As := []) (rest := []) hx hb hml hl.1 hown hts hK hM (c_X7_clock l G _ t h0 Z N U now hL) wm_X7_64 wi_X7_clock wl_X7_clock wn_X7 wc_X7_clock (by decide +kernel) (hM.recv hK (ci := 8) rfl hL.1) ⟨Nat.le_of_ble_eq_true rfl, Nat.le_of_ble_eq_true rfl⟩ ⟨Nat.le_of_ble_eq_true rfl, Nat.le_of_ble_eq_true rfl⟩ rfl (Nat.le_of_ble_eq_true rfl) rfl dX7_isOpen_20 (fun r_20 Mz H locs hq hM => ?_)
      have hq1 := hq.1.symm
      have hq2 := hq.2.symm
      subst hq1 hq2
      refine lv_aload_n hx hb dX7_isOpen_23 rfl (lv_at hl 1 rfl) ?_
      refine lv_iconst (v := (2 : Int32)) hx hb dX7_isOpen_24 (by decide) ?_
      refine ia6_2 hx hb hK hM (hL.row (k := 3) (by decide) hv) dX7_isOpen_25 ?_
      refine lv_icmp_ge (tgt := 33) hx hb dX7_isOpen_26 (by decide) (fun c5 => ?_) (fun c5 => ?_)
      · refine lv_iconst (v := (0 : Int32)) hx hb dX7_isOpen_33 (by decide) ?_
        refine lv_goto (tgt := 62) hx hb dX7_isOpen_34 (by decide) ?_
        exact g_zret hx hb hr hlocks hM (Nat.zero_le _) (Nat.zero_le _) (nz01 (Or.inl rfl)) ⟨(by unfold q_X7_isOpen; rw [if_neg c1, if_neg c4, if_pos c5]), rfl⟩ dX7_isOpen_62
      · refine lv_iconst (v := (1 : Int32)) hx hb dX7_isOpen_29 (by decide) ?_
        refine lv_goto (tgt := 62) hx hb dX7_isOpen_30 (by decide) ?_
        exact g_zret hx hb hr hlocks hM (Nat.zero_le _) (Nat.zero_le _) (nz01 (Or.inr rfl)) ⟨(by unfold q_X7_isOpen; rw [if_neg c1, if_neg c4, if_neg c5]), rfl⟩ dX7_isOpen_62
def a_X7_work (U : Tb) (i : Nat) : Int32 := if (t_X7_brings_0 (U 0 (ix (U 1 i 7)) 6) (U 0 (ix (U 1 i 7)) 9)) ≤ 0 then (mn (U 1 i 0) ((U 0 (ix (U 1 i 7)) 2) - (U 0 (ix (U 1 i 7)) 3))) else (mn (mn (U 1 i 0) ((U 0 (ix (U 1 i 7)) 2) - (U 0 (ix (U 1 i 7)) 3))) (((400 : Int32) - (U 1 i 2)) / (t_X7_brings_0 (U 0 (ix (U 1 i 7)) 6) (U 0 (ix (U 1 i 7)) 9))))
def u_X7_work (N : Nat → Nat) (U : Tb) (now : Int32) (p0 p1 : Int32) (i : Nat) : Tb := if (U 1 i 6) = (1 : Int32) then U else (if (U 1 i 7) = (-1 : Int32) then U else (if (U 1 i 1) = (U 0 (ix (U 1 i 7)) 1) then (if 0 < p1 then (tu U 1 i (rw11 (U 1 i 0) (U 1 i 1) (U 1 i 2) (U 1 i 3) (U 1 i 4) (U 1 i 5) (U 1 i 6) (U 1 i 7) (U 1 i 8) ((U 1 i 9) + (1 : Int32)) (U 1 i 10))) else (if (U 0 (ix (U 1 i 7)) 4) < (80 : Int32) then (tu U 1 i (rw11 (U 1 i 0) (U 1 i 1) (U 1 i 2) (U 1 i 3) (U 1 i 4) (U 1 i 5) (U 1 i 6) (U 1 i 7) (U 1 i 8) ((U 1 i 9) + (1 : Int32)) (U 1 i 10))) else (if (20 : Int32) ≤ (U 0 (ix (U 1 i 7)) 5) then (tu U 1 i (rw11 (U 1 i 0) (U 1 i 1) (U 1 i 2) (U 1 i 3) (U 1 i 4) (U 1 i 5) (U 1 i 6) (U 1 i 7) (U 1 i 8) ((U 1 i 9) + (1 : Int32)) (U 1 i 10))) else (if (clk now) < (8 : Int32) then (tu U 1 i (rw11 (U 1 i 0) (U 1 i 1) (U 1 i 2) (U 1 i 3) (U 1 i 4) (U 1 i 5) (U 1 i 6) (U 1 i 7) (U 1 i 8) ((U 1 i 9) + (1 : Int32)) (U 1 i 10))) else (if (U 1 i 2) ≤ 0 then (if (a_X7_work U i) = 0 then (tu U 1 i (rw11 (U 1 i 0) (U 1 i 1) (U 1 i 2) (U 1 i 3) (U 1 i 4) (U 1 i 5) (U 1 i 6) (U 1 i 7) (U 1 i 8) ((U 1 i 9) + (1 : Int32)) (U 1 i 10))) else (if ((a_X7_work U i) * (t_X7_brings_0 (U 0 (ix (U 1 i 7)) 6) (U 0 (ix (U 1 i 7)) 9))) ≤ 0 then (if ((U 1 i 5) + (a_X7_work U i)) < (100 : Int32) then (tu (tu U 0 (ix (U 1 i 7)) (rw11 (U 0 (ix (U 1 i 7)) 0) (U 0 (ix (U 1 i 7)) 1) (U 0 (ix (U 1 i 7)) 2) ((U 0 (ix (U 1 i 7)) 3) + (a_X7_work U i)) (U 0 (ix (U 1 i 7)) 4) (U 0 (ix (U 1 i 7)) 5) (U 0 (ix (U 1 i 7)) 6) ((U 0 (ix (U 1 i 7)) 7) + ((((a_X7_work U i) * (t_X7_brings_0 (U 0 (ix (U 1 i 7)) 6) (U 0 (ix (U 1 i 7)) 9))) * (((96 : Int32) + ((3 : Int32) * p0)) + ((U 1 i 5) / (20 : Int32)))) / (100 : Int32))) (U 0 (ix (U 1 i 7)) 8) (U 0 (ix (U 1 i 7)) 9) (U 0 (ix (U 1 i 7)) 10))) 1 i (rw11 (U 1 i 0) (U 1 i 1) (U 1 i 2) (U 1 i 3) (U 1 i 4) ((U 1 i 5) + (a_X7_work U i)) (0 : Int32) (U 1 i 7) ((U 1 i 8) + (a_X7_work U i)) (U 1 i 9) ((U 1 i 10) + ((a_X7_work U i) * (t_X7_brings_0 (U 0 (ix (U 1 i 7)) 6) (U 0 (ix (U 1 i 7)) 9)))))) else (tu (tu U 0 (ix (U 1 i 7)) (rw11 (U 0 (ix (U 1 i 7)) 0) (U 0 (ix (U 1 i 7)) 1) (U 0 (ix (U 1 i 7)) 2) ((U 0 (ix (U 1 i 7)) 3) + (a_X7_work U i)) (U 0 (ix (U 1 i 7)) 4) (U 0 (ix (U 1 i 7)) 5) (U 0 (ix (U 1 i 7)) 6) ((U 0 (ix (U 1 i 7)) 7) + ((((a_X7_work U i) * (t_X7_brings_0 (U 0 (ix (U 1 i 7)) 6) (U 0 (ix (U 1 i 7)) 9))) * (((96 : Int32) + ((3 : Int32) * p0)) + ((U 1 i 5) / (20 : Int32)))) / (100 : Int32))) (U 0 (ix (U 1 i 7)) 8) (U 0 (ix (U 1 i 7)) 9) (U 0 (ix (U 1 i 7)) 10))) 1 i (rw11 (U 1 i 0) (U 1 i 1) (U 1 i 2) (U 1 i 3) (U 1 i 4) ((U 1 i 5) + (a_X7_work U i)) (1 : Int32) (U 1 i 7) ((U 1 i 8) + (a_X7_work U i)) (U 1 i 9) ((U 1 i 10) + ((a_X7_work U i) * (t_X7_brings_0 (U 0 (ix (U 1 i 7)) 6) (U 0 (ix (U 1 i 7)) 9))))))) else (if (U 1 i 2) = 0 then (if ((U 1 i 5) + (a_X7_work U i)) < (100 : Int32) then (tu (tu U 0 (ix (U 1 i 7)) (rw11 (U 0 (ix (U 1 i 7)) 0) (U 0 (ix (U 1 i 7)) 1) (U 0 (ix (U 1 i 7)) 2) ((U 0 (ix (U 1 i 7)) 3) + (a_X7_work U i)) (U 0 (ix (U 1 i 7)) 4) (U 0 (ix (U 1 i 7)) 5) (U 0 (ix (U 1 i 7)) 6) ((U 0 (ix (U 1 i 7)) 7) + ((((a_X7_work U i) * (t_X7_brings_0 (U 0 (ix (U 1 i 7)) 6) (U 0 (ix (U 1 i 7)) 9))) * (((96 : Int32) + ((3 : Int32) * p0)) + ((U 1 i 5) / (20 : Int32)))) / (100 : Int32))) (U 0 (ix (U 1 i 7)) 8) (U 0 (ix (U 1 i 7)) 9) (U 0 (ix (U 1 i 7)) 10))) 1 i (rw11 (U 1 i 0) (U 1 i 1) ((U 1 i 2) + ((a_X7_work U i) * (t_X7_brings_0 (U 0 (ix (U 1 i 7)) 6) (U 0 (ix (U 1 i 7)) 9)))) (U 1 i 7) (U 0 (ix (U 1 i 7)) 5) ((U 1 i 5) + (a_X7_work U i)) (0 : Int32) (U 1 i 7) ((U 1 i 8) + (a_X7_work U i)) (U 1 i 9) ((U 1 i 10) + ((a_X7_work U i) * (t_X7_brings_0 (U 0 (ix (U 1 i 7)) 6) (U 0 (ix (U 1 i 7)) 9)))))) else (tu (tu U 0 (ix (U 1 i 7)) (rw11 (U 0 (ix (U 1 i 7)) 0) (U 0 (ix (U 1 i 7)) 1) (U 0 (ix (U 1 i 7)) 2) ((U 0 (ix (U 1 i 7)) 3) + (a_X7_work U i)) (U 0 (ix (U 1 i 7)) 4) (U 0 (ix (U 1 i 7)) 5) (U 0 (ix (U 1 i 7)) 6) ((U 0 (ix (U 1 i 7)) 7) + ((((a_X7_work U i) * (t_X7_brings_0 (U 0 (ix (U 1 i 7)) 6) (U 0 (ix (U 1 i 7)) 9))) * (((96 : Int32) + ((3 : Int32) * p0)) + ((U 1 i 5) / (20 : Int32)))) / (100 : Int32))) (U 0 (ix (U 1 i 7)) 8) (U 0 (ix (U 1 i 7)) 9) (U 0 (ix (U 1 i 7)) 10))) 1 i (rw11 (U 1 i 0) (U 1 i 1) ((U 1 i 2) + ((a_X7_work U i) * (t_X7_brings_0 (U 0 (ix (U 1 i 7)) 6) (U 0 (ix (U 1 i 7)) 9)))) (U 1 i 7) (U 0 (ix (U 1 i 7)) 5) ((U 1 i 5) + (a_X7_work U i)) (1 : Int32) (U 1 i 7) ((U 1 i 8) + (a_X7_work U i)) (U 1 i 9) ((U 1 i 10) + ((a_X7_work U i) * (t_X7_brings_0 (U 0 (ix (U 1 i 7)) 6) (U 0 (ix (U 1 i 7)) 9))))))) else (if ((U 1 i 5) + (a_X7_work U i)) < (100 : Int32) then (tu (tu U 0 (ix (U 1 i 7)) (rw11 (U 0 (ix (U 1 i 7)) 0) (U 0 (ix (U 1 i 7)) 1) (U 0 (ix (U 1 i 7)) 2) ((U 0 (ix (U 1 i 7)) 3) + (a_X7_work U i)) (U 0 (ix (U 1 i 7)) 4) (U 0 (ix (U 1 i 7)) 5) (U 0 (ix (U 1 i 7)) 6) ((U 0 (ix (U 1 i 7)) 7) + ((((a_X7_work U i) * (t_X7_brings_0 (U 0 (ix (U 1 i 7)) 6) (U 0 (ix (U 1 i 7)) 9))) * (((96 : Int32) + ((3 : Int32) * p0)) + ((U 1 i 5) / (20 : Int32)))) / (100 : Int32))) (U 0 (ix (U 1 i 7)) 8) (U 0 (ix (U 1 i 7)) 9) (U 0 (ix (U 1 i 7)) 10))) 1 i (rw11 (U 1 i 0) (U 1 i 1) ((U 1 i 2) + ((a_X7_work U i) * (t_X7_brings_0 (U 0 (ix (U 1 i 7)) 6) (U 0 (ix (U 1 i 7)) 9)))) (U 1 i 7) (mx (U 1 i 4) (U 0 (ix (U 1 i 7)) 5)) ((U 1 i 5) + (a_X7_work U i)) (0 : Int32) (U 1 i 7) ((U 1 i 8) + (a_X7_work U i)) (U 1 i 9) ((U 1 i 10) + ((a_X7_work U i) * (t_X7_brings_0 (U 0 (ix (U 1 i 7)) 6) (U 0 (ix (U 1 i 7)) 9)))))) else (tu (tu U 0 (ix (U 1 i 7)) (rw11 (U 0 (ix (U 1 i 7)) 0) (U 0 (ix (U 1 i 7)) 1) (U 0 (ix (U 1 i 7)) 2) ((U 0 (ix (U 1 i 7)) 3) + (a_X7_work U i)) (U 0 (ix (U 1 i 7)) 4) (U 0 (ix (U 1 i 7)) 5) (U 0 (ix (U 1 i 7)) 6) ((U 0 (ix (U 1 i 7)) 7) + ((((a_X7_work U i) * (t_X7_brings_0 (U 0 (ix (U 1 i 7)) 6) (U 0 (ix (U 1 i 7)) 9))) * (((96 : Int32) + ((3 : Int32) * p0)) + ((U 1 i 5) / (20 : Int32)))) / (100 : Int32))) (U 0 (ix (U 1 i 7)) 8) (U 0 (ix (U 1 i 7)) 9) (U 0 (ix (U 1 i 7)) 10))) 1 i (rw11 (U 1 i 0) (U 1 i 1) ((U 1 i 2) + ((a_X7_work U i) * (t_X7_brings_0 (U 0 (ix (U 1 i 7)) 6) (U 0 (ix (U 1 i 7)) 9)))) (U 1 i 7) (mx (U 1 i 4) (U 0 (ix (U 1 i 7)) 5)) ((U 1 i 5) + (a_X7_work U i)) (1 : Int32) (U 1 i 7) ((U 1 i 8) + (a_X7_work U i)) (U 1 i 9) ((U 1 i 10) + ((a_X7_work U i) * (t_X7_brings_0 (U 0 (ix (U 1 i 7)) 6) (U 0 (ix (U 1 i 7)) 9)))))))))) else (if (U 1 i 3) = (U 1 i 7) then (if (a_X7_work U i) = 0 then (tu U 1 i (rw11 (U 1 i 0) (U 1 i 1) (U 1 i 2) (U 1 i 3) (U 1 i 4) (U 1 i 5) (U 1 i 6) (U 1 i 7) (U 1 i 8) ((U 1 i 9) + (1 : Int32)) (U 1 i 10))) else (if ((a_X7_work U i) * (t_X7_brings_0 (U 0 (ix (U 1 i 7)) 6) (U 0 (ix (U 1 i 7)) 9))) ≤ 0 then (if ((U 1 i 5) + (a_X7_work U i)) < (100 : Int32) then (tu (tu U 0 (ix (U 1 i 7)) (rw11 (U 0 (ix (U 1 i 7)) 0) (U 0 (ix (U 1 i 7)) 1) (U 0 (ix (U 1 i 7)) 2) ((U 0 (ix (U 1 i 7)) 3) + (a_X7_work U i)) (U 0 (ix (U 1 i 7)) 4) (U 0 (ix (U 1 i 7)) 5) (U 0 (ix (U 1 i 7)) 6) ((U 0 (ix (U 1 i 7)) 7) + ((((a_X7_work U i) * (t_X7_brings_0 (U 0 (ix (U 1 i 7)) 6) (U 0 (ix (U 1 i 7)) 9))) * (((96 : Int32) + ((3 : Int32) * p0)) + ((U 1 i 5) / (20 : Int32)))) / (100 : Int32))) (U 0 (ix (U 1 i 7)) 8) (U 0 (ix (U 1 i 7)) 9) (U 0 (ix (U 1 i 7)) 10))) 1 i (rw11 (U 1 i 0) (U 1 i 1) (U 1 i 2) (U 1 i 3) (U 1 i 4) ((U 1 i 5) + (a_X7_work U i)) (0 : Int32) (U 1 i 7) ((U 1 i 8) + (a_X7_work U i)) (U 1 i 9) ((U 1 i 10) + ((a_X7_work U i) * (t_X7_brings_0 (U 0 (ix (U 1 i 7)) 6) (U 0 (ix (U 1 i 7)) 9)))))) else (tu (tu U 0 (ix (U 1 i 7)) (rw11 (U 0 (ix (U 1 i 7)) 0) (U 0 (ix (U 1 i 7)) 1) (U 0 (ix (U 1 i 7)) 2) ((U 0 (ix (U 1 i 7)) 3) + (a_X7_work U i)) (U 0 (ix (U 1 i 7)) 4) (U 0 (ix (U 1 i 7)) 5) (U 0 (ix (U 1 i 7)) 6) ((U 0 (ix (U 1 i 7)) 7) + ((((a_X7_work U i) * (t_X7_brings_0 (U 0 (ix (U 1 i 7)) 6) (U 0 (ix (U 1 i 7)) 9))) * (((96 : Int32) + ((3 : Int32) * p0)) + ((U 1 i 5) / (20 : Int32)))) / (100 : Int32))) (U 0 (ix (U 1 i 7)) 8) (U 0 (ix (U 1 i 7)) 9) (U 0 (ix (U 1 i 7)) 10))) 1 i (rw11 (U 1 i 0) (U 1 i 1) (U 1 i 2) (U 1 i 3) (U 1 i 4) ((U 1 i 5) + (a_X7_work U i)) (1 : Int32) (U 1 i 7) ((U 1 i 8) + (a_X7_work U i)) (U 1 i 9) ((U 1 i 10) + ((a_X7_work U i) * (t_X7_brings_0 (U 0 (ix (U 1 i 7)) 6) (U 0 (ix (U 1 i 7)) 9))))))) else (if (U 1 i 2) = 0 then (if ((U 1 i 5) + (a_X7_work U i)) < (100 : Int32) then (tu (tu U 0 (ix (U 1 i 7)) (rw11 (U 0 (ix (U 1 i 7)) 0) (U 0 (ix (U 1 i 7)) 1) (U 0 (ix (U 1 i 7)) 2) ((U 0 (ix (U 1 i 7)) 3) + (a_X7_work U i)) (U 0 (ix (U 1 i 7)) 4) (U 0 (ix (U 1 i 7)) 5) (U 0 (ix (U 1 i 7)) 6) ((U 0 (ix (U 1 i 7)) 7) + ((((a_X7_work U i) * (t_X7_brings_0 (U 0 (ix (U 1 i 7)) 6) (U 0 (ix (U 1 i 7)) 9))) * (((96 : Int32) + ((3 : Int32) * p0)) + ((U 1 i 5) / (20 : Int32)))) / (100 : Int32))) (U 0 (ix (U 1 i 7)) 8) (U 0 (ix (U 1 i 7)) 9) (U 0 (ix (U 1 i 7)) 10))) 1 i (rw11 (U 1 i 0) (U 1 i 1) ((U 1 i 2) + ((a_X7_work U i) * (t_X7_brings_0 (U 0 (ix (U 1 i 7)) 6) (U 0 (ix (U 1 i 7)) 9)))) (U 1 i 7) (U 0 (ix (U 1 i 7)) 5) ((U 1 i 5) + (a_X7_work U i)) (0 : Int32) (U 1 i 7) ((U 1 i 8) + (a_X7_work U i)) (U 1 i 9) ((U 1 i 10) + ((a_X7_work U i) * (t_X7_brings_0 (U 0 (ix (U 1 i 7)) 6) (U 0 (ix (U 1 i 7)) 9)))))) else (tu (tu U 0 (ix (U 1 i 7)) (rw11 (U 0 (ix (U 1 i 7)) 0) (U 0 (ix (U 1 i 7)) 1) (U 0 (ix (U 1 i 7)) 2) ((U 0 (ix (U 1 i 7)) 3) + (a_X7_work U i)) (U 0 (ix (U 1 i 7)) 4) (U 0 (ix (U 1 i 7)) 5) (U 0 (ix (U 1 i 7)) 6) ((U 0 (ix (U 1 i 7)) 7) + ((((a_X7_work U i) * (t_X7_brings_0 (U 0 (ix (U 1 i 7)) 6) (U 0 (ix (U 1 i 7)) 9))) * (((96 : Int32) + ((3 : Int32) * p0)) + ((U 1 i 5) / (20 : Int32)))) / (100 : Int32))) (U 0 (ix (U 1 i 7)) 8) (U 0 (ix (U 1 i 7)) 9) (U 0 (ix (U 1 i 7)) 10))) 1 i (rw11 (U 1 i 0) (U 1 i 1) ((U 1 i 2) + ((a_X7_work U i) * (t_X7_brings_0 (U 0 (ix (U 1 i 7)) 6) (U 0 (ix (U 1 i 7)) 9)))) (U 1 i 7) (U 0 (ix (U 1 i 7)) 5) ((U 1 i 5) + (a_X7_work U i)) (1 : Int32) (U 1 i 7) ((U 1 i 8) + (a_X7_work U i)) (U 1 i 9) ((U 1 i 10) + ((a_X7_work U i) * (t_X7_brings_0 (U 0 (ix (U 1 i 7)) 6) (U 0 (ix (U 1 i 7)) 9))))))) else (if ((U 1 i 5) + (a_X7_work U i)) < (100 : Int32) then (tu (tu U 0 (ix (U 1 i 7)) (rw11 (U 0 (ix (U 1 i 7)) 0) (U 0 (ix (U 1 i 7)) 1) (U 0 (ix (U 1 i 7)) 2) ((U 0 (ix (U 1 i 7)) 3) + (a_X7_work U i)) (U 0 (ix (U 1 i 7)) 4) (U 0 (ix (U 1 i 7)) 5) (U 0 (ix (U 1 i 7)) 6) ((U 0 (ix (U 1 i 7)) 7) + ((((a_X7_work U i) * (t_X7_brings_0 (U 0 (ix (U 1 i 7)) 6) (U 0 (ix (U 1 i 7)) 9))) * (((96 : Int32) + ((3 : Int32) * p0)) + ((U 1 i 5) / (20 : Int32)))) / (100 : Int32))) (U 0 (ix (U 1 i 7)) 8) (U 0 (ix (U 1 i 7)) 9) (U 0 (ix (U 1 i 7)) 10))) 1 i (rw11 (U 1 i 0) (U 1 i 1) ((U 1 i 2) + ((a_X7_work U i) * (t_X7_brings_0 (U 0 (ix (U 1 i 7)) 6) (U 0 (ix (U 1 i 7)) 9)))) (U 1 i 7) (mx (U 1 i 4) (U 0 (ix (U 1 i 7)) 5)) ((U 1 i 5) + (a_X7_work U i)) (0 : Int32) (U 1 i 7) ((U 1 i 8) + (a_X7_work U i)) (U 1 i 9) ((U 1 i 10) + ((a_X7_work U i) * (t_X7_brings_0 (U 0 (ix (U 1 i 7)) 6) (U 0 (ix (U 1 i 7)) 9)))))) else (tu (tu U 0 (ix (U 1 i 7)) (rw11 (U 0 (ix (U 1 i 7)) 0) (U 0 (ix (U 1 i 7)) 1) (U 0 (ix (U 1 i 7)) 2) ((U 0 (ix (U 1 i 7)) 3) + (a_X7_work U i)) (U 0 (ix (U 1 i 7)) 4) (U 0 (ix (U 1 i 7)) 5) (U 0 (ix (U 1 i 7)) 6) ((U 0 (ix (U 1 i 7)) 7) + ((((a_X7_work U i) * (t_X7_brings_0 (U 0 (ix (U 1 i 7)) 6) (U 0 (ix (U 1 i 7)) 9))) * (((96 : Int32) + ((3 : Int32) * p0)) + ((U 1 i 5) / (20 : Int32)))) / (100 : Int32))) (U 0 (ix (U 1 i 7)) 8) (U 0 (ix (U 1 i 7)) 9) (U 0 (ix (U 1 i 7)) 10))) 1 i (rw11 (U 1 i 0) (U 1 i 1) ((U 1 i 2) + ((a_X7_work U i) * (t_X7_brings_0 (U 0 (ix (U 1 i 7)) 6) (U 0 (ix (U 1 i 7)) 9)))) (U 1 i 7) (mx (U 1 i 4) (U 0 (ix (U 1 i 7)) 5)) ((U 1 i 5) + (a_X7_work U i)) (1 : Int32) (U 1 i 7) ((U 1 i 8) + (a_X7_work U i)) (U 1 i 9) ((U 1 i 10) + ((a_X7_work U i) * (t_X7_brings_0 (U 0 (ix (U 1 i 7)) 6) (U 0 (ix (U 1 i 7)) 9)))))))))) else (tu U 1 i (rw11 (U 1 i 0) (U 1 i 1) (U 1 i 2) (U 1 i 3) (U 1 i 4) (U 1 i 5) (U 1 i 6) (U 1 i 7) (U 1 i 8) ((U 1 i 9) + (1 : Int32)) (U 1 i 10))))))))) else (tu U 1 i (rw11 (U 1 i 0) (t_X7_towards_0 (U 1 i 1) (U 0 (ix (U 1 i 7)) 1) (20 : Int32)) (U 1 i 2) (U 1 i 3) (U 1 i 4) (U 1 i 5) (U 1 i 6) (U 1 i 7) (U 1 i 8) (U 1 i 9) (U 1 i 10)))))
set_option maxHeartbeats 4000000 in
set_option maxRecDepth 100000 in
theorem c_X7_work (l : Launch) (G : GG) (M : HM) (t h0 : Nat) (Z : LZ) (N : Nat → Nat) (U : Tb) (now : Int32) (p0 p1 : Int32) (i : Nat) (hL : MdR G M t h0 Z N U now) (hi : i < lmR N 1) (hgo : ¬ U 1 i 7 = (-1 : Int32) → ¬ U 1 i 7 < 0 ∧ ix (U 1 i 7) < N 0) : Mv l yX7_work (.code yX7_work cX7_work 8 none :: AL) 2 43 0 0 [.ref h0, .int p0, .ref (Z.2.1 1 i), .int p1] G M (fun M' => ∃ Z', MdR G M' t h0 Z' N (u_X7_work N U now p0 p1 i) now ∧ Fr t M M') := by
  refine Mv.go (by decide) (Nat.le_of_ble_eq_true rfl) ?_
  intro p e s m below meth c ls hx hb hr hml hown hlocks hname hts hK hM hl
  have hown : s.vm.findClass RX7 = some m.cls := hown
  have hl : lv_has ls 8 [(0, .ref h0), (1, .int p0), (2, .ref (Z.2.1 1 i)), (3, .int p1)] := hl
  refine lv_aload_n hx hb dX7_work_0 rfl (lv_at hl 2 rfl) ?_
  refine lv_bipush (v := (6 : Int32)) hx hb dX7_work_1 (by decide) ?_
  refine ia11_6 hx hb hK hM (hL.row (k := 1) (by decide) hi) dX7_work_3 ?_
  refine lv_iconst (v := (1 : Int32)) hx hb dX7_work_4 (by decide) ?_
  refine lv_icmp_eq (tgt := 16) hx hb dX7_work_5 (by decide) (fun c1 => ?_) (fun c1 => ?_)
  · exact g_vret hx hb hr hlocks hM (Nat.zero_le _) (Nat.zero_le _) ⟨Z, (by unfold u_X7_work; rw [if_pos c1]; exact hL), Fr.rf⟩ dX7_work_16
  · refine lv_aload_n hx hb dX7_work_8 rfl (lv_at hl 2 rfl) ?_
    refine lv_bipush (v := (7 : Int32)) hx hb dX7_work_9 (by decide) ?_
    refine ia11_7 hx hb hK hM (hL.row (k := 1) (by decide) hi) dX7_work_11 ?_
    refine lv_iconst (v := (-1 : Int32)) hx hb dX7_work_12 (by decide) ?_
    refine lv_icmp_ne (tgt := 17) hx hb dX7_work_13 (by decide) (fun c2 => ?_) (fun c2 => ?_)
    · refine lv_aload_n hx hb dX7_work_17 rfl (lv_at hl 0 rfl) ?_
      refine fg_X7_11 hx hb hts hown hK hM hL.1 dX7_work_18 ?_
      refine lv_aload_n hx hb dX7_work_21 rfl (lv_at hl 2 rfl) ?_
      refine lv_bipush (v := (7 : Int32)) hx hb dX7_work_22 (by decide) ?_
      refine ia11_7 hx hb hK hM (hL.row (k := 1) (by decide) hi) dX7_work_24 ?_
      have hg := hgo c2
      refine g_aaldR hx hb hK hM (hL.outer (k := 0) (by decide)) hg.1 (Nat.lt_of_lt_of_le hg.2 (hL.cnt (k := 0) (by decide))) dX7_work_25 ?_
      refine lv_astore (lv' := [(4, .ref (Z.2.1 0 (ix (U 1 i 7)))), (0, .ref h0), (1, .int p0), (2, .ref (Z.2.1 1 i)), (3, .int p1)]) hx hb dX7_work_26 hl (by decide) rfl (fun ls hl => ?_)
      refine lv_aload_n hx hb dX7_work_28 rfl (lv_at hl 3 rfl) ?_
      refine lv_iconst (v := (1 : Int32)) hx hb dX7_work_29 (by decide) ?_
      refine ia11_1 hx hb hK hM (hL.row (k := 1) (by decide) hi) dX7_work_30 ?_
      refine lv_aload hx hb dX7_work_31 (lv_at hl 0 rfl) ?_
      refine lv_iconst (v := (1 : Int32)) hx hb dX7_work_33 (by decide) ?_
      refine ia11_1 hx hb hK hM (hL.row (k := 0) (by decide) (Nat.lt_of_lt_of_le hg.2 (hL.cnt (k := 0) (by decide)))) dX7_work_34 ?_
      refine lv_icmp_eq (tgt := 49) hx hb dX7_work_35 (by decide) (fun c3 => ?_) (fun c3 => ?_)
      · refine lv_aload hx hb dX7_work_49 (lv_at hl 0 rfl) ?_
        refine g_callSi (n9 := 1) (As := [.ref (Z.2.1 0 (ix (U 1 i 7)))]) (rest := []) hx hb hml hl.1 hown hts hK hM (c_X7_brings l G _ (Z.2.1 0 (ix (U 1 i 7))) t (U 0 (ix (U 1 i 7)) 0) (U 0 (ix (U 1 i 7)) 1) (U 0 (ix (U 1 i 7)) 2) (U 0 (ix (U 1 i 7)) 3) (U 0 (ix (U 1 i 7)) 4) (U 0 (ix (U 1 i 7)) 5) (U 0 (ix (U 1 i 7)) 6) (U 0 (ix (U 1 i 7)) 7) (U 0 (ix (U 1 i 7)) 8) (U 0 (ix (U 1 i 7)) 9) (U 0 (ix (U 1 i 7)) 10) (hL.row (k := 0) (by decide) (Nat.lt_of_lt_of_le hg.2 (hL.cnt (k := 0) (by decide))))) wm_X7_89 wt_X7_brings wn_X7 wc_X7_brings (by decide +kernel) ⟨Nat.le_of_ble_eq_true rfl, Nat.le_of_ble_eq_true rfl⟩ ⟨Nat.le_of_ble_eq_true rfl, Nat.le_of_ble_eq_true rfl⟩ rfl (Nat.le_of_ble_eq_true rfl) rfl dX7_work_51 (fun r_51 M1 H locs hq hM => ?_)
        have hq1 := hq.1.symm
        have hq2 := hq.2.symm
        subst hq1 hq2
        refine lv_istore (lv' := [(5, .int (t_X7_brings_0 (U 0 (ix (U 1 i 7)) 6) (U 0 (ix (U 1 i 7)) 9))), (4, .ref (Z.2.1 0 (ix (U 1 i 7)))), (0, .ref h0), (1, .int p0), (2, .ref (Z.2.1 1 i)), (3, .int p1)]) hx hb dX7_work_54 hl (by decide) rfl (fun ls hl => ?_)
        refine lv_aload_n hx hb dX7_work_56 rfl (lv_at hl 4 rfl) ?_
        refine lv_iconst (v := (0 : Int32)) hx hb dX7_work_57 (by decide) ?_
        refine ia11_0 hx hb hK hM (hL.row (k := 1) (by decide) hi) dX7_work_58 ?_
        refine lv_aload hx hb dX7_work_59 (lv_at hl 1 rfl) ?_
        refine lv_iconst (v := (2 : Int32)) hx hb dX7_work_61 (by decide) ?_
        refine ia11_2 hx hb hK hM (hL.row (k := 0) (by decide) (Nat.lt_of_lt_of_le hg.2 (hL.cnt (k := 0) (by decide)))) dX7_work_62 ?_
        refine lv_aload hx hb dX7_work_63 (lv_at hl 1 rfl) ?_
        refine lv_iconst (v := (3 : Int32)) hx hb dX7_work_65 (by decide) ?_
        refine ia11_3 hx hb hK hM (hL.row (k := 0) (by decide) (Nat.lt_of_lt_of_le hg.2 (hL.cnt (k := 0) (by decide)))) dX7_work_66 ?_
        refine lv_isub hx hb dX7_work_67 ?_
        refine va_mmin hx hb (hml.trans hl.1.symm) hown (hts _ wm_X7_55) (hts _ wt_mmin) (hts _ wn_java_lang_Math) (hts _ wc_mmin) (Nat.le_of_ble_eq_true rfl) (Nat.le_of_ble_eq_true rfl) (Nat.zero_le _) (Nat.zero_le _) dX7_work_68 ?_
        refine lv_istore (lv' := [(6, .int (mn (U 1 i 0) ((U 0 (ix (U 1 i 7)) 2) - (U 0 (ix (U 1 i 7)) 3)))), (5, .int (t_X7_brings_0 (U 0 (ix (U 1 i 7)) 6) (U 0 (ix (U 1 i 7)) 9))), (4, .ref (Z.2.1 0 (ix (U 1 i 7)))), (0, .ref h0), (1, .int p0), (2, .ref (Z.2.1 1 i)), (3, .int p1)]) hx hb dX7_work_71 hl (by decide) rfl (fun ls hl => ?_)
        refine lv_iload hx hb dX7_work_73 (lv_at hl 1 rfl) ?_
        have J95 : ∀ (H : Heap) (locs : List Loc) (ls : Array Slot), Wd G M s H locs → lv_has ls 8 [(6, .int (a_X7_work U i)), (5, .int (t_X7_brings_0 (U 0 (ix (U 1 i 7)) 6) (U 0 (ix (U 1 i 7)) 9))), (4, .ref (Z.2.1 0 (ix (U 1 i 7)))), (0, .ref h0), (1, .int p0), (2, .ref (Z.2.1 1 i)), (3, .int p1)] → W p l e ({ frames := 2, cells := 0, slots := 0, locals := 43 } : Room) s m [.ref h0, .int p0, .ref (Z.2.1 1 i), .int p1].toArray below meth c H locs 0 0 (MQ below (va_Qv (fun M' => ∃ Z', MdR G M' t h0 Z' N (u_X7_work N U now p0 p1 i) now ∧ Fr t M M') (gB G) (gA G)) [.ref h0, .int p0, .ref (Z.2.1 1 i), .int p1].toArray s 0 0 (gA G)) (F0 m 95 ls []) := by
          intro H locs ls hM hl
          refine lv_iload_n hx hb dX7_work_95 rfl (lv_at hl 6 rfl) ?_
          refine lv_if_gt (tgt := 147) hx hb dX7_work_96 (by decide) (fun c4 => ?_) (fun c4 => ?_)
          · refine lv_aload_n hx hb dX7_work_147 rfl (lv_at hl 5 rfl) ?_
            refine lv_bipush (v := (9 : Int32)) hx hb dX7_work_148 (by decide) ?_
            refine lv_dup2_11 hx hb dX7_work_150 rfl rfl ?_
            refine ia11_9 hx hb hK hM (hL.row (k := 1) (by decide) hi) dX7_work_151 ?_
            refine lv_iconst (v := (1 : Int32)) hx hb dX7_work_152 (by decide) ?_
            refine lv_iadd hx hb dX7_work_153 ?_
            refine is11_9 hx hb hK hM (hL.row (k := 1) (by decide) hi) dX7_work_154 (fun H locs hM => ?_)
            obtain ⟨M1, eM1⟩ : ∃ z, z = hu M (Z.2.1 1 i) t (.inl (G.2.1 0, 11, .inl (rw11 (U 1 i 0) (U 1 i 1) (U 1 i 2) (U 1 i 3) (U 1 i 4) (U 1 i 5) (U 1 i 6) (U 1 i 7) (U 1 i 8) ((U 1 i 9) + (1 : Int32)) (U 1 i 10)))) := ⟨_, rfl⟩
            rw [← eM1] at hM
            have hL1 : MdR G M1 t h0 Z N (tu U 1 i (rw11 (U 1 i 0) (U 1 i 1) (U 1 i 2) (U 1 i 3) (U 1 i 4) (U 1 i 5) (U 1 i 6) (U 1 i 7) (U 1 i 8) ((U 1 i 9) + (1 : Int32)) (U 1 i 10))) now := by rw [eM1]; exact hL.setRow (k := 1) (by decide) hi (rw11 (U 1 i 0) (U 1 i 1) (U 1 i 2) (U 1 i 3) (U 1 i 4) (U 1 i 5) (U 1 i 6) (U 1 i 7) (U 1 i 8) ((U 1 i 9) + (1 : Int32)) (U 1 i 10))
            have hF1 : Fr t M M1 := by rw [eM1]; exact Fr.tr Fr.rf (Fr.up (hL.row (k := 1) (by decide) hi))
            have hr1_1 : M1 (Z.2.1 1 i) = some (t, (.inl (G.2.1 0, 11, .inl (rw11 (U 1 i 0) (U 1 i 1) (U 1 i 2) (U 1 i 3) (U 1 i 4) (U 1 i 5) (U 1 i 6) (U 1 i 7) (U 1 i 8) ((U 1 i 9) + (1 : Int32)) (U 1 i 10))))) := by rw [eM1]; exact hu_s
            have hr1_0 : M1 (Z.2.1 0 (ix (U 1 i 7))) = some (t, (.inl (G.2.1 0, 11, .inl (rw11 (U 0 (ix (U 1 i 7)) 0) (U 0 (ix (U 1 i 7)) 1) (U 0 (ix (U 1 i 7)) 2) (U 0 (ix (U 1 i 7)) 3) (U 0 (ix (U 1 i 7)) 4) (U 0 (ix (U 1 i 7)) 5) (U 0 (ix (U 1 i 7)) 6) (U 0 (ix (U 1 i 7)) 7) (U 0 (ix (U 1 i 7)) 8) (U 0 (ix (U 1 i 7)) 9) (U 0 (ix (U 1 i 7)) 10))))) := by rw [eM1]; exact hu_n (hL.rne (by decide) (by decide) (Nat.lt_of_lt_of_le hg.2 (hL.cnt (k := 0) (by decide))) hi (by decide)) (hL.row (k := 0) (by decide) (Nat.lt_of_lt_of_le hg.2 (hL.cnt (k := 0) (by decide))))
            exact g_vret hx hb hr hlocks hM (Nat.zero_le _) (Nat.zero_le _) ⟨Z, (by unfold u_X7_work; rw [if_neg c1, if_neg c2, if_pos c3, if_pos c4]; exact hL1), hF1⟩ dX7_work_155
          · refine lv_aload hx hb dX7_work_99 (lv_at hl 2 rfl) ?_
            refine lv_iconst (v := (4 : Int32)) hx hb dX7_work_101 (by decide) ?_
            refine ia11_4 hx hb hK hM (hL.row (k := 0) (by decide) (Nat.lt_of_lt_of_le hg.2 (hL.cnt (k := 0) (by decide)))) dX7_work_102 ?_
            refine lv_bipush (v := (80 : Int32)) hx hb dX7_work_103 (by decide) ?_
            refine lv_icmp_lt (tgt := 147) hx hb dX7_work_105 (by decide) (fun c5 => ?_) (fun c5 => ?_)
            · refine lv_aload_n hx hb dX7_work_147 rfl (lv_at hl 5 rfl) ?_
              refine lv_bipush (v := (9 : Int32)) hx hb dX7_work_148 (by decide) ?_
              refine lv_dup2_11 hx hb dX7_work_150 rfl rfl ?_
              refine ia11_9 hx hb hK hM (hL.row (k := 1) (by decide) hi) dX7_work_151 ?_
              refine lv_iconst (v := (1 : Int32)) hx hb dX7_work_152 (by decide) ?_
              refine lv_iadd hx hb dX7_work_153 ?_
              refine is11_9 hx hb hK hM (hL.row (k := 1) (by decide) hi) dX7_work_154 (fun H locs hM => ?_)
              obtain ⟨M1, eM1⟩ : ∃ z, z = hu M (Z.2.1 1 i) t (.inl (G.2.1 0, 11, .inl (rw11 (U 1 i 0) (U 1 i 1) (U 1 i 2) (U 1 i 3) (U 1 i 4) (U 1 i 5) (U 1 i 6) (U 1 i 7) (U 1 i 8) ((U 1 i 9) + (1 : Int32)) (U 1 i 10)))) := ⟨_, rfl⟩
              rw [← eM1] at hM
              have hL1 : MdR G M1 t h0 Z N (tu U 1 i (rw11 (U 1 i 0) (U 1 i 1) (U 1 i 2) (U 1 i 3) (U 1 i 4) (U 1 i 5) (U 1 i 6) (U 1 i 7) (U 1 i 8) ((U 1 i 9) + (1 : Int32)) (U 1 i 10))) now := by rw [eM1]; exact hL.setRow (k := 1) (by decide) hi (rw11 (U 1 i 0) (U 1 i 1) (U 1 i 2) (U 1 i 3) (U 1 i 4) (U 1 i 5) (U 1 i 6) (U 1 i 7) (U 1 i 8) ((U 1 i 9) + (1 : Int32)) (U 1 i 10))
              have hF1 : Fr t M M1 := by rw [eM1]; exact Fr.tr Fr.rf (Fr.up (hL.row (k := 1) (by decide) hi))
              have hr1_1 : M1 (Z.2.1 1 i) = some (t, (.inl (G.2.1 0, 11, .inl (rw11 (U 1 i 0) (U 1 i 1) (U 1 i 2) (U 1 i 3) (U 1 i 4) (U 1 i 5) (U 1 i 6) (U 1 i 7) (U 1 i 8) ((U 1 i 9) + (1 : Int32)) (U 1 i 10))))) := by rw [eM1]; exact hu_s
              have hr1_0 : M1 (Z.2.1 0 (ix (U 1 i 7))) = some (t, (.inl (G.2.1 0, 11, .inl (rw11 (U 0 (ix (U 1 i 7)) 0) (U 0 (ix (U 1 i 7)) 1) (U 0 (ix (U 1 i 7)) 2) (U 0 (ix (U 1 i 7)) 3) (U 0 (ix (U 1 i 7)) 4) (U 0 (ix (U 1 i 7)) 5) (U 0 (ix (U 1 i 7)) 6) (U 0 (ix (U 1 i 7)) 7) (U 0 (ix (U 1 i 7)) 8) (U 0 (ix (U 1 i 7)) 9) (U 0 (ix (U 1 i 7)) 10))))) := by rw [eM1]; exact hu_n (hL.rne (by decide) (by decide) (Nat.lt_of_lt_of_le hg.2 (hL.cnt (k := 0) (by decide))) hi (by decide)) (hL.row (k := 0) (by decide) (Nat.lt_of_lt_of_le hg.2 (hL.cnt (k := 0) (by decide))))
              exact g_vret hx hb hr hlocks hM (Nat.zero_le _) (Nat.zero_le _) ⟨Z, (by unfold u_X7_work; rw [if_neg c1, if_neg c2, if_pos c3, if_neg c4, if_pos c5]; exact hL1), hF1⟩ dX7_work_155
            · refine lv_aload hx hb dX7_work_108 (lv_at hl 2 rfl) ?_
              refine lv_iconst (v := (5 : Int32)) hx hb dX7_work_110 (by decide) ?_
              refine ia11_5 hx hb hK hM (hL.row (k := 0) (by decide) (Nat.lt_of_lt_of_le hg.2 (hL.cnt (k := 0) (by decide)))) dX7_work_111 ?_
              refine lv_bipush (v := (20 : Int32)) hx hb dX7_work_112 (by decide) ?_
              refine lv_icmp_ge (tgt := 147) hx hb dX7_work_114 (by decide) (fun c6 => ?_) (fun c6 => ?_)
              · refine lv_aload_n hx hb dX7_work_147 rfl (lv_at hl 5 rfl) ?_
                refine lv_bipush (v := (9 : Int32)) hx hb dX7_work_148 (by decide) ?_
                refine lv_dup2_11 hx hb dX7_work_150 rfl rfl ?_
                refine ia11_9 hx hb hK hM (hL.row (k := 1) (by decide) hi) dX7_work_151 ?_
                refine lv_iconst (v := (1 : Int32)) hx hb dX7_work_152 (by decide) ?_
                refine lv_iadd hx hb dX7_work_153 ?_
                refine is11_9 hx hb hK hM (hL.row (k := 1) (by decide) hi) dX7_work_154 (fun H locs hM => ?_)
                obtain ⟨M1, eM1⟩ : ∃ z, z = hu M (Z.2.1 1 i) t (.inl (G.2.1 0, 11, .inl (rw11 (U 1 i 0) (U 1 i 1) (U 1 i 2) (U 1 i 3) (U 1 i 4) (U 1 i 5) (U 1 i 6) (U 1 i 7) (U 1 i 8) ((U 1 i 9) + (1 : Int32)) (U 1 i 10)))) := ⟨_, rfl⟩
                rw [← eM1] at hM
                have hL1 : MdR G M1 t h0 Z N (tu U 1 i (rw11 (U 1 i 0) (U 1 i 1) (U 1 i 2) (U 1 i 3) (U 1 i 4) (U 1 i 5) (U 1 i 6) (U 1 i 7) (U 1 i 8) ((U 1 i 9) + (1 : Int32)) (U 1 i 10))) now := by rw [eM1]; exact hL.setRow (k := 1) (by decide) hi (rw11 (U 1 i 0) (U 1 i 1) (U 1 i 2) (U 1 i 3) (U 1 i 4) (U 1 i 5) (U 1 i 6) (U 1 i 7) (U 1 i 8) ((U 1 i 9) + (1 : Int32)) (U 1 i 10))
                have hF1 : Fr t M M1 := by rw [eM1]; exact Fr.tr Fr.rf (Fr.up (hL.row (k := 1) (by decide) hi))
                have hr1_1 : M1 (Z.2.1 1 i) = some (t, (.inl (G.2.1 0, 11, .inl (rw11 (U 1 i 0) (U 1 i 1) (U 1 i 2) (U 1 i 3) (U 1 i 4) (U 1 i 5) (U 1 i 6) (U 1 i 7) (U 1 i 8) ((U 1 i 9) + (1 : Int32)) (U 1 i 10))))) := by rw [eM1]; exact hu_s
                have hr1_0 : M1 (Z.2.1 0 (ix (U 1 i 7))) = some (t, (.inl (G.2.1 0, 11, .inl (rw11 (U 0 (ix (U 1 i 7)) 0) (U 0 (ix (U 1 i 7)) 1) (U 0 (ix (U 1 i 7)) 2) (U 0 (ix (U 1 i 7)) 3) (U 0 (ix (U 1 i 7)) 4) (U 0 (ix (U 1 i 7)) 5) (U 0 (ix (U 1 i 7)) 6) (U 0 (ix (U 1 i 7)) 7) (U 0 (ix (U 1 i 7)) 8) (U 0 (ix (U 1 i 7)) 9) (U 0 (ix (U 1 i 7)) 10))))) := by rw [eM1]; exact hu_n (hL.rne (by decide) (by decide) (Nat.lt_of_lt_of_le hg.2 (hL.cnt (k := 0) (by decide))) hi (by decide)) (hL.row (k := 0) (by decide) (Nat.lt_of_lt_of_le hg.2 (hL.cnt (k := 0) (by decide))))
                exact g_vret hx hb hr hlocks hM (Nat.zero_le _) (Nat.zero_le _) ⟨Z, (by unfold u_X7_work; rw [if_neg c1, if_neg c2, if_pos c3, if_neg c4, if_neg c5, if_pos c6]; exact hL1), hF1⟩ dX7_work_155
              · refine lv_aload_n hx hb dX7_work_117 rfl (lv_at hl 3 rfl) ?_
                refine g_callVi (n9 := 0) (As := []) (rest := []) hx hb hml hl.1 hown hts hK hM (c_X7_clock l G _ t h0 Z N U now hL) wm_X7_64 wi_X7_clock wl_X7_clock wn_X7 wc_X7_clock (by decide +kernel) (hM.recv hK (ci := 8) rfl hL.1) ⟨Nat.le_of_ble_eq_true rfl, Nat.le_of_ble_eq_true rfl⟩ ⟨Nat.le_of_ble_eq_true rfl, Nat.le_of_ble_eq_true rfl⟩ rfl (Nat.le_of_ble_eq_true rfl) rfl dX7_work_118 (fun r_118 Mz H locs hq hM => ?_)
                have hq1 := hq.1.symm
                have hq2 := hq.2.symm
                subst hq1 hq2
                refine lv_bipush (v := (8 : Int32)) hx hb dX7_work_121 (by decide) ?_
                refine lv_icmp_lt (tgt := 147) hx hb dX7_work_123 (by decide) (fun c7 => ?_) (fun c7 => ?_)
                · refine lv_aload_n hx hb dX7_work_147 rfl (lv_at hl 5 rfl) ?_
                  refine lv_bipush (v := (9 : Int32)) hx hb dX7_work_148 (by decide) ?_
                  refine lv_dup2_11 hx hb dX7_work_150 rfl rfl ?_
                  refine ia11_9 hx hb hK hM (hL.row (k := 1) (by decide) hi) dX7_work_151 ?_
                  refine lv_iconst (v := (1 : Int32)) hx hb dX7_work_152 (by decide) ?_
                  refine lv_iadd hx hb dX7_work_153 ?_
                  refine is11_9 hx hb hK hM (hL.row (k := 1) (by decide) hi) dX7_work_154 (fun H locs hM => ?_)
                  obtain ⟨M1, eM1⟩ : ∃ z, z = hu M (Z.2.1 1 i) t (.inl (G.2.1 0, 11, .inl (rw11 (U 1 i 0) (U 1 i 1) (U 1 i 2) (U 1 i 3) (U 1 i 4) (U 1 i 5) (U 1 i 6) (U 1 i 7) (U 1 i 8) ((U 1 i 9) + (1 : Int32)) (U 1 i 10)))) := ⟨_, rfl⟩
                  rw [← eM1] at hM
                  have hL1 : MdR G M1 t h0 Z N (tu U 1 i (rw11 (U 1 i 0) (U 1 i 1) (U 1 i 2) (U 1 i 3) (U 1 i 4) (U 1 i 5) (U 1 i 6) (U 1 i 7) (U 1 i 8) ((U 1 i 9) + (1 : Int32)) (U 1 i 10))) now := by rw [eM1]; exact hL.setRow (k := 1) (by decide) hi (rw11 (U 1 i 0) (U 1 i 1) (U 1 i 2) (U 1 i 3) (U 1 i 4) (U 1 i 5) (U 1 i 6) (U 1 i 7) (U 1 i 8) ((U 1 i 9) + (1 : Int32)) (U 1 i 10))
                  have hF1 : Fr t M M1 := by rw [eM1]; exact Fr.tr Fr.rf (Fr.up (hL.row (k := 1) (by decide) hi))
                  have hr1_1 : M1 (Z.2.1 1 i) = some (t, (.inl (G.2.1 0, 11, .inl (rw11 (U 1 i 0) (U 1 i 1) (U 1 i 2) (U 1 i 3) (U 1 i 4) (U 1 i 5) (U 1 i 6) (U 1 i 7) (U 1 i 8) ((U 1 i 9) + (1 : Int32)) (U 1 i 10))))) := by rw [eM1]; exact hu_s
                  have hr1_0 : M1 (Z.2.1 0 (ix (U 1 i 7))) = some (t, (.inl (G.2.1 0, 11, .inl (rw11 (U 0 (ix (U 1 i 7)) 0) (U 0 (ix (U 1 i 7)) 1) (U 0 (ix (U 1 i 7)) 2) (U 0 (ix (U 1 i 7)) 3) (U 0 (ix (U 1 i 7)) 4) (U 0 (ix (U 1 i 7)) 5) (U 0 (ix (U 1 i 7)) 6) (U 0 (ix (U 1 i 7)) 7) (U 0 (ix (U 1 i 7)) 8) (U 0 (ix (U 1 i 7)) 9) (U 0 (ix (U 1 i 7)) 10))))) := by rw [eM1]; exact hu_n (hL.rne (by decide) (by decide) (Nat.lt_of_lt_of_le hg.2 (hL.cnt (k := 0) (by decide))) hi (by decide)) (hL.row (k := 0) (by decide) (Nat.lt_of_lt_of_le hg.2 (hL.cnt (k := 0) (by decide))))
                  exact g_vret hx hb hr hlocks hM (Nat.zero_le _) (Nat.zero_le _) ⟨Z, (by unfold u_X7_work; rw [if_neg c1, if_neg c2, if_pos c3, if_neg c4, if_neg c5, if_neg c6, if_pos c7]; exact hL1), hF1⟩ dX7_work_155
                · refine lv_aload_n hx hb dX7_work_126 rfl (lv_at hl 5 rfl) ?_
                  refine lv_iconst (v := (2 : Int32)) hx hb dX7_work_127 (by decide) ?_
                  refine ia11_2 hx hb hK hM (hL.row (k := 1) (by decide) hi) dX7_work_128 ?_
                  refine lv_if_le (tgt := 142) hx hb dX7_work_129 (by decide) (fun c8 => ?_) (fun c8 => ?_)
                  · refine lv_iload hx hb dX7_work_142 (lv_at hl 0 rfl) ?_
                    refine lv_if_ne (tgt := 156) hx hb dX7_work_144 (by decide) (fun c9 => ?_) (fun c9 => ?_)
                    · refine lv_iload hx hb dX7_work_156 (lv_at hl 0 rfl) ?_
                      refine lv_iload hx hb dX7_work_158 (lv_at hl 1 rfl) ?_
                      refine lv_imul hx hb dX7_work_160 ?_
                      refine lv_istore (lv' := [(7, .int ((a_X7_work U i) * (t_X7_brings_0 (U 0 (ix (U 1 i 7)) 6) (U 0 (ix (U 1 i 7)) 9)))), (6, .int (a_X7_work U i)), (5, .int (t_X7_brings_0 (U 0 (ix (U 1 i 7)) 6) (U 0 (ix (U 1 i 7)) 9))), (4, .ref (Z.2.1 0 (ix (U 1 i 7)))), (0, .ref h0), (1, .int p0), (2, .ref (Z.2.1 1 i)), (3, .int p1)]) hx hb dX7_work_161 hl (by decide) rfl (fun ls hl => ?_)
                      refine lv_aload hx hb dX7_work_163 (lv_at hl 3 rfl) ?_
                      refine lv_iconst (v := (3 : Int32)) hx hb dX7_work_165 (by decide) ?_
                      refine lv_dup2_11 hx hb dX7_work_166 rfl rfl ?_
                      refine ia11_3 hx hb hK hM (hL.row (k := 0) (by decide) (Nat.lt_of_lt_of_le hg.2 (hL.cnt (k := 0) (by decide)))) dX7_work_167 ?_
                      refine lv_iload hx hb dX7_work_168 (lv_at hl 1 rfl) ?_
                      refine lv_iadd hx hb dX7_work_170 ?_
                      refine is11_3 hx hb hK hM (hL.row (k := 0) (by decide) (Nat.lt_of_lt_of_le hg.2 (hL.cnt (k := 0) (by decide)))) dX7_work_171 (fun H locs hM => ?_)
                      refine lv_aload hx hb dX7_work_172 (lv_at hl 3 rfl) ?_
                      refine lv_bipush (v := (7 : Int32)) hx hb dX7_work_174 (by decide) ?_
                      refine lv_dup2_11 hx hb dX7_work_176 rfl rfl ?_
                      refine ia11_7 hx hb hK hM hu_s dX7_work_177 ?_
                      refine lv_iload hx hb dX7_work_178 (lv_at hl 0 rfl) ?_
                      refine lv_bipush (v := (96 : Int32)) hx hb dX7_work_180 (by decide) ?_
                      refine lv_iconst (v := (3 : Int32)) hx hb dX7_work_182 (by decide) ?_
                      refine lv_iload_n hx hb dX7_work_183 rfl (lv_at hl 5 rfl) ?_
                      refine lv_imul hx hb dX7_work_184 ?_
                      refine lv_iadd hx hb dX7_work_185 ?_
                      refine lv_aload_n hx hb dX7_work_186 rfl (lv_at hl 6 rfl) ?_
                      refine lv_iconst (v := (5 : Int32)) hx hb dX7_work_187 (by decide) ?_
                      refine ia11_5 hx hb hK hM (hu_n (hL.rne (by decide) (by decide) hi (Nat.lt_of_lt_of_le hg.2 (hL.cnt (k := 0) (by decide))) (by decide)) (hL.row (k := 1) (by decide) hi)) dX7_work_188 ?_
                      refine lv_bipush (v := (20 : Int32)) hx hb dX7_work_189 (by decide) ?_
                      refine lv_idiv hx hb dX7_work_191 (by decide) ?_
                      refine lv_iadd hx hb dX7_work_192 ?_
                      refine lv_imul hx hb dX7_work_193 ?_
                      refine lv_bipush (v := (100 : Int32)) hx hb dX7_work_194 (by decide) ?_
                      refine lv_idiv hx hb dX7_work_196 (by decide) ?_
                      refine lv_iadd hx hb dX7_work_197 ?_
                      refine is11_7 hx hb hK hM hu_s dX7_work_198 (fun H locs hM => ?_)
                      replace hM := hM.eq (hu_u _ _ _ _ _ _)
                      refine lv_iload hx hb dX7_work_199 (lv_at hl 0 rfl) ?_
                      refine lv_if_le (tgt := 245) hx hb dX7_work_201 (by decide) (fun c10 => ?_) (fun c10 => ?_)
                      · refine lv_aload_n hx hb dX7_work_245 rfl (lv_at hl 6 rfl) ?_
                        refine lv_bipush (v := (10 : Int32)) hx hb dX7_work_246 (by decide) ?_
                        refine lv_dup2_11 hx hb dX7_work_248 rfl rfl ?_
                        refine ia11_10 hx hb hK hM (hu_n (hL.rne (by decide) (by decide) hi (Nat.lt_of_lt_of_le hg.2 (hL.cnt (k := 0) (by decide))) (by decide)) (hL.row (k := 1) (by decide) hi)) dX7_work_249 ?_
                        refine lv_iload hx hb dX7_work_250 (lv_at hl 0 rfl) ?_
                        refine lv_iadd hx hb dX7_work_252 ?_
                        refine is11_10 hx hb hK hM (hu_n (hL.rne (by decide) (by decide) hi (Nat.lt_of_lt_of_le hg.2 (hL.cnt (k := 0) (by decide))) (by decide)) (hL.row (k := 1) (by decide) hi)) dX7_work_253 (fun H locs hM => ?_)
                        refine lv_aload_n hx hb dX7_work_254 rfl (lv_at hl 6 rfl) ?_
                        refine lv_bipush (v := (8 : Int32)) hx hb dX7_work_255 (by decide) ?_
                        refine lv_dup2_11 hx hb dX7_work_257 rfl rfl ?_
                        refine ia11_8 hx hb hK hM hu_s dX7_work_258 ?_
                        refine lv_iload hx hb dX7_work_259 (lv_at hl 1 rfl) ?_
                        refine lv_iadd hx hb dX7_work_261 ?_
                        refine is11_8 hx hb hK hM hu_s dX7_work_262 (fun H locs hM => ?_)
                        replace hM := hM.eq (hu_u _ _ _ _ _ _)
                        refine lv_aload_n hx hb dX7_work_263 rfl (lv_at hl 6 rfl) ?_
                        refine lv_iconst (v := (5 : Int32)) hx hb dX7_work_264 (by decide) ?_
                        refine lv_dup2_11 hx hb dX7_work_265 rfl rfl ?_
                        refine ia11_5 hx hb hK hM hu_s dX7_work_266 ?_
                        refine lv_iload hx hb dX7_work_267 (lv_at hl 1 rfl) ?_
                        refine lv_iadd hx hb dX7_work_269 ?_
                        refine is11_5 hx hb hK hM hu_s dX7_work_270 (fun H locs hM => ?_)
                        replace hM := hM.eq (hu_u _ _ _ _ _ _)
                        refine lv_aload_n hx hb dX7_work_271 rfl (lv_at hl 6 rfl) ?_
                        refine lv_bipush (v := (6 : Int32)) hx hb dX7_work_272 (by decide) ?_
                        refine lv_aload_n hx hb dX7_work_274 rfl (lv_at hl 6 rfl) ?_
                        refine lv_iconst (v := (5 : Int32)) hx hb dX7_work_275 (by decide) ?_
                        refine ia11_5 hx hb hK hM hu_s dX7_work_276 ?_
                        refine lv_bipush (v := (100 : Int32)) hx hb dX7_work_277 (by decide) ?_
                        refine lv_icmp_lt (tgt := 286) hx hb dX7_work_279 (by decide) (fun c11 => ?_) (fun c11 => ?_)
                        · refine lv_iconst (v := (0 : Int32)) hx hb dX7_work_286 (by decide) ?_
                          refine is11_6 hx hb hK hM hu_s dX7_work_287 (fun H locs hM => ?_)
                          replace hM := hM.eq (hu_u _ _ _ _ _ _)
                          obtain ⟨M1, eM1⟩ : ∃ z, z = hu M (Z.2.1 0 (ix (U 1 i 7))) t (.inl (G.2.1 0, 11, .inl (rw11 (U 0 (ix (U 1 i 7)) 0) (U 0 (ix (U 1 i 7)) 1) (U 0 (ix (U 1 i 7)) 2) ((U 0 (ix (U 1 i 7)) 3) + (a_X7_work U i)) (U 0 (ix (U 1 i 7)) 4) (U 0 (ix (U 1 i 7)) 5) (U 0 (ix (U 1 i 7)) 6) ((U 0 (ix (U 1 i 7)) 7) + ((((a_X7_work U i) * (t_X7_brings_0 (U 0 (ix (U 1 i 7)) 6) (U 0 (ix (U 1 i 7)) 9))) * (((96 : Int32) + ((3 : Int32) * p0)) + ((U 1 i 5) / (20 : Int32)))) / (100 : Int32))) (U 0 (ix (U 1 i 7)) 8) (U 0 (ix (U 1 i 7)) 9) (U 0 (ix (U 1 i 7)) 10)))) := ⟨_, rfl⟩
                          rw [← eM1] at hM
                          have hL1 : MdR G M1 t h0 Z N (tu U 0 (ix (U 1 i 7)) (rw11 (U 0 (ix (U 1 i 7)) 0) (U 0 (ix (U 1 i 7)) 1) (U 0 (ix (U 1 i 7)) 2) ((U 0 (ix (U 1 i 7)) 3) + (a_X7_work U i)) (U 0 (ix (U 1 i 7)) 4) (U 0 (ix (U 1 i 7)) 5) (U 0 (ix (U 1 i 7)) 6) ((U 0 (ix (U 1 i 7)) 7) + ((((a_X7_work U i) * (t_X7_brings_0 (U 0 (ix (U 1 i 7)) 6) (U 0 (ix (U 1 i 7)) 9))) * (((96 : Int32) + ((3 : Int32) * p0)) + ((U 1 i 5) / (20 : Int32)))) / (100 : Int32))) (U 0 (ix (U 1 i 7)) 8) (U 0 (ix (U 1 i 7)) 9) (U 0 (ix (U 1 i 7)) 10))) now := by rw [eM1]; exact hL.setRow (k := 0) (by decide) (Nat.lt_of_lt_of_le hg.2 (hL.cnt (k := 0) (by decide))) (rw11 (U 0 (ix (U 1 i 7)) 0) (U 0 (ix (U 1 i 7)) 1) (U 0 (ix (U 1 i 7)) 2) ((U 0 (ix (U 1 i 7)) 3) + (a_X7_work U i)) (U 0 (ix (U 1 i 7)) 4) (U 0 (ix (U 1 i 7)) 5) (U 0 (ix (U 1 i 7)) 6) ((U 0 (ix (U 1 i 7)) 7) + ((((a_X7_work U i) * (t_X7_brings_0 (U 0 (ix (U 1 i 7)) 6) (U 0 (ix (U 1 i 7)) 9))) * (((96 : Int32) + ((3 : Int32) * p0)) + ((U 1 i 5) / (20 : Int32)))) / (100 : Int32))) (U 0 (ix (U 1 i 7)) 8) (U 0 (ix (U 1 i 7)) 9) (U 0 (ix (U 1 i 7)) 10))
                          have hF1 : Fr t M M1 := by rw [eM1]; exact Fr.tr Fr.rf (Fr.up (hL.row (k := 0) (by decide) (Nat.lt_of_lt_of_le hg.2 (hL.cnt (k := 0) (by decide)))))
                          have hr1_1 : M1 (Z.2.1 1 i) = some (t, (.inl (G.2.1 0, 11, .inl (rw11 (U 1 i 0) (U 1 i 1) (U 1 i 2) (U 1 i 3) (U 1 i 4) (U 1 i 5) (U 1 i 6) (U 1 i 7) (U 1 i 8) (U 1 i 9) (U 1 i 10))))) := by rw [eM1]; exact hu_n (hL.rne (by decide) (by decide) hi (Nat.lt_of_lt_of_le hg.2 (hL.cnt (k := 0) (by decide))) (by decide)) (hL.row (k := 1) (by decide) hi)
                          have hr1_0 : M1 (Z.2.1 0 (ix (U 1 i 7))) = some (t, (.inl (G.2.1 0, 11, .inl (rw11 (U 0 (ix (U 1 i 7)) 0) (U 0 (ix (U 1 i 7)) 1) (U 0 (ix (U 1 i 7)) 2) ((U 0 (ix (U 1 i 7)) 3) + (a_X7_work U i)) (U 0 (ix (U 1 i 7)) 4) (U 0 (ix (U 1 i 7)) 5) (U 0 (ix (U 1 i 7)) 6) ((U 0 (ix (U 1 i 7)) 7) + ((((a_X7_work U i) * (t_X7_brings_0 (U 0 (ix (U 1 i 7)) 6) (U 0 (ix (U 1 i 7)) 9))) * (((96 : Int32) + ((3 : Int32) * p0)) + ((U 1 i 5) / (20 : Int32)))) / (100 : Int32))) (U 0 (ix (U 1 i 7)) 8) (U 0 (ix (U 1 i 7)) 9) (U 0 (ix (U 1 i 7)) 10))))) := by rw [eM1]; exact hu_s
                          obtain ⟨M2, eM2⟩ : ∃ z, z = hu M1 (Z.2.1 1 i) t (.inl (G.2.1 0, 11, .inl (rw11 (U 1 i 0) (U 1 i 1) (U 1 i 2) (U 1 i 3) (U 1 i 4) ((U 1 i 5) + (a_X7_work U i)) (0 : Int32) (U 1 i 7) ((U 1 i 8) + (a_X7_work U i)) (U 1 i 9) ((U 1 i 10) + ((a_X7_work U i) * (t_X7_brings_0 (U 0 (ix (U 1 i 7)) 6) (U 0 (ix (U 1 i 7)) 9))))))) := ⟨_, rfl⟩
                          rw [← eM2] at hM
                          have hL2 : MdR G M2 t h0 Z N (tu (tu U 0 (ix (U 1 i 7)) (rw11 (U 0 (ix (U 1 i 7)) 0) (U 0 (ix (U 1 i 7)) 1) (U 0 (ix (U 1 i 7)) 2) ((U 0 (ix (U 1 i 7)) 3) + (a_X7_work U i)) (U 0 (ix (U 1 i 7)) 4) (U 0 (ix (U 1 i 7)) 5) (U 0 (ix (U 1 i 7)) 6) ((U 0 (ix (U 1 i 7)) 7) + ((((a_X7_work U i) * (t_X7_brings_0 (U 0 (ix (U 1 i 7)) 6) (U 0 (ix (U 1 i 7)) 9))) * (((96 : Int32) + ((3 : Int32) * p0)) + ((U 1 i 5) / (20 : Int32)))) / (100 : Int32))) (U 0 (ix (U 1 i 7)) 8) (U 0 (ix (U 1 i 7)) 9) (U 0 (ix (U 1 i 7)) 10))) 1 i (rw11 (U 1 i 0) (U 1 i 1) (U 1 i 2) (U 1 i 3) (U 1 i 4) ((U 1 i 5) + (a_X7_work U i)) (0 : Int32) (U 1 i 7) ((U 1 i 8) + (a_X7_work U i)) (U 1 i 9) ((U 1 i 10) + ((a_X7_work U i) * (t_X7_brings_0 (U 0 (ix (U 1 i 7)) 6) (U 0 (ix (U 1 i 7)) 9)))))) now := by rw [eM2]; exact hL1.setRow (k := 1) (by decide) hi (rw11 (U 1 i 0) (U 1 i 1) (U 1 i 2) (U 1 i 3) (U 1 i 4) ((U 1 i 5) + (a_X7_work U i)) (0 : Int32) (U 1 i 7) ((U 1 i 8) + (a_X7_work U i)) (U 1 i 9) ((U 1 i 10) + ((a_X7_work U i) * (t_X7_brings_0 (U 0 (ix (U 1 i 7)) 6) (U 0 (ix (U 1 i 7)) 9)))))
                          have hF2 : Fr t M M2 := by rw [eM2]; exact Fr.tr hF1 (Fr.up hr1_1)
                          have hr2_1 : M2 (Z.2.1 1 i) = some (t, (.inl (G.2.1 0, 11, .inl (rw11 (U 1 i 0) (U 1 i 1) (U 1 i 2) (U 1 i 3) (U 1 i 4) ((U 1 i 5) + (a_X7_work U i)) (0 : Int32) (U 1 i 7) ((U 1 i 8) + (a_X7_work U i)) (U 1 i 9) ((U 1 i 10) + ((a_X7_work U i) * (t_X7_brings_0 (U 0 (ix (U 1 i 7)) 6) (U 0 (ix (U 1 i 7)) 9)))))))) := by rw [eM2]; exact hu_s
                          have hr2_0 : M2 (Z.2.1 0 (ix (U 1 i 7))) = some (t, (.inl (G.2.1 0, 11, .inl (rw11 (U 0 (ix (U 1 i 7)) 0) (U 0 (ix (U 1 i 7)) 1) (U 0 (ix (U 1 i 7)) 2) ((U 0 (ix (U 1 i 7)) 3) + (a_X7_work U i)) (U 0 (ix (U 1 i 7)) 4) (U 0 (ix (U 1 i 7)) 5) (U 0 (ix (U 1 i 7)) 6) ((U 0 (ix (U 1 i 7)) 7) + ((((a_X7_work U i) * (t_X7_brings_0 (U 0 (ix (U 1 i 7)) 6) (U 0 (ix (U 1 i 7)) 9))) * (((96 : Int32) + ((3 : Int32) * p0)) + ((U 1 i 5) / (20 : Int32)))) / (100 : Int32))) (U 0 (ix (U 1 i 7)) 8) (U 0 (ix (U 1 i 7)) 9) (U 0 (ix (U 1 i 7)) 10))))) := by rw [eM2]; exact hu_n (hL1.rne (by decide) (by decide) (Nat.lt_of_lt_of_le hg.2 (hL.cnt (k := 0) (by decide))) hi (by decide)) hr1_0
                          exact g_vret hx hb hr hlocks hM (Nat.zero_le _) (Nat.zero_le _) ⟨Z, (by unfold u_X7_work; rw [if_neg c1, if_neg c2, if_pos c3, if_neg c4, if_neg c5, if_neg c6, if_neg c7, if_pos c8, if_neg c9, if_pos c10, if_pos c11]; exact hL2), hF2⟩ dX7_work_288
                        · refine lv_iconst (v := (1 : Int32)) hx hb dX7_work_282 (by decide) ?_
                          refine lv_goto (tgt := 287) hx hb dX7_work_283 (by decide) ?_
                          refine is11_6 hx hb hK hM hu_s dX7_work_287 (fun H locs hM => ?_)
                          replace hM := hM.eq (hu_u _ _ _ _ _ _)
                          obtain ⟨M1, eM1⟩ : ∃ z, z = hu M (Z.2.1 0 (ix (U 1 i 7))) t (.inl (G.2.1 0, 11, .inl (rw11 (U 0 (ix (U 1 i 7)) 0) (U 0 (ix (U 1 i 7)) 1) (U 0 (ix (U 1 i 7)) 2) ((U 0 (ix (U 1 i 7)) 3) + (a_X7_work U i)) (U 0 (ix (U 1 i 7)) 4) (U 0 (ix (U 1 i 7)) 5) (U 0 (ix (U 1 i 7)) 6) ((U 0 (ix (U 1 i 7)) 7) + ((((a_X7_work U i) * (t_X7_brings_0 (U 0 (ix (U 1 i 7)) 6) (U 0 (ix (U 1 i 7)) 9))) * (((96 : Int32) + ((3 : Int32) * p0)) + ((U 1 i 5) / (20 : Int32)))) / (100 : Int32))) (U 0 (ix (U 1 i 7)) 8) (U 0 (ix (U 1 i 7)) 9) (U 0 (ix (U 1 i 7)) 10)))) := ⟨_, rfl⟩
                          rw [← eM1] at hM
                          have hL1 : MdR G M1 t h0 Z N (tu U 0 (ix (U 1 i 7)) (rw11 (U 0 (ix (U 1 i 7)) 0) (U 0 (ix (U 1 i 7)) 1) (U 0 (ix (U 1 i 7)) 2) ((U 0 (ix (U 1 i 7)) 3) + (a_X7_work U i)) (U 0 (ix (U 1 i 7)) 4) (U 0 (ix (U 1 i 7)) 5) (U 0 (ix (U 1 i 7)) 6) ((U 0 (ix (U 1 i 7)) 7) + ((((a_X7_work U i) * (t_X7_brings_0 (U 0 (ix (U 1 i 7)) 6) (U 0 (ix (U 1 i 7)) 9))) * (((96 : Int32) + ((3 : Int32) * p0)) + ((U 1 i 5) / (20 : Int32)))) / (100 : Int32))) (U 0 (ix (U 1 i 7)) 8) (U 0 (ix (U 1 i 7)) 9) (U 0 (ix (U 1 i 7)) 10))) now := by rw [eM1]; exact hL.setRow (k := 0) (by decide) (Nat.lt_of_lt_of_le hg.2 (hL.cnt (k := 0) (by decide))) (rw11 (U 0 (ix (U 1 i 7)) 0) (U 0 (ix (U 1 i 7)) 1) (U 0 (ix (U 1 i 7)) 2) ((U 0 (ix (U 1 i 7)) 3) + (a_X7_work U i)) (U 0 (ix (U 1 i 7)) 4) (U 0 (ix (U 1 i 7)) 5) (U 0 (ix (U 1 i 7)) 6) ((U 0 (ix (U 1 i 7)) 7) + ((((a_X7_work U i) * (t_X7_brings_0 (U 0 (ix (U 1 i 7)) 6) (U 0 (ix (U 1 i 7)) 9))) * (((96 : Int32) + ((3 : Int32) * p0)) + ((U 1 i 5) / (20 : Int32)))) / (100 : Int32))) (U 0 (ix (U 1 i 7)) 8) (U 0 (ix (U 1 i 7)) 9) (U 0 (ix (U 1 i 7)) 10))
                          have hF1 : Fr t M M1 := by rw [eM1]; exact Fr.tr Fr.rf (Fr.up (hL.row (k := 0) (by decide) (Nat.lt_of_lt_of_le hg.2 (hL.cnt (k := 0) (by decide)))))
                          have hr1_1 : M1 (Z.2.1 1 i) = some (t, (.inl (G.2.1 0, 11, .inl (rw11 (U 1 i 0) (U 1 i 1) (U 1 i 2) (U 1 i 3) (U 1 i 4) (U 1 i 5) (U 1 i 6) (U 1 i 7) (U 1 i 8) (U 1 i 9) (U 1 i 10))))) := by rw [eM1]; exact hu_n (hL.rne (by decide) (by decide) hi (Nat.lt_of_lt_of_le hg.2 (hL.cnt (k := 0) (by decide))) (by decide)) (hL.row (k := 1) (by decide) hi)
                          have hr1_0 : M1 (Z.2.1 0 (ix (U 1 i 7))) = some (t, (.inl (G.2.1 0, 11, .inl (rw11 (U 0 (ix (U 1 i 7)) 0) (U 0 (ix (U 1 i 7)) 1) (U 0 (ix (U 1 i 7)) 2) ((U 0 (ix (U 1 i 7)) 3) + (a_X7_work U i)) (U 0 (ix (U 1 i 7)) 4) (U 0 (ix (U 1 i 7)) 5) (U 0 (ix (U 1 i 7)) 6) ((U 0 (ix (U 1 i 7)) 7) + ((((a_X7_work U i) * (t_X7_brings_0 (U 0 (ix (U 1 i 7)) 6) (U 0 (ix (U 1 i 7)) 9))) * (((96 : Int32) + ((3 : Int32) * p0)) + ((U 1 i 5) / (20 : Int32)))) / (100 : Int32))) (U 0 (ix (U 1 i 7)) 8) (U 0 (ix (U 1 i 7)) 9) (U 0 (ix (U 1 i 7)) 10))))) := by rw [eM1]; exact hu_s
                          obtain ⟨M2, eM2⟩ : ∃ z, z = hu M1 (Z.2.1 1 i) t (.inl (G.2.1 0, 11, .inl (rw11 (U 1 i 0) (U 1 i 1) (U 1 i 2) (U 1 i 3) (U 1 i 4) ((U 1 i 5) + (a_X7_work U i)) (1 : Int32) (U 1 i 7) ((U 1 i 8) + (a_X7_work U i)) (U 1 i 9) ((U 1 i 10) + ((a_X7_work U i) * (t_X7_brings_0 (U 0 (ix (U 1 i 7)) 6) (U 0 (ix (U 1 i 7)) 9))))))) := ⟨_, rfl⟩
                          rw [← eM2] at hM
                          have hL2 : MdR G M2 t h0 Z N (tu (tu U 0 (ix (U 1 i 7)) (rw11 (U 0 (ix (U 1 i 7)) 0) (U 0 (ix (U 1 i 7)) 1) (U 0 (ix (U 1 i 7)) 2) ((U 0 (ix (U 1 i 7)) 3) + (a_X7_work U i)) (U 0 (ix (U 1 i 7)) 4) (U 0 (ix (U 1 i 7)) 5) (U 0 (ix (U 1 i 7)) 6) ((U 0 (ix (U 1 i 7)) 7) + ((((a_X7_work U i) * (t_X7_brings_0 (U 0 (ix (U 1 i 7)) 6) (U 0 (ix (U 1 i 7)) 9))) * (((96 : Int32) + ((3 : Int32) * p0)) + ((U 1 i 5) / (20 : Int32)))) / (100 : Int32))) (U 0 (ix (U 1 i 7)) 8) (U 0 (ix (U 1 i 7)) 9) (U 0 (ix (U 1 i 7)) 10))) 1 i (rw11 (U 1 i 0) (U 1 i 1) (U 1 i 2) (U 1 i 3) (U 1 i 4) ((U 1 i 5) + (a_X7_work U i)) (1 : Int32) (U 1 i 7) ((U 1 i 8) + (a_X7_work U i)) (U 1 i 9) ((U 1 i 10) + ((a_X7_work U i) * (t_X7_brings_0 (U 0 (ix (U 1 i 7)) 6) (U 0 (ix (U 1 i 7)) 9)))))) now := by rw [eM2]; exact hL1.setRow (k := 1) (by decide) hi (rw11 (U 1 i 0) (U 1 i 1) (U 1 i 2) (U 1 i 3) (U 1 i 4) ((U 1 i 5) + (a_X7_work U i)) (1 : Int32) (U 1 i 7) ((U 1 i 8) + (a_X7_work U i)) (U 1 i 9) ((U 1 i 10) + ((a_X7_work U i) * (t_X7_brings_0 (U 0 (ix (U 1 i 7)) 6) (U 0 (ix (U 1 i 7)) 9)))))
                          have hF2 : Fr t M M2 := by rw [eM2]; exact Fr.tr hF1 (Fr.up hr1_1)
                          have hr2_1 : M2 (Z.2.1 1 i) = some (t, (.inl (G.2.1 0, 11, .inl (rw11 (U 1 i 0) (U 1 i 1) (U 1 i 2) (U 1 i 3) (U 1 i 4) ((U 1 i 5) + (a_X7_work U i)) (1 : Int32) (U 1 i 7) ((U 1 i 8) + (a_X7_work U i)) (U 1 i 9) ((U 1 i 10) + ((a_X7_work U i) * (t_X7_brings_0 (U 0 (ix (U 1 i 7)) 6) (U 0 (ix (U 1 i 7)) 9)))))))) := by rw [eM2]; exact hu_s
                          have hr2_0 : M2 (Z.2.1 0 (ix (U 1 i 7))) = some (t, (.inl (G.2.1 0, 11, .inl (rw11 (U 0 (ix (U 1 i 7)) 0) (U 0 (ix (U 1 i 7)) 1) (U 0 (ix (U 1 i 7)) 2) ((U 0 (ix (U 1 i 7)) 3) + (a_X7_work U i)) (U 0 (ix (U 1 i 7)) 4) (U 0 (ix (U 1 i 7)) 5) (U 0 (ix (U 1 i 7)) 6) ((U 0 (ix (U 1 i 7)) 7) + ((((a_X7_work U i) * (t_X7_brings_0 (U 0 (ix (U 1 i 7)) 6) (U 0 (ix (U 1 i 7)) 9))) * (((96 : Int32) + ((3 : Int32) * p0)) + ((U 1 i 5) / (20 : Int32)))) / (100 : Int32))) (U 0 (ix (U 1 i 7)) 8) (U 0 (ix (U 1 i 7)) 9) (U 0 (ix (U 1 i 7)) 10))))) := by rw [eM2]; exact hu_n (hL1.rne (by decide) (by decide) (Nat.lt_of_lt_of_le hg.2 (hL.cnt (k := 0) (by decide))) hi (by decide)) hr1_0
                          exact g_vret hx hb hr hlocks hM (Nat.zero_le _) (Nat.zero_le _) ⟨Z, (by unfold u_X7_work; rw [if_neg c1, if_neg c2, if_pos c3, if_neg c4, if_neg c5, if_neg c6, if_neg c7, if_pos c8, if_neg c9, if_pos c10, if_neg c11]; exact hL2), hF2⟩ dX7_work_288
                      · refine lv_aload_n hx hb dX7_work_204 rfl (lv_at hl 6 rfl) ?_
                        refine lv_iconst (v := (4 : Int32)) hx hb dX7_work_205 (by decide) ?_
                        refine lv_aload_n hx hb dX7_work_206 rfl (lv_at hl 6 rfl) ?_
                        refine lv_iconst (v := (2 : Int32)) hx hb dX7_work_207 (by decide) ?_
                        refine ia11_2 hx hb hK hM (hu_n (hL.rne (by decide) (by decide) hi (Nat.lt_of_lt_of_le hg.2 (hL.cnt (k := 0) (by decide))) (by decide)) (hL.row (k := 1) (by decide) hi)) dX7_work_208 ?_
                        refine lv_if_ne (tgt := 219) hx hb dX7_work_209 (by decide) (fun c12 => ?_) (fun c12 => ?_)
                        · refine lv_aload_n hx hb dX7_work_219 rfl (lv_at hl 6 rfl) ?_
                          refine lv_iconst (v := (4 : Int32)) hx hb dX7_work_220 (by decide) ?_
                          refine ia11_4 hx hb hK hM (hu_n (hL.rne (by decide) (by decide) hi (Nat.lt_of_lt_of_le hg.2 (hL.cnt (k := 0) (by decide))) (by decide)) (hL.row (k := 1) (by decide) hi)) dX7_work_221 ?_
                          refine lv_aload hx hb dX7_work_222 (lv_at hl 3 rfl) ?_
                          refine lv_iconst (v := (5 : Int32)) hx hb dX7_work_224 (by decide) ?_
                          refine ia11_5 hx hb hK hM hu_s dX7_work_225 ?_
                          refine va_mmax hx hb (hml.trans hl.1.symm) hown (hts _ wm_X7_61) (hts _ wt_mmax) (hts _ wn_java_lang_Math) (hts _ wc_mmax) (Nat.le_of_ble_eq_true rfl) (Nat.le_of_ble_eq_true rfl) (Nat.zero_le _) (Nat.zero_le _) dX7_work_226 ?_
                          refine is11_4 hx hb hK hM (hu_n (hL.rne (by decide) (by decide) hi (Nat.lt_of_lt_of_le hg.2 (hL.cnt (k := 0) (by decide))) (by decide)) (hL.row (k := 1) (by decide) hi)) dX7_work_229 (fun H locs hM => ?_)
                          refine lv_aload_n hx hb dX7_work_230 rfl (lv_at hl 6 rfl) ?_
                          refine lv_iconst (v := (2 : Int32)) hx hb dX7_work_231 (by decide) ?_
                          refine lv_dup2_11 hx hb dX7_work_232 rfl rfl ?_
                          refine ia11_2 hx hb hK hM hu_s dX7_work_233 ?_
                          refine lv_iload hx hb dX7_work_234 (lv_at hl 0 rfl) ?_
                          refine lv_iadd hx hb dX7_work_236 ?_
                          refine is11_2 hx hb hK hM hu_s dX7_work_237 (fun H locs hM => ?_)
                          replace hM := hM.eq (hu_u _ _ _ _ _ _)
                          refine lv_aload_n hx hb dX7_work_238 rfl (lv_at hl 6 rfl) ?_
                          refine lv_iconst (v := (3 : Int32)) hx hb dX7_work_239 (by decide) ?_
                          refine lv_aload_n hx hb dX7_work_240 rfl (lv_at hl 6 rfl) ?_
                          refine lv_bipush (v := (7 : Int32)) hx hb dX7_work_241 (by decide) ?_
                          refine ia11_7 hx hb hK hM hu_s dX7_work_243 ?_
                          refine is11_3 hx hb hK hM hu_s dX7_work_244 (fun H locs hM => ?_)
                          replace hM := hM.eq (hu_u _ _ _ _ _ _)
                          refine lv_aload_n hx hb dX7_work_245 rfl (lv_at hl 6 rfl) ?_
                          refine lv_bipush (v := (10 : Int32)) hx hb dX7_work_246 (by decide) ?_
                          refine lv_dup2_11 hx hb dX7_work_248 rfl rfl ?_
                          refine ia11_10 hx hb hK hM hu_s dX7_work_249 ?_
                          refine lv_iload hx hb dX7_work_250 (lv_at hl 0 rfl) ?_
                          refine lv_iadd hx hb dX7_work_252 ?_
                          refine is11_10 hx hb hK hM hu_s dX7_work_253 (fun H locs hM => ?_)
                          replace hM := hM.eq (hu_u _ _ _ _ _ _)
                          refine lv_aload_n hx hb dX7_work_254 rfl (lv_at hl 6 rfl) ?_
                          refine lv_bipush (v := (8 : Int32)) hx hb dX7_work_255 (by decide) ?_
                          refine lv_dup2_11 hx hb dX7_work_257 rfl rfl ?_
                          refine ia11_8 hx hb hK hM hu_s dX7_work_258 ?_
                          refine lv_iload hx hb dX7_work_259 (lv_at hl 1 rfl) ?_
                          refine lv_iadd hx hb dX7_work_261 ?_
                          refine is11_8 hx hb hK hM hu_s dX7_work_262 (fun H locs hM => ?_)
                          replace hM := hM.eq (hu_u _ _ _ _ _ _)
                          refine lv_aload_n hx hb dX7_work_263 rfl (lv_at hl 6 rfl) ?_
                          refine lv_iconst (v := (5 : Int32)) hx hb dX7_work_264 (by decide) ?_
                          refine lv_dup2_11 hx hb dX7_work_265 rfl rfl ?_
                          refine ia11_5 hx hb hK hM hu_s dX7_work_266 ?_
                          refine lv_iload hx hb dX7_work_267 (lv_at hl 1 rfl) ?_
                          refine lv_iadd hx hb dX7_work_269 ?_
                          refine is11_5 hx hb hK hM hu_s dX7_work_270 (fun H locs hM => ?_)
                          replace hM := hM.eq (hu_u _ _ _ _ _ _)
                          refine lv_aload_n hx hb dX7_work_271 rfl (lv_at hl 6 rfl) ?_
                          refine lv_bipush (v := (6 : Int32)) hx hb dX7_work_272 (by decide) ?_
                          refine lv_aload_n hx hb dX7_work_274 rfl (lv_at hl 6 rfl) ?_
                          refine lv_iconst (v := (5 : Int32)) hx hb dX7_work_275 (by decide) ?_
                          refine ia11_5 hx hb hK hM hu_s dX7_work_276 ?_
                          refine lv_bipush (v := (100 : Int32)) hx hb dX7_work_277 (by decide) ?_
                          refine lv_icmp_lt (tgt := 286) hx hb dX7_work_279 (by decide) (fun c13 => ?_) (fun c13 => ?_)
                          · refine lv_iconst (v := (0 : Int32)) hx hb dX7_work_286 (by decide) ?_
                            refine is11_6 hx hb hK hM hu_s dX7_work_287 (fun H locs hM => ?_)
                            replace hM := hM.eq (hu_u _ _ _ _ _ _)
                            obtain ⟨M1, eM1⟩ : ∃ z, z = hu M (Z.2.1 0 (ix (U 1 i 7))) t (.inl (G.2.1 0, 11, .inl (rw11 (U 0 (ix (U 1 i 7)) 0) (U 0 (ix (U 1 i 7)) 1) (U 0 (ix (U 1 i 7)) 2) ((U 0 (ix (U 1 i 7)) 3) + (a_X7_work U i)) (U 0 (ix (U 1 i 7)) 4) (U 0 (ix (U 1 i 7)) 5) (U 0 (ix (U 1 i 7)) 6) ((U 0 (ix (U 1 i 7)) 7) + ((((a_X7_work U i) * (t_X7_brings_0 (U 0 (ix (U 1 i 7)) 6) (U 0 (ix (U 1 i 7)) 9))) * (((96 : Int32) + ((3 : Int32) * p0)) + ((U 1 i 5) / (20 : Int32)))) / (100 : Int32))) (U 0 (ix (U 1 i 7)) 8) (U 0 (ix (U 1 i 7)) 9) (U 0 (ix (U 1 i 7)) 10)))) := ⟨_, rfl⟩
                            rw [← eM1] at hM
                            have hL1 : MdR G M1 t h0 Z N (tu U 0 (ix (U 1 i 7)) (rw11 (U 0 (ix (U 1 i 7)) 0) (U 0 (ix (U 1 i 7)) 1) (U 0 (ix (U 1 i 7)) 2) ((U 0 (ix (U 1 i 7)) 3) + (a_X7_work U i)) (U 0 (ix (U 1 i 7)) 4) (U 0 (ix (U 1 i 7)) 5) (U 0 (ix (U 1 i 7)) 6) ((U 0 (ix (U 1 i 7)) 7) + ((((a_X7_work U i) * (t_X7_brings_0 (U 0 (ix (U 1 i 7)) 6) (U 0 (ix (U 1 i 7)) 9))) * (((96 : Int32) + ((3 : Int32) * p0)) + ((U 1 i 5) / (20 : Int32)))) / (100 : Int32))) (U 0 (ix (U 1 i 7)) 8) (U 0 (ix (U 1 i 7)) 9) (U 0 (ix (U 1 i 7)) 10))) now := by rw [eM1]; exact hL.setRow (k := 0) (by decide) (Nat.lt_of_lt_of_le hg.2 (hL.cnt (k := 0) (by decide))) (rw11 (U 0 (ix (U 1 i 7)) 0) (U 0 (ix (U 1 i 7)) 1) (U 0 (ix (U 1 i 7)) 2) ((U 0 (ix (U 1 i 7)) 3) + (a_X7_work U i)) (U 0 (ix (U 1 i 7)) 4) (U 0 (ix (U 1 i 7)) 5) (U 0 (ix (U 1 i 7)) 6) ((U 0 (ix (U 1 i 7)) 7) + ((((a_X7_work U i) * (t_X7_brings_0 (U 0 (ix (U 1 i 7)) 6) (U 0 (ix (U 1 i 7)) 9))) * (((96 : Int32) + ((3 : Int32) * p0)) + ((U 1 i 5) / (20 : Int32)))) / (100 : Int32))) (U 0 (ix (U 1 i 7)) 8) (U 0 (ix (U 1 i 7)) 9) (U 0 (ix (U 1 i 7)) 10))
                            have hF1 : Fr t M M1 := by rw [eM1]; exact Fr.tr Fr.rf (Fr.up (hL.row (k := 0) (by decide) (Nat.lt_of_lt_of_le hg.2 (hL.cnt (k := 0) (by decide)))))
                            have hr1_1 : M1 (Z.2.1 1 i) = some (t, (.inl (G.2.1 0, 11, .inl (rw11 (U 1 i 0) (U 1 i 1) (U 1 i 2) (U 1 i 3) (U 1 i 4) (U 1 i 5) (U 1 i 6) (U 1 i 7) (U 1 i 8) (U 1 i 9) (U 1 i 10))))) := by rw [eM1]; exact hu_n (hL.rne (by decide) (by decide) hi (Nat.lt_of_lt_of_le hg.2 (hL.cnt (k := 0) (by decide))) (by decide)) (hL.row (k := 1) (by decide) hi)
                            have hr1_0 : M1 (Z.2.1 0 (ix (U 1 i 7))) = some (t, (.inl (G.2.1 0, 11, .inl (rw11 (U 0 (ix (U 1 i 7)) 0) (U 0 (ix (U 1 i 7)) 1) (U 0 (ix (U 1 i 7)) 2) ((U 0 (ix (U 1 i 7)) 3) + (a_X7_work U i)) (U 0 (ix (U 1 i 7)) 4) (U 0 (ix (U 1 i 7)) 5) (U 0 (ix (U 1 i 7)) 6) ((U 0 (ix (U 1 i 7)) 7) + ((((a_X7_work U i) * (t_X7_brings_0 (U 0 (ix (U 1 i 7)) 6) (U 0 (ix (U 1 i 7)) 9))) * (((96 : Int32) + ((3 : Int32) * p0)) + ((U 1 i 5) / (20 : Int32)))) / (100 : Int32))) (U 0 (ix (U 1 i 7)) 8) (U 0 (ix (U 1 i 7)) 9) (U 0 (ix (U 1 i 7)) 10))))) := by rw [eM1]; exact hu_s
                            obtain ⟨M2, eM2⟩ : ∃ z, z = hu M1 (Z.2.1 1 i) t (.inl (G.2.1 0, 11, .inl (rw11 (U 1 i 0) (U 1 i 1) ((U 1 i 2) + ((a_X7_work U i) * (t_X7_brings_0 (U 0 (ix (U 1 i 7)) 6) (U 0 (ix (U 1 i 7)) 9)))) (U 1 i 7) (mx (U 1 i 4) (U 0 (ix (U 1 i 7)) 5)) ((U 1 i 5) + (a_X7_work U i)) (0 : Int32) (U 1 i 7) ((U 1 i 8) + (a_X7_work U i)) (U 1 i 9) ((U 1 i 10) + ((a_X7_work U i) * (t_X7_brings_0 (U 0 (ix (U 1 i 7)) 6) (U 0 (ix (U 1 i 7)) 9))))))) := ⟨_, rfl⟩
                            rw [← eM2] at hM
                            have hL2 : MdR G M2 t h0 Z N (tu (tu U 0 (ix (U 1 i 7)) (rw11 (U 0 (ix (U 1 i 7)) 0) (U 0 (ix (U 1 i 7)) 1) (U 0 (ix (U 1 i 7)) 2) ((U 0 (ix (U 1 i 7)) 3) + (a_X7_work U i)) (U 0 (ix (U 1 i 7)) 4) (U 0 (ix (U 1 i 7)) 5) (U 0 (ix (U 1 i 7)) 6) ((U 0 (ix (U 1 i 7)) 7) + ((((a_X7_work U i) * (t_X7_brings_0 (U 0 (ix (U 1 i 7)) 6) (U 0 (ix (U 1 i 7)) 9))) * (((96 : Int32) + ((3 : Int32) * p0)) + ((U 1 i 5) / (20 : Int32)))) / (100 : Int32))) (U 0 (ix (U 1 i 7)) 8) (U 0 (ix (U 1 i 7)) 9) (U 0 (ix (U 1 i 7)) 10))) 1 i (rw11 (U 1 i 0) (U 1 i 1) ((U 1 i 2) + ((a_X7_work U i) * (t_X7_brings_0 (U 0 (ix (U 1 i 7)) 6) (U 0 (ix (U 1 i 7)) 9)))) (U 1 i 7) (mx (U 1 i 4) (U 0 (ix (U 1 i 7)) 5)) ((U 1 i 5) + (a_X7_work U i)) (0 : Int32) (U 1 i 7) ((U 1 i 8) + (a_X7_work U i)) (U 1 i 9) ((U 1 i 10) + ((a_X7_work U i) * (t_X7_brings_0 (U 0 (ix (U 1 i 7)) 6) (U 0 (ix (U 1 i 7)) 9)))))) now := by rw [eM2]; exact hL1.setRow (k := 1) (by decide) hi (rw11 (U 1 i 0) (U 1 i 1) ((U 1 i 2) + ((a_X7_work U i) * (t_X7_brings_0 (U 0 (ix (U 1 i 7)) 6) (U 0 (ix (U 1 i 7)) 9)))) (U 1 i 7) (mx (U 1 i 4) (U 0 (ix (U 1 i 7)) 5)) ((U 1 i 5) + (a_X7_work U i)) (0 : Int32) (U 1 i 7) ((U 1 i 8) + (a_X7_work U i)) (U 1 i 9) ((U 1 i 10) + ((a_X7_work U i) * (t_X7_brings_0 (U 0 (ix (U 1 i 7)) 6) (U 0 (ix (U 1 i 7)) 9)))))
                            have hF2 : Fr t M M2 := by rw [eM2]; exact Fr.tr hF1 (Fr.up hr1_1)
                            have hr2_1 : M2 (Z.2.1 1 i) = some (t, (.inl (G.2.1 0, 11, .inl (rw11 (U 1 i 0) (U 1 i 1) ((U 1 i 2) + ((a_X7_work U i) * (t_X7_brings_0 (U 0 (ix (U 1 i 7)) 6) (U 0 (ix (U 1 i 7)) 9)))) (U 1 i 7) (mx (U 1 i 4) (U 0 (ix (U 1 i 7)) 5)) ((U 1 i 5) + (a_X7_work U i)) (0 : Int32) (U 1 i 7) ((U 1 i 8) + (a_X7_work U i)) (U 1 i 9) ((U 1 i 10) + ((a_X7_work U i) * (t_X7_brings_0 (U 0 (ix (U 1 i 7)) 6) (U 0 (ix (U 1 i 7)) 9)))))))) := by rw [eM2]; exact hu_s
                            have hr2_0 : M2 (Z.2.1 0 (ix (U 1 i 7))) = some (t, (.inl (G.2.1 0, 11, .inl (rw11 (U 0 (ix (U 1 i 7)) 0) (U 0 (ix (U 1 i 7)) 1) (U 0 (ix (U 1 i 7)) 2) ((U 0 (ix (U 1 i 7)) 3) + (a_X7_work U i)) (U 0 (ix (U 1 i 7)) 4) (U 0 (ix (U 1 i 7)) 5) (U 0 (ix (U 1 i 7)) 6) ((U 0 (ix (U 1 i 7)) 7) + ((((a_X7_work U i) * (t_X7_brings_0 (U 0 (ix (U 1 i 7)) 6) (U 0 (ix (U 1 i 7)) 9))) * (((96 : Int32) + ((3 : Int32) * p0)) + ((U 1 i 5) / (20 : Int32)))) / (100 : Int32))) (U 0 (ix (U 1 i 7)) 8) (U 0 (ix (U 1 i 7)) 9) (U 0 (ix (U 1 i 7)) 10))))) := by rw [eM2]; exact hu_n (hL1.rne (by decide) (by decide) (Nat.lt_of_lt_of_le hg.2 (hL.cnt (k := 0) (by decide))) hi (by decide)) hr1_0
                            exact g_vret hx hb hr hlocks hM (Nat.zero_le _) (Nat.zero_le _) ⟨Z, (by unfold u_X7_work; rw [if_neg c1, if_neg c2, if_pos c3, if_neg c4, if_neg c5, if_neg c6, if_neg c7, if_pos c8, if_neg c9, if_neg c10, if_neg c12, if_pos c13]; exact hL2), hF2⟩ dX7_work_288
                          · refine lv_iconst (v := (1 : Int32)) hx hb dX7_work_282 (by decide) ?_
                            refine lv_goto (tgt := 287) hx hb dX7_work_283 (by decide) ?_
                            refine is11_6 hx hb hK hM hu_s dX7_work_287 (fun H locs hM => ?_)
                            replace hM := hM.eq (hu_u _ _ _ _ _ _)
                            obtain ⟨M1, eM1⟩ : ∃ z, z = hu M (Z.2.1 0 (ix (U 1 i 7))) t (.inl (G.2.1 0, 11, .inl (rw11 (U 0 (ix (U 1 i 7)) 0) (U 0 (ix (U 1 i 7)) 1) (U 0 (ix (U 1 i 7)) 2) ((U 0 (ix (U 1 i 7)) 3) + (a_X7_work U i)) (U 0 (ix (U 1 i 7)) 4) (U 0 (ix (U 1 i 7)) 5) (U 0 (ix (U 1 i 7)) 6) ((U 0 (ix (U 1 i 7)) 7) + ((((a_X7_work U i) * (t_X7_brings_0 (U 0 (ix (U 1 i 7)) 6) (U 0 (ix (U 1 i 7)) 9))) * (((96 : Int32) + ((3 : Int32) * p0)) + ((U 1 i 5) / (20 : Int32)))) / (100 : Int32))) (U 0 (ix (U 1 i 7)) 8) (U 0 (ix (U 1 i 7)) 9) (U 0 (ix (U 1 i 7)) 10)))) := ⟨_, rfl⟩
                            rw [← eM1] at hM
                            have hL1 : MdR G M1 t h0 Z N (tu U 0 (ix (U 1 i 7)) (rw11 (U 0 (ix (U 1 i 7)) 0) (U 0 (ix (U 1 i 7)) 1) (U 0 (ix (U 1 i 7)) 2) ((U 0 (ix (U 1 i 7)) 3) + (a_X7_work U i)) (U 0 (ix (U 1 i 7)) 4) (U 0 (ix (U 1 i 7)) 5) (U 0 (ix (U 1 i 7)) 6) ((U 0 (ix (U 1 i 7)) 7) + ((((a_X7_work U i) * (t_X7_brings_0 (U 0 (ix (U 1 i 7)) 6) (U 0 (ix (U 1 i 7)) 9))) * (((96 : Int32) + ((3 : Int32) * p0)) + ((U 1 i 5) / (20 : Int32)))) / (100 : Int32))) (U 0 (ix (U 1 i 7)) 8) (U 0 (ix (U 1 i 7)) 9) (U 0 (ix (U 1 i 7)) 10))) now := by rw [eM1]; exact hL.setRow (k := 0) (by decide) (Nat.lt_of_lt_of_le hg.2 (hL.cnt (k := 0) (by decide))) (rw11 (U 0 (ix (U 1 i 7)) 0) (U 0 (ix (U 1 i 7)) 1) (U 0 (ix (U 1 i 7)) 2) ((U 0 (ix (U 1 i 7)) 3) + (a_X7_work U i)) (U 0 (ix (U 1 i 7)) 4) (U 0 (ix (U 1 i 7)) 5) (U 0 (ix (U 1 i 7)) 6) ((U 0 (ix (U 1 i 7)) 7) + ((((a_X7_work U i) * (t_X7_brings_0 (U 0 (ix (U 1 i 7)) 6) (U 0 (ix (U 1 i 7)) 9))) * (((96 : Int32) + ((3 : Int32) * p0)) + ((U 1 i 5) / (20 : Int32)))) / (100 : Int32))) (U 0 (ix (U 1 i 7)) 8) (U 0 (ix (U 1 i 7)) 9) (U 0 (ix (U 1 i 7)) 10))
                            have hF1 : Fr t M M1 := by rw [eM1]; exact Fr.tr Fr.rf (Fr.up (hL.row (k := 0) (by decide) (Nat.lt_of_lt_of_le hg.2 (hL.cnt (k := 0) (by decide)))))
                            have hr1_1 : M1 (Z.2.1 1 i) = some (t, (.inl (G.2.1 0, 11, .inl (rw11 (U 1 i 0) (U 1 i 1) (U 1 i 2) (U 1 i 3) (U 1 i 4) (U 1 i 5) (U 1 i 6) (U 1 i 7) (U 1 i 8) (U 1 i 9) (U 1 i 10))))) := by rw [eM1]; exact hu_n (hL.rne (by decide) (by decide) hi (Nat.lt_of_lt_of_le hg.2 (hL.cnt (k := 0) (by decide))) (by decide)) (hL.row (k := 1) (by decide) hi)
                            have hr1_0 : M1 (Z.2.1 0 (ix (U 1 i 7))) = some (t, (.inl (G.2.1 0, 11, .inl (rw11 (U 0 (ix (U 1 i 7)) 0) (U 0 (ix (U 1 i 7)) 1) (U 0 (ix (U 1 i 7)) 2) ((U 0 (ix (U 1 i 7)) 3) + (a_X7_work U i)) (U 0 (ix (U 1 i 7)) 4) (U 0 (ix (U 1 i 7)) 5) (U 0 (ix (U 1 i 7)) 6) ((U 0 (ix (U 1 i 7)) 7) + ((((a_X7_work U i) * (t_X7_brings_0 (U 0 (ix (U 1 i 7)) 6) (U 0 (ix (U 1 i 7)) 9))) * (((96 : Int32) + ((3 : Int32) * p0)) + ((U 1 i 5) / (20 : Int32)))) / (100 : Int32))) (U 0 (ix (U 1 i 7)) 8) (U 0 (ix (U 1 i 7)) 9) (U 0 (ix (U 1 i 7)) 10))))) := by rw [eM1]; exact hu_s
                            obtain ⟨M2, eM2⟩ : ∃ z, z = hu M1 (Z.2.1 1 i) t (.inl (G.2.1 0, 11, .inl (rw11 (U 1 i 0) (U 1 i 1) ((U 1 i 2) + ((a_X7_work U i) * (t_X7_brings_0 (U 0 (ix (U 1 i 7)) 6) (U 0 (ix (U 1 i 7)) 9)))) (U 1 i 7) (mx (U 1 i 4) (U 0 (ix (U 1 i 7)) 5)) ((U 1 i 5) + (a_X7_work U i)) (1 : Int32) (U 1 i 7) ((U 1 i 8) + (a_X7_work U i)) (U 1 i 9) ((U 1 i 10) + ((a_X7_work U i) * (t_X7_brings_0 (U 0 (ix (U 1 i 7)) 6) (U 0 (ix (U 1 i 7)) 9))))))) := ⟨_, rfl⟩
                            rw [← eM2] at hM
                            have hL2 : MdR G M2 t h0 Z N (tu (tu U 0 (ix (U 1 i 7)) (rw11 (U 0 (ix (U 1 i 7)) 0) (U 0 (ix (U 1 i 7)) 1) (U 0 (ix (U 1 i 7)) 2) ((U 0 (ix (U 1 i 7)) 3) + (a_X7_work U i)) (U 0 (ix (U 1 i 7)) 4) (U 0 (ix (U 1 i 7)) 5) (U 0 (ix (U 1 i 7)) 6) ((U 0 (ix (U 1 i 7)) 7) + ((((a_X7_work U i) * (t_X7_brings_0 (U 0 (ix (U 1 i 7)) 6) (U 0 (ix (U 1 i 7)) 9))) * (((96 : Int32) + ((3 : Int32) * p0)) + ((U 1 i 5) / (20 : Int32)))) / (100 : Int32))) (U 0 (ix (U 1 i 7)) 8) (U 0 (ix (U 1 i 7)) 9) (U 0 (ix (U 1 i 7)) 10))) 1 i (rw11 (U 1 i 0) (U 1 i 1) ((U 1 i 2) + ((a_X7_work U i) * (t_X7_brings_0 (U 0 (ix (U 1 i 7)) 6) (U 0 (ix (U 1 i 7)) 9)))) (U 1 i 7) (mx (U 1 i 4) (U 0 (ix (U 1 i 7)) 5)) ((U 1 i 5) + (a_X7_work U i)) (1 : Int32) (U 1 i 7) ((U 1 i 8) + (a_X7_work U i)) (U 1 i 9) ((U 1 i 10) + ((a_X7_work U i) * (t_X7_brings_0 (U 0 (ix (U 1 i 7)) 6) (U 0 (ix (U 1 i 7)) 9)))))) now := by rw [eM2]; exact hL1.setRow (k := 1) (by decide) hi (rw11 (U 1 i 0) (U 1 i 1) ((U 1 i 2) + ((a_X7_work U i) * (t_X7_brings_0 (U 0 (ix (U 1 i 7)) 6) (U 0 (ix (U 1 i 7)) 9)))) (U 1 i 7) (mx (U 1 i 4) (U 0 (ix (U 1 i 7)) 5)) ((U 1 i 5) + (a_X7_work U i)) (1 : Int32) (U 1 i 7) ((U 1 i 8) + (a_X7_work U i)) (U 1 i 9) ((U 1 i 10) + ((a_X7_work U i) * (t_X7_brings_0 (U 0 (ix (U 1 i 7)) 6) (U 0 (ix (U 1 i 7)) 9)))))
                            have hF2 : Fr t M M2 := by rw [eM2]; exact Fr.tr hF1 (Fr.up hr1_1)
                            have hr2_1 : M2 (Z.2.1 1 i) = some (t, (.inl (G.2.1 0, 11, .inl (rw11 (U 1 i 0) (U 1 i 1) ((U 1 i 2) + ((a_X7_work U i) * (t_X7_brings_0 (U 0 (ix (U 1 i 7)) 6) (U 0 (ix (U 1 i 7)) 9)))) (U 1 i 7) (mx (U 1 i 4) (U 0 (ix (U 1 i 7)) 5)) ((U 1 i 5) + (a_X7_work U i)) (1 : Int32) (U 1 i 7) ((U 1 i 8) + (a_X7_work U i)) (U 1 i 9) ((U 1 i 10) + ((a_X7_work U i) * (t_X7_brings_0 (U 0 (ix (U 1 i 7)) 6) (U 0 (ix (U 1 i 7)) 9)))))))) := by rw [eM2]; exact hu_s
                            have hr2_0 : M2 (Z.2.1 0 (ix (U 1 i 7))) = some (t, (.inl (G.2.1 0, 11, .inl (rw11 (U 0 (ix (U 1 i 7)) 0) (U 0 (ix (U 1 i 7)) 1) (U 0 (ix (U 1 i 7)) 2) ((U 0 (ix (U 1 i 7)) 3) + (a_X7_work U i)) (U 0 (ix (U 1 i 7)) 4) (U 0 (ix (U 1 i 7)) 5) (U 0 (ix (U 1 i 7)) 6) ((U 0 (ix (U 1 i 7)) 7) + ((((a_X7_work U i) * (t_X7_brings_0 (U 0 (ix (U 1 i 7)) 6) (U 0 (ix (U 1 i 7)) 9))) * (((96 : Int32) + ((3 : Int32) * p0)) + ((U 1 i 5) / (20 : Int32)))) / (100 : Int32))) (U 0 (ix (U 1 i 7)) 8) (U 0 (ix (U 1 i 7)) 9) (U 0 (ix (U 1 i 7)) 10))))) := by rw [eM2]; exact hu_n (hL1.rne (by decide) (by decide) (Nat.lt_of_lt_of_le hg.2 (hL.cnt (k := 0) (by decide))) hi (by decide)) hr1_0
                            exact g_vret hx hb hr hlocks hM (Nat.zero_le _) (Nat.zero_le _) ⟨Z, (by unfold u_X7_work; rw [if_neg c1, if_neg c2, if_pos c3, if_neg c4, if_neg c5, if_neg c6, if_neg c7, if_pos c8, if_neg c9, if_neg c10, if_neg c12, if_neg c13]; exact hL2), hF2⟩ dX7_work_288
                        · refine lv_aload hx hb dX7_work_212 (lv_at hl 3 rfl) ?_
                          refine lv_iconst (v := (5 : Int32)) hx hb dX7_work_214 (by decide) ?_
                          refine ia11_5 hx hb hK hM hu_s dX7_work_215 ?_
                          refine lv_goto (tgt := 229) hx hb dX7_work_216 (by decide) ?_
                          refine is11_4 hx hb hK hM (hu_n (hL.rne (by decide) (by decide) hi (Nat.lt_of_lt_of_le hg.2 (hL.cnt (k := 0) (by decide))) (by decide)) (hL.row (k := 1) (by decide) hi)) dX7_work_229 (fun H locs hM => ?_)
                          refine lv_aload_n hx hb dX7_work_230 rfl (lv_at hl 6 rfl) ?_
                          refine lv_iconst (v := (2 : Int32)) hx hb dX7_work_231 (by decide) ?_
                          refine lv_dup2_11 hx hb dX7_work_232 rfl rfl ?_
                          refine ia11_2 hx hb hK hM hu_s dX7_work_233 ?_
                          refine lv_iload hx hb dX7_work_234 (lv_at hl 0 rfl) ?_
                          refine lv_iadd hx hb dX7_work_236 ?_
                          refine is11_2 hx hb hK hM hu_s dX7_work_237 (fun H locs hM => ?_)
                          replace hM := hM.eq (hu_u _ _ _ _ _ _)
                          refine lv_aload_n hx hb dX7_work_238 rfl (lv_at hl 6 rfl) ?_
                          refine lv_iconst (v := (3 : Int32)) hx hb dX7_work_239 (by decide) ?_
                          refine lv_aload_n hx hb dX7_work_240 rfl (lv_at hl 6 rfl) ?_
                          refine lv_bipush (v := (7 : Int32)) hx hb dX7_work_241 (by decide) ?_
                          refine ia11_7 hx hb hK hM hu_s dX7_work_243 ?_
                          refine is11_3 hx hb hK hM hu_s dX7_work_244 (fun H locs hM => ?_)
                          replace hM := hM.eq (hu_u _ _ _ _ _ _)
                          refine lv_aload_n hx hb dX7_work_245 rfl (lv_at hl 6 rfl) ?_
                          refine lv_bipush (v := (10 : Int32)) hx hb dX7_work_246 (by decide) ?_
                          refine lv_dup2_11 hx hb dX7_work_248 rfl rfl ?_
                          refine ia11_10 hx hb hK hM hu_s dX7_work_249 ?_
                          refine lv_iload hx hb dX7_work_250 (lv_at hl 0 rfl) ?_
                          refine lv_iadd hx hb dX7_work_252 ?_
                          refine is11_10 hx hb hK hM hu_s dX7_work_253 (fun H locs hM => ?_)
                          replace hM := hM.eq (hu_u _ _ _ _ _ _)
                          refine lv_aload_n hx hb dX7_work_254 rfl (lv_at hl 6 rfl) ?_
                          refine lv_bipush (v := (8 : Int32)) hx hb dX7_work_255 (by decide) ?_
                          refine lv_dup2_11 hx hb dX7_work_257 rfl rfl ?_
                          refine ia11_8 hx hb hK hM hu_s dX7_work_258 ?_
                          refine lv_iload hx hb dX7_work_259 (lv_at hl 1 rfl) ?_
                          refine lv_iadd hx hb dX7_work_261 ?_
                          refine is11_8 hx hb hK hM hu_s dX7_work_262 (fun H locs hM => ?_)
                          replace hM := hM.eq (hu_u _ _ _ _ _ _)
                          refine lv_aload_n hx hb dX7_work_263 rfl (lv_at hl 6 rfl) ?_
                          refine lv_iconst (v := (5 : Int32)) hx hb dX7_work_264 (by decide) ?_
                          refine lv_dup2_11 hx hb dX7_work_265 rfl rfl ?_
                          refine ia11_5 hx hb hK hM hu_s dX7_work_266 ?_
                          refine lv_iload hx hb dX7_work_267 (lv_at hl 1 rfl) ?_
                          refine lv_iadd hx hb dX7_work_269 ?_
                          refine is11_5 hx hb hK hM hu_s dX7_work_270 (fun H locs hM => ?_)
                          replace hM := hM.eq (hu_u _ _ _ _ _ _)
                          refine lv_aload_n hx hb dX7_work_271 rfl (lv_at hl 6 rfl) ?_
                          refine lv_bipush (v := (6 : Int32)) hx hb dX7_work_272 (by decide) ?_
                          refine lv_aload_n hx hb dX7_work_274 rfl (lv_at hl 6 rfl) ?_
                          refine lv_iconst (v := (5 : Int32)) hx hb dX7_work_275 (by decide) ?_
                          refine ia11_5 hx hb hK hM hu_s dX7_work_276 ?_
                          refine lv_bipush (v := (100 : Int32)) hx hb dX7_work_277 (by decide) ?_
                          refine lv_icmp_lt (tgt := 286) hx hb dX7_work_279 (by decide) (fun c14 => ?_) (fun c14 => ?_)
                          · refine lv_iconst (v := (0 : Int32)) hx hb dX7_work_286 (by decide) ?_
                            refine is11_6 hx hb hK hM hu_s dX7_work_287 (fun H locs hM => ?_)
                            replace hM := hM.eq (hu_u _ _ _ _ _ _)
                            obtain ⟨M1, eM1⟩ : ∃ z, z = hu M (Z.2.1 0 (ix (U 1 i 7))) t (.inl (G.2.1 0, 11, .inl (rw11 (U 0 (ix (U 1 i 7)) 0) (U 0 (ix (U 1 i 7)) 1) (U 0 (ix (U 1 i 7)) 2) ((U 0 (ix (U 1 i 7)) 3) + (a_X7_work U i)) (U 0 (ix (U 1 i 7)) 4) (U 0 (ix (U 1 i 7)) 5) (U 0 (ix (U 1 i 7)) 6) ((U 0 (ix (U 1 i 7)) 7) + ((((a_X7_work U i) * (t_X7_brings_0 (U 0 (ix (U 1 i 7)) 6) (U 0 (ix (U 1 i 7)) 9))) * (((96 : Int32) + ((3 : Int32) * p0)) + ((U 1 i 5) / (20 : Int32)))) / (100 : Int32))) (U 0 (ix (U 1 i 7)) 8) (U 0 (ix (U 1 i 7)) 9) (U 0 (ix (U 1 i 7)) 10)))) := ⟨_, rfl⟩
                            rw [← eM1] at hM
                            have hL1 : MdR G M1 t h0 Z N (tu U 0 (ix (U 1 i 7)) (rw11 (U 0 (ix (U 1 i 7)) 0) (U 0 (ix (U 1 i 7)) 1) (U 0 (ix (U 1 i 7)) 2) ((U 0 (ix (U 1 i 7)) 3) + (a_X7_work U i)) (U 0 (ix (U 1 i 7)) 4) (U 0 (ix (U 1 i 7)) 5) (U 0 (ix (U 1 i 7)) 6) ((U 0 (ix (U 1 i 7)) 7) + ((((a_X7_work U i) * (t_X7_brings_0 (U 0 (ix (U 1 i 7)) 6) (U 0 (ix (U 1 i 7)) 9))) * (((96 : Int32) + ((3 : Int32) * p0)) + ((U 1 i 5) / (20 : Int32)))) / (100 : Int32))) (U 0 (ix (U 1 i 7)) 8) (U 0 (ix (U 1 i 7)) 9) (U 0 (ix (U 1 i 7)) 10))) now := by rw [eM1]; exact hL.setRow (k := 0) (by decide) (Nat.lt_of_lt_of_le hg.2 (hL.cnt (k := 0) (by decide))) (rw11 (U 0 (ix (U 1 i 7)) 0) (U 0 (ix (U 1 i 7)) 1) (U 0 (ix (U 1 i 7)) 2) ((U 0 (ix (U 1 i 7)) 3) + (a_X7_work U i)) (U 0 (ix (U 1 i 7)) 4) (U 0 (ix (U 1 i 7)) 5) (U 0 (ix (U 1 i 7)) 6) ((U 0 (ix (U 1 i 7)) 7) + ((((a_X7_work U i) * (t_X7_brings_0 (U 0 (ix (U 1 i 7)) 6) (U 0 (ix (U 1 i 7)) 9))) * (((96 : Int32) + ((3 : Int32) * p0)) + ((U 1 i 5) / (20 : Int32)))) / (100 : Int32))) (U 0 (ix (U 1 i 7)) 8) (U 0 (ix (U 1 i 7)) 9) (U 0 (ix (U 1 i 7)) 10))
                            have hF1 : Fr t M M1 := by rw [eM1]; exact Fr.tr Fr.rf (Fr.up (hL.row (k := 0) (by decide) (Nat.lt_of_lt_of_le hg.2 (hL.cnt (k := 0) (by decide)))))
                            have hr1_1 : M1 (Z.2.1 1 i) = some (t, (.inl (G.2.1 0, 11, .inl (rw11 (U 1 i 0) (U 1 i 1) (U 1 i 2) (U 1 i 3) (U 1 i 4) (U 1 i 5) (U 1 i 6) (U 1 i 7) (U 1 i 8) (U 1 i 9) (U 1 i 10))))) := by rw [eM1]; exact hu_n (hL.rne (by decide) (by decide) hi (Nat.lt_of_lt_of_le hg.2 (hL.cnt (k := 0) (by decide))) (by decide)) (hL.row (k := 1) (by decide) hi)
                            have hr1_0 : M1 (Z.2.1 0 (ix (U 1 i 7))) = some (t, (.inl (G.2.1 0, 11, .inl (rw11 (U 0 (ix (U 1 i 7)) 0) (U 0 (ix (U 1 i 7)) 1) (U 0 (ix (U 1 i 7)) 2) ((U 0 (ix (U 1 i 7)) 3) + (a_X7_work U i)) (U 0 (ix (U 1 i 7)) 4) (U 0 (ix (U 1 i 7)) 5) (U 0 (ix (U 1 i 7)) 6) ((U 0 (ix (U 1 i 7)) 7) + ((((a_X7_work U i) * (t_X7_brings_0 (U 0 (ix (U 1 i 7)) 6) (U 0 (ix (U 1 i 7)) 9))) * (((96 : Int32) + ((3 : Int32) * p0)) + ((U 1 i 5) / (20 : Int32)))) / (100 : Int32))) (U 0 (ix (U 1 i 7)) 8) (U 0 (ix (U 1 i 7)) 9) (U 0 (ix (U 1 i 7)) 10))))) := by rw [eM1]; exact hu_s
                            obtain ⟨M2, eM2⟩ : ∃ z, z = hu M1 (Z.2.1 1 i) t (.inl (G.2.1 0, 11, .inl (rw11 (U 1 i 0) (U 1 i 1) ((U 1 i 2) + ((a_X7_work U i) * (t_X7_brings_0 (U 0 (ix (U 1 i 7)) 6) (U 0 (ix (U 1 i 7)) 9)))) (U 1 i 7) (U 0 (ix (U 1 i 7)) 5) ((U 1 i 5) + (a_X7_work U i)) (0 : Int32) (U 1 i 7) ((U 1 i 8) + (a_X7_work U i)) (U 1 i 9) ((U 1 i 10) + ((a_X7_work U i) * (t_X7_brings_0 (U 0 (ix (U 1 i 7)) 6) (U 0 (ix (U 1 i 7)) 9))))))) := ⟨_, rfl⟩
                            rw [← eM2] at hM
                            have hL2 : MdR G M2 t h0 Z N (tu (tu U 0 (ix (U 1 i 7)) (rw11 (U 0 (ix (U 1 i 7)) 0) (U 0 (ix (U 1 i 7)) 1) (U 0 (ix (U 1 i 7)) 2) ((U 0 (ix (U 1 i 7)) 3) + (a_X7_work U i)) (U 0 (ix (U 1 i 7)) 4) (U 0 (ix (U 1 i 7)) 5) (U 0 (ix (U 1 i 7)) 6) ((U 0 (ix (U 1 i 7)) 7) + ((((a_X7_work U i) * (t_X7_brings_0 (U 0 (ix (U 1 i 7)) 6) (U 0 (ix (U 1 i 7)) 9))) * (((96 : Int32) + ((3 : Int32) * p0)) + ((U 1 i 5) / (20 : Int32)))) / (100 : Int32))) (U 0 (ix (U 1 i 7)) 8) (U 0 (ix (U 1 i 7)) 9) (U 0 (ix (U 1 i 7)) 10))) 1 i (rw11 (U 1 i 0) (U 1 i 1) ((U 1 i 2) + ((a_X7_work U i) * (t_X7_brings_0 (U 0 (ix (U 1 i 7)) 6) (U 0 (ix (U 1 i 7)) 9)))) (U 1 i 7) (U 0 (ix (U 1 i 7)) 5) ((U 1 i 5) + (a_X7_work U i)) (0 : Int32) (U 1 i 7) ((U 1 i 8) + (a_X7_work U i)) (U 1 i 9) ((U 1 i 10) + ((a_X7_work U i) * (t_X7_brings_0 (U 0 (ix (U 1 i 7)) 6) (U 0 (ix (U 1 i 7)) 9)))))) now := by rw [eM2]; exact hL1.setRow (k := 1) (by decide) hi (rw11 (U 1 i 0) (U 1 i 1) ((U 1 i 2) + ((a_X7_work U i) * (t_X7_brings_0 (U 0 (ix (U 1 i 7)) 6) (U 0 (ix (U 1 i 7)) 9)))) (U 1 i 7) (U 0 (ix (U 1 i 7)) 5) ((U 1 i 5) + (a_X7_work U i)) (0 : Int32) (U 1 i 7) ((U 1 i 8) + (a_X7_work U i)) (U 1 i 9) ((U 1 i 10) + ((a_X7_work U i) * (t_X7_brings_0 (U 0 (ix (U 1 i 7)) 6) (U 0 (ix (U 1 i 7)) 9)))))
                            have hF2 : Fr t M M2 := by rw [eM2]; exact Fr.tr hF1 (Fr.up hr1_1)
                            have hr2_1 : M2 (Z.2.1 1 i) = some (t, (.inl (G.2.1 0, 11, .inl (rw11 (U 1 i 0) (U 1 i 1) ((U 1 i 2) + ((a_X7_work U i) * (t_X7_brings_0 (U 0 (ix (U 1 i 7)) 6) (U 0 (ix (U 1 i 7)) 9)))) (U 1 i 7) (U 0 (ix (U 1 i 7)) 5) ((U 1 i 5) + (a_X7_work U i)) (0 : Int32) (U 1 i 7) ((U 1 i 8) + (a_X7_work U i)) (U 1 i 9) ((U 1 i 10) + ((a_X7_work U i) * (t_X7_brings_0 (U 0 (ix (U 1 i 7)) 6) (U 0 (ix (U 1 i 7)) 9)))))))) := by rw [eM2]; exact hu_s
                            have hr2_0 : M2 (Z.2.1 0 (ix (U 1 i 7))) = some (t, (.inl (G.2.1 0, 11, .inl (rw11 (U 0 (ix (U 1 i 7)) 0) (U 0 (ix (U 1 i 7)) 1) (U 0 (ix (U 1 i 7)) 2) ((U 0 (ix (U 1 i 7)) 3) + (a_X7_work U i)) (U 0 (ix (U 1 i 7)) 4) (U 0 (ix (U 1 i 7)) 5) (U 0 (ix (U 1 i 7)) 6) ((U 0 (ix (U 1 i 7)) 7) + ((((a_X7_work U i) * (t_X7_brings_0 (U 0 (ix (U 1 i 7)) 6) (U 0 (ix (U 1 i 7)) 9))) * (((96 : Int32) + ((3 : Int32) * p0)) + ((U 1 i 5) / (20 : Int32)))) / (100 : Int32))) (U 0 (ix (U 1 i 7)) 8) (U 0 (ix (U 1 i 7)) 9) (U 0 (ix (U 1 i 7)) 10))))) := by rw [eM2]; exact hu_n (hL1.rne (by decide) (by decide) (Nat.lt_of_lt_of_le hg.2 (hL.cnt (k := 0) (by decide))) hi (by decide)) hr1_0
                            exact g_vret hx hb hr hlocks hM (Nat.zero_le _) (Nat.zero_le _) ⟨Z, (by unfold u_X7_work; rw [if_neg c1, if_neg c2, if_pos c3, if_neg c4, if_neg c5, if_neg c6, if_neg c7, if_pos c8, if_neg c9, if_neg c10, if_pos c12, if_pos c14]; exact hL2), hF2⟩ dX7_work_288
                          · refine lv_iconst (v := (1 : Int32)) hx hb dX7_work_282 (by decide) ?_
                            refine lv_goto (tgt := 287) hx hb dX7_work_283 (by decide) ?_
                            refine is11_6 hx hb hK hM hu_s dX7_work_287 (fun H locs hM => ?_)
                            replace hM := hM.eq (hu_u _ _ _ _ _ _)
                            obtain ⟨M1, eM1⟩ : ∃ z, z = hu M (Z.2.1 0 (ix (U 1 i 7))) t (.inl (G.2.1 0, 11, .inl (rw11 (U 0 (ix (U 1 i 7)) 0) (U 0 (ix (U 1 i 7)) 1) (U 0 (ix (U 1 i 7)) 2) ((U 0 (ix (U 1 i 7)) 3) + (a_X7_work U i)) (U 0 (ix (U 1 i 7)) 4) (U 0 (ix (U 1 i 7)) 5) (U 0 (ix (U 1 i 7)) 6) ((U 0 (ix (U 1 i 7)) 7) + ((((a_X7_work U i) * (t_X7_brings_0 (U 0 (ix (U 1 i 7)) 6) (U 0 (ix (U 1 i 7)) 9))) * (((96 : Int32) + ((3 : Int32) * p0)) + ((U 1 i 5) / (20 : Int32)))) / (100 : Int32))) (U 0 (ix (U 1 i 7)) 8) (U 0 (ix (U 1 i 7)) 9) (U 0 (ix (U 1 i 7)) 10)))) := ⟨_, rfl⟩
                            rw [← eM1] at hM
                            have hL1 : MdR G M1 t h0 Z N (tu U 0 (ix (U 1 i 7)) (rw11 (U 0 (ix (U 1 i 7)) 0) (U 0 (ix (U 1 i 7)) 1) (U 0 (ix (U 1 i 7)) 2) ((U 0 (ix (U 1 i 7)) 3) + (a_X7_work U i)) (U 0 (ix (U 1 i 7)) 4) (U 0 (ix (U 1 i 7)) 5) (U 0 (ix (U 1 i 7)) 6) ((U 0 (ix (U 1 i 7)) 7) + ((((a_X7_work U i) * (t_X7_brings_0 (U 0 (ix (U 1 i 7)) 6) (U 0 (ix (U 1 i 7)) 9))) * (((96 : Int32) + ((3 : Int32) * p0)) + ((U 1 i 5) / (20 : Int32)))) / (100 : Int32))) (U 0 (ix (U 1 i 7)) 8) (U 0 (ix (U 1 i 7)) 9) (U 0 (ix (U 1 i 7)) 10))) now := by rw [eM1]; exact hL.setRow (k := 0) (by decide) (Nat.lt_of_lt_of_le hg.2 (hL.cnt (k := 0) (by decide))) (rw11 (U 0 (ix (U 1 i 7)) 0) (U 0 (ix (U 1 i 7)) 1) (U 0 (ix (U 1 i 7)) 2) ((U 0 (ix (U 1 i 7)) 3) + (a_X7_work U i)) (U 0 (ix (U 1 i 7)) 4) (U 0 (ix (U 1 i 7)) 5) (U 0 (ix (U 1 i 7)) 6) ((U 0 (ix (U 1 i 7)) 7) + ((((a_X7_work U i) * (t_X7_brings_0 (U 0 (ix (U 1 i 7)) 6) (U 0 (ix (U 1 i 7)) 9))) * (((96 : Int32) + ((3 : Int32) * p0)) + ((U 1 i 5) / (20 : Int32)))) / (100 : Int32))) (U 0 (ix (U 1 i 7)) 8) (U 0 (ix (U 1 i 7)) 9) (U 0 (ix (U 1 i 7)) 10))
                            have hF1 : Fr t M M1 := by rw [eM1]; exact Fr.tr Fr.rf (Fr.up (hL.row (k := 0) (by decide) (Nat.lt_of_lt_of_le hg.2 (hL.cnt (k := 0) (by decide)))))
                            have hr1_1 : M1 (Z.2.1 1 i) = some (t, (.inl (G.2.1 0, 11, .inl (rw11 (U 1 i 0) (U 1 i 1) (U 1 i 2) (U 1 i 3) (U 1 i 4) (U 1 i 5) (U 1 i 6) (U 1 i 7) (U 1 i 8) (U 1 i 9) (U 1 i 10))))) := by rw [eM1]; exact hu_n (hL.rne (by decide) (by decide) hi (Nat.lt_of_lt_of_le hg.2 (hL.cnt (k := 0) (by decide))) (by decide)) (hL.row (k := 1) (by decide) hi)
                            have hr1_0 : M1 (Z.2.1 0 (ix (U 1 i 7))) = some (t, (.inl (G.2.1 0, 11, .inl (rw11 (U 0 (ix (U 1 i 7)) 0) (U 0 (ix (U 1 i 7)) 1) (U 0 (ix (U 1 i 7)) 2) ((U 0 (ix (U 1 i 7)) 3) + (a_X7_work U i)) (U 0 (ix (U 1 i 7)) 4) (U 0 (ix (U 1 i 7)) 5) (U 0 (ix (U 1 i 7)) 6) ((U 0 (ix (U 1 i 7)) 7) + ((((a_X7_work U i) * (t_X7_brings_0 (U 0 (ix (U 1 i 7)) 6) (U 0 (ix (U 1 i 7)) 9))) * (((96 : Int32) + ((3 : Int32) * p0)) + ((U 1 i 5) / (20 : Int32)))) / (100 : Int32))) (U 0 (ix (U 1 i 7)) 8) (U 0 (ix (U 1 i 7)) 9) (U 0 (ix (U 1 i 7)) 10))))) := by rw [eM1]; exact hu_s
                            obtain ⟨M2, eM2⟩ : ∃ z, z = hu M1 (Z.2.1 1 i) t (.inl (G.2.1 0, 11, .inl (rw11 (U 1 i 0) (U 1 i 1) ((U 1 i 2) + ((a_X7_work U i) * (t_X7_brings_0 (U 0 (ix (U 1 i 7)) 6) (U 0 (ix (U 1 i 7)) 9)))) (U 1 i 7) (U 0 (ix (U 1 i 7)) 5) ((U 1 i 5) + (a_X7_work U i)) (1 : Int32) (U 1 i 7) ((U 1 i 8) + (a_X7_work U i)) (U 1 i 9) ((U 1 i 10) + ((a_X7_work U i) * (t_X7_brings_0 (U 0 (ix (U 1 i 7)) 6) (U 0 (ix (U 1 i 7)) 9))))))) := ⟨_, rfl⟩
                            rw [← eM2] at hM
                            have hL2 : MdR G M2 t h0 Z N (tu (tu U 0 (ix (U 1 i 7)) (rw11 (U 0 (ix (U 1 i 7)) 0) (U 0 (ix (U 1 i 7)) 1) (U 0 (ix (U 1 i 7)) 2) ((U 0 (ix (U 1 i 7)) 3) + (a_X7_work U i)) (U 0 (ix (U 1 i 7)) 4) (U 0 (ix (U 1 i 7)) 5) (U 0 (ix (U 1 i 7)) 6) ((U 0 (ix (U 1 i 7)) 7) + ((((a_X7_work U i) * (t_X7_brings_0 (U 0 (ix (U 1 i 7)) 6) (U 0 (ix (U 1 i 7)) 9))) * (((96 : Int32) + ((3 : Int32) * p0)) + ((U 1 i 5) / (20 : Int32)))) / (100 : Int32))) (U 0 (ix (U 1 i 7)) 8) (U 0 (ix (U 1 i 7)) 9) (U 0 (ix (U 1 i 7)) 10))) 1 i (rw11 (U 1 i 0) (U 1 i 1) ((U 1 i 2) + ((a_X7_work U i) * (t_X7_brings_0 (U 0 (ix (U 1 i 7)) 6) (U 0 (ix (U 1 i 7)) 9)))) (U 1 i 7) (U 0 (ix (U 1 i 7)) 5) ((U 1 i 5) + (a_X7_work U i)) (1 : Int32) (U 1 i 7) ((U 1 i 8) + (a_X7_work U i)) (U 1 i 9) ((U 1 i 10) + ((a_X7_work U i) * (t_X7_brings_0 (U 0 (ix (U 1 i 7)) 6) (U 0 (ix (U 1 i 7)) 9)))))) now := by rw [eM2]; exact hL1.setRow (k := 1) (by decide) hi (rw11 (U 1 i 0) (U 1 i 1) ((U 1 i 2) + ((a_X7_work U i) * (t_X7_brings_0 (U 0 (ix (U 1 i 7)) 6) (U 0 (ix (U 1 i 7)) 9)))) (U 1 i 7) (U 0 (ix (U 1 i 7)) 5) ((U 1 i 5) + (a_X7_work U i)) (1 : Int32) (U 1 i 7) ((U 1 i 8) + (a_X7_work U i)) (U 1 i 9) ((U 1 i 10) + ((a_X7_work U i) * (t_X7_brings_0 (U 0 (ix (U 1 i 7)) 6) (U 0 (ix (U 1 i 7)) 9)))))
                            have hF2 : Fr t M M2 := by rw [eM2]; exact Fr.tr hF1 (Fr.up hr1_1)
                            have hr2_1 : M2 (Z.2.1 1 i) = some (t, (.inl (G.2.1 0, 11, .inl (rw11 (U 1 i 0) (U 1 i 1) ((U 1 i 2) + ((a_X7_work U i) * (t_X7_brings_0 (U 0 (ix (U 1 i 7)) 6) (U 0 (ix (U 1 i 7)) 9)))) (U 1 i 7) (U 0 (ix (U 1 i 7)) 5) ((U 1 i 5) + (a_X7_work U i)) (1 : Int32) (U 1 i 7) ((U 1 i 8) + (a_X7_work U i)) (U 1 i 9) ((U 1 i 10) + ((a_X7_work U i) * (t_X7_brings_0 (U 0 (ix (U 1 i 7)) 6) (U 0 (ix (U 1 i 7)) 9)))))))) := by rw [eM2]; exact hu_s
                            have hr2_0 : M2 (Z.2.1 0 (ix (U 1 i 7))) = some (t, (.inl (G.2.1 0, 11, .inl (rw11 (U 0 (ix (U 1 i 7)) 0) (U 0 (ix (U 1 i 7)) 1) (U 0 (ix (U 1 i 7)) 2) ((U 0 (ix (U 1 i 7)) 3) + (a_X7_work U i)) (U 0 (ix (U 1 i 7)) 4) (U 0 (ix (U 1 i 7)) 5) (U 0 (ix (U 1 i 7)) 6) ((U 0 (ix (U 1 i 7)) 7) + ((((a_X7_work U i) * (t_X7_brings_0 (U 0 (ix (U 1 i 7)) 6) (U 0 (ix (U 1 i 7)) 9))) * (((96 : Int32) + ((3 : Int32) * p0)) + ((U 1 i 5) / (20 : Int32)))) / (100 : Int32))) (U 0 (ix (U 1 i 7)) 8) (U 0 (ix (U 1 i 7)) 9) (U 0 (ix (U 1 i 7)) 10))))) := by rw [eM2]; exact hu_n (hL1.rne (by decide) (by decide) (Nat.lt_of_lt_of_le hg.2 (hL.cnt (k := 0) (by decide))) hi (by decide)) hr1_0
                            exact g_vret hx hb hr hlocks hM (Nat.zero_le _) (Nat.zero_le _) ⟨Z, (by unfold u_X7_work; rw [if_neg c1, if_neg c2, if_pos c3, if_neg c4, if_neg c5, if_neg c6, if_neg c7, if_pos c8, if_neg c9, if_neg c10, if_pos c12, if_neg c14]; exact hL2), hF2⟩ dX7_work_288
                    · refine lv_aload_n hx hb dX7_work_147 rfl (lv_at hl 5 rfl) ?_
                      refine lv_bipush (v := (9 : Int32)) hx hb dX7_work_148 (by decide) ?_
                      refine lv_dup2_11 hx hb dX7_work_150 rfl rfl ?_
                      refine ia11_9 hx hb hK hM (hL.row (k := 1) (by decide) hi) dX7_work_151 ?_
                      refine lv_iconst (v := (1 : Int32)) hx hb dX7_work_152 (by decide) ?_
                      refine lv_iadd hx hb dX7_work_153 ?_
                      refine is11_9 hx hb hK hM (hL.row (k := 1) (by decide) hi) dX7_work_154 (fun H locs hM => ?_)
                      obtain ⟨M1, eM1⟩ : ∃ z, z = hu M (Z.2.1 1 i) t (.inl (G.2.1 0, 11, .inl (rw11 (U 1 i 0) (U 1 i 1) (U 1 i 2) (U 1 i 3) (U 1 i 4) (U 1 i 5) (U 1 i 6) (U 1 i 7) (U 1 i 8) ((U 1 i 9) + (1 : Int32)) (U 1 i 10)))) := ⟨_, rfl⟩
                      rw [← eM1] at hM
                      have hL1 : MdR G M1 t h0 Z N (tu U 1 i (rw11 (U 1 i 0) (U 1 i 1) (U 1 i 2) (U 1 i 3) (U 1 i 4) (U 1 i 5) (U 1 i 6) (U 1 i 7) (U 1 i 8) ((U 1 i 9) + (1 : Int32)) (U 1 i 10))) now := by rw [eM1]; exact hL.setRow (k := 1) (by decide) hi (rw11 (U 1 i 0) (U 1 i 1) (U 1 i 2) (U 1 i 3) (U 1 i 4) (U 1 i 5) (U 1 i 6) (U 1 i 7) (U 1 i 8) ((U 1 i 9) + (1 : Int32)) (U 1 i 10))
                      have hF1 : Fr t M M1 := by rw [eM1]; exact Fr.tr Fr.rf (Fr.up (hL.row (k := 1) (by decide) hi))
                      have hr1_1 : M1 (Z.2.1 1 i) = some (t, (.inl (G.2.1 0, 11, .inl (rw11 (U 1 i 0) (U 1 i 1) (U 1 i 2) (U 1 i 3) (U 1 i 4) (U 1 i 5) (U 1 i 6) (U 1 i 7) (U 1 i 8) ((U 1 i 9) + (1 : Int32)) (U 1 i 10))))) := by rw [eM1]; exact hu_s
                      have hr1_0 : M1 (Z.2.1 0 (ix (U 1 i 7))) = some (t, (.inl (G.2.1 0, 11, .inl (rw11 (U 0 (ix (U 1 i 7)) 0) (U 0 (ix (U 1 i 7)) 1) (U 0 (ix (U 1 i 7)) 2) (U 0 (ix (U 1 i 7)) 3) (U 0 (ix (U 1 i 7)) 4) (U 0 (ix (U 1 i 7)) 5) (U 0 (ix (U 1 i 7)) 6) (U 0 (ix (U 1 i 7)) 7) (U 0 (ix (U 1 i 7)) 8) (U 0 (ix (U 1 i 7)) 9) (U 0 (ix (U 1 i 7)) 10))))) := by rw [eM1]; exact hu_n (hL.rne (by decide) (by decide) (Nat.lt_of_lt_of_le hg.2 (hL.cnt (k := 0) (by decide))) hi (by decide)) (hL.row (k := 0) (by decide) (Nat.lt_of_lt_of_le hg.2 (hL.cnt (k := 0) (by decide))))
                      exact g_vret hx hb hr hlocks hM (Nat.zero_le _) (Nat.zero_le _) ⟨Z, (by unfold u_X7_work; rw [if_neg c1, if_neg c2, if_pos c3, if_neg c4, if_neg c5, if_neg c6, if_neg c7, if_pos c8, if_pos c9]; exact hL1), hF1⟩ dX7_work_155
                  · refine lv_aload_n hx hb dX7_work_132 rfl (lv_at hl 5 rfl) ?_
                    refine lv_iconst (v := (3 : Int32)) hx hb dX7_work_133 (by decide) ?_
                    refine ia11_3 hx hb hK hM (hL.row (k := 1) (by decide) hi) dX7_work_134 ?_
                    refine lv_aload_n hx hb dX7_work_135 rfl (lv_at hl 5 rfl) ?_
                    refine lv_bipush (v := (7 : Int32)) hx hb dX7_work_136 (by decide) ?_
                    refine ia11_7 hx hb hK hM (hL.row (k := 1) (by decide) hi) dX7_work_138 ?_
                    refine lv_icmp_ne (tgt := 147) hx hb dX7_work_139 (by decide) (fun c15 => ?_) (fun c15 => ?_)
                    · refine lv_aload_n hx hb dX7_work_147 rfl (lv_at hl 5 rfl) ?_
                      refine lv_bipush (v := (9 : Int32)) hx hb dX7_work_148 (by decide) ?_
                      refine lv_dup2_11 hx hb dX7_work_150 rfl rfl ?_
                      refine ia11_9 hx hb hK hM (hL.row (k := 1) (by decide) hi) dX7_work_151 ?_
                      refine lv_iconst (v := (1 : Int32)) hx hb dX7_work_152 (by decide) ?_
                      refine lv_iadd hx hb dX7_work_153 ?_
                      refine is11_9 hx hb hK hM (hL.row (k := 1) (by decide) hi) dX7_work_154 (fun H locs hM => ?_)
                      obtain ⟨M1, eM1⟩ : ∃ z, z = hu M (Z.2.1 1 i) t (.inl (G.2.1 0, 11, .inl (rw11 (U 1 i 0) (U 1 i 1) (U 1 i 2) (U 1 i 3) (U 1 i 4) (U 1 i 5) (U 1 i 6) (U 1 i 7) (U 1 i 8) ((U 1 i 9) + (1 : Int32)) (U 1 i 10)))) := ⟨_, rfl⟩
                      rw [← eM1] at hM
                      have hL1 : MdR G M1 t h0 Z N (tu U 1 i (rw11 (U 1 i 0) (U 1 i 1) (U 1 i 2) (U 1 i 3) (U 1 i 4) (U 1 i 5) (U 1 i 6) (U 1 i 7) (U 1 i 8) ((U 1 i 9) + (1 : Int32)) (U 1 i 10))) now := by rw [eM1]; exact hL.setRow (k := 1) (by decide) hi (rw11 (U 1 i 0) (U 1 i 1) (U 1 i 2) (U 1 i 3) (U 1 i 4) (U 1 i 5) (U 1 i 6) (U 1 i 7) (U 1 i 8) ((U 1 i 9) + (1 : Int32)) (U 1 i 10))
                      have hF1 : Fr t M M1 := by rw [eM1]; exact Fr.tr Fr.rf (Fr.up (hL.row (k := 1) (by decide) hi))
                      have hr1_1 : M1 (Z.2.1 1 i) = some (t, (.inl (G.2.1 0, 11, .inl (rw11 (U 1 i 0) (U 1 i 1) (U 1 i 2) (U 1 i 3) (U 1 i 4) (U 1 i 5) (U 1 i 6) (U 1 i 7) (U 1 i 8) ((U 1 i 9) + (1 : Int32)) (U 1 i 10))))) := by rw [eM1]; exact hu_s
                      have hr1_0 : M1 (Z.2.1 0 (ix (U 1 i 7))) = some (t, (.inl (G.2.1 0, 11, .inl (rw11 (U 0 (ix (U 1 i 7)) 0) (U 0 (ix (U 1 i 7)) 1) (U 0 (ix (U 1 i 7)) 2) (U 0 (ix (U 1 i 7)) 3) (U 0 (ix (U 1 i 7)) 4) (U 0 (ix (U 1 i 7)) 5) (U 0 (ix (U 1 i 7)) 6) (U 0 (ix (U 1 i 7)) 7) (U 0 (ix (U 1 i 7)) 8) (U 0 (ix (U 1 i 7)) 9) (U 0 (ix (U 1 i 7)) 10))))) := by rw [eM1]; exact hu_n (hL.rne (by decide) (by decide) (Nat.lt_of_lt_of_le hg.2 (hL.cnt (k := 0) (by decide))) hi (by decide)) (hL.row (k := 0) (by decide) (Nat.lt_of_lt_of_le hg.2 (hL.cnt (k := 0) (by decide))))
                      exact g_vret hx hb hr hlocks hM (Nat.zero_le _) (Nat.zero_le _) ⟨Z, (by unfold u_X7_work; rw [if_neg c1, if_neg c2, if_pos c3, if_neg c4, if_neg c5, if_neg c6, if_neg c7, if_neg c8, if_neg c15]; exact hL1), hF1⟩ dX7_work_155
                    · refine lv_iload hx hb dX7_work_142 (lv_at hl 0 rfl) ?_
                      refine lv_if_ne (tgt := 156) hx hb dX7_work_144 (by decide) (fun c16 => ?_) (fun c16 => ?_)
                      · refine lv_iload hx hb dX7_work_156 (lv_at hl 0 rfl) ?_
                        refine lv_iload hx hb dX7_work_158 (lv_at hl 1 rfl) ?_
                        refine lv_imul hx hb dX7_work_160 ?_
                        refine lv_istore (lv' := [(7, .int ((a_X7_work U i) * (t_X7_brings_0 (U 0 (ix (U 1 i 7)) 6) (U 0 (ix (U 1 i 7)) 9)))), (6, .int (a_X7_work U i)), (5, .int (t_X7_brings_0 (U 0 (ix (U 1 i 7)) 6) (U 0 (ix (U 1 i 7)) 9))), (4, .ref (Z.2.1 0 (ix (U 1 i 7)))), (0, .ref h0), (1, .int p0), (2, .ref (Z.2.1 1 i)), (3, .int p1)]) hx hb dX7_work_161 hl (by decide) rfl (fun ls hl => ?_)
                        refine lv_aload hx hb dX7_work_163 (lv_at hl 3 rfl) ?_
                        refine lv_iconst (v := (3 : Int32)) hx hb dX7_work_165 (by decide) ?_
                        refine lv_dup2_11 hx hb dX7_work_166 rfl rfl ?_
                        refine ia11_3 hx hb hK hM (hL.row (k := 0) (by decide) (Nat.lt_of_lt_of_le hg.2 (hL.cnt (k := 0) (by decide)))) dX7_work_167 ?_
                        refine lv_iload hx hb dX7_work_168 (lv_at hl 1 rfl) ?_
                        refine lv_iadd hx hb dX7_work_170 ?_
                        refine is11_3 hx hb hK hM (hL.row (k := 0) (by decide) (Nat.lt_of_lt_of_le hg.2 (hL.cnt (k := 0) (by decide)))) dX7_work_171 (fun H locs hM => ?_)
                        refine lv_aload hx hb dX7_work_172 (lv_at hl 3 rfl) ?_
                        refine lv_bipush (v := (7 : Int32)) hx hb dX7_work_174 (by decide) ?_
                        refine lv_dup2_11 hx hb dX7_work_176 rfl rfl ?_
                        refine ia11_7 hx hb hK hM hu_s dX7_work_177 ?_
                        refine lv_iload hx hb dX7_work_178 (lv_at hl 0 rfl) ?_
                        refine lv_bipush (v := (96 : Int32)) hx hb dX7_work_180 (by decide) ?_
                        refine lv_iconst (v := (3 : Int32)) hx hb dX7_work_182 (by decide) ?_
                        refine lv_iload_n hx hb dX7_work_183 rfl (lv_at hl 5 rfl) ?_
                        refine lv_imul hx hb dX7_work_184 ?_
                        refine lv_iadd hx hb dX7_work_185 ?_
                        refine lv_aload_n hx hb dX7_work_186 rfl (lv_at hl 6 rfl) ?_
                        refine lv_iconst (v := (5 : Int32)) hx hb dX7_work_187 (by decide) ?_
                        refine ia11_5 hx hb hK hM (hu_n (hL.rne (by decide) (by decide) hi (Nat.lt_of_lt_of_le hg.2 (hL.cnt (k := 0) (by decide))) (by decide)) (hL.row (k := 1) (by decide) hi)) dX7_work_188 ?_
                        refine lv_bipush (v := (20 : Int32)) hx hb dX7_work_189 (by decide) ?_
                        refine lv_idiv hx hb dX7_work_191 (by decide) ?_
                        refine lv_iadd hx hb dX7_work_192 ?_
                        refine lv_imul hx hb dX7_work_193 ?_
                        refine lv_bipush (v := (100 : Int32)) hx hb dX7_work_194 (by decide) ?_
                        refine lv_idiv hx hb dX7_work_196 (by decide) ?_
                        refine lv_iadd hx hb dX7_work_197 ?_
                        refine is11_7 hx hb hK hM hu_s dX7_work_198 (fun H locs hM => ?_)
                        replace hM := hM.eq (hu_u _ _ _ _ _ _)
                        refine lv_iload hx hb dX7_work_199 (lv_at hl 0 rfl) ?_
                        refine lv_if_le (tgt := 245) hx hb dX7_work_201 (by decide) (fun c17 => ?_) (fun c17 => ?_)
                        · refine lv_aload_n hx hb dX7_work_245 rfl (lv_at hl 6 rfl) ?_
                          refine lv_bipush (v := (10 : Int32)) hx hb dX7_work_246 (by decide) ?_
                          refine lv_dup2_11 hx hb dX7_work_248 rfl rfl ?_
                          refine ia11_10 hx hb hK hM (hu_n (hL.rne (by decide) (by decide) hi (Nat.lt_of_lt_of_le hg.2 (hL.cnt (k := 0) (by decide))) (by decide)) (hL.row (k := 1) (by decide) hi)) dX7_work_249 ?_
                          refine lv_iload hx hb dX7_work_250 (lv_at hl 0 rfl) ?_
                          refine lv_iadd hx hb dX7_work_252 ?_
                          refine is11_10 hx hb hK hM (hu_n (hL.rne (by decide) (by decide) hi (Nat.lt_of_lt_of_le hg.2 (hL.cnt (k := 0) (by decide))) (by decide)) (hL.row (k := 1) (by decide) hi)) dX7_work_253 (fun H locs hM => ?_)
                          refine lv_aload_n hx hb dX7_work_254 rfl (lv_at hl 6 rfl) ?_
                          refine lv_bipush (v := (8 : Int32)) hx hb dX7_work_255 (by decide) ?_
                          refine lv_dup2_11 hx hb dX7_work_257 rfl rfl ?_
                          refine ia11_8 hx hb hK hM hu_s dX7_work_258 ?_
                          refine lv_iload hx hb dX7_work_259 (lv_at hl 1 rfl) ?_
                          refine lv_iadd hx hb dX7_work_261 ?_
                          refine is11_8 hx hb hK hM hu_s dX7_work_262 (fun H locs hM => ?_)
                          replace hM := hM.eq (hu_u _ _ _ _ _ _)
                          refine lv_aload_n hx hb dX7_work_263 rfl (lv_at hl 6 rfl) ?_
                          refine lv_iconst (v := (5 : Int32)) hx hb dX7_work_264 (by decide) ?_
                          refine lv_dup2_11 hx hb dX7_work_265 rfl rfl ?_
                          refine ia11_5 hx hb hK hM hu_s dX7_work_266 ?_
                          refine lv_iload hx hb dX7_work_267 (lv_at hl 1 rfl) ?_
                          refine lv_iadd hx hb dX7_work_269 ?_
                          refine is11_5 hx hb hK hM hu_s dX7_work_270 (fun H locs hM => ?_)
                          replace hM := hM.eq (hu_u _ _ _ _ _ _)
                          refine lv_aload_n hx hb dX7_work_271 rfl (lv_at hl 6 rfl) ?_
                          refine lv_bipush (v := (6 : Int32)) hx hb dX7_work_272 (by decide) ?_
                          refine lv_aload_n hx hb dX7_work_274 rfl (lv_at hl 6 rfl) ?_
                          refine lv_iconst (v := (5 : Int32)) hx hb dX7_work_275 (by decide) ?_
                          refine ia11_5 hx hb hK hM hu_s dX7_work_276 ?_
                          refine lv_bipush (v := (100 : Int32)) hx hb dX7_work_277 (by decide) ?_
                          refine lv_icmp_lt (tgt := 286) hx hb dX7_work_279 (by decide) (fun c18 => ?_) (fun c18 => ?_)
                          · refine lv_iconst (v := (0 : Int32)) hx hb dX7_work_286 (by decide) ?_
                            refine is11_6 hx hb hK hM hu_s dX7_work_287 (fun H locs hM => ?_)
                            replace hM := hM.eq (hu_u _ _ _ _ _ _)
                            obtain ⟨M1, eM1⟩ : ∃ z, z = hu M (Z.2.1 0 (ix (U 1 i 7))) t (.inl (G.2.1 0, 11, .inl (rw11 (U 0 (ix (U 1 i 7)) 0) (U 0 (ix (U 1 i 7)) 1) (U 0 (ix (U 1 i 7)) 2) ((U 0 (ix (U 1 i 7)) 3) + (a_X7_work U i)) (U 0 (ix (U 1 i 7)) 4) (U 0 (ix (U 1 i 7)) 5) (U 0 (ix (U 1 i 7)) 6) ((U 0 (ix (U 1 i 7)) 7) + ((((a_X7_work U i) * (t_X7_brings_0 (U 0 (ix (U 1 i 7)) 6) (U 0 (ix (U 1 i 7)) 9))) * (((96 : Int32) + ((3 : Int32) * p0)) + ((U 1 i 5) / (20 : Int32)))) / (100 : Int32))) (U 0 (ix (U 1 i 7)) 8) (U 0 (ix (U 1 i 7)) 9) (U 0 (ix (U 1 i 7)) 10)))) := ⟨_, rfl⟩
                            rw [← eM1] at hM
                            have hL1 : MdR G M1 t h0 Z N (tu U 0 (ix (U 1 i 7)) (rw11 (U 0 (ix (U 1 i 7)) 0) (U 0 (ix (U 1 i 7)) 1) (U 0 (ix (U 1 i 7)) 2) ((U 0 (ix (U 1 i 7)) 3) + (a_X7_work U i)) (U 0 (ix (U 1 i 7)) 4) (U 0 (ix (U 1 i 7)) 5) (U 0 (ix (U 1 i 7)) 6) ((U 0 (ix (U 1 i 7)) 7) + ((((a_X7_work U i) * (t_X7_brings_0 (U 0 (ix (U 1 i 7)) 6) (U 0 (ix (U 1 i 7)) 9))) * (((96 : Int32) + ((3 : Int32) * p0)) + ((U 1 i 5) / (20 : Int32)))) / (100 : Int32))) (U 0 (ix (U 1 i 7)) 8) (U 0 (ix (U 1 i 7)) 9) (U 0 (ix (U 1 i 7)) 10))) now := by rw [eM1]; exact hL.setRow (k := 0) (by decide) (Nat.lt_of_lt_of_le hg.2 (hL.cnt (k := 0) (by decide))) (rw11 (U 0 (ix (U 1 i 7)) 0) (U 0 (ix (U 1 i 7)) 1) (U 0 (ix (U 1 i 7)) 2) ((U 0 (ix (U 1 i 7)) 3) + (a_X7_work U i)) (U 0 (ix (U 1 i 7)) 4) (U 0 (ix (U 1 i 7)) 5) (U 0 (ix (U 1 i 7)) 6) ((U 0 (ix (U 1 i 7)) 7) + ((((a_X7_work U i) * (t_X7_brings_0 (U 0 (ix (U 1 i 7)) 6) (U 0 (ix (U 1 i 7)) 9))) * (((96 : Int32) + ((3 : Int32) * p0)) + ((U 1 i 5) / (20 : Int32)))) / (100 : Int32))) (U 0 (ix (U 1 i 7)) 8) (U 0 (ix (U 1 i 7)) 9) (U 0 (ix (U 1 i 7)) 10))
                            have hF1 : Fr t M M1 := by rw [eM1]; exact Fr.tr Fr.rf (Fr.up (hL.row (k := 0) (by decide) (Nat.lt_of_lt_of_le hg.2 (hL.cnt (k := 0) (by decide)))))
                            have hr1_1 : M1 (Z.2.1 1 i) = some (t, (.inl (G.2.1 0, 11, .inl (rw11 (U 1 i 0) (U 1 i 1) (U 1 i 2) (U 1 i 3) (U 1 i 4) (U 1 i 5) (U 1 i 6) (U 1 i 7) (U 1 i 8) (U 1 i 9) (U 1 i 10))))) := by rw [eM1]; exact hu_n (hL.rne (by decide) (by decide) hi (Nat.lt_of_lt_of_le hg.2 (hL.cnt (k := 0) (by decide))) (by decide)) (hL.row (k := 1) (by decide) hi)
                            have hr1_0 : M1 (Z.2.1 0 (ix (U 1 i 7))) = some (t, (.inl (G.2.1 0, 11, .inl (rw11 (U 0 (ix (U 1 i 7)) 0) (U 0 (ix (U 1 i 7)) 1) (U 0 (ix (U 1 i 7)) 2) ((U 0 (ix (U 1 i 7)) 3) + (a_X7_work U i)) (U 0 (ix (U 1 i 7)) 4) (U 0 (ix (U 1 i 7)) 5) (U 0 (ix (U 1 i 7)) 6) ((U 0 (ix (U 1 i 7)) 7) + ((((a_X7_work U i) * (t_X7_brings_0 (U 0 (ix (U 1 i 7)) 6) (U 0 (ix (U 1 i 7)) 9))) * (((96 : Int32) + ((3 : Int32) * p0)) + ((U 1 i 5) / (20 : Int32)))) / (100 : Int32))) (U 0 (ix (U 1 i 7)) 8) (U 0 (ix (U 1 i 7)) 9) (U 0 (ix (U 1 i 7)) 10))))) := by rw [eM1]; exact hu_s
                            obtain ⟨M2, eM2⟩ : ∃ z, z = hu M1 (Z.2.1 1 i) t (.inl (G.2.1 0, 11, .inl (rw11 (U 1 i 0) (U 1 i 1) (U 1 i 2) (U 1 i 3) (U 1 i 4) ((U 1 i 5) + (a_X7_work U i)) (0 : Int32) (U 1 i 7) ((U 1 i 8) + (a_X7_work U i)) (U 1 i 9) ((U 1 i 10) + ((a_X7_work U i) * (t_X7_brings_0 (U 0 (ix (U 1 i 7)) 6) (U 0 (ix (U 1 i 7)) 9))))))) := ⟨_, rfl⟩
                            rw [← eM2] at hM
                            have hL2 : MdR G M2 t h0 Z N (tu (tu U 0 (ix (U 1 i 7)) (rw11 (U 0 (ix (U 1 i 7)) 0) (U 0 (ix (U 1 i 7)) 1) (U 0 (ix (U 1 i 7)) 2) ((U 0 (ix (U 1 i 7)) 3) + (a_X7_work U i)) (U 0 (ix (U 1 i 7)) 4) (U 0 (ix (U 1 i 7)) 5) (U 0 (ix (U 1 i 7)) 6) ((U 0 (ix (U 1 i 7)) 7) + ((((a_X7_work U i) * (t_X7_brings_0 (U 0 (ix (U 1 i 7)) 6) (U 0 (ix (U 1 i 7)) 9))) * (((96 : Int32) + ((3 : Int32) * p0)) + ((U 1 i 5) / (20 : Int32)))) / (100 : Int32))) (U 0 (ix (U 1 i 7)) 8) (U 0 (ix (U 1 i 7)) 9) (U 0 (ix (U 1 i 7)) 10))) 1 i (rw11 (U 1 i 0) (U 1 i 1) (U 1 i 2) (U 1 i 3) (U 1 i 4) ((U 1 i 5) + (a_X7_work U i)) (0 : Int32) (U 1 i 7) ((U 1 i 8) + (a_X7_work U i)) (U 1 i 9) ((U 1 i 10) + ((a_X7_work U i) * (t_X7_brings_0 (U 0 (ix (U 1 i 7)) 6) (U 0 (ix (U 1 i 7)) 9)))))) now := by rw [eM2]; exact hL1.setRow (k := 1) (by decide) hi (rw11 (U 1 i 0) (U 1 i 1) (U 1 i 2) (U 1 i 3) (U 1 i 4) ((U 1 i 5) + (a_X7_work U i)) (0 : Int32) (U 1 i 7) ((U 1 i 8) + (a_X7_work U i)) (U 1 i 9) ((U 1 i 10) + ((a_X7_work U i) * (t_X7_brings_0 (U 0 (ix (U 1 i 7)) 6) (U 0 (ix (U 1 i 7)) 9)))))
                            have hF2 : Fr t M M2 := by rw [eM2]; exact Fr.tr hF1 (Fr.up hr1_1)
                            have hr2_1 : M2 (Z.2.1 1 i) = some (t, (.inl (G.2.1 0, 11, .inl (rw11 (U 1 i 0) (U 1 i 1) (U 1 i 2) (U 1 i 3) (U 1 i 4) ((U 1 i 5) + (a_X7_work U i)) (0 : Int32) (U 1 i 7) ((U 1 i 8) + (a_X7_work U i)) (U 1 i 9) ((U 1 i 10) + ((a_X7_work U i) * (t_X7_brings_0 (U 0 (ix (U 1 i 7)) 6) (U 0 (ix (U 1 i 7)) 9)))))))) := by rw [eM2]; exact hu_s
                            have hr2_0 : M2 (Z.2.1 0 (ix (U 1 i 7))) = some (t, (.inl (G.2.1 0, 11, .inl (rw11 (U 0 (ix (U 1 i 7)) 0) (U 0 (ix (U 1 i 7)) 1) (U 0 (ix (U 1 i 7)) 2) ((U 0 (ix (U 1 i 7)) 3) + (a_X7_work U i)) (U 0 (ix (U 1 i 7)) 4) (U 0 (ix (U 1 i 7)) 5) (U 0 (ix (U 1 i 7)) 6) ((U 0 (ix (U 1 i 7)) 7) + ((((a_X7_work U i) * (t_X7_brings_0 (U 0 (ix (U 1 i 7)) 6) (U 0 (ix (U 1 i 7)) 9))) * (((96 : Int32) + ((3 : Int32) * p0)) + ((U 1 i 5) / (20 : Int32)))) / (100 : Int32))) (U 0 (ix (U 1 i 7)) 8) (U 0 (ix (U 1 i 7)) 9) (U 0 (ix (U 1 i 7)) 10))))) := by rw [eM2]; exact hu_n (hL1.rne (by decide) (by decide) (Nat.lt_of_lt_of_le hg.2 (hL.cnt (k := 0) (by decide))) hi (by decide)) hr1_0
                            exact g_vret hx hb hr hlocks hM (Nat.zero_le _) (Nat.zero_le _) ⟨Z, (by unfold u_X7_work; rw [if_neg c1, if_neg c2, if_pos c3, if_neg c4, if_neg c5, if_neg c6, if_neg c7, if_neg c8, if_pos c15, if_neg c16, if_pos c17, if_pos c18]; exact hL2), hF2⟩ dX7_work_288
                          · refine lv_iconst (v := (1 : Int32)) hx hb dX7_work_282 (by decide) ?_
                            refine lv_goto (tgt := 287) hx hb dX7_work_283 (by decide) ?_
                            refine is11_6 hx hb hK hM hu_s dX7_work_287 (fun H locs hM => ?_)
                            replace hM := hM.eq (hu_u _ _ _ _ _ _)
                            obtain ⟨M1, eM1⟩ : ∃ z, z = hu M (Z.2.1 0 (ix (U 1 i 7))) t (.inl (G.2.1 0, 11, .inl (rw11 (U 0 (ix (U 1 i 7)) 0) (U 0 (ix (U 1 i 7)) 1) (U 0 (ix (U 1 i 7)) 2) ((U 0 (ix (U 1 i 7)) 3) + (a_X7_work U i)) (U 0 (ix (U 1 i 7)) 4) (U 0 (ix (U 1 i 7)) 5) (U 0 (ix (U 1 i 7)) 6) ((U 0 (ix (U 1 i 7)) 7) + ((((a_X7_work U i) * (t_X7_brings_0 (U 0 (ix (U 1 i 7)) 6) (U 0 (ix (U 1 i 7)) 9))) * (((96 : Int32) + ((3 : Int32) * p0)) + ((U 1 i 5) / (20 : Int32)))) / (100 : Int32))) (U 0 (ix (U 1 i 7)) 8) (U 0 (ix (U 1 i 7)) 9) (U 0 (ix (U 1 i 7)) 10)))) := ⟨_, rfl⟩
                            rw [← eM1] at hM
                            have hL1 : MdR G M1 t h0 Z N (tu U 0 (ix (U 1 i 7)) (rw11 (U 0 (ix (U 1 i 7)) 0) (U 0 (ix (U 1 i 7)) 1) (U 0 (ix (U 1 i 7)) 2) ((U 0 (ix (U 1 i 7)) 3) + (a_X7_work U i)) (U 0 (ix (U 1 i 7)) 4) (U 0 (ix (U 1 i 7)) 5) (U 0 (ix (U 1 i 7)) 6) ((U 0 (ix (U 1 i 7)) 7) + ((((a_X7_work U i) * (t_X7_brings_0 (U 0 (ix (U 1 i 7)) 6) (U 0 (ix (U 1 i 7)) 9))) * (((96 : Int32) + ((3 : Int32) * p0)) + ((U 1 i 5) / (20 : Int32)))) / (100 : Int32))) (U 0 (ix (U 1 i 7)) 8) (U 0 (ix (U 1 i 7)) 9) (U 0 (ix (U 1 i 7)) 10))) now := by rw [eM1]; exact hL.setRow (k := 0) (by decide) (Nat.lt_of_lt_of_le hg.2 (hL.cnt (k := 0) (by decide))) (rw11 (U 0 (ix (U 1 i 7)) 0) (U 0 (ix (U 1 i 7)) 1) (U 0 (ix (U 1 i 7)) 2) ((U 0 (ix (U 1 i 7)) 3) + (a_X7_work U i)) (U 0 (ix (U 1 i 7)) 4) (U 0 (ix (U 1 i 7)) 5) (U 0 (ix (U 1 i 7)) 6) ((U 0 (ix (U 1 i 7)) 7) + ((((a_X7_work U i) * (t_X7_brings_0 (U 0 (ix (U 1 i 7)) 6) (U 0 (ix (U 1 i 7)) 9))) * (((96 : Int32) + ((3 : Int32) * p0)) + ((U 1 i 5) / (20 : Int32)))) / (100 : Int32))) (U 0 (ix (U 1 i 7)) 8) (U 0 (ix (U 1 i 7)) 9) (U 0 (ix (U 1 i 7)) 10))
                            have hF1 : Fr t M M1 := by rw [eM1]; exact Fr.tr Fr.rf (Fr.up (hL.row (k := 0) (by decide) (Nat.lt_of_lt_of_le hg.2 (hL.cnt (k := 0) (by decide)))))
                            have hr1_1 : M1 (Z.2.1 1 i) = some (t, (.inl (G.2.1 0, 11, .inl (rw11 (U 1 i 0) (U 1 i 1) (U 1 i 2) (U 1 i 3) (U 1 i 4) (U 1 i 5) (U 1 i 6) (U 1 i 7) (U 1 i 8) (U 1 i 9) (U 1 i 10))))) := by rw [eM1]; exact hu_n (hL.rne (by decide) (by decide) hi (Nat.lt_of_lt_of_le hg.2 (hL.cnt (k := 0) (by decide))) (by decide)) (hL.row (k := 1) (by decide) hi)
                            have hr1_0 : M1 (Z.2.1 0 (ix (U 1 i 7))) = some (t, (.inl (G.2.1 0, 11, .inl (rw11 (U 0 (ix (U 1 i 7)) 0) (U 0 (ix (U 1 i 7)) 1) (U 0 (ix (U 1 i 7)) 2) ((U 0 (ix (U 1 i 7)) 3) + (a_X7_work U i)) (U 0 (ix (U 1 i 7)) 4) (U 0 (ix (U 1 i 7)) 5) (U 0 (ix (U 1 i 7)) 6) ((U 0 (ix (U 1 i 7)) 7) + ((((a_X7_work U i) * (t_X7_brings_0 (U 0 (ix (U 1 i 7)) 6) (U 0 (ix (U 1 i 7)) 9))) * (((96 : Int32) + ((3 : Int32) * p0)) + ((U 1 i 5) / (20 : Int32)))) / (100 : Int32))) (U 0 (ix (U 1 i 7)) 8) (U 0 (ix (U 1 i 7)) 9) (U 0 (ix (U 1 i 7)) 10))))) := by rw [eM1]; exact hu_s
                            obtain ⟨M2, eM2⟩ : ∃ z, z = hu M1 (Z.2.1 1 i) t (.inl (G.2.1 0, 11, .inl (rw11 (U 1 i 0) (U 1 i 1) (U 1 i 2) (U 1 i 3) (U 1 i 4) ((U 1 i 5) + (a_X7_work U i)) (1 : Int32) (U 1 i 7) ((U 1 i 8) + (a_X7_work U i)) (U 1 i 9) ((U 1 i 10) + ((a_X7_work U i) * (t_X7_brings_0 (U 0 (ix (U 1 i 7)) 6) (U 0 (ix (U 1 i 7)) 9))))))) := ⟨_, rfl⟩
                            rw [← eM2] at hM
                            have hL2 : MdR G M2 t h0 Z N (tu (tu U 0 (ix (U 1 i 7)) (rw11 (U 0 (ix (U 1 i 7)) 0) (U 0 (ix (U 1 i 7)) 1) (U 0 (ix (U 1 i 7)) 2) ((U 0 (ix (U 1 i 7)) 3) + (a_X7_work U i)) (U 0 (ix (U 1 i 7)) 4) (U 0 (ix (U 1 i 7)) 5) (U 0 (ix (U 1 i 7)) 6) ((U 0 (ix (U 1 i 7)) 7) + ((((a_X7_work U i) * (t_X7_brings_0 (U 0 (ix (U 1 i 7)) 6) (U 0 (ix (U 1 i 7)) 9))) * (((96 : Int32) + ((3 : Int32) * p0)) + ((U 1 i 5) / (20 : Int32)))) / (100 : Int32))) (U 0 (ix (U 1 i 7)) 8) (U 0 (ix (U 1 i 7)) 9) (U 0 (ix (U 1 i 7)) 10))) 1 i (rw11 (U 1 i 0) (U 1 i 1) (U 1 i 2) (U 1 i 3) (U 1 i 4) ((U 1 i 5) + (a_X7_work U i)) (1 : Int32) (U 1 i 7) ((U 1 i 8) + (a_X7_work U i)) (U 1 i 9) ((U 1 i 10) + ((a_X7_work U i) * (t_X7_brings_0 (U 0 (ix (U 1 i 7)) 6) (U 0 (ix (U 1 i 7)) 9)))))) now := by rw [eM2]; exact hL1.setRow (k := 1) (by decide) hi (rw11 (U 1 i 0) (U 1 i 1) (U 1 i 2) (U 1 i 3) (U 1 i 4) ((U 1 i 5) + (a_X7_work U i)) (1 : Int32) (U 1 i 7) ((U 1 i 8) + (a_X7_work U i)) (U 1 i 9) ((U 1 i 10) + ((a_X7_work U i) * (t_X7_brings_0 (U 0 (ix (U 1 i 7)) 6) (U 0 (ix (U 1 i 7)) 9)))))
                            have hF2 : Fr t M M2 := by rw [eM2]; exact Fr.tr hF1 (Fr.up hr1_1)
                            have hr2_1 : M2 (Z.2.1 1 i) = some (t, (.inl (G.2.1 0, 11, .inl (rw11 (U 1 i 0) (U 1 i 1) (U 1 i 2) (U 1 i 3) (U 1 i 4) ((U 1 i 5) + (a_X7_work U i)) (1 : Int32) (U 1 i 7) ((U 1 i 8) + (a_X7_work U i)) (U 1 i 9) ((U 1 i 10) + ((a_X7_work U i) * (t_X7_brings_0 (U 0 (ix (U 1 i 7)) 6) (U 0 (ix (U 1 i 7)) 9)))))))) := by rw [eM2]; exact hu_s
                            have hr2_0 : M2 (Z.2.1 0 (ix (U 1 i 7))) = some (t, (.inl (G.2.1 0, 11, .inl (rw11 (U 0 (ix (U 1 i 7)) 0) (U 0 (ix (U 1 i 7)) 1) (U 0 (ix (U 1 i 7)) 2) ((U 0 (ix (U 1 i 7)) 3) + (a_X7_work U i)) (U 0 (ix (U 1 i 7)) 4) (U 0 (ix (U 1 i 7)) 5) (U 0 (ix (U 1 i 7)) 6) ((U 0 (ix (U 1 i 7)) 7) + ((((a_X7_work U i) * (t_X7_brings_0 (U 0 (ix (U 1 i 7)) 6) (U 0 (ix (U 1 i 7)) 9))) * (((96 : Int32) + ((3 : Int32) * p0)) + ((U 1 i 5) / (20 : Int32)))) / (100 : Int32))) (U 0 (ix (U 1 i 7)) 8) (U 0 (ix (U 1 i 7)) 9) (U 0 (ix (U 1 i 7)) 10))))) := by rw [eM2]; exact hu_n (hL1.rne (by decide) (by decide) (Nat.lt_of_lt_of_le hg.2 (hL.cnt (k := 0) (by decide))) hi (by decide)) hr1_0
                            exact g_vret hx hb hr hlocks hM (Nat.zero_le _) (Nat.zero_le _) ⟨Z, (by unfold u_X7_work; rw [if_neg c1, if_neg c2, if_pos c3, if_neg c4, if_neg c5, if_neg c6, if_neg c7, if_neg c8, if_pos c15, if_neg c16, if_pos c17, if_neg c18]; exact hL2), hF2⟩ dX7_work_288
                        · refine lv_aload_n hx hb dX7_work_204 rfl (lv_at hl 6 rfl) ?_
                          refine lv_iconst (v := (4 : Int32)) hx hb dX7_work_205 (by decide) ?_
                          refine lv_aload_n hx hb dX7_work_206 rfl (lv_at hl 6 rfl) ?_
                          refine lv_iconst (v := (2 : Int32)) hx hb dX7_work_207 (by decide) ?_
                          refine ia11_2 hx hb hK hM (hu_n (hL.rne (by decide) (by decide) hi (Nat.lt_of_lt_of_le hg.2 (hL.cnt (k := 0) (by decide))) (by decide)) (hL.row (k := 1) (by decide) hi)) dX7_work_208 ?_
                          refine lv_if_ne (tgt := 219) hx hb dX7_work_209 (by decide) (fun c19 => ?_) (fun c19 => ?_)
                          · refine lv_aload_n hx hb dX7_work_219 rfl (lv_at hl 6 rfl) ?_
                            refine lv_iconst (v := (4 : Int32)) hx hb dX7_work_220 (by decide) ?_
                            refine ia11_4 hx hb hK hM (hu_n (hL.rne (by decide) (by decide) hi (Nat.lt_of_lt_of_le hg.2 (hL.cnt (k := 0) (by decide))) (by decide)) (hL.row (k := 1) (by decide) hi)) dX7_work_221 ?_
                            refine lv_aload hx hb dX7_work_222 (lv_at hl 3 rfl) ?_
                            refine lv_iconst (v := (5 : Int32)) hx hb dX7_work_224 (by decide) ?_
                            refine ia11_5 hx hb hK hM hu_s dX7_work_225 ?_
                            refine va_mmax hx hb (hml.trans hl.1.symm) hown (hts _ wm_X7_61) (hts _ wt_mmax) (hts _ wn_java_lang_Math) (hts _ wc_mmax) (Nat.le_of_ble_eq_true rfl) (Nat.le_of_ble_eq_true rfl) (Nat.zero_le _) (Nat.zero_le _) dX7_work_226 ?_
                            refine is11_4 hx hb hK hM (hu_n (hL.rne (by decide) (by decide) hi (Nat.lt_of_lt_of_le hg.2 (hL.cnt (k := 0) (by decide))) (by decide)) (hL.row (k := 1) (by decide) hi)) dX7_work_229 (fun H locs hM => ?_)
                            refine lv_aload_n hx hb dX7_work_230 rfl (lv_at hl 6 rfl) ?_
                            refine lv_iconst (v := (2 : Int32)) hx hb dX7_work_231 (by decide) ?_
                            refine lv_dup2_11 hx hb dX7_work_232 rfl rfl ?_
                            refine ia11_2 hx hb hK hM hu_s dX7_work_233 ?_
                            refine lv_iload hx hb dX7_work_234 (lv_at hl 0 rfl) ?_
                            refine lv_iadd hx hb dX7_work_236 ?_
                            refine is11_2 hx hb hK hM hu_s dX7_work_237 (fun H locs hM => ?_)
                            replace hM := hM.eq (hu_u _ _ _ _ _ _)
                            refine lv_aload_n hx hb dX7_work_238 rfl (lv_at hl 6 rfl) ?_
                            refine lv_iconst (v := (3 : Int32)) hx hb dX7_work_239 (by decide) ?_
                            refine lv_aload_n hx hb dX7_work_240 rfl (lv_at hl 6 rfl) ?_
                            refine lv_bipush (v := (7 : Int32)) hx hb dX7_work_241 (by decide) ?_
                            refine ia11_7 hx hb hK hM hu_s dX7_work_243 ?_
                            refine is11_3 hx hb hK hM hu_s dX7_work_244 (fun H locs hM => ?_)
                            replace hM := hM.eq (hu_u _ _ _ _ _ _)
                            refine lv_aload_n hx hb dX7_work_245 rfl (lv_at hl 6 rfl) ?_
                            refine lv_bipush (v := (10 : Int32)) hx hb dX7_work_246 (by decide) ?_
                            refine lv_dup2_11 hx hb dX7_work_248 rfl rfl ?_
                            refine ia11_10 hx hb hK hM hu_s dX7_work_249 ?_
                            refine lv_iload hx hb dX7_work_250 (lv_at hl 0 rfl) ?_
                            refine lv_iadd hx hb dX7_work_252 ?_
                            refine is11_10 hx hb hK hM hu_s dX7_work_253 (fun H locs hM => ?_)
                            replace hM := hM.eq (hu_u _ _ _ _ _ _)
                            refine lv_aload_n hx hb dX7_work_254 rfl (lv_at hl 6 rfl) ?_
                            refine lv_bipush (v := (8 : Int32)) hx hb dX7_work_255 (by decide) ?_
                            refine lv_dup2_11 hx hb dX7_work_257 rfl rfl ?_
                            refine ia11_8 hx hb hK hM hu_s dX7_work_258 ?_
                            refine lv_iload hx hb dX7_work_259 (lv_at hl 1 rfl) ?_
                            refine lv_iadd hx hb dX7_work_261 ?_
                            refine is11_8 hx hb hK hM hu_s dX7_work_262 (fun H locs hM => ?_)
                            replace hM := hM.eq (hu_u _ _ _ _ _ _)
                            refine lv_aload_n hx hb dX7_work_263 rfl (lv_at hl 6 rfl) ?_
                            refine lv_iconst (v := (5 : Int32)) hx hb dX7_work_264 (by decide) ?_
                            refine lv_dup2_11 hx hb dX7_work_265 rfl rfl ?_
                            refine ia11_5 hx hb hK hM hu_s dX7_work_266 ?_
                            refine lv_iload hx hb dX7_work_267 (lv_at hl 1 rfl) ?_
                            refine lv_iadd hx hb dX7_work_269 ?_
                            refine is11_5 hx hb hK hM hu_s dX7_work_270 (fun H locs hM => ?_)
                            replace hM := hM.eq (hu_u _ _ _ _ _ _)
                            refine lv_aload_n hx hb dX7_work_271 rfl (lv_at hl 6 rfl) ?_
                            refine lv_bipush (v := (6 : Int32)) hx hb dX7_work_272 (by decide) ?_
                            refine lv_aload_n hx hb dX7_work_274 rfl (lv_at hl 6 rfl) ?_
                            refine lv_iconst (v := (5 : Int32)) hx hb dX7_work_275 (by decide) ?_
                            refine ia11_5 hx hb hK hM hu_s dX7_work_276 ?_
                            refine lv_bipush (v := (100 : Int32)) hx hb dX7_work_277 (by decide) ?_
                            refine lv_icmp_lt (tgt := 286) hx hb dX7_work_279 (by decide) (fun c20 => ?_) (fun c20 => ?_)
                            · refine lv_iconst (v := (0 : Int32)) hx hb dX7_work_286 (by decide) ?_
                              refine is11_6 hx hb hK hM hu_s dX7_work_287 (fun H locs hM => ?_)
                              replace hM := hM.eq (hu_u _ _ _ _ _ _)
                              obtain ⟨M1, eM1⟩ : ∃ z, z = hu M (Z.2.1 0 (ix (U 1 i 7))) t (.inl (G.2.1 0, 11, .inl (rw11 (U 0 (ix (U 1 i 7)) 0) (U 0 (ix (U 1 i 7)) 1) (U 0 (ix (U 1 i 7)) 2) ((U 0 (ix (U 1 i 7)) 3) + (a_X7_work U i)) (U 0 (ix (U 1 i 7)) 4) (U 0 (ix (U 1 i 7)) 5) (U 0 (ix (U 1 i 7)) 6) ((U 0 (ix (U 1 i 7)) 7) + ((((a_X7_work U i) * (t_X7_brings_0 (U 0 (ix (U 1 i 7)) 6) (U 0 (ix (U 1 i 7)) 9))) * (((96 : Int32) + ((3 : Int32) * p0)) + ((U 1 i 5) / (20 : Int32)))) / (100 : Int32))) (U 0 (ix (U 1 i 7)) 8) (U 0 (ix (U 1 i 7)) 9) (U 0 (ix (U 1 i 7)) 10)))) := ⟨_, rfl⟩
                              rw [← eM1] at hM
                              have hL1 : MdR G M1 t h0 Z N (tu U 0 (ix (U 1 i 7)) (rw11 (U 0 (ix (U 1 i 7)) 0) (U 0 (ix (U 1 i 7)) 1) (U 0 (ix (U 1 i 7)) 2) ((U 0 (ix (U 1 i 7)) 3) + (a_X7_work U i)) (U 0 (ix (U 1 i 7)) 4) (U 0 (ix (U 1 i 7)) 5) (U 0 (ix (U 1 i 7)) 6) ((U 0 (ix (U 1 i 7)) 7) + ((((a_X7_work U i) * (t_X7_brings_0 (U 0 (ix (U 1 i 7)) 6) (U 0 (ix (U 1 i 7)) 9))) * (((96 : Int32) + ((3 : Int32) * p0)) + ((U 1 i 5) / (20 : Int32)))) / (100 : Int32))) (U 0 (ix (U 1 i 7)) 8) (U 0 (ix (U 1 i 7)) 9) (U 0 (ix (U 1 i 7)) 10))) now := by rw [eM1]; exact hL.setRow (k := 0) (by decide) (Nat.lt_of_lt_of_le hg.2 (hL.cnt (k := 0) (by decide))) (rw11 (U 0 (ix (U 1 i 7)) 0) (U 0 (ix (U 1 i 7)) 1) (U 0 (ix (U 1 i 7)) 2) ((U 0 (ix (U 1 i 7)) 3) + (a_X7_work U i)) (U 0 (ix (U 1 i 7)) 4) (U 0 (ix (U 1 i 7)) 5) (U 0 (ix (U 1 i 7)) 6) ((U 0 (ix (U 1 i 7)) 7) + ((((a_X7_work U i) * (t_X7_brings_0 (U 0 (ix (U 1 i 7)) 6) (U 0 (ix (U 1 i 7)) 9))) * (((96 : Int32) + ((3 : Int32) * p0)) + ((U 1 i 5) / (20 : Int32)))) / (100 : Int32))) (U 0 (ix (U 1 i 7)) 8) (U 0 (ix (U 1 i 7)) 9) (U 0 (ix (U 1 i 7)) 10))
                              have hF1 : Fr t M M1 := by rw [eM1]; exact Fr.tr Fr.rf (Fr.up (hL.row (k := 0) (by decide) (Nat.lt_of_lt_of_le hg.2 (hL.cnt (k := 0) (by decide)))))
                              have hr1_1 : M1 (Z.2.1 1 i) = some (t, (.inl (G.2.1 0, 11, .inl (rw11 (U 1 i 0) (U 1 i 1) (U 1 i 2) (U 1 i 3) (U 1 i 4) (U 1 i 5) (U 1 i 6) (U 1 i 7) (U 1 i 8) (U 1 i 9) (U 1 i 10))))) := by rw [eM1]; exact hu_n (hL.rne (by decide) (by decide) hi (Nat.lt_of_lt_of_le hg.2 (hL.cnt (k := 0) (by decide))) (by decide)) (hL.row (k := 1) (by decide) hi)
                              have hr1_0 : M1 (Z.2.1 0 (ix (U 1 i 7))) = some (t, (.inl (G.2.1 0, 11, .inl (rw11 (U 0 (ix (U 1 i 7)) 0) (U 0 (ix (U 1 i 7)) 1) (U 0 (ix (U 1 i 7)) 2) ((U 0 (ix (U 1 i 7)) 3) + (a_X7_work U i)) (U 0 (ix (U 1 i 7)) 4) (U 0 (ix (U 1 i 7)) 5) (U 0 (ix (U 1 i 7)) 6) ((U 0 (ix (U 1 i 7)) 7) + ((((a_X7_work U i) * (t_X7_brings_0 (U 0 (ix (U 1 i 7)) 6) (U 0 (ix (U 1 i 7)) 9))) * (((96 : Int32) + ((3 : Int32) * p0)) + ((U 1 i 5) / (20 : Int32)))) / (100 : Int32))) (U 0 (ix (U 1 i 7)) 8) (U 0 (ix (U 1 i 7)) 9) (U 0 (ix (U 1 i 7)) 10))))) := by rw [eM1]; exact hu_s
                              obtain ⟨M2, eM2⟩ : ∃ z, z = hu M1 (Z.2.1 1 i) t (.inl (G.2.1 0, 11, .inl (rw11 (U 1 i 0) (U 1 i 1) ((U 1 i 2) + ((a_X7_work U i) * (t_X7_brings_0 (U 0 (ix (U 1 i 7)) 6) (U 0 (ix (U 1 i 7)) 9)))) (U 1 i 7) (mx (U 1 i 4) (U 0 (ix (U 1 i 7)) 5)) ((U 1 i 5) + (a_X7_work U i)) (0 : Int32) (U 1 i 7) ((U 1 i 8) + (a_X7_work U i)) (U 1 i 9) ((U 1 i 10) + ((a_X7_work U i) * (t_X7_brings_0 (U 0 (ix (U 1 i 7)) 6) (U 0 (ix (U 1 i 7)) 9))))))) := ⟨_, rfl⟩
                              rw [← eM2] at hM
                              have hL2 : MdR G M2 t h0 Z N (tu (tu U 0 (ix (U 1 i 7)) (rw11 (U 0 (ix (U 1 i 7)) 0) (U 0 (ix (U 1 i 7)) 1) (U 0 (ix (U 1 i 7)) 2) ((U 0 (ix (U 1 i 7)) 3) + (a_X7_work U i)) (U 0 (ix (U 1 i 7)) 4) (U 0 (ix (U 1 i 7)) 5) (U 0 (ix (U 1 i 7)) 6) ((U 0 (ix (U 1 i 7)) 7) + ((((a_X7_work U i) * (t_X7_brings_0 (U 0 (ix (U 1 i 7)) 6) (U 0 (ix (U 1 i 7)) 9))) * (((96 : Int32) + ((3 : Int32) * p0)) + ((U 1 i 5) / (20 : Int32)))) / (100 : Int32))) (U 0 (ix (U 1 i 7)) 8) (U 0 (ix (U 1 i 7)) 9) (U 0 (ix (U 1 i 7)) 10))) 1 i (rw11 (U 1 i 0) (U 1 i 1) ((U 1 i 2) + ((a_X7_work U i) * (t_X7_brings_0 (U 0 (ix (U 1 i 7)) 6) (U 0 (ix (U 1 i 7)) 9)))) (U 1 i 7) (mx (U 1 i 4) (U 0 (ix (U 1 i 7)) 5)) ((U 1 i 5) + (a_X7_work U i)) (0 : Int32) (U 1 i 7) ((U 1 i 8) + (a_X7_work U i)) (U 1 i 9) ((U 1 i 10) + ((a_X7_work U i) * (t_X7_brings_0 (U 0 (ix (U 1 i 7)) 6) (U 0 (ix (U 1 i 7)) 9)))))) now := by rw [eM2]; exact hL1.setRow (k := 1) (by decide) hi (rw11 (U 1 i 0) (U 1 i 1) ((U 1 i 2) + ((a_X7_work U i) * (t_X7_brings_0 (U 0 (ix (U 1 i 7)) 6) (U 0 (ix (U 1 i 7)) 9)))) (U 1 i 7) (mx (U 1 i 4) (U 0 (ix (U 1 i 7)) 5)) ((U 1 i 5) + (a_X7_work U i)) (0 : Int32) (U 1 i 7) ((U 1 i 8) + (a_X7_work U i)) (U 1 i 9) ((U 1 i 10) + ((a_X7_work U i) * (t_X7_brings_0 (U 0 (ix (U 1 i 7)) 6) (U 0 (ix (U 1 i 7)) 9)))))
                              have hF2 : Fr t M M2 := by rw [eM2]; exact Fr.tr hF1 (Fr.up hr1_1)
                              have hr2_1 : M2 (Z.2.1 1 i) = some (t, (.inl (G.2.1 0, 11, .inl (rw11 (U 1 i 0) (U 1 i 1) ((U 1 i 2) + ((a_X7_work U i) * (t_X7_brings_0 (U 0 (ix (U 1 i 7)) 6) (U 0 (ix (U 1 i 7)) 9)))) (U 1 i 7) (mx (U 1 i 4) (U 0 (ix (U 1 i 7)) 5)) ((U 1 i 5) + (a_X7_work U i)) (0 : Int32) (U 1 i 7) ((U 1 i 8) + (a_X7_work U i)) (U 1 i 9) ((U 1 i 10) + ((a_X7_work U i) * (t_X7_brings_0 (U 0 (ix (U 1 i 7)) 6) (U 0 (ix (U 1 i 7)) 9)))))))) := by rw [eM2]; exact hu_s
                              have hr2_0 : M2 (Z.2.1 0 (ix (U 1 i 7))) = some (t, (.inl (G.2.1 0, 11, .inl (rw11 (U 0 (ix (U 1 i 7)) 0) (U 0 (ix (U 1 i 7)) 1) (U 0 (ix (U 1 i 7)) 2) ((U 0 (ix (U 1 i 7)) 3) + (a_X7_work U i)) (U 0 (ix (U 1 i 7)) 4) (U 0 (ix (U 1 i 7)) 5) (U 0 (ix (U 1 i 7)) 6) ((U 0 (ix (U 1 i 7)) 7) + ((((a_X7_work U i) * (t_X7_brings_0 (U 0 (ix (U 1 i 7)) 6) (U 0 (ix (U 1 i 7)) 9))) * (((96 : Int32) + ((3 : Int32) * p0)) + ((U 1 i 5) / (20 : Int32)))) / (100 : Int32))) (U 0 (ix (U 1 i 7)) 8) (U 0 (ix (U 1 i 7)) 9) (U 0 (ix (U 1 i 7)) 10))))) := by rw [eM2]; exact hu_n (hL1.rne (by decide) (by decide) (Nat.lt_of_lt_of_le hg.2 (hL.cnt (k := 0) (by decide))) hi (by decide)) hr1_0
                              exact g_vret hx hb hr hlocks hM (Nat.zero_le _) (Nat.zero_le _) ⟨Z, (by unfold u_X7_work; rw [if_neg c1, if_neg c2, if_pos c3, if_neg c4, if_neg c5, if_neg c6, if_neg c7, if_neg c8, if_pos c15, if_neg c16, if_neg c17, if_neg c19, if_pos c20]; exact hL2), hF2⟩ dX7_work_288
                            · refine lv_iconst (v := (1 : Int32)) hx hb dX7_work_282 (by decide) ?_
                              refine lv_goto (tgt := 287) hx hb dX7_work_283 (by decide) ?_
                              refine is11_6 hx hb hK hM hu_s dX7_work_287 (fun H locs hM => ?_)
                              replace hM := hM.eq (hu_u _ _ _ _ _ _)
                              obtain ⟨M1, eM1⟩ : ∃ z, z = hu M (Z.2.1 0 (ix (U 1 i 7))) t (.inl (G.2.1 0, 11, .inl (rw11 (U 0 (ix (U 1 i 7)) 0) (U 0 (ix (U 1 i 7)) 1) (U 0 (ix (U 1 i 7)) 2) ((U 0 (ix (U 1 i 7)) 3) + (a_X7_work U i)) (U 0 (ix (U 1 i 7)) 4) (U 0 (ix (U 1 i 7)) 5) (U 0 (ix (U 1 i 7)) 6) ((U 0 (ix (U 1 i 7)) 7) + ((((a_X7_work U i) * (t_X7_brings_0 (U 0 (ix (U 1 i 7)) 6) (U 0 (ix (U 1 i 7)) 9))) * (((96 : Int32) + ((3 : Int32) * p0)) + ((U 1 i 5) / (20 : Int32)))) / (100 : Int32))) (U 0 (ix (U 1 i 7)) 8) (U 0 (ix (U 1 i 7)) 9) (U 0 (ix (U 1 i 7)) 10)))) := ⟨_, rfl⟩
                              rw [← eM1] at hM
                              have hL1 : MdR G M1 t h0 Z N (tu U 0 (ix (U 1 i 7)) (rw11 (U 0 (ix (U 1 i 7)) 0) (U 0 (ix (U 1 i 7)) 1) (U 0 (ix (U 1 i 7)) 2) ((U 0 (ix (U 1 i 7)) 3) + (a_X7_work U i)) (U 0 (ix (U 1 i 7)) 4) (U 0 (ix (U 1 i 7)) 5) (U 0 (ix (U 1 i 7)) 6) ((U 0 (ix (U 1 i 7)) 7) + ((((a_X7_work U i) * (t_X7_brings_0 (U 0 (ix (U 1 i 7)) 6) (U 0 (ix (U 1 i 7)) 9))) * (((96 : Int32) + ((3 : Int32) * p0)) + ((U 1 i 5) / (20 : Int32)))) / (100 : Int32))) (U 0 (ix (U 1 i 7)) 8) (U 0 (ix (U 1 i 7)) 9) (U 0 (ix (U 1 i 7)) 10))) now := by rw [eM1]; exact hL.setRow (k := 0) (by decide) (Nat.lt_of_lt_of_le hg.2 (hL.cnt (k := 0) (by decide))) (rw11 (U 0 (ix (U 1 i 7)) 0) (U 0 (ix (U 1 i 7)) 1) (U 0 (ix (U 1 i 7)) 2) ((U 0 (ix (U 1 i 7)) 3) + (a_X7_work U i)) (U 0 (ix (U 1 i 7)) 4) (U 0 (ix (U 1 i 7)) 5) (U 0 (ix (U 1 i 7)) 6) ((U 0 (ix (U 1 i 7)) 7) + ((((a_X7_work U i) * (t_X7_brings_0 (U 0 (ix (U 1 i 7)) 6) (U 0 (ix (U 1 i 7)) 9))) * (((96 : Int32) + ((3 : Int32) * p0)) + ((U 1 i 5) / (20 : Int32)))) / (100 : Int32))) (U 0 (ix (U 1 i 7)) 8) (U 0 (ix (U 1 i 7)) 9) (U 0 (ix (U 1 i 7)) 10))
                              have hF1 : Fr t M M1 := by rw [eM1]; exact Fr.tr Fr.rf (Fr.up (hL.row (k := 0) (by decide) (Nat.lt_of_lt_of_le hg.2 (hL.cnt (k := 0) (by decide)))))
                              have hr1_1 : M1 (Z.2.1 1 i) = some (t, (.inl (G.2.1 0, 11, .inl (rw11 (U 1 i 0) (U 1 i 1) (U 1 i 2) (U 1 i 3) (U 1 i 4) (U 1 i 5) (U 1 i 6) (U 1 i 7) (U 1 i 8) (U 1 i 9) (U 1 i 10))))) := by rw [eM1]; exact hu_n (hL.rne (by decide) (by decide) hi (Nat.lt_of_lt_of_le hg.2 (hL.cnt (k := 0) (by decide))) (by decide)) (hL.row (k := 1) (by decide) hi)
                              have hr1_0 : M1 (Z.2.1 0 (ix (U 1 i 7))) = some (t, (.inl (G.2.1 0, 11, .inl (rw11 (U 0 (ix (U 1 i 7)) 0) (U 0 (ix (U 1 i 7)) 1) (U 0 (ix (U 1 i 7)) 2) ((U 0 (ix (U 1 i 7)) 3) + (a_X7_work U i)) (U 0 (ix (U 1 i 7)) 4) (U 0 (ix (U 1 i 7)) 5) (U 0 (ix (U 1 i 7)) 6) ((U 0 (ix (U 1 i 7)) 7) + ((((a_X7_work U i) * (t_X7_brings_0 (U 0 (ix (U 1 i 7)) 6) (U 0 (ix (U 1 i 7)) 9))) * (((96 : Int32) + ((3 : Int32) * p0)) + ((U 1 i 5) / (20 : Int32)))) / (100 : Int32))) (U 0 (ix (U 1 i 7)) 8) (U 0 (ix (U 1 i 7)) 9) (U 0 (ix (U 1 i 7)) 10))))) := by rw [eM1]; exact hu_s
                              obtain ⟨M2, eM2⟩ : ∃ z, z = hu M1 (Z.2.1 1 i) t (.inl (G.2.1 0, 11, .inl (rw11 (U 1 i 0) (U 1 i 1) ((U 1 i 2) + ((a_X7_work U i) * (t_X7_brings_0 (U 0 (ix (U 1 i 7)) 6) (U 0 (ix (U 1 i 7)) 9)))) (U 1 i 7) (mx (U 1 i 4) (U 0 (ix (U 1 i 7)) 5)) ((U 1 i 5) + (a_X7_work U i)) (1 : Int32) (U 1 i 7) ((U 1 i 8) + (a_X7_work U i)) (U 1 i 9) ((U 1 i 10) + ((a_X7_work U i) * (t_X7_brings_0 (U 0 (ix (U 1 i 7)) 6) (U 0 (ix (U 1 i 7)) 9))))))) := ⟨_, rfl⟩
                              rw [← eM2] at hM
                              have hL2 : MdR G M2 t h0 Z N (tu (tu U 0 (ix (U 1 i 7)) (rw11 (U 0 (ix (U 1 i 7)) 0) (U 0 (ix (U 1 i 7)) 1) (U 0 (ix (U 1 i 7)) 2) ((U 0 (ix (U 1 i 7)) 3) + (a_X7_work U i)) (U 0 (ix (U 1 i 7)) 4) (U 0 (ix (U 1 i 7)) 5) (U 0 (ix (U 1 i 7)) 6) ((U 0 (ix (U 1 i 7)) 7) + ((((a_X7_work U i) * (t_X7_brings_0 (U 0 (ix (U 1 i 7)) 6) (U 0 (ix (U 1 i 7)) 9))) * (((96 : Int32) + ((3 : Int32) * p0)) + ((U 1 i 5) / (20 : Int32)))) / (100 : Int32))) (U 0 (ix (U 1 i 7)) 8) (U 0 (ix (U 1 i 7)) 9) (U 0 (ix (U 1 i 7)) 10))) 1 i (rw11 (U 1 i 0) (U 1 i 1) ((U 1 i 2) + ((a_X7_work U i) * (t_X7_brings_0 (U 0 (ix (U 1 i 7)) 6) (U 0 (ix (U 1 i 7)) 9)))) (U 1 i 7) (mx (U 1 i 4) (U 0 (ix (U 1 i 7)) 5)) ((U 1 i 5) + (a_X7_work U i)) (1 : Int32) (U 1 i 7) ((U 1 i 8) + (a_X7_work U i)) (U 1 i 9) ((U 1 i 10) + ((a_X7_work U i) * (t_X7_brings_0 (U 0 (ix (U 1 i 7)) 6) (U 0 (ix (U 1 i 7)) 9)))))) now := by rw [eM2]; exact hL1.setRow (k := 1) (by decide) hi (rw11 (U 1 i 0) (U 1 i 1) ((U 1 i 2) + ((a_X7_work U i) * (t_X7_brings_0 (U 0 (ix (U 1 i 7)) 6) (U 0 (ix (U 1 i 7)) 9)))) (U 1 i 7) (mx (U 1 i 4) (U 0 (ix (U 1 i 7)) 5)) ((U 1 i 5) + (a_X7_work U i)) (1 : Int32) (U 1 i 7) ((U 1 i 8) + (a_X7_work U i)) (U 1 i 9) ((U 1 i 10) + ((a_X7_work U i) * (t_X7_brings_0 (U 0 (ix (U 1 i 7)) 6) (U 0 (ix (U 1 i 7)) 9)))))
                              have hF2 : Fr t M M2 := by rw [eM2]; exact Fr.tr hF1 (Fr.up hr1_1)
                              have hr2_1 : M2 (Z.2.1 1 i) = some (t, (.inl (G.2.1 0, 11, .inl (rw11 (U 1 i 0) (U 1 i 1) ((U 1 i 2) + ((a_X7_work U i) * (t_X7_brings_0 (U 0 (ix (U 1 i 7)) 6) (U 0 (ix (U 1 i 7)) 9)))) (U 1 i 7) (mx (U 1 i 4) (U 0 (ix (U 1 i 7)) 5)) ((U 1 i 5) + (a_X7_work U i)) (1 : Int32) (U 1 i 7) ((U 1 i 8) + (a_X7_work U i)) (U 1 i 9) ((U 1 i 10) + ((a_X7_work U i) * (t_X7_brings_0 (U 0 (ix (U 1 i 7)) 6) (U 0 (ix (U 1 i 7)) 9)))))))) := by rw [eM2]; exact hu_s
                              have hr2_0 : M2 (Z.2.1 0 (ix (U 1 i 7))) = some (t, (.inl (G.2.1 0, 11, .inl (rw11 (U 0 (ix (U 1 i 7)) 0) (U 0 (ix (U 1 i 7)) 1) (U 0 (ix (U 1 i 7)) 2) ((U 0 (ix (U 1 i 7)) 3) + (a_X7_work U i)) (U 0 (ix (U 1 i 7)) 4) (U 0 (ix (U 1 i 7)) 5) (U 0 (ix (U 1 i 7)) 6) ((U 0 (ix (U 1 i 7)) 7) + ((((a_X7_work U i) * (t_X7_brings_0 (U 0 (ix (U 1 i 7)) 6) (U 0 (ix (U 1 i 7)) 9))) * (((96 : Int32) + ((3 : Int32) * p0)) + ((U 1 i 5) / (20 : Int32)))) / (100 : Int32))) (U 0 (ix (U 1 i 7)) 8) (U 0 (ix (U 1 i 7)) 9) (U 0 (ix (U 1 i 7)) 10))))) := by rw [eM2]; exact hu_n (hL1.rne (by decide) (by decide) (Nat.lt_of_lt_of_le hg.2 (hL.cnt (k := 0) (by decide))) hi (by decide)) hr1_0
                              exact g_vret hx hb hr hlocks hM (Nat.zero_le _) (Nat.zero_le _) ⟨Z, (by unfold u_X7_work; rw [if_neg c1, if_neg c2, if_pos c3, if_neg c4, if_neg c5, if_neg c6, if_neg c7, if_neg c8, if_pos c15, if_neg c16, if_neg c17, if_neg c19, if_neg c20]; exact hL2), hF2⟩ dX7_work_288
                          · refine lv_aload hx hb dX7_work_212 (lv_at hl 3 rfl) ?_
                            refine lv_iconst (v := (5 : Int32)) hx hb dX7_work_214 (by decide) ?_
                            refine ia11_5 hx hb hK hM hu_s dX7_work_215 ?_
                            refine lv_goto (tgt := 229) hx hb dX7_work_216 (by decide) ?_
                            refine is11_4 hx hb hK hM (hu_n (hL.rne (by decide) (by decide) hi (Nat.lt_of_lt_of_le hg.2 (hL.cnt (k := 0) (by decide))) (by decide)) (hL.row (k := 1) (by decide) hi)) dX7_work_229 (fun H locs hM => ?_)
                            refine lv_aload_n hx hb dX7_work_230 rfl (lv_at hl 6 rfl) ?_
                            refine lv_iconst (v := (2 : Int32)) hx hb dX7_work_231 (by decide) ?_
                            refine lv_dup2_11 hx hb dX7_work_232 rfl rfl ?_
                            refine ia11_2 hx hb hK hM hu_s dX7_work_233 ?_
                            refine lv_iload hx hb dX7_work_234 (lv_at hl 0 rfl) ?_
                            refine lv_iadd hx hb dX7_work_236 ?_
                            refine is11_2 hx hb hK hM hu_s dX7_work_237 (fun H locs hM => ?_)
                            replace hM := hM.eq (hu_u _ _ _ _ _ _)
                            refine lv_aload_n hx hb dX7_work_238 rfl (lv_at hl 6 rfl) ?_
                            refine lv_iconst (v := (3 : Int32)) hx hb dX7_work_239 (by decide) ?_
                            refine lv_aload_n hx hb dX7_work_240 rfl (lv_at hl 6 rfl) ?_
                            refine lv_bipush (v := (7 : Int32)) hx hb dX7_work_241 (by decide) ?_
                            refine ia11_7 hx hb hK hM hu_s dX7_work_243 ?_
                            refine is11_3 hx hb hK hM hu_s dX7_work_244 (fun H locs hM => ?_)
                            replace hM := hM.eq (hu_u _ _ _ _ _ _)
                            refine lv_aload_n hx hb dX7_work_245 rfl (lv_at hl 6 rfl) ?_
                            refine lv_bipush (v := (10 : Int32)) hx hb dX7_work_246 (by decide) ?_
                            refine lv_dup2_11 hx hb dX7_work_248 rfl rfl ?_
                            refine ia11_10 hx hb hK hM hu_s dX7_work_249 ?_
                            refine lv_iload hx hb dX7_work_250 (lv_at hl 0 rfl) ?_
                            refine lv_iadd hx hb dX7_work_252 ?_
                            refine is11_10 hx hb hK hM hu_s dX7_work_253 (fun H locs hM => ?_)
                            replace hM := hM.eq (hu_u _ _ _ _ _ _)
                            refine lv_aload_n hx hb dX7_work_254 rfl (lv_at hl 6 rfl) ?_
                            refine lv_bipush (v := (8 : Int32)) hx hb dX7_work_255 (by decide) ?_
                            refine lv_dup2_11 hx hb dX7_work_257 rfl rfl ?_
                            refine ia11_8 hx hb hK hM hu_s dX7_work_258 ?_
                            refine lv_iload hx hb dX7_work_259 (lv_at hl 1 rfl) ?_
                            refine lv_iadd hx hb dX7_work_261 ?_
                            refine is11_8 hx hb hK hM hu_s dX7_work_262 (fun H locs hM => ?_)
                            replace hM := hM.eq (hu_u _ _ _ _ _ _)
                            refine lv_aload_n hx hb dX7_work_263 rfl (lv_at hl 6 rfl) ?_
                            refine lv_iconst (v := (5 : Int32)) hx hb dX7_work_264 (by decide) ?_
                            refine lv_dup2_11 hx hb dX7_work_265 rfl rfl ?_
                            refine ia11_5 hx hb hK hM hu_s dX7_work_266 ?_
                            refine lv_iload hx hb dX7_work_267 (lv_at hl 1 rfl) ?_
                            refine lv_iadd hx hb dX7_work_269 ?_
                            refine is11_5 hx hb hK hM hu_s dX7_work_270 (fun H locs hM => ?_)
                            replace hM := hM.eq (hu_u _ _ _ _ _ _)
                            refine lv_aload_n hx hb dX7_work_271 rfl (lv_at hl 6 rfl) ?_
                            refine lv_bipush (v := (6 : Int32)) hx hb dX7_work_272 (by decide) ?_
                            refine lv_aload_n hx hb dX7_work_274 rfl (lv_at hl 6 rfl) ?_
                            refine lv_iconst (v := (5 : Int32)) hx hb dX7_work_275 (by decide) ?_
                            refine ia11_5 hx hb hK hM hu_s dX7_work_276 ?_
                            refine lv_bipush (v := (100 : Int32)) hx hb dX7_work_277 (by decide) ?_
                            refine lv_icmp_lt (tgt := 286) hx hb dX7_work_279 (by decide) (fun c21 => ?_) (fun c21 => ?_)
                            · refine lv_iconst (v := (0 : Int32)) hx hb dX7_work_286 (by decide) ?_
                              refine is11_6 hx hb hK hM hu_s dX7_work_287 (fun H locs hM => ?_)
                              replace hM := hM.eq (hu_u _ _ _ _ _ _)
                              obtain ⟨M1, eM1⟩ : ∃ z, z = hu M (Z.2.1 0 (ix (U 1 i 7))) t (.inl (G.2.1 0, 11, .inl (rw11 (U 0 (ix (U 1 i 7)) 0) (U 0 (ix (U 1 i 7)) 1) (U 0 (ix (U 1 i 7)) 2) ((U 0 (ix (U 1 i 7)) 3) + (a_X7_work U i)) (U 0 (ix (U 1 i 7)) 4) (U 0 (ix (U 1 i 7)) 5) (U 0 (ix (U 1 i 7)) 6) ((U 0 (ix (U 1 i 7)) 7) + ((((a_X7_work U i) * (t_X7_brings_0 (U 0 (ix (U 1 i 7)) 6) (U 0 (ix (U 1 i 7)) 9))) * (((96 : Int32) + ((3 : Int32) * p0)) + ((U 1 i 5) / (20 : Int32)))) / (100 : Int32))) (U 0 (ix (U 1 i 7)) 8) (U 0 (ix (U 1 i 7)) 9) (U 0 (ix (U 1 i 7)) 10)))) := ⟨_, rfl⟩
                              rw [← eM1] at hM
                              have hL1 : MdR G M1 t h0 Z N (tu U 0 (ix (U 1 i 7)) (rw11 (U 0 (ix (U 1 i 7)) 0) (U 0 (ix (U 1 i 7)) 1) (U 0 (ix (U 1 i 7)) 2) ((U 0 (ix (U 1 i 7)) 3) + (a_X7_work U i)) (U 0 (ix (U 1 i 7)) 4) (U 0 (ix (U 1 i 7)) 5) (U 0 (ix (U 1 i 7)) 6) ((U 0 (ix (U 1 i 7)) 7) + ((((a_X7_work U i) * (t_X7_brings_0 (U 0 (ix (U 1 i 7)) 6) (U 0 (ix (U 1 i 7)) 9))) * (((96 : Int32) + ((3 : Int32) * p0)) + ((U 1 i 5) / (20 : Int32)))) / (100 : Int32))) (U 0 (ix (U 1 i 7)) 8) (U 0 (ix (U 1 i 7)) 9) (U 0 (ix (U 1 i 7)) 10))) now := by rw [eM1]; exact hL.setRow (k := 0) (by decide) (Nat.lt_of_lt_of_le hg.2 (hL.cnt (k := 0) (by decide))) (rw11 (U 0 (ix (U 1 i 7)) 0) (U 0 (ix (U 1 i 7)) 1) (U 0 (ix (U 1 i 7)) 2) ((U 0 (ix (U 1 i 7)) 3) + (a_X7_work U i)) (U 0 (ix (U 1 i 7)) 4) (U 0 (ix (U 1 i 7)) 5) (U 0 (ix (U 1 i 7)) 6) ((U 0 (ix (U 1 i 7)) 7) + ((((a_X7_work U i) * (t_X7_brings_0 (U 0 (ix (U 1 i 7)) 6) (U 0 (ix (U 1 i 7)) 9))) * (((96 : Int32) + ((3 : Int32) * p0)) + ((U 1 i 5) / (20 : Int32)))) / (100 : Int32))) (U 0 (ix (U 1 i 7)) 8) (U 0 (ix (U 1 i 7)) 9) (U 0 (ix (U 1 i 7)) 10))
                              have hF1 : Fr t M M1 := by rw [eM1]; exact Fr.tr Fr.rf (Fr.up (hL.row (k := 0) (by decide) (Nat.lt_of_lt_of_le hg.2 (hL.cnt (k := 0) (by decide)))))
                              have hr1_1 : M1 (Z.2.1 1 i) = some (t, (.inl (G.2.1 0, 11, .inl (rw11 (U 1 i 0) (U 1 i 1) (U 1 i 2) (U 1 i 3) (U 1 i 4) (U 1 i 5) (U 1 i 6) (U 1 i 7) (U 1 i 8) (U 1 i 9) (U 1 i 10))))) := by rw [eM1]; exact hu_n (hL.rne (by decide) (by decide) hi (Nat.lt_of_lt_of_le hg.2 (hL.cnt (k := 0) (by decide))) (by decide)) (hL.row (k := 1) (by decide) hi)
                              have hr1_0 : M1 (Z.2.1 0 (ix (U 1 i 7))) = some (t, (.inl (G.2.1 0, 11, .inl (rw11 (U 0 (ix (U 1 i 7)) 0) (U 0 (ix (U 1 i 7)) 1) (U 0 (ix (U 1 i 7)) 2) ((U 0 (ix (U 1 i 7)) 3) + (a_X7_work U i)) (U 0 (ix (U 1 i 7)) 4) (U 0 (ix (U 1 i 7)) 5) (U 0 (ix (U 1 i 7)) 6) ((U 0 (ix (U 1 i 7)) 7) + ((((a_X7_work U i) * (t_X7_brings_0 (U 0 (ix (U 1 i 7)) 6) (U 0 (ix (U 1 i 7)) 9))) * (((96 : Int32) + ((3 : Int32) * p0)) + ((U 1 i 5) / (20 : Int32)))) / (100 : Int32))) (U 0 (ix (U 1 i 7)) 8) (U 0 (ix (U 1 i 7)) 9) (U 0 (ix (U 1 i 7)) 10))))) := by rw [eM1]; exact hu_s
                              obtain ⟨M2, eM2⟩ : ∃ z, z = hu M1 (Z.2.1 1 i) t (.inl (G.2.1 0, 11, .inl (rw11 (U 1 i 0) (U 1 i 1) ((U 1 i 2) + ((a_X7_work U i) * (t_X7_brings_0 (U 0 (ix (U 1 i 7)) 6) (U 0 (ix (U 1 i 7)) 9)))) (U 1 i 7) (U 0 (ix (U 1 i 7)) 5) ((U 1 i 5) + (a_X7_work U i)) (0 : Int32) (U 1 i 7) ((U 1 i 8) + (a_X7_work U i)) (U 1 i 9) ((U 1 i 10) + ((a_X7_work U i) * (t_X7_brings_0 (U 0 (ix (U 1 i 7)) 6) (U 0 (ix (U 1 i 7)) 9))))))) := ⟨_, rfl⟩
                              rw [← eM2] at hM
                              have hL2 : MdR G M2 t h0 Z N (tu (tu U 0 (ix (U 1 i 7)) (rw11 (U 0 (ix (U 1 i 7)) 0) (U 0 (ix (U 1 i 7)) 1) (U 0 (ix (U 1 i 7)) 2) ((U 0 (ix (U 1 i 7)) 3) + (a_X7_work U i)) (U 0 (ix (U 1 i 7)) 4) (U 0 (ix (U 1 i 7)) 5) (U 0 (ix (U 1 i 7)) 6) ((U 0 (ix (U 1 i 7)) 7) + ((((a_X7_work U i) * (t_X7_brings_0 (U 0 (ix (U 1 i 7)) 6) (U 0 (ix (U 1 i 7)) 9))) * (((96 : Int32) + ((3 : Int32) * p0)) + ((U 1 i 5) / (20 : Int32)))) / (100 : Int32))) (U 0 (ix (U 1 i 7)) 8) (U 0 (ix (U 1 i 7)) 9) (U 0 (ix (U 1 i 7)) 10))) 1 i (rw11 (U 1 i 0) (U 1 i 1) ((U 1 i 2) + ((a_X7_work U i) * (t_X7_brings_0 (U 0 (ix (U 1 i 7)) 6) (U 0 (ix (U 1 i 7)) 9)))) (U 1 i 7) (U 0 (ix (U 1 i 7)) 5) ((U 1 i 5) + (a_X7_work U i)) (0 : Int32) (U 1 i 7) ((U 1 i 8) + (a_X7_work U i)) (U 1 i 9) ((U 1 i 10) + ((a_X7_work U i) * (t_X7_brings_0 (U 0 (ix (U 1 i 7)) 6) (U 0 (ix (U 1 i 7)) 9)))))) now := by rw [eM2]; exact hL1.setRow (k := 1) (by decide) hi (rw11 (U 1 i 0) (U 1 i 1) ((U 1 i 2) + ((a_X7_work U i) * (t_X7_brings_0 (U 0 (ix (U 1 i 7)) 6) (U 0 (ix (U 1 i 7)) 9)))) (U 1 i 7) (U 0 (ix (U 1 i 7)) 5) ((U 1 i 5) + (a_X7_work U i)) (0 : Int32) (U 1 i 7) ((U 1 i 8) + (a_X7_work U i)) (U 1 i 9) ((U 1 i 10) + ((a_X7_work U i) * (t_X7_brings_0 (U 0 (ix (U 1 i 7)) 6) (U 0 (ix (U 1 i 7)) 9)))))
                              have hF2 : Fr t M M2 := by rw [eM2]; exact Fr.tr hF1 (Fr.up hr1_1)
                              have hr2_1 : M2 (Z.2.1 1 i) = some (t, (.inl (G.2.1 0, 11, .inl (rw11 (U 1 i 0) (U 1 i 1) ((U 1 i 2) + ((a_X7_work U i) * (t_X7_brings_0 (U 0 (ix (U 1 i 7)) 6) (U 0 (ix (U 1 i 7)) 9)))) (U 1 i 7) (U 0 (ix (U 1 i 7)) 5) ((U 1 i 5) + (a_X7_work U i)) (0 : Int32) (U 1 i 7) ((U 1 i 8) + (a_X7_work U i)) (U 1 i 9) ((U 1 i 10) + ((a_X7_work U i) * (t_X7_brings_0 (U 0 (ix (U 1 i 7)) 6) (U 0 (ix (U 1 i 7)) 9)))))))) := by rw [eM2]; exact hu_s
                              have hr2_0 : M2 (Z.2.1 0 (ix (U 1 i 7))) = some (t, (.inl (G.2.1 0, 11, .inl (rw11 (U 0 (ix (U 1 i 7)) 0) (U 0 (ix (U 1 i 7)) 1) (U 0 (ix (U 1 i 7)) 2) ((U 0 (ix (U 1 i 7)) 3) + (a_X7_work U i)) (U 0 (ix (U 1 i 7)) 4) (U 0 (ix (U 1 i 7)) 5) (U 0 (ix (U 1 i 7)) 6) ((U 0 (ix (U 1 i 7)) 7) + ((((a_X7_work U i) * (t_X7_brings_0 (U 0 (ix (U 1 i 7)) 6) (U 0 (ix (U 1 i 7)) 9))) * (((96 : Int32) + ((3 : Int32) * p0)) + ((U 1 i 5) / (20 : Int32)))) / (100 : Int32))) (U 0 (ix (U 1 i 7)) 8) (U 0 (ix (U 1 i 7)) 9) (U 0 (ix (U 1 i 7)) 10))))) := by rw [eM2]; exact hu_n (hL1.rne (by decide) (by decide) (Nat.lt_of_lt_of_le hg.2 (hL.cnt (k := 0) (by decide))) hi (by decide)) hr1_0
                              exact g_vret hx hb hr hlocks hM (Nat.zero_le _) (Nat.zero_le _) ⟨Z, (by unfold u_X7_work; rw [if_neg c1, if_neg c2, if_pos c3, if_neg c4, if_neg c5, if_neg c6, if_neg c7, if_neg c8, if_pos c15, if_neg c16, if_neg c17, if_pos c19, if_pos c21]; exact hL2), hF2⟩ dX7_work_288
                            · refine lv_iconst (v := (1 : Int32)) hx hb dX7_work_282 (by decide) ?_
                              refine lv_goto (tgt := 287) hx hb dX7_work_283 (by decide) ?_
                              refine is11_6 hx hb hK hM hu_s dX7_work_287 (fun H locs hM => ?_)
                              replace hM := hM.eq (hu_u _ _ _ _ _ _)
                              obtain ⟨M1, eM1⟩ : ∃ z, z = hu M (Z.2.1 0 (ix (U 1 i 7))) t (.inl (G.2.1 0, 11, .inl (rw11 (U 0 (ix (U 1 i 7)) 0) (U 0 (ix (U 1 i 7)) 1) (U 0 (ix (U 1 i 7)) 2) ((U 0 (ix (U 1 i 7)) 3) + (a_X7_work U i)) (U 0 (ix (U 1 i 7)) 4) (U 0 (ix (U 1 i 7)) 5) (U 0 (ix (U 1 i 7)) 6) ((U 0 (ix (U 1 i 7)) 7) + ((((a_X7_work U i) * (t_X7_brings_0 (U 0 (ix (U 1 i 7)) 6) (U 0 (ix (U 1 i 7)) 9))) * (((96 : Int32) + ((3 : Int32) * p0)) + ((U 1 i 5) / (20 : Int32)))) / (100 : Int32))) (U 0 (ix (U 1 i 7)) 8) (U 0 (ix (U 1 i 7)) 9) (U 0 (ix (U 1 i 7)) 10)))) := ⟨_, rfl⟩
                              rw [← eM1] at hM
                              have hL1 : MdR G M1 t h0 Z N (tu U 0 (ix (U 1 i 7)) (rw11 (U 0 (ix (U 1 i 7)) 0) (U 0 (ix (U 1 i 7)) 1) (U 0 (ix (U 1 i 7)) 2) ((U 0 (ix (U 1 i 7)) 3) + (a_X7_work U i)) (U 0 (ix (U 1 i 7)) 4) (U 0 (ix (U 1 i 7)) 5) (U 0 (ix (U 1 i 7)) 6) ((U 0 (ix (U 1 i 7)) 7) + ((((a_X7_work U i) * (t_X7_brings_0 (U 0 (ix (U 1 i 7)) 6) (U 0 (ix (U 1 i 7)) 9))) * (((96 : Int32) + ((3 : Int32) * p0)) + ((U 1 i 5) / (20 : Int32)))) / (100 : Int32))) (U 0 (ix (U 1 i 7)) 8) (U 0 (ix (U 1 i 7)) 9) (U 0 (ix (U 1 i 7)) 10))) now := by rw [eM1]; exact hL.setRow (k := 0) (by decide) (Nat.lt_of_lt_of_le hg.2 (hL.cnt (k := 0) (by decide))) (rw11 (U 0 (ix (U 1 i 7)) 0) (U 0 (ix (U 1 i 7)) 1) (U 0 (ix (U 1 i 7)) 2) ((U 0 (ix (U 1 i 7)) 3) + (a_X7_work U i)) (U 0 (ix (U 1 i 7)) 4) (U 0 (ix (U 1 i 7)) 5) (U 0 (ix (U 1 i 7)) 6) ((U 0 (ix (U 1 i 7)) 7) + ((((a_X7_work U i) * (t_X7_brings_0 (U 0 (ix (U 1 i 7)) 6) (U 0 (ix (U 1 i 7)) 9))) * (((96 : Int32) + ((3 : Int32) * p0)) + ((U 1 i 5) / (20 : Int32)))) / (100 : Int32))) (U 0 (ix (U 1 i 7)) 8) (U 0 (ix (U 1 i 7)) 9) (U 0 (ix (U 1 i 7)) 10))
                              have hF1 : Fr t M M1 := by rw [eM1]; exact Fr.tr Fr.rf (Fr.up (hL.row (k := 0) (by decide) (Nat.lt_of_lt_of_le hg.2 (hL.cnt (k := 0) (by decide)))))
                              have hr1_1 : M1 (Z.2.1 1 i) = some (t, (.inl (G.2.1 0, 11, .inl (rw11 (U 1 i 0) (U 1 i 1) (U 1 i 2) (U 1 i 3) (U 1 i 4) (U 1 i 5) (U 1 i 6) (U 1 i 7) (U 1 i 8) (U 1 i 9) (U 1 i 10))))) := by rw [eM1]; exact hu_n (hL.rne (by decide) (by decide) hi (Nat.lt_of_lt_of_le hg.2 (hL.cnt (k := 0) (by decide))) (by decide)) (hL.row (k := 1) (by decide) hi)
                              have hr1_0 : M1 (Z.2.1 0 (ix (U 1 i 7))) = some (t, (.inl (G.2.1 0, 11, .inl (rw11 (U 0 (ix (U 1 i 7)) 0) (U 0 (ix (U 1 i 7)) 1) (U 0 (ix (U 1 i 7)) 2) ((U 0 (ix (U 1 i 7)) 3) + (a_X7_work U i)) (U 0 (ix (U 1 i 7)) 4) (U 0 (ix (U 1 i 7)) 5) (U 0 (ix (U 1 i 7)) 6) ((U 0 (ix (U 1 i 7)) 7) + ((((a_X7_work U i) * (t_X7_brings_0 (U 0 (ix (U 1 i 7)) 6) (U 0 (ix (U 1 i 7)) 9))) * (((96 : Int32) + ((3 : Int32) * p0)) + ((U 1 i 5) / (20 : Int32)))) / (100 : Int32))) (U 0 (ix (U 1 i 7)) 8) (U 0 (ix (U 1 i 7)) 9) (U 0 (ix (U 1 i 7)) 10))))) := by rw [eM1]; exact hu_s
                              obtain ⟨M2, eM2⟩ : ∃ z, z = hu M1 (Z.2.1 1 i) t (.inl (G.2.1 0, 11, .inl (rw11 (U 1 i 0) (U 1 i 1) ((U 1 i 2) + ((a_X7_work U i) * (t_X7_brings_0 (U 0 (ix (U 1 i 7)) 6) (U 0 (ix (U 1 i 7)) 9)))) (U 1 i 7) (U 0 (ix (U 1 i 7)) 5) ((U 1 i 5) + (a_X7_work U i)) (1 : Int32) (U 1 i 7) ((U 1 i 8) + (a_X7_work U i)) (U 1 i 9) ((U 1 i 10) + ((a_X7_work U i) * (t_X7_brings_0 (U 0 (ix (U 1 i 7)) 6) (U 0 (ix (U 1 i 7)) 9))))))) := ⟨_, rfl⟩
                              rw [← eM2] at hM
                              have hL2 : MdR G M2 t h0 Z N (tu (tu U 0 (ix (U 1 i 7)) (rw11 (U 0 (ix (U 1 i 7)) 0) (U 0 (ix (U 1 i 7)) 1) (U 0 (ix (U 1 i 7)) 2) ((U 0 (ix (U 1 i 7)) 3) + (a_X7_work U i)) (U 0 (ix (U 1 i 7)) 4) (U 0 (ix (U 1 i 7)) 5) (U 0 (ix (U 1 i 7)) 6) ((U 0 (ix (U 1 i 7)) 7) + ((((a_X7_work U i) * (t_X7_brings_0 (U 0 (ix (U 1 i 7)) 6) (U 0 (ix (U 1 i 7)) 9))) * (((96 : Int32) + ((3 : Int32) * p0)) + ((U 1 i 5) / (20 : Int32)))) / (100 : Int32))) (U 0 (ix (U 1 i 7)) 8) (U 0 (ix (U 1 i 7)) 9) (U 0 (ix (U 1 i 7)) 10))) 1 i (rw11 (U 1 i 0) (U 1 i 1) ((U 1 i 2) + ((a_X7_work U i) * (t_X7_brings_0 (U 0 (ix (U 1 i 7)) 6) (U 0 (ix (U 1 i 7)) 9)))) (U 1 i 7) (U 0 (ix (U 1 i 7)) 5) ((U 1 i 5) + (a_X7_work U i)) (1 : Int32) (U 1 i 7) ((U 1 i 8) + (a_X7_work U i)) (U 1 i 9) ((U 1 i 10) + ((a_X7_work U i) * (t_X7_brings_0 (U 0 (ix (U 1 i 7)) 6) (U 0 (ix (U 1 i 7)) 9)))))) now := by rw [eM2]; exact hL1.setRow (k := 1) (by decide) hi (rw11 (U 1 i 0) (U 1 i 1) ((U 1 i 2) + ((a_X7_work U i) * (t_X7_brings_0 (U 0 (ix (U 1 i 7)) 6) (U 0 (ix (U 1 i 7)) 9)))) (U 1 i 7) (U 0 (ix (U 1 i 7)) 5) ((U 1 i 5) + (a_X7_work U i)) (1 : Int32) (U 1 i 7) ((U 1 i 8) + (a_X7_work U i)) (U 1 i 9) ((U 1 i 10) + ((a_X7_work U i) * (t_X7_brings_0 (U 0 (ix (U 1 i 7)) 6) (U 0 (ix (U 1 i 7)) 9)))))
                              have hF2 : Fr t M M2 := by rw [eM2]; exact Fr.tr hF1 (Fr.up hr1_1)
                              have hr2_1 : M2 (Z.2.1 1 i) = some (t, (.inl (G.2.1 0, 11, .inl (rw11 (U 1 i 0) (U 1 i 1) ((U 1 i 2) + ((a_X7_work U i) * (t_X7_brings_0 (U 0 (ix (U 1 i 7)) 6) (U 0 (ix (U 1 i 7)) 9)))) (U 1 i 7) (U 0 (ix (U 1 i 7)) 5) ((U 1 i 5) + (a_X7_work U i)) (1 : Int32) (U 1 i 7) ((U 1 i 8) + (a_X7_work U i)) (U 1 i 9) ((U 1 i 10) + ((a_X7_work U i) * (t_X7_brings_0 (U 0 (ix (U 1 i 7)) 6) (U 0 (ix (U 1 i 7)) 9)))))))) := by rw [eM2]; exact hu_s
                              have hr2_0 : M2 (Z.2.1 0 (ix (U 1 i 7))) = some (t, (.inl (G.2.1 0, 11, .inl (rw11 (U 0 (ix (U 1 i 7)) 0) (U 0 (ix (U 1 i 7)) 1) (U 0 (ix (U 1 i 7)) 2) ((U 0 (ix (U 1 i 7)) 3) + (a_X7_work U i)) (U 0 (ix (U 1 i 7)) 4) (U 0 (ix (U 1 i 7)) 5) (U 0 (ix (U 1 i 7)) 6) ((U 0 (ix (U 1 i 7)) 7) + ((((a_X7_work U i) * (t_X7_brings_0 (U 0 (ix (U 1 i 7)) 6) (U 0 (ix (U 1 i 7)) 9))) * (((96 : Int32) + ((3 : Int32) * p0)) + ((U 1 i 5) / (20 : Int32)))) / (100 : Int32))) (U 0 (ix (U 1 i 7)) 8) (U 0 (ix (U 1 i 7)) 9) (U 0 (ix (U 1 i 7)) 10))))) := by rw [eM2]; exact hu_n (hL1.rne (by decide) (by decide) (Nat.lt_of_lt_of_le hg.2 (hL.cnt (k := 0) (by decide))) hi (by decide)) hr1_0
                              exact g_vret hx hb hr hlocks hM (Nat.zero_le _) (Nat.zero_le _) ⟨Z, (by unfold u_X7_work; rw [if_neg c1, if_neg c2, if_pos c3, if_neg c4, if_neg c5, if_neg c6, if_neg c7, if_neg c8, if_pos c15, if_neg c16, if_neg c17, if_pos c19, if_neg c21]; exact hL2), hF2⟩ dX7_work_288
                      · refine lv_aload_n hx hb dX7_work_147 rfl (lv_at hl 5 rfl) ?_
                        refine lv_bipush (v := (9 : Int32)) hx hb dX7_work_148 (by decide) ?_
                        refine lv_dup2_11 hx hb dX7_work_150 rfl rfl ?_
                        refine ia11_9 hx hb hK hM (hL.row (k := 1) (by decide) hi) dX7_work_151 ?_
                        refine lv_iconst (v := (1 : Int32)) hx hb dX7_work_152 (by decide) ?_
                        refine lv_iadd hx hb dX7_work_153 ?_
                        refine is11_9 hx hb hK hM (hL.row (k := 1) (by decide) hi) dX7_work_154 (fun H locs hM => ?_)
                        obtain ⟨M1, eM1⟩ : ∃ z, z = hu M (Z.2.1 1 i) t (.inl (G.2.1 0, 11, .inl (rw11 (U 1 i 0) (U 1 i 1) (U 1 i 2) (U 1 i 3) (U 1 i 4) (U 1 i 5) (U 1 i 6) (U 1 i 7) (U 1 i 8) ((U 1 i 9) + (1 : Int32)) (U 1 i 10)))) := ⟨_, rfl⟩
                        rw [← eM1] at hM
                        have hL1 : MdR G M1 t h0 Z N (tu U 1 i (rw11 (U 1 i 0) (U 1 i 1) (U 1 i 2) (U 1 i 3) (U 1 i 4) (U 1 i 5) (U 1 i 6) (U 1 i 7) (U 1 i 8) ((U 1 i 9) + (1 : Int32)) (U 1 i 10))) now := by rw [eM1]; exact hL.setRow (k := 1) (by decide) hi (rw11 (U 1 i 0) (U 1 i 1) (U 1 i 2) (U 1 i 3) (U 1 i 4) (U 1 i 5) (U 1 i 6) (U 1 i 7) (U 1 i 8) ((U 1 i 9) + (1 : Int32)) (U 1 i 10))
                        have hF1 : Fr t M M1 := by rw [eM1]; exact Fr.tr Fr.rf (Fr.up (hL.row (k := 1) (by decide) hi))
                        have hr1_1 : M1 (Z.2.1 1 i) = some (t, (.inl (G.2.1 0, 11, .inl (rw11 (U 1 i 0) (U 1 i 1) (U 1 i 2) (U 1 i 3) (U 1 i 4) (U 1 i 5) (U 1 i 6) (U 1 i 7) (U 1 i 8) ((U 1 i 9) + (1 : Int32)) (U 1 i 10))))) := by rw [eM1]; exact hu_s
                        have hr1_0 : M1 (Z.2.1 0 (ix (U 1 i 7))) = some (t, (.inl (G.2.1 0, 11, .inl (rw11 (U 0 (ix (U 1 i 7)) 0) (U 0 (ix (U 1 i 7)) 1) (U 0 (ix (U 1 i 7)) 2) (U 0 (ix (U 1 i 7)) 3) (U 0 (ix (U 1 i 7)) 4) (U 0 (ix (U 1 i 7)) 5) (U 0 (ix (U 1 i 7)) 6) (U 0 (ix (U 1 i 7)) 7) (U 0 (ix (U 1 i 7)) 8) (U 0 (ix (U 1 i 7)) 9) (U 0 (ix (U 1 i 7)) 10))))) := by rw [eM1]; exact hu_n (hL.rne (by decide) (by decide) (Nat.lt_of_lt_of_le hg.2 (hL.cnt (k := 0) (by decide))) hi (by decide)) (hL.row (k := 0) (by decide) (Nat.lt_of_lt_of_le hg.2 (hL.cnt (k := 0) (by decide))))
                        exact g_vret hx hb hr hlocks hM (Nat.zero_le _) (Nat.zero_le _) ⟨Z, (by unfold u_X7_work; rw [if_neg c1, if_neg c2, if_pos c3, if_neg c4, if_neg c5, if_neg c6, if_neg c7, if_neg c8, if_pos c15, if_pos c16]; exact hL1), hF1⟩ dX7_work_155
        refine lv_if_le (tgt := 95) hx hb dX7_work_75 (by decide) (fun c22 => ?_) (fun c22 => ?_)
        · exact J95 _ _ _ hM (by rw [show a_X7_work U i = (mn (U 1 i 0) ((U 0 (ix (U 1 i 7)) 2) - (U 0 (ix (U 1 i 7)) 3))) from by unfold a_X7_work; rw [if_pos c22]]; exact lv_sub hl [0, 1, 2, 3, 4, 5, 6] rfl)
        · refine lv_iload hx hb dX7_work_78 (lv_at hl 0 rfl) ?_
          refine lv_sipush (v := (400 : Int32)) hx hb dX7_work_80 (by decide) ?_
          refine lv_aload_n hx hb dX7_work_83 rfl (lv_at hl 5 rfl) ?_
          refine lv_iconst (v := (2 : Int32)) hx hb dX7_work_84 (by decide) ?_
          refine ia11_2 hx hb hK hM (hL.row (k := 1) (by decide) hi) dX7_work_85 ?_
          refine lv_isub hx hb dX7_work_86 ?_
          refine lv_iload hx hb dX7_work_87 (lv_at hl 1 rfl) ?_
          refine lv_idiv hx hb dX7_work_89 (nle_ne c22) ?_
          refine va_mmin hx hb (hml.trans hl.1.symm) hown (hts _ wm_X7_55) (hts _ wt_mmin) (hts _ wn_java_lang_Math) (hts _ wc_mmin) (Nat.le_of_ble_eq_true rfl) (Nat.le_of_ble_eq_true rfl) (Nat.zero_le _) (Nat.zero_le _) dX7_work_90 ?_
          refine lv_istore (lv' := [(6, .int (mn (mn (U 1 i 0) ((U 0 (ix (U 1 i 7)) 2) - (U 0 (ix (U 1 i 7)) 3))) (((400 : Int32) - (U 1 i 2)) / (t_X7_brings_0 (U 0 (ix (U 1 i 7)) 6) (U 0 (ix (U 1 i 7)) 9))))), (5, .int (t_X7_brings_0 (U 0 (ix (U 1 i 7)) 6) (U 0 (ix (U 1 i 7)) 9))), (4, .ref (Z.2.1 0 (ix (U 1 i 7)))), (0, .ref h0), (1, .int p0), (2, .ref (Z.2.1 1 i)), (3, .int p1)]) hx hb dX7_work_93 hl (by decide) rfl (fun ls hl => ?_)
          exact J95 _ _ _ hM (by rw [show a_X7_work U i = (mn (mn (U 1 i 0) ((U 0 (ix (U 1 i 7)) 2) - (U 0 (ix (U 1 i 7)) 3))) (((400 : Int32) - (U 1 i 2)) / (t_X7_brings_0 (U 0 (ix (U 1 i 7)) 6) (U 0 (ix (U 1 i 7)) 9)))) from by unfold a_X7_work; rw [if_neg c22]]; exact lv_sub hl [0, 1, 2, 3, 4, 5, 6] rfl)
      · refine lv_aload_n hx hb dX7_work_38 rfl (lv_at hl 3 rfl) ?_
        refine lv_aload hx hb dX7_work_39 (lv_at hl 0 rfl) ?_
        refine lv_iconst (v := (1 : Int32)) hx hb dX7_work_41 (by decide) ?_
        refine ia11_1 hx hb hK hM (hL.row (k := 0) (by decide) (Nat.lt_of_lt_of_le hg.2 (hL.cnt (k := 0) (by decide)))) dX7_work_42 ?_
        refine lv_bipush (v := (20 : Int32)) hx hb dX7_work_43 (by decide) ?_
        refine g_callSv (n9 := 3) (As := [.ref (Z.2.1 1 i), .int (U 0 (ix (U 1 i 7)) 1), .int (20 : Int32)]) (rest := []) hx hb hml hl.1 hown hts hK hM (c_X7_towards l G _ (Z.2.1 1 i) t (U 1 i 0) (U 1 i 1) (U 1 i 2) (U 1 i 3) (U 1 i 4) (U 1 i 5) (U 1 i 6) (U 1 i 7) (U 1 i 8) (U 1 i 9) (U 1 i 10) (U 0 (ix (U 1 i 7)) 1) (20 : Int32) (hL.row (k := 1) (by decide) hi)) wm_X7_85 wt_X7_towards wn_X7 wc_X7_towards (by decide +kernel) ⟨Nat.le_of_ble_eq_true rfl, Nat.le_of_ble_eq_true rfl⟩ ⟨Nat.le_of_ble_eq_true rfl, Nat.le_of_ble_eq_true rfl⟩ rfl (Nat.le_of_ble_eq_true rfl) rfl dX7_work_45 (fun M1 H locs hq hM => ?_)
        replace hq := hq.symm
        subst hq
        obtain ⟨M1, eM1⟩ : ∃ z, z = hu M (Z.2.1 1 i) t (.inl (G.2.1 0, 11, .inl (rw11 (U 1 i 0) (t_X7_towards_0 (U 1 i 1) (U 0 (ix (U 1 i 7)) 1) (20 : Int32)) (U 1 i 2) (U 1 i 3) (U 1 i 4) (U 1 i 5) (U 1 i 6) (U 1 i 7) (U 1 i 8) (U 1 i 9) (U 1 i 10)))) := ⟨_, rfl⟩
        rw [← eM1] at hM
        have hL1 : MdR G M1 t h0 Z N (tu U 1 i (rw11 (U 1 i 0) (t_X7_towards_0 (U 1 i 1) (U 0 (ix (U 1 i 7)) 1) (20 : Int32)) (U 1 i 2) (U 1 i 3) (U 1 i 4) (U 1 i 5) (U 1 i 6) (U 1 i 7) (U 1 i 8) (U 1 i 9) (U 1 i 10))) now := by rw [eM1]; exact hL.setRow (k := 1) (by decide) hi (rw11 (U 1 i 0) (t_X7_towards_0 (U 1 i 1) (U 0 (ix (U 1 i 7)) 1) (20 : Int32)) (U 1 i 2) (U 1 i 3) (U 1 i 4) (U 1 i 5) (U 1 i 6) (U 1 i 7) (U 1 i 8) (U 1 i 9) (U 1 i 10))
        have hF1 : Fr t M M1 := by rw [eM1]; exact Fr.tr Fr.rf (Fr.up (hL.row (k := 1) (by decide) hi))
        have hr1_1 : M1 (Z.2.1 1 i) = some (t, (.inl (G.2.1 0, 11, .inl (rw11 (U 1 i 0) (t_X7_towards_0 (U 1 i 1) (U 0 (ix (U 1 i 7)) 1) (20 : Int32)) (U 1 i 2) (U 1 i 3) (U 1 i 4) (U 1 i 5) (U 1 i 6) (U 1 i 7) (U 1 i 8) (U 1 i 9) (U 1 i 10))))) := by rw [eM1]; exact hu_s
        have hr1_0 : M1 (Z.2.1 0 (ix (U 1 i 7))) = some (t, (.inl (G.2.1 0, 11, .inl (rw11 (U 0 (ix (U 1 i 7)) 0) (U 0 (ix (U 1 i 7)) 1) (U 0 (ix (U 1 i 7)) 2) (U 0 (ix (U 1 i 7)) 3) (U 0 (ix (U 1 i 7)) 4) (U 0 (ix (U 1 i 7)) 5) (U 0 (ix (U 1 i 7)) 6) (U 0 (ix (U 1 i 7)) 7) (U 0 (ix (U 1 i 7)) 8) (U 0 (ix (U 1 i 7)) 9) (U 0 (ix (U 1 i 7)) 10))))) := by rw [eM1]; exact hu_n (hL.rne (by decide) (by decide) (Nat.lt_of_lt_of_le hg.2 (hL.cnt (k := 0) (by decide))) hi (by decide)) (hL.row (k := 0) (by decide) (Nat.lt_of_lt_of_le hg.2 (hL.cnt (k := 0) (by decide))))
        exact g_vret hx hb hr hlocks hM (Nat.zero_le _) (Nat.zero_le _) ⟨Z, (by unfold u_X7_work; rw [if_neg c1, if_neg c2, if_neg c3]; exact hL1), hF1⟩ dX7_work_48
    · exact g_vret hx hb hr hlocks hM (Nat.zero_le _) (Nat.zero_le _) ⟨Z, (by unfold u_X7_work; rw [if_neg c1, if_pos c2]; exact hL), Fr.rf⟩ dX7_work_16
def u_X7_sell (N : Nat → Nat) (U : Tb) (now : Int32) (i v : Nat) : Tb := if (q_X7_isOpen N U now v) = 0 then (tu U 2 i (rw10 (U 2 i 0) (U 2 i 1) (U 2 i 2) (U 2 i 3) (U 2 i 4) (U 2 i 5) (U 2 i 6) (U 2 i 7) ((U 2 i 8) + (1 : Int32)) (U 2 i 9))) else (if (U 3 v 5) < (U 2 i 4) then (tu U 2 i (rw10 (U 2 i 0) (U 2 i 1) (U 2 i 2) (U 2 i 3) (U 2 i 4) (U 2 i 5) (U 2 i 6) (U 2 i 7) ((U 2 i 8) + (1 : Int32)) (U 2 i 9))) else (if (U 2 i 2) ≤ (U 3 v 3) then (tu (tu (tu (tu U 4 (N 4) (rw7 (U 2 i 3) (U 2 i 2) (U 2 i 4) ((2 : Int32) * (mx (0 : Int32) ((U 2 i 4) - (U 3 v 4)))) (U 2 i 7) now (0 : Int32))) 0 (ix (U 2 i 3)) (rw11 (U 0 (ix (U 2 i 3)) 0) (U 0 (ix (U 2 i 3)) 1) (U 0 (ix (U 2 i 3)) 2) (U 0 (ix (U 2 i 3)) 3) (U 0 (ix (U 2 i 3)) 4) (U 0 (ix (U 2 i 3)) 5) (U 0 (ix (U 2 i 3)) 6) (U 0 (ix (U 2 i 3)) 7) ((U 0 (ix (U 2 i 3)) 8) + (U 2 i 2)) (U 0 (ix (U 2 i 3)) 9) (U 0 (ix (U 2 i 3)) 10))) 3 v (rw6 (U 3 v 0) (U 3 v 1) (U 3 v 2) ((U 3 v 3) - (U 2 i 2)) (U 3 v 4) (U 3 v 5))) 2 i (rw10 (U 2 i 0) (U 2 i 1) (0 : Int32) (U 2 i 3) (U 2 i 4) (U 2 i 5) (U 2 i 6) (U 2 i 7) (U 2 i 8) (U 2 i 9))) else (tu U 2 i (rw10 (U 2 i 0) (U 2 i 1) (U 2 i 2) (U 2 i 3) (U 2 i 4) (U 2 i 5) (U 2 i 6) (U 2 i 7) ((U 2 i 8) + (1 : Int32)) (U 2 i 9)))))
def n_X7_sell (N : Nat → Nat) (U : Tb) (now : Int32) (i v : Nat) : Nat := if (q_X7_isOpen N U now v) = 0 then (N 4) else (if (U 3 v 5) < (U 2 i 4) then (N 4) else (if (U 2 i 2) ≤ (U 3 v 3) then (N 4 + 1) else (N 4)))
set_option maxHeartbeats 4000000 in
set_option maxRecDepth 100000 in
theorem c_X7_sell (l : Launch) (G : GG) (M : HM) (t h0 : Nat) (Z : LZ) (N : Nat → Nat) (U : Tb) (now : Int32) (i v : Nat) (hL : MdR G M t h0 Z N U now) (hi : i < lmR N 2) (hv : v < lmR N 3) (hld : ¬ U 2 i 3 < 0 ∧ ix (U 2 i 3) < N 0) (hN4 : N 4 < 600) (B : Nat) (hB : n_X7_sell N U now i v ≤ B) : Mv l yX7_sell (.code yX7_sell cX7_sell 4 none :: AL) 7 171 (2 * (n_X7_sell N U now i v - N 4)) ((17 + 2 * B) * (n_X7_sell N U now i v - N 4)) [.ref h0, .ref (Z.2.1 2 i), .ref (Z.2.1 3 v)] G M (fun M' => ∃ Z', MdR G M' t h0 Z' (nu N 4 (n_X7_sell N U now i v)) (u_X7_sell N U now i v) now ∧ Fr t M M') := by
  refine Mv.go (by decide) (Nat.le_of_ble_eq_true rfl) ?_
  intro p e s m below meth c ls hx hb hr hml hown hlocks hname hts hK hM hl
  have hown : s.vm.findClass RX7 = some m.cls := hown
  have hl : lv_has ls 4 [(0, .ref h0), (1, .ref (Z.2.1 2 i)), (2, .ref (Z.2.1 3 v))] := hl
  have hNB : n_X7_sell N U now i v ≤ B := hB
  refine lv_aload_n hx hb dX7_sell_0 rfl (lv_at hl 0 rfl) ?_
  refine lv_aload_n hx hb dX7_sell_1 rfl (lv_at hl 2 rfl) ?_
  refine g_callVi (n9 := 1) (As := [.ref (Z.2.1 3 v)]) (rest := []) hx hb hml hl.1 hown hts hK hM (c_X7_isOpen l G _ t h0 Z N U now v hL hv) wm_X7_104 wi_X7_isOpen wl_X7_isOpen wn_X7 wc_X7_isOpen (by decide +kernel) (hM.recv hK (ci := 8) rfl hL.1) ⟨Nat.le_of_ble_eq_true rfl, Nat.le_of_ble_eq_true rfl⟩ ⟨Nat.zero_le _, Nat.zero_le _⟩ rfl (Nat.le_of_ble_eq_true rfl) rfl dX7_sell_2 (fun r_2 Mz H locs hq hM => ?_)
  have hq1 := hq.1.symm
  have hq2 := hq.2.symm
  subst hq1 hq2
  refine lv_if_eq (tgt := 26) hx hb dX7_sell_5 (by decide) (fun c1 => ?_) (fun c1 => ?_)
  · refine lv_aload_n hx hb dX7_sell_26 rfl (lv_at hl 1 rfl) ?_
    refine lv_bipush (v := (8 : Int32)) hx hb dX7_sell_27 (by decide) ?_
    refine lv_dup2_11 hx hb dX7_sell_29 rfl rfl ?_
    refine ia10_8 hx hb hK hM (hL.row (k := 2) (by decide) hi) dX7_sell_30 ?_
    refine lv_iconst (v := (1 : Int32)) hx hb dX7_sell_31 (by decide) ?_
    refine lv_iadd hx hb dX7_sell_32 ?_
    refine is10_8 hx hb hK hM (hL.row (k := 2) (by decide) hi) dX7_sell_33 (fun H locs hM => ?_)
    obtain ⟨M1, eM1⟩ : ∃ z, z = hu M (Z.2.1 2 i) t (.inl (G.2.1 0, 10, .inl (rw10 (U 2 i 0) (U 2 i 1) (U 2 i 2) (U 2 i 3) (U 2 i 4) (U 2 i 5) (U 2 i 6) (U 2 i 7) ((U 2 i 8) + (1 : Int32)) (U 2 i 9)))) := ⟨_, rfl⟩
    rw [← eM1] at hM
    have hL1 : MdR G M1 t h0 Z N (tu U 2 i (rw10 (U 2 i 0) (U 2 i 1) (U 2 i 2) (U 2 i 3) (U 2 i 4) (U 2 i 5) (U 2 i 6) (U 2 i 7) ((U 2 i 8) + (1 : Int32)) (U 2 i 9))) now := by rw [eM1]; exact hL.setRow (k := 2) (by decide) hi (rw10 (U 2 i 0) (U 2 i 1) (U 2 i 2) (U 2 i 3) (U 2 i 4) (U 2 i 5) (U 2 i 6) (U 2 i 7) ((U 2 i 8) + (1 : Int32)) (U 2 i 9))
    have hF1 : Fr t M M1 := by rw [eM1]; exact Fr.tr Fr.rf (Fr.up (hL.row (k := 2) (by decide) hi))
    have hr1_2 : M1 (Z.2.1 2 i) = some (t, (.inl (G.2.1 0, 10, .inl (rw10 (U 2 i 0) (U 2 i 1) (U 2 i 2) (U 2 i 3) (U 2 i 4) (U 2 i 5) (U 2 i 6) (U 2 i 7) ((U 2 i 8) + (1 : Int32)) (U 2 i 9))))) := by rw [eM1]; exact hu_s
    have hr1_3 : M1 (Z.2.1 3 v) = some (t, (.inl (G.2.1 0, 6, .inl (rw6 (U 3 v 0) (U 3 v 1) (U 3 v 2) (U 3 v 3) (U 3 v 4) (U 3 v 5))))) := by rw [eM1]; exact hu_n (hL.rne (by decide) (by decide) hv hi (by decide)) (hL.row (k := 3) (by decide) hv)
    exact g_vret hx hb hr hlocks hM (Nat.zero_le _) (Nat.zero_le _) ⟨Z, (by rw [show n_X7_sell N U now i v = (N 4) from by unfold n_X7_sell; rw [if_pos c1], nu_i]; unfold u_X7_sell; rw [if_pos c1]; exact hL1), hF1⟩ dX7_sell_34
  · refine lv_aload_n hx hb dX7_sell_8 rfl (lv_at hl 2 rfl) ?_
    refine lv_iconst (v := (5 : Int32)) hx hb dX7_sell_9 (by decide) ?_
    refine ia6_5 hx hb hK hM (hL.row (k := 3) (by decide) hv) dX7_sell_10 ?_
    refine lv_aload_n hx hb dX7_sell_11 rfl (lv_at hl 1 rfl) ?_
    refine lv_iconst (v := (4 : Int32)) hx hb dX7_sell_12 (by decide) ?_
    refine ia10_4 hx hb hK hM (hL.row (k := 2) (by decide) hi) dX7_sell_13 ?_
    refine lv_icmp_lt (tgt := 26) hx hb dX7_sell_14 (by decide) (fun c2 => ?_) (fun c2 => ?_)
    · refine lv_aload_n hx hb dX7_sell_26 rfl (lv_at hl 1 rfl) ?_
      refine lv_bipush (v := (8 : Int32)) hx hb dX7_sell_27 (by decide) ?_
      refine lv_dup2_11 hx hb dX7_sell_29 rfl rfl ?_
      refine ia10_8 hx hb hK hM (hL.row (k := 2) (by decide) hi) dX7_sell_30 ?_
      refine lv_iconst (v := (1 : Int32)) hx hb dX7_sell_31 (by decide) ?_
      refine lv_iadd hx hb dX7_sell_32 ?_
      refine is10_8 hx hb hK hM (hL.row (k := 2) (by decide) hi) dX7_sell_33 (fun H locs hM => ?_)
      obtain ⟨M1, eM1⟩ : ∃ z, z = hu M (Z.2.1 2 i) t (.inl (G.2.1 0, 10, .inl (rw10 (U 2 i 0) (U 2 i 1) (U 2 i 2) (U 2 i 3) (U 2 i 4) (U 2 i 5) (U 2 i 6) (U 2 i 7) ((U 2 i 8) + (1 : Int32)) (U 2 i 9)))) := ⟨_, rfl⟩
      rw [← eM1] at hM
      have hL1 : MdR G M1 t h0 Z N (tu U 2 i (rw10 (U 2 i 0) (U 2 i 1) (U 2 i 2) (U 2 i 3) (U 2 i 4) (U 2 i 5) (U 2 i 6) (U 2 i 7) ((U 2 i 8) + (1 : Int32)) (U 2 i 9))) now := by rw [eM1]; exact hL.setRow (k := 2) (by decide) hi (rw10 (U 2 i 0) (U 2 i 1) (U 2 i 2) (U 2 i 3) (U 2 i 4) (U 2 i 5) (U 2 i 6) (U 2 i 7) ((U 2 i 8) + (1 : Int32)) (U 2 i 9))
      have hF1 : Fr t M M1 := by rw [eM1]; exact Fr.tr Fr.rf (Fr.up (hL.row (k := 2) (by decide) hi))
      have hr1_2 : M1 (Z.2.1 2 i) = some (t, (.inl (G.2.1 0, 10, .inl (rw10 (U 2 i 0) (U 2 i 1) (U 2 i 2) (U 2 i 3) (U 2 i 4) (U 2 i 5) (U 2 i 6) (U 2 i 7) ((U 2 i 8) + (1 : Int32)) (U 2 i 9))))) := by rw [eM1]; exact hu_s
      have hr1_3 : M1 (Z.2.1 3 v) = some (t, (.inl (G.2.1 0, 6, .inl (rw6 (U 3 v 0) (U 3 v 1) (U 3 v 2) (U 3 v 3) (U 3 v 4) (U 3 v 5))))) := by rw [eM1]; exact hu_n (hL.rne (by decide) (by decide) hv hi (by decide)) (hL.row (k := 3) (by decide) hv)
      exact g_vret hx hb hr hlocks hM (Nat.zero_le _) (Nat.zero_le _) ⟨Z, (by rw [show n_X7_sell N U now i v = (N 4) from by unfold n_X7_sell; rw [if_neg c1, if_pos c2], nu_i]; unfold u_X7_sell; rw [if_neg c1, if_pos c2]; exact hL1), hF1⟩ dX7_sell_34
    · refine lv_aload_n hx hb dX7_sell_17 rfl (lv_at hl 2 rfl) ?_
      refine lv_iconst (v := (3 : Int32)) hx hb dX7_sell_18 (by decide) ?_
      refine ia6_3 hx hb hK hM (hL.row (k := 3) (by decide) hv) dX7_sell_19 ?_
      refine lv_aload_n hx hb dX7_sell_20 rfl (lv_at hl 1 rfl) ?_
      refine lv_iconst (v := (2 : Int32)) hx hb dX7_sell_21 (by decide) ?_
      refine ia10_2 hx hb hK hM (hL.row (k := 2) (by decide) hi) dX7_sell_22 ?_
      refine lv_icmp_ge (tgt := 35) hx hb dX7_sell_23 (by decide) (fun c3 => ?_) (fun c3 => ?_)
      · refine lv_bipush (v := (7 : Int32)) hx hb dX7_sell_35 (by decide) ?_
        have hN1 : n_X7_sell N U now i v = N 4 + 1 := (show n_X7_sell N U now i v = (N 4 + 1) from by unfold n_X7_sell; rw [if_neg c1, if_neg c2, if_pos c3])
        have hN2 : n_X7_sell N U now i v - N 4 = 1 := by omega
        refine g_newI hx hb hK hM hts 7 (by decide) (by decide) (by decide) t (by show 0 + 1 ≤ 2 * (n_X7_sell N U now i v - N 4); omega) (by show 0 + 7 ≤ (17 + 2 * B) * (n_X7_sell N U now i v - N 4); rw [hN2]; omega) dX7_sell_37 (fun q H hq0 hM => ?_)
        rw [rw7_0] at hM
        refine lv_dup hx hb dX7_sell_39 rfl ?_
        refine lv_iconst (v := (0 : Int32)) hx hb dX7_sell_40 (by decide) ?_
        refine lv_aload_n hx hb dX7_sell_41 rfl (lv_at hl 1 rfl) ?_
        refine lv_iconst (v := (3 : Int32)) hx hb dX7_sell_42 (by decide) ?_
        refine ia10_3 hx hb hK hM (hu_n (hu_ne (hL.row (k := 2) (by decide) hi) hq0 (by simp)) (hL.row (k := 2) (by decide) hi)) dX7_sell_43 ?_
        refine is7_0 hx hb hK hM hu_s dX7_sell_44 (fun H locs hM => ?_)
        replace hM := hM.eq (hu_u _ _ _ _ _ _)
        refine lv_dup hx hb dX7_sell_45 rfl ?_
        refine lv_iconst (v := (1 : Int32)) hx hb dX7_sell_46 (by decide) ?_
        refine lv_aload_n hx hb dX7_sell_47 rfl (lv_at hl 1 rfl) ?_
        refine lv_iconst (v := (2 : Int32)) hx hb dX7_sell_48 (by decide) ?_
        refine ia10_2 hx hb hK hM (hu_n (hu_ne (hL.row (k := 2) (by decide) hi) hq0 (by simp)) (hL.row (k := 2) (by decide) hi)) dX7_sell_49 ?_
        refine is7_1 hx hb hK hM hu_s dX7_sell_50 (fun H locs hM => ?_)
        replace hM := hM.eq (hu_u _ _ _ _ _ _)
        refine lv_dup hx hb dX7_sell_51 rfl ?_
        refine lv_iconst (v := (2 : Int32)) hx hb dX7_sell_52 (by decide) ?_
        refine lv_aload_n hx hb dX7_sell_53 rfl (lv_at hl 1 rfl) ?_
        refine lv_iconst (v := (4 : Int32)) hx hb dX7_sell_54 (by decide) ?_
        refine ia10_4 hx hb hK hM (hu_n (hu_ne (hL.row (k := 2) (by decide) hi) hq0 (by simp)) (hL.row (k := 2) (by decide) hi)) dX7_sell_55 ?_
        refine is7_2 hx hb hK hM hu_s dX7_sell_56 (fun H locs hM => ?_)
        replace hM := hM.eq (hu_u _ _ _ _ _ _)
        refine lv_dup hx hb dX7_sell_57 rfl ?_
        refine lv_iconst (v := (3 : Int32)) hx hb dX7_sell_58 (by decide) ?_
        refine lv_iconst (v := (2 : Int32)) hx hb dX7_sell_59 (by decide) ?_
        refine lv_iconst (v := (0 : Int32)) hx hb dX7_sell_60 (by decide) ?_
        refine lv_aload_n hx hb dX7_sell_61 rfl (lv_at hl 1 rfl) ?_
        refine lv_iconst (v := (4 : Int32)) hx hb dX7_sell_62 (by decide) ?_
        refine ia10_4 hx hb hK hM (hu_n (hu_ne (hL.row (k := 2) (by decide) hi) hq0 (by simp)) (hL.row (k := 2) (by decide) hi)) dX7_sell_63 ?_
        refine lv_aload_n hx hb dX7_sell_64 rfl (lv_at hl 2 rfl) ?_
        refine lv_iconst (v := (4 : Int32)) hx hb dX7_sell_65 (by decide) ?_
        refine ia6_4 hx hb hK hM (hu_n (hu_ne (hL.row (k := 3) (by decide) hv) hq0 (by simp)) (hL.row (k := 3) (by decide) hv)) dX7_sell_66 ?_
        refine lv_isub hx hb dX7_sell_67 ?_
        refine va_mmax hx hb (hml.trans hl.1.symm) hown (hts _ wm_X7_61) (hts _ wt_mmax) (hts _ wn_java_lang_Math) (hts _ wc_mmax) (Nat.le_of_ble_eq_true rfl) (Nat.le_of_ble_eq_true rfl) (by show 0 + 1 ≤ 2 * (n_X7_sell N U now i v - N 4); omega) (by show 0 + 7 ≤ (17 + 2 * B) * (n_X7_sell N U now i v - N 4); rw [hN2]; omega) dX7_sell_68 ?_
        refine lv_imul hx hb dX7_sell_71 ?_
        refine is7_3 hx hb hK hM hu_s dX7_sell_72 (fun H locs hM => ?_)
        replace hM := hM.eq (hu_u _ _ _ _ _ _)
        refine lv_dup hx hb dX7_sell_73 rfl ?_
        refine lv_iconst (v := (4 : Int32)) hx hb dX7_sell_74 (by decide) ?_
        refine lv_aload_n hx hb dX7_sell_75 rfl (lv_at hl 1 rfl) ?_
        refine lv_bipush (v := (7 : Int32)) hx hb dX7_sell_76 (by decide) ?_
        refine ia10_7 hx hb hK hM (hu_n (hu_ne (hL.row (k := 2) (by decide) hi) hq0 (by simp)) (hL.row (k := 2) (by decide) hi)) dX7_sell_78 ?_
        refine is7_4 hx hb hK hM hu_s dX7_sell_79 (fun H locs hM => ?_)
        replace hM := hM.eq (hu_u _ _ _ _ _ _)
        refine lv_dup hx hb dX7_sell_80 rfl ?_
        refine lv_iconst (v := (5 : Int32)) hx hb dX7_sell_81 (by decide) ?_
        refine lv_aload_n hx hb dX7_sell_82 rfl (lv_at hl 0 rfl) ?_
        refine fg_X7_52 hx hb hts hown hK hM (hu_n (hu_ne hL.1 hq0 (by simp)) hL.1) dX7_sell_83 ?_
        refine is7_5 hx hb hK hM hu_s dX7_sell_86 (fun H locs hM => ?_)
        replace hM := hM.eq (hu_u _ _ _ _ _ _)
        refine lv_dup hx hb dX7_sell_87 rfl ?_
        refine lv_bipush (v := (6 : Int32)) hx hb dX7_sell_88 (by decide) ?_
        refine lv_iconst (v := (0 : Int32)) hx hb dX7_sell_90 (by decide) ?_
        refine is7_6 hx hb hK hM hu_s dX7_sell_91 (fun H locs hM => ?_)
        replace hM := hM.eq (hu_u _ _ _ _ _ _)
        refine lv_astore_n (lv' := [(3, .ref q), (0, .ref h0), (1, .ref (Z.2.1 2 i)), (2, .ref (Z.2.1 3 v))]) hx hb dX7_sell_92 rfl hl (by decide) rfl (fun ls hl => ?_)
        refine lv_aload_n hx hb dX7_sell_93 rfl (lv_at hl 1 rfl) ?_
        refine fg_X7_28 hx hb hts hown hK hM (hu_n (hu_ne hL.1 hq0 (by simp)) hL.1) dX7_sell_94 ?_
        refine lv_aload_n hx hb dX7_sell_97 rfl (lv_at hl 0 rfl) ?_
        obtain ⟨tk, etk⟩ : ∃ z, z = (rw7 (U 2 i 3) (U 2 i 2) (U 2 i 4) ((2 : Int32) * (mx (0 : Int32) ((U 2 i 4) - (U 3 v 4)))) (U 2 i 7) now (0 : Int32)) := ⟨_, rfl⟩
        replace hM : Wd G (hu M q t (eR G 4 tk)) s H _ := hM.eq (by rw [etk]; rfl)
        refine g_callFi (n9 := 1) (As := [.ref q]) (rest := []) hx hb hml hl.1 hown hts hK hM (c_add l G _ (Z.2.2.1) t q t (N 4) _ _ (eR G 4 tk) _ _ (hL.lsNew hq0) hu_s (eR_okv G 4 tk) (by omega) (hL.elNew hq0)) (hK.1.1 0 _ rfl).2 hK.2.2.1.2.2 wm_X7_108 wl_Jx4a65c_add_9ea2d_by_List_add wi_Jx4a65c_add_9ea2d wn_Jx4a65c wc_Jx4a65c_add_9ea2d (by decide +kernel) (hM.recv hK (ci := 0) rfl (hL.lsNew hq0).1) ⟨Nat.le_of_ble_eq_true rfl, Nat.le_of_ble_eq_true rfl⟩ ⟨by show 0 + 1 + 1 ≤ 2 * (n_X7_sell N U now i v - N 4); omega, by show 0 + 7 + (N 4 + N 4 / 2 + 10) ≤ (17 + 2 * B) * (n_X7_sell N U now i v - N 4); rw [hN2]; omega⟩ rfl (Nat.le_of_ble_eq_true rfl) rfl dX7_sell_98 (fun r_98 M2 H locs hq hM => ?_)
        obtain ⟨hq1, ar1, cap1, g1, b1, b2, b3, b4, b5, b6⟩ := hq
        have hL2 := hL.add hq0 rfl (by omega) b1 b2 b3 b5 b6
        have hF2 : Fr t M M2 := hL.addFr hq0 b6
        obtain ⟨Z2, eZ2⟩ : ∃ z, z = zu Z (N 4) (Z.2.2.2.1 + 1) ar1 cap1 g1 q := ⟨_, rfl⟩
        have z2 : ∀ k i, k ≠ 4 → Z2.2.1 k i = Z.2.1 k i := fun k i hk => by rw [eZ2]; exact if_neg (fun z => hk z.1)
        rw [← eZ2, etk] at hL2
        have hr2_2 : M2 (Z.2.1 2 i) = some (t, (.inl (G.2.1 0, 10, .inl (rw10 (U 2 i 0) (U 2 i 1) (U 2 i 2) (U 2 i 3) (U 2 i 4) (U 2 i 5) (U 2 i 6) (U 2 i 7) (U 2 i 8) (U 2 i 9))))) := by have z := hL2.row (k := 2) (i := i) (by decide) hi; rw [z2 2 i (by decide)] at z; exact z
        have hr2_3 : M2 (Z.2.1 3 v) = some (t, (.inl (G.2.1 0, 6, .inl (rw6 (U 3 v 0) (U 3 v 1) (U 3 v 2) (U 3 v 3) (U 3 v 4) (U 3 v 5))))) := by have z := hL2.row (k := 3) (i := v) (by decide) hv; rw [z2 3 v (by decide)] at z; exact z
        refine lv_pop hx hb dX7_sell_103 rfl ?_
        refine lv_aload_n hx hb dX7_sell_104 rfl (lv_at hl 1 rfl) ?_
        refine fg_X7_11 hx hb hts hown hK hM (show M2 h0 = some (t, (.inr (8, [.ref (Z2.1 0), .ref (Z2.1 1), .ref (Z2.1 2), .ref (Z2.1 3), .ref Z2.2.2.1, .int now, .int (nI (N 0)), .int (nI (N 1)), .int (nI (N 2)), .int (nI (N 3))]))) from hL2.1) dX7_sell_105 ?_
        refine lv_aload_n hx hb dX7_sell_108 rfl (lv_at hl 2 rfl) ?_
        refine lv_iconst (v := (3 : Int32)) hx hb dX7_sell_109 (by decide) ?_
        refine ia10_3 hx hb hK hM hr2_2 dX7_sell_110 ?_
        refine g_aaldR hx hb hK hM (hL2.outer (k := 0) (by decide)) hld.1 (Nat.lt_of_lt_of_le hld.2 (hL.cnt (k := 0) (by decide))) dX7_sell_111 ?_
        have hr2_0 : M2 (Z2.2.1 0 (ix (U 2 i 3))) = some (t, (.inl (G.2.1 0, 11, .inl (rw11 (U 0 (ix (U 2 i 3)) 0) (U 0 (ix (U 2 i 3)) 1) (U 0 (ix (U 2 i 3)) 2) (U 0 (ix (U 2 i 3)) 3) (U 0 (ix (U 2 i 3)) 4) (U 0 (ix (U 2 i 3)) 5) (U 0 (ix (U 2 i 3)) 6) (U 0 (ix (U 2 i 3)) 7) (U 0 (ix (U 2 i 3)) 8) (U 0 (ix (U 2 i 3)) 9) (U 0 (ix (U 2 i 3)) 10))))) := (hL2.row (k := 0) (by decide) (Nat.lt_of_lt_of_le hld.2 (hL.cnt (k := 0) (by decide))))
        refine lv_bipush (v := (8 : Int32)) hx hb dX7_sell_112 (by decide) ?_
        refine lv_dup2_11 hx hb dX7_sell_114 rfl rfl ?_
        refine ia11_8 hx hb hK hM hr2_0 dX7_sell_115 ?_
        refine lv_aload_n hx hb dX7_sell_116 rfl (lv_at hl 2 rfl) ?_
        refine lv_iconst (v := (2 : Int32)) hx hb dX7_sell_117 (by decide) ?_
        refine ia10_2 hx hb hK hM hr2_2 dX7_sell_118 ?_
        refine lv_iadd hx hb dX7_sell_119 ?_
        refine is11_8 hx hb hK hM hr2_0 dX7_sell_120 (fun H locs hM => ?_)
        refine lv_aload_n hx hb dX7_sell_121 rfl (lv_at hl 3 rfl) ?_
        refine lv_iconst (v := (3 : Int32)) hx hb dX7_sell_122 (by decide) ?_
        refine lv_dup2_11 hx hb dX7_sell_123 rfl rfl ?_
        refine ia6_3 hx hb hK hM (hu_n (by rw [← z2 3 v (by decide)]; exact hL2.rne (by decide) (by decide) hv (Nat.lt_of_lt_of_le hld.2 (hL.cnt (k := 0) (by decide))) (by decide)) hr2_3) dX7_sell_124 ?_
        refine lv_aload_n hx hb dX7_sell_125 rfl (lv_at hl 2 rfl) ?_
        refine lv_iconst (v := (2 : Int32)) hx hb dX7_sell_126 (by decide) ?_
        refine ia10_2 hx hb hK hM (hu_n (by rw [← z2 2 i (by decide)]; exact hL2.rne (by decide) (by decide) hi (Nat.lt_of_lt_of_le hld.2 (hL.cnt (k := 0) (by decide))) (by decide)) hr2_2) dX7_sell_127 ?_
        refine lv_isub hx hb dX7_sell_128 ?_
        refine is6_3 hx hb hK hM (hu_n (by rw [← z2 3 v (by decide)]; exact hL2.rne (by decide) (by decide) hv (Nat.lt_of_lt_of_le hld.2 (hL.cnt (k := 0) (by decide))) (by decide)) hr2_3) dX7_sell_129 (fun H locs hM => ?_)
        refine lv_aload_n hx hb dX7_sell_130 rfl (lv_at hl 2 rfl) ?_
        refine lv_iconst (v := (2 : Int32)) hx hb dX7_sell_131 (by decide) ?_
        refine lv_iconst (v := (0 : Int32)) hx hb dX7_sell_132 (by decide) ?_
        refine is10_2 hx hb hK hM (hu_n (by rw [← z2 2 i (by decide)]; rw [← z2 3 v (by decide)]; exact hL2.rne (by decide) (by decide) hi hv (by decide)) (hu_n (by rw [← z2 2 i (by decide)]; exact hL2.rne (by decide) (by decide) hi (Nat.lt_of_lt_of_le hld.2 (hL.cnt (k := 0) (by decide))) (by decide)) hr2_2)) dX7_sell_133 (fun H locs hM => ?_)
        obtain ⟨M3, eM3⟩ : ∃ z, z = hu M2 (Z2.2.1 0 (ix (U 2 i 3))) t (.inl (G.2.1 0, 11, .inl (rw11 (U 0 (ix (U 2 i 3)) 0) (U 0 (ix (U 2 i 3)) 1) (U 0 (ix (U 2 i 3)) 2) (U 0 (ix (U 2 i 3)) 3) (U 0 (ix (U 2 i 3)) 4) (U 0 (ix (U 2 i 3)) 5) (U 0 (ix (U 2 i 3)) 6) (U 0 (ix (U 2 i 3)) 7) ((U 0 (ix (U 2 i 3)) 8) + (U 2 i 2)) (U 0 (ix (U 2 i 3)) 9) (U 0 (ix (U 2 i 3)) 10)))) := ⟨_, rfl⟩
        rw [← eM3] at hM
        have hL3 : MdR G M3 t h0 Z2 (nu N 4 (N 4 + 1)) (tu (tu U 4 (N 4) (rw7 (U 2 i 3) (U 2 i 2) (U 2 i 4) ((2 : Int32) * (mx (0 : Int32) ((U 2 i 4) - (U 3 v 4)))) (U 2 i 7) now (0 : Int32))) 0 (ix (U 2 i 3)) (rw11 (U 0 (ix (U 2 i 3)) 0) (U 0 (ix (U 2 i 3)) 1) (U 0 (ix (U 2 i 3)) 2) (U 0 (ix (U 2 i 3)) 3) (U 0 (ix (U 2 i 3)) 4) (U 0 (ix (U 2 i 3)) 5) (U 0 (ix (U 2 i 3)) 6) (U 0 (ix (U 2 i 3)) 7) ((U 0 (ix (U 2 i 3)) 8) + (U 2 i 2)) (U 0 (ix (U 2 i 3)) 9) (U 0 (ix (U 2 i 3)) 10))) now := by rw [eM3]; exact hL2.setRow (k := 0) (by decide) (Nat.lt_of_lt_of_le hld.2 (hL.cnt (k := 0) (by decide))) (rw11 (U 0 (ix (U 2 i 3)) 0) (U 0 (ix (U 2 i 3)) 1) (U 0 (ix (U 2 i 3)) 2) (U 0 (ix (U 2 i 3)) 3) (U 0 (ix (U 2 i 3)) 4) (U 0 (ix (U 2 i 3)) 5) (U 0 (ix (U 2 i 3)) 6) (U 0 (ix (U 2 i 3)) 7) ((U 0 (ix (U 2 i 3)) 8) + (U 2 i 2)) (U 0 (ix (U 2 i 3)) 9) (U 0 (ix (U 2 i 3)) 10))
        have hF3 : Fr t M M3 := by rw [eM3]; exact Fr.tr hF2 (Fr.up hr2_0)
        have hr3_2 : M3 (Z.2.1 2 i) = some (t, (.inl (G.2.1 0, 10, .inl (rw10 (U 2 i 0) (U 2 i 1) (U 2 i 2) (U 2 i 3) (U 2 i 4) (U 2 i 5) (U 2 i 6) (U 2 i 7) (U 2 i 8) (U 2 i 9))))) := by rw [eM3]; exact hu_n (by rw [← z2 2 i (by decide)]; exact hL2.rne (by decide) (by decide) hi (Nat.lt_of_lt_of_le hld.2 (hL.cnt (k := 0) (by decide))) (by decide)) hr2_2
        have hr3_3 : M3 (Z.2.1 3 v) = some (t, (.inl (G.2.1 0, 6, .inl (rw6 (U 3 v 0) (U 3 v 1) (U 3 v 2) (U 3 v 3) (U 3 v 4) (U 3 v 5))))) := by rw [eM3]; exact hu_n (by rw [← z2 3 v (by decide)]; exact hL2.rne (by decide) (by decide) hv (Nat.lt_of_lt_of_le hld.2 (hL.cnt (k := 0) (by decide))) (by decide)) hr2_3
        have hr3_0 : M3 (Z2.2.1 0 (ix (U 2 i 3))) = some (t, (.inl (G.2.1 0, 11, .inl (rw11 (U 0 (ix (U 2 i 3)) 0) (U 0 (ix (U 2 i 3)) 1) (U 0 (ix (U 2 i 3)) 2) (U 0 (ix (U 2 i 3)) 3) (U 0 (ix (U 2 i 3)) 4) (U 0 (ix (U 2 i 3)) 5) (U 0 (ix (U 2 i 3)) 6) (U 0 (ix (U 2 i 3)) 7) ((U 0 (ix (U 2 i 3)) 8) + (U 2 i 2)) (U 0 (ix (U 2 i 3)) 9) (U 0 (ix (U 2 i 3)) 10))))) := by rw [eM3]; exact hu_s
        obtain ⟨M4, eM4⟩ : ∃ z, z = hu M3 (Z.2.1 3 v) t (.inl (G.2.1 0, 6, .inl (rw6 (U 3 v 0) (U 3 v 1) (U 3 v 2) ((U 3 v 3) - (U 2 i 2)) (U 3 v 4) (U 3 v 5)))) := ⟨_, rfl⟩
        rw [← eM4] at hM
        have hL4 : MdR G M4 t h0 Z2 (nu N 4 (N 4 + 1)) (tu (tu (tu U 4 (N 4) (rw7 (U 2 i 3) (U 2 i 2) (U 2 i 4) ((2 : Int32) * (mx (0 : Int32) ((U 2 i 4) - (U 3 v 4)))) (U 2 i 7) now (0 : Int32))) 0 (ix (U 2 i 3)) (rw11 (U 0 (ix (U 2 i 3)) 0) (U 0 (ix (U 2 i 3)) 1) (U 0 (ix (U 2 i 3)) 2) (U 0 (ix (U 2 i 3)) 3) (U 0 (ix (U 2 i 3)) 4) (U 0 (ix (U 2 i 3)) 5) (U 0 (ix (U 2 i 3)) 6) (U 0 (ix (U 2 i 3)) 7) ((U 0 (ix (U 2 i 3)) 8) + (U 2 i 2)) (U 0 (ix (U 2 i 3)) 9) (U 0 (ix (U 2 i 3)) 10))) 3 v (rw6 (U 3 v 0) (U 3 v 1) (U 3 v 2) ((U 3 v 3) - (U 2 i 2)) (U 3 v 4) (U 3 v 5))) now := by rw [eM4]; rw [← z2 3 v (by decide)]; exact hL3.setRow (k := 3) (by decide) hv (rw6 (U 3 v 0) (U 3 v 1) (U 3 v 2) ((U 3 v 3) - (U 2 i 2)) (U 3 v 4) (U 3 v 5))
        have hF4 : Fr t M M4 := by rw [eM4]; exact Fr.tr hF3 (Fr.up hr3_3)
        have hr4_2 : M4 (Z.2.1 2 i) = some (t, (.inl (G.2.1 0, 10, .inl (rw10 (U 2 i 0) (U 2 i 1) (U 2 i 2) (U 2 i 3) (U 2 i 4) (U 2 i 5) (U 2 i 6) (U 2 i 7) (U 2 i 8) (U 2 i 9))))) := by rw [eM4]; exact hu_n (by rw [← z2 2 i (by decide)]; rw [← z2 3 v (by decide)]; exact hL3.rne (by decide) (by decide) hi hv (by decide)) hr3_2
        have hr4_3 : M4 (Z.2.1 3 v) = some (t, (.inl (G.2.1 0, 6, .inl (rw6 (U 3 v 0) (U 3 v 1) (U 3 v 2) ((U 3 v 3) - (U 2 i 2)) (U 3 v 4) (U 3 v 5))))) := by rw [eM4]; exact hu_s
        have hr4_0 : M4 (Z2.2.1 0 (ix (U 2 i 3))) = some (t, (.inl (G.2.1 0, 11, .inl (rw11 (U 0 (ix (U 2 i 3)) 0) (U 0 (ix (U 2 i 3)) 1) (U 0 (ix (U 2 i 3)) 2) (U 0 (ix (U 2 i 3)) 3) (U 0 (ix (U 2 i 3)) 4) (U 0 (ix (U 2 i 3)) 5) (U 0 (ix (U 2 i 3)) 6) (U 0 (ix (U 2 i 3)) 7) ((U 0 (ix (U 2 i 3)) 8) + (U 2 i 2)) (U 0 (ix (U 2 i 3)) 9) (U 0 (ix (U 2 i 3)) 10))))) := by rw [eM4]; exact hu_n (by rw [← z2 3 v (by decide)]; exact hL3.rne (by decide) (by decide) (Nat.lt_of_lt_of_le hld.2 (hL.cnt (k := 0) (by decide))) hv (by decide)) hr3_0
        obtain ⟨M5, eM5⟩ : ∃ z, z = hu M4 (Z.2.1 2 i) t (.inl (G.2.1 0, 10, .inl (rw10 (U 2 i 0) (U 2 i 1) (0 : Int32) (U 2 i 3) (U 2 i 4) (U 2 i 5) (U 2 i 6) (U 2 i 7) (U 2 i 8) (U 2 i 9)))) := ⟨_, rfl⟩
        rw [← eM5] at hM
        have hL5 : MdR G M5 t h0 Z2 (nu N 4 (N 4 + 1)) (tu (tu (tu (tu U 4 (N 4) (rw7 (U 2 i 3) (U 2 i 2) (U 2 i 4) ((2 : Int32) * (mx (0 : Int32) ((U 2 i 4) - (U 3 v 4)))) (U 2 i 7) now (0 : Int32))) 0 (ix (U 2 i 3)) (rw11 (U 0 (ix (U 2 i 3)) 0) (U 0 (ix (U 2 i 3)) 1) (U 0 (ix (U 2 i 3)) 2) (U 0 (ix (U 2 i 3)) 3) (U 0 (ix (U 2 i 3)) 4) (U 0 (ix (U 2 i 3)) 5) (U 0 (ix (U 2 i 3)) 6) (U 0 (ix (U 2 i 3)) 7) ((U 0 (ix (U 2 i 3)) 8) + (U 2 i 2)) (U 0 (ix (U 2 i 3)) 9) (U 0 (ix (U 2 i 3)) 10))) 3 v (rw6 (U 3 v 0) (U 3 v 1) (U 3 v 2) ((U 3 v 3) - (U 2 i 2)) (U 3 v 4) (U 3 v 5))) 2 i (rw10 (U 2 i 0) (U 2 i 1) (0 : Int32) (U 2 i 3) (U 2 i 4) (U 2 i 5) (U 2 i 6) (U 2 i 7) (U 2 i 8) (U 2 i 9))) now := by rw [eM5]; rw [← z2 2 i (by decide)]; exact hL4.setRow (k := 2) (by decide) hi (rw10 (U 2 i 0) (U 2 i 1) (0 : Int32) (U 2 i 3) (U 2 i 4) (U 2 i 5) (U 2 i 6) (U 2 i 7) (U 2 i 8) (U 2 i 9))
        have hF5 : Fr t M M5 := by rw [eM5]; exact Fr.tr hF4 (Fr.up hr4_2)
        have hr5_2 : M5 (Z.2.1 2 i) = some (t, (.inl (G.2.1 0, 10, .inl (rw10 (U 2 i 0) (U 2 i 1) (0 : Int32) (U 2 i 3) (U 2 i 4) (U 2 i 5) (U 2 i 6) (U 2 i 7) (U 2 i 8) (U 2 i 9))))) := by rw [eM5]; exact hu_s
        have hr5_3 : M5 (Z.2.1 3 v) = some (t, (.inl (G.2.1 0, 6, .inl (rw6 (U 3 v 0) (U 3 v 1) (U 3 v 2) ((U 3 v 3) - (U 2 i 2)) (U 3 v 4) (U 3 v 5))))) := by rw [eM5]; exact hu_n (by rw [← z2 3 v (by decide)]; rw [← z2 2 i (by decide)]; exact hL4.rne (by decide) (by decide) hv hi (by decide)) hr4_3
        have hr5_0 : M5 (Z2.2.1 0 (ix (U 2 i 3))) = some (t, (.inl (G.2.1 0, 11, .inl (rw11 (U 0 (ix (U 2 i 3)) 0) (U 0 (ix (U 2 i 3)) 1) (U 0 (ix (U 2 i 3)) 2) (U 0 (ix (U 2 i 3)) 3) (U 0 (ix (U 2 i 3)) 4) (U 0 (ix (U 2 i 3)) 5) (U 0 (ix (U 2 i 3)) 6) (U 0 (ix (U 2 i 3)) 7) ((U 0 (ix (U 2 i 3)) 8) + (U 2 i 2)) (U 0 (ix (U 2 i 3)) 9) (U 0 (ix (U 2 i 3)) 10))))) := by rw [eM5]; exact hu_n (by rw [← z2 2 i (by decide)]; exact hL4.rne (by decide) (by decide) (Nat.lt_of_lt_of_le hld.2 (hL.cnt (k := 0) (by decide))) hi (by decide)) hr4_0
        exact g_vret hx hb hr hlocks hM (by show 0 + 1 + 1 ≤ 2 * (n_X7_sell N U now i v - N 4); omega) (by show 0 + 7 + (N 4 + N 4 / 2 + 10) ≤ (17 + 2 * B) * (n_X7_sell N U now i v - N 4); rw [hN2]; omega) ⟨Z2, (by rw [show n_X7_sell N U now i v = (N 4 + 1) from by unfold n_X7_sell; rw [if_neg c1, if_neg c2, if_pos c3]]; unfold u_X7_sell; rw [if_neg c1, if_neg c2, if_pos c3]; exact hL5), hF5⟩ dX7_sell_134
      · refine lv_aload_n hx hb dX7_sell_26 rfl (lv_at hl 1 rfl) ?_
        refine lv_bipush (v := (8 : Int32)) hx hb dX7_sell_27 (by decide) ?_
        refine lv_dup2_11 hx hb dX7_sell_29 rfl rfl ?_
        refine ia10_8 hx hb hK hM (hL.row (k := 2) (by decide) hi) dX7_sell_30 ?_
        refine lv_iconst (v := (1 : Int32)) hx hb dX7_sell_31 (by decide) ?_
        refine lv_iadd hx hb dX7_sell_32 ?_
        refine is10_8 hx hb hK hM (hL.row (k := 2) (by decide) hi) dX7_sell_33 (fun H locs hM => ?_)
        obtain ⟨M1, eM1⟩ : ∃ z, z = hu M (Z.2.1 2 i) t (.inl (G.2.1 0, 10, .inl (rw10 (U 2 i 0) (U 2 i 1) (U 2 i 2) (U 2 i 3) (U 2 i 4) (U 2 i 5) (U 2 i 6) (U 2 i 7) ((U 2 i 8) + (1 : Int32)) (U 2 i 9)))) := ⟨_, rfl⟩
        rw [← eM1] at hM
        have hL1 : MdR G M1 t h0 Z N (tu U 2 i (rw10 (U 2 i 0) (U 2 i 1) (U 2 i 2) (U 2 i 3) (U 2 i 4) (U 2 i 5) (U 2 i 6) (U 2 i 7) ((U 2 i 8) + (1 : Int32)) (U 2 i 9))) now := by rw [eM1]; exact hL.setRow (k := 2) (by decide) hi (rw10 (U 2 i 0) (U 2 i 1) (U 2 i 2) (U 2 i 3) (U 2 i 4) (U 2 i 5) (U 2 i 6) (U 2 i 7) ((U 2 i 8) + (1 : Int32)) (U 2 i 9))
        have hF1 : Fr t M M1 := by rw [eM1]; exact Fr.tr Fr.rf (Fr.up (hL.row (k := 2) (by decide) hi))
        have hr1_2 : M1 (Z.2.1 2 i) = some (t, (.inl (G.2.1 0, 10, .inl (rw10 (U 2 i 0) (U 2 i 1) (U 2 i 2) (U 2 i 3) (U 2 i 4) (U 2 i 5) (U 2 i 6) (U 2 i 7) ((U 2 i 8) + (1 : Int32)) (U 2 i 9))))) := by rw [eM1]; exact hu_s
        have hr1_3 : M1 (Z.2.1 3 v) = some (t, (.inl (G.2.1 0, 6, .inl (rw6 (U 3 v 0) (U 3 v 1) (U 3 v 2) (U 3 v 3) (U 3 v 4) (U 3 v 5))))) := by rw [eM1]; exact hu_n (hL.rne (by decide) (by decide) hv hi (by decide)) (hL.row (k := 3) (by decide) hv)
        exact g_vret hx hb hr hlocks hM (Nat.zero_le _) (Nat.zero_le _) ⟨Z, (by rw [show n_X7_sell N U now i v = (N 4) from by unfold n_X7_sell; rw [if_neg c1, if_neg c2, if_neg c3], nu_i]; unfold u_X7_sell; rw [if_neg c1, if_neg c2, if_neg c3]; exact hL1), hF1⟩ dX7_sell_34
def u_X7_drive (N : Nat → Nat) (U : Tb) (now : Int32) (i : Nat) : Tb := if (10 : Int32) ≤ (U 2 i 5) then (if ((U 2 i 6) + (1 : Int32)) = (8 : Int32) then (tu U 2 i (rw10 (U 2 i 0) (U 2 i 1) (U 2 i 2) (U 2 i 3) (U 2 i 4) (0 : Int32) (0 : Int32) (U 2 i 7) (U 2 i 8) (U 2 i 9))) else (tu U 2 i (rw10 (U 2 i 0) (U 2 i 1) (U 2 i 2) (U 2 i 3) (U 2 i 4) (U 2 i 5) ((U 2 i 6) + (1 : Int32)) (U 2 i 7) (U 2 i 8) (U 2 i 9)))) else (if (U 2 i 0) = 0 then (if (U 2 i 5) ≤ 0 then U else (if ((U 2 i 6) + (1 : Int32)) = (8 : Int32) then (tu U 2 i (rw10 (U 2 i 0) (U 2 i 1) (U 2 i 2) (U 2 i 3) (U 2 i 4) (0 : Int32) (0 : Int32) (U 2 i 7) (U 2 i 8) (U 2 i 9))) else (tu U 2 i (rw10 (U 2 i 0) (U 2 i 1) (U 2 i 2) (U 2 i 3) (U 2 i 4) (U 2 i 5) ((U 2 i 6) + (1 : Int32)) (U 2 i 7) (U 2 i 8) (U 2 i 9))))) else (if (U 2 i 0) = (1 : Int32) then (if (U 2 i 1) = (U 1 (ix (U 2 i 7)) 1) then (tu (tu U 2 i (rw10 (U 2 i 0) (U 2 i 1) (t_X7_load_0 (U 2 i 2) (U 2 i 3) (U 1 (ix (U 2 i 7)) 2) (U 1 (ix (U 2 i 7)) 3)) (t_X7_load_1 (U 2 i 2) (U 2 i 3) (U 1 (ix (U 2 i 7)) 2) (U 1 (ix (U 2 i 7)) 3)) (t_X7_load_2 (U 2 i 2) (U 2 i 3) (U 2 i 4) (U 1 (ix (U 2 i 7)) 2) (U 1 (ix (U 2 i 7)) 3) (U 1 (ix (U 2 i 7)) 4)) (U 2 i 5) (U 2 i 6) (U 2 i 7) (U 2 i 8) (U 2 i 9))) 1 (ix (U 2 i 7)) (rw11 (U 1 (ix (U 2 i 7)) 0) (U 1 (ix (U 2 i 7)) 1) (t_X7_load_3 (U 2 i 2) (U 2 i 3) (U 1 (ix (U 2 i 7)) 2) (U 1 (ix (U 2 i 7)) 3)) (U 1 (ix (U 2 i 7)) 3) (U 1 (ix (U 2 i 7)) 4) (U 1 (ix (U 2 i 7)) 5) (U 1 (ix (U 2 i 7)) 6) (U 1 (ix (U 2 i 7)) 7) (U 1 (ix (U 2 i 7)) 8) (U 1 (ix (U 2 i 7)) 9) (U 1 (ix (U 2 i 7)) 10))) else (tu U 2 i (rw10 (U 2 i 0) (t_X7_towardsT_0 (U 2 i 1) (U 1 (ix (U 2 i 7)) 1) (50 : Int32)) (U 2 i 2) (U 2 i 3) (U 2 i 4) ((U 2 i 5) + (1 : Int32)) (0 : Int32) (U 2 i 7) (U 2 i 8) ((U 2 i 9) + (ab ((t_X7_towardsT_0 (U 2 i 1) (U 1 (ix (U 2 i 7)) 1) (50 : Int32)) - (U 2 i 1))))))) else (if (U 2 i 1) = (U 3 (ix (U 2 i 7)) 1) then (if (U 2 i 2) ≤ 0 then U else (u_X7_sell N U now i (ix (U 2 i 7)))) else (tu U 2 i (rw10 (U 2 i 0) (t_X7_towardsT_0 (U 2 i 1) (U 3 (ix (U 2 i 7)) 1) (50 : Int32)) (U 2 i 2) (U 2 i 3) (U 2 i 4) ((U 2 i 5) + (1 : Int32)) (0 : Int32) (U 2 i 7) (U 2 i 8) ((U 2 i 9) + (ab ((t_X7_towardsT_0 (U 2 i 1) (U 3 (ix (U 2 i 7)) 1) (50 : Int32)) - (U 2 i 1)))))))))
def n_X7_drive (N : Nat → Nat) (U : Tb) (now : Int32) (i : Nat) : Nat := if (10 : Int32) ≤ (U 2 i 5) then (N 4) else (if (U 2 i 0) = 0 then (N 4) else (if (U 2 i 0) = (1 : Int32) then (N 4) else (if (U 2 i 1) = (U 3 (ix (U 2 i 7)) 1) then (if (U 2 i 2) ≤ 0 then (N 4) else (n_X7_sell N U now i (ix (U 2 i 7)))) else (N 4))))
set_option maxHeartbeats 4000000 in
set_option maxRecDepth 100000 in
theorem c_X7_drive (l : Launch) (G : GG) (M : HM) (t h0 : Nat) (Z : LZ) (N : Nat → Nat) (U : Tb) (now : Int32) (i : Nat) (hL : MdR G M t h0 Z N U now) (hi : i < lmR N 2) (hk1 : U 2 i 0 = (1 : Int32) → ¬ U 2 i 7 < 0 ∧ ix (U 2 i 7) < N 1) (hk2 : ¬ U 2 i 0 = 0 → ¬ U 2 i 0 = (1 : Int32) → ¬ U 2 i 7 < 0 ∧ ix (U 2 i 7) < N 3) (hld : 0 < U 2 i 2 → ¬ U 2 i 3 < 0 ∧ ix (U 2 i 3) < N 0) (hN4 : N 4 < 600) (B : Nat) (hB : n_X7_drive N U now i ≤ B) : Mv l yX7_drive (.code yX7_drive cX7_drive 4 none :: AL) 8 194 (2 * (n_X7_drive N U now i - N 4)) ((17 + 2 * B) * (n_X7_drive N U now i - N 4)) [.ref h0, .ref (Z.2.1 2 i)] G M (fun M' => ∃ Z', MdR G M' t h0 Z' (nu N 4 (n_X7_drive N U now i)) (u_X7_drive N U now i) now ∧ Fr t M M') := by
  refine Mv.go (by decide) (Nat.le_of_ble_eq_true rfl) ?_
  intro p e s m below meth c ls hx hb hr hml hown hlocks hname hts hK hM hl
  have hown : s.vm.findClass RX7 = some m.cls := hown
  have hl : lv_has ls 4 [(0, .ref h0), (1, .ref (Z.2.1 2 i))] := hl
  refine lv_aload_n hx hb dX7_drive_0 rfl (lv_at hl 1 rfl) ?_
  refine lv_iconst (v := (5 : Int32)) hx hb dX7_drive_1 (by decide) ?_
  refine ia10_5 hx hb hK hM (hL.row (k := 2) (by decide) hi) dX7_drive_2 ?_
  refine lv_bipush (v := (10 : Int32)) hx hb dX7_drive_3 (by decide) ?_
  refine lv_icmp_ge (tgt := 20) hx hb dX7_drive_5 (by decide) (fun c1 => ?_) (fun c1 => ?_)
  · refine lv_aload_n hx hb dX7_drive_20 rfl (lv_at hl 1 rfl) ?_
    refine lv_bipush (v := (6 : Int32)) hx hb dX7_drive_21 (by decide) ?_
    refine lv_dup2_11 hx hb dX7_drive_23 rfl rfl ?_
    refine ia10_6 hx hb hK hM (hL.row (k := 2) (by decide) hi) dX7_drive_24 ?_
    refine lv_iconst (v := (1 : Int32)) hx hb dX7_drive_25 (by decide) ?_
    refine lv_iadd hx hb dX7_drive_26 ?_
    refine lv_dup_x2 hx hb dX7_drive_27 rfl rfl rfl ?_
    refine is10_6 hx hb hK hM (hL.row (k := 2) (by decide) hi) dX7_drive_28 (fun H locs hM => ?_)
    refine lv_bipush (v := (8 : Int32)) hx hb dX7_drive_29 (by decide) ?_
    refine lv_icmp_ne (tgt := 43) hx hb dX7_drive_31 (by decide) (fun c2 => ?_) (fun c2 => ?_)
    · obtain ⟨M1, eM1⟩ : ∃ z, z = hu M (Z.2.1 2 i) t (.inl (G.2.1 0, 10, .inl (rw10 (U 2 i 0) (U 2 i 1) (U 2 i 2) (U 2 i 3) (U 2 i 4) (U 2 i 5) ((U 2 i 6) + (1 : Int32)) (U 2 i 7) (U 2 i 8) (U 2 i 9)))) := ⟨_, rfl⟩
      rw [← eM1] at hM
      have hL1 : MdR G M1 t h0 Z N (tu U 2 i (rw10 (U 2 i 0) (U 2 i 1) (U 2 i 2) (U 2 i 3) (U 2 i 4) (U 2 i 5) ((U 2 i 6) + (1 : Int32)) (U 2 i 7) (U 2 i 8) (U 2 i 9))) now := by rw [eM1]; exact hL.setRow (k := 2) (by decide) hi (rw10 (U 2 i 0) (U 2 i 1) (U 2 i 2) (U 2 i 3) (U 2 i 4) (U 2 i 5) ((U 2 i 6) + (1 : Int32)) (U 2 i 7) (U 2 i 8) (U 2 i 9))
      have hF1 : Fr t M M1 := by rw [eM1]; exact Fr.tr Fr.rf (Fr.up (hL.row (k := 2) (by decide) hi))
      have hr1_2 : M1 (Z.2.1 2 i) = some (t, (.inl (G.2.1 0, 10, .inl (rw10 (U 2 i 0) (U 2 i 1) (U 2 i 2) (U 2 i 3) (U 2 i 4) (U 2 i 5) ((U 2 i 6) + (1 : Int32)) (U 2 i 7) (U 2 i 8) (U 2 i 9))))) := by rw [eM1]; exact hu_s
      exact g_vret hx hb hr hlocks hM (Nat.zero_le _) (Nat.zero_le _) ⟨Z, (by rw [show n_X7_drive N U now i = (N 4) from by unfold n_X7_drive; rw [if_pos c1], nu_i]; unfold u_X7_drive; rw [if_pos c1, if_neg c2]; exact hL1), hF1⟩ dX7_drive_43
    · refine lv_aload_n hx hb dX7_drive_34 rfl (lv_at hl 1 rfl) ?_
      refine lv_iconst (v := (5 : Int32)) hx hb dX7_drive_35 (by decide) ?_
      refine lv_aload_n hx hb dX7_drive_36 rfl (lv_at hl 1 rfl) ?_
      refine lv_bipush (v := (6 : Int32)) hx hb dX7_drive_37 (by decide) ?_
      refine lv_iconst (v := (0 : Int32)) hx hb dX7_drive_39 (by decide) ?_
      refine lv_dup_x2 hx hb dX7_drive_40 rfl rfl rfl ?_
      refine is10_6 hx hb hK hM hu_s dX7_drive_41 (fun H locs hM => ?_)
      replace hM := hM.eq (hu_u _ _ _ _ _ _)
      refine is10_5 hx hb hK hM hu_s dX7_drive_42 (fun H locs hM => ?_)
      replace hM := hM.eq (hu_u _ _ _ _ _ _)
      obtain ⟨M1, eM1⟩ : ∃ z, z = hu M (Z.2.1 2 i) t (.inl (G.2.1 0, 10, .inl (rw10 (U 2 i 0) (U 2 i 1) (U 2 i 2) (U 2 i 3) (U 2 i 4) (0 : Int32) (0 : Int32) (U 2 i 7) (U 2 i 8) (U 2 i 9)))) := ⟨_, rfl⟩
      rw [← eM1] at hM
      have hL1 : MdR G M1 t h0 Z N (tu U 2 i (rw10 (U 2 i 0) (U 2 i 1) (U 2 i 2) (U 2 i 3) (U 2 i 4) (0 : Int32) (0 : Int32) (U 2 i 7) (U 2 i 8) (U 2 i 9))) now := by rw [eM1]; exact hL.setRow (k := 2) (by decide) hi (rw10 (U 2 i 0) (U 2 i 1) (U 2 i 2) (U 2 i 3) (U 2 i 4) (0 : Int32) (0 : Int32) (U 2 i 7) (U 2 i 8) (U 2 i 9))
      have hF1 : Fr t M M1 := by rw [eM1]; exact Fr.tr Fr.rf (Fr.up (hL.row (k := 2) (by decide) hi))
      have hr1_2 : M1 (Z.2.1 2 i) = some (t, (.inl (G.2.1 0, 10, .inl (rw10 (U 2 i 0) (U 2 i 1) (U 2 i 2) (U 2 i 3) (U 2 i 4) (0 : Int32) (0 : Int32) (U 2 i 7) (U 2 i 8) (U 2 i 9))))) := by rw [eM1]; exact hu_s
      exact g_vret hx hb hr hlocks hM (Nat.zero_le _) (Nat.zero_le _) ⟨Z, (by rw [show n_X7_drive N U now i = (N 4) from by unfold n_X7_drive; rw [if_pos c1], nu_i]; unfold u_X7_drive; rw [if_pos c1, if_pos c2]; exact hL1), hF1⟩ dX7_drive_43
  · refine lv_aload_n hx hb dX7_drive_8 rfl (lv_at hl 1 rfl) ?_
    refine lv_iconst (v := (0 : Int32)) hx hb dX7_drive_9 (by decide) ?_
    refine ia10_0 hx hb hK hM (hL.row (k := 2) (by decide) hi) dX7_drive_10 ?_
    refine lv_if_ne (tgt := 44) hx hb dX7_drive_11 (by decide) (fun c3 => ?_) (fun c3 => ?_)
    · refine lv_aload_n hx hb dX7_drive_44 rfl (lv_at hl 1 rfl) ?_
      refine lv_iconst (v := (0 : Int32)) hx hb dX7_drive_45 (by decide) ?_
      refine ia10_0 hx hb hK hM (hL.row (k := 2) (by decide) hi) dX7_drive_46 ?_
      refine lv_if_ne (tgt := 51) hx hb dX7_drive_47 (by decide) (fun c4 => ?_) (fun c4 => ?_)
      · refine lv_aload_n hx hb dX7_drive_51 rfl (lv_at hl 1 rfl) ?_
        refine lv_iconst (v := (0 : Int32)) hx hb dX7_drive_52 (by decide) ?_
        refine ia10_0 hx hb hK hM (hL.row (k := 2) (by decide) hi) dX7_drive_53 ?_
        refine lv_iconst (v := (1 : Int32)) hx hb dX7_drive_54 (by decide) ?_
        refine lv_icmp_ne (tgt := 72) hx hb dX7_drive_55 (by decide) (fun c5 => ?_) (fun c5 => ?_)
        · refine lv_aload_n hx hb dX7_drive_72 rfl (lv_at hl 0 rfl) ?_
          refine fg_X7_22 hx hb hts hown hK hM hL.1 dX7_drive_73 ?_
          refine lv_aload_n hx hb dX7_drive_76 rfl (lv_at hl 1 rfl) ?_
          refine lv_bipush (v := (7 : Int32)) hx hb dX7_drive_77 (by decide) ?_
          refine ia10_7 hx hb hK hM (hL.row (k := 2) (by decide) hi) dX7_drive_79 ?_
          have hg := hk2 c3 c5
          refine g_aaldR hx hb hK hM (hL.outer (k := 3) (by decide)) hg.1 (Nat.lt_of_lt_of_le hg.2 (hL.cnt (k := 3) (by decide))) dX7_drive_80 ?_
          refine lv_iconst (v := (1 : Int32)) hx hb dX7_drive_81 (by decide) ?_
          refine ia6_1 hx hb hK hM (hL.row (k := 3) (by decide) (Nat.lt_of_lt_of_le hg.2 (hL.cnt (k := 3) (by decide)))) dX7_drive_82 ?_
          refine lv_istore_n (lv' := [(2, .int (U 3 (ix (U 2 i 7)) 1)), (0, .ref h0), (1, .ref (Z.2.1 2 i))]) hx hb dX7_drive_83 rfl hl (by decide) rfl (fun ls hl => ?_)
          refine lv_aload_n hx hb dX7_drive_84 rfl (lv_at hl 2 rfl) ?_
          refine lv_iconst (v := (1 : Int32)) hx hb dX7_drive_85 (by decide) ?_
          refine ia10_1 hx hb hK hM (hL.row (k := 2) (by decide) hi) dX7_drive_86 ?_
          refine lv_iload_n hx hb dX7_drive_87 rfl (lv_at hl 0 rfl) ?_
          refine lv_icmp_eq (tgt := 132) hx hb dX7_drive_88 (by decide) (fun c6 => ?_) (fun c6 => ?_)
          · refine lv_aload_n hx hb dX7_drive_132 rfl (lv_at hl 2 rfl) ?_
            refine lv_iconst (v := (0 : Int32)) hx hb dX7_drive_133 (by decide) ?_
            refine ia10_0 hx hb hK hM (hL.row (k := 2) (by decide) hi) dX7_drive_134 ?_
            refine lv_iconst (v := (1 : Int32)) hx hb dX7_drive_135 (by decide) ?_
            refine lv_icmp_ne (tgt := 155) hx hb dX7_drive_136 (by decide) (fun c7 => ?_) (fun c7 => ?_)
            · refine lv_aload_n hx hb dX7_drive_155 rfl (lv_at hl 2 rfl) ?_
              refine lv_iconst (v := (2 : Int32)) hx hb dX7_drive_156 (by decide) ?_
              refine ia10_2 hx hb hK hM (hL.row (k := 2) (by decide) hi) dX7_drive_157 ?_
              refine lv_if_le (tgt := 175) hx hb dX7_drive_158 (by decide) (fun c8 => ?_) (fun c8 => ?_)
              · exact g_vret hx hb hr hlocks hM (Nat.zero_le _) (Nat.zero_le _) ⟨Z, (by rw [show n_X7_drive N U now i = (N 4) from by unfold n_X7_drive; rw [if_neg c1, if_neg c3, if_neg c5, if_pos c6, if_pos c8], nu_i]; unfold u_X7_drive; rw [if_neg c1, if_neg c3, if_neg c5, if_pos c6, if_pos c8]; exact hL), Fr.rf⟩ dX7_drive_175
              · refine lv_aload_n hx hb dX7_drive_161 rfl (lv_at hl 1 rfl) ?_
                refine lv_aload_n hx hb dX7_drive_162 rfl (lv_at hl 2 rfl) ?_
                refine lv_aload_n hx hb dX7_drive_163 rfl (lv_at hl 1 rfl) ?_
                refine fg_X7_22 hx hb hts hown hK hM hL.1 dX7_drive_164 ?_
                refine lv_aload_n hx hb dX7_drive_167 rfl (lv_at hl 2 rfl) ?_
                refine lv_bipush (v := (7 : Int32)) hx hb dX7_drive_168 (by decide) ?_
                refine ia10_7 hx hb hK hM (hL.row (k := 2) (by decide) hi) dX7_drive_170 ?_
                refine g_aaldR hx hb hK hM (hL.outer (k := 3) (by decide)) hg.1 (Nat.lt_of_lt_of_le hg.2 (hL.cnt (k := 3) (by decide))) dX7_drive_171 ?_
                have hNs : n_X7_drive N U now i = n_X7_sell N U now i (ix (U 2 i 7)) := (show n_X7_drive N U now i = (n_X7_sell N U now i (ix (U 2 i 7))) from by unfold n_X7_drive; rw [if_neg c1, if_neg c3, if_neg c5, if_pos c6, if_neg c8])
                refine g_callVv (n9 := 2) (As := [.ref (Z.2.1 2 i), .ref (Z.2.1 3 (ix (U 2 i 7)))]) (rest := []) hx hb hml hl.1 hown hts hK hM (c_X7_sell l G _ t h0 Z N U now i (ix (U 2 i 7)) hL hi (Nat.lt_of_lt_of_le hg.2 (hL.cnt (k := 3) (by decide))) (hld (Int32.not_le.mp c8)) hN4 B (by rw [← hNs]; exact hB)) wm_X7_101 wi_X7_sell wl_X7_sell wn_X7 wc_X7_sell (by decide +kernel) (hM.recv hK (ci := 8) rfl hL.1) ⟨Nat.le_of_ble_eq_true rfl, Nat.le_of_ble_eq_true rfl⟩ ⟨by rw [hNs]; exact Nat.le_of_eq (Nat.zero_add _), by rw [hNs]; exact Nat.le_of_eq (Nat.zero_add _)⟩ rfl (Nat.le_of_ble_eq_true rfl) rfl dX7_drive_172 (fun M7 H locs hq hM => ?_)
                obtain ⟨Z7, hL7, hF7⟩ := hq
                exact g_vret hx hb hr hlocks hM (by rw [hNs]; exact Nat.le_of_eq (Nat.zero_add _)) (by rw [hNs]; exact Nat.le_of_eq (Nat.zero_add _)) ⟨Z7, (by rw [show n_X7_drive N U now i = (n_X7_sell N U now i (ix (U 2 i 7))) from by unfold n_X7_drive; rw [if_neg c1, if_neg c3, if_neg c5, if_pos c6, if_neg c8]]; unfold u_X7_drive; rw [if_neg c1, if_neg c3, if_neg c5, if_pos c6, if_neg c8]; exact hL7), hF7⟩ dX7_drive_175
            · exact absurd c7 c5
          · refine lv_aload_n hx hb dX7_drive_91 rfl (lv_at hl 2 rfl) ?_
            refine lv_iconst (v := (1 : Int32)) hx hb dX7_drive_92 (by decide) ?_
            refine ia10_1 hx hb hK hM (hL.row (k := 2) (by decide) hi) dX7_drive_93 ?_
            refine lv_istore_n (lv' := [(3, .int (U 2 i 1)), (2, .int (U 3 (ix (U 2 i 7)) 1)), (0, .ref h0), (1, .ref (Z.2.1 2 i))]) hx hb dX7_drive_94 rfl hl (by decide) rfl (fun ls hl => ?_)
            refine lv_aload_n hx hb dX7_drive_95 rfl (lv_at hl 3 rfl) ?_
            refine lv_iload_n hx hb dX7_drive_96 rfl (lv_at hl 1 rfl) ?_
            refine lv_bipush (v := (50 : Int32)) hx hb dX7_drive_97 (by decide) ?_
            refine g_callSv (n9 := 3) (As := [.ref (Z.2.1 2 i), .int (U 3 (ix (U 2 i 7)) 1), .int (50 : Int32)]) (rest := []) hx hb hml hl.1 hown hts hK hM (c_X7_towardsT l G _ (Z.2.1 2 i) t (U 2 i 0) (U 2 i 1) (U 2 i 2) (U 2 i 3) (U 2 i 4) (U 2 i 5) (U 2 i 6) (U 2 i 7) (U 2 i 8) (U 2 i 9) (U 3 (ix (U 2 i 7)) 1) (50 : Int32) (hL.row (k := 2) (by decide) hi)) wm_X7_85 wt_X7_towards wn_X7 wc_X7_towards (by decide +kernel) ⟨Nat.le_of_ble_eq_true rfl, Nat.le_of_ble_eq_true rfl⟩ ⟨Nat.le_of_ble_eq_true rfl, Nat.le_of_ble_eq_true rfl⟩ rfl (Nat.le_of_ble_eq_true rfl) rfl dX7_drive_99 (fun M1 H locs hq hM => ?_)
            replace hq := hq.symm
            subst hq
            refine lv_aload_n hx hb dX7_drive_102 rfl (lv_at hl 3 rfl) ?_
            refine lv_bipush (v := (9 : Int32)) hx hb dX7_drive_103 (by decide) ?_
            refine lv_dup2_11 hx hb dX7_drive_105 rfl rfl ?_
            refine ia10_9 hx hb hK hM hu_s dX7_drive_106 ?_
            refine lv_aload_n hx hb dX7_drive_107 rfl (lv_at hl 3 rfl) ?_
            refine lv_iconst (v := (1 : Int32)) hx hb dX7_drive_108 (by decide) ?_
            refine ia10_1 hx hb hK hM hu_s dX7_drive_109 ?_
            refine lv_iload_n hx hb dX7_drive_110 rfl (lv_at hl 0 rfl) ?_
            refine lv_isub hx hb dX7_drive_111 ?_
            refine va_mabs hx hb (hml.trans hl.1.symm) hown (hts _ wm_X7_93) (hts _ wt_mabs) (hts _ wn_java_lang_Math) (hts _ wc_mabs) (Nat.le_of_ble_eq_true rfl) (Nat.le_of_ble_eq_true rfl) (Nat.zero_le _) (Nat.zero_le _) dX7_drive_112 ?_
            refine lv_iadd hx hb dX7_drive_115 ?_
            refine is10_9 hx hb hK hM hu_s dX7_drive_116 (fun H locs hM => ?_)
            replace hM := hM.eq (hu_u _ _ _ _ _ _)
            refine lv_aload_n hx hb dX7_drive_117 rfl (lv_at hl 3 rfl) ?_
            refine lv_iconst (v := (5 : Int32)) hx hb dX7_drive_118 (by decide) ?_
            refine lv_dup2_11 hx hb dX7_drive_119 rfl rfl ?_
            refine ia10_5 hx hb hK hM hu_s dX7_drive_120 ?_
            refine lv_iconst (v := (1 : Int32)) hx hb dX7_drive_121 (by decide) ?_
            refine lv_iadd hx hb dX7_drive_122 ?_
            refine is10_5 hx hb hK hM hu_s dX7_drive_123 (fun H locs hM => ?_)
            replace hM := hM.eq (hu_u _ _ _ _ _ _)
            refine lv_aload_n hx hb dX7_drive_124 rfl (lv_at hl 3 rfl) ?_
            refine lv_bipush (v := (6 : Int32)) hx hb dX7_drive_125 (by decide) ?_
            refine lv_iconst (v := (0 : Int32)) hx hb dX7_drive_127 (by decide) ?_
            refine is10_6 hx hb hK hM hu_s dX7_drive_128 (fun H locs hM => ?_)
            replace hM := hM.eq (hu_u _ _ _ _ _ _)
            refine lv_goto (tgt := 175) hx hb dX7_drive_129 (by decide) ?_
            obtain ⟨M1, eM1⟩ : ∃ z, z = hu M (Z.2.1 2 i) t (.inl (G.2.1 0, 10, .inl (rw10 (U 2 i 0) (t_X7_towardsT_0 (U 2 i 1) (U 3 (ix (U 2 i 7)) 1) (50 : Int32)) (U 2 i 2) (U 2 i 3) (U 2 i 4) ((U 2 i 5) + (1 : Int32)) (0 : Int32) (U 2 i 7) (U 2 i 8) ((U 2 i 9) + (ab ((t_X7_towardsT_0 (U 2 i 1) (U 3 (ix (U 2 i 7)) 1) (50 : Int32)) - (U 2 i 1))))))) := ⟨_, rfl⟩
            rw [← eM1] at hM
            have hL1 : MdR G M1 t h0 Z N (tu U 2 i (rw10 (U 2 i 0) (t_X7_towardsT_0 (U 2 i 1) (U 3 (ix (U 2 i 7)) 1) (50 : Int32)) (U 2 i 2) (U 2 i 3) (U 2 i 4) ((U 2 i 5) + (1 : Int32)) (0 : Int32) (U 2 i 7) (U 2 i 8) ((U 2 i 9) + (ab ((t_X7_towardsT_0 (U 2 i 1) (U 3 (ix (U 2 i 7)) 1) (50 : Int32)) - (U 2 i 1)))))) now := by rw [eM1]; exact hL.setRow (k := 2) (by decide) hi (rw10 (U 2 i 0) (t_X7_towardsT_0 (U 2 i 1) (U 3 (ix (U 2 i 7)) 1) (50 : Int32)) (U 2 i 2) (U 2 i 3) (U 2 i 4) ((U 2 i 5) + (1 : Int32)) (0 : Int32) (U 2 i 7) (U 2 i 8) ((U 2 i 9) + (ab ((t_X7_towardsT_0 (U 2 i 1) (U 3 (ix (U 2 i 7)) 1) (50 : Int32)) - (U 2 i 1)))))
            have hF1 : Fr t M M1 := by rw [eM1]; exact Fr.tr Fr.rf (Fr.up (hL.row (k := 2) (by decide) hi))
            have hr1_2 : M1 (Z.2.1 2 i) = some (t, (.inl (G.2.1 0, 10, .inl (rw10 (U 2 i 0) (t_X7_towardsT_0 (U 2 i 1) (U 3 (ix (U 2 i 7)) 1) (50 : Int32)) (U 2 i 2) (U 2 i 3) (U 2 i 4) ((U 2 i 5) + (1 : Int32)) (0 : Int32) (U 2 i 7) (U 2 i 8) ((U 2 i 9) + (ab ((t_X7_towardsT_0 (U 2 i 1) (U 3 (ix (U 2 i 7)) 1) (50 : Int32)) - (U 2 i 1)))))))) := by rw [eM1]; exact hu_s
            have hr1_3 : M1 (Z.2.1 3 (ix (U 2 i 7))) = some (t, (.inl (G.2.1 0, 6, .inl (rw6 (U 3 (ix (U 2 i 7)) 0) (U 3 (ix (U 2 i 7)) 1) (U 3 (ix (U 2 i 7)) 2) (U 3 (ix (U 2 i 7)) 3) (U 3 (ix (U 2 i 7)) 4) (U 3 (ix (U 2 i 7)) 5))))) := by rw [eM1]; exact hu_n (hL.rne (by decide) (by decide) (Nat.lt_of_lt_of_le hg.2 (hL.cnt (k := 3) (by decide))) hi (by decide)) (hL.row (k := 3) (by decide) (Nat.lt_of_lt_of_le hg.2 (hL.cnt (k := 3) (by decide))))
            exact g_vret hx hb hr hlocks hM (Nat.zero_le _) (Nat.zero_le _) ⟨Z, (by rw [show n_X7_drive N U now i = (N 4) from by unfold n_X7_drive; rw [if_neg c1, if_neg c3, if_neg c5, if_neg c6], nu_i]; unfold u_X7_drive; rw [if_neg c1, if_neg c3, if_neg c5, if_neg c6]; exact hL1), hF1⟩ dX7_drive_175
        · refine lv_aload_n hx hb dX7_drive_58 rfl (lv_at hl 0 rfl) ?_
          refine fg_X7_16 hx hb hts hown hK hM hL.1 dX7_drive_59 ?_
          refine lv_aload_n hx hb dX7_drive_62 rfl (lv_at hl 1 rfl) ?_
          refine lv_bipush (v := (7 : Int32)) hx hb dX7_drive_63 (by decide) ?_
          refine ia10_7 hx hb hK hM (hL.row (k := 2) (by decide) hi) dX7_drive_65 ?_
          have hg := hk1 c5
          refine g_aaldR hx hb hK hM (hL.outer (k := 1) (by decide)) hg.1 (Nat.lt_of_lt_of_le hg.2 (hL.cnt (k := 1) (by decide))) dX7_drive_66 ?_
          refine lv_iconst (v := (1 : Int32)) hx hb dX7_drive_67 (by decide) ?_
          refine ia11_1 hx hb hK hM (hL.row (k := 1) (by decide) (Nat.lt_of_lt_of_le hg.2 (hL.cnt (k := 1) (by decide)))) dX7_drive_68 ?_
          refine lv_goto (tgt := 83) hx hb dX7_drive_69 (by decide) ?_
          refine lv_istore_n (lv' := [(2, .int (U 1 (ix (U 2 i 7)) 1)), (0, .ref h0), (1, .ref (Z.2.1 2 i))]) hx hb dX7_drive_83 rfl hl (by decide) rfl (fun ls hl => ?_)
          refine lv_aload_n hx hb dX7_drive_84 rfl (lv_at hl 2 rfl) ?_
          refine lv_iconst (v := (1 : Int32)) hx hb dX7_drive_85 (by decide) ?_
          refine ia10_1 hx hb hK hM (hL.row (k := 2) (by decide) hi) dX7_drive_86 ?_
          refine lv_iload_n hx hb dX7_drive_87 rfl (lv_at hl 0 rfl) ?_
          refine lv_icmp_eq (tgt := 132) hx hb dX7_drive_88 (by decide) (fun c9 => ?_) (fun c9 => ?_)
          · refine lv_aload_n hx hb dX7_drive_132 rfl (lv_at hl 2 rfl) ?_
            refine lv_iconst (v := (0 : Int32)) hx hb dX7_drive_133 (by decide) ?_
            refine ia10_0 hx hb hK hM (hL.row (k := 2) (by decide) hi) dX7_drive_134 ?_
            refine lv_iconst (v := (1 : Int32)) hx hb dX7_drive_135 (by decide) ?_
            refine lv_icmp_ne (tgt := 155) hx hb dX7_drive_136 (by decide) (fun c10 => ?_) (fun c10 => ?_)
            · exact absurd c5 c10
            · refine lv_aload_n hx hb dX7_drive_139 rfl (lv_at hl 2 rfl) ?_
              refine lv_aload_n hx hb dX7_drive_140 rfl (lv_at hl 1 rfl) ?_
              refine fg_X7_16 hx hb hts hown hK hM hL.1 dX7_drive_141 ?_
              refine lv_aload_n hx hb dX7_drive_144 rfl (lv_at hl 2 rfl) ?_
              refine lv_bipush (v := (7 : Int32)) hx hb dX7_drive_145 (by decide) ?_
              refine ia10_7 hx hb hK hM (hL.row (k := 2) (by decide) hi) dX7_drive_147 ?_
              refine g_aaldR hx hb hK hM (hL.outer (k := 1) (by decide)) hg.1 (Nat.lt_of_lt_of_le hg.2 (hL.cnt (k := 1) (by decide))) dX7_drive_148 ?_
              refine g_callSv (n9 := 2) (As := [.ref (Z.2.1 2 i), .ref (Z.2.1 1 (ix (U 2 i 7)))]) (rest := []) hx hb hml hl.1 hown hts hK hM (c_X7_load l G _ (Z.2.1 2 i) t (Z.2.1 1 (ix (U 2 i 7))) t (U 2 i 0) (U 2 i 1) (U 2 i 2) (U 2 i 3) (U 2 i 4) (U 2 i 5) (U 2 i 6) (U 2 i 7) (U 2 i 8) (U 2 i 9) (U 1 (ix (U 2 i 7)) 0) (U 1 (ix (U 2 i 7)) 1) (U 1 (ix (U 2 i 7)) 2) (U 1 (ix (U 2 i 7)) 3) (U 1 (ix (U 2 i 7)) 4) (U 1 (ix (U 2 i 7)) 5) (U 1 (ix (U 2 i 7)) 6) (U 1 (ix (U 2 i 7)) 7) (U 1 (ix (U 2 i 7)) 8) (U 1 (ix (U 2 i 7)) 9) (U 1 (ix (U 2 i 7)) 10) (hL.row (k := 2) (by decide) hi) (hL.row (k := 1) (by decide) (Nat.lt_of_lt_of_le hg.2 (hL.cnt (k := 1) (by decide)))) (hL.rne (by decide) (by decide) hi (Nat.lt_of_lt_of_le hg.2 (hL.cnt (k := 1) (by decide))) (by decide))) wm_X7_97 wt_X7_load wn_X7 wc_X7_load (by decide +kernel) ⟨Nat.le_of_ble_eq_true rfl, Nat.le_of_ble_eq_true rfl⟩ ⟨Nat.le_of_ble_eq_true rfl, Nat.le_of_ble_eq_true rfl⟩ rfl (Nat.le_of_ble_eq_true rfl) rfl dX7_drive_149 (fun M1 H locs hq hM => ?_)
              replace hq := hq.symm
              subst hq
              refine lv_goto (tgt := 175) hx hb dX7_drive_152 (by decide) ?_
              obtain ⟨M1, eM1⟩ : ∃ z, z = hu M (Z.2.1 2 i) t (.inl (G.2.1 0, 10, .inl (rw10 (U 2 i 0) (U 2 i 1) (t_X7_load_0 (U 2 i 2) (U 2 i 3) (U 1 (ix (U 2 i 7)) 2) (U 1 (ix (U 2 i 7)) 3)) (t_X7_load_1 (U 2 i 2) (U 2 i 3) (U 1 (ix (U 2 i 7)) 2) (U 1 (ix (U 2 i 7)) 3)) (t_X7_load_2 (U 2 i 2) (U 2 i 3) (U 2 i 4) (U 1 (ix (U 2 i 7)) 2) (U 1 (ix (U 2 i 7)) 3) (U 1 (ix (U 2 i 7)) 4)) (U 2 i 5) (U 2 i 6) (U 2 i 7) (U 2 i 8) (U 2 i 9)))) := ⟨_, rfl⟩
              rw [← eM1] at hM
              have hL1 : MdR G M1 t h0 Z N (tu U 2 i (rw10 (U 2 i 0) (U 2 i 1) (t_X7_load_0 (U 2 i 2) (U 2 i 3) (U 1 (ix (U 2 i 7)) 2) (U 1 (ix (U 2 i 7)) 3)) (t_X7_load_1 (U 2 i 2) (U 2 i 3) (U 1 (ix (U 2 i 7)) 2) (U 1 (ix (U 2 i 7)) 3)) (t_X7_load_2 (U 2 i 2) (U 2 i 3) (U 2 i 4) (U 1 (ix (U 2 i 7)) 2) (U 1 (ix (U 2 i 7)) 3) (U 1 (ix (U 2 i 7)) 4)) (U 2 i 5) (U 2 i 6) (U 2 i 7) (U 2 i 8) (U 2 i 9))) now := by rw [eM1]; exact hL.setRow (k := 2) (by decide) hi (rw10 (U 2 i 0) (U 2 i 1) (t_X7_load_0 (U 2 i 2) (U 2 i 3) (U 1 (ix (U 2 i 7)) 2) (U 1 (ix (U 2 i 7)) 3)) (t_X7_load_1 (U 2 i 2) (U 2 i 3) (U 1 (ix (U 2 i 7)) 2) (U 1 (ix (U 2 i 7)) 3)) (t_X7_load_2 (U 2 i 2) (U 2 i 3) (U 2 i 4) (U 1 (ix (U 2 i 7)) 2) (U 1 (ix (U 2 i 7)) 3) (U 1 (ix (U 2 i 7)) 4)) (U 2 i 5) (U 2 i 6) (U 2 i 7) (U 2 i 8) (U 2 i 9))
              have hF1 : Fr t M M1 := by rw [eM1]; exact Fr.tr Fr.rf (Fr.up (hL.row (k := 2) (by decide) hi))
              have hr1_2 : M1 (Z.2.1 2 i) = some (t, (.inl (G.2.1 0, 10, .inl (rw10 (U 2 i 0) (U 2 i 1) (t_X7_load_0 (U 2 i 2) (U 2 i 3) (U 1 (ix (U 2 i 7)) 2) (U 1 (ix (U 2 i 7)) 3)) (t_X7_load_1 (U 2 i 2) (U 2 i 3) (U 1 (ix (U 2 i 7)) 2) (U 1 (ix (U 2 i 7)) 3)) (t_X7_load_2 (U 2 i 2) (U 2 i 3) (U 2 i 4) (U 1 (ix (U 2 i 7)) 2) (U 1 (ix (U 2 i 7)) 3) (U 1 (ix (U 2 i 7)) 4)) (U 2 i 5) (U 2 i 6) (U 2 i 7) (U 2 i 8) (U 2 i 9))))) := by rw [eM1]; exact hu_s
              have hr1_1 : M1 (Z.2.1 1 (ix (U 2 i 7))) = some (t, (.inl (G.2.1 0, 11, .inl (rw11 (U 1 (ix (U 2 i 7)) 0) (U 1 (ix (U 2 i 7)) 1) (U 1 (ix (U 2 i 7)) 2) (U 1 (ix (U 2 i 7)) 3) (U 1 (ix (U 2 i 7)) 4) (U 1 (ix (U 2 i 7)) 5) (U 1 (ix (U 2 i 7)) 6) (U 1 (ix (U 2 i 7)) 7) (U 1 (ix (U 2 i 7)) 8) (U 1 (ix (U 2 i 7)) 9) (U 1 (ix (U 2 i 7)) 10))))) := by rw [eM1]; exact hu_n (hL.rne (by decide) (by decide) (Nat.lt_of_lt_of_le hg.2 (hL.cnt (k := 1) (by decide))) hi (by decide)) (hL.row (k := 1) (by decide) (Nat.lt_of_lt_of_le hg.2 (hL.cnt (k := 1) (by decide))))
              obtain ⟨M2, eM2⟩ : ∃ z, z = hu M1 (Z.2.1 1 (ix (U 2 i 7))) t (.inl (G.2.1 0, 11, .inl (rw11 (U 1 (ix (U 2 i 7)) 0) (U 1 (ix (U 2 i 7)) 1) (t_X7_load_3 (U 2 i 2) (U 2 i 3) (U 1 (ix (U 2 i 7)) 2) (U 1 (ix (U 2 i 7)) 3)) (U 1 (ix (U 2 i 7)) 3) (U 1 (ix (U 2 i 7)) 4) (U 1 (ix (U 2 i 7)) 5) (U 1 (ix (U 2 i 7)) 6) (U 1 (ix (U 2 i 7)) 7) (U 1 (ix (U 2 i 7)) 8) (U 1 (ix (U 2 i 7)) 9) (U 1 (ix (U 2 i 7)) 10)))) := ⟨_, rfl⟩
              rw [← eM2] at hM
              have hL2 : MdR G M2 t h0 Z N (tu (tu U 2 i (rw10 (U 2 i 0) (U 2 i 1) (t_X7_load_0 (U 2 i 2) (U 2 i 3) (U 1 (ix (U 2 i 7)) 2) (U 1 (ix (U 2 i 7)) 3)) (t_X7_load_1 (U 2 i 2) (U 2 i 3) (U 1 (ix (U 2 i 7)) 2) (U 1 (ix (U 2 i 7)) 3)) (t_X7_load_2 (U 2 i 2) (U 2 i 3) (U 2 i 4) (U 1 (ix (U 2 i 7)) 2) (U 1 (ix (U 2 i 7)) 3) (U 1 (ix (U 2 i 7)) 4)) (U 2 i 5) (U 2 i 6) (U 2 i 7) (U 2 i 8) (U 2 i 9))) 1 (ix (U 2 i 7)) (rw11 (U 1 (ix (U 2 i 7)) 0) (U 1 (ix (U 2 i 7)) 1) (t_X7_load_3 (U 2 i 2) (U 2 i 3) (U 1 (ix (U 2 i 7)) 2) (U 1 (ix (U 2 i 7)) 3)) (U 1 (ix (U 2 i 7)) 3) (U 1 (ix (U 2 i 7)) 4) (U 1 (ix (U 2 i 7)) 5) (U 1 (ix (U 2 i 7)) 6) (U 1 (ix (U 2 i 7)) 7) (U 1 (ix (U 2 i 7)) 8) (U 1 (ix (U 2 i 7)) 9) (U 1 (ix (U 2 i 7)) 10))) now := by rw [eM2]; exact hL1.setRow (k := 1) (by decide) (Nat.lt_of_lt_of_le hg.2 (hL.cnt (k := 1) (by decide))) (rw11 (U 1 (ix (U 2 i 7)) 0) (U 1 (ix (U 2 i 7)) 1) (t_X7_load_3 (U 2 i 2) (U 2 i 3) (U 1 (ix (U 2 i 7)) 2) (U 1 (ix (U 2 i 7)) 3)) (U 1 (ix (U 2 i 7)) 3) (U 1 (ix (U 2 i 7)) 4) (U 1 (ix (U 2 i 7)) 5) (U 1 (ix (U 2 i 7)) 6) (U 1 (ix (U 2 i 7)) 7) (U 1 (ix (U 2 i 7)) 8) (U 1 (ix (U 2 i 7)) 9) (U 1 (ix (U 2 i 7)) 10))
              have hF2 : Fr t M M2 := by rw [eM2]; exact Fr.tr hF1 (Fr.up hr1_1)
              have hr2_2 : M2 (Z.2.1 2 i) = some (t, (.inl (G.2.1 0, 10, .inl (rw10 (U 2 i 0) (U 2 i 1) (t_X7_load_0 (U 2 i 2) (U 2 i 3) (U 1 (ix (U 2 i 7)) 2) (U 1 (ix (U 2 i 7)) 3)) (t_X7_load_1 (U 2 i 2) (U 2 i 3) (U 1 (ix (U 2 i 7)) 2) (U 1 (ix (U 2 i 7)) 3)) (t_X7_load_2 (U 2 i 2) (U 2 i 3) (U 2 i 4) (U 1 (ix (U 2 i 7)) 2) (U 1 (ix (U 2 i 7)) 3) (U 1 (ix (U 2 i 7)) 4)) (U 2 i 5) (U 2 i 6) (U 2 i 7) (U 2 i 8) (U 2 i 9))))) := by rw [eM2]; exact hu_n (hL1.rne (by decide) (by decide) hi (Nat.lt_of_lt_of_le hg.2 (hL.cnt (k := 1) (by decide))) (by decide)) hr1_2
              have hr2_1 : M2 (Z.2.1 1 (ix (U 2 i 7))) = some (t, (.inl (G.2.1 0, 11, .inl (rw11 (U 1 (ix (U 2 i 7)) 0) (U 1 (ix (U 2 i 7)) 1) (t_X7_load_3 (U 2 i 2) (U 2 i 3) (U 1 (ix (U 2 i 7)) 2) (U 1 (ix (U 2 i 7)) 3)) (U 1 (ix (U 2 i 7)) 3) (U 1 (ix (U 2 i 7)) 4) (U 1 (ix (U 2 i 7)) 5) (U 1 (ix (U 2 i 7)) 6) (U 1 (ix (U 2 i 7)) 7) (U 1 (ix (U 2 i 7)) 8) (U 1 (ix (U 2 i 7)) 9) (U 1 (ix (U 2 i 7)) 10))))) := by rw [eM2]; exact hu_s
              exact g_vret hx hb hr hlocks hM (Nat.zero_le _) (Nat.zero_le _) ⟨Z, (by rw [show n_X7_drive N U now i = (N 4) from by unfold n_X7_drive; rw [if_neg c1, if_neg c3, if_pos c5], nu_i]; unfold u_X7_drive; rw [if_neg c1, if_neg c3, if_pos c5, if_pos c9]; exact hL2), hF2⟩ dX7_drive_175
          · refine lv_aload_n hx hb dX7_drive_91 rfl (lv_at hl 2 rfl) ?_
            refine lv_iconst (v := (1 : Int32)) hx hb dX7_drive_92 (by decide) ?_
            refine ia10_1 hx hb hK hM (hL.row (k := 2) (by decide) hi) dX7_drive_93 ?_
            refine lv_istore_n (lv' := [(3, .int (U 2 i 1)), (2, .int (U 1 (ix (U 2 i 7)) 1)), (0, .ref h0), (1, .ref (Z.2.1 2 i))]) hx hb dX7_drive_94 rfl hl (by decide) rfl (fun ls hl => ?_)
            refine lv_aload_n hx hb dX7_drive_95 rfl (lv_at hl 3 rfl) ?_
            refine lv_iload_n hx hb dX7_drive_96 rfl (lv_at hl 1 rfl) ?_
            refine lv_bipush (v := (50 : Int32)) hx hb dX7_drive_97 (by decide) ?_
            refine g_callSv (n9 := 3) (As := [.ref (Z.2.1 2 i), .int (U 1 (ix (U 2 i 7)) 1), .int (50 : Int32)]) (rest := []) hx hb hml hl.1 hown hts hK hM (c_X7_towardsT l G _ (Z.2.1 2 i) t (U 2 i 0) (U 2 i 1) (U 2 i 2) (U 2 i 3) (U 2 i 4) (U 2 i 5) (U 2 i 6) (U 2 i 7) (U 2 i 8) (U 2 i 9) (U 1 (ix (U 2 i 7)) 1) (50 : Int32) (hL.row (k := 2) (by decide) hi)) wm_X7_85 wt_X7_towards wn_X7 wc_X7_towards (by decide +kernel) ⟨Nat.le_of_ble_eq_true rfl, Nat.le_of_ble_eq_true rfl⟩ ⟨Nat.le_of_ble_eq_true rfl, Nat.le_of_ble_eq_true rfl⟩ rfl (Nat.le_of_ble_eq_true rfl) rfl dX7_drive_99 (fun M1 H locs hq hM => ?_)
            replace hq := hq.symm
            subst hq
            refine lv_aload_n hx hb dX7_drive_102 rfl (lv_at hl 3 rfl) ?_
            refine lv_bipush (v := (9 : Int32)) hx hb dX7_drive_103 (by decide) ?_
            refine lv_dup2_11 hx hb dX7_drive_105 rfl rfl ?_
            refine ia10_9 hx hb hK hM hu_s dX7_drive_106 ?_
            refine lv_aload_n hx hb dX7_drive_107 rfl (lv_at hl 3 rfl) ?_
            refine lv_iconst (v := (1 : Int32)) hx hb dX7_drive_108 (by decide) ?_
            refine ia10_1 hx hb hK hM hu_s dX7_drive_109 ?_
            refine lv_iload_n hx hb dX7_drive_110 rfl (lv_at hl 0 rfl) ?_
            refine lv_isub hx hb dX7_drive_111 ?_
            refine va_mabs hx hb (hml.trans hl.1.symm) hown (hts _ wm_X7_93) (hts _ wt_mabs) (hts _ wn_java_lang_Math) (hts _ wc_mabs) (Nat.le_of_ble_eq_true rfl) (Nat.le_of_ble_eq_true rfl) (Nat.zero_le _) (Nat.zero_le _) dX7_drive_112 ?_
            refine lv_iadd hx hb dX7_drive_115 ?_
            refine is10_9 hx hb hK hM hu_s dX7_drive_116 (fun H locs hM => ?_)
            replace hM := hM.eq (hu_u _ _ _ _ _ _)
            refine lv_aload_n hx hb dX7_drive_117 rfl (lv_at hl 3 rfl) ?_
            refine lv_iconst (v := (5 : Int32)) hx hb dX7_drive_118 (by decide) ?_
            refine lv_dup2_11 hx hb dX7_drive_119 rfl rfl ?_
            refine ia10_5 hx hb hK hM hu_s dX7_drive_120 ?_
            refine lv_iconst (v := (1 : Int32)) hx hb dX7_drive_121 (by decide) ?_
            refine lv_iadd hx hb dX7_drive_122 ?_
            refine is10_5 hx hb hK hM hu_s dX7_drive_123 (fun H locs hM => ?_)
            replace hM := hM.eq (hu_u _ _ _ _ _ _)
            refine lv_aload_n hx hb dX7_drive_124 rfl (lv_at hl 3 rfl) ?_
            refine lv_bipush (v := (6 : Int32)) hx hb dX7_drive_125 (by decide) ?_
            refine lv_iconst (v := (0 : Int32)) hx hb dX7_drive_127 (by decide) ?_
            refine is10_6 hx hb hK hM hu_s dX7_drive_128 (fun H locs hM => ?_)
            replace hM := hM.eq (hu_u _ _ _ _ _ _)
            refine lv_goto (tgt := 175) hx hb dX7_drive_129 (by decide) ?_
            obtain ⟨M1, eM1⟩ : ∃ z, z = hu M (Z.2.1 2 i) t (.inl (G.2.1 0, 10, .inl (rw10 (U 2 i 0) (t_X7_towardsT_0 (U 2 i 1) (U 1 (ix (U 2 i 7)) 1) (50 : Int32)) (U 2 i 2) (U 2 i 3) (U 2 i 4) ((U 2 i 5) + (1 : Int32)) (0 : Int32) (U 2 i 7) (U 2 i 8) ((U 2 i 9) + (ab ((t_X7_towardsT_0 (U 2 i 1) (U 1 (ix (U 2 i 7)) 1) (50 : Int32)) - (U 2 i 1))))))) := ⟨_, rfl⟩
            rw [← eM1] at hM
            have hL1 : MdR G M1 t h0 Z N (tu U 2 i (rw10 (U 2 i 0) (t_X7_towardsT_0 (U 2 i 1) (U 1 (ix (U 2 i 7)) 1) (50 : Int32)) (U 2 i 2) (U 2 i 3) (U 2 i 4) ((U 2 i 5) + (1 : Int32)) (0 : Int32) (U 2 i 7) (U 2 i 8) ((U 2 i 9) + (ab ((t_X7_towardsT_0 (U 2 i 1) (U 1 (ix (U 2 i 7)) 1) (50 : Int32)) - (U 2 i 1)))))) now := by rw [eM1]; exact hL.setRow (k := 2) (by decide) hi (rw10 (U 2 i 0) (t_X7_towardsT_0 (U 2 i 1) (U 1 (ix (U 2 i 7)) 1) (50 : Int32)) (U 2 i 2) (U 2 i 3) (U 2 i 4) ((U 2 i 5) + (1 : Int32)) (0 : Int32) (U 2 i 7) (U 2 i 8) ((U 2 i 9) + (ab ((t_X7_towardsT_0 (U 2 i 1) (U 1 (ix (U 2 i 7)) 1) (50 : Int32)) - (U 2 i 1)))))
            have hF1 : Fr t M M1 := by rw [eM1]; exact Fr.tr Fr.rf (Fr.up (hL.row (k := 2) (by decide) hi))
            have hr1_2 : M1 (Z.2.1 2 i) = some (t, (.inl (G.2.1 0, 10, .inl (rw10 (U 2 i 0) (t_X7_towardsT_0 (U 2 i 1) (U 1 (ix (U 2 i 7)) 1) (50 : Int32)) (U 2 i 2) (U 2 i 3) (U 2 i 4) ((U 2 i 5) + (1 : Int32)) (0 : Int32) (U 2 i 7) (U 2 i 8) ((U 2 i 9) + (ab ((t_X7_towardsT_0 (U 2 i 1) (U 1 (ix (U 2 i 7)) 1) (50 : Int32)) - (U 2 i 1)))))))) := by rw [eM1]; exact hu_s
            have hr1_1 : M1 (Z.2.1 1 (ix (U 2 i 7))) = some (t, (.inl (G.2.1 0, 11, .inl (rw11 (U 1 (ix (U 2 i 7)) 0) (U 1 (ix (U 2 i 7)) 1) (U 1 (ix (U 2 i 7)) 2) (U 1 (ix (U 2 i 7)) 3) (U 1 (ix (U 2 i 7)) 4) (U 1 (ix (U 2 i 7)) 5) (U 1 (ix (U 2 i 7)) 6) (U 1 (ix (U 2 i 7)) 7) (U 1 (ix (U 2 i 7)) 8) (U 1 (ix (U 2 i 7)) 9) (U 1 (ix (U 2 i 7)) 10))))) := by rw [eM1]; exact hu_n (hL.rne (by decide) (by decide) (Nat.lt_of_lt_of_le hg.2 (hL.cnt (k := 1) (by decide))) hi (by decide)) (hL.row (k := 1) (by decide) (Nat.lt_of_lt_of_le hg.2 (hL.cnt (k := 1) (by decide))))
            exact g_vret hx hb hr hlocks hM (Nat.zero_le _) (Nat.zero_le _) ⟨Z, (by rw [show n_X7_drive N U now i = (N 4) from by unfold n_X7_drive; rw [if_neg c1, if_neg c3, if_pos c5], nu_i]; unfold u_X7_drive; rw [if_neg c1, if_neg c3, if_pos c5, if_neg c9]; exact hL1), hF1⟩ dX7_drive_175
      · exact absurd c4 c3
    · refine lv_aload_n hx hb dX7_drive_14 rfl (lv_at hl 1 rfl) ?_
      refine lv_iconst (v := (5 : Int32)) hx hb dX7_drive_15 (by decide) ?_
      refine ia10_5 hx hb hK hM (hL.row (k := 2) (by decide) hi) dX7_drive_16 ?_
      refine lv_if_le (tgt := 44) hx hb dX7_drive_17 (by decide) (fun c11 => ?_) (fun c11 => ?_)
      · refine lv_aload_n hx hb dX7_drive_44 rfl (lv_at hl 1 rfl) ?_
        refine lv_iconst (v := (0 : Int32)) hx hb dX7_drive_45 (by decide) ?_
        refine ia10_0 hx hb hK hM (hL.row (k := 2) (by decide) hi) dX7_drive_46 ?_
        refine lv_if_ne (tgt := 51) hx hb dX7_drive_47 (by decide) (fun c12 => ?_) (fun c12 => ?_)
        · exact absurd c3 c12
        · exact g_vret hx hb hr hlocks hM (Nat.zero_le _) (Nat.zero_le _) ⟨Z, (by rw [show n_X7_drive N U now i = (N 4) from by unfold n_X7_drive; rw [if_neg c1, if_pos c3], nu_i]; unfold u_X7_drive; rw [if_neg c1, if_pos c3, if_pos c11]; exact hL), Fr.rf⟩ dX7_drive_50
      · refine lv_aload_n hx hb dX7_drive_20 rfl (lv_at hl 1 rfl) ?_
        refine lv_bipush (v := (6 : Int32)) hx hb dX7_drive_21 (by decide) ?_
        refine lv_dup2_11 hx hb dX7_drive_23 rfl rfl ?_
        refine ia10_6 hx hb hK hM (hL.row (k := 2) (by decide) hi) dX7_drive_24 ?_
        refine lv_iconst (v := (1 : Int32)) hx hb dX7_drive_25 (by decide) ?_
        refine lv_iadd hx hb dX7_drive_26 ?_
        refine lv_dup_x2 hx hb dX7_drive_27 rfl rfl rfl ?_
        refine is10_6 hx hb hK hM (hL.row (k := 2) (by decide) hi) dX7_drive_28 (fun H locs hM => ?_)
        refine lv_bipush (v := (8 : Int32)) hx hb dX7_drive_29 (by decide) ?_
        refine lv_icmp_ne (tgt := 43) hx hb dX7_drive_31 (by decide) (fun c13 => ?_) (fun c13 => ?_)
        · obtain ⟨M1, eM1⟩ : ∃ z, z = hu M (Z.2.1 2 i) t (.inl (G.2.1 0, 10, .inl (rw10 (U 2 i 0) (U 2 i 1) (U 2 i 2) (U 2 i 3) (U 2 i 4) (U 2 i 5) ((U 2 i 6) + (1 : Int32)) (U 2 i 7) (U 2 i 8) (U 2 i 9)))) := ⟨_, rfl⟩
          rw [← eM1] at hM
          have hL1 : MdR G M1 t h0 Z N (tu U 2 i (rw10 (U 2 i 0) (U 2 i 1) (U 2 i 2) (U 2 i 3) (U 2 i 4) (U 2 i 5) ((U 2 i 6) + (1 : Int32)) (U 2 i 7) (U 2 i 8) (U 2 i 9))) now := by rw [eM1]; exact hL.setRow (k := 2) (by decide) hi (rw10 (U 2 i 0) (U 2 i 1) (U 2 i 2) (U 2 i 3) (U 2 i 4) (U 2 i 5) ((U 2 i 6) + (1 : Int32)) (U 2 i 7) (U 2 i 8) (U 2 i 9))
          have hF1 : Fr t M M1 := by rw [eM1]; exact Fr.tr Fr.rf (Fr.up (hL.row (k := 2) (by decide) hi))
          have hr1_2 : M1 (Z.2.1 2 i) = some (t, (.inl (G.2.1 0, 10, .inl (rw10 (U 2 i 0) (U 2 i 1) (U 2 i 2) (U 2 i 3) (U 2 i 4) (U 2 i 5) ((U 2 i 6) + (1 : Int32)) (U 2 i 7) (U 2 i 8) (U 2 i 9))))) := by rw [eM1]; exact hu_s
          exact g_vret hx hb hr hlocks hM (Nat.zero_le _) (Nat.zero_le _) ⟨Z, (by rw [show n_X7_drive N U now i = (N 4) from by unfold n_X7_drive; rw [if_neg c1, if_pos c3], nu_i]; unfold u_X7_drive; rw [if_neg c1, if_pos c3, if_neg c11, if_neg c13]; exact hL1), hF1⟩ dX7_drive_43
        · refine lv_aload_n hx hb dX7_drive_34 rfl (lv_at hl 1 rfl) ?_
          refine lv_iconst (v := (5 : Int32)) hx hb dX7_drive_35 (by decide) ?_
          refine lv_aload_n hx hb dX7_drive_36 rfl (lv_at hl 1 rfl) ?_
          refine lv_bipush (v := (6 : Int32)) hx hb dX7_drive_37 (by decide) ?_
          refine lv_iconst (v := (0 : Int32)) hx hb dX7_drive_39 (by decide) ?_
          refine lv_dup_x2 hx hb dX7_drive_40 rfl rfl rfl ?_
          refine is10_6 hx hb hK hM hu_s dX7_drive_41 (fun H locs hM => ?_)
          replace hM := hM.eq (hu_u _ _ _ _ _ _)
          refine is10_5 hx hb hK hM hu_s dX7_drive_42 (fun H locs hM => ?_)
          replace hM := hM.eq (hu_u _ _ _ _ _ _)
          obtain ⟨M1, eM1⟩ : ∃ z, z = hu M (Z.2.1 2 i) t (.inl (G.2.1 0, 10, .inl (rw10 (U 2 i 0) (U 2 i 1) (U 2 i 2) (U 2 i 3) (U 2 i 4) (0 : Int32) (0 : Int32) (U 2 i 7) (U 2 i 8) (U 2 i 9)))) := ⟨_, rfl⟩
          rw [← eM1] at hM
          have hL1 : MdR G M1 t h0 Z N (tu U 2 i (rw10 (U 2 i 0) (U 2 i 1) (U 2 i 2) (U 2 i 3) (U 2 i 4) (0 : Int32) (0 : Int32) (U 2 i 7) (U 2 i 8) (U 2 i 9))) now := by rw [eM1]; exact hL.setRow (k := 2) (by decide) hi (rw10 (U 2 i 0) (U 2 i 1) (U 2 i 2) (U 2 i 3) (U 2 i 4) (0 : Int32) (0 : Int32) (U 2 i 7) (U 2 i 8) (U 2 i 9))
          have hF1 : Fr t M M1 := by rw [eM1]; exact Fr.tr Fr.rf (Fr.up (hL.row (k := 2) (by decide) hi))
          have hr1_2 : M1 (Z.2.1 2 i) = some (t, (.inl (G.2.1 0, 10, .inl (rw10 (U 2 i 0) (U 2 i 1) (U 2 i 2) (U 2 i 3) (U 2 i 4) (0 : Int32) (0 : Int32) (U 2 i 7) (U 2 i 8) (U 2 i 9))))) := by rw [eM1]; exact hu_s
          exact g_vret hx hb hr hlocks hM (Nat.zero_le _) (Nat.zero_le _) ⟨Z, (by rw [show n_X7_drive N U now i = (N 4) from by unfold n_X7_drive; rw [if_neg c1, if_pos c3], nu_i]; unfold u_X7_drive; rw [if_neg c1, if_pos c3, if_neg c11, if_pos c13]; exact hL1), hF1⟩ dX7_drive_43

def sa (x : Int32) (f : Nat → Int32) : Nat → Int32
  | 0 => x
  | n + 1 => sa x f n + f n
theorem sa_s {x : Int32} {f : Nat → Int32} {n : Nat} : sa x f (n + 1) = sa x f n + f n := rfl
set_option maxHeartbeats 4000000 in
set_option maxRecDepth 100000 in
theorem c_X3_uncutAcres (l : Launch) (G : GG) (M : HM) (t h0 : Nat) (Y : LY) (N : Nat → Nat) (T : Tb) (tr now price money : Int32)  (hL : LdR G M t h0 Y N T tr now price money) : Mi l yX3_uncutAcres (.code yX3_uncutAcres cX3_uncutAcres 3 (some .int) :: AL) 3 64 0 0 [.ref h0] G M (fun r M' => r = sa 0 (fun j => t_X2_uncut_0 (T 0 j 2) (T 0 j 5)) (N 0) ∧ M' = M) := by
  refine Mi.go (by decide) (Nat.le_of_ble_eq_true rfl) ?_
  intro p e s m below meth c ls hx hb hr hml hown hlocks hname hts hK hM hl
  have hown : s.vm.findClass RX3 = some m.cls := hown
  have hl : lv_has ls 3 [(0, .ref h0)] := hl
  have hN8 := hL.2.2.2.2.2.2.1
  have hn0 := hN8 0
  have hn1 := hN8 1
  have hn2 := hN8 2
  have hn3 := hN8 3
  have hn4 := hN8 4
  refine lv_iconst (v := (0 : Int32)) hx hb dX3_uncutAcres_0 (by decide) ?_
  refine lv_istore_n (lv' := [(1, .int (0 : Int32)), (0, .ref h0)]) hx hb dX3_uncutAcres_1 rfl hl (by decide) rfl (fun ls hl => ?_)
  refine lv_iconst (v := (0 : Int32)) hx hb dX3_uncutAcres_2 (by decide) ?_
  refine lv_istore_n (lv' := [(2, .int (0 : Int32)), (1, .int (0 : Int32)), (0, .ref h0)]) hx hb dX3_uncutAcres_3 rfl hl (by decide) rfl (fun ls hl => ?_)
  have L4 : ∀ (n i : Nat), i ≤ N 0 → N 0 - i < n → ∀ (H : Heap) (locs : List Loc) (ls : Array Slot), Wd G M s H locs → lv_has ls 3 [(2, .int (nI i)), (1, .int (sa 0 (fun j => t_X2_uncut_0 (T 0 j 2) (T 0 j 5)) i)), (0, .ref h0)] → W p l e ({ frames := 3, cells := 0, slots := 0, locals := 64 } : Room) s m [.ref h0].toArray below meth c H locs 0 0 (MQ below (va_Qi (fun r M' => r = sa 0 (fun j => t_X2_uncut_0 (T 0 j 2) (T 0 j 5)) (N 0) ∧ M' = M) (gB G) (gA G)) [.ref h0].toArray s 0 0 (gA G)) (F0 m 4 ls []) := by
    intro n
    induction n with
    | zero => intro i h1 h2; omega
    | succ n ih =>
      intro i h1 h2 H locs ls hM hl
      refine lv_iload_n hx hb dX3_uncutAcres_4 rfl (lv_at hl 0 rfl) ?_
      refine lv_aload_n hx hb dX3_uncutAcres_5 rfl (lv_at hl 2 rfl) ?_
      refine fg_X3_12 hx hb hts hown hK hM hL.1 dX3_uncutAcres_6 ?_
      refine g_callVi (n9 := 0) (As := []) (rest := [.int (nI i)]) hx hb hml hl.1 hown hts hK hM (c_Jx4a65c_size_8abf5 l G _ (Y.1 0) t _ _ _ ((hL.2.1 0 (by decide)).1)) wm_X3_48 wi_Jx4a65c_size_8abf5 wl_Jx4a65c_size_8abf5 wn_Jx4a65c wc_Jx4a65c_size_8abf5 (by decide +kernel) (hM.recv hK (ci := 0) rfl ((hL.2.1 0 (by decide)).1)) ⟨Nat.le_of_ble_eq_true rfl, Nat.le_of_ble_eq_true rfl⟩ ⟨Nat.le_of_ble_eq_true rfl, Nat.le_of_ble_eq_true rfl⟩ rfl (Nat.le_of_ble_eq_true rfl) rfl dX3_uncutAcres_9 (fun r_9 M1 H locs hq hM => ?_)
      have hq1 := hq.1.symm
      have hq2 := hq.2.symm
      subst hq1 hq2
      have hN9 := hL.2.2.2.2.2.2.1
      refine lv_icmp_ge (tgt := 38) hx hb dX3_uncutAcres_12 (by decide) (fun c1 => ?_) (fun c1 => ?_)
      · have hi : i = N 0 := by
          have := (nI_leI (by omega) (by omega)).mp c1
          omega
        subst hi
        refine lv_iload_n hx hb dX3_uncutAcres_38 rfl (lv_at hl 1 rfl) ?_
        exact g_iret hx hb hr hlocks hM (Nat.zero_le _) (Nat.zero_le _) ⟨rfl, rfl⟩ dX3_uncutAcres_39
      · have hi_i : i < N 0 := by
          rcases Nat.lt_or_ge i (N 0) with z | z
          · exact z
          · exact absurd (nI_le z (by omega)) c1
        refine lv_iload_n hx hb dX3_uncutAcres_15 rfl (lv_at hl 1 rfl) ?_
        refine lv_aload_n hx hb dX3_uncutAcres_16 rfl (lv_at hl 2 rfl) ?_
        refine fg_X3_12 hx hb hts hown hK hM hL.1 dX3_uncutAcres_17 ?_
        refine lv_iload_n hx hb dX3_uncutAcres_20 rfl (lv_at hl 0 rfl) ?_
        refine g_callVq (n9 := 1) (As := [.int (nI i)]) (rest := [.int (sa 0 (fun j => t_X2_uncut_0 (T 0 j 2) (T 0 j 5)) i)]) hx hb hml hl.1 hown hts hK hM (c_getL l G _ t (Y.1 0) (N 0) _ _ i _ _ (hL.2.1 0 (by decide)) hi_i) wm_X3_52 wi_Jx4a65c_get_915e3 wl_Jx4a65c_get_915e3 wn_Jx4a65c wc_Jx4a65c_get_915e3 (by decide +kernel) (hM.recv hK (ci := 0) rfl ((hL.2.1 0 (by decide)).1)) ⟨Nat.le_of_ble_eq_true rfl, Nat.le_of_ble_eq_true rfl⟩ ⟨Nat.le_of_ble_eq_true rfl, Nat.le_of_ble_eq_true rfl⟩ rfl (Nat.le_of_ble_eq_true rfl) rfl dX3_uncutAcres_21 (fun r_21 M1 H locs hq hM => ?_)
        have hq1 := (hq.1.trans (hL.at_g (k := 0) (by decide) hi_i)).symm
        have hq2 := hq.2.symm
        subst hq1 hq2
        refine va_castS (nm := RX2) hx hb hown (hts _ wk_X3_56) (hK.1.1 3 _ rfl).2 (hM.recv hK (ci := 3) rfl (hL.row (k := 0) (by decide) hi_i)) dX3_uncutAcres_24 ?_
        refine g_callVi (n9 := 0) (As := []) (rest := [.int (sa 0 (fun j => t_X2_uncut_0 (T 0 j 2) (T 0 j 5)) i)]) hx hb hml hl.1 hown hts hK hM (c_X2_uncut l G _ (Y.2.2.2.2.2 0 i) t (T 0 i 0) (T 0 i 1) (T 0 i 2) (T 0 i 3) (T 0 i 4) (T 0 i 5) (T 0 i 6) (T 0 i 7) (T 0 i 8) (T 0 i 9) (T 0 i 10) (T 0 i 11) (T 0 i 12) (hL.row (k := 0) (by decide) hi_i)) wm_X3_199 wi_X2_uncut wl_X2_uncut wn_X2 wc_X2_uncut (by decide +kernel) (hM.recv hK (ci := 3) rfl (hL.row (k := 0) (by decide) hi_i)) ⟨Nat.le_of_ble_eq_true rfl, Nat.le_of_ble_eq_true rfl⟩ ⟨Nat.le_of_ble_eq_true rfl, Nat.le_of_ble_eq_true rfl⟩ rfl (Nat.le_of_ble_eq_true rfl) rfl dX3_uncutAcres_27 (fun r_27 M1 H locs hq hM => ?_)
        have hq1 := hq.1.symm
        have hq2 := hq.2.symm
        subst hq1 hq2
        refine lv_iadd hx hb dX3_uncutAcres_30 ?_
        refine lv_istore_n (lv' := [(1, .int ((sa 0 (fun j => t_X2_uncut_0 (T 0 j 2) (T 0 j 5)) i) + (t_X2_uncut_0 (T 0 i 2) (T 0 i 5)))), (2, .int (nI i)), (0, .ref h0)]) hx hb dX3_uncutAcres_31 rfl hl (by decide) rfl (fun ls hl => ?_)
        refine lv_iinc (v := (nI (i + 1))) (lv' := [(2, .int (nI (i + 1))), (1, .int ((sa 0 (fun j => t_X2_uncut_0 (T 0 j 2) (T 0 j 5)) i) + (t_X2_uncut_0 (T 0 i 2) (T 0 i 5)))), (0, .ref h0)]) hx hb dX3_uncutAcres_32 hl (k := 1) rfl (nI_1 i) (by decide) rfl (fun ls hl => ?_)
        refine lv_goto (tgt := 4) hx hb dX3_uncutAcres_35 (by decide) ?_
        have ea1 : sa 0 (fun j => t_X2_uncut_0 (T 0 j 2) (T 0 j 5)) (i + 1) = ((sa 0 (fun j => t_X2_uncut_0 (T 0 j 2) (T 0 j 5)) i) + (t_X2_uncut_0 (T 0 i 2) (T 0 i 5))) := by first | rfl | (rw [sa_s]; simp only [c1, if_true, if_false, Int32.add_zero]; done) | (rw [sa_s]; simp [c1]; done)
        exact ih (i + 1) (by omega) (by omega) _ _ _ hM (by rw [ea1]; exact lv_sub hl [0, 1, 2] rfl)
  exact L4 (N 0 + 1) 0 (Nat.zero_le _) (by omega) _ _ _ hM (lv_sub hl [0, 1, 2] rfl)
set_option maxHeartbeats 4000000 in
set_option maxRecDepth 100000 in
theorem c_X3_brokenCombines (l : Launch) (G : GG) (M : HM) (t h0 : Nat) (Y : LY) (N : Nat → Nat) (T : Tb) (tr now price money : Int32)  (hL : LdR G M t h0 Y N T tr now price money) : Mi l yX3_brokenCombines (.code yX3_brokenCombines cX3_brokenCombines 3 (some .int) :: AL) 3 64 0 0 [.ref h0] G M (fun r M' => r = sa 0 (fun j => if T 1 j 7 = 0 then 0 else 1) (N 1) ∧ M' = M) := by
  refine Mi.go (by decide) (Nat.le_of_ble_eq_true rfl) ?_
  intro p e s m below meth c ls hx hb hr hml hown hlocks hname hts hK hM hl
  have hown : s.vm.findClass RX3 = some m.cls := hown
  have hl : lv_has ls 3 [(0, .ref h0)] := hl
  have hN8 := hL.2.2.2.2.2.2.1
  have hn0 := hN8 0
  have hn1 := hN8 1
  have hn2 := hN8 2
  have hn3 := hN8 3
  have hn4 := hN8 4
  refine lv_iconst (v := (0 : Int32)) hx hb dX3_brokenCombines_0 (by decide) ?_
  refine lv_istore_n (lv' := [(1, .int (0 : Int32)), (0, .ref h0)]) hx hb dX3_brokenCombines_1 rfl hl (by decide) rfl (fun ls hl => ?_)
  refine lv_iconst (v := (0 : Int32)) hx hb dX3_brokenCombines_2 (by decide) ?_
  refine lv_istore_n (lv' := [(2, .int (0 : Int32)), (1, .int (0 : Int32)), (0, .ref h0)]) hx hb dX3_brokenCombines_3 rfl hl (by decide) rfl (fun ls hl => ?_)
  have L4 : ∀ (n i : Nat), i ≤ N 1 → N 1 - i < n → ∀ (H : Heap) (locs : List Loc) (ls : Array Slot), Wd G M s H locs → lv_has ls 3 [(2, .int (nI i)), (1, .int (sa 0 (fun j => if T 1 j 7 = 0 then 0 else 1) i)), (0, .ref h0)] → W p l e ({ frames := 3, cells := 0, slots := 0, locals := 64 } : Room) s m [.ref h0].toArray below meth c H locs 0 0 (MQ below (va_Qi (fun r M' => r = sa 0 (fun j => if T 1 j 7 = 0 then 0 else 1) (N 1) ∧ M' = M) (gB G) (gA G)) [.ref h0].toArray s 0 0 (gA G)) (F0 m 4 ls []) := by
    intro n
    induction n with
    | zero => intro i h1 h2; omega
    | succ n ih =>
      intro i h1 h2 H locs ls hM hl
      refine lv_iload_n hx hb dX3_brokenCombines_4 rfl (lv_at hl 0 rfl) ?_
      refine lv_aload_n hx hb dX3_brokenCombines_5 rfl (lv_at hl 2 rfl) ?_
      refine fg_X3_18 hx hb hts hown hK hM hL.1 dX3_brokenCombines_6 ?_
      refine g_callVi (n9 := 0) (As := []) (rest := [.int (nI i)]) hx hb hml hl.1 hown hts hK hM (c_Jx4a65c_size_8abf5 l G _ (Y.1 1) t _ _ _ ((hL.2.1 1 (by decide)).1)) wm_X3_48 wi_Jx4a65c_size_8abf5 wl_Jx4a65c_size_8abf5 wn_Jx4a65c wc_Jx4a65c_size_8abf5 (by decide +kernel) (hM.recv hK (ci := 0) rfl ((hL.2.1 1 (by decide)).1)) ⟨Nat.le_of_ble_eq_true rfl, Nat.le_of_ble_eq_true rfl⟩ ⟨Nat.le_of_ble_eq_true rfl, Nat.le_of_ble_eq_true rfl⟩ rfl (Nat.le_of_ble_eq_true rfl) rfl dX3_brokenCombines_9 (fun r_9 M1 H locs hq hM => ?_)
      have hq1 := hq.1.symm
      have hq2 := hq.2.symm
      subst hq1 hq2
      have hN9 := hL.2.2.2.2.2.2.1
      refine lv_icmp_ge (tgt := 46) hx hb dX3_brokenCombines_12 (by decide) (fun c1 => ?_) (fun c1 => ?_)
      · have hi : i = N 1 := by
          have := (nI_leI (by omega) (by omega)).mp c1
          omega
        subst hi
        refine lv_iload_n hx hb dX3_brokenCombines_46 rfl (lv_at hl 1 rfl) ?_
        exact g_iret hx hb hr hlocks hM (Nat.zero_le _) (Nat.zero_le _) ⟨rfl, rfl⟩ dX3_brokenCombines_47
      · have hi_i : i < N 1 := by
          rcases Nat.lt_or_ge i (N 1) with z | z
          · exact z
          · exact absurd (nI_le z (by omega)) c1
        refine lv_iload_n hx hb dX3_brokenCombines_15 rfl (lv_at hl 1 rfl) ?_
        refine lv_aload_n hx hb dX3_brokenCombines_16 rfl (lv_at hl 2 rfl) ?_
        refine fg_X3_18 hx hb hts hown hK hM hL.1 dX3_brokenCombines_17 ?_
        refine lv_iload_n hx hb dX3_brokenCombines_20 rfl (lv_at hl 0 rfl) ?_
        refine g_callVq (n9 := 1) (As := [.int (nI i)]) (rest := [.int (sa 0 (fun j => if T 1 j 7 = 0 then 0 else 1) i)]) hx hb hml hl.1 hown hts hK hM (c_getL l G _ t (Y.1 1) (N 1) _ _ i _ _ (hL.2.1 1 (by decide)) hi_i) wm_X3_52 wi_Jx4a65c_get_915e3 wl_Jx4a65c_get_915e3 wn_Jx4a65c wc_Jx4a65c_get_915e3 (by decide +kernel) (hM.recv hK (ci := 0) rfl ((hL.2.1 1 (by decide)).1)) ⟨Nat.le_of_ble_eq_true rfl, Nat.le_of_ble_eq_true rfl⟩ ⟨Nat.le_of_ble_eq_true rfl, Nat.le_of_ble_eq_true rfl⟩ rfl (Nat.le_of_ble_eq_true rfl) rfl dX3_brokenCombines_21 (fun r_21 M1 H locs hq hM => ?_)
        have hq1 := (hq.1.trans (hL.at_g (k := 1) (by decide) hi_i)).symm
        have hq2 := hq.2.symm
        subst hq1 hq2
        refine va_castS (nm := RX0) hx hb hown (hts _ wk_X3_62) (hK.1.1 1 _ rfl).2 (hM.recv hK (ci := 1) rfl (hL.row (k := 1) (by decide) hi_i)) dX3_brokenCombines_24 ?_
        refine fg_X3_202 hx hb hts hown hK hM (hL.row (k := 1) (by decide) hi_i) dX3_brokenCombines_27 ?_
        refine lv_if_eq (tgt := 37) hx hb dX3_brokenCombines_30 (by decide) (fun c2 => ?_) (fun c2 => ?_)
        · refine lv_iconst (v := (0 : Int32)) hx hb dX3_brokenCombines_37 (by decide) ?_
          refine lv_iadd hx hb dX3_brokenCombines_38 ?_
          refine lv_istore_n (lv' := [(1, .int ((sa 0 (fun j => if T 1 j 7 = 0 then 0 else 1) i) + (0 : Int32))), (2, .int (nI i)), (0, .ref h0)]) hx hb dX3_brokenCombines_39 rfl hl (by decide) rfl (fun ls hl => ?_)
          refine lv_iinc (v := (nI (i + 1))) (lv' := [(2, .int (nI (i + 1))), (1, .int ((sa 0 (fun j => if T 1 j 7 = 0 then 0 else 1) i) + (0 : Int32))), (0, .ref h0)]) hx hb dX3_brokenCombines_40 hl (k := 1) rfl (nI_1 i) (by decide) rfl (fun ls hl => ?_)
          refine lv_goto (tgt := 4) hx hb dX3_brokenCombines_43 (by decide) ?_
          have ea1 : sa 0 (fun j => if T 1 j 7 = 0 then 0 else 1) (i + 1) = ((sa 0 (fun j => if T 1 j 7 = 0 then 0 else 1) i) + (0 : Int32)) := by first | rfl | (rw [sa_s]; simp only [c1, c2, if_true, if_false, Int32.add_zero]; done) | (rw [sa_s]; simp [c1, c2]; done)
          exact ih (i + 1) (by omega) (by omega) _ _ _ hM (by rw [ea1]; exact lv_sub hl [0, 1, 2] rfl)
        · refine lv_iconst (v := (1 : Int32)) hx hb dX3_brokenCombines_33 (by decide) ?_
          refine lv_goto (tgt := 38) hx hb dX3_brokenCombines_34 (by decide) ?_
          refine lv_iadd hx hb dX3_brokenCombines_38 ?_
          refine lv_istore_n (lv' := [(1, .int ((sa 0 (fun j => if T 1 j 7 = 0 then 0 else 1) i) + (1 : Int32))), (2, .int (nI i)), (0, .ref h0)]) hx hb dX3_brokenCombines_39 rfl hl (by decide) rfl (fun ls hl => ?_)
          refine lv_iinc (v := (nI (i + 1))) (lv' := [(2, .int (nI (i + 1))), (1, .int ((sa 0 (fun j => if T 1 j 7 = 0 then 0 else 1) i) + (1 : Int32))), (0, .ref h0)]) hx hb dX3_brokenCombines_40 hl (k := 1) rfl (nI_1 i) (by decide) rfl (fun ls hl => ?_)
          refine lv_goto (tgt := 4) hx hb dX3_brokenCombines_43 (by decide) ?_
          have ea1 : sa 0 (fun j => if T 1 j 7 = 0 then 0 else 1) (i + 1) = ((sa 0 (fun j => if T 1 j 7 = 0 then 0 else 1) i) + (1 : Int32)) := by first | rfl | (rw [sa_s]; simp only [c1, c2, if_true, if_false, Int32.add_zero]; done) | (rw [sa_s]; simp [c1, c2]; done)
          exact ih (i + 1) (by omega) (by omega) _ _ _ hM (by rw [ea1]; exact lv_sub hl [0, 1, 2] rfl)
  exact L4 (N 1 + 1) 0 (Nat.zero_le _) (by omega) _ _ _ hM (lv_sub hl [0, 1, 2] rfl)
set_option maxHeartbeats 4000000 in
set_option maxRecDepth 100000 in
theorem c_X3_allRoom (l : Launch) (G : GG) (M : HM) (t h0 : Nat) (Y : LY) (N : Nat → Nat) (T : Tb) (tr now price money : Int32)  (hL : LdR G M t h0 Y N T tr now price money) : Mi l yX3_allRoom (.code yX3_allRoom cX3_allRoom 3 (some .int) :: AL) 3 64 0 0 [.ref h0] G M (fun r M' => r = sa 0 (fun j => T 3 j 1) (N 3) ∧ M' = M) := by
  refine Mi.go (by decide) (Nat.le_of_ble_eq_true rfl) ?_
  intro p e s m below meth c ls hx hb hr hml hown hlocks hname hts hK hM hl
  have hown : s.vm.findClass RX3 = some m.cls := hown
  have hl : lv_has ls 3 [(0, .ref h0)] := hl
  have hN8 := hL.2.2.2.2.2.2.1
  have hn0 := hN8 0
  have hn1 := hN8 1
  have hn2 := hN8 2
  have hn3 := hN8 3
  have hn4 := hN8 4
  refine lv_iconst (v := (0 : Int32)) hx hb dX3_allRoom_0 (by decide) ?_
  refine lv_istore_n (lv' := [(1, .int (0 : Int32)), (0, .ref h0)]) hx hb dX3_allRoom_1 rfl hl (by decide) rfl (fun ls hl => ?_)
  refine lv_iconst (v := (0 : Int32)) hx hb dX3_allRoom_2 (by decide) ?_
  refine lv_istore_n (lv' := [(2, .int (0 : Int32)), (1, .int (0 : Int32)), (0, .ref h0)]) hx hb dX3_allRoom_3 rfl hl (by decide) rfl (fun ls hl => ?_)
  have L4 : ∀ (n i : Nat), i ≤ N 3 → N 3 - i < n → ∀ (H : Heap) (locs : List Loc) (ls : Array Slot), Wd G M s H locs → lv_has ls 3 [(2, .int (nI i)), (1, .int (sa 0 (fun j => T 3 j 1) i)), (0, .ref h0)] → W p l e ({ frames := 3, cells := 0, slots := 0, locals := 64 } : Room) s m [.ref h0].toArray below meth c H locs 0 0 (MQ below (va_Qi (fun r M' => r = sa 0 (fun j => T 3 j 1) (N 3) ∧ M' = M) (gB G) (gA G)) [.ref h0].toArray s 0 0 (gA G)) (F0 m 4 ls []) := by
    intro n
    induction n with
    | zero => intro i h1 h2; omega
    | succ n ih =>
      intro i h1 h2 H locs ls hM hl
      refine lv_iload_n hx hb dX3_allRoom_4 rfl (lv_at hl 0 rfl) ?_
      refine lv_aload_n hx hb dX3_allRoom_5 rfl (lv_at hl 2 rfl) ?_
      refine fg_X3_24 hx hb hts hown hK hM hL.1 dX3_allRoom_6 ?_
      refine g_callVi (n9 := 0) (As := []) (rest := [.int (nI i)]) hx hb hml hl.1 hown hts hK hM (c_Jx4a65c_size_8abf5 l G _ (Y.1 3) t _ _ _ ((hL.2.1 3 (by decide)).1)) wm_X3_48 wi_Jx4a65c_size_8abf5 wl_Jx4a65c_size_8abf5 wn_Jx4a65c wc_Jx4a65c_size_8abf5 (by decide +kernel) (hM.recv hK (ci := 0) rfl ((hL.2.1 3 (by decide)).1)) ⟨Nat.le_of_ble_eq_true rfl, Nat.le_of_ble_eq_true rfl⟩ ⟨Nat.le_of_ble_eq_true rfl, Nat.le_of_ble_eq_true rfl⟩ rfl (Nat.le_of_ble_eq_true rfl) rfl dX3_allRoom_9 (fun r_9 M1 H locs hq hM => ?_)
      have hq1 := hq.1.symm
      have hq2 := hq.2.symm
      subst hq1 hq2
      have hN9 := hL.2.2.2.2.2.2.1
      refine lv_icmp_ge (tgt := 38) hx hb dX3_allRoom_12 (by decide) (fun c1 => ?_) (fun c1 => ?_)
      · have hi : i = N 3 := by
          have := (nI_leI (by omega) (by omega)).mp c1
          omega
        subst hi
        refine lv_iload_n hx hb dX3_allRoom_38 rfl (lv_at hl 1 rfl) ?_
        exact g_iret hx hb hr hlocks hM (Nat.zero_le _) (Nat.zero_le _) ⟨rfl, rfl⟩ dX3_allRoom_39
      · have hi_i : i < N 3 := by
          rcases Nat.lt_or_ge i (N 3) with z | z
          · exact z
          · exact absurd (nI_le z (by omega)) c1
        refine lv_iload_n hx hb dX3_allRoom_15 rfl (lv_at hl 1 rfl) ?_
        refine lv_aload_n hx hb dX3_allRoom_16 rfl (lv_at hl 2 rfl) ?_
        refine fg_X3_24 hx hb hts hown hK hM hL.1 dX3_allRoom_17 ?_
        refine lv_iload_n hx hb dX3_allRoom_20 rfl (lv_at hl 0 rfl) ?_
        refine g_callVq (n9 := 1) (As := [.int (nI i)]) (rest := [.int (sa 0 (fun j => T 3 j 1) i)]) hx hb hml hl.1 hown hts hK hM (c_getL l G _ t (Y.1 3) (N 3) _ _ i _ _ (hL.2.1 3 (by decide)) hi_i) wm_X3_52 wi_Jx4a65c_get_915e3 wl_Jx4a65c_get_915e3 wn_Jx4a65c wc_Jx4a65c_get_915e3 (by decide +kernel) (hM.recv hK (ci := 0) rfl ((hL.2.1 3 (by decide)).1)) ⟨Nat.le_of_ble_eq_true rfl, Nat.le_of_ble_eq_true rfl⟩ ⟨Nat.le_of_ble_eq_true rfl, Nat.le_of_ble_eq_true rfl⟩ rfl (Nat.le_of_ble_eq_true rfl) rfl dX3_allRoom_21 (fun r_21 M1 H locs hq hM => ?_)
        have hq1 := (hq.1.trans (hL.at_g (k := 3) (by decide) hi_i)).symm
        have hq2 := hq.2.symm
        subst hq1 hq2
        refine va_castS (nm := RX1) hx hb hown (hts _ wk_X3_72) (hK.1.1 2 _ rfl).2 (hM.recv hK (ci := 2) rfl (hL.row (k := 3) (by decide) hi_i)) dX3_allRoom_24 ?_
        refine fg_X3_161 hx hb hts hown hK hM (hL.row (k := 3) (by decide) hi_i) dX3_allRoom_27 ?_
        refine lv_iadd hx hb dX3_allRoom_30 ?_
        refine lv_istore_n (lv' := [(1, .int ((sa 0 (fun j => T 3 j 1) i) + (T 3 i 1))), (2, .int (nI i)), (0, .ref h0)]) hx hb dX3_allRoom_31 rfl hl (by decide) rfl (fun ls hl => ?_)
        refine lv_iinc (v := (nI (i + 1))) (lv' := [(2, .int (nI (i + 1))), (1, .int ((sa 0 (fun j => T 3 j 1) i) + (T 3 i 1))), (0, .ref h0)]) hx hb dX3_allRoom_32 hl (k := 1) rfl (nI_1 i) (by decide) rfl (fun ls hl => ?_)
        refine lv_goto (tgt := 4) hx hb dX3_allRoom_35 (by decide) ?_
        have ea1 : sa 0 (fun j => T 3 j 1) (i + 1) = ((sa 0 (fun j => T 3 j 1) i) + (T 3 i 1)) := by first | rfl | (rw [sa_s]; simp only [c1, if_true, if_false, Int32.add_zero]; done) | (rw [sa_s]; simp [c1]; done)
        exact ih (i + 1) (by omega) (by omega) _ _ _ hM (by rw [ea1]; exact lv_sub hl [0, 1, 2] rfl)
  exact L4 (N 3 + 1) 0 (Nat.zero_le _) (by omega) _ _ _ hM (lv_sub hl [0, 1, 2] rfl)
set_option maxHeartbeats 4000000 in
set_option maxRecDepth 100000 in
theorem c_X3_allIdle (l : Launch) (G : GG) (M : HM) (t h0 : Nat) (Y : LY) (N : Nat → Nat) (T : Tb) (tr now price money : Int32)  (hL : LdR G M t h0 Y N T tr now price money) : Mi l yX3_allIdle (.code yX3_allIdle cX3_allIdle 3 (some .int) :: AL) 3 64 0 0 [.ref h0] G M (fun r M' => r = sa 0 (fun j => T 1 j 8) (N 1) ∧ M' = M) := by
  refine Mi.go (by decide) (Nat.le_of_ble_eq_true rfl) ?_
  intro p e s m below meth c ls hx hb hr hml hown hlocks hname hts hK hM hl
  have hown : s.vm.findClass RX3 = some m.cls := hown
  have hl : lv_has ls 3 [(0, .ref h0)] := hl
  have hN8 := hL.2.2.2.2.2.2.1
  have hn0 := hN8 0
  have hn1 := hN8 1
  have hn2 := hN8 2
  have hn3 := hN8 3
  have hn4 := hN8 4
  refine lv_iconst (v := (0 : Int32)) hx hb dX3_allIdle_0 (by decide) ?_
  refine lv_istore_n (lv' := [(1, .int (0 : Int32)), (0, .ref h0)]) hx hb dX3_allIdle_1 rfl hl (by decide) rfl (fun ls hl => ?_)
  refine lv_iconst (v := (0 : Int32)) hx hb dX3_allIdle_2 (by decide) ?_
  refine lv_istore_n (lv' := [(2, .int (0 : Int32)), (1, .int (0 : Int32)), (0, .ref h0)]) hx hb dX3_allIdle_3 rfl hl (by decide) rfl (fun ls hl => ?_)
  have L4 : ∀ (n i : Nat), i ≤ N 1 → N 1 - i < n → ∀ (H : Heap) (locs : List Loc) (ls : Array Slot), Wd G M s H locs → lv_has ls 3 [(2, .int (nI i)), (1, .int (sa 0 (fun j => T 1 j 8) i)), (0, .ref h0)] → W p l e ({ frames := 3, cells := 0, slots := 0, locals := 64 } : Room) s m [.ref h0].toArray below meth c H locs 0 0 (MQ below (va_Qi (fun r M' => r = sa 0 (fun j => T 1 j 8) (N 1) ∧ M' = M) (gB G) (gA G)) [.ref h0].toArray s 0 0 (gA G)) (F0 m 4 ls []) := by
    intro n
    induction n with
    | zero => intro i h1 h2; omega
    | succ n ih =>
      intro i h1 h2 H locs ls hM hl
      refine lv_iload_n hx hb dX3_allIdle_4 rfl (lv_at hl 0 rfl) ?_
      refine lv_aload_n hx hb dX3_allIdle_5 rfl (lv_at hl 2 rfl) ?_
      refine fg_X3_18 hx hb hts hown hK hM hL.1 dX3_allIdle_6 ?_
      refine g_callVi (n9 := 0) (As := []) (rest := [.int (nI i)]) hx hb hml hl.1 hown hts hK hM (c_Jx4a65c_size_8abf5 l G _ (Y.1 1) t _ _ _ ((hL.2.1 1 (by decide)).1)) wm_X3_48 wi_Jx4a65c_size_8abf5 wl_Jx4a65c_size_8abf5 wn_Jx4a65c wc_Jx4a65c_size_8abf5 (by decide +kernel) (hM.recv hK (ci := 0) rfl ((hL.2.1 1 (by decide)).1)) ⟨Nat.le_of_ble_eq_true rfl, Nat.le_of_ble_eq_true rfl⟩ ⟨Nat.le_of_ble_eq_true rfl, Nat.le_of_ble_eq_true rfl⟩ rfl (Nat.le_of_ble_eq_true rfl) rfl dX3_allIdle_9 (fun r_9 M1 H locs hq hM => ?_)
      have hq1 := hq.1.symm
      have hq2 := hq.2.symm
      subst hq1 hq2
      have hN9 := hL.2.2.2.2.2.2.1
      refine lv_icmp_ge (tgt := 38) hx hb dX3_allIdle_12 (by decide) (fun c1 => ?_) (fun c1 => ?_)
      · have hi : i = N 1 := by
          have := (nI_leI (by omega) (by omega)).mp c1
          omega
        subst hi
        refine lv_iload_n hx hb dX3_allIdle_38 rfl (lv_at hl 1 rfl) ?_
        exact g_iret hx hb hr hlocks hM (Nat.zero_le _) (Nat.zero_le _) ⟨rfl, rfl⟩ dX3_allIdle_39
      · have hi_i : i < N 1 := by
          rcases Nat.lt_or_ge i (N 1) with z | z
          · exact z
          · exact absurd (nI_le z (by omega)) c1
        refine lv_iload_n hx hb dX3_allIdle_15 rfl (lv_at hl 1 rfl) ?_
        refine lv_aload_n hx hb dX3_allIdle_16 rfl (lv_at hl 2 rfl) ?_
        refine fg_X3_18 hx hb hts hown hK hM hL.1 dX3_allIdle_17 ?_
        refine lv_iload_n hx hb dX3_allIdle_20 rfl (lv_at hl 0 rfl) ?_
        refine g_callVq (n9 := 1) (As := [.int (nI i)]) (rest := [.int (sa 0 (fun j => T 1 j 8) i)]) hx hb hml hl.1 hown hts hK hM (c_getL l G _ t (Y.1 1) (N 1) _ _ i _ _ (hL.2.1 1 (by decide)) hi_i) wm_X3_52 wi_Jx4a65c_get_915e3 wl_Jx4a65c_get_915e3 wn_Jx4a65c wc_Jx4a65c_get_915e3 (by decide +kernel) (hM.recv hK (ci := 0) rfl ((hL.2.1 1 (by decide)).1)) ⟨Nat.le_of_ble_eq_true rfl, Nat.le_of_ble_eq_true rfl⟩ ⟨Nat.le_of_ble_eq_true rfl, Nat.le_of_ble_eq_true rfl⟩ rfl (Nat.le_of_ble_eq_true rfl) rfl dX3_allIdle_21 (fun r_21 M1 H locs hq hM => ?_)
        have hq1 := (hq.1.trans (hL.at_g (k := 1) (by decide) hi_i)).symm
        have hq2 := hq.2.symm
        subst hq1 hq2
        refine va_castS (nm := RX0) hx hb hown (hts _ wk_X3_62) (hK.1.1 1 _ rfl).2 (hM.recv hK (ci := 1) rfl (hL.row (k := 1) (by decide) hi_i)) dX3_allIdle_24 ?_
        refine fg_X3_205 hx hb hts hown hK hM (hL.row (k := 1) (by decide) hi_i) dX3_allIdle_27 ?_
        refine lv_iadd hx hb dX3_allIdle_30 ?_
        refine lv_istore_n (lv' := [(1, .int ((sa 0 (fun j => T 1 j 8) i) + (T 1 i 8))), (2, .int (nI i)), (0, .ref h0)]) hx hb dX3_allIdle_31 rfl hl (by decide) rfl (fun ls hl => ?_)
        refine lv_iinc (v := (nI (i + 1))) (lv' := [(2, .int (nI (i + 1))), (1, .int ((sa 0 (fun j => T 1 j 8) i) + (T 1 i 8))), (0, .ref h0)]) hx hb dX3_allIdle_32 hl (k := 1) rfl (nI_1 i) (by decide) rfl (fun ls hl => ?_)
        refine lv_goto (tgt := 4) hx hb dX3_allIdle_35 (by decide) ?_
        have ea1 : sa 0 (fun j => T 1 j 8) (i + 1) = ((sa 0 (fun j => T 1 j 8) i) + (T 1 i 8)) := by first | rfl | (rw [sa_s]; simp only [c1, if_true, if_false, Int32.add_zero]; done) | (rw [sa_s]; simp [c1]; done)
        exact ih (i + 1) (by omega) (by omega) _ _ _ hM (by rw [ea1]; exact lv_sub hl [0, 1, 2] rfl)
  exact L4 (N 1 + 1) 0 (Nat.zero_le _) (by omega) _ _ _ hM (lv_sub hl [0, 1, 2] rfl)
set_option maxHeartbeats 4000000 in
set_option maxRecDepth 100000 in
theorem c_X3_allQueued (l : Launch) (G : GG) (M : HM) (t h0 : Nat) (Y : LY) (N : Nat → Nat) (T : Tb) (tr now price money : Int32)  (hL : LdR G M t h0 Y N T tr now price money) : Mi l yX3_allQueued (.code yX3_allQueued cX3_allQueued 3 (some .int) :: AL) 3 64 0 0 [.ref h0] G M (fun r M' => r = sa 0 (fun j => T 2 j 6) (N 2) ∧ M' = M) := by
  refine Mi.go (by decide) (Nat.le_of_ble_eq_true rfl) ?_
  intro p e s m below meth c ls hx hb hr hml hown hlocks hname hts hK hM hl
  have hown : s.vm.findClass RX3 = some m.cls := hown
  have hl : lv_has ls 3 [(0, .ref h0)] := hl
  have hN8 := hL.2.2.2.2.2.2.1
  have hn0 := hN8 0
  have hn1 := hN8 1
  have hn2 := hN8 2
  have hn3 := hN8 3
  have hn4 := hN8 4
  refine lv_iconst (v := (0 : Int32)) hx hb dX3_allQueued_0 (by decide) ?_
  refine lv_istore_n (lv' := [(1, .int (0 : Int32)), (0, .ref h0)]) hx hb dX3_allQueued_1 rfl hl (by decide) rfl (fun ls hl => ?_)
  refine lv_iconst (v := (0 : Int32)) hx hb dX3_allQueued_2 (by decide) ?_
  refine lv_istore_n (lv' := [(2, .int (0 : Int32)), (1, .int (0 : Int32)), (0, .ref h0)]) hx hb dX3_allQueued_3 rfl hl (by decide) rfl (fun ls hl => ?_)
  have L4 : ∀ (n i : Nat), i ≤ N 2 → N 2 - i < n → ∀ (H : Heap) (locs : List Loc) (ls : Array Slot), Wd G M s H locs → lv_has ls 3 [(2, .int (nI i)), (1, .int (sa 0 (fun j => T 2 j 6) i)), (0, .ref h0)] → W p l e ({ frames := 3, cells := 0, slots := 0, locals := 64 } : Room) s m [.ref h0].toArray below meth c H locs 0 0 (MQ below (va_Qi (fun r M' => r = sa 0 (fun j => T 2 j 6) (N 2) ∧ M' = M) (gB G) (gA G)) [.ref h0].toArray s 0 0 (gA G)) (F0 m 4 ls []) := by
    intro n
    induction n with
    | zero => intro i h1 h2; omega
    | succ n ih =>
      intro i h1 h2 H locs ls hM hl
      refine lv_iload_n hx hb dX3_allQueued_4 rfl (lv_at hl 0 rfl) ?_
      refine lv_aload_n hx hb dX3_allQueued_5 rfl (lv_at hl 2 rfl) ?_
      refine fg_X3_21 hx hb hts hown hK hM hL.1 dX3_allQueued_6 ?_
      refine g_callVi (n9 := 0) (As := []) (rest := [.int (nI i)]) hx hb hml hl.1 hown hts hK hM (c_Jx4a65c_size_8abf5 l G _ (Y.1 2) t _ _ _ ((hL.2.1 2 (by decide)).1)) wm_X3_48 wi_Jx4a65c_size_8abf5 wl_Jx4a65c_size_8abf5 wn_Jx4a65c wc_Jx4a65c_size_8abf5 (by decide +kernel) (hM.recv hK (ci := 0) rfl ((hL.2.1 2 (by decide)).1)) ⟨Nat.le_of_ble_eq_true rfl, Nat.le_of_ble_eq_true rfl⟩ ⟨Nat.le_of_ble_eq_true rfl, Nat.le_of_ble_eq_true rfl⟩ rfl (Nat.le_of_ble_eq_true rfl) rfl dX3_allQueued_9 (fun r_9 M1 H locs hq hM => ?_)
      have hq1 := hq.1.symm
      have hq2 := hq.2.symm
      subst hq1 hq2
      have hN9 := hL.2.2.2.2.2.2.1
      refine lv_icmp_ge (tgt := 38) hx hb dX3_allQueued_12 (by decide) (fun c1 => ?_) (fun c1 => ?_)
      · have hi : i = N 2 := by
          have := (nI_leI (by omega) (by omega)).mp c1
          omega
        subst hi
        refine lv_iload_n hx hb dX3_allQueued_38 rfl (lv_at hl 1 rfl) ?_
        exact g_iret hx hb hr hlocks hM (Nat.zero_le _) (Nat.zero_le _) ⟨rfl, rfl⟩ dX3_allQueued_39
      · have hi_i : i < N 2 := by
          rcases Nat.lt_or_ge i (N 2) with z | z
          · exact z
          · exact absurd (nI_le z (by omega)) c1
        refine lv_iload_n hx hb dX3_allQueued_15 rfl (lv_at hl 1 rfl) ?_
        refine lv_aload_n hx hb dX3_allQueued_16 rfl (lv_at hl 2 rfl) ?_
        refine fg_X3_21 hx hb hts hown hK hM hL.1 dX3_allQueued_17 ?_
        refine lv_iload_n hx hb dX3_allQueued_20 rfl (lv_at hl 0 rfl) ?_
        refine g_callVq (n9 := 1) (As := [.int (nI i)]) (rest := [.int (sa 0 (fun j => T 2 j 6) i)]) hx hb hml hl.1 hown hts hK hM (c_getL l G _ t (Y.1 2) (N 2) _ _ i _ _ (hL.2.1 2 (by decide)) hi_i) wm_X3_52 wi_Jx4a65c_get_915e3 wl_Jx4a65c_get_915e3 wn_Jx4a65c wc_Jx4a65c_get_915e3 (by decide +kernel) (hM.recv hK (ci := 0) rfl ((hL.2.1 2 (by decide)).1)) ⟨Nat.le_of_ble_eq_true rfl, Nat.le_of_ble_eq_true rfl⟩ ⟨Nat.le_of_ble_eq_true rfl, Nat.le_of_ble_eq_true rfl⟩ rfl (Nat.le_of_ble_eq_true rfl) rfl dX3_allQueued_21 (fun r_21 M1 H locs hq hM => ?_)
        have hq1 := (hq.1.trans (hL.at_g (k := 2) (by decide) hi_i)).symm
        have hq2 := hq.2.symm
        subst hq1 hq2
        refine va_castS (nm := RX5) hx hb hown (hts _ wk_X3_67) (hK.1.1 6 _ rfl).2 (hM.recv hK (ci := 6) rfl (hL.row (k := 2) (by decide) hi_i)) dX3_allQueued_24 ?_
        refine fg_X3_158 hx hb hts hown hK hM (hL.row (k := 2) (by decide) hi_i) dX3_allQueued_27 ?_
        refine lv_iadd hx hb dX3_allQueued_30 ?_
        refine lv_istore_n (lv' := [(1, .int ((sa 0 (fun j => T 2 j 6) i) + (T 2 i 6))), (2, .int (nI i)), (0, .ref h0)]) hx hb dX3_allQueued_31 rfl hl (by decide) rfl (fun ls hl => ?_)
        refine lv_iinc (v := (nI (i + 1))) (lv' := [(2, .int (nI (i + 1))), (1, .int ((sa 0 (fun j => T 2 j 6) i) + (T 2 i 6))), (0, .ref h0)]) hx hb dX3_allQueued_32 hl (k := 1) rfl (nI_1 i) (by decide) rfl (fun ls hl => ?_)
        refine lv_goto (tgt := 4) hx hb dX3_allQueued_35 (by decide) ?_
        have ea1 : sa 0 (fun j => T 2 j 6) (i + 1) = ((sa 0 (fun j => T 2 j 6) i) + (T 2 i 6)) := by first | rfl | (rw [sa_s]; simp only [c1, if_true, if_false, Int32.add_zero]; done) | (rw [sa_s]; simp [c1]; done)
        exact ih (i + 1) (by omega) (by omega) _ _ _ hM (by rw [ea1]; exact lv_sub hl [0, 1, 2] rfl)
  exact L4 (N 2 + 1) 0 (Nat.zero_le _) (by omega) _ _ _ hM (lv_sub hl [0, 1, 2] rfl)
set_option maxHeartbeats 4000000 in
set_option maxRecDepth 100000 in
theorem c_X3_combinesSentTo (l : Launch) (G : GG) (M : HM) (t h0 : Nat) (Y : LY) (N : Nat → Nat) (T : Tb) (tr now price money : Int32) (p0 : Int32) (hL : LdR G M t h0 Y N T tr now price money) : Mi l yX3_combinesSentTo (.code yX3_combinesSentTo cX3_combinesSentTo 4 (some .int) :: AL) 3 64 0 0 [.ref h0, .int p0] G M (fun r M' => r = sa 0 (fun j => if T 1 j 9 = p0 then 1 else 0) (N 1) ∧ M' = M) := by
  refine Mi.go (by decide) (Nat.le_of_ble_eq_true rfl) ?_
  intro p e s m below meth c ls hx hb hr hml hown hlocks hname hts hK hM hl
  have hown : s.vm.findClass RX3 = some m.cls := hown
  have hl : lv_has ls 4 [(0, .ref h0), (1, .int p0)] := hl
  have hN8 := hL.2.2.2.2.2.2.1
  have hn0 := hN8 0
  have hn1 := hN8 1
  have hn2 := hN8 2
  have hn3 := hN8 3
  have hn4 := hN8 4
  refine lv_iconst (v := (0 : Int32)) hx hb dX3_combinesSentTo_0 (by decide) ?_
  refine lv_istore_n (lv' := [(2, .int (0 : Int32)), (0, .ref h0), (1, .int p0)]) hx hb dX3_combinesSentTo_1 rfl hl (by decide) rfl (fun ls hl => ?_)
  refine lv_iconst (v := (0 : Int32)) hx hb dX3_combinesSentTo_2 (by decide) ?_
  refine lv_istore_n (lv' := [(3, .int (0 : Int32)), (2, .int (0 : Int32)), (0, .ref h0), (1, .int p0)]) hx hb dX3_combinesSentTo_3 rfl hl (by decide) rfl (fun ls hl => ?_)
  have L4 : ∀ (n i : Nat), i ≤ N 1 → N 1 - i < n → ∀ (H : Heap) (locs : List Loc) (ls : Array Slot), Wd G M s H locs → lv_has ls 4 [(3, .int (nI i)), (2, .int (sa 0 (fun j => if T 1 j 9 = p0 then 1 else 0) i)), (0, .ref h0), (1, .int p0)] → W p l e ({ frames := 3, cells := 0, slots := 0, locals := 64 } : Room) s m [.ref h0, .int p0].toArray below meth c H locs 0 0 (MQ below (va_Qi (fun r M' => r = sa 0 (fun j => if T 1 j 9 = p0 then 1 else 0) (N 1) ∧ M' = M) (gB G) (gA G)) [.ref h0, .int p0].toArray s 0 0 (gA G)) (F0 m 4 ls []) := by
    intro n
    induction n with
    | zero => intro i h1 h2; omega
    | succ n ih =>
      intro i h1 h2 H locs ls hM hl
      refine lv_iload_n hx hb dX3_combinesSentTo_4 rfl (lv_at hl 0 rfl) ?_
      refine lv_aload_n hx hb dX3_combinesSentTo_5 rfl (lv_at hl 2 rfl) ?_
      refine fg_X3_18 hx hb hts hown hK hM hL.1 dX3_combinesSentTo_6 ?_
      refine g_callVi (n9 := 0) (As := []) (rest := [.int (nI i)]) hx hb hml hl.1 hown hts hK hM (c_Jx4a65c_size_8abf5 l G _ (Y.1 1) t _ _ _ ((hL.2.1 1 (by decide)).1)) wm_X3_48 wi_Jx4a65c_size_8abf5 wl_Jx4a65c_size_8abf5 wn_Jx4a65c wc_Jx4a65c_size_8abf5 (by decide +kernel) (hM.recv hK (ci := 0) rfl ((hL.2.1 1 (by decide)).1)) ⟨Nat.le_of_ble_eq_true rfl, Nat.le_of_ble_eq_true rfl⟩ ⟨Nat.le_of_ble_eq_true rfl, Nat.le_of_ble_eq_true rfl⟩ rfl (Nat.le_of_ble_eq_true rfl) rfl dX3_combinesSentTo_9 (fun r_9 M1 H locs hq hM => ?_)
      have hq1 := hq.1.symm
      have hq2 := hq.2.symm
      subst hq1 hq2
      have hN9 := hL.2.2.2.2.2.2.1
      refine lv_icmp_ge (tgt := 42) hx hb dX3_combinesSentTo_12 (by decide) (fun c1 => ?_) (fun c1 => ?_)
      · have hi : i = N 1 := by
          have := (nI_leI (by omega) (by omega)).mp c1
          omega
        subst hi
        refine lv_iload_n hx hb dX3_combinesSentTo_42 rfl (lv_at hl 1 rfl) ?_
        exact g_iret hx hb hr hlocks hM (Nat.zero_le _) (Nat.zero_le _) ⟨rfl, rfl⟩ dX3_combinesSentTo_43
      · have hi_i : i < N 1 := by
          rcases Nat.lt_or_ge i (N 1) with z | z
          · exact z
          · exact absurd (nI_le z (by omega)) c1
        refine lv_aload_n hx hb dX3_combinesSentTo_15 rfl (lv_at hl 2 rfl) ?_
        refine fg_X3_18 hx hb hts hown hK hM hL.1 dX3_combinesSentTo_16 ?_
        refine lv_iload_n hx hb dX3_combinesSentTo_19 rfl (lv_at hl 0 rfl) ?_
        refine g_callVq (n9 := 1) (As := [.int (nI i)]) (rest := []) hx hb hml hl.1 hown hts hK hM (c_getL l G _ t (Y.1 1) (N 1) _ _ i _ _ (hL.2.1 1 (by decide)) hi_i) wm_X3_52 wi_Jx4a65c_get_915e3 wl_Jx4a65c_get_915e3 wn_Jx4a65c wc_Jx4a65c_get_915e3 (by decide +kernel) (hM.recv hK (ci := 0) rfl ((hL.2.1 1 (by decide)).1)) ⟨Nat.le_of_ble_eq_true rfl, Nat.le_of_ble_eq_true rfl⟩ ⟨Nat.le_of_ble_eq_true rfl, Nat.le_of_ble_eq_true rfl⟩ rfl (Nat.le_of_ble_eq_true rfl) rfl dX3_combinesSentTo_20 (fun r_20 M1 H locs hq hM => ?_)
        have hq1 := (hq.1.trans (hL.at_g (k := 1) (by decide) hi_i)).symm
        have hq2 := hq.2.symm
        subst hq1 hq2
        refine va_castS (nm := RX0) hx hb hown (hts _ wk_X3_62) (hK.1.1 1 _ rfl).2 (hM.recv hK (ci := 1) rfl (hL.row (k := 1) (by decide) hi_i)) dX3_combinesSentTo_23 ?_
        refine fg_X3_102 hx hb hts hown hK hM (hL.row (k := 1) (by decide) hi_i) dX3_combinesSentTo_26 ?_
        refine lv_iload_n hx hb dX3_combinesSentTo_29 rfl (lv_at hl 3 rfl) ?_
        refine lv_icmp_ne (tgt := 36) hx hb dX3_combinesSentTo_30 (by decide) (fun c2 => ?_) (fun c2 => ?_)
        · refine lv_iinc (v := (nI (i + 1))) (lv' := [(3, .int (nI (i + 1))), (2, .int (sa 0 (fun j => if T 1 j 9 = p0 then 1 else 0) i)), (0, .ref h0), (1, .int p0)]) hx hb dX3_combinesSentTo_36 hl (k := 0) rfl (nI_1 i) (by decide) rfl (fun ls hl => ?_)
          refine lv_goto (tgt := 4) hx hb dX3_combinesSentTo_39 (by decide) ?_
          have ea2 : sa 0 (fun j => if T 1 j 9 = p0 then 1 else 0) (i + 1) = (sa 0 (fun j => if T 1 j 9 = p0 then 1 else 0) i) := by first | rfl | (rw [sa_s]; simp only [c1, c2, if_true, if_false, Int32.add_zero]; done) | (rw [sa_s]; simp [c1, c2]; done)
          exact ih (i + 1) (by omega) (by omega) _ _ _ hM (by rw [ea2]; exact lv_sub hl [0, 1, 2, 3] rfl)
        · refine lv_iinc (v := ((sa 0 (fun j => if T 1 j 9 = p0 then 1 else 0) i) + (1 : Int32))) (lv' := [(2, .int ((sa 0 (fun j => if T 1 j 9 = p0 then 1 else 0) i) + (1 : Int32))), (3, .int (nI i)), (0, .ref h0), (1, .int p0)]) hx hb dX3_combinesSentTo_33 hl (k := 1) rfl rfl (by decide) rfl (fun ls hl => ?_)
          refine lv_iinc (v := (nI (i + 1))) (lv' := [(3, .int (nI (i + 1))), (2, .int ((sa 0 (fun j => if T 1 j 9 = p0 then 1 else 0) i) + (1 : Int32))), (0, .ref h0), (1, .int p0)]) hx hb dX3_combinesSentTo_36 hl (k := 1) rfl (nI_1 i) (by decide) rfl (fun ls hl => ?_)
          refine lv_goto (tgt := 4) hx hb dX3_combinesSentTo_39 (by decide) ?_
          have ea2 : sa 0 (fun j => if T 1 j 9 = p0 then 1 else 0) (i + 1) = ((sa 0 (fun j => if T 1 j 9 = p0 then 1 else 0) i) + (1 : Int32)) := by first | rfl | (rw [sa_s]; simp only [c1, c2, if_true, if_false, Int32.add_zero]; done) | (rw [sa_s]; simp [c1, c2]; done)
          exact ih (i + 1) (by omega) (by omega) _ _ _ hM (by rw [ea2]; exact lv_sub hl [0, 1, 2, 3] rfl)
  exact L4 (N 1 + 1) 0 (Nat.zero_le _) (by omega) _ _ _ hM (lv_sub hl [0, 1, 2, 3] rfl)
set_option maxHeartbeats 4000000 in
set_option maxRecDepth 100000 in
theorem c_X3_allOnTheWay (l : Launch) (G : GG) (M : HM) (t h0 : Nat) (Y : LY) (N : Nat → Nat) (T : Tb) (tr now price money : Int32)  (hL : LdR G M t h0 Y N T tr now price money) : Mi l yX3_allOnTheWay (.code yX3_allOnTheWay cX3_allOnTheWay 3 (some .int) :: AL) 3 64 0 0 [.ref h0] G M (fun r M' => r = sa (sa 0 (fun j => T 1 j 3) (N 1)) (fun j => T 2 j 2) (N 2) ∧ M' = M) := by
  refine Mi.go (by decide) (Nat.le_of_ble_eq_true rfl) ?_
  intro p e s m below meth c ls hx hb hr hml hown hlocks hname hts hK hM hl
  have hown : s.vm.findClass RX3 = some m.cls := hown
  have hl : lv_has ls 3 [(0, .ref h0)] := hl
  have hN8 := hL.2.2.2.2.2.2.1
  have hn0 := hN8 0
  have hn1 := hN8 1
  have hn2 := hN8 2
  have hn3 := hN8 3
  have hn4 := hN8 4
  refine lv_iconst (v := (0 : Int32)) hx hb dX3_allOnTheWay_0 (by decide) ?_
  refine lv_istore_n (lv' := [(1, .int (0 : Int32)), (0, .ref h0)]) hx hb dX3_allOnTheWay_1 rfl hl (by decide) rfl (fun ls hl => ?_)
  refine lv_iconst (v := (0 : Int32)) hx hb dX3_allOnTheWay_2 (by decide) ?_
  refine lv_istore_n (lv' := [(2, .int (0 : Int32)), (1, .int (0 : Int32)), (0, .ref h0)]) hx hb dX3_allOnTheWay_3 rfl hl (by decide) rfl (fun ls hl => ?_)
  have L4 : ∀ (n i : Nat), i ≤ N 1 → N 1 - i < n → ∀ (H : Heap) (locs : List Loc) (ls : Array Slot), Wd G M s H locs → lv_has ls 3 [(2, .int (nI i)), (1, .int (sa 0 (fun j => T 1 j 3) i)), (0, .ref h0)] → W p l e ({ frames := 3, cells := 0, slots := 0, locals := 64 } : Room) s m [.ref h0].toArray below meth c H locs 0 0 (MQ below (va_Qi (fun r M' => r = sa (sa 0 (fun j => T 1 j 3) (N 1)) (fun j => T 2 j 2) (N 2) ∧ M' = M) (gB G) (gA G)) [.ref h0].toArray s 0 0 (gA G)) (F0 m 4 ls []) := by
    intro n
    induction n with
    | zero => intro i h1 h2; omega
    | succ n ih =>
      intro i h1 h2 H locs ls hM hl
      refine lv_iload_n hx hb dX3_allOnTheWay_4 rfl (lv_at hl 0 rfl) ?_
      refine lv_aload_n hx hb dX3_allOnTheWay_5 rfl (lv_at hl 2 rfl) ?_
      refine fg_X3_18 hx hb hts hown hK hM hL.1 dX3_allOnTheWay_6 ?_
      refine g_callVi (n9 := 0) (As := []) (rest := [.int (nI i)]) hx hb hml hl.1 hown hts hK hM (c_Jx4a65c_size_8abf5 l G _ (Y.1 1) t _ _ _ ((hL.2.1 1 (by decide)).1)) wm_X3_48 wi_Jx4a65c_size_8abf5 wl_Jx4a65c_size_8abf5 wn_Jx4a65c wc_Jx4a65c_size_8abf5 (by decide +kernel) (hM.recv hK (ci := 0) rfl ((hL.2.1 1 (by decide)).1)) ⟨Nat.le_of_ble_eq_true rfl, Nat.le_of_ble_eq_true rfl⟩ ⟨Nat.le_of_ble_eq_true rfl, Nat.le_of_ble_eq_true rfl⟩ rfl (Nat.le_of_ble_eq_true rfl) rfl dX3_allOnTheWay_9 (fun r_9 M1 H locs hq hM => ?_)
      have hq1 := hq.1.symm
      have hq2 := hq.2.symm
      subst hq1 hq2
      have hN9 := hL.2.2.2.2.2.2.1
      refine lv_icmp_ge (tgt := 38) hx hb dX3_allOnTheWay_12 (by decide) (fun c1 => ?_) (fun c1 => ?_)
      · have hi : i = N 1 := by
          have := (nI_leI (by omega) (by omega)).mp c1
          omega
        subst hi
        refine lv_iconst (v := (0 : Int32)) hx hb dX3_allOnTheWay_38 (by decide) ?_
        refine lv_istore_n (lv' := [(2, .int (0 : Int32)), (1, .int (sa 0 (fun j => T 1 j 3) (N 1))), (0, .ref h0)]) hx hb dX3_allOnTheWay_39 rfl hl (by decide) rfl (fun ls hl => ?_)
        have L40 : ∀ (n j : Nat), j ≤ N 2 → N 2 - j < n → ∀ (H : Heap) (locs : List Loc) (ls : Array Slot), Wd G M s H locs → lv_has ls 3 [(2, .int (nI j)), (1, .int (sa (sa 0 (fun j => T 1 j 3) (N 1)) (fun j => T 2 j 2) j)), (0, .ref h0)] → W p l e ({ frames := 3, cells := 0, slots := 0, locals := 64 } : Room) s m [.ref h0].toArray below meth c H locs 0 0 (MQ below (va_Qi (fun r M' => r = sa (sa 0 (fun j => T 1 j 3) (N 1)) (fun j => T 2 j 2) (N 2) ∧ M' = M) (gB G) (gA G)) [.ref h0].toArray s 0 0 (gA G)) (F0 m 40 ls []) := by
          intro n
          induction n with
          | zero => intro j h1 h2; omega
          | succ n ih =>
            intro j h1 h2 H locs ls hM hl
            refine lv_iload_n hx hb dX3_allOnTheWay_40 rfl (lv_at hl 0 rfl) ?_
            refine lv_aload_n hx hb dX3_allOnTheWay_41 rfl (lv_at hl 2 rfl) ?_
            refine fg_X3_21 hx hb hts hown hK hM hL.1 dX3_allOnTheWay_42 ?_
            refine g_callVi (n9 := 0) (As := []) (rest := [.int (nI j)]) hx hb hml hl.1 hown hts hK hM (c_Jx4a65c_size_8abf5 l G _ (Y.1 2) t _ _ _ ((hL.2.1 2 (by decide)).1)) wm_X3_48 wi_Jx4a65c_size_8abf5 wl_Jx4a65c_size_8abf5 wn_Jx4a65c wc_Jx4a65c_size_8abf5 (by decide +kernel) (hM.recv hK (ci := 0) rfl ((hL.2.1 2 (by decide)).1)) ⟨Nat.le_of_ble_eq_true rfl, Nat.le_of_ble_eq_true rfl⟩ ⟨Nat.le_of_ble_eq_true rfl, Nat.le_of_ble_eq_true rfl⟩ rfl (Nat.le_of_ble_eq_true rfl) rfl dX3_allOnTheWay_45 (fun r_45 M1 H locs hq hM => ?_)
            have hq1 := hq.1.symm
            have hq2 := hq.2.symm
            subst hq1 hq2
            have hN9 := hL.2.2.2.2.2.2.1
            refine lv_icmp_ge (tgt := 74) hx hb dX3_allOnTheWay_48 (by decide) (fun c2 => ?_) (fun c2 => ?_)
            · have hi : j = N 2 := by
                have := (nI_leI (by omega) (by omega)).mp c2
                omega
              subst hi
              refine lv_iload_n hx hb dX3_allOnTheWay_74 rfl (lv_at hl 1 rfl) ?_
              exact g_iret hx hb hr hlocks hM (Nat.zero_le _) (Nat.zero_le _) ⟨rfl, rfl⟩ dX3_allOnTheWay_75
            · have hi_j : j < N 2 := by
                rcases Nat.lt_or_ge j (N 2) with z | z
                · exact z
                · exact absurd (nI_le z (by omega)) c2
              refine lv_iload_n hx hb dX3_allOnTheWay_51 rfl (lv_at hl 1 rfl) ?_
              refine lv_aload_n hx hb dX3_allOnTheWay_52 rfl (lv_at hl 2 rfl) ?_
              refine fg_X3_21 hx hb hts hown hK hM hL.1 dX3_allOnTheWay_53 ?_
              refine lv_iload_n hx hb dX3_allOnTheWay_56 rfl (lv_at hl 0 rfl) ?_
              refine g_callVq (n9 := 1) (As := [.int (nI j)]) (rest := [.int (sa (sa 0 (fun j => T 1 j 3) (N 1)) (fun j => T 2 j 2) j)]) hx hb hml hl.1 hown hts hK hM (c_getL l G _ t (Y.1 2) (N 2) _ _ j _ _ (hL.2.1 2 (by decide)) hi_j) wm_X3_52 wi_Jx4a65c_get_915e3 wl_Jx4a65c_get_915e3 wn_Jx4a65c wc_Jx4a65c_get_915e3 (by decide +kernel) (hM.recv hK (ci := 0) rfl ((hL.2.1 2 (by decide)).1)) ⟨Nat.le_of_ble_eq_true rfl, Nat.le_of_ble_eq_true rfl⟩ ⟨Nat.le_of_ble_eq_true rfl, Nat.le_of_ble_eq_true rfl⟩ rfl (Nat.le_of_ble_eq_true rfl) rfl dX3_allOnTheWay_57 (fun r_57 M1 H locs hq hM => ?_)
              have hq1 := (hq.1.trans (hL.at_g (k := 2) (by decide) hi_j)).symm
              have hq2 := hq.2.symm
              subst hq1 hq2
              refine va_castS (nm := RX5) hx hb hown (hts _ wk_X3_67) (hK.1.1 6 _ rfl).2 (hM.recv hK (ci := 6) rfl (hL.row (k := 2) (by decide) hi_j)) dX3_allOnTheWay_60 ?_
              refine fg_X3_147 hx hb hts hown hK hM (hL.row (k := 2) (by decide) hi_j) dX3_allOnTheWay_63 ?_
              refine lv_iadd hx hb dX3_allOnTheWay_66 ?_
              refine lv_istore_n (lv' := [(1, .int ((sa (sa 0 (fun j => T 1 j 3) (N 1)) (fun j => T 2 j 2) j) + (T 2 j 2))), (2, .int (nI j)), (0, .ref h0)]) hx hb dX3_allOnTheWay_67 rfl hl (by decide) rfl (fun ls hl => ?_)
              refine lv_iinc (v := (nI (j + 1))) (lv' := [(2, .int (nI (j + 1))), (1, .int ((sa (sa 0 (fun j => T 1 j 3) (N 1)) (fun j => T 2 j 2) j) + (T 2 j 2))), (0, .ref h0)]) hx hb dX3_allOnTheWay_68 hl (k := 1) rfl (nI_1 j) (by decide) rfl (fun ls hl => ?_)
              refine lv_goto (tgt := 40) hx hb dX3_allOnTheWay_71 (by decide) ?_
              have ea1 : sa (sa 0 (fun j => T 1 j 3) (N 1)) (fun j => T 2 j 2) (j + 1) = ((sa (sa 0 (fun j => T 1 j 3) (N 1)) (fun j => T 2 j 2) j) + (T 2 j 2)) := by first | rfl | (rw [sa_s]; simp only [c1, c2, if_true, if_false, Int32.add_zero]; done) | (rw [sa_s]; simp [c1, c2]; done)
              exact ih (j + 1) (by omega) (by omega) _ _ _ hM (by rw [ea1]; exact lv_sub hl [0, 1, 2] rfl)
        exact L40 (N 2 + 1) 0 (Nat.zero_le _) (by omega) _ _ _ hM (lv_sub hl [0, 1, 2] rfl)
      · have hi_i : i < N 1 := by
          rcases Nat.lt_or_ge i (N 1) with z | z
          · exact z
          · exact absurd (nI_le z (by omega)) c1
        refine lv_iload_n hx hb dX3_allOnTheWay_15 rfl (lv_at hl 1 rfl) ?_
        refine lv_aload_n hx hb dX3_allOnTheWay_16 rfl (lv_at hl 2 rfl) ?_
        refine fg_X3_18 hx hb hts hown hK hM hL.1 dX3_allOnTheWay_17 ?_
        refine lv_iload_n hx hb dX3_allOnTheWay_20 rfl (lv_at hl 0 rfl) ?_
        refine g_callVq (n9 := 1) (As := [.int (nI i)]) (rest := [.int (sa 0 (fun j => T 1 j 3) i)]) hx hb hml hl.1 hown hts hK hM (c_getL l G _ t (Y.1 1) (N 1) _ _ i _ _ (hL.2.1 1 (by decide)) hi_i) wm_X3_52 wi_Jx4a65c_get_915e3 wl_Jx4a65c_get_915e3 wn_Jx4a65c wc_Jx4a65c_get_915e3 (by decide +kernel) (hM.recv hK (ci := 0) rfl ((hL.2.1 1 (by decide)).1)) ⟨Nat.le_of_ble_eq_true rfl, Nat.le_of_ble_eq_true rfl⟩ ⟨Nat.le_of_ble_eq_true rfl, Nat.le_of_ble_eq_true rfl⟩ rfl (Nat.le_of_ble_eq_true rfl) rfl dX3_allOnTheWay_21 (fun r_21 M1 H locs hq hM => ?_)
        have hq1 := (hq.1.trans (hL.at_g (k := 1) (by decide) hi_i)).symm
        have hq2 := hq.2.symm
        subst hq1 hq2
        refine va_castS (nm := RX0) hx hb hown (hts _ wk_X3_62) (hK.1.1 1 _ rfl).2 (hM.recv hK (ci := 1) rfl (hL.row (k := 1) (by decide) hi_i)) dX3_allOnTheWay_24 ?_
        refine fg_X3_193 hx hb hts hown hK hM (hL.row (k := 1) (by decide) hi_i) dX3_allOnTheWay_27 ?_
        refine lv_iadd hx hb dX3_allOnTheWay_30 ?_
        refine lv_istore_n (lv' := [(1, .int ((sa 0 (fun j => T 1 j 3) i) + (T 1 i 3))), (2, .int (nI i)), (0, .ref h0)]) hx hb dX3_allOnTheWay_31 rfl hl (by decide) rfl (fun ls hl => ?_)
        refine lv_iinc (v := (nI (i + 1))) (lv' := [(2, .int (nI (i + 1))), (1, .int ((sa 0 (fun j => T 1 j 3) i) + (T 1 i 3))), (0, .ref h0)]) hx hb dX3_allOnTheWay_32 hl (k := 1) rfl (nI_1 i) (by decide) rfl (fun ls hl => ?_)
        refine lv_goto (tgt := 4) hx hb dX3_allOnTheWay_35 (by decide) ?_
        have ea1 : sa 0 (fun j => T 1 j 3) (i + 1) = ((sa 0 (fun j => T 1 j 3) i) + (T 1 i 3)) := by first | rfl | (rw [sa_s]; simp only [c1, if_true, if_false, Int32.add_zero]; done) | (rw [sa_s]; simp [c1]; done)
        exact ih (i + 1) (by omega) (by omega) _ _ _ hM (by rw [ea1]; exact lv_sub hl [0, 1, 2] rfl)
  exact L4 (N 1 + 1) 0 (Nat.zero_le _) (by omega) _ _ _ hM (lv_sub hl [0, 1, 2] rfl)
set_option maxHeartbeats 4000000 in
set_option maxRecDepth 100000 in
theorem c_X3_onTheWay (l : Launch) (G : GG) (M : HM) (t h0 : Nat) (Y : LY) (N : Nat → Nat) (T : Tb) (tr now price money : Int32) (p0 : Int32) (hL : LdR G M t h0 Y N T tr now price money) : Mi l yX3_onTheWay (.code yX3_onTheWay cX3_onTheWay 5 (some .int) :: AL) 3 64 0 0 [.ref h0, .int p0] G M (fun r M' => r = sa (sa 0 (fun j => if T 1 j 4 = p0 then T 1 j 3 else 0) (N 1)) (fun j => if T 2 j 3 = p0 then T 2 j 2 else 0) (N 2) ∧ M' = M) := by
  refine Mi.go (by decide) (Nat.le_of_ble_eq_true rfl) ?_
  intro p e s m below meth c ls hx hb hr hml hown hlocks hname hts hK hM hl
  have hown : s.vm.findClass RX3 = some m.cls := hown
  have hl : lv_has ls 5 [(0, .ref h0), (1, .int p0)] := hl
  have hN8 := hL.2.2.2.2.2.2.1
  have hn0 := hN8 0
  have hn1 := hN8 1
  have hn2 := hN8 2
  have hn3 := hN8 3
  have hn4 := hN8 4
  refine lv_iconst (v := (0 : Int32)) hx hb dX3_onTheWay_0 (by decide) ?_
  refine lv_istore_n (lv' := [(2, .int (0 : Int32)), (0, .ref h0), (1, .int p0)]) hx hb dX3_onTheWay_1 rfl hl (by decide) rfl (fun ls hl => ?_)
  refine lv_iconst (v := (0 : Int32)) hx hb dX3_onTheWay_2 (by decide) ?_
  refine lv_istore_n (lv' := [(3, .int (0 : Int32)), (2, .int (0 : Int32)), (0, .ref h0), (1, .int p0)]) hx hb dX3_onTheWay_3 rfl hl (by decide) rfl (fun ls hl => ?_)
  have L4 : ∀ (n i : Nat), i ≤ N 1 → N 1 - i < n → ∀ (H : Heap) (locs : List Loc) (ls : Array Slot), Wd G M s H locs → lv_has ls 5 [(3, .int (nI i)), (2, .int (sa 0 (fun j => if T 1 j 4 = p0 then T 1 j 3 else 0) i)), (0, .ref h0), (1, .int p0)] → W p l e ({ frames := 3, cells := 0, slots := 0, locals := 64 } : Room) s m [.ref h0, .int p0].toArray below meth c H locs 0 0 (MQ below (va_Qi (fun r M' => r = sa (sa 0 (fun j => if T 1 j 4 = p0 then T 1 j 3 else 0) (N 1)) (fun j => if T 2 j 3 = p0 then T 2 j 2 else 0) (N 2) ∧ M' = M) (gB G) (gA G)) [.ref h0, .int p0].toArray s 0 0 (gA G)) (F0 m 4 ls []) := by
    intro n
    induction n with
    | zero => intro i h1 h2; omega
    | succ n ih =>
      intro i h1 h2 H locs ls hM hl
      refine lv_iload_n hx hb dX3_onTheWay_4 rfl (lv_at hl 0 rfl) ?_
      refine lv_aload_n hx hb dX3_onTheWay_5 rfl (lv_at hl 2 rfl) ?_
      refine fg_X3_18 hx hb hts hown hK hM hL.1 dX3_onTheWay_6 ?_
      refine g_callVi (n9 := 0) (As := []) (rest := [.int (nI i)]) hx hb hml hl.1 hown hts hK hM (c_Jx4a65c_size_8abf5 l G _ (Y.1 1) t _ _ _ ((hL.2.1 1 (by decide)).1)) wm_X3_48 wi_Jx4a65c_size_8abf5 wl_Jx4a65c_size_8abf5 wn_Jx4a65c wc_Jx4a65c_size_8abf5 (by decide +kernel) (hM.recv hK (ci := 0) rfl ((hL.2.1 1 (by decide)).1)) ⟨Nat.le_of_ble_eq_true rfl, Nat.le_of_ble_eq_true rfl⟩ ⟨Nat.le_of_ble_eq_true rfl, Nat.le_of_ble_eq_true rfl⟩ rfl (Nat.le_of_ble_eq_true rfl) rfl dX3_onTheWay_9 (fun r_9 M1 H locs hq hM => ?_)
      have hq1 := hq.1.symm
      have hq2 := hq.2.symm
      subst hq1 hq2
      have hN9 := hL.2.2.2.2.2.2.1
      refine lv_icmp_ge (tgt := 55) hx hb dX3_onTheWay_12 (by decide) (fun c1 => ?_) (fun c1 => ?_)
      · have hi : i = N 1 := by
          have := (nI_leI (by omega) (by omega)).mp c1
          omega
        subst hi
        refine lv_iconst (v := (0 : Int32)) hx hb dX3_onTheWay_55 (by decide) ?_
        refine lv_istore_n (lv' := [(3, .int (0 : Int32)), (2, .int (sa 0 (fun j => if T 1 j 4 = p0 then T 1 j 3 else 0) (N 1))), (0, .ref h0), (1, .int p0)]) hx hb dX3_onTheWay_56 rfl hl (by decide) rfl (fun ls hl => ?_)
        have L57 : ∀ (n j : Nat), j ≤ N 2 → N 2 - j < n → ∀ (H : Heap) (locs : List Loc) (ls : Array Slot), Wd G M s H locs → lv_has ls 5 [(3, .int (nI j)), (2, .int (sa (sa 0 (fun j => if T 1 j 4 = p0 then T 1 j 3 else 0) (N 1)) (fun j => if T 2 j 3 = p0 then T 2 j 2 else 0) j)), (0, .ref h0), (1, .int p0)] → W p l e ({ frames := 3, cells := 0, slots := 0, locals := 64 } : Room) s m [.ref h0, .int p0].toArray below meth c H locs 0 0 (MQ below (va_Qi (fun r M' => r = sa (sa 0 (fun j => if T 1 j 4 = p0 then T 1 j 3 else 0) (N 1)) (fun j => if T 2 j 3 = p0 then T 2 j 2 else 0) (N 2) ∧ M' = M) (gB G) (gA G)) [.ref h0, .int p0].toArray s 0 0 (gA G)) (F0 m 57 ls []) := by
          intro n
          induction n with
          | zero => intro j h1 h2; omega
          | succ n ih =>
            intro j h1 h2 H locs ls hM hl
            refine lv_iload_n hx hb dX3_onTheWay_57 rfl (lv_at hl 0 rfl) ?_
            refine lv_aload_n hx hb dX3_onTheWay_58 rfl (lv_at hl 2 rfl) ?_
            refine fg_X3_21 hx hb hts hown hK hM hL.1 dX3_onTheWay_59 ?_
            refine g_callVi (n9 := 0) (As := []) (rest := [.int (nI j)]) hx hb hml hl.1 hown hts hK hM (c_Jx4a65c_size_8abf5 l G _ (Y.1 2) t _ _ _ ((hL.2.1 2 (by decide)).1)) wm_X3_48 wi_Jx4a65c_size_8abf5 wl_Jx4a65c_size_8abf5 wn_Jx4a65c wc_Jx4a65c_size_8abf5 (by decide +kernel) (hM.recv hK (ci := 0) rfl ((hL.2.1 2 (by decide)).1)) ⟨Nat.le_of_ble_eq_true rfl, Nat.le_of_ble_eq_true rfl⟩ ⟨Nat.le_of_ble_eq_true rfl, Nat.le_of_ble_eq_true rfl⟩ rfl (Nat.le_of_ble_eq_true rfl) rfl dX3_onTheWay_62 (fun r_62 M1 H locs hq hM => ?_)
            have hq1 := hq.1.symm
            have hq2 := hq.2.symm
            subst hq1 hq2
            have hN9 := hL.2.2.2.2.2.2.1
            refine lv_icmp_ge (tgt := 108) hx hb dX3_onTheWay_65 (by decide) (fun c2 => ?_) (fun c2 => ?_)
            · have hi : j = N 2 := by
                have := (nI_leI (by omega) (by omega)).mp c2
                omega
              subst hi
              refine lv_iload_n hx hb dX3_onTheWay_108 rfl (lv_at hl 1 rfl) ?_
              exact g_iret hx hb hr hlocks hM (Nat.zero_le _) (Nat.zero_le _) ⟨rfl, rfl⟩ dX3_onTheWay_109
            · have hi_j : j < N 2 := by
                rcases Nat.lt_or_ge j (N 2) with z | z
                · exact z
                · exact absurd (nI_le z (by omega)) c2
              refine lv_aload_n hx hb dX3_onTheWay_68 rfl (lv_at hl 2 rfl) ?_
              refine fg_X3_21 hx hb hts hown hK hM hL.1 dX3_onTheWay_69 ?_
              refine lv_iload_n hx hb dX3_onTheWay_72 rfl (lv_at hl 0 rfl) ?_
              refine g_callVq (n9 := 1) (As := [.int (nI j)]) (rest := []) hx hb hml hl.1 hown hts hK hM (c_getL l G _ t (Y.1 2) (N 2) _ _ j _ _ (hL.2.1 2 (by decide)) hi_j) wm_X3_52 wi_Jx4a65c_get_915e3 wl_Jx4a65c_get_915e3 wn_Jx4a65c wc_Jx4a65c_get_915e3 (by decide +kernel) (hM.recv hK (ci := 0) rfl ((hL.2.1 2 (by decide)).1)) ⟨Nat.le_of_ble_eq_true rfl, Nat.le_of_ble_eq_true rfl⟩ ⟨Nat.le_of_ble_eq_true rfl, Nat.le_of_ble_eq_true rfl⟩ rfl (Nat.le_of_ble_eq_true rfl) rfl dX3_onTheWay_73 (fun r_73 M1 H locs hq hM => ?_)
              have hq1 := (hq.1.trans (hL.at_g (k := 2) (by decide) hi_j)).symm
              have hq2 := hq.2.symm
              subst hq1 hq2
              refine va_castS (nm := RX5) hx hb hown (hts _ wk_X3_67) (hK.1.1 6 _ rfl).2 (hM.recv hK (ci := 6) rfl (hL.row (k := 2) (by decide) hi_j)) dX3_onTheWay_76 ?_
              refine lv_astore (lv' := [(4, .ref (Y.2.2.2.2.2 2 j)), (3, .int (nI j)), (2, .int (sa (sa 0 (fun j => if T 1 j 4 = p0 then T 1 j 3 else 0) (N 1)) (fun j => if T 2 j 3 = p0 then T 2 j 2 else 0) j)), (0, .ref h0), (1, .int p0)]) hx hb dX3_onTheWay_79 hl (by decide) rfl (fun ls hl => ?_)
              refine lv_iload_n hx hb dX3_onTheWay_81 rfl (lv_at hl 2 rfl) ?_
              refine lv_aload hx hb dX3_onTheWay_82 (lv_at hl 0 rfl) ?_
              refine fg_X3_196 hx hb hts hown hK hM (hL.row (k := 2) (by decide) hi_j) dX3_onTheWay_84 ?_
              refine lv_iload_n hx hb dX3_onTheWay_87 rfl (lv_at hl 4 rfl) ?_
              refine lv_icmp_ne (tgt := 99) hx hb dX3_onTheWay_88 (by decide) (fun c3 => ?_) (fun c3 => ?_)
              · refine lv_iconst (v := (0 : Int32)) hx hb dX3_onTheWay_99 (by decide) ?_
                refine lv_iadd hx hb dX3_onTheWay_100 ?_
                refine lv_istore_n (lv' := [(2, .int ((sa (sa 0 (fun j => if T 1 j 4 = p0 then T 1 j 3 else 0) (N 1)) (fun j => if T 2 j 3 = p0 then T 2 j 2 else 0) j) + (0 : Int32))), (4, .ref (Y.2.2.2.2.2 2 j)), (3, .int (nI j)), (0, .ref h0), (1, .int p0)]) hx hb dX3_onTheWay_101 rfl hl (by decide) rfl (fun ls hl => ?_)
                refine lv_iinc (v := (nI (j + 1))) (lv' := [(3, .int (nI (j + 1))), (2, .int ((sa (sa 0 (fun j => if T 1 j 4 = p0 then T 1 j 3 else 0) (N 1)) (fun j => if T 2 j 3 = p0 then T 2 j 2 else 0) j) + (0 : Int32))), (4, .ref (Y.2.2.2.2.2 2 j)), (0, .ref h0), (1, .int p0)]) hx hb dX3_onTheWay_102 hl (k := 2) rfl (nI_1 j) (by decide) rfl (fun ls hl => ?_)
                refine lv_goto (tgt := 57) hx hb dX3_onTheWay_105 (by decide) ?_
                have ea2 : sa (sa 0 (fun j => if T 1 j 4 = p0 then T 1 j 3 else 0) (N 1)) (fun j => if T 2 j 3 = p0 then T 2 j 2 else 0) (j + 1) = ((sa (sa 0 (fun j => if T 1 j 4 = p0 then T 1 j 3 else 0) (N 1)) (fun j => if T 2 j 3 = p0 then T 2 j 2 else 0) j) + (0 : Int32)) := by first | rfl | (rw [sa_s]; simp only [c1, c2, c3, if_true, if_false, Int32.add_zero]; done) | (rw [sa_s]; simp [c1, c2, c3]; done)
                exact ih (j + 1) (by omega) (by omega) _ _ _ hM (by rw [ea2]; exact lv_sub hl [0, 1, 3, 4] rfl)
              · refine lv_aload hx hb dX3_onTheWay_91 (lv_at hl 0 rfl) ?_
                refine fg_X3_147 hx hb hts hown hK hM (hL.row (k := 2) (by decide) hi_j) dX3_onTheWay_93 ?_
                refine lv_goto (tgt := 100) hx hb dX3_onTheWay_96 (by decide) ?_
                refine lv_iadd hx hb dX3_onTheWay_100 ?_
                refine lv_istore_n (lv' := [(2, .int ((sa (sa 0 (fun j => if T 1 j 4 = p0 then T 1 j 3 else 0) (N 1)) (fun j => if T 2 j 3 = p0 then T 2 j 2 else 0) j) + (T 2 j 2))), (4, .ref (Y.2.2.2.2.2 2 j)), (3, .int (nI j)), (0, .ref h0), (1, .int p0)]) hx hb dX3_onTheWay_101 rfl hl (by decide) rfl (fun ls hl => ?_)
                refine lv_iinc (v := (nI (j + 1))) (lv' := [(3, .int (nI (j + 1))), (2, .int ((sa (sa 0 (fun j => if T 1 j 4 = p0 then T 1 j 3 else 0) (N 1)) (fun j => if T 2 j 3 = p0 then T 2 j 2 else 0) j) + (T 2 j 2))), (4, .ref (Y.2.2.2.2.2 2 j)), (0, .ref h0), (1, .int p0)]) hx hb dX3_onTheWay_102 hl (k := 2) rfl (nI_1 j) (by decide) rfl (fun ls hl => ?_)
                refine lv_goto (tgt := 57) hx hb dX3_onTheWay_105 (by decide) ?_
                have ea2 : sa (sa 0 (fun j => if T 1 j 4 = p0 then T 1 j 3 else 0) (N 1)) (fun j => if T 2 j 3 = p0 then T 2 j 2 else 0) (j + 1) = ((sa (sa 0 (fun j => if T 1 j 4 = p0 then T 1 j 3 else 0) (N 1)) (fun j => if T 2 j 3 = p0 then T 2 j 2 else 0) j) + (T 2 j 2)) := by first | rfl | (rw [sa_s]; simp only [c1, c2, c3, if_true, if_false, Int32.add_zero]; done) | (rw [sa_s]; simp [c1, c2, c3]; done)
                exact ih (j + 1) (by omega) (by omega) _ _ _ hM (by rw [ea2]; exact lv_sub hl [0, 1, 3, 4] rfl)
        exact L57 (N 2 + 1) 0 (Nat.zero_le _) (by omega) _ _ _ hM (lv_sub hl [0, 1, 2, 3] rfl)
      · have hi_i : i < N 1 := by
          rcases Nat.lt_or_ge i (N 1) with z | z
          · exact z
          · exact absurd (nI_le z (by omega)) c1
        refine lv_aload_n hx hb dX3_onTheWay_15 rfl (lv_at hl 2 rfl) ?_
        refine fg_X3_18 hx hb hts hown hK hM hL.1 dX3_onTheWay_16 ?_
        refine lv_iload_n hx hb dX3_onTheWay_19 rfl (lv_at hl 0 rfl) ?_
        refine g_callVq (n9 := 1) (As := [.int (nI i)]) (rest := []) hx hb hml hl.1 hown hts hK hM (c_getL l G _ t (Y.1 1) (N 1) _ _ i _ _ (hL.2.1 1 (by decide)) hi_i) wm_X3_52 wi_Jx4a65c_get_915e3 wl_Jx4a65c_get_915e3 wn_Jx4a65c wc_Jx4a65c_get_915e3 (by decide +kernel) (hM.recv hK (ci := 0) rfl ((hL.2.1 1 (by decide)).1)) ⟨Nat.le_of_ble_eq_true rfl, Nat.le_of_ble_eq_true rfl⟩ ⟨Nat.le_of_ble_eq_true rfl, Nat.le_of_ble_eq_true rfl⟩ rfl (Nat.le_of_ble_eq_true rfl) rfl dX3_onTheWay_20 (fun r_20 M1 H locs hq hM => ?_)
        have hq1 := (hq.1.trans (hL.at_g (k := 1) (by decide) hi_i)).symm
        have hq2 := hq.2.symm
        subst hq1 hq2
        refine va_castS (nm := RX0) hx hb hown (hts _ wk_X3_62) (hK.1.1 1 _ rfl).2 (hM.recv hK (ci := 1) rfl (hL.row (k := 1) (by decide) hi_i)) dX3_onTheWay_23 ?_
        refine lv_astore (lv' := [(4, .ref (Y.2.2.2.2.2 1 i)), (3, .int (nI i)), (2, .int (sa 0 (fun j => if T 1 j 4 = p0 then T 1 j 3 else 0) i)), (0, .ref h0), (1, .int p0)]) hx hb dX3_onTheWay_26 hl (by decide) rfl (fun ls hl => ?_)
        refine lv_iload_n hx hb dX3_onTheWay_28 rfl (lv_at hl 2 rfl) ?_
        refine lv_aload hx hb dX3_onTheWay_29 (lv_at hl 0 rfl) ?_
        refine fg_X3_190 hx hb hts hown hK hM (hL.row (k := 1) (by decide) hi_i) dX3_onTheWay_31 ?_
        refine lv_iload_n hx hb dX3_onTheWay_34 rfl (lv_at hl 4 rfl) ?_
        refine lv_icmp_ne (tgt := 46) hx hb dX3_onTheWay_35 (by decide) (fun c4 => ?_) (fun c4 => ?_)
        · refine lv_iconst (v := (0 : Int32)) hx hb dX3_onTheWay_46 (by decide) ?_
          refine lv_iadd hx hb dX3_onTheWay_47 ?_
          refine lv_istore_n (lv' := [(2, .int ((sa 0 (fun j => if T 1 j 4 = p0 then T 1 j 3 else 0) i) + (0 : Int32))), (4, .ref (Y.2.2.2.2.2 1 i)), (3, .int (nI i)), (0, .ref h0), (1, .int p0)]) hx hb dX3_onTheWay_48 rfl hl (by decide) rfl (fun ls hl => ?_)
          refine lv_iinc (v := (nI (i + 1))) (lv' := [(3, .int (nI (i + 1))), (2, .int ((sa 0 (fun j => if T 1 j 4 = p0 then T 1 j 3 else 0) i) + (0 : Int32))), (4, .ref (Y.2.2.2.2.2 1 i)), (0, .ref h0), (1, .int p0)]) hx hb dX3_onTheWay_49 hl (k := 2) rfl (nI_1 i) (by decide) rfl (fun ls hl => ?_)
          refine lv_goto (tgt := 4) hx hb dX3_onTheWay_52 (by decide) ?_
          have ea2 : sa 0 (fun j => if T 1 j 4 = p0 then T 1 j 3 else 0) (i + 1) = ((sa 0 (fun j => if T 1 j 4 = p0 then T 1 j 3 else 0) i) + (0 : Int32)) := by first | rfl | (rw [sa_s]; simp only [c1, c4, if_true, if_false, Int32.add_zero]; done) | (rw [sa_s]; simp [c1, c4]; done)
          exact ih (i + 1) (by omega) (by omega) _ _ _ hM (by rw [ea2]; exact lv_sub hl [0, 1, 3, 4] rfl)
        · refine lv_aload hx hb dX3_onTheWay_38 (lv_at hl 0 rfl) ?_
          refine fg_X3_193 hx hb hts hown hK hM (hL.row (k := 1) (by decide) hi_i) dX3_onTheWay_40 ?_
          refine lv_goto (tgt := 47) hx hb dX3_onTheWay_43 (by decide) ?_
          refine lv_iadd hx hb dX3_onTheWay_47 ?_
          refine lv_istore_n (lv' := [(2, .int ((sa 0 (fun j => if T 1 j 4 = p0 then T 1 j 3 else 0) i) + (T 1 i 3))), (4, .ref (Y.2.2.2.2.2 1 i)), (3, .int (nI i)), (0, .ref h0), (1, .int p0)]) hx hb dX3_onTheWay_48 rfl hl (by decide) rfl (fun ls hl => ?_)
          refine lv_iinc (v := (nI (i + 1))) (lv' := [(3, .int (nI (i + 1))), (2, .int ((sa 0 (fun j => if T 1 j 4 = p0 then T 1 j 3 else 0) i) + (T 1 i 3))), (4, .ref (Y.2.2.2.2.2 1 i)), (0, .ref h0), (1, .int p0)]) hx hb dX3_onTheWay_49 hl (k := 2) rfl (nI_1 i) (by decide) rfl (fun ls hl => ?_)
          refine lv_goto (tgt := 4) hx hb dX3_onTheWay_52 (by decide) ?_
          have ea2 : sa 0 (fun j => if T 1 j 4 = p0 then T 1 j 3 else 0) (i + 1) = ((sa 0 (fun j => if T 1 j 4 = p0 then T 1 j 3 else 0) i) + (T 1 i 3)) := by first | rfl | (rw [sa_s]; simp only [c1, c4, if_true, if_false, Int32.add_zero]; done) | (rw [sa_s]; simp [c1, c4]; done)
          exact ih (i + 1) (by omega) (by omega) _ _ _ hM (by rw [ea2]; exact lv_sub hl [0, 1, 3, 4] rfl)
  exact L4 (N 1 + 1) 0 (Nat.zero_le _) (by omega) _ _ _ hM (lv_sub hl [0, 1, 2, 3] rfl)
def atR (Y : LY) (N : Nat → Nat) (k : Nat) (q : Int32) : Option Nat := if q < 0 then none else if q < nI (N k) then some (Y.2.2.2.2.2 k q.toNatClampNeg) else none
set_option maxHeartbeats 4000000 in
set_option maxRecDepth 100000 in
theorem c_X3_fieldAt (l : Launch) (G : GG) (M : HM) (t h0 : Nat) (Y : LY) (N : Nat → Nat) (T : Tb) (tr now price money : Int32) (p0 : Int32) (hL : LdR G M t h0 Y N T tr now price money) : Mq l yX3_fieldAt (.code yX3_fieldAt cX3_fieldAt 2 (some (.object "WheatRun$Field")) :: AL) 3 64 0 0 [.ref h0, .int p0] G M (fun r M' => r = atR Y N 0 p0 ∧ M' = M) := by
  refine Mq.go (by decide) (Nat.le_of_ble_eq_true rfl) ?_
  intro p e s m below meth c ls hx hb hr hml hown hlocks hname hts hK hM hl
  have hown : s.vm.findClass RX3 = some m.cls := hown
  have hl : lv_has ls 2 [(0, .ref h0), (1, .int p0)] := hl
  have hN8 := hL.2.2.2.2.2.2.1
  have hn0 := hN8 0
  have hn1 := hN8 1
  have hn2 := hN8 2
  have hn3 := hN8 3
  have hn4 := hN8 4
  refine lv_iload_n hx hb dX3_fieldAt_0 rfl (lv_at hl 1 rfl) ?_
  refine lv_if_lt (tgt := 29) hx hb dX3_fieldAt_1 (by decide) (fun c1 => ?_) (fun c1 => ?_)
  · refine lv_null hx hb dX3_fieldAt_29 ?_
    exact g_qret (v := none) hx hb hr (Or.inl ⟨_, rfl⟩) hlocks hM (Nat.zero_le _) (Nat.zero_le _) ⟨by unfold atR; rw [if_pos c1], rfl⟩ dX3_fieldAt_30
  · refine lv_iload_n hx hb dX3_fieldAt_4 rfl (lv_at hl 1 rfl) ?_
    refine lv_aload_n hx hb dX3_fieldAt_5 rfl (lv_at hl 0 rfl) ?_
    refine fg_X3_12 hx hb hts hown hK hM hL.1 dX3_fieldAt_6 ?_
    refine g_callVi (n9 := 0) (As := []) (rest := [.int p0]) hx hb hml hl.1 hown hts hK hM (c_Jx4a65c_size_8abf5 l G _ (Y.1 0) t _ _ _ ((hL.2.1 0 (by decide)).1)) wm_X3_48 wi_Jx4a65c_size_8abf5 wl_Jx4a65c_size_8abf5 wn_Jx4a65c wc_Jx4a65c_size_8abf5 (by decide +kernel) (hM.recv hK (ci := 0) rfl ((hL.2.1 0 (by decide)).1)) ⟨Nat.le_of_ble_eq_true rfl, Nat.le_of_ble_eq_true rfl⟩ ⟨Nat.le_of_ble_eq_true rfl, Nat.le_of_ble_eq_true rfl⟩ rfl (Nat.le_of_ble_eq_true rfl) rfl dX3_fieldAt_9 (fun r_9 M1 H locs hq hM => ?_)
    have hq1 := hq.1.symm
    have hq2 := hq.2.symm
    subst hq1 hq2
    refine lv_icmp_ge (tgt := 29) hx hb dX3_fieldAt_12 (by decide) (fun c2 => ?_) (fun c2 => ?_)
    · refine lv_null hx hb dX3_fieldAt_29 ?_
      exact g_qret (v := none) hx hb hr (Or.inl ⟨_, rfl⟩) hlocks hM (Nat.zero_le _) (Nat.zero_le _) ⟨by unfold atR; rw [if_neg c1, if_neg (Int32.not_lt.mpr c2)], rfl⟩ dX3_fieldAt_30
    · have c2 := Int32.not_le.mp c2
      obtain ⟨j, hj31, hj⟩ := nI_of c1
      subst hj
      have hjN : j < N 0 := (nI_ltI (by omega) (by omega)).mp c2
      refine lv_aload_n hx hb dX3_fieldAt_15 rfl (lv_at hl 0 rfl) ?_
      refine fg_X3_12 hx hb hts hown hK hM hL.1 dX3_fieldAt_16 ?_
      refine lv_iload_n hx hb dX3_fieldAt_19 rfl (lv_at hl 1 rfl) ?_
      refine g_callVq (n9 := 1) (As := [.int (nI j)]) (rest := []) hx hb hml hl.1 hown hts hK hM (c_getL l G _ t (Y.1 0) (N 0) _ _ j _ _ (hL.2.1 0 (by decide)) hjN) wm_X3_52 wi_Jx4a65c_get_915e3 wl_Jx4a65c_get_915e3 wn_Jx4a65c wc_Jx4a65c_get_915e3 (by decide +kernel) (hM.recv hK (ci := 0) rfl ((hL.2.1 0 (by decide)).1)) ⟨Nat.le_of_ble_eq_true rfl, Nat.le_of_ble_eq_true rfl⟩ ⟨Nat.le_of_ble_eq_true rfl, Nat.le_of_ble_eq_true rfl⟩ rfl (Nat.le_of_ble_eq_true rfl) rfl dX3_fieldAt_20 (fun r_20 M1 H locs hq hM => ?_)
      have hq1 := (hq.1.trans (hL.at_g (k := 0) (by decide) hjN)).symm
      have hq2 := hq.2.symm
      subst hq1 hq2
      refine va_castS (nm := RX2) hx hb hown (hts _ wk_X3_56) (hK.1.1 3 _ rfl).2 (hM.recv hK (ci := 3) rfl (hL.row (k := 0) (by decide) hjN)) dX3_fieldAt_23 ?_
      refine lv_goto (tgt := 30) hx hb dX3_fieldAt_26 (by decide) ?_
      exact g_qret (v := (some (Y.2.2.2.2.2 0 j))) hx hb hr (Or.inl ⟨_, rfl⟩) hlocks hM (Nat.zero_le _) (Nat.zero_le _) ⟨by unfold atR; rw [if_neg c1, if_pos c2, nI_clamp (by omega)], rfl⟩ dX3_fieldAt_30
set_option maxHeartbeats 4000000 in
set_option maxRecDepth 100000 in
theorem c_X3_combineAt (l : Launch) (G : GG) (M : HM) (t h0 : Nat) (Y : LY) (N : Nat → Nat) (T : Tb) (tr now price money : Int32) (p0 : Int32) (hL : LdR G M t h0 Y N T tr now price money) : Mq l yX3_combineAt (.code yX3_combineAt cX3_combineAt 2 (some (.object "WheatRun$Combine")) :: AL) 3 64 0 0 [.ref h0, .int p0] G M (fun r M' => r = atR Y N 1 p0 ∧ M' = M) := by
  refine Mq.go (by decide) (Nat.le_of_ble_eq_true rfl) ?_
  intro p e s m below meth c ls hx hb hr hml hown hlocks hname hts hK hM hl
  have hown : s.vm.findClass RX3 = some m.cls := hown
  have hl : lv_has ls 2 [(0, .ref h0), (1, .int p0)] := hl
  have hN8 := hL.2.2.2.2.2.2.1
  have hn0 := hN8 0
  have hn1 := hN8 1
  have hn2 := hN8 2
  have hn3 := hN8 3
  have hn4 := hN8 4
  refine lv_iload_n hx hb dX3_combineAt_0 rfl (lv_at hl 1 rfl) ?_
  refine lv_if_lt (tgt := 29) hx hb dX3_combineAt_1 (by decide) (fun c1 => ?_) (fun c1 => ?_)
  · refine lv_null hx hb dX3_combineAt_29 ?_
    exact g_qret (v := none) hx hb hr (Or.inl ⟨_, rfl⟩) hlocks hM (Nat.zero_le _) (Nat.zero_le _) ⟨by unfold atR; rw [if_pos c1], rfl⟩ dX3_combineAt_30
  · refine lv_iload_n hx hb dX3_combineAt_4 rfl (lv_at hl 1 rfl) ?_
    refine lv_aload_n hx hb dX3_combineAt_5 rfl (lv_at hl 0 rfl) ?_
    refine fg_X3_18 hx hb hts hown hK hM hL.1 dX3_combineAt_6 ?_
    refine g_callVi (n9 := 0) (As := []) (rest := [.int p0]) hx hb hml hl.1 hown hts hK hM (c_Jx4a65c_size_8abf5 l G _ (Y.1 1) t _ _ _ ((hL.2.1 1 (by decide)).1)) wm_X3_48 wi_Jx4a65c_size_8abf5 wl_Jx4a65c_size_8abf5 wn_Jx4a65c wc_Jx4a65c_size_8abf5 (by decide +kernel) (hM.recv hK (ci := 0) rfl ((hL.2.1 1 (by decide)).1)) ⟨Nat.le_of_ble_eq_true rfl, Nat.le_of_ble_eq_true rfl⟩ ⟨Nat.le_of_ble_eq_true rfl, Nat.le_of_ble_eq_true rfl⟩ rfl (Nat.le_of_ble_eq_true rfl) rfl dX3_combineAt_9 (fun r_9 M1 H locs hq hM => ?_)
    have hq1 := hq.1.symm
    have hq2 := hq.2.symm
    subst hq1 hq2
    refine lv_icmp_ge (tgt := 29) hx hb dX3_combineAt_12 (by decide) (fun c2 => ?_) (fun c2 => ?_)
    · refine lv_null hx hb dX3_combineAt_29 ?_
      exact g_qret (v := none) hx hb hr (Or.inl ⟨_, rfl⟩) hlocks hM (Nat.zero_le _) (Nat.zero_le _) ⟨by unfold atR; rw [if_neg c1, if_neg (Int32.not_lt.mpr c2)], rfl⟩ dX3_combineAt_30
    · have c2 := Int32.not_le.mp c2
      obtain ⟨j, hj31, hj⟩ := nI_of c1
      subst hj
      have hjN : j < N 1 := (nI_ltI (by omega) (by omega)).mp c2
      refine lv_aload_n hx hb dX3_combineAt_15 rfl (lv_at hl 0 rfl) ?_
      refine fg_X3_18 hx hb hts hown hK hM hL.1 dX3_combineAt_16 ?_
      refine lv_iload_n hx hb dX3_combineAt_19 rfl (lv_at hl 1 rfl) ?_
      refine g_callVq (n9 := 1) (As := [.int (nI j)]) (rest := []) hx hb hml hl.1 hown hts hK hM (c_getL l G _ t (Y.1 1) (N 1) _ _ j _ _ (hL.2.1 1 (by decide)) hjN) wm_X3_52 wi_Jx4a65c_get_915e3 wl_Jx4a65c_get_915e3 wn_Jx4a65c wc_Jx4a65c_get_915e3 (by decide +kernel) (hM.recv hK (ci := 0) rfl ((hL.2.1 1 (by decide)).1)) ⟨Nat.le_of_ble_eq_true rfl, Nat.le_of_ble_eq_true rfl⟩ ⟨Nat.le_of_ble_eq_true rfl, Nat.le_of_ble_eq_true rfl⟩ rfl (Nat.le_of_ble_eq_true rfl) rfl dX3_combineAt_20 (fun r_20 M1 H locs hq hM => ?_)
      have hq1 := (hq.1.trans (hL.at_g (k := 1) (by decide) hjN)).symm
      have hq2 := hq.2.symm
      subst hq1 hq2
      refine va_castS (nm := RX0) hx hb hown (hts _ wk_X3_62) (hK.1.1 1 _ rfl).2 (hM.recv hK (ci := 1) rfl (hL.row (k := 1) (by decide) hjN)) dX3_combineAt_23 ?_
      refine lv_goto (tgt := 30) hx hb dX3_combineAt_26 (by decide) ?_
      exact g_qret (v := (some (Y.2.2.2.2.2 1 j))) hx hb hr (Or.inl ⟨_, rfl⟩) hlocks hM (Nat.zero_le _) (Nat.zero_le _) ⟨by unfold atR; rw [if_neg c1, if_pos c2, nI_clamp (by omega)], rfl⟩ dX3_combineAt_30
set_option maxHeartbeats 4000000 in
set_option maxRecDepth 100000 in
theorem c_X3_truckAt (l : Launch) (G : GG) (M : HM) (t h0 : Nat) (Y : LY) (N : Nat → Nat) (T : Tb) (tr now price money : Int32) (p0 : Int32) (hL : LdR G M t h0 Y N T tr now price money) : Mq l yX3_truckAt (.code yX3_truckAt cX3_truckAt 2 (some (.object "WheatRun$Truck")) :: AL) 3 64 0 0 [.ref h0, .int p0] G M (fun r M' => r = atR Y N 2 p0 ∧ M' = M) := by
  refine Mq.go (by decide) (Nat.le_of_ble_eq_true rfl) ?_
  intro p e s m below meth c ls hx hb hr hml hown hlocks hname hts hK hM hl
  have hown : s.vm.findClass RX3 = some m.cls := hown
  have hl : lv_has ls 2 [(0, .ref h0), (1, .int p0)] := hl
  have hN8 := hL.2.2.2.2.2.2.1
  have hn0 := hN8 0
  have hn1 := hN8 1
  have hn2 := hN8 2
  have hn3 := hN8 3
  have hn4 := hN8 4
  refine lv_iload_n hx hb dX3_truckAt_0 rfl (lv_at hl 1 rfl) ?_
  refine lv_if_lt (tgt := 29) hx hb dX3_truckAt_1 (by decide) (fun c1 => ?_) (fun c1 => ?_)
  · refine lv_null hx hb dX3_truckAt_29 ?_
    exact g_qret (v := none) hx hb hr (Or.inl ⟨_, rfl⟩) hlocks hM (Nat.zero_le _) (Nat.zero_le _) ⟨by unfold atR; rw [if_pos c1], rfl⟩ dX3_truckAt_30
  · refine lv_iload_n hx hb dX3_truckAt_4 rfl (lv_at hl 1 rfl) ?_
    refine lv_aload_n hx hb dX3_truckAt_5 rfl (lv_at hl 0 rfl) ?_
    refine fg_X3_21 hx hb hts hown hK hM hL.1 dX3_truckAt_6 ?_
    refine g_callVi (n9 := 0) (As := []) (rest := [.int p0]) hx hb hml hl.1 hown hts hK hM (c_Jx4a65c_size_8abf5 l G _ (Y.1 2) t _ _ _ ((hL.2.1 2 (by decide)).1)) wm_X3_48 wi_Jx4a65c_size_8abf5 wl_Jx4a65c_size_8abf5 wn_Jx4a65c wc_Jx4a65c_size_8abf5 (by decide +kernel) (hM.recv hK (ci := 0) rfl ((hL.2.1 2 (by decide)).1)) ⟨Nat.le_of_ble_eq_true rfl, Nat.le_of_ble_eq_true rfl⟩ ⟨Nat.le_of_ble_eq_true rfl, Nat.le_of_ble_eq_true rfl⟩ rfl (Nat.le_of_ble_eq_true rfl) rfl dX3_truckAt_9 (fun r_9 M1 H locs hq hM => ?_)
    have hq1 := hq.1.symm
    have hq2 := hq.2.symm
    subst hq1 hq2
    refine lv_icmp_ge (tgt := 29) hx hb dX3_truckAt_12 (by decide) (fun c2 => ?_) (fun c2 => ?_)
    · refine lv_null hx hb dX3_truckAt_29 ?_
      exact g_qret (v := none) hx hb hr (Or.inl ⟨_, rfl⟩) hlocks hM (Nat.zero_le _) (Nat.zero_le _) ⟨by unfold atR; rw [if_neg c1, if_neg (Int32.not_lt.mpr c2)], rfl⟩ dX3_truckAt_30
    · have c2 := Int32.not_le.mp c2
      obtain ⟨j, hj31, hj⟩ := nI_of c1
      subst hj
      have hjN : j < N 2 := (nI_ltI (by omega) (by omega)).mp c2
      refine lv_aload_n hx hb dX3_truckAt_15 rfl (lv_at hl 0 rfl) ?_
      refine fg_X3_21 hx hb hts hown hK hM hL.1 dX3_truckAt_16 ?_
      refine lv_iload_n hx hb dX3_truckAt_19 rfl (lv_at hl 1 rfl) ?_
      refine g_callVq (n9 := 1) (As := [.int (nI j)]) (rest := []) hx hb hml hl.1 hown hts hK hM (c_getL l G _ t (Y.1 2) (N 2) _ _ j _ _ (hL.2.1 2 (by decide)) hjN) wm_X3_52 wi_Jx4a65c_get_915e3 wl_Jx4a65c_get_915e3 wn_Jx4a65c wc_Jx4a65c_get_915e3 (by decide +kernel) (hM.recv hK (ci := 0) rfl ((hL.2.1 2 (by decide)).1)) ⟨Nat.le_of_ble_eq_true rfl, Nat.le_of_ble_eq_true rfl⟩ ⟨Nat.le_of_ble_eq_true rfl, Nat.le_of_ble_eq_true rfl⟩ rfl (Nat.le_of_ble_eq_true rfl) rfl dX3_truckAt_20 (fun r_20 M1 H locs hq hM => ?_)
      have hq1 := (hq.1.trans (hL.at_g (k := 2) (by decide) hjN)).symm
      have hq2 := hq.2.symm
      subst hq1 hq2
      refine va_castS (nm := RX5) hx hb hown (hts _ wk_X3_67) (hK.1.1 6 _ rfl).2 (hM.recv hK (ci := 6) rfl (hL.row (k := 2) (by decide) hjN)) dX3_truckAt_23 ?_
      refine lv_goto (tgt := 30) hx hb dX3_truckAt_26 (by decide) ?_
      exact g_qret (v := (some (Y.2.2.2.2.2 2 j))) hx hb hr (Or.inl ⟨_, rfl⟩) hlocks hM (Nat.zero_le _) (Nat.zero_le _) ⟨by unfold atR; rw [if_neg c1, if_pos c2, nI_clamp (by omega)], rfl⟩ dX3_truckAt_30
set_option maxHeartbeats 4000000 in
set_option maxRecDepth 100000 in
theorem c_X3_elevatorAt (l : Launch) (G : GG) (M : HM) (t h0 : Nat) (Y : LY) (N : Nat → Nat) (T : Tb) (tr now price money : Int32) (p0 : Int32) (hL : LdR G M t h0 Y N T tr now price money) : Mq l yX3_elevatorAt (.code yX3_elevatorAt cX3_elevatorAt 2 (some (.object "WheatRun$Elevator")) :: AL) 3 64 0 0 [.ref h0, .int p0] G M (fun r M' => r = atR Y N 3 p0 ∧ M' = M) := by
  refine Mq.go (by decide) (Nat.le_of_ble_eq_true rfl) ?_
  intro p e s m below meth c ls hx hb hr hml hown hlocks hname hts hK hM hl
  have hown : s.vm.findClass RX3 = some m.cls := hown
  have hl : lv_has ls 2 [(0, .ref h0), (1, .int p0)] := hl
  have hN8 := hL.2.2.2.2.2.2.1
  have hn0 := hN8 0
  have hn1 := hN8 1
  have hn2 := hN8 2
  have hn3 := hN8 3
  have hn4 := hN8 4
  refine lv_iload_n hx hb dX3_elevatorAt_0 rfl (lv_at hl 1 rfl) ?_
  refine lv_if_lt (tgt := 29) hx hb dX3_elevatorAt_1 (by decide) (fun c1 => ?_) (fun c1 => ?_)
  · refine lv_null hx hb dX3_elevatorAt_29 ?_
    exact g_qret (v := none) hx hb hr (Or.inl ⟨_, rfl⟩) hlocks hM (Nat.zero_le _) (Nat.zero_le _) ⟨by unfold atR; rw [if_pos c1], rfl⟩ dX3_elevatorAt_30
  · refine lv_iload_n hx hb dX3_elevatorAt_4 rfl (lv_at hl 1 rfl) ?_
    refine lv_aload_n hx hb dX3_elevatorAt_5 rfl (lv_at hl 0 rfl) ?_
    refine fg_X3_24 hx hb hts hown hK hM hL.1 dX3_elevatorAt_6 ?_
    refine g_callVi (n9 := 0) (As := []) (rest := [.int p0]) hx hb hml hl.1 hown hts hK hM (c_Jx4a65c_size_8abf5 l G _ (Y.1 3) t _ _ _ ((hL.2.1 3 (by decide)).1)) wm_X3_48 wi_Jx4a65c_size_8abf5 wl_Jx4a65c_size_8abf5 wn_Jx4a65c wc_Jx4a65c_size_8abf5 (by decide +kernel) (hM.recv hK (ci := 0) rfl ((hL.2.1 3 (by decide)).1)) ⟨Nat.le_of_ble_eq_true rfl, Nat.le_of_ble_eq_true rfl⟩ ⟨Nat.le_of_ble_eq_true rfl, Nat.le_of_ble_eq_true rfl⟩ rfl (Nat.le_of_ble_eq_true rfl) rfl dX3_elevatorAt_9 (fun r_9 M1 H locs hq hM => ?_)
    have hq1 := hq.1.symm
    have hq2 := hq.2.symm
    subst hq1 hq2
    refine lv_icmp_ge (tgt := 29) hx hb dX3_elevatorAt_12 (by decide) (fun c2 => ?_) (fun c2 => ?_)
    · refine lv_null hx hb dX3_elevatorAt_29 ?_
      exact g_qret (v := none) hx hb hr (Or.inl ⟨_, rfl⟩) hlocks hM (Nat.zero_le _) (Nat.zero_le _) ⟨by unfold atR; rw [if_neg c1, if_neg (Int32.not_lt.mpr c2)], rfl⟩ dX3_elevatorAt_30
    · have c2 := Int32.not_le.mp c2
      obtain ⟨j, hj31, hj⟩ := nI_of c1
      subst hj
      have hjN : j < N 3 := (nI_ltI (by omega) (by omega)).mp c2
      refine lv_aload_n hx hb dX3_elevatorAt_15 rfl (lv_at hl 0 rfl) ?_
      refine fg_X3_24 hx hb hts hown hK hM hL.1 dX3_elevatorAt_16 ?_
      refine lv_iload_n hx hb dX3_elevatorAt_19 rfl (lv_at hl 1 rfl) ?_
      refine g_callVq (n9 := 1) (As := [.int (nI j)]) (rest := []) hx hb hml hl.1 hown hts hK hM (c_getL l G _ t (Y.1 3) (N 3) _ _ j _ _ (hL.2.1 3 (by decide)) hjN) wm_X3_52 wi_Jx4a65c_get_915e3 wl_Jx4a65c_get_915e3 wn_Jx4a65c wc_Jx4a65c_get_915e3 (by decide +kernel) (hM.recv hK (ci := 0) rfl ((hL.2.1 3 (by decide)).1)) ⟨Nat.le_of_ble_eq_true rfl, Nat.le_of_ble_eq_true rfl⟩ ⟨Nat.le_of_ble_eq_true rfl, Nat.le_of_ble_eq_true rfl⟩ rfl (Nat.le_of_ble_eq_true rfl) rfl dX3_elevatorAt_20 (fun r_20 M1 H locs hq hM => ?_)
      have hq1 := (hq.1.trans (hL.at_g (k := 3) (by decide) hjN)).symm
      have hq2 := hq.2.symm
      subst hq1 hq2
      refine va_castS (nm := RX1) hx hb hown (hts _ wk_X3_72) (hK.1.1 2 _ rfl).2 (hM.recv hK (ci := 2) rfl (hL.row (k := 3) (by decide) hjN)) dX3_elevatorAt_23 ?_
      refine lv_goto (tgt := 30) hx hb dX3_elevatorAt_26 (by decide) ?_
      exact g_qret (v := (some (Y.2.2.2.2.2 3 j))) hx hb hr (Or.inl ⟨_, rfl⟩) hlocks hM (Nat.zero_le _) (Nat.zero_le _) ⟨by unfold atR; rw [if_neg c1, if_pos c2, nI_clamp (by omega)], rfl⟩ dX3_elevatorAt_30
set_option maxHeartbeats 4000000 in
set_option maxRecDepth 100000 in
theorem c_X3_ticketAt (l : Launch) (G : GG) (M : HM) (t h0 : Nat) (Y : LY) (N : Nat → Nat) (T : Tb) (tr now price money : Int32) (p0 : Int32) (hL : LdR G M t h0 Y N T tr now price money) : Mq l yX3_ticketAt (.code yX3_ticketAt cX3_ticketAt 2 (some (.object "WheatRun$Ticket")) :: AL) 3 64 0 0 [.ref h0, .int p0] G M (fun r M' => r = atR Y N 4 p0 ∧ M' = M) := by
  refine Mq.go (by decide) (Nat.le_of_ble_eq_true rfl) ?_
  intro p e s m below meth c ls hx hb hr hml hown hlocks hname hts hK hM hl
  have hown : s.vm.findClass RX3 = some m.cls := hown
  have hl : lv_has ls 2 [(0, .ref h0), (1, .int p0)] := hl
  have hN8 := hL.2.2.2.2.2.2.1
  have hn0 := hN8 0
  have hn1 := hN8 1
  have hn2 := hN8 2
  have hn3 := hN8 3
  have hn4 := hN8 4
  refine lv_iload_n hx hb dX3_ticketAt_0 rfl (lv_at hl 1 rfl) ?_
  refine lv_if_lt (tgt := 29) hx hb dX3_ticketAt_1 (by decide) (fun c1 => ?_) (fun c1 => ?_)
  · refine lv_null hx hb dX3_ticketAt_29 ?_
    exact g_qret (v := none) hx hb hr (Or.inl ⟨_, rfl⟩) hlocks hM (Nat.zero_le _) (Nat.zero_le _) ⟨by unfold atR; rw [if_pos c1], rfl⟩ dX3_ticketAt_30
  · refine lv_iload_n hx hb dX3_ticketAt_4 rfl (lv_at hl 1 rfl) ?_
    refine lv_aload_n hx hb dX3_ticketAt_5 rfl (lv_at hl 0 rfl) ?_
    refine fg_X3_27 hx hb hts hown hK hM hL.1 dX3_ticketAt_6 ?_
    refine g_callVi (n9 := 0) (As := []) (rest := [.int p0]) hx hb hml hl.1 hown hts hK hM (c_Jx4a65c_size_8abf5 l G _ (Y.1 4) t _ _ _ ((hL.2.1 4 (by decide)).1)) wm_X3_48 wi_Jx4a65c_size_8abf5 wl_Jx4a65c_size_8abf5 wn_Jx4a65c wc_Jx4a65c_size_8abf5 (by decide +kernel) (hM.recv hK (ci := 0) rfl ((hL.2.1 4 (by decide)).1)) ⟨Nat.le_of_ble_eq_true rfl, Nat.le_of_ble_eq_true rfl⟩ ⟨Nat.le_of_ble_eq_true rfl, Nat.le_of_ble_eq_true rfl⟩ rfl (Nat.le_of_ble_eq_true rfl) rfl dX3_ticketAt_9 (fun r_9 M1 H locs hq hM => ?_)
    have hq1 := hq.1.symm
    have hq2 := hq.2.symm
    subst hq1 hq2
    refine lv_icmp_ge (tgt := 29) hx hb dX3_ticketAt_12 (by decide) (fun c2 => ?_) (fun c2 => ?_)
    · refine lv_null hx hb dX3_ticketAt_29 ?_
      exact g_qret (v := none) hx hb hr (Or.inl ⟨_, rfl⟩) hlocks hM (Nat.zero_le _) (Nat.zero_le _) ⟨by unfold atR; rw [if_neg c1, if_neg (Int32.not_lt.mpr c2)], rfl⟩ dX3_ticketAt_30
    · have c2 := Int32.not_le.mp c2
      obtain ⟨j, hj31, hj⟩ := nI_of c1
      subst hj
      have hjN : j < N 4 := (nI_ltI (by omega) (by omega)).mp c2
      refine lv_aload_n hx hb dX3_ticketAt_15 rfl (lv_at hl 0 rfl) ?_
      refine fg_X3_27 hx hb hts hown hK hM hL.1 dX3_ticketAt_16 ?_
      refine lv_iload_n hx hb dX3_ticketAt_19 rfl (lv_at hl 1 rfl) ?_
      refine g_callVq (n9 := 1) (As := [.int (nI j)]) (rest := []) hx hb hml hl.1 hown hts hK hM (c_getL l G _ t (Y.1 4) (N 4) _ _ j _ _ (hL.2.1 4 (by decide)) hjN) wm_X3_52 wi_Jx4a65c_get_915e3 wl_Jx4a65c_get_915e3 wn_Jx4a65c wc_Jx4a65c_get_915e3 (by decide +kernel) (hM.recv hK (ci := 0) rfl ((hL.2.1 4 (by decide)).1)) ⟨Nat.le_of_ble_eq_true rfl, Nat.le_of_ble_eq_true rfl⟩ ⟨Nat.le_of_ble_eq_true rfl, Nat.le_of_ble_eq_true rfl⟩ rfl (Nat.le_of_ble_eq_true rfl) rfl dX3_ticketAt_20 (fun r_20 M1 H locs hq hM => ?_)
      have hq1 := (hq.1.trans (hL.at_g (k := 4) (by decide) hjN)).symm
      have hq2 := hq.2.symm
      subst hq1 hq2
      refine va_castS (nm := RX4) hx hb hown (hts _ wk_X3_93) (hK.1.1 5 _ rfl).2 (hM.recv hK (ci := 5) rfl (hL.row (k := 4) (by decide) hjN)) dX3_ticketAt_23 ?_
      refine lv_goto (tgt := 30) hx hb dX3_ticketAt_26 (by decide) ?_
      exact g_qret (v := (some (Y.2.2.2.2.2 4 j))) hx hb hr (Or.inl ⟨_, rfl⟩) hlocks hM (Nat.zero_le _) (Nat.zero_le _) ⟨by unfold atR; rw [if_neg c1, if_pos c2, nI_clamp (by omega)], rfl⟩ dX3_ticketAt_30
def clk (x : Int32) : Int32 := x - x / 24 * 24
set_option maxHeartbeats 4000000 in
set_option maxRecDepth 100000 in
theorem c_X3_clock (l : Launch) (G : GG) (M : HM) (t h0 : Nat) (Y : LY) (N : Nat → Nat) (T : Tb) (tr now price money : Int32)  (hL : LdR G M t h0 Y N T tr now price money) : Mi l yX3_clock (.code yX3_clock cX3_clock 1 (some .int) :: AL) 0 0 0 0 [.ref h0] G M (fun r M' => r = clk now ∧ M' = M) := by
  refine Mi.go (by decide) (Nat.le_of_ble_eq_true rfl) ?_
  intro p e s m below meth c ls hx hb hr hml hown hlocks hname hts hK hM hl
  have hown : s.vm.findClass RX3 = some m.cls := hown
  have hl : lv_has ls 1 [(0, .ref h0)] := hl
  refine lv_aload_n hx hb dX3_clock_0 rfl (lv_at hl 0 rfl) ?_
  refine fg_X3_41 hx hb hts hown hK hM hL.1 dX3_clock_1 ?_
  refine lv_bipush (v := (24 : Int32)) hx hb dX3_clock_4 (by decide) ?_
  refine lv_irem hx hb dX3_clock_6 (by decide) ?_
  exact g_iret hx hb hr hlocks hM (Nat.zero_le _) (Nat.zero_le _) ⟨rfl, rfl⟩ dX3_clock_7
